/-! the law: its functions of numbers -/
theorem and31 (x : Int32) : x &&& 2147483647 = nI (x.toBitVec.toNat % 2 ^ 31) := pk_and x 31 (by decide)
abbrev rm_L_from : Room := { frames := 1, cells := 0, slots := 0, locals := 50 }
theorem nm_L_from : gNm yL_from 3 := ⟨by decide +kernel, by decide +kernel, by decide +kernel⟩
set_option maxHeartbeats 4000000 in
set_option maxRecDepth 100000 in
theorem c_L_from (l : Launch) (D : va_G) (tc : Nat → ClassId) (A : Nat → Prop) (w : gW) (b L : Nat) (xs : Nat → Int32) (k N : Nat) (hL : L ≤ 260) (hk : k < 1000) (hN : 0 < N) (hN2 : N ≤ 1000000000) : gMs l yL_from cL_from 4 (some .int) rm_L_from D tc A b L xs [.ref b, .int (nI k), .int (nI N)] w (fun v w' => w' = w ∧ ∃ q, q < N ∧ v = some (.int (nI q))) := by
  refine gMs_of (by decide +kernel) (Nat.le_of_ble_eq_true rfl) ?_
  intro p e s m args below meth c ls Q hQ hE hX hbl hbA hG hr hnt hl
  have hx := hE.1
  have hb := hE.2.1
  have hl : lv_has ls 4 [(0, .ref b), (1, .int (nI k)), (2, .int (nI N))] := hl
  have hj : ∀ v : Int32, W p l e rm_L_from s m args below meth c s.heap [] 0 0 Q (F0 m 27 ls [.int v]) := by
    intro v
    refine lv_istore_n (lv' := [(3, .int v), (0, .ref b), (1, .int (nI k)), (2, .int (nI N))]) hx hb dL_from_27 rfl hl (by decide) rfl (fun ls hl => ?_)
    refine lv_iload_n hx hb dL_from_28 rfl (lv_at hl 0 rfl) ?_
    refine lv_ldc (v := 2147483647) hx hb hE.2.2.2.1 (hE.2.2.2.2.1 _ mw1_214) dL_from_29 ?_
    refine lv_iand hx hb dL_from_31 ?_
    rw [and31]
    refine lv_iload_n hx hb dL_from_32 rfl (lv_at hl 3 rfl) ?_
    refine lv_irem hx hb dL_from_33 (nI_ne0 hN (by omega)) ?_
    rw [pk_rem (Nat.mod_lt _ (by decide)) hN (by omega)]
    subst hQ
    exact g_iret hE hG hr (Nat.le_of_ble_eq_true rfl) (Nat.le_of_ble_eq_true rfl) dL_from_34 ⟨rfl, _, Nat.mod_lt _ hN, rfl⟩
  refine lv_aload_n hx hb dL_from_0 rfl (lv_at hl 0 rfl) ?_
  refine va_slen hx hb hX hbl hbA hG.2.2 dL_from_1 ?_
  refine lv_if_ne (tgt := 16) hx hb dL_from_2 (by decide) (fun c_1 => ?_) (fun c_1 => ?_)
  · skip
    have hL0 : 0 < L := Nat.pos_of_ne_zero (fun h0 => c_1 (by subst h0; rfl))
    refine lv_aload_n hx hb dL_from_16 rfl (lv_at hl 0 rfl) ?_
    refine lv_iload_n hx hb dL_from_17 rfl (lv_at hl 1 rfl) ?_
    refine lv_aload_n hx hb dL_from_18 rfl (lv_at hl 0 rfl) ?_
    refine va_slen hx hb hX hbl hbA hG.2.2 dL_from_19 ?_
    show W p l e _ s m args below meth c _ _ _ _ _ (F0 m 20 ls [.int (nI L), .int (nI k), .ref b])
    refine lv_irem hx hb dL_from_20 (nI_ne0 hL0 (by omega)) ?_
    rw [pk_rem (by omega) hL0 (by omega)]
    refine va_sld (xs := xs) hx hb hX hbl hbA hG.2.2 (vp_in_nI (Nat.mod_lt _ hL0) (by omega)) dL_from_21 ?_
    refine lv_ldc (v := 514229) hx hb hE.2.2.2.1 (hE.2.2.2.2.1 _ mw1_213) dL_from_22 ?_
    refine lv_iload_n hx hb dL_from_24 rfl (lv_at hl 1 rfl) ?_
    refine lv_imul hx hb dL_from_25 ?_
    refine lv_ixor hx hb dL_from_26 ?_
    exact hj _
  · skip
    refine lv_sipush (v := 811) hx hb dL_from_5 (by decide) ?_
    refine lv_iload_n hx hb dL_from_8 rfl (lv_at hl 1 rfl) ?_
    refine lv_imul hx hb dL_from_9 ?_
    refine lv_bipush (v := 53) hx hb dL_from_10 (by decide) ?_
    refine lv_iadd hx hb dL_from_12 ?_
    refine lv_goto (tgt := 27) hx hb dL_from_13 (by decide) ?_
    exact hj _
def f_atL (r : Int64) (z : Int32) : Int32 := ((r >>> ((3 * (z - 1)).toInt64 &&& 63)) &&& 7).toInt32
abbrev rm_L_at : Room := { frames := 1, cells := 0, slots := 0, locals := 50 }
theorem nm_L_at : gNm yL_at 2 := ⟨by decide +kernel, by decide +kernel, by decide +kernel⟩
set_option maxHeartbeats 4000000 in
set_option maxRecDepth 100000 in
theorem c_L_at (l : Launch) (hfl : l.stackTraces = false) (D : va_G) (tc : Nat → ClassId) (A : Nat → Prop) (w : gW) (r : Int64) (z : Int32) : gM l yL_at cL_at 3 (some .int) rm_L_at D tc A [.long r, .int z] w (fun v w' => v = some (.int (f_atL r z)) ∧ w' = w) (fun _ => False) := by
  refine gM_of (by decide +kernel) (Nat.le_of_ble_eq_true rfl) ?_
  intro p e s m args below meth c ls Q hQ hE hG hr hnt hnm hl
  have hx := hE.1
  have hb := hE.2.1
  have hl : lv_has ls 3 [(0, .long r), (2, .int z)] := hl
  refine lv_lload_n hx hb dL_at_0 rfl (lv_at hl 0 rfl) ?_
  refine lv_iconst (v := 3) hx hb dL_at_1 (by decide) ?_
  refine lv_iload_n hx hb dL_at_2 rfl (lv_at hl 1 rfl) ?_
  refine lv_iconst (v := 1) hx hb dL_at_3 (by decide) ?_
  refine lv_isub hx hb dL_at_4 ?_
  refine lv_imul hx hb dL_at_5 ?_
  refine lv_lshr (v := (r >>> ((3 * (z - 1)).toInt64 &&& 63))) hx hb dL_at_6 rfl ?_
  refine lv_ldc2 (v := 7) hx hb hE.2.2.2.1 (hE.2.2.2.2.1 _ mw2_51) dL_at_7 ?_
  refine lv_land hx hb dL_at_10 ?_
  refine lv_l2i (v := ((r >>> ((3 * (z - 1)).toInt64 &&& 63)) &&& 7).toInt32) hx hb dL_at_11 rfl ?_
  subst hQ
  exact g_iret hE hG hr (Nat.le_of_ble_eq_true rfl) (Nat.le_of_ble_eq_true rfl) dL_at_12 ⟨by unfold f_atL; rw [], rfl⟩
def f_wiL (r : Int64) (z q : Int32) : Int64 := ((r &&& (((7 : Int64) <<< ((3 * (z - 1)).toInt64 &&& 63)) ^^^ (-1))) ||| (q.toInt64 <<< ((3 * (z - 1)).toInt64 &&& 63)))
abbrev rm_L_with : Room := { frames := 1, cells := 0, slots := 0, locals := 50 }
theorem nm_L_with : gNm yL_with 3 := ⟨by decide +kernel, by decide +kernel, by decide +kernel⟩
set_option maxHeartbeats 4000000 in
set_option maxRecDepth 100000 in
theorem c_L_with (l : Launch) (hfl : l.stackTraces = false) (D : va_G) (tc : Nat → ClassId) (A : Nat → Prop) (w : gW) (r : Int64) (z : Int32) (q : Int32) : gM l yL_with cL_with 6 (some .long) rm_L_with D tc A [.long r, .int z, .int q] w (fun v w' => v = some (.long (f_wiL r z q)) ∧ w' = w) (fun _ => False) := by
  refine gM_of (by decide +kernel) (Nat.le_of_ble_eq_true rfl) ?_
  intro p e s m args below meth c ls Q hQ hE hG hr hnt hnm hl
  have hx := hE.1
  have hb := hE.2.1
  have hl : lv_has ls 6 [(0, .long r), (2, .int z), (3, .int q)] := hl
  refine lv_iload_n hx hb dL_with_0 rfl (lv_at hl 2 rfl) ?_
  refine lv_i2l (v := q.toInt64) hx hb dL_with_1 rfl ?_
  refine lv_lstore (lv' := [(4, .long q.toInt64), (0, .long r), (2, .int z), (3, .int q)]) hx hb dL_with_2 hl (by decide) rfl (fun ls hl => ?_)
  refine lv_lload_n hx hb dL_with_4 rfl (lv_at hl 1 rfl) ?_
  refine lv_ldc2 (v := 7) hx hb hE.2.2.2.1 (hE.2.2.2.2.1 _ mw2_51) dL_with_5 ?_
  refine lv_iconst (v := 3) hx hb dL_with_8 (by decide) ?_
  refine lv_iload_n hx hb dL_with_9 rfl (lv_at hl 2 rfl) ?_
  refine lv_iconst (v := 1) hx hb dL_with_10 (by decide) ?_
  refine lv_isub hx hb dL_with_11 ?_
  refine lv_imul hx hb dL_with_12 ?_
  refine lv_lshl (v := ((7 : Int64) <<< ((3 * (z - 1)).toInt64 &&& 63))) hx hb dL_with_13 rfl ?_
  refine lv_ldc2 (v := (-1)) hx hb hE.2.2.2.1 (hE.2.2.2.2.1 _ mw2_52) dL_with_14 ?_
  refine lv_lxor hx hb dL_with_17 ?_
  refine lv_land hx hb dL_with_18 ?_
  refine lv_lload hx hb dL_with_19 (lv_at hl 0 rfl) ?_
  refine lv_iconst (v := 3) hx hb dL_with_21 (by decide) ?_
  refine lv_iload_n hx hb dL_with_22 rfl (lv_at hl 2 rfl) ?_
  refine lv_iconst (v := 1) hx hb dL_with_23 (by decide) ?_
  refine lv_isub hx hb dL_with_24 ?_
  refine lv_imul hx hb dL_with_25 ?_
  refine lv_lshl (v := (q.toInt64 <<< ((3 * (z - 1)).toInt64 &&& 63))) hx hb dL_with_26 rfl ?_
  refine lv_lor hx hb dL_with_27 ?_
  subst hQ
  exact g_lret hE hG hr (Nat.le_of_ble_eq_true rfl) (Nat.le_of_ble_eq_true rfl) dL_with_28 ⟨by unfold f_wiL; rw [], rfl⟩
abbrev rm_L_density_0 : Room := { frames := 1, cells := 0, slots := 0, locals := 50 }
theorem nm_L_density : gNm yL_density 2 := ⟨by decide +kernel, by decide +kernel, by decide +kernel⟩
set_option maxHeartbeats 4000000 in
set_option maxRecDepth 100000 in
theorem c_L_density_0 (l : Launch) (hfl : l.stackTraces = false) (D : va_G) (tc : Nat → ClassId) (A : Nat → Prop) (w : gW)  : gM l yL_density cL_density 4 (some .int) rm_L_density_0 D tc A [.int 0, .int 0] w (fun v w' => v = some (.int 1) ∧ w' = w) (fun _ => False) := by
  refine gM_of (by decide +kernel) (Nat.le_of_ble_eq_true rfl) ?_
  intro p e s m args below meth c ls Q hQ hE hG hr hnt hnm hl
  have hx := hE.1
  have hb := hE.2.1
  have hl : lv_has ls 4 [(0, .int 0), (1, .int 0)] := hl
  refine lv_iload_n hx hb dL_density_0 rfl (lv_at hl 0 rfl) ?_
  refine lv_iconst (v := 1) hx hb dL_density_1 (by decide) ?_
  refine lv_icmp_eq (tgt := 10) hx hb dL_density_2 (by decide) (fun c9 => absurd c9 (by decide)) (fun _ => ?_)
  refine lv_iload_n hx hb dL_density_5 rfl (lv_at hl 0 rfl) ?_
  refine lv_iconst (v := 3) hx hb dL_density_6 (by decide) ?_
  refine lv_icmp_ne (tgt := 14) hx hb dL_density_7 (by decide) (fun _ => ?_) (fun c9 => absurd c9 (by decide))
  refine lv_iconst (v := 1) hx hb dL_density_14 (by decide) ?_
  refine lv_istore_n (lv' := [(2, .int 1), (0, .int 0), (1, .int 0)]) hx hb dL_density_15 rfl hl (by decide) rfl (fun ls hl => ?_)
  refine lv_iconst (v := 0) hx hb dL_density_16 (by decide) ?_
  refine lv_istore_n (lv' := [(3, .int 0), (2, .int 1), (0, .int 0), (1, .int 0)]) hx hb dL_density_17 rfl hl (by decide) rfl (fun ls hl => ?_)
  refine lv_iload_n hx hb dL_density_18 rfl (lv_at hl 0 rfl) ?_
  refine lv_iload_n hx hb dL_density_19 rfl (lv_at hl 3 rfl) ?_
  refine lv_icmp_ge (tgt := 37) hx hb dL_density_20 (by decide) (fun _ => ?_) (fun c9 => (c9 (by decide)).elim)
  refine lv_iload_n hx hb dL_density_37 rfl (lv_at hl 1 rfl) ?_
  subst hQ
  exact g_iret hE hG hr (Nat.le_of_ble_eq_true rfl) (Nat.le_of_ble_eq_true rfl) dL_density_38 ⟨rfl, rfl⟩
abbrev rm_L_density_1 : Room := { frames := 1, cells := 0, slots := 0, locals := 50 }
set_option maxHeartbeats 4000000 in
set_option maxRecDepth 100000 in
theorem c_L_density_1 (l : Launch) (hfl : l.stackTraces = false) (D : va_G) (tc : Nat → ClassId) (A : Nat → Prop) (w : gW)  : gM l yL_density cL_density 4 (some .int) rm_L_density_1 D tc A [.int 0, .int 1] w (fun v w' => v = some (.int 1) ∧ w' = w) (fun _ => False) := by
  refine gM_of (by decide +kernel) (Nat.le_of_ble_eq_true rfl) ?_
  intro p e s m args below meth c ls Q hQ hE hG hr hnt hnm hl
  have hx := hE.1
  have hb := hE.2.1
  have hl : lv_has ls 4 [(0, .int 0), (1, .int 1)] := hl
  refine lv_iload_n hx hb dL_density_0 rfl (lv_at hl 0 rfl) ?_
  refine lv_iconst (v := 1) hx hb dL_density_1 (by decide) ?_
  refine lv_icmp_eq (tgt := 10) hx hb dL_density_2 (by decide) (fun c9 => absurd c9 (by decide)) (fun _ => ?_)
  refine lv_iload_n hx hb dL_density_5 rfl (lv_at hl 0 rfl) ?_
  refine lv_iconst (v := 3) hx hb dL_density_6 (by decide) ?_
  refine lv_icmp_ne (tgt := 14) hx hb dL_density_7 (by decide) (fun _ => ?_) (fun c9 => absurd c9 (by decide))
  refine lv_iconst (v := 1) hx hb dL_density_14 (by decide) ?_
  refine lv_istore_n (lv' := [(2, .int 1), (0, .int 0), (1, .int 1)]) hx hb dL_density_15 rfl hl (by decide) rfl (fun ls hl => ?_)
  refine lv_iconst (v := 0) hx hb dL_density_16 (by decide) ?_
  refine lv_istore_n (lv' := [(3, .int 0), (2, .int 1), (0, .int 0), (1, .int 1)]) hx hb dL_density_17 rfl hl (by decide) rfl (fun ls hl => ?_)
  refine lv_iload_n hx hb dL_density_18 rfl (lv_at hl 0 rfl) ?_
  refine lv_iload_n hx hb dL_density_19 rfl (lv_at hl 3 rfl) ?_
  refine lv_icmp_ge (tgt := 37) hx hb dL_density_20 (by decide) (fun c9 => absurd c9 (by decide)) (fun _ => ?_)
  refine lv_iload_n hx hb dL_density_23 rfl (lv_at hl 2 rfl) ?_
  refine lv_if_le (tgt := 37) hx hb dL_density_24 (by decide) (fun _ => ?_) (fun c9 => (c9 (by decide)).elim)
  refine lv_iload_n hx hb dL_density_37 rfl (lv_at hl 1 rfl) ?_
  subst hQ
  exact g_iret hE hG hr (Nat.le_of_ble_eq_true rfl) (Nat.le_of_ble_eq_true rfl) dL_density_38 ⟨rfl, rfl⟩
abbrev rm_L_density_2 : Room := { frames := 1, cells := 0, slots := 0, locals := 50 }
set_option maxHeartbeats 4000000 in
set_option maxRecDepth 100000 in
theorem c_L_density_2 (l : Launch) (hfl : l.stackTraces = false) (D : va_G) (tc : Nat → ClassId) (A : Nat → Prop) (w : gW)  : gM l yL_density cL_density 4 (some .int) rm_L_density_2 D tc A [.int 0, .int 2] w (fun v w' => v = some (.int 1) ∧ w' = w) (fun _ => False) := by
  refine gM_of (by decide +kernel) (Nat.le_of_ble_eq_true rfl) ?_
  intro p e s m args below meth c ls Q hQ hE hG hr hnt hnm hl
  have hx := hE.1
  have hb := hE.2.1
  have hl : lv_has ls 4 [(0, .int 0), (1, .int 2)] := hl
  refine lv_iload_n hx hb dL_density_0 rfl (lv_at hl 0 rfl) ?_
  refine lv_iconst (v := 1) hx hb dL_density_1 (by decide) ?_
  refine lv_icmp_eq (tgt := 10) hx hb dL_density_2 (by decide) (fun c9 => absurd c9 (by decide)) (fun _ => ?_)
  refine lv_iload_n hx hb dL_density_5 rfl (lv_at hl 0 rfl) ?_
  refine lv_iconst (v := 3) hx hb dL_density_6 (by decide) ?_
  refine lv_icmp_ne (tgt := 14) hx hb dL_density_7 (by decide) (fun _ => ?_) (fun c9 => absurd c9 (by decide))
  refine lv_iconst (v := 1) hx hb dL_density_14 (by decide) ?_
  refine lv_istore_n (lv' := [(2, .int 1), (0, .int 0), (1, .int 2)]) hx hb dL_density_15 rfl hl (by decide) rfl (fun ls hl => ?_)
  refine lv_iconst (v := 0) hx hb dL_density_16 (by decide) ?_
  refine lv_istore_n (lv' := [(3, .int 0), (2, .int 1), (0, .int 0), (1, .int 2)]) hx hb dL_density_17 rfl hl (by decide) rfl (fun ls hl => ?_)
  refine lv_iload_n hx hb dL_density_18 rfl (lv_at hl 0 rfl) ?_
  refine lv_iload_n hx hb dL_density_19 rfl (lv_at hl 3 rfl) ?_
  refine lv_icmp_ge (tgt := 37) hx hb dL_density_20 (by decide) (fun c9 => absurd c9 (by decide)) (fun _ => ?_)
  refine lv_iload_n hx hb dL_density_23 rfl (lv_at hl 2 rfl) ?_
  refine lv_if_le (tgt := 37) hx hb dL_density_24 (by decide) (fun _ => ?_) (fun c9 => (c9 (by decide)).elim)
  refine lv_iload_n hx hb dL_density_37 rfl (lv_at hl 1 rfl) ?_
  subst hQ
  exact g_iret hE hG hr (Nat.le_of_ble_eq_true rfl) (Nat.le_of_ble_eq_true rfl) dL_density_38 ⟨rfl, rfl⟩
abbrev rm_L_density_3 : Room := { frames := 1, cells := 0, slots := 0, locals := 50 }
set_option maxHeartbeats 4000000 in
set_option maxRecDepth 100000 in
theorem c_L_density_3 (l : Launch) (hfl : l.stackTraces = false) (D : va_G) (tc : Nat → ClassId) (A : Nat → Prop) (w : gW)  : gM l yL_density cL_density 4 (some .int) rm_L_density_3 D tc A [.int 0, .int 3] w (fun v w' => v = some (.int 1) ∧ w' = w) (fun _ => False) := by
  refine gM_of (by decide +kernel) (Nat.le_of_ble_eq_true rfl) ?_
  intro p e s m args below meth c ls Q hQ hE hG hr hnt hnm hl
  have hx := hE.1
  have hb := hE.2.1
  have hl : lv_has ls 4 [(0, .int 0), (1, .int 3)] := hl
  refine lv_iload_n hx hb dL_density_0 rfl (lv_at hl 0 rfl) ?_
  refine lv_iconst (v := 1) hx hb dL_density_1 (by decide) ?_
  refine lv_icmp_eq (tgt := 10) hx hb dL_density_2 (by decide) (fun c9 => absurd c9 (by decide)) (fun _ => ?_)
  refine lv_iload_n hx hb dL_density_5 rfl (lv_at hl 0 rfl) ?_
  refine lv_iconst (v := 3) hx hb dL_density_6 (by decide) ?_
  refine lv_icmp_ne (tgt := 14) hx hb dL_density_7 (by decide) (fun _ => ?_) (fun c9 => absurd c9 (by decide))
  refine lv_iconst (v := 1) hx hb dL_density_14 (by decide) ?_
  refine lv_istore_n (lv' := [(2, .int 1), (0, .int 0), (1, .int 3)]) hx hb dL_density_15 rfl hl (by decide) rfl (fun ls hl => ?_)
  refine lv_iconst (v := 0) hx hb dL_density_16 (by decide) ?_
  refine lv_istore_n (lv' := [(3, .int 0), (2, .int 1), (0, .int 0), (1, .int 3)]) hx hb dL_density_17 rfl hl (by decide) rfl (fun ls hl => ?_)
  refine lv_iload_n hx hb dL_density_18 rfl (lv_at hl 0 rfl) ?_
  refine lv_iload_n hx hb dL_density_19 rfl (lv_at hl 3 rfl) ?_
  refine lv_icmp_ge (tgt := 37) hx hb dL_density_20 (by decide) (fun c9 => absurd c9 (by decide)) (fun _ => ?_)
  refine lv_iload_n hx hb dL_density_23 rfl (lv_at hl 2 rfl) ?_
  refine lv_if_le (tgt := 37) hx hb dL_density_24 (by decide) (fun _ => ?_) (fun c9 => (c9 (by decide)).elim)
  refine lv_iload_n hx hb dL_density_37 rfl (lv_at hl 1 rfl) ?_
  subst hQ
  exact g_iret hE hG hr (Nat.le_of_ble_eq_true rfl) (Nat.le_of_ble_eq_true rfl) dL_density_38 ⟨rfl, rfl⟩
abbrev rm_L_density_4 : Room := { frames := 1, cells := 0, slots := 0, locals := 50 }
set_option maxHeartbeats 4000000 in
set_option maxRecDepth 100000 in
theorem c_L_density_4 (l : Launch) (hfl : l.stackTraces = false) (D : va_G) (tc : Nat → ClassId) (A : Nat → Prop) (w : gW)  : gM l yL_density cL_density 4 (some .int) rm_L_density_4 D tc A [.int 1, .int 0] w (fun v w' => v = some (.int 2) ∧ w' = w) (fun _ => False) := by
  refine gM_of (by decide +kernel) (Nat.le_of_ble_eq_true rfl) ?_
  intro p e s m args below meth c ls Q hQ hE hG hr hnt hnm hl
  have hx := hE.1
  have hb := hE.2.1
  have hl : lv_has ls 4 [(0, .int 1), (1, .int 0)] := hl
  refine lv_iload_n hx hb dL_density_0 rfl (lv_at hl 0 rfl) ?_
  refine lv_iconst (v := 1) hx hb dL_density_1 (by decide) ?_
  refine lv_icmp_eq (tgt := 10) hx hb dL_density_2 (by decide) (fun _ => ?_) (fun c9 => (c9 (by decide)).elim)
  refine lv_iconst (v := 2) hx hb dL_density_10 (by decide) ?_
  refine lv_goto (tgt := 15) hx hb dL_density_11 (by decide) ?_
  refine lv_istore_n (lv' := [(2, .int 2), (0, .int 1), (1, .int 0)]) hx hb dL_density_15 rfl hl (by decide) rfl (fun ls hl => ?_)
  refine lv_iconst (v := 0) hx hb dL_density_16 (by decide) ?_
  refine lv_istore_n (lv' := [(3, .int 0), (2, .int 2), (0, .int 1), (1, .int 0)]) hx hb dL_density_17 rfl hl (by decide) rfl (fun ls hl => ?_)
  refine lv_iload_n hx hb dL_density_18 rfl (lv_at hl 0 rfl) ?_
  refine lv_iload_n hx hb dL_density_19 rfl (lv_at hl 3 rfl) ?_
  refine lv_icmp_ge (tgt := 37) hx hb dL_density_20 (by decide) (fun _ => ?_) (fun c9 => (c9 (by decide)).elim)
  refine lv_iload_n hx hb dL_density_37 rfl (lv_at hl 1 rfl) ?_
  subst hQ
  exact g_iret hE hG hr (Nat.le_of_ble_eq_true rfl) (Nat.le_of_ble_eq_true rfl) dL_density_38 ⟨rfl, rfl⟩
abbrev rm_L_density_5 : Room := { frames := 1, cells := 0, slots := 0, locals := 50 }
set_option maxHeartbeats 4000000 in
set_option maxRecDepth 100000 in
theorem c_L_density_5 (l : Launch) (hfl : l.stackTraces = false) (D : va_G) (tc : Nat → ClassId) (A : Nat → Prop) (w : gW)  : gM l yL_density cL_density 4 (some .int) rm_L_density_5 D tc A [.int 1, .int 1] w (fun v w' => v = some (.int 4) ∧ w' = w) (fun _ => False) := by
  refine gM_of (by decide +kernel) (Nat.le_of_ble_eq_true rfl) ?_
  intro p e s m args below meth c ls Q hQ hE hG hr hnt hnm hl
  have hx := hE.1
  have hb := hE.2.1
  have hl : lv_has ls 4 [(0, .int 1), (1, .int 1)] := hl
  refine lv_iload_n hx hb dL_density_0 rfl (lv_at hl 0 rfl) ?_
  refine lv_iconst (v := 1) hx hb dL_density_1 (by decide) ?_
  refine lv_icmp_eq (tgt := 10) hx hb dL_density_2 (by decide) (fun _ => ?_) (fun c9 => (c9 (by decide)).elim)
  refine lv_iconst (v := 2) hx hb dL_density_10 (by decide) ?_
  refine lv_goto (tgt := 15) hx hb dL_density_11 (by decide) ?_
  refine lv_istore_n (lv' := [(2, .int 2), (0, .int 1), (1, .int 1)]) hx hb dL_density_15 rfl hl (by decide) rfl (fun ls hl => ?_)
  refine lv_iconst (v := 0) hx hb dL_density_16 (by decide) ?_
  refine lv_istore_n (lv' := [(3, .int 0), (2, .int 2), (0, .int 1), (1, .int 1)]) hx hb dL_density_17 rfl hl (by decide) rfl (fun ls hl => ?_)
  refine lv_iload_n hx hb dL_density_18 rfl (lv_at hl 0 rfl) ?_
  refine lv_iload_n hx hb dL_density_19 rfl (lv_at hl 3 rfl) ?_
  refine lv_icmp_ge (tgt := 37) hx hb dL_density_20 (by decide) (fun c9 => absurd c9 (by decide)) (fun _ => ?_)
  refine lv_iload_n hx hb dL_density_23 rfl (lv_at hl 2 rfl) ?_
  refine lv_if_le (tgt := 37) hx hb dL_density_24 (by decide) (fun c9 => absurd c9 (by decide)) (fun _ => ?_)
  refine lv_iload_n hx hb dL_density_27 rfl (lv_at hl 1 rfl) ?_
  refine lv_iconst (v := 2) hx hb dL_density_28 (by decide) ?_
  refine lv_imul hx hb dL_density_29 ?_
  refine lv_topi (fun k_1 ek_1 => ?_)
  obtain rfl : k_1 = 4 := ek_1.trans (by decide)
  refine lv_istore_n (lv' := [(2, .int 4), (3, .int 0), (0, .int 1), (1, .int 1)]) hx hb dL_density_30 rfl hl (by decide) rfl (fun ls hl => ?_)
  refine lv_iinc (v := 1) (lv' := [(3, .int 1), (2, .int 4), (0, .int 1), (1, .int 1)]) hx hb dL_density_31 hl (k := 1) rfl (by decide) (by decide) rfl (fun ls hl => ?_)
  refine lv_goto (tgt := 18) hx hb dL_density_34 (by decide) ?_
  refine lv_iload_n hx hb dL_density_18 rfl (lv_at hl 0 rfl) ?_
  refine lv_iload_n hx hb dL_density_19 rfl (lv_at hl 3 rfl) ?_
  refine lv_icmp_ge (tgt := 37) hx hb dL_density_20 (by decide) (fun _ => ?_) (fun c9 => (c9 (by decide)).elim)
  refine lv_iload_n hx hb dL_density_37 rfl (lv_at hl 1 rfl) ?_
  subst hQ
  exact g_iret hE hG hr (Nat.le_of_ble_eq_true rfl) (Nat.le_of_ble_eq_true rfl) dL_density_38 ⟨rfl, rfl⟩
abbrev rm_L_density_6 : Room := { frames := 1, cells := 0, slots := 0, locals := 50 }
set_option maxHeartbeats 4000000 in
set_option maxRecDepth 100000 in
theorem c_L_density_6 (l : Launch) (hfl : l.stackTraces = false) (D : va_G) (tc : Nat → ClassId) (A : Nat → Prop) (w : gW)  : gM l yL_density cL_density 4 (some .int) rm_L_density_6 D tc A [.int 1, .int 2] w (fun v w' => v = some (.int 8) ∧ w' = w) (fun _ => False) := by
  refine gM_of (by decide +kernel) (Nat.le_of_ble_eq_true rfl) ?_
  intro p e s m args below meth c ls Q hQ hE hG hr hnt hnm hl
  have hx := hE.1
  have hb := hE.2.1
  have hl : lv_has ls 4 [(0, .int 1), (1, .int 2)] := hl
  refine lv_iload_n hx hb dL_density_0 rfl (lv_at hl 0 rfl) ?_
  refine lv_iconst (v := 1) hx hb dL_density_1 (by decide) ?_
  refine lv_icmp_eq (tgt := 10) hx hb dL_density_2 (by decide) (fun _ => ?_) (fun c9 => (c9 (by decide)).elim)
  refine lv_iconst (v := 2) hx hb dL_density_10 (by decide) ?_
  refine lv_goto (tgt := 15) hx hb dL_density_11 (by decide) ?_
  refine lv_istore_n (lv' := [(2, .int 2), (0, .int 1), (1, .int 2)]) hx hb dL_density_15 rfl hl (by decide) rfl (fun ls hl => ?_)
  refine lv_iconst (v := 0) hx hb dL_density_16 (by decide) ?_
  refine lv_istore_n (lv' := [(3, .int 0), (2, .int 2), (0, .int 1), (1, .int 2)]) hx hb dL_density_17 rfl hl (by decide) rfl (fun ls hl => ?_)
  refine lv_iload_n hx hb dL_density_18 rfl (lv_at hl 0 rfl) ?_
  refine lv_iload_n hx hb dL_density_19 rfl (lv_at hl 3 rfl) ?_
  refine lv_icmp_ge (tgt := 37) hx hb dL_density_20 (by decide) (fun c9 => absurd c9 (by decide)) (fun _ => ?_)
  refine lv_iload_n hx hb dL_density_23 rfl (lv_at hl 2 rfl) ?_
  refine lv_if_le (tgt := 37) hx hb dL_density_24 (by decide) (fun c9 => absurd c9 (by decide)) (fun _ => ?_)
  refine lv_iload_n hx hb dL_density_27 rfl (lv_at hl 1 rfl) ?_
  refine lv_iconst (v := 2) hx hb dL_density_28 (by decide) ?_
  refine lv_imul hx hb dL_density_29 ?_
  refine lv_topi (fun k_1 ek_1 => ?_)
  obtain rfl : k_1 = 4 := ek_1.trans (by decide)
  refine lv_istore_n (lv' := [(2, .int 4), (3, .int 0), (0, .int 1), (1, .int 2)]) hx hb dL_density_30 rfl hl (by decide) rfl (fun ls hl => ?_)
  refine lv_iinc (v := 1) (lv' := [(3, .int 1), (2, .int 4), (0, .int 1), (1, .int 2)]) hx hb dL_density_31 hl (k := 1) rfl (by decide) (by decide) rfl (fun ls hl => ?_)
  refine lv_goto (tgt := 18) hx hb dL_density_34 (by decide) ?_
  refine lv_iload_n hx hb dL_density_18 rfl (lv_at hl 0 rfl) ?_
  refine lv_iload_n hx hb dL_density_19 rfl (lv_at hl 3 rfl) ?_
  refine lv_icmp_ge (tgt := 37) hx hb dL_density_20 (by decide) (fun c9 => absurd c9 (by decide)) (fun _ => ?_)
  refine lv_iload_n hx hb dL_density_23 rfl (lv_at hl 2 rfl) ?_
  refine lv_if_le (tgt := 37) hx hb dL_density_24 (by decide) (fun c9 => absurd c9 (by decide)) (fun _ => ?_)
  refine lv_iload_n hx hb dL_density_27 rfl (lv_at hl 1 rfl) ?_
  refine lv_iconst (v := 2) hx hb dL_density_28 (by decide) ?_
  refine lv_imul hx hb dL_density_29 ?_
  refine lv_topi (fun k_2 ek_2 => ?_)
  obtain rfl : k_2 = 8 := ek_2.trans (by decide)
  refine lv_istore_n (lv' := [(2, .int 8), (3, .int 1), (0, .int 1), (1, .int 2)]) hx hb dL_density_30 rfl hl (by decide) rfl (fun ls hl => ?_)
  refine lv_iinc (v := 2) (lv' := [(3, .int 2), (2, .int 8), (0, .int 1), (1, .int 2)]) hx hb dL_density_31 hl (k := 1) rfl (by decide) (by decide) rfl (fun ls hl => ?_)
  refine lv_goto (tgt := 18) hx hb dL_density_34 (by decide) ?_
  refine lv_iload_n hx hb dL_density_18 rfl (lv_at hl 0 rfl) ?_
  refine lv_iload_n hx hb dL_density_19 rfl (lv_at hl 3 rfl) ?_
  refine lv_icmp_ge (tgt := 37) hx hb dL_density_20 (by decide) (fun _ => ?_) (fun c9 => (c9 (by decide)).elim)
  refine lv_iload_n hx hb dL_density_37 rfl (lv_at hl 1 rfl) ?_
  subst hQ
  exact g_iret hE hG hr (Nat.le_of_ble_eq_true rfl) (Nat.le_of_ble_eq_true rfl) dL_density_38 ⟨rfl, rfl⟩
abbrev rm_L_density_7 : Room := { frames := 1, cells := 0, slots := 0, locals := 50 }
set_option maxHeartbeats 4000000 in
set_option maxRecDepth 100000 in
theorem c_L_density_7 (l : Launch) (hfl : l.stackTraces = false) (D : va_G) (tc : Nat → ClassId) (A : Nat → Prop) (w : gW)  : gM l yL_density cL_density 4 (some .int) rm_L_density_7 D tc A [.int 1, .int 3] w (fun v w' => v = some (.int 16) ∧ w' = w) (fun _ => False) := by
  refine gM_of (by decide +kernel) (Nat.le_of_ble_eq_true rfl) ?_
  intro p e s m args below meth c ls Q hQ hE hG hr hnt hnm hl
  have hx := hE.1
  have hb := hE.2.1
  have hl : lv_has ls 4 [(0, .int 1), (1, .int 3)] := hl
  refine lv_iload_n hx hb dL_density_0 rfl (lv_at hl 0 rfl) ?_
  refine lv_iconst (v := 1) hx hb dL_density_1 (by decide) ?_
  refine lv_icmp_eq (tgt := 10) hx hb dL_density_2 (by decide) (fun _ => ?_) (fun c9 => (c9 (by decide)).elim)
  refine lv_iconst (v := 2) hx hb dL_density_10 (by decide) ?_
  refine lv_goto (tgt := 15) hx hb dL_density_11 (by decide) ?_
  refine lv_istore_n (lv' := [(2, .int 2), (0, .int 1), (1, .int 3)]) hx hb dL_density_15 rfl hl (by decide) rfl (fun ls hl => ?_)
  refine lv_iconst (v := 0) hx hb dL_density_16 (by decide) ?_
  refine lv_istore_n (lv' := [(3, .int 0), (2, .int 2), (0, .int 1), (1, .int 3)]) hx hb dL_density_17 rfl hl (by decide) rfl (fun ls hl => ?_)
  refine lv_iload_n hx hb dL_density_18 rfl (lv_at hl 0 rfl) ?_
  refine lv_iload_n hx hb dL_density_19 rfl (lv_at hl 3 rfl) ?_
  refine lv_icmp_ge (tgt := 37) hx hb dL_density_20 (by decide) (fun c9 => absurd c9 (by decide)) (fun _ => ?_)
  refine lv_iload_n hx hb dL_density_23 rfl (lv_at hl 2 rfl) ?_
  refine lv_if_le (tgt := 37) hx hb dL_density_24 (by decide) (fun c9 => absurd c9 (by decide)) (fun _ => ?_)
  refine lv_iload_n hx hb dL_density_27 rfl (lv_at hl 1 rfl) ?_
  refine lv_iconst (v := 2) hx hb dL_density_28 (by decide) ?_
  refine lv_imul hx hb dL_density_29 ?_
  refine lv_topi (fun k_1 ek_1 => ?_)
  obtain rfl : k_1 = 4 := ek_1.trans (by decide)
  refine lv_istore_n (lv' := [(2, .int 4), (3, .int 0), (0, .int 1), (1, .int 3)]) hx hb dL_density_30 rfl hl (by decide) rfl (fun ls hl => ?_)
  refine lv_iinc (v := 1) (lv' := [(3, .int 1), (2, .int 4), (0, .int 1), (1, .int 3)]) hx hb dL_density_31 hl (k := 1) rfl (by decide) (by decide) rfl (fun ls hl => ?_)
  refine lv_goto (tgt := 18) hx hb dL_density_34 (by decide) ?_
  refine lv_iload_n hx hb dL_density_18 rfl (lv_at hl 0 rfl) ?_
  refine lv_iload_n hx hb dL_density_19 rfl (lv_at hl 3 rfl) ?_
  refine lv_icmp_ge (tgt := 37) hx hb dL_density_20 (by decide) (fun c9 => absurd c9 (by decide)) (fun _ => ?_)
  refine lv_iload_n hx hb dL_density_23 rfl (lv_at hl 2 rfl) ?_
  refine lv_if_le (tgt := 37) hx hb dL_density_24 (by decide) (fun c9 => absurd c9 (by decide)) (fun _ => ?_)
  refine lv_iload_n hx hb dL_density_27 rfl (lv_at hl 1 rfl) ?_
  refine lv_iconst (v := 2) hx hb dL_density_28 (by decide) ?_
  refine lv_imul hx hb dL_density_29 ?_
  refine lv_topi (fun k_2 ek_2 => ?_)
  obtain rfl : k_2 = 8 := ek_2.trans (by decide)
  refine lv_istore_n (lv' := [(2, .int 8), (3, .int 1), (0, .int 1), (1, .int 3)]) hx hb dL_density_30 rfl hl (by decide) rfl (fun ls hl => ?_)
  refine lv_iinc (v := 2) (lv' := [(3, .int 2), (2, .int 8), (0, .int 1), (1, .int 3)]) hx hb dL_density_31 hl (k := 1) rfl (by decide) (by decide) rfl (fun ls hl => ?_)
  refine lv_goto (tgt := 18) hx hb dL_density_34 (by decide) ?_
  refine lv_iload_n hx hb dL_density_18 rfl (lv_at hl 0 rfl) ?_
  refine lv_iload_n hx hb dL_density_19 rfl (lv_at hl 3 rfl) ?_
  refine lv_icmp_ge (tgt := 37) hx hb dL_density_20 (by decide) (fun c9 => absurd c9 (by decide)) (fun _ => ?_)
  refine lv_iload_n hx hb dL_density_23 rfl (lv_at hl 2 rfl) ?_
  refine lv_if_le (tgt := 37) hx hb dL_density_24 (by decide) (fun c9 => absurd c9 (by decide)) (fun _ => ?_)
  refine lv_iload_n hx hb dL_density_27 rfl (lv_at hl 1 rfl) ?_
  refine lv_iconst (v := 2) hx hb dL_density_28 (by decide) ?_
  refine lv_imul hx hb dL_density_29 ?_
  refine lv_topi (fun k_3 ek_3 => ?_)
  obtain rfl : k_3 = 16 := ek_3.trans (by decide)
  refine lv_istore_n (lv' := [(2, .int 16), (3, .int 2), (0, .int 1), (1, .int 3)]) hx hb dL_density_30 rfl hl (by decide) rfl (fun ls hl => ?_)
  refine lv_iinc (v := 3) (lv' := [(3, .int 3), (2, .int 16), (0, .int 1), (1, .int 3)]) hx hb dL_density_31 hl (k := 1) rfl (by decide) (by decide) rfl (fun ls hl => ?_)
  refine lv_goto (tgt := 18) hx hb dL_density_34 (by decide) ?_
  refine lv_iload_n hx hb dL_density_18 rfl (lv_at hl 0 rfl) ?_
  refine lv_iload_n hx hb dL_density_19 rfl (lv_at hl 3 rfl) ?_
  refine lv_icmp_ge (tgt := 37) hx hb dL_density_20 (by decide) (fun _ => ?_) (fun c9 => (c9 (by decide)).elim)
  refine lv_iload_n hx hb dL_density_37 rfl (lv_at hl 1 rfl) ?_
  subst hQ
  exact g_iret hE hG hr (Nat.le_of_ble_eq_true rfl) (Nat.le_of_ble_eq_true rfl) dL_density_38 ⟨rfl, rfl⟩
abbrev rm_L_density_8 : Room := { frames := 1, cells := 0, slots := 0, locals := 50 }
set_option maxHeartbeats 4000000 in
set_option maxRecDepth 100000 in
theorem c_L_density_8 (l : Launch) (hfl : l.stackTraces = false) (D : va_G) (tc : Nat → ClassId) (A : Nat → Prop) (w : gW)  : gM l yL_density cL_density 4 (some .int) rm_L_density_8 D tc A [.int 2, .int 0] w (fun v w' => v = some (.int 1) ∧ w' = w) (fun _ => False) := by
  refine gM_of (by decide +kernel) (Nat.le_of_ble_eq_true rfl) ?_
  intro p e s m args below meth c ls Q hQ hE hG hr hnt hnm hl
  have hx := hE.1
  have hb := hE.2.1
  have hl : lv_has ls 4 [(0, .int 2), (1, .int 0)] := hl
  refine lv_iload_n hx hb dL_density_0 rfl (lv_at hl 0 rfl) ?_
  refine lv_iconst (v := 1) hx hb dL_density_1 (by decide) ?_
  refine lv_icmp_eq (tgt := 10) hx hb dL_density_2 (by decide) (fun c9 => absurd c9 (by decide)) (fun _ => ?_)
  refine lv_iload_n hx hb dL_density_5 rfl (lv_at hl 0 rfl) ?_
  refine lv_iconst (v := 3) hx hb dL_density_6 (by decide) ?_
  refine lv_icmp_ne (tgt := 14) hx hb dL_density_7 (by decide) (fun _ => ?_) (fun c9 => absurd c9 (by decide))
  refine lv_iconst (v := 1) hx hb dL_density_14 (by decide) ?_
  refine lv_istore_n (lv' := [(2, .int 1), (0, .int 2), (1, .int 0)]) hx hb dL_density_15 rfl hl (by decide) rfl (fun ls hl => ?_)
  refine lv_iconst (v := 0) hx hb dL_density_16 (by decide) ?_
  refine lv_istore_n (lv' := [(3, .int 0), (2, .int 1), (0, .int 2), (1, .int 0)]) hx hb dL_density_17 rfl hl (by decide) rfl (fun ls hl => ?_)
  refine lv_iload_n hx hb dL_density_18 rfl (lv_at hl 0 rfl) ?_
  refine lv_iload_n hx hb dL_density_19 rfl (lv_at hl 3 rfl) ?_
  refine lv_icmp_ge (tgt := 37) hx hb dL_density_20 (by decide) (fun _ => ?_) (fun c9 => (c9 (by decide)).elim)
  refine lv_iload_n hx hb dL_density_37 rfl (lv_at hl 1 rfl) ?_
  subst hQ
  exact g_iret hE hG hr (Nat.le_of_ble_eq_true rfl) (Nat.le_of_ble_eq_true rfl) dL_density_38 ⟨rfl, rfl⟩
abbrev rm_L_density_9 : Room := { frames := 1, cells := 0, slots := 0, locals := 50 }
set_option maxHeartbeats 4000000 in
set_option maxRecDepth 100000 in
theorem c_L_density_9 (l : Launch) (hfl : l.stackTraces = false) (D : va_G) (tc : Nat → ClassId) (A : Nat → Prop) (w : gW)  : gM l yL_density cL_density 4 (some .int) rm_L_density_9 D tc A [.int 2, .int 1] w (fun v w' => v = some (.int 2) ∧ w' = w) (fun _ => False) := by
  refine gM_of (by decide +kernel) (Nat.le_of_ble_eq_true rfl) ?_
  intro p e s m args below meth c ls Q hQ hE hG hr hnt hnm hl
  have hx := hE.1
  have hb := hE.2.1
  have hl : lv_has ls 4 [(0, .int 2), (1, .int 1)] := hl
  refine lv_iload_n hx hb dL_density_0 rfl (lv_at hl 0 rfl) ?_
  refine lv_iconst (v := 1) hx hb dL_density_1 (by decide) ?_
  refine lv_icmp_eq (tgt := 10) hx hb dL_density_2 (by decide) (fun c9 => absurd c9 (by decide)) (fun _ => ?_)
  refine lv_iload_n hx hb dL_density_5 rfl (lv_at hl 0 rfl) ?_
  refine lv_iconst (v := 3) hx hb dL_density_6 (by decide) ?_
  refine lv_icmp_ne (tgt := 14) hx hb dL_density_7 (by decide) (fun _ => ?_) (fun c9 => absurd c9 (by decide))
  refine lv_iconst (v := 1) hx hb dL_density_14 (by decide) ?_
  refine lv_istore_n (lv' := [(2, .int 1), (0, .int 2), (1, .int 1)]) hx hb dL_density_15 rfl hl (by decide) rfl (fun ls hl => ?_)
  refine lv_iconst (v := 0) hx hb dL_density_16 (by decide) ?_
  refine lv_istore_n (lv' := [(3, .int 0), (2, .int 1), (0, .int 2), (1, .int 1)]) hx hb dL_density_17 rfl hl (by decide) rfl (fun ls hl => ?_)
  refine lv_iload_n hx hb dL_density_18 rfl (lv_at hl 0 rfl) ?_
  refine lv_iload_n hx hb dL_density_19 rfl (lv_at hl 3 rfl) ?_
  refine lv_icmp_ge (tgt := 37) hx hb dL_density_20 (by decide) (fun c9 => absurd c9 (by decide)) (fun _ => ?_)
  refine lv_iload_n hx hb dL_density_23 rfl (lv_at hl 2 rfl) ?_
  refine lv_if_le (tgt := 37) hx hb dL_density_24 (by decide) (fun c9 => absurd c9 (by decide)) (fun _ => ?_)
  refine lv_iload_n hx hb dL_density_27 rfl (lv_at hl 1 rfl) ?_
  refine lv_iconst (v := 2) hx hb dL_density_28 (by decide) ?_
  refine lv_imul hx hb dL_density_29 ?_
  refine lv_topi (fun k_1 ek_1 => ?_)
  obtain rfl : k_1 = 2 := ek_1.trans (by decide)
  refine lv_istore_n (lv' := [(2, .int 2), (3, .int 0), (0, .int 2), (1, .int 1)]) hx hb dL_density_30 rfl hl (by decide) rfl (fun ls hl => ?_)
  refine lv_iinc (v := 1) (lv' := [(3, .int 1), (2, .int 2), (0, .int 2), (1, .int 1)]) hx hb dL_density_31 hl (k := 1) rfl (by decide) (by decide) rfl (fun ls hl => ?_)
  refine lv_goto (tgt := 18) hx hb dL_density_34 (by decide) ?_
  refine lv_iload_n hx hb dL_density_18 rfl (lv_at hl 0 rfl) ?_
  refine lv_iload_n hx hb dL_density_19 rfl (lv_at hl 3 rfl) ?_
  refine lv_icmp_ge (tgt := 37) hx hb dL_density_20 (by decide) (fun _ => ?_) (fun c9 => (c9 (by decide)).elim)
  refine lv_iload_n hx hb dL_density_37 rfl (lv_at hl 1 rfl) ?_
  subst hQ
  exact g_iret hE hG hr (Nat.le_of_ble_eq_true rfl) (Nat.le_of_ble_eq_true rfl) dL_density_38 ⟨rfl, rfl⟩
abbrev rm_L_density_10 : Room := { frames := 1, cells := 0, slots := 0, locals := 50 }
set_option maxHeartbeats 4000000 in
set_option maxRecDepth 100000 in
theorem c_L_density_10 (l : Launch) (hfl : l.stackTraces = false) (D : va_G) (tc : Nat → ClassId) (A : Nat → Prop) (w : gW)  : gM l yL_density cL_density 4 (some .int) rm_L_density_10 D tc A [.int 2, .int 2] w (fun v w' => v = some (.int 4) ∧ w' = w) (fun _ => False) := by
  refine gM_of (by decide +kernel) (Nat.le_of_ble_eq_true rfl) ?_
  intro p e s m args below meth c ls Q hQ hE hG hr hnt hnm hl
  have hx := hE.1
  have hb := hE.2.1
  have hl : lv_has ls 4 [(0, .int 2), (1, .int 2)] := hl
  refine lv_iload_n hx hb dL_density_0 rfl (lv_at hl 0 rfl) ?_
  refine lv_iconst (v := 1) hx hb dL_density_1 (by decide) ?_
  refine lv_icmp_eq (tgt := 10) hx hb dL_density_2 (by decide) (fun c9 => absurd c9 (by decide)) (fun _ => ?_)
  refine lv_iload_n hx hb dL_density_5 rfl (lv_at hl 0 rfl) ?_
  refine lv_iconst (v := 3) hx hb dL_density_6 (by decide) ?_
  refine lv_icmp_ne (tgt := 14) hx hb dL_density_7 (by decide) (fun _ => ?_) (fun c9 => absurd c9 (by decide))
  refine lv_iconst (v := 1) hx hb dL_density_14 (by decide) ?_
  refine lv_istore_n (lv' := [(2, .int 1), (0, .int 2), (1, .int 2)]) hx hb dL_density_15 rfl hl (by decide) rfl (fun ls hl => ?_)
  refine lv_iconst (v := 0) hx hb dL_density_16 (by decide) ?_
  refine lv_istore_n (lv' := [(3, .int 0), (2, .int 1), (0, .int 2), (1, .int 2)]) hx hb dL_density_17 rfl hl (by decide) rfl (fun ls hl => ?_)
  refine lv_iload_n hx hb dL_density_18 rfl (lv_at hl 0 rfl) ?_
  refine lv_iload_n hx hb dL_density_19 rfl (lv_at hl 3 rfl) ?_
  refine lv_icmp_ge (tgt := 37) hx hb dL_density_20 (by decide) (fun c9 => absurd c9 (by decide)) (fun _ => ?_)
  refine lv_iload_n hx hb dL_density_23 rfl (lv_at hl 2 rfl) ?_
  refine lv_if_le (tgt := 37) hx hb dL_density_24 (by decide) (fun c9 => absurd c9 (by decide)) (fun _ => ?_)
  refine lv_iload_n hx hb dL_density_27 rfl (lv_at hl 1 rfl) ?_
  refine lv_iconst (v := 2) hx hb dL_density_28 (by decide) ?_
  refine lv_imul hx hb dL_density_29 ?_
  refine lv_topi (fun k_1 ek_1 => ?_)
  obtain rfl : k_1 = 2 := ek_1.trans (by decide)
  refine lv_istore_n (lv' := [(2, .int 2), (3, .int 0), (0, .int 2), (1, .int 2)]) hx hb dL_density_30 rfl hl (by decide) rfl (fun ls hl => ?_)
  refine lv_iinc (v := 1) (lv' := [(3, .int 1), (2, .int 2), (0, .int 2), (1, .int 2)]) hx hb dL_density_31 hl (k := 1) rfl (by decide) (by decide) rfl (fun ls hl => ?_)
  refine lv_goto (tgt := 18) hx hb dL_density_34 (by decide) ?_
  refine lv_iload_n hx hb dL_density_18 rfl (lv_at hl 0 rfl) ?_
  refine lv_iload_n hx hb dL_density_19 rfl (lv_at hl 3 rfl) ?_
  refine lv_icmp_ge (tgt := 37) hx hb dL_density_20 (by decide) (fun c9 => absurd c9 (by decide)) (fun _ => ?_)
  refine lv_iload_n hx hb dL_density_23 rfl (lv_at hl 2 rfl) ?_
  refine lv_if_le (tgt := 37) hx hb dL_density_24 (by decide) (fun c9 => absurd c9 (by decide)) (fun _ => ?_)
  refine lv_iload_n hx hb dL_density_27 rfl (lv_at hl 1 rfl) ?_
  refine lv_iconst (v := 2) hx hb dL_density_28 (by decide) ?_
  refine lv_imul hx hb dL_density_29 ?_
  refine lv_topi (fun k_2 ek_2 => ?_)
  obtain rfl : k_2 = 4 := ek_2.trans (by decide)
  refine lv_istore_n (lv' := [(2, .int 4), (3, .int 1), (0, .int 2), (1, .int 2)]) hx hb dL_density_30 rfl hl (by decide) rfl (fun ls hl => ?_)
  refine lv_iinc (v := 2) (lv' := [(3, .int 2), (2, .int 4), (0, .int 2), (1, .int 2)]) hx hb dL_density_31 hl (k := 1) rfl (by decide) (by decide) rfl (fun ls hl => ?_)
  refine lv_goto (tgt := 18) hx hb dL_density_34 (by decide) ?_
  refine lv_iload_n hx hb dL_density_18 rfl (lv_at hl 0 rfl) ?_
  refine lv_iload_n hx hb dL_density_19 rfl (lv_at hl 3 rfl) ?_
  refine lv_icmp_ge (tgt := 37) hx hb dL_density_20 (by decide) (fun _ => ?_) (fun c9 => (c9 (by decide)).elim)
  refine lv_iload_n hx hb dL_density_37 rfl (lv_at hl 1 rfl) ?_
  subst hQ
  exact g_iret hE hG hr (Nat.le_of_ble_eq_true rfl) (Nat.le_of_ble_eq_true rfl) dL_density_38 ⟨rfl, rfl⟩
abbrev rm_L_density_11 : Room := { frames := 1, cells := 0, slots := 0, locals := 50 }
set_option maxHeartbeats 4000000 in
set_option maxRecDepth 100000 in
theorem c_L_density_11 (l : Launch) (hfl : l.stackTraces = false) (D : va_G) (tc : Nat → ClassId) (A : Nat → Prop) (w : gW)  : gM l yL_density cL_density 4 (some .int) rm_L_density_11 D tc A [.int 2, .int 3] w (fun v w' => v = some (.int 8) ∧ w' = w) (fun _ => False) := by
  refine gM_of (by decide +kernel) (Nat.le_of_ble_eq_true rfl) ?_
  intro p e s m args below meth c ls Q hQ hE hG hr hnt hnm hl
  have hx := hE.1
  have hb := hE.2.1
  have hl : lv_has ls 4 [(0, .int 2), (1, .int 3)] := hl
  refine lv_iload_n hx hb dL_density_0 rfl (lv_at hl 0 rfl) ?_
  refine lv_iconst (v := 1) hx hb dL_density_1 (by decide) ?_
  refine lv_icmp_eq (tgt := 10) hx hb dL_density_2 (by decide) (fun c9 => absurd c9 (by decide)) (fun _ => ?_)
  refine lv_iload_n hx hb dL_density_5 rfl (lv_at hl 0 rfl) ?_
  refine lv_iconst (v := 3) hx hb dL_density_6 (by decide) ?_
  refine lv_icmp_ne (tgt := 14) hx hb dL_density_7 (by decide) (fun _ => ?_) (fun c9 => absurd c9 (by decide))
  refine lv_iconst (v := 1) hx hb dL_density_14 (by decide) ?_
  refine lv_istore_n (lv' := [(2, .int 1), (0, .int 2), (1, .int 3)]) hx hb dL_density_15 rfl hl (by decide) rfl (fun ls hl => ?_)
  refine lv_iconst (v := 0) hx hb dL_density_16 (by decide) ?_
  refine lv_istore_n (lv' := [(3, .int 0), (2, .int 1), (0, .int 2), (1, .int 3)]) hx hb dL_density_17 rfl hl (by decide) rfl (fun ls hl => ?_)
  refine lv_iload_n hx hb dL_density_18 rfl (lv_at hl 0 rfl) ?_
  refine lv_iload_n hx hb dL_density_19 rfl (lv_at hl 3 rfl) ?_
  refine lv_icmp_ge (tgt := 37) hx hb dL_density_20 (by decide) (fun c9 => absurd c9 (by decide)) (fun _ => ?_)
  refine lv_iload_n hx hb dL_density_23 rfl (lv_at hl 2 rfl) ?_
  refine lv_if_le (tgt := 37) hx hb dL_density_24 (by decide) (fun c9 => absurd c9 (by decide)) (fun _ => ?_)
  refine lv_iload_n hx hb dL_density_27 rfl (lv_at hl 1 rfl) ?_
  refine lv_iconst (v := 2) hx hb dL_density_28 (by decide) ?_
  refine lv_imul hx hb dL_density_29 ?_
  refine lv_topi (fun k_1 ek_1 => ?_)
  obtain rfl : k_1 = 2 := ek_1.trans (by decide)
  refine lv_istore_n (lv' := [(2, .int 2), (3, .int 0), (0, .int 2), (1, .int 3)]) hx hb dL_density_30 rfl hl (by decide) rfl (fun ls hl => ?_)
  refine lv_iinc (v := 1) (lv' := [(3, .int 1), (2, .int 2), (0, .int 2), (1, .int 3)]) hx hb dL_density_31 hl (k := 1) rfl (by decide) (by decide) rfl (fun ls hl => ?_)
  refine lv_goto (tgt := 18) hx hb dL_density_34 (by decide) ?_
  refine lv_iload_n hx hb dL_density_18 rfl (lv_at hl 0 rfl) ?_
  refine lv_iload_n hx hb dL_density_19 rfl (lv_at hl 3 rfl) ?_
  refine lv_icmp_ge (tgt := 37) hx hb dL_density_20 (by decide) (fun c9 => absurd c9 (by decide)) (fun _ => ?_)
  refine lv_iload_n hx hb dL_density_23 rfl (lv_at hl 2 rfl) ?_
  refine lv_if_le (tgt := 37) hx hb dL_density_24 (by decide) (fun c9 => absurd c9 (by decide)) (fun _ => ?_)
  refine lv_iload_n hx hb dL_density_27 rfl (lv_at hl 1 rfl) ?_
  refine lv_iconst (v := 2) hx hb dL_density_28 (by decide) ?_
  refine lv_imul hx hb dL_density_29 ?_
  refine lv_topi (fun k_2 ek_2 => ?_)
  obtain rfl : k_2 = 4 := ek_2.trans (by decide)
  refine lv_istore_n (lv' := [(2, .int 4), (3, .int 1), (0, .int 2), (1, .int 3)]) hx hb dL_density_30 rfl hl (by decide) rfl (fun ls hl => ?_)
  refine lv_iinc (v := 2) (lv' := [(3, .int 2), (2, .int 4), (0, .int 2), (1, .int 3)]) hx hb dL_density_31 hl (k := 1) rfl (by decide) (by decide) rfl (fun ls hl => ?_)
  refine lv_goto (tgt := 18) hx hb dL_density_34 (by decide) ?_
  refine lv_iload_n hx hb dL_density_18 rfl (lv_at hl 0 rfl) ?_
  refine lv_iload_n hx hb dL_density_19 rfl (lv_at hl 3 rfl) ?_
  refine lv_icmp_ge (tgt := 37) hx hb dL_density_20 (by decide) (fun c9 => absurd c9 (by decide)) (fun _ => ?_)
  refine lv_iload_n hx hb dL_density_23 rfl (lv_at hl 2 rfl) ?_
  refine lv_if_le (tgt := 37) hx hb dL_density_24 (by decide) (fun c9 => absurd c9 (by decide)) (fun _ => ?_)
  refine lv_iload_n hx hb dL_density_27 rfl (lv_at hl 1 rfl) ?_
  refine lv_iconst (v := 2) hx hb dL_density_28 (by decide) ?_
  refine lv_imul hx hb dL_density_29 ?_
  refine lv_topi (fun k_3 ek_3 => ?_)
  obtain rfl : k_3 = 8 := ek_3.trans (by decide)
  refine lv_istore_n (lv' := [(2, .int 8), (3, .int 2), (0, .int 2), (1, .int 3)]) hx hb dL_density_30 rfl hl (by decide) rfl (fun ls hl => ?_)
  refine lv_iinc (v := 3) (lv' := [(3, .int 3), (2, .int 8), (0, .int 2), (1, .int 3)]) hx hb dL_density_31 hl (k := 1) rfl (by decide) (by decide) rfl (fun ls hl => ?_)
  refine lv_goto (tgt := 18) hx hb dL_density_34 (by decide) ?_
  refine lv_iload_n hx hb dL_density_18 rfl (lv_at hl 0 rfl) ?_
  refine lv_iload_n hx hb dL_density_19 rfl (lv_at hl 3 rfl) ?_
  refine lv_icmp_ge (tgt := 37) hx hb dL_density_20 (by decide) (fun _ => ?_) (fun c9 => (c9 (by decide)).elim)
  refine lv_iload_n hx hb dL_density_37 rfl (lv_at hl 1 rfl) ?_
  subst hQ
  exact g_iret hE hG hr (Nat.le_of_ble_eq_true rfl) (Nat.le_of_ble_eq_true rfl) dL_density_38 ⟨rfl, rfl⟩
abbrev rm_L_density_12 : Room := { frames := 1, cells := 0, slots := 0, locals := 50 }
set_option maxHeartbeats 4000000 in
set_option maxRecDepth 100000 in
theorem c_L_density_12 (l : Launch) (hfl : l.stackTraces = false) (D : va_G) (tc : Nat → ClassId) (A : Nat → Prop) (w : gW)  : gM l yL_density cL_density 4 (some .int) rm_L_density_12 D tc A [.int 3, .int 0] w (fun v w' => v = some (.int 2) ∧ w' = w) (fun _ => False) := by
  refine gM_of (by decide +kernel) (Nat.le_of_ble_eq_true rfl) ?_
  intro p e s m args below meth c ls Q hQ hE hG hr hnt hnm hl
  have hx := hE.1
  have hb := hE.2.1
  have hl : lv_has ls 4 [(0, .int 3), (1, .int 0)] := hl
  refine lv_iload_n hx hb dL_density_0 rfl (lv_at hl 0 rfl) ?_
  refine lv_iconst (v := 1) hx hb dL_density_1 (by decide) ?_
  refine lv_icmp_eq (tgt := 10) hx hb dL_density_2 (by decide) (fun c9 => absurd c9 (by decide)) (fun _ => ?_)
  refine lv_iload_n hx hb dL_density_5 rfl (lv_at hl 0 rfl) ?_
  refine lv_iconst (v := 3) hx hb dL_density_6 (by decide) ?_
  refine lv_icmp_ne (tgt := 14) hx hb dL_density_7 (by decide) (fun c9 => (c9 (by decide)).elim) (fun _ => ?_)
  refine lv_iconst (v := 2) hx hb dL_density_10 (by decide) ?_
  refine lv_goto (tgt := 15) hx hb dL_density_11 (by decide) ?_
  refine lv_istore_n (lv' := [(2, .int 2), (0, .int 3), (1, .int 0)]) hx hb dL_density_15 rfl hl (by decide) rfl (fun ls hl => ?_)
  refine lv_iconst (v := 0) hx hb dL_density_16 (by decide) ?_
  refine lv_istore_n (lv' := [(3, .int 0), (2, .int 2), (0, .int 3), (1, .int 0)]) hx hb dL_density_17 rfl hl (by decide) rfl (fun ls hl => ?_)
  refine lv_iload_n hx hb dL_density_18 rfl (lv_at hl 0 rfl) ?_
  refine lv_iload_n hx hb dL_density_19 rfl (lv_at hl 3 rfl) ?_
  refine lv_icmp_ge (tgt := 37) hx hb dL_density_20 (by decide) (fun _ => ?_) (fun c9 => (c9 (by decide)).elim)
  refine lv_iload_n hx hb dL_density_37 rfl (lv_at hl 1 rfl) ?_
  subst hQ
  exact g_iret hE hG hr (Nat.le_of_ble_eq_true rfl) (Nat.le_of_ble_eq_true rfl) dL_density_38 ⟨rfl, rfl⟩
abbrev rm_L_density_13 : Room := { frames := 1, cells := 0, slots := 0, locals := 50 }
set_option maxHeartbeats 4000000 in
set_option maxRecDepth 100000 in
theorem c_L_density_13 (l : Launch) (hfl : l.stackTraces = false) (D : va_G) (tc : Nat → ClassId) (A : Nat → Prop) (w : gW)  : gM l yL_density cL_density 4 (some .int) rm_L_density_13 D tc A [.int 3, .int 1] w (fun v w' => v = some (.int 4) ∧ w' = w) (fun _ => False) := by
  refine gM_of (by decide +kernel) (Nat.le_of_ble_eq_true rfl) ?_
  intro p e s m args below meth c ls Q hQ hE hG hr hnt hnm hl
  have hx := hE.1
  have hb := hE.2.1
  have hl : lv_has ls 4 [(0, .int 3), (1, .int 1)] := hl
  refine lv_iload_n hx hb dL_density_0 rfl (lv_at hl 0 rfl) ?_
  refine lv_iconst (v := 1) hx hb dL_density_1 (by decide) ?_
  refine lv_icmp_eq (tgt := 10) hx hb dL_density_2 (by decide) (fun c9 => absurd c9 (by decide)) (fun _ => ?_)
  refine lv_iload_n hx hb dL_density_5 rfl (lv_at hl 0 rfl) ?_
  refine lv_iconst (v := 3) hx hb dL_density_6 (by decide) ?_
  refine lv_icmp_ne (tgt := 14) hx hb dL_density_7 (by decide) (fun c9 => (c9 (by decide)).elim) (fun _ => ?_)
  refine lv_iconst (v := 2) hx hb dL_density_10 (by decide) ?_
  refine lv_goto (tgt := 15) hx hb dL_density_11 (by decide) ?_
  refine lv_istore_n (lv' := [(2, .int 2), (0, .int 3), (1, .int 1)]) hx hb dL_density_15 rfl hl (by decide) rfl (fun ls hl => ?_)
  refine lv_iconst (v := 0) hx hb dL_density_16 (by decide) ?_
  refine lv_istore_n (lv' := [(3, .int 0), (2, .int 2), (0, .int 3), (1, .int 1)]) hx hb dL_density_17 rfl hl (by decide) rfl (fun ls hl => ?_)
  refine lv_iload_n hx hb dL_density_18 rfl (lv_at hl 0 rfl) ?_
  refine lv_iload_n hx hb dL_density_19 rfl (lv_at hl 3 rfl) ?_
  refine lv_icmp_ge (tgt := 37) hx hb dL_density_20 (by decide) (fun c9 => absurd c9 (by decide)) (fun _ => ?_)
  refine lv_iload_n hx hb dL_density_23 rfl (lv_at hl 2 rfl) ?_
  refine lv_if_le (tgt := 37) hx hb dL_density_24 (by decide) (fun c9 => absurd c9 (by decide)) (fun _ => ?_)
  refine lv_iload_n hx hb dL_density_27 rfl (lv_at hl 1 rfl) ?_
  refine lv_iconst (v := 2) hx hb dL_density_28 (by decide) ?_
  refine lv_imul hx hb dL_density_29 ?_
  refine lv_topi (fun k_1 ek_1 => ?_)
  obtain rfl : k_1 = 4 := ek_1.trans (by decide)
  refine lv_istore_n (lv' := [(2, .int 4), (3, .int 0), (0, .int 3), (1, .int 1)]) hx hb dL_density_30 rfl hl (by decide) rfl (fun ls hl => ?_)
  refine lv_iinc (v := 1) (lv' := [(3, .int 1), (2, .int 4), (0, .int 3), (1, .int 1)]) hx hb dL_density_31 hl (k := 1) rfl (by decide) (by decide) rfl (fun ls hl => ?_)
  refine lv_goto (tgt := 18) hx hb dL_density_34 (by decide) ?_
  refine lv_iload_n hx hb dL_density_18 rfl (lv_at hl 0 rfl) ?_
  refine lv_iload_n hx hb dL_density_19 rfl (lv_at hl 3 rfl) ?_
  refine lv_icmp_ge (tgt := 37) hx hb dL_density_20 (by decide) (fun _ => ?_) (fun c9 => (c9 (by decide)).elim)
  refine lv_iload_n hx hb dL_density_37 rfl (lv_at hl 1 rfl) ?_
  subst hQ
  exact g_iret hE hG hr (Nat.le_of_ble_eq_true rfl) (Nat.le_of_ble_eq_true rfl) dL_density_38 ⟨rfl, rfl⟩
abbrev rm_L_density_14 : Room := { frames := 1, cells := 0, slots := 0, locals := 50 }
set_option maxHeartbeats 4000000 in
set_option maxRecDepth 100000 in
theorem c_L_density_14 (l : Launch) (hfl : l.stackTraces = false) (D : va_G) (tc : Nat → ClassId) (A : Nat → Prop) (w : gW)  : gM l yL_density cL_density 4 (some .int) rm_L_density_14 D tc A [.int 3, .int 2] w (fun v w' => v = some (.int 8) ∧ w' = w) (fun _ => False) := by
  refine gM_of (by decide +kernel) (Nat.le_of_ble_eq_true rfl) ?_
  intro p e s m args below meth c ls Q hQ hE hG hr hnt hnm hl
  have hx := hE.1
  have hb := hE.2.1
  have hl : lv_has ls 4 [(0, .int 3), (1, .int 2)] := hl
  refine lv_iload_n hx hb dL_density_0 rfl (lv_at hl 0 rfl) ?_
  refine lv_iconst (v := 1) hx hb dL_density_1 (by decide) ?_
  refine lv_icmp_eq (tgt := 10) hx hb dL_density_2 (by decide) (fun c9 => absurd c9 (by decide)) (fun _ => ?_)
  refine lv_iload_n hx hb dL_density_5 rfl (lv_at hl 0 rfl) ?_
  refine lv_iconst (v := 3) hx hb dL_density_6 (by decide) ?_
  refine lv_icmp_ne (tgt := 14) hx hb dL_density_7 (by decide) (fun c9 => (c9 (by decide)).elim) (fun _ => ?_)
  refine lv_iconst (v := 2) hx hb dL_density_10 (by decide) ?_
  refine lv_goto (tgt := 15) hx hb dL_density_11 (by decide) ?_
  refine lv_istore_n (lv' := [(2, .int 2), (0, .int 3), (1, .int 2)]) hx hb dL_density_15 rfl hl (by decide) rfl (fun ls hl => ?_)
  refine lv_iconst (v := 0) hx hb dL_density_16 (by decide) ?_
  refine lv_istore_n (lv' := [(3, .int 0), (2, .int 2), (0, .int 3), (1, .int 2)]) hx hb dL_density_17 rfl hl (by decide) rfl (fun ls hl => ?_)
  refine lv_iload_n hx hb dL_density_18 rfl (lv_at hl 0 rfl) ?_
  refine lv_iload_n hx hb dL_density_19 rfl (lv_at hl 3 rfl) ?_
  refine lv_icmp_ge (tgt := 37) hx hb dL_density_20 (by decide) (fun c9 => absurd c9 (by decide)) (fun _ => ?_)
  refine lv_iload_n hx hb dL_density_23 rfl (lv_at hl 2 rfl) ?_
  refine lv_if_le (tgt := 37) hx hb dL_density_24 (by decide) (fun c9 => absurd c9 (by decide)) (fun _ => ?_)
  refine lv_iload_n hx hb dL_density_27 rfl (lv_at hl 1 rfl) ?_
  refine lv_iconst (v := 2) hx hb dL_density_28 (by decide) ?_
  refine lv_imul hx hb dL_density_29 ?_
  refine lv_topi (fun k_1 ek_1 => ?_)
  obtain rfl : k_1 = 4 := ek_1.trans (by decide)
  refine lv_istore_n (lv' := [(2, .int 4), (3, .int 0), (0, .int 3), (1, .int 2)]) hx hb dL_density_30 rfl hl (by decide) rfl (fun ls hl => ?_)
  refine lv_iinc (v := 1) (lv' := [(3, .int 1), (2, .int 4), (0, .int 3), (1, .int 2)]) hx hb dL_density_31 hl (k := 1) rfl (by decide) (by decide) rfl (fun ls hl => ?_)
  refine lv_goto (tgt := 18) hx hb dL_density_34 (by decide) ?_
  refine lv_iload_n hx hb dL_density_18 rfl (lv_at hl 0 rfl) ?_
  refine lv_iload_n hx hb dL_density_19 rfl (lv_at hl 3 rfl) ?_
  refine lv_icmp_ge (tgt := 37) hx hb dL_density_20 (by decide) (fun c9 => absurd c9 (by decide)) (fun _ => ?_)
  refine lv_iload_n hx hb dL_density_23 rfl (lv_at hl 2 rfl) ?_
  refine lv_if_le (tgt := 37) hx hb dL_density_24 (by decide) (fun c9 => absurd c9 (by decide)) (fun _ => ?_)
  refine lv_iload_n hx hb dL_density_27 rfl (lv_at hl 1 rfl) ?_
  refine lv_iconst (v := 2) hx hb dL_density_28 (by decide) ?_
  refine lv_imul hx hb dL_density_29 ?_
  refine lv_topi (fun k_2 ek_2 => ?_)
  obtain rfl : k_2 = 8 := ek_2.trans (by decide)
  refine lv_istore_n (lv' := [(2, .int 8), (3, .int 1), (0, .int 3), (1, .int 2)]) hx hb dL_density_30 rfl hl (by decide) rfl (fun ls hl => ?_)
  refine lv_iinc (v := 2) (lv' := [(3, .int 2), (2, .int 8), (0, .int 3), (1, .int 2)]) hx hb dL_density_31 hl (k := 1) rfl (by decide) (by decide) rfl (fun ls hl => ?_)
  refine lv_goto (tgt := 18) hx hb dL_density_34 (by decide) ?_
  refine lv_iload_n hx hb dL_density_18 rfl (lv_at hl 0 rfl) ?_
  refine lv_iload_n hx hb dL_density_19 rfl (lv_at hl 3 rfl) ?_
  refine lv_icmp_ge (tgt := 37) hx hb dL_density_20 (by decide) (fun _ => ?_) (fun c9 => (c9 (by decide)).elim)
  refine lv_iload_n hx hb dL_density_37 rfl (lv_at hl 1 rfl) ?_
  subst hQ
  exact g_iret hE hG hr (Nat.le_of_ble_eq_true rfl) (Nat.le_of_ble_eq_true rfl) dL_density_38 ⟨rfl, rfl⟩
abbrev rm_L_density_15 : Room := { frames := 1, cells := 0, slots := 0, locals := 50 }
set_option maxHeartbeats 4000000 in
set_option maxRecDepth 100000 in
theorem c_L_density_15 (l : Launch) (hfl : l.stackTraces = false) (D : va_G) (tc : Nat → ClassId) (A : Nat → Prop) (w : gW)  : gM l yL_density cL_density 4 (some .int) rm_L_density_15 D tc A [.int 3, .int 3] w (fun v w' => v = some (.int 16) ∧ w' = w) (fun _ => False) := by
  refine gM_of (by decide +kernel) (Nat.le_of_ble_eq_true rfl) ?_
  intro p e s m args below meth c ls Q hQ hE hG hr hnt hnm hl
  have hx := hE.1
  have hb := hE.2.1
  have hl : lv_has ls 4 [(0, .int 3), (1, .int 3)] := hl
  refine lv_iload_n hx hb dL_density_0 rfl (lv_at hl 0 rfl) ?_
  refine lv_iconst (v := 1) hx hb dL_density_1 (by decide) ?_
  refine lv_icmp_eq (tgt := 10) hx hb dL_density_2 (by decide) (fun c9 => absurd c9 (by decide)) (fun _ => ?_)
  refine lv_iload_n hx hb dL_density_5 rfl (lv_at hl 0 rfl) ?_
  refine lv_iconst (v := 3) hx hb dL_density_6 (by decide) ?_
  refine lv_icmp_ne (tgt := 14) hx hb dL_density_7 (by decide) (fun c9 => (c9 (by decide)).elim) (fun _ => ?_)
  refine lv_iconst (v := 2) hx hb dL_density_10 (by decide) ?_
  refine lv_goto (tgt := 15) hx hb dL_density_11 (by decide) ?_
  refine lv_istore_n (lv' := [(2, .int 2), (0, .int 3), (1, .int 3)]) hx hb dL_density_15 rfl hl (by decide) rfl (fun ls hl => ?_)
  refine lv_iconst (v := 0) hx hb dL_density_16 (by decide) ?_
  refine lv_istore_n (lv' := [(3, .int 0), (2, .int 2), (0, .int 3), (1, .int 3)]) hx hb dL_density_17 rfl hl (by decide) rfl (fun ls hl => ?_)
  refine lv_iload_n hx hb dL_density_18 rfl (lv_at hl 0 rfl) ?_
  refine lv_iload_n hx hb dL_density_19 rfl (lv_at hl 3 rfl) ?_
  refine lv_icmp_ge (tgt := 37) hx hb dL_density_20 (by decide) (fun c9 => absurd c9 (by decide)) (fun _ => ?_)
  refine lv_iload_n hx hb dL_density_23 rfl (lv_at hl 2 rfl) ?_
  refine lv_if_le (tgt := 37) hx hb dL_density_24 (by decide) (fun c9 => absurd c9 (by decide)) (fun _ => ?_)
  refine lv_iload_n hx hb dL_density_27 rfl (lv_at hl 1 rfl) ?_
  refine lv_iconst (v := 2) hx hb dL_density_28 (by decide) ?_
  refine lv_imul hx hb dL_density_29 ?_
  refine lv_topi (fun k_1 ek_1 => ?_)
  obtain rfl : k_1 = 4 := ek_1.trans (by decide)
  refine lv_istore_n (lv' := [(2, .int 4), (3, .int 0), (0, .int 3), (1, .int 3)]) hx hb dL_density_30 rfl hl (by decide) rfl (fun ls hl => ?_)
  refine lv_iinc (v := 1) (lv' := [(3, .int 1), (2, .int 4), (0, .int 3), (1, .int 3)]) hx hb dL_density_31 hl (k := 1) rfl (by decide) (by decide) rfl (fun ls hl => ?_)
  refine lv_goto (tgt := 18) hx hb dL_density_34 (by decide) ?_
  refine lv_iload_n hx hb dL_density_18 rfl (lv_at hl 0 rfl) ?_
  refine lv_iload_n hx hb dL_density_19 rfl (lv_at hl 3 rfl) ?_
  refine lv_icmp_ge (tgt := 37) hx hb dL_density_20 (by decide) (fun c9 => absurd c9 (by decide)) (fun _ => ?_)
  refine lv_iload_n hx hb dL_density_23 rfl (lv_at hl 2 rfl) ?_
  refine lv_if_le (tgt := 37) hx hb dL_density_24 (by decide) (fun c9 => absurd c9 (by decide)) (fun _ => ?_)
  refine lv_iload_n hx hb dL_density_27 rfl (lv_at hl 1 rfl) ?_
  refine lv_iconst (v := 2) hx hb dL_density_28 (by decide) ?_
  refine lv_imul hx hb dL_density_29 ?_
  refine lv_topi (fun k_2 ek_2 => ?_)
  obtain rfl : k_2 = 8 := ek_2.trans (by decide)
  refine lv_istore_n (lv' := [(2, .int 8), (3, .int 1), (0, .int 3), (1, .int 3)]) hx hb dL_density_30 rfl hl (by decide) rfl (fun ls hl => ?_)
  refine lv_iinc (v := 2) (lv' := [(3, .int 2), (2, .int 8), (0, .int 3), (1, .int 3)]) hx hb dL_density_31 hl (k := 1) rfl (by decide) (by decide) rfl (fun ls hl => ?_)
  refine lv_goto (tgt := 18) hx hb dL_density_34 (by decide) ?_
  refine lv_iload_n hx hb dL_density_18 rfl (lv_at hl 0 rfl) ?_
  refine lv_iload_n hx hb dL_density_19 rfl (lv_at hl 3 rfl) ?_
  refine lv_icmp_ge (tgt := 37) hx hb dL_density_20 (by decide) (fun c9 => absurd c9 (by decide)) (fun _ => ?_)
  refine lv_iload_n hx hb dL_density_23 rfl (lv_at hl 2 rfl) ?_
  refine lv_if_le (tgt := 37) hx hb dL_density_24 (by decide) (fun c9 => absurd c9 (by decide)) (fun _ => ?_)
  refine lv_iload_n hx hb dL_density_27 rfl (lv_at hl 1 rfl) ?_
  refine lv_iconst (v := 2) hx hb dL_density_28 (by decide) ?_
  refine lv_imul hx hb dL_density_29 ?_
  refine lv_topi (fun k_3 ek_3 => ?_)
  obtain rfl : k_3 = 16 := ek_3.trans (by decide)
  refine lv_istore_n (lv' := [(2, .int 16), (3, .int 2), (0, .int 3), (1, .int 3)]) hx hb dL_density_30 rfl hl (by decide) rfl (fun ls hl => ?_)
  refine lv_iinc (v := 3) (lv' := [(3, .int 3), (2, .int 16), (0, .int 3), (1, .int 3)]) hx hb dL_density_31 hl (k := 1) rfl (by decide) (by decide) rfl (fun ls hl => ?_)
  refine lv_goto (tgt := 18) hx hb dL_density_34 (by decide) ?_
  refine lv_iload_n hx hb dL_density_18 rfl (lv_at hl 0 rfl) ?_
  refine lv_iload_n hx hb dL_density_19 rfl (lv_at hl 3 rfl) ?_
  refine lv_icmp_ge (tgt := 37) hx hb dL_density_20 (by decide) (fun _ => ?_) (fun c9 => (c9 (by decide)).elim)
  refine lv_iload_n hx hb dL_density_37 rfl (lv_at hl 1 rfl) ?_
  subst hQ
  exact g_iret hE hG hr (Nat.le_of_ble_eq_true rfl) (Nat.le_of_ble_eq_true rfl) dL_density_38 ⟨rfl, rfl⟩
abbrev rm_L_density : Room := { frames := 1, cells := 0, slots := 0, locals := 50 }
theorem c_L_density (l : Launch) (hfl : l.stackTraces = false) (D : va_G) (tc : Nat → ClassId) (A : Nat → Prop) (w : gW) (a b : Nat) (ha : a < 4) (hb : b < 4) : gM l yL_density cL_density 4 (some .int) rm_L_density D tc A [.int (nI a), .int (nI b)] w (fun v w' => v = some (.int (nI (kk (4 * a + b)))) ∧ w' = w) (fun _ => False) := by
  match a, ha, b, hb with
  | 0, _, 0, _ => exact c_L_density_0 l hfl D tc A w
  | 0, _, 1, _ => exact c_L_density_1 l hfl D tc A w
  | 0, _, 2, _ => exact c_L_density_2 l hfl D tc A w
  | 0, _, 3, _ => exact c_L_density_3 l hfl D tc A w
  | 1, _, 0, _ => exact c_L_density_4 l hfl D tc A w
  | 1, _, 1, _ => exact c_L_density_5 l hfl D tc A w
  | 1, _, 2, _ => exact c_L_density_6 l hfl D tc A w
  | 1, _, 3, _ => exact c_L_density_7 l hfl D tc A w
  | 2, _, 0, _ => exact c_L_density_8 l hfl D tc A w
  | 2, _, 1, _ => exact c_L_density_9 l hfl D tc A w
  | 2, _, 2, _ => exact c_L_density_10 l hfl D tc A w
  | 2, _, 3, _ => exact c_L_density_11 l hfl D tc A w
  | 3, _, 0, _ => exact c_L_density_12 l hfl D tc A w
  | 3, _, 1, _ => exact c_L_density_13 l hfl D tc A w
  | 3, _, 2, _ => exact c_L_density_14 l hfl D tc A w
  | 3, _, 3, _ => exact c_L_density_15 l hfl D tc A w
def f_dpL1 (y : Int32) : Int32 := (if (y - y / 4 * 4) = 0 then 0 else (if (y - y / 2 * 2) = 0 then 1 else (if (y - y / 1 * 1) = 0 then 2 else (-1))))
abbrev rm_L_depth_1 : Room := { frames := 1, cells := 0, slots := 0, locals := 50 }
theorem nm_L_depth : gNm yL_depth 2 := ⟨by decide +kernel, by decide +kernel, by decide +kernel⟩
set_option maxHeartbeats 4000000 in
set_option maxRecDepth 100000 in
theorem c_L_depth_1 (l : Launch) (hfl : l.stackTraces = false) (D : va_G) (tc : Nat → ClassId) (A : Nat → Prop) (w : gW) (y : Int32) : gM l yL_depth cL_depth 3 (some .int) rm_L_depth_1 D tc A [.int 4, .int y] w (fun v w' => v = some (.int (f_dpL1 y)) ∧ w' = w) (fun _ => False) := by
  refine gM_of (by decide +kernel) (Nat.le_of_ble_eq_true rfl) ?_
  intro p e s m args below meth c ls Q hQ hE hG hr hnt hnm hl
  have hx := hE.1
  have hb := hE.2.1
  have hl : lv_has ls 3 [(0, .int 4), (1, .int y)] := hl
  refine lv_iconst (v := 0) hx hb dL_depth_0 (by decide) ?_
  refine lv_istore_n (lv' := [(2, .int 0), (0, .int 4), (1, .int y)]) hx hb dL_depth_1 rfl hl (by decide) rfl (fun ls hl => ?_)
  refine lv_iload_n hx hb dL_depth_2 rfl (lv_at hl 0 rfl) ?_
  refine lv_bipush (v := 7) hx hb dL_depth_3 (by decide) ?_
  refine lv_icmp_ge (tgt := 32) hx hb dL_depth_5 (by decide) (fun c9 => absurd c9 (by decide)) (fun _ => ?_)
  refine lv_iload_n hx hb dL_depth_8 rfl (lv_at hl 1 rfl) ?_
  refine lv_iconst (v := 1) hx hb dL_depth_9 (by decide) ?_
  refine lv_iload_n hx hb dL_depth_10 rfl (lv_at hl 0 rfl) ?_
  refine lv_ishl hx hb dL_depth_11 ?_
  refine lv_topi (fun k_1 ek_1 => ?_)
  obtain rfl : k_1 = 1 := ek_1.trans (by decide)
  refine lv_irem hx hb dL_depth_12 (by decide) ?_
  refine lv_topi (fun k_2 ek_2 => ?_)
  obtain rfl : k_2 = 0 := ek_2.trans (by decide)
  refine lv_if_ne (tgt := 26) hx hb dL_depth_13 (by decide) (fun c9 => (c9 (by decide)).elim) (fun _ => ?_)
  refine lv_iload_n hx hb dL_depth_16 rfl (lv_at hl 2 rfl) ?_
  refine lv_iload_n hx hb dL_depth_17 rfl (lv_at hl 1 rfl) ?_
  refine lv_iload_n hx hb dL_depth_18 rfl (lv_at hl 0 rfl) ?_
  refine lv_ishr hx hb dL_depth_19 ?_
  refine lv_topi (fun k_3 ek_3 => ?_)
  obtain rfl : k_3 = 4 := ek_3.trans (by decide)
  refine lv_irem hx hb dL_depth_20 (by decide) ?_
  refine lv_if_ne (tgt := 26) hx hb dL_depth_21 (by decide) (fun c_4 => ?_) (fun c_4 => ?_)
  · skip
    refine lv_iinc (v := 1) (lv' := [(2, .int 1), (0, .int 4), (1, .int y)]) hx hb dL_depth_26 hl (k := 0) rfl (by decide) (by decide) rfl (fun ls hl => ?_)
    refine lv_goto (tgt := 2) hx hb dL_depth_29 (by decide) ?_
    refine lv_iload_n hx hb dL_depth_2 rfl (lv_at hl 0 rfl) ?_
    refine lv_bipush (v := 7) hx hb dL_depth_3 (by decide) ?_
    refine lv_icmp_ge (tgt := 32) hx hb dL_depth_5 (by decide) (fun c9 => absurd c9 (by decide)) (fun _ => ?_)
    refine lv_iload_n hx hb dL_depth_8 rfl (lv_at hl 1 rfl) ?_
    refine lv_iconst (v := 1) hx hb dL_depth_9 (by decide) ?_
    refine lv_iload_n hx hb dL_depth_10 rfl (lv_at hl 0 rfl) ?_
    refine lv_ishl hx hb dL_depth_11 ?_
    refine lv_topi (fun k_5 ek_5 => ?_)
    obtain rfl : k_5 = 2 := ek_5.trans (by decide)
    refine lv_irem hx hb dL_depth_12 (by decide) ?_
    refine lv_topi (fun k_6 ek_6 => ?_)
    obtain rfl : k_6 = 0 := ek_6.trans (by decide)
    refine lv_if_ne (tgt := 26) hx hb dL_depth_13 (by decide) (fun c9 => (c9 (by decide)).elim) (fun _ => ?_)
    refine lv_iload_n hx hb dL_depth_16 rfl (lv_at hl 2 rfl) ?_
    refine lv_iload_n hx hb dL_depth_17 rfl (lv_at hl 1 rfl) ?_
    refine lv_iload_n hx hb dL_depth_18 rfl (lv_at hl 0 rfl) ?_
    refine lv_ishr hx hb dL_depth_19 ?_
    refine lv_topi (fun k_7 ek_7 => ?_)
    obtain rfl : k_7 = 2 := ek_7.trans (by decide)
    refine lv_irem hx hb dL_depth_20 (by decide) ?_
    refine lv_if_ne (tgt := 26) hx hb dL_depth_21 (by decide) (fun c_8 => ?_) (fun c_8 => ?_)
    · skip
      refine lv_iinc (v := 2) (lv' := [(2, .int 2), (0, .int 4), (1, .int y)]) hx hb dL_depth_26 hl (k := 0) rfl (by decide) (by decide) rfl (fun ls hl => ?_)
      refine lv_goto (tgt := 2) hx hb dL_depth_29 (by decide) ?_
      refine lv_iload_n hx hb dL_depth_2 rfl (lv_at hl 0 rfl) ?_
      refine lv_bipush (v := 7) hx hb dL_depth_3 (by decide) ?_
      refine lv_icmp_ge (tgt := 32) hx hb dL_depth_5 (by decide) (fun c9 => absurd c9 (by decide)) (fun _ => ?_)
      refine lv_iload_n hx hb dL_depth_8 rfl (lv_at hl 1 rfl) ?_
      refine lv_iconst (v := 1) hx hb dL_depth_9 (by decide) ?_
      refine lv_iload_n hx hb dL_depth_10 rfl (lv_at hl 0 rfl) ?_
      refine lv_ishl hx hb dL_depth_11 ?_
      refine lv_topi (fun k_9 ek_9 => ?_)
      obtain rfl : k_9 = 4 := ek_9.trans (by decide)
      refine lv_irem hx hb dL_depth_12 (by decide) ?_
      refine lv_topi (fun k_10 ek_10 => ?_)
      obtain rfl : k_10 = 0 := ek_10.trans (by decide)
      refine lv_if_ne (tgt := 26) hx hb dL_depth_13 (by decide) (fun c9 => (c9 (by decide)).elim) (fun _ => ?_)
      refine lv_iload_n hx hb dL_depth_16 rfl (lv_at hl 2 rfl) ?_
      refine lv_iload_n hx hb dL_depth_17 rfl (lv_at hl 1 rfl) ?_
      refine lv_iload_n hx hb dL_depth_18 rfl (lv_at hl 0 rfl) ?_
      refine lv_ishr hx hb dL_depth_19 ?_
      refine lv_topi (fun k_11 ek_11 => ?_)
      obtain rfl : k_11 = 1 := ek_11.trans (by decide)
      refine lv_irem hx hb dL_depth_20 (by decide) ?_
      refine lv_if_ne (tgt := 26) hx hb dL_depth_21 (by decide) (fun c_12 => ?_) (fun c_12 => ?_)
      · skip
        refine lv_iinc (v := 3) (lv' := [(2, .int 3), (0, .int 4), (1, .int y)]) hx hb dL_depth_26 hl (k := 0) rfl (by decide) (by decide) rfl (fun ls hl => ?_)
        refine lv_goto (tgt := 2) hx hb dL_depth_29 (by decide) ?_
        refine lv_iload_n hx hb dL_depth_2 rfl (lv_at hl 0 rfl) ?_
        refine lv_bipush (v := 7) hx hb dL_depth_3 (by decide) ?_
        refine lv_icmp_ge (tgt := 32) hx hb dL_depth_5 (by decide) (fun c9 => absurd c9 (by decide)) (fun _ => ?_)
        refine lv_iload_n hx hb dL_depth_8 rfl (lv_at hl 1 rfl) ?_
        refine lv_iconst (v := 1) hx hb dL_depth_9 (by decide) ?_
        refine lv_iload_n hx hb dL_depth_10 rfl (lv_at hl 0 rfl) ?_
        refine lv_ishl hx hb dL_depth_11 ?_
        refine lv_topi (fun k_13 ek_13 => ?_)
        obtain rfl : k_13 = 8 := ek_13.trans (by decide)
        refine lv_irem hx hb dL_depth_12 (by decide) ?_
        refine lv_topi (fun k_14 ek_14 => ?_)
        obtain rfl : k_14 = 4 := ek_14.trans (by decide)
        refine lv_if_ne (tgt := 26) hx hb dL_depth_13 (by decide) (fun _ => ?_) (fun c9 => absurd c9 (by decide))
        refine lv_iinc (v := 4) (lv' := [(2, .int 4), (0, .int 4), (1, .int y)]) hx hb dL_depth_26 hl (k := 0) rfl (by decide) (by decide) rfl (fun ls hl => ?_)
        refine lv_goto (tgt := 2) hx hb dL_depth_29 (by decide) ?_
        refine lv_iload_n hx hb dL_depth_2 rfl (lv_at hl 0 rfl) ?_
        refine lv_bipush (v := 7) hx hb dL_depth_3 (by decide) ?_
        refine lv_icmp_ge (tgt := 32) hx hb dL_depth_5 (by decide) (fun c9 => absurd c9 (by decide)) (fun _ => ?_)
        refine lv_iload_n hx hb dL_depth_8 rfl (lv_at hl 1 rfl) ?_
        refine lv_iconst (v := 1) hx hb dL_depth_9 (by decide) ?_
        refine lv_iload_n hx hb dL_depth_10 rfl (lv_at hl 0 rfl) ?_
        refine lv_ishl hx hb dL_depth_11 ?_
        refine lv_topi (fun k_15 ek_15 => ?_)
        obtain rfl : k_15 = 16 := ek_15.trans (by decide)
        refine lv_irem hx hb dL_depth_12 (by decide) ?_
        refine lv_topi (fun k_16 ek_16 => ?_)
        obtain rfl : k_16 = 4 := ek_16.trans (by decide)
        refine lv_if_ne (tgt := 26) hx hb dL_depth_13 (by decide) (fun _ => ?_) (fun c9 => absurd c9 (by decide))
        refine lv_iinc (v := 5) (lv' := [(2, .int 5), (0, .int 4), (1, .int y)]) hx hb dL_depth_26 hl (k := 0) rfl (by decide) (by decide) rfl (fun ls hl => ?_)
        refine lv_goto (tgt := 2) hx hb dL_depth_29 (by decide) ?_
        refine lv_iload_n hx hb dL_depth_2 rfl (lv_at hl 0 rfl) ?_
        refine lv_bipush (v := 7) hx hb dL_depth_3 (by decide) ?_
        refine lv_icmp_ge (tgt := 32) hx hb dL_depth_5 (by decide) (fun c9 => absurd c9 (by decide)) (fun _ => ?_)
        refine lv_iload_n hx hb dL_depth_8 rfl (lv_at hl 1 rfl) ?_
        refine lv_iconst (v := 1) hx hb dL_depth_9 (by decide) ?_
        refine lv_iload_n hx hb dL_depth_10 rfl (lv_at hl 0 rfl) ?_
        refine lv_ishl hx hb dL_depth_11 ?_
        refine lv_topi (fun k_17 ek_17 => ?_)
        obtain rfl : k_17 = 32 := ek_17.trans (by decide)
        refine lv_irem hx hb dL_depth_12 (by decide) ?_
        refine lv_topi (fun k_18 ek_18 => ?_)
        obtain rfl : k_18 = 4 := ek_18.trans (by decide)
        refine lv_if_ne (tgt := 26) hx hb dL_depth_13 (by decide) (fun _ => ?_) (fun c9 => absurd c9 (by decide))
        refine lv_iinc (v := 6) (lv' := [(2, .int 6), (0, .int 4), (1, .int y)]) hx hb dL_depth_26 hl (k := 0) rfl (by decide) (by decide) rfl (fun ls hl => ?_)
        refine lv_goto (tgt := 2) hx hb dL_depth_29 (by decide) ?_
        refine lv_iload_n hx hb dL_depth_2 rfl (lv_at hl 0 rfl) ?_
        refine lv_bipush (v := 7) hx hb dL_depth_3 (by decide) ?_
        refine lv_icmp_ge (tgt := 32) hx hb dL_depth_5 (by decide) (fun c9 => absurd c9 (by decide)) (fun _ => ?_)
        refine lv_iload_n hx hb dL_depth_8 rfl (lv_at hl 1 rfl) ?_
        refine lv_iconst (v := 1) hx hb dL_depth_9 (by decide) ?_
        refine lv_iload_n hx hb dL_depth_10 rfl (lv_at hl 0 rfl) ?_
        refine lv_ishl hx hb dL_depth_11 ?_
        refine lv_topi (fun k_19 ek_19 => ?_)
        obtain rfl : k_19 = 64 := ek_19.trans (by decide)
        refine lv_irem hx hb dL_depth_12 (by decide) ?_
        refine lv_topi (fun k_20 ek_20 => ?_)
        obtain rfl : k_20 = 4 := ek_20.trans (by decide)
        refine lv_if_ne (tgt := 26) hx hb dL_depth_13 (by decide) (fun _ => ?_) (fun c9 => absurd c9 (by decide))
        refine lv_iinc (v := 7) (lv' := [(2, .int 7), (0, .int 4), (1, .int y)]) hx hb dL_depth_26 hl (k := 0) rfl (by decide) (by decide) rfl (fun ls hl => ?_)
        refine lv_goto (tgt := 2) hx hb dL_depth_29 (by decide) ?_
        refine lv_iload_n hx hb dL_depth_2 rfl (lv_at hl 0 rfl) ?_
        refine lv_bipush (v := 7) hx hb dL_depth_3 (by decide) ?_
        refine lv_icmp_ge (tgt := 32) hx hb dL_depth_5 (by decide) (fun _ => ?_) (fun c9 => (c9 (by decide)).elim)
        refine lv_iconst (v := (-1)) hx hb dL_depth_32 (by decide) ?_
        subst hQ
        exact g_iret hE hG hr (Nat.le_of_ble_eq_true rfl) (Nat.le_of_ble_eq_true rfl) dL_depth_33 ⟨by unfold f_dpL1; rw [if_neg c_4, if_neg c_8, if_neg c_12], rfl⟩
      · skip
        refine lv_iload_n hx hb dL_depth_24 rfl (lv_at hl 0 rfl) ?_
        subst hQ
        exact g_iret hE hG hr (Nat.le_of_ble_eq_true rfl) (Nat.le_of_ble_eq_true rfl) dL_depth_25 ⟨by unfold f_dpL1; rw [if_neg c_4, if_neg c_8, if_pos c_12], rfl⟩
    · skip
      refine lv_iload_n hx hb dL_depth_24 rfl (lv_at hl 0 rfl) ?_
      subst hQ
      exact g_iret hE hG hr (Nat.le_of_ble_eq_true rfl) (Nat.le_of_ble_eq_true rfl) dL_depth_25 ⟨by unfold f_dpL1; rw [if_neg c_4, if_pos c_8], rfl⟩
  · skip
    refine lv_iload_n hx hb dL_depth_24 rfl (lv_at hl 0 rfl) ?_
    subst hQ
    exact g_iret hE hG hr (Nat.le_of_ble_eq_true rfl) (Nat.le_of_ble_eq_true rfl) dL_depth_25 ⟨by unfold f_dpL1; rw [if_pos c_4], rfl⟩
def f_dpL2 (y : Int32) : Int32 := (if (y - y / 8 * 8) = 0 then 0 else (if (y - y / 4 * 4) = 0 then 1 else (if (y - y / 2 * 2) = 0 then 2 else (if (y - y / 1 * 1) = 0 then 3 else (-1)))))
abbrev rm_L_depth_2 : Room := { frames := 1, cells := 0, slots := 0, locals := 50 }
set_option maxHeartbeats 4000000 in
set_option maxRecDepth 100000 in
theorem c_L_depth_2 (l : Launch) (hfl : l.stackTraces = false) (D : va_G) (tc : Nat → ClassId) (A : Nat → Prop) (w : gW) (y : Int32) : gM l yL_depth cL_depth 3 (some .int) rm_L_depth_2 D tc A [.int 8, .int y] w (fun v w' => v = some (.int (f_dpL2 y)) ∧ w' = w) (fun _ => False) := by
  refine gM_of (by decide +kernel) (Nat.le_of_ble_eq_true rfl) ?_
  intro p e s m args below meth c ls Q hQ hE hG hr hnt hnm hl
  have hx := hE.1
  have hb := hE.2.1
  have hl : lv_has ls 3 [(0, .int 8), (1, .int y)] := hl
  refine lv_iconst (v := 0) hx hb dL_depth_0 (by decide) ?_
  refine lv_istore_n (lv' := [(2, .int 0), (0, .int 8), (1, .int y)]) hx hb dL_depth_1 rfl hl (by decide) rfl (fun ls hl => ?_)
  refine lv_iload_n hx hb dL_depth_2 rfl (lv_at hl 0 rfl) ?_
  refine lv_bipush (v := 7) hx hb dL_depth_3 (by decide) ?_
  refine lv_icmp_ge (tgt := 32) hx hb dL_depth_5 (by decide) (fun c9 => absurd c9 (by decide)) (fun _ => ?_)
  refine lv_iload_n hx hb dL_depth_8 rfl (lv_at hl 1 rfl) ?_
  refine lv_iconst (v := 1) hx hb dL_depth_9 (by decide) ?_
  refine lv_iload_n hx hb dL_depth_10 rfl (lv_at hl 0 rfl) ?_
  refine lv_ishl hx hb dL_depth_11 ?_
  refine lv_topi (fun k_1 ek_1 => ?_)
  obtain rfl : k_1 = 1 := ek_1.trans (by decide)
  refine lv_irem hx hb dL_depth_12 (by decide) ?_
  refine lv_topi (fun k_2 ek_2 => ?_)
  obtain rfl : k_2 = 0 := ek_2.trans (by decide)
  refine lv_if_ne (tgt := 26) hx hb dL_depth_13 (by decide) (fun c9 => (c9 (by decide)).elim) (fun _ => ?_)
  refine lv_iload_n hx hb dL_depth_16 rfl (lv_at hl 2 rfl) ?_
  refine lv_iload_n hx hb dL_depth_17 rfl (lv_at hl 1 rfl) ?_
  refine lv_iload_n hx hb dL_depth_18 rfl (lv_at hl 0 rfl) ?_
  refine lv_ishr hx hb dL_depth_19 ?_
  refine lv_topi (fun k_3 ek_3 => ?_)
  obtain rfl : k_3 = 8 := ek_3.trans (by decide)
  refine lv_irem hx hb dL_depth_20 (by decide) ?_
  refine lv_if_ne (tgt := 26) hx hb dL_depth_21 (by decide) (fun c_4 => ?_) (fun c_4 => ?_)
  · skip
    refine lv_iinc (v := 1) (lv' := [(2, .int 1), (0, .int 8), (1, .int y)]) hx hb dL_depth_26 hl (k := 0) rfl (by decide) (by decide) rfl (fun ls hl => ?_)
    refine lv_goto (tgt := 2) hx hb dL_depth_29 (by decide) ?_
    refine lv_iload_n hx hb dL_depth_2 rfl (lv_at hl 0 rfl) ?_
    refine lv_bipush (v := 7) hx hb dL_depth_3 (by decide) ?_
    refine lv_icmp_ge (tgt := 32) hx hb dL_depth_5 (by decide) (fun c9 => absurd c9 (by decide)) (fun _ => ?_)
    refine lv_iload_n hx hb dL_depth_8 rfl (lv_at hl 1 rfl) ?_
    refine lv_iconst (v := 1) hx hb dL_depth_9 (by decide) ?_
    refine lv_iload_n hx hb dL_depth_10 rfl (lv_at hl 0 rfl) ?_
    refine lv_ishl hx hb dL_depth_11 ?_
    refine lv_topi (fun k_5 ek_5 => ?_)
    obtain rfl : k_5 = 2 := ek_5.trans (by decide)
    refine lv_irem hx hb dL_depth_12 (by decide) ?_
    refine lv_topi (fun k_6 ek_6 => ?_)
    obtain rfl : k_6 = 0 := ek_6.trans (by decide)
    refine lv_if_ne (tgt := 26) hx hb dL_depth_13 (by decide) (fun c9 => (c9 (by decide)).elim) (fun _ => ?_)
    refine lv_iload_n hx hb dL_depth_16 rfl (lv_at hl 2 rfl) ?_
    refine lv_iload_n hx hb dL_depth_17 rfl (lv_at hl 1 rfl) ?_
    refine lv_iload_n hx hb dL_depth_18 rfl (lv_at hl 0 rfl) ?_
    refine lv_ishr hx hb dL_depth_19 ?_
    refine lv_topi (fun k_7 ek_7 => ?_)
    obtain rfl : k_7 = 4 := ek_7.trans (by decide)
    refine lv_irem hx hb dL_depth_20 (by decide) ?_
    refine lv_if_ne (tgt := 26) hx hb dL_depth_21 (by decide) (fun c_8 => ?_) (fun c_8 => ?_)
    · skip
      refine lv_iinc (v := 2) (lv' := [(2, .int 2), (0, .int 8), (1, .int y)]) hx hb dL_depth_26 hl (k := 0) rfl (by decide) (by decide) rfl (fun ls hl => ?_)
      refine lv_goto (tgt := 2) hx hb dL_depth_29 (by decide) ?_
      refine lv_iload_n hx hb dL_depth_2 rfl (lv_at hl 0 rfl) ?_
      refine lv_bipush (v := 7) hx hb dL_depth_3 (by decide) ?_
      refine lv_icmp_ge (tgt := 32) hx hb dL_depth_5 (by decide) (fun c9 => absurd c9 (by decide)) (fun _ => ?_)
      refine lv_iload_n hx hb dL_depth_8 rfl (lv_at hl 1 rfl) ?_
      refine lv_iconst (v := 1) hx hb dL_depth_9 (by decide) ?_
      refine lv_iload_n hx hb dL_depth_10 rfl (lv_at hl 0 rfl) ?_
      refine lv_ishl hx hb dL_depth_11 ?_
      refine lv_topi (fun k_9 ek_9 => ?_)
      obtain rfl : k_9 = 4 := ek_9.trans (by decide)
      refine lv_irem hx hb dL_depth_12 (by decide) ?_
      refine lv_topi (fun k_10 ek_10 => ?_)
      obtain rfl : k_10 = 0 := ek_10.trans (by decide)
      refine lv_if_ne (tgt := 26) hx hb dL_depth_13 (by decide) (fun c9 => (c9 (by decide)).elim) (fun _ => ?_)
      refine lv_iload_n hx hb dL_depth_16 rfl (lv_at hl 2 rfl) ?_
      refine lv_iload_n hx hb dL_depth_17 rfl (lv_at hl 1 rfl) ?_
      refine lv_iload_n hx hb dL_depth_18 rfl (lv_at hl 0 rfl) ?_
      refine lv_ishr hx hb dL_depth_19 ?_
      refine lv_topi (fun k_11 ek_11 => ?_)
      obtain rfl : k_11 = 2 := ek_11.trans (by decide)
      refine lv_irem hx hb dL_depth_20 (by decide) ?_
      refine lv_if_ne (tgt := 26) hx hb dL_depth_21 (by decide) (fun c_12 => ?_) (fun c_12 => ?_)
      · skip
        refine lv_iinc (v := 3) (lv' := [(2, .int 3), (0, .int 8), (1, .int y)]) hx hb dL_depth_26 hl (k := 0) rfl (by decide) (by decide) rfl (fun ls hl => ?_)
        refine lv_goto (tgt := 2) hx hb dL_depth_29 (by decide) ?_
        refine lv_iload_n hx hb dL_depth_2 rfl (lv_at hl 0 rfl) ?_
        refine lv_bipush (v := 7) hx hb dL_depth_3 (by decide) ?_
        refine lv_icmp_ge (tgt := 32) hx hb dL_depth_5 (by decide) (fun c9 => absurd c9 (by decide)) (fun _ => ?_)
        refine lv_iload_n hx hb dL_depth_8 rfl (lv_at hl 1 rfl) ?_
        refine lv_iconst (v := 1) hx hb dL_depth_9 (by decide) ?_
        refine lv_iload_n hx hb dL_depth_10 rfl (lv_at hl 0 rfl) ?_
        refine lv_ishl hx hb dL_depth_11 ?_
        refine lv_topi (fun k_13 ek_13 => ?_)
        obtain rfl : k_13 = 8 := ek_13.trans (by decide)
        refine lv_irem hx hb dL_depth_12 (by decide) ?_
        refine lv_topi (fun k_14 ek_14 => ?_)
        obtain rfl : k_14 = 0 := ek_14.trans (by decide)
        refine lv_if_ne (tgt := 26) hx hb dL_depth_13 (by decide) (fun c9 => (c9 (by decide)).elim) (fun _ => ?_)
        refine lv_iload_n hx hb dL_depth_16 rfl (lv_at hl 2 rfl) ?_
        refine lv_iload_n hx hb dL_depth_17 rfl (lv_at hl 1 rfl) ?_
        refine lv_iload_n hx hb dL_depth_18 rfl (lv_at hl 0 rfl) ?_
        refine lv_ishr hx hb dL_depth_19 ?_
        refine lv_topi (fun k_15 ek_15 => ?_)
        obtain rfl : k_15 = 1 := ek_15.trans (by decide)
        refine lv_irem hx hb dL_depth_20 (by decide) ?_
        refine lv_if_ne (tgt := 26) hx hb dL_depth_21 (by decide) (fun c_16 => ?_) (fun c_16 => ?_)
        · skip
          refine lv_iinc (v := 4) (lv' := [(2, .int 4), (0, .int 8), (1, .int y)]) hx hb dL_depth_26 hl (k := 0) rfl (by decide) (by decide) rfl (fun ls hl => ?_)
          refine lv_goto (tgt := 2) hx hb dL_depth_29 (by decide) ?_
          refine lv_iload_n hx hb dL_depth_2 rfl (lv_at hl 0 rfl) ?_
          refine lv_bipush (v := 7) hx hb dL_depth_3 (by decide) ?_
          refine lv_icmp_ge (tgt := 32) hx hb dL_depth_5 (by decide) (fun c9 => absurd c9 (by decide)) (fun _ => ?_)
          refine lv_iload_n hx hb dL_depth_8 rfl (lv_at hl 1 rfl) ?_
          refine lv_iconst (v := 1) hx hb dL_depth_9 (by decide) ?_
          refine lv_iload_n hx hb dL_depth_10 rfl (lv_at hl 0 rfl) ?_
          refine lv_ishl hx hb dL_depth_11 ?_
          refine lv_topi (fun k_17 ek_17 => ?_)
          obtain rfl : k_17 = 16 := ek_17.trans (by decide)
          refine lv_irem hx hb dL_depth_12 (by decide) ?_
          refine lv_topi (fun k_18 ek_18 => ?_)
          obtain rfl : k_18 = 8 := ek_18.trans (by decide)
          refine lv_if_ne (tgt := 26) hx hb dL_depth_13 (by decide) (fun _ => ?_) (fun c9 => absurd c9 (by decide))
          refine lv_iinc (v := 5) (lv' := [(2, .int 5), (0, .int 8), (1, .int y)]) hx hb dL_depth_26 hl (k := 0) rfl (by decide) (by decide) rfl (fun ls hl => ?_)
          refine lv_goto (tgt := 2) hx hb dL_depth_29 (by decide) ?_
          refine lv_iload_n hx hb dL_depth_2 rfl (lv_at hl 0 rfl) ?_
          refine lv_bipush (v := 7) hx hb dL_depth_3 (by decide) ?_
          refine lv_icmp_ge (tgt := 32) hx hb dL_depth_5 (by decide) (fun c9 => absurd c9 (by decide)) (fun _ => ?_)
          refine lv_iload_n hx hb dL_depth_8 rfl (lv_at hl 1 rfl) ?_
          refine lv_iconst (v := 1) hx hb dL_depth_9 (by decide) ?_
          refine lv_iload_n hx hb dL_depth_10 rfl (lv_at hl 0 rfl) ?_
          refine lv_ishl hx hb dL_depth_11 ?_
          refine lv_topi (fun k_19 ek_19 => ?_)
          obtain rfl : k_19 = 32 := ek_19.trans (by decide)
          refine lv_irem hx hb dL_depth_12 (by decide) ?_
          refine lv_topi (fun k_20 ek_20 => ?_)
          obtain rfl : k_20 = 8 := ek_20.trans (by decide)
          refine lv_if_ne (tgt := 26) hx hb dL_depth_13 (by decide) (fun _ => ?_) (fun c9 => absurd c9 (by decide))
          refine lv_iinc (v := 6) (lv' := [(2, .int 6), (0, .int 8), (1, .int y)]) hx hb dL_depth_26 hl (k := 0) rfl (by decide) (by decide) rfl (fun ls hl => ?_)
          refine lv_goto (tgt := 2) hx hb dL_depth_29 (by decide) ?_
          refine lv_iload_n hx hb dL_depth_2 rfl (lv_at hl 0 rfl) ?_
          refine lv_bipush (v := 7) hx hb dL_depth_3 (by decide) ?_
          refine lv_icmp_ge (tgt := 32) hx hb dL_depth_5 (by decide) (fun c9 => absurd c9 (by decide)) (fun _ => ?_)
          refine lv_iload_n hx hb dL_depth_8 rfl (lv_at hl 1 rfl) ?_
          refine lv_iconst (v := 1) hx hb dL_depth_9 (by decide) ?_
          refine lv_iload_n hx hb dL_depth_10 rfl (lv_at hl 0 rfl) ?_
          refine lv_ishl hx hb dL_depth_11 ?_
          refine lv_topi (fun k_21 ek_21 => ?_)
          obtain rfl : k_21 = 64 := ek_21.trans (by decide)
          refine lv_irem hx hb dL_depth_12 (by decide) ?_
          refine lv_topi (fun k_22 ek_22 => ?_)
          obtain rfl : k_22 = 8 := ek_22.trans (by decide)
          refine lv_if_ne (tgt := 26) hx hb dL_depth_13 (by decide) (fun _ => ?_) (fun c9 => absurd c9 (by decide))
          refine lv_iinc (v := 7) (lv' := [(2, .int 7), (0, .int 8), (1, .int y)]) hx hb dL_depth_26 hl (k := 0) rfl (by decide) (by decide) rfl (fun ls hl => ?_)
          refine lv_goto (tgt := 2) hx hb dL_depth_29 (by decide) ?_
          refine lv_iload_n hx hb dL_depth_2 rfl (lv_at hl 0 rfl) ?_
          refine lv_bipush (v := 7) hx hb dL_depth_3 (by decide) ?_
          refine lv_icmp_ge (tgt := 32) hx hb dL_depth_5 (by decide) (fun _ => ?_) (fun c9 => (c9 (by decide)).elim)
          refine lv_iconst (v := (-1)) hx hb dL_depth_32 (by decide) ?_
          subst hQ
          exact g_iret hE hG hr (Nat.le_of_ble_eq_true rfl) (Nat.le_of_ble_eq_true rfl) dL_depth_33 ⟨by unfold f_dpL2; rw [if_neg c_4, if_neg c_8, if_neg c_12, if_neg c_16], rfl⟩
        · skip
          refine lv_iload_n hx hb dL_depth_24 rfl (lv_at hl 0 rfl) ?_
          subst hQ
          exact g_iret hE hG hr (Nat.le_of_ble_eq_true rfl) (Nat.le_of_ble_eq_true rfl) dL_depth_25 ⟨by unfold f_dpL2; rw [if_neg c_4, if_neg c_8, if_neg c_12, if_pos c_16], rfl⟩
      · skip
        refine lv_iload_n hx hb dL_depth_24 rfl (lv_at hl 0 rfl) ?_
        subst hQ
        exact g_iret hE hG hr (Nat.le_of_ble_eq_true rfl) (Nat.le_of_ble_eq_true rfl) dL_depth_25 ⟨by unfold f_dpL2; rw [if_neg c_4, if_neg c_8, if_pos c_12], rfl⟩
    · skip
      refine lv_iload_n hx hb dL_depth_24 rfl (lv_at hl 0 rfl) ?_
      subst hQ
      exact g_iret hE hG hr (Nat.le_of_ble_eq_true rfl) (Nat.le_of_ble_eq_true rfl) dL_depth_25 ⟨by unfold f_dpL2; rw [if_neg c_4, if_pos c_8], rfl⟩
  · skip
    refine lv_iload_n hx hb dL_depth_24 rfl (lv_at hl 0 rfl) ?_
    subst hQ
    exact g_iret hE hG hr (Nat.le_of_ble_eq_true rfl) (Nat.le_of_ble_eq_true rfl) dL_depth_25 ⟨by unfold f_dpL2; rw [if_pos c_4], rfl⟩
def f_dpL3 (y : Int32) : Int32 := (if (y - y / 12 * 12) = 0 then 0 else (if (y - y / 6 * 6) = 0 then 1 else (if (y - y / 3 * 3) = 0 then 2 else (-1))))
abbrev rm_L_depth_3 : Room := { frames := 1, cells := 0, slots := 0, locals := 50 }
set_option maxHeartbeats 4000000 in
set_option maxRecDepth 100000 in
theorem c_L_depth_3 (l : Launch) (hfl : l.stackTraces = false) (D : va_G) (tc : Nat → ClassId) (A : Nat → Prop) (w : gW) (y : Int32) : gM l yL_depth cL_depth 3 (some .int) rm_L_depth_3 D tc A [.int 12, .int y] w (fun v w' => v = some (.int (f_dpL3 y)) ∧ w' = w) (fun _ => False) := by
  refine gM_of (by decide +kernel) (Nat.le_of_ble_eq_true rfl) ?_
  intro p e s m args below meth c ls Q hQ hE hG hr hnt hnm hl
  have hx := hE.1
  have hb := hE.2.1
  have hl : lv_has ls 3 [(0, .int 12), (1, .int y)] := hl
  refine lv_iconst (v := 0) hx hb dL_depth_0 (by decide) ?_
  refine lv_istore_n (lv' := [(2, .int 0), (0, .int 12), (1, .int y)]) hx hb dL_depth_1 rfl hl (by decide) rfl (fun ls hl => ?_)
  refine lv_iload_n hx hb dL_depth_2 rfl (lv_at hl 0 rfl) ?_
  refine lv_bipush (v := 7) hx hb dL_depth_3 (by decide) ?_
  refine lv_icmp_ge (tgt := 32) hx hb dL_depth_5 (by decide) (fun c9 => absurd c9 (by decide)) (fun _ => ?_)
  refine lv_iload_n hx hb dL_depth_8 rfl (lv_at hl 1 rfl) ?_
  refine lv_iconst (v := 1) hx hb dL_depth_9 (by decide) ?_
  refine lv_iload_n hx hb dL_depth_10 rfl (lv_at hl 0 rfl) ?_
  refine lv_ishl hx hb dL_depth_11 ?_
  refine lv_topi (fun k_1 ek_1 => ?_)
  obtain rfl : k_1 = 1 := ek_1.trans (by decide)
  refine lv_irem hx hb dL_depth_12 (by decide) ?_
  refine lv_topi (fun k_2 ek_2 => ?_)
  obtain rfl : k_2 = 0 := ek_2.trans (by decide)
  refine lv_if_ne (tgt := 26) hx hb dL_depth_13 (by decide) (fun c9 => (c9 (by decide)).elim) (fun _ => ?_)
  refine lv_iload_n hx hb dL_depth_16 rfl (lv_at hl 2 rfl) ?_
  refine lv_iload_n hx hb dL_depth_17 rfl (lv_at hl 1 rfl) ?_
  refine lv_iload_n hx hb dL_depth_18 rfl (lv_at hl 0 rfl) ?_
  refine lv_ishr hx hb dL_depth_19 ?_
  refine lv_topi (fun k_3 ek_3 => ?_)
  obtain rfl : k_3 = 12 := ek_3.trans (by decide)
  refine lv_irem hx hb dL_depth_20 (by decide) ?_
  refine lv_if_ne (tgt := 26) hx hb dL_depth_21 (by decide) (fun c_4 => ?_) (fun c_4 => ?_)
  · skip
    refine lv_iinc (v := 1) (lv' := [(2, .int 1), (0, .int 12), (1, .int y)]) hx hb dL_depth_26 hl (k := 0) rfl (by decide) (by decide) rfl (fun ls hl => ?_)
    refine lv_goto (tgt := 2) hx hb dL_depth_29 (by decide) ?_
    refine lv_iload_n hx hb dL_depth_2 rfl (lv_at hl 0 rfl) ?_
    refine lv_bipush (v := 7) hx hb dL_depth_3 (by decide) ?_
    refine lv_icmp_ge (tgt := 32) hx hb dL_depth_5 (by decide) (fun c9 => absurd c9 (by decide)) (fun _ => ?_)
    refine lv_iload_n hx hb dL_depth_8 rfl (lv_at hl 1 rfl) ?_
    refine lv_iconst (v := 1) hx hb dL_depth_9 (by decide) ?_
    refine lv_iload_n hx hb dL_depth_10 rfl (lv_at hl 0 rfl) ?_
    refine lv_ishl hx hb dL_depth_11 ?_
    refine lv_topi (fun k_5 ek_5 => ?_)
    obtain rfl : k_5 = 2 := ek_5.trans (by decide)
    refine lv_irem hx hb dL_depth_12 (by decide) ?_
    refine lv_topi (fun k_6 ek_6 => ?_)
    obtain rfl : k_6 = 0 := ek_6.trans (by decide)
    refine lv_if_ne (tgt := 26) hx hb dL_depth_13 (by decide) (fun c9 => (c9 (by decide)).elim) (fun _ => ?_)
    refine lv_iload_n hx hb dL_depth_16 rfl (lv_at hl 2 rfl) ?_
    refine lv_iload_n hx hb dL_depth_17 rfl (lv_at hl 1 rfl) ?_
    refine lv_iload_n hx hb dL_depth_18 rfl (lv_at hl 0 rfl) ?_
    refine lv_ishr hx hb dL_depth_19 ?_
    refine lv_topi (fun k_7 ek_7 => ?_)
    obtain rfl : k_7 = 6 := ek_7.trans (by decide)
    refine lv_irem hx hb dL_depth_20 (by decide) ?_
    refine lv_if_ne (tgt := 26) hx hb dL_depth_21 (by decide) (fun c_8 => ?_) (fun c_8 => ?_)
    · skip
      refine lv_iinc (v := 2) (lv' := [(2, .int 2), (0, .int 12), (1, .int y)]) hx hb dL_depth_26 hl (k := 0) rfl (by decide) (by decide) rfl (fun ls hl => ?_)
      refine lv_goto (tgt := 2) hx hb dL_depth_29 (by decide) ?_
      refine lv_iload_n hx hb dL_depth_2 rfl (lv_at hl 0 rfl) ?_
      refine lv_bipush (v := 7) hx hb dL_depth_3 (by decide) ?_
      refine lv_icmp_ge (tgt := 32) hx hb dL_depth_5 (by decide) (fun c9 => absurd c9 (by decide)) (fun _ => ?_)
      refine lv_iload_n hx hb dL_depth_8 rfl (lv_at hl 1 rfl) ?_
      refine lv_iconst (v := 1) hx hb dL_depth_9 (by decide) ?_
      refine lv_iload_n hx hb dL_depth_10 rfl (lv_at hl 0 rfl) ?_
      refine lv_ishl hx hb dL_depth_11 ?_
      refine lv_topi (fun k_9 ek_9 => ?_)
      obtain rfl : k_9 = 4 := ek_9.trans (by decide)
      refine lv_irem hx hb dL_depth_12 (by decide) ?_
      refine lv_topi (fun k_10 ek_10 => ?_)
      obtain rfl : k_10 = 0 := ek_10.trans (by decide)
      refine lv_if_ne (tgt := 26) hx hb dL_depth_13 (by decide) (fun c9 => (c9 (by decide)).elim) (fun _ => ?_)
      refine lv_iload_n hx hb dL_depth_16 rfl (lv_at hl 2 rfl) ?_
      refine lv_iload_n hx hb dL_depth_17 rfl (lv_at hl 1 rfl) ?_
      refine lv_iload_n hx hb dL_depth_18 rfl (lv_at hl 0 rfl) ?_
      refine lv_ishr hx hb dL_depth_19 ?_
      refine lv_topi (fun k_11 ek_11 => ?_)
      obtain rfl : k_11 = 3 := ek_11.trans (by decide)
      refine lv_irem hx hb dL_depth_20 (by decide) ?_
      refine lv_if_ne (tgt := 26) hx hb dL_depth_21 (by decide) (fun c_12 => ?_) (fun c_12 => ?_)
      · skip
        refine lv_iinc (v := 3) (lv' := [(2, .int 3), (0, .int 12), (1, .int y)]) hx hb dL_depth_26 hl (k := 0) rfl (by decide) (by decide) rfl (fun ls hl => ?_)
        refine lv_goto (tgt := 2) hx hb dL_depth_29 (by decide) ?_
        refine lv_iload_n hx hb dL_depth_2 rfl (lv_at hl 0 rfl) ?_
        refine lv_bipush (v := 7) hx hb dL_depth_3 (by decide) ?_
        refine lv_icmp_ge (tgt := 32) hx hb dL_depth_5 (by decide) (fun c9 => absurd c9 (by decide)) (fun _ => ?_)
        refine lv_iload_n hx hb dL_depth_8 rfl (lv_at hl 1 rfl) ?_
        refine lv_iconst (v := 1) hx hb dL_depth_9 (by decide) ?_
        refine lv_iload_n hx hb dL_depth_10 rfl (lv_at hl 0 rfl) ?_
        refine lv_ishl hx hb dL_depth_11 ?_
        refine lv_topi (fun k_13 ek_13 => ?_)
        obtain rfl : k_13 = 8 := ek_13.trans (by decide)
        refine lv_irem hx hb dL_depth_12 (by decide) ?_
        refine lv_topi (fun k_14 ek_14 => ?_)
        obtain rfl : k_14 = 4 := ek_14.trans (by decide)
        refine lv_if_ne (tgt := 26) hx hb dL_depth_13 (by decide) (fun _ => ?_) (fun c9 => absurd c9 (by decide))
        refine lv_iinc (v := 4) (lv' := [(2, .int 4), (0, .int 12), (1, .int y)]) hx hb dL_depth_26 hl (k := 0) rfl (by decide) (by decide) rfl (fun ls hl => ?_)
        refine lv_goto (tgt := 2) hx hb dL_depth_29 (by decide) ?_
        refine lv_iload_n hx hb dL_depth_2 rfl (lv_at hl 0 rfl) ?_
        refine lv_bipush (v := 7) hx hb dL_depth_3 (by decide) ?_
        refine lv_icmp_ge (tgt := 32) hx hb dL_depth_5 (by decide) (fun c9 => absurd c9 (by decide)) (fun _ => ?_)
        refine lv_iload_n hx hb dL_depth_8 rfl (lv_at hl 1 rfl) ?_
        refine lv_iconst (v := 1) hx hb dL_depth_9 (by decide) ?_
        refine lv_iload_n hx hb dL_depth_10 rfl (lv_at hl 0 rfl) ?_
        refine lv_ishl hx hb dL_depth_11 ?_
        refine lv_topi (fun k_15 ek_15 => ?_)
        obtain rfl : k_15 = 16 := ek_15.trans (by decide)
        refine lv_irem hx hb dL_depth_12 (by decide) ?_
        refine lv_topi (fun k_16 ek_16 => ?_)
        obtain rfl : k_16 = 12 := ek_16.trans (by decide)
        refine lv_if_ne (tgt := 26) hx hb dL_depth_13 (by decide) (fun _ => ?_) (fun c9 => absurd c9 (by decide))
        refine lv_iinc (v := 5) (lv' := [(2, .int 5), (0, .int 12), (1, .int y)]) hx hb dL_depth_26 hl (k := 0) rfl (by decide) (by decide) rfl (fun ls hl => ?_)
        refine lv_goto (tgt := 2) hx hb dL_depth_29 (by decide) ?_
        refine lv_iload_n hx hb dL_depth_2 rfl (lv_at hl 0 rfl) ?_
        refine lv_bipush (v := 7) hx hb dL_depth_3 (by decide) ?_
        refine lv_icmp_ge (tgt := 32) hx hb dL_depth_5 (by decide) (fun c9 => absurd c9 (by decide)) (fun _ => ?_)
        refine lv_iload_n hx hb dL_depth_8 rfl (lv_at hl 1 rfl) ?_
        refine lv_iconst (v := 1) hx hb dL_depth_9 (by decide) ?_
        refine lv_iload_n hx hb dL_depth_10 rfl (lv_at hl 0 rfl) ?_
        refine lv_ishl hx hb dL_depth_11 ?_
        refine lv_topi (fun k_17 ek_17 => ?_)
        obtain rfl : k_17 = 32 := ek_17.trans (by decide)
        refine lv_irem hx hb dL_depth_12 (by decide) ?_
        refine lv_topi (fun k_18 ek_18 => ?_)
        obtain rfl : k_18 = 12 := ek_18.trans (by decide)
        refine lv_if_ne (tgt := 26) hx hb dL_depth_13 (by decide) (fun _ => ?_) (fun c9 => absurd c9 (by decide))
        refine lv_iinc (v := 6) (lv' := [(2, .int 6), (0, .int 12), (1, .int y)]) hx hb dL_depth_26 hl (k := 0) rfl (by decide) (by decide) rfl (fun ls hl => ?_)
        refine lv_goto (tgt := 2) hx hb dL_depth_29 (by decide) ?_
        refine lv_iload_n hx hb dL_depth_2 rfl (lv_at hl 0 rfl) ?_
        refine lv_bipush (v := 7) hx hb dL_depth_3 (by decide) ?_
        refine lv_icmp_ge (tgt := 32) hx hb dL_depth_5 (by decide) (fun c9 => absurd c9 (by decide)) (fun _ => ?_)
        refine lv_iload_n hx hb dL_depth_8 rfl (lv_at hl 1 rfl) ?_
        refine lv_iconst (v := 1) hx hb dL_depth_9 (by decide) ?_
        refine lv_iload_n hx hb dL_depth_10 rfl (lv_at hl 0 rfl) ?_
        refine lv_ishl hx hb dL_depth_11 ?_
        refine lv_topi (fun k_19 ek_19 => ?_)
        obtain rfl : k_19 = 64 := ek_19.trans (by decide)
        refine lv_irem hx hb dL_depth_12 (by decide) ?_
        refine lv_topi (fun k_20 ek_20 => ?_)
        obtain rfl : k_20 = 12 := ek_20.trans (by decide)
        refine lv_if_ne (tgt := 26) hx hb dL_depth_13 (by decide) (fun _ => ?_) (fun c9 => absurd c9 (by decide))
        refine lv_iinc (v := 7) (lv' := [(2, .int 7), (0, .int 12), (1, .int y)]) hx hb dL_depth_26 hl (k := 0) rfl (by decide) (by decide) rfl (fun ls hl => ?_)
        refine lv_goto (tgt := 2) hx hb dL_depth_29 (by decide) ?_
        refine lv_iload_n hx hb dL_depth_2 rfl (lv_at hl 0 rfl) ?_
        refine lv_bipush (v := 7) hx hb dL_depth_3 (by decide) ?_
        refine lv_icmp_ge (tgt := 32) hx hb dL_depth_5 (by decide) (fun _ => ?_) (fun c9 => (c9 (by decide)).elim)
        refine lv_iconst (v := (-1)) hx hb dL_depth_32 (by decide) ?_
        subst hQ
        exact g_iret hE hG hr (Nat.le_of_ble_eq_true rfl) (Nat.le_of_ble_eq_true rfl) dL_depth_33 ⟨by unfold f_dpL3; rw [if_neg c_4, if_neg c_8, if_neg c_12], rfl⟩
      · skip
        refine lv_iload_n hx hb dL_depth_24 rfl (lv_at hl 0 rfl) ?_
        subst hQ
        exact g_iret hE hG hr (Nat.le_of_ble_eq_true rfl) (Nat.le_of_ble_eq_true rfl) dL_depth_25 ⟨by unfold f_dpL3; rw [if_neg c_4, if_neg c_8, if_pos c_12], rfl⟩
    · skip
      refine lv_iload_n hx hb dL_depth_24 rfl (lv_at hl 0 rfl) ?_
      subst hQ
      exact g_iret hE hG hr (Nat.le_of_ble_eq_true rfl) (Nat.le_of_ble_eq_true rfl) dL_depth_25 ⟨by unfold f_dpL3; rw [if_neg c_4, if_pos c_8], rfl⟩
  · skip
    refine lv_iload_n hx hb dL_depth_24 rfl (lv_at hl 0 rfl) ?_
    subst hQ
    exact g_iret hE hG hr (Nat.le_of_ble_eq_true rfl) (Nat.le_of_ble_eq_true rfl) dL_depth_25 ⟨by unfold f_dpL3; rw [if_pos c_4], rfl⟩
def f_dpL4 (y : Int32) : Int32 := (if (y - y / 16 * 16) = 0 then 0 else (if (y - y / 8 * 8) = 0 then 1 else (if (y - y / 4 * 4) = 0 then 2 else (if (y - y / 2 * 2) = 0 then 3 else (if (y - y / 1 * 1) = 0 then 4 else (-1))))))
abbrev rm_L_depth_4 : Room := { frames := 1, cells := 0, slots := 0, locals := 50 }
set_option maxHeartbeats 4000000 in
set_option maxRecDepth 100000 in
theorem c_L_depth_4 (l : Launch) (hfl : l.stackTraces = false) (D : va_G) (tc : Nat → ClassId) (A : Nat → Prop) (w : gW) (y : Int32) : gM l yL_depth cL_depth 3 (some .int) rm_L_depth_4 D tc A [.int 16, .int y] w (fun v w' => v = some (.int (f_dpL4 y)) ∧ w' = w) (fun _ => False) := by
  refine gM_of (by decide +kernel) (Nat.le_of_ble_eq_true rfl) ?_
  intro p e s m args below meth c ls Q hQ hE hG hr hnt hnm hl
  have hx := hE.1
  have hb := hE.2.1
  have hl : lv_has ls 3 [(0, .int 16), (1, .int y)] := hl
  refine lv_iconst (v := 0) hx hb dL_depth_0 (by decide) ?_
  refine lv_istore_n (lv' := [(2, .int 0), (0, .int 16), (1, .int y)]) hx hb dL_depth_1 rfl hl (by decide) rfl (fun ls hl => ?_)
  refine lv_iload_n hx hb dL_depth_2 rfl (lv_at hl 0 rfl) ?_
  refine lv_bipush (v := 7) hx hb dL_depth_3 (by decide) ?_
  refine lv_icmp_ge (tgt := 32) hx hb dL_depth_5 (by decide) (fun c9 => absurd c9 (by decide)) (fun _ => ?_)
  refine lv_iload_n hx hb dL_depth_8 rfl (lv_at hl 1 rfl) ?_
  refine lv_iconst (v := 1) hx hb dL_depth_9 (by decide) ?_
  refine lv_iload_n hx hb dL_depth_10 rfl (lv_at hl 0 rfl) ?_
  refine lv_ishl hx hb dL_depth_11 ?_
  refine lv_topi (fun k_1 ek_1 => ?_)
  obtain rfl : k_1 = 1 := ek_1.trans (by decide)
  refine lv_irem hx hb dL_depth_12 (by decide) ?_
  refine lv_topi (fun k_2 ek_2 => ?_)
  obtain rfl : k_2 = 0 := ek_2.trans (by decide)
  refine lv_if_ne (tgt := 26) hx hb dL_depth_13 (by decide) (fun c9 => (c9 (by decide)).elim) (fun _ => ?_)
  refine lv_iload_n hx hb dL_depth_16 rfl (lv_at hl 2 rfl) ?_
  refine lv_iload_n hx hb dL_depth_17 rfl (lv_at hl 1 rfl) ?_
  refine lv_iload_n hx hb dL_depth_18 rfl (lv_at hl 0 rfl) ?_
  refine lv_ishr hx hb dL_depth_19 ?_
  refine lv_topi (fun k_3 ek_3 => ?_)
  obtain rfl : k_3 = 16 := ek_3.trans (by decide)
  refine lv_irem hx hb dL_depth_20 (by decide) ?_
  refine lv_if_ne (tgt := 26) hx hb dL_depth_21 (by decide) (fun c_4 => ?_) (fun c_4 => ?_)
  · skip
    refine lv_iinc (v := 1) (lv' := [(2, .int 1), (0, .int 16), (1, .int y)]) hx hb dL_depth_26 hl (k := 0) rfl (by decide) (by decide) rfl (fun ls hl => ?_)
    refine lv_goto (tgt := 2) hx hb dL_depth_29 (by decide) ?_
    refine lv_iload_n hx hb dL_depth_2 rfl (lv_at hl 0 rfl) ?_
    refine lv_bipush (v := 7) hx hb dL_depth_3 (by decide) ?_
    refine lv_icmp_ge (tgt := 32) hx hb dL_depth_5 (by decide) (fun c9 => absurd c9 (by decide)) (fun _ => ?_)
    refine lv_iload_n hx hb dL_depth_8 rfl (lv_at hl 1 rfl) ?_
    refine lv_iconst (v := 1) hx hb dL_depth_9 (by decide) ?_
    refine lv_iload_n hx hb dL_depth_10 rfl (lv_at hl 0 rfl) ?_
    refine lv_ishl hx hb dL_depth_11 ?_
    refine lv_topi (fun k_5 ek_5 => ?_)
    obtain rfl : k_5 = 2 := ek_5.trans (by decide)
    refine lv_irem hx hb dL_depth_12 (by decide) ?_
    refine lv_topi (fun k_6 ek_6 => ?_)
    obtain rfl : k_6 = 0 := ek_6.trans (by decide)
    refine lv_if_ne (tgt := 26) hx hb dL_depth_13 (by decide) (fun c9 => (c9 (by decide)).elim) (fun _ => ?_)
    refine lv_iload_n hx hb dL_depth_16 rfl (lv_at hl 2 rfl) ?_
    refine lv_iload_n hx hb dL_depth_17 rfl (lv_at hl 1 rfl) ?_
    refine lv_iload_n hx hb dL_depth_18 rfl (lv_at hl 0 rfl) ?_
    refine lv_ishr hx hb dL_depth_19 ?_
    refine lv_topi (fun k_7 ek_7 => ?_)
    obtain rfl : k_7 = 8 := ek_7.trans (by decide)
    refine lv_irem hx hb dL_depth_20 (by decide) ?_
    refine lv_if_ne (tgt := 26) hx hb dL_depth_21 (by decide) (fun c_8 => ?_) (fun c_8 => ?_)
    · skip
      refine lv_iinc (v := 2) (lv' := [(2, .int 2), (0, .int 16), (1, .int y)]) hx hb dL_depth_26 hl (k := 0) rfl (by decide) (by decide) rfl (fun ls hl => ?_)
      refine lv_goto (tgt := 2) hx hb dL_depth_29 (by decide) ?_
      refine lv_iload_n hx hb dL_depth_2 rfl (lv_at hl 0 rfl) ?_
      refine lv_bipush (v := 7) hx hb dL_depth_3 (by decide) ?_
      refine lv_icmp_ge (tgt := 32) hx hb dL_depth_5 (by decide) (fun c9 => absurd c9 (by decide)) (fun _ => ?_)
      refine lv_iload_n hx hb dL_depth_8 rfl (lv_at hl 1 rfl) ?_
      refine lv_iconst (v := 1) hx hb dL_depth_9 (by decide) ?_
      refine lv_iload_n hx hb dL_depth_10 rfl (lv_at hl 0 rfl) ?_
      refine lv_ishl hx hb dL_depth_11 ?_
      refine lv_topi (fun k_9 ek_9 => ?_)
      obtain rfl : k_9 = 4 := ek_9.trans (by decide)
      refine lv_irem hx hb dL_depth_12 (by decide) ?_
      refine lv_topi (fun k_10 ek_10 => ?_)
      obtain rfl : k_10 = 0 := ek_10.trans (by decide)
      refine lv_if_ne (tgt := 26) hx hb dL_depth_13 (by decide) (fun c9 => (c9 (by decide)).elim) (fun _ => ?_)
      refine lv_iload_n hx hb dL_depth_16 rfl (lv_at hl 2 rfl) ?_
      refine lv_iload_n hx hb dL_depth_17 rfl (lv_at hl 1 rfl) ?_
      refine lv_iload_n hx hb dL_depth_18 rfl (lv_at hl 0 rfl) ?_
      refine lv_ishr hx hb dL_depth_19 ?_
      refine lv_topi (fun k_11 ek_11 => ?_)
      obtain rfl : k_11 = 4 := ek_11.trans (by decide)
      refine lv_irem hx hb dL_depth_20 (by decide) ?_
      refine lv_if_ne (tgt := 26) hx hb dL_depth_21 (by decide) (fun c_12 => ?_) (fun c_12 => ?_)
      · skip
        refine lv_iinc (v := 3) (lv' := [(2, .int 3), (0, .int 16), (1, .int y)]) hx hb dL_depth_26 hl (k := 0) rfl (by decide) (by decide) rfl (fun ls hl => ?_)
        refine lv_goto (tgt := 2) hx hb dL_depth_29 (by decide) ?_
        refine lv_iload_n hx hb dL_depth_2 rfl (lv_at hl 0 rfl) ?_
        refine lv_bipush (v := 7) hx hb dL_depth_3 (by decide) ?_
        refine lv_icmp_ge (tgt := 32) hx hb dL_depth_5 (by decide) (fun c9 => absurd c9 (by decide)) (fun _ => ?_)
        refine lv_iload_n hx hb dL_depth_8 rfl (lv_at hl 1 rfl) ?_
        refine lv_iconst (v := 1) hx hb dL_depth_9 (by decide) ?_
        refine lv_iload_n hx hb dL_depth_10 rfl (lv_at hl 0 rfl) ?_
        refine lv_ishl hx hb dL_depth_11 ?_
        refine lv_topi (fun k_13 ek_13 => ?_)
        obtain rfl : k_13 = 8 := ek_13.trans (by decide)
        refine lv_irem hx hb dL_depth_12 (by decide) ?_
        refine lv_topi (fun k_14 ek_14 => ?_)
        obtain rfl : k_14 = 0 := ek_14.trans (by decide)
        refine lv_if_ne (tgt := 26) hx hb dL_depth_13 (by decide) (fun c9 => (c9 (by decide)).elim) (fun _ => ?_)
        refine lv_iload_n hx hb dL_depth_16 rfl (lv_at hl 2 rfl) ?_
        refine lv_iload_n hx hb dL_depth_17 rfl (lv_at hl 1 rfl) ?_
        refine lv_iload_n hx hb dL_depth_18 rfl (lv_at hl 0 rfl) ?_
        refine lv_ishr hx hb dL_depth_19 ?_
        refine lv_topi (fun k_15 ek_15 => ?_)
        obtain rfl : k_15 = 2 := ek_15.trans (by decide)
        refine lv_irem hx hb dL_depth_20 (by decide) ?_
        refine lv_if_ne (tgt := 26) hx hb dL_depth_21 (by decide) (fun c_16 => ?_) (fun c_16 => ?_)
        · skip
          refine lv_iinc (v := 4) (lv' := [(2, .int 4), (0, .int 16), (1, .int y)]) hx hb dL_depth_26 hl (k := 0) rfl (by decide) (by decide) rfl (fun ls hl => ?_)
          refine lv_goto (tgt := 2) hx hb dL_depth_29 (by decide) ?_
          refine lv_iload_n hx hb dL_depth_2 rfl (lv_at hl 0 rfl) ?_
          refine lv_bipush (v := 7) hx hb dL_depth_3 (by decide) ?_
          refine lv_icmp_ge (tgt := 32) hx hb dL_depth_5 (by decide) (fun c9 => absurd c9 (by decide)) (fun _ => ?_)
          refine lv_iload_n hx hb dL_depth_8 rfl (lv_at hl 1 rfl) ?_
          refine lv_iconst (v := 1) hx hb dL_depth_9 (by decide) ?_
          refine lv_iload_n hx hb dL_depth_10 rfl (lv_at hl 0 rfl) ?_
          refine lv_ishl hx hb dL_depth_11 ?_
          refine lv_topi (fun k_17 ek_17 => ?_)
          obtain rfl : k_17 = 16 := ek_17.trans (by decide)
          refine lv_irem hx hb dL_depth_12 (by decide) ?_
          refine lv_topi (fun k_18 ek_18 => ?_)
          obtain rfl : k_18 = 0 := ek_18.trans (by decide)
          refine lv_if_ne (tgt := 26) hx hb dL_depth_13 (by decide) (fun c9 => (c9 (by decide)).elim) (fun _ => ?_)
          refine lv_iload_n hx hb dL_depth_16 rfl (lv_at hl 2 rfl) ?_
          refine lv_iload_n hx hb dL_depth_17 rfl (lv_at hl 1 rfl) ?_
          refine lv_iload_n hx hb dL_depth_18 rfl (lv_at hl 0 rfl) ?_
          refine lv_ishr hx hb dL_depth_19 ?_
          refine lv_topi (fun k_19 ek_19 => ?_)
          obtain rfl : k_19 = 1 := ek_19.trans (by decide)
          refine lv_irem hx hb dL_depth_20 (by decide) ?_
          refine lv_if_ne (tgt := 26) hx hb dL_depth_21 (by decide) (fun c_20 => ?_) (fun c_20 => ?_)
          · skip
            refine lv_iinc (v := 5) (lv' := [(2, .int 5), (0, .int 16), (1, .int y)]) hx hb dL_depth_26 hl (k := 0) rfl (by decide) (by decide) rfl (fun ls hl => ?_)
            refine lv_goto (tgt := 2) hx hb dL_depth_29 (by decide) ?_
            refine lv_iload_n hx hb dL_depth_2 rfl (lv_at hl 0 rfl) ?_
            refine lv_bipush (v := 7) hx hb dL_depth_3 (by decide) ?_
            refine lv_icmp_ge (tgt := 32) hx hb dL_depth_5 (by decide) (fun c9 => absurd c9 (by decide)) (fun _ => ?_)
            refine lv_iload_n hx hb dL_depth_8 rfl (lv_at hl 1 rfl) ?_
            refine lv_iconst (v := 1) hx hb dL_depth_9 (by decide) ?_
            refine lv_iload_n hx hb dL_depth_10 rfl (lv_at hl 0 rfl) ?_
            refine lv_ishl hx hb dL_depth_11 ?_
            refine lv_topi (fun k_21 ek_21 => ?_)
            obtain rfl : k_21 = 32 := ek_21.trans (by decide)
            refine lv_irem hx hb dL_depth_12 (by decide) ?_
            refine lv_topi (fun k_22 ek_22 => ?_)
            obtain rfl : k_22 = 16 := ek_22.trans (by decide)
            refine lv_if_ne (tgt := 26) hx hb dL_depth_13 (by decide) (fun _ => ?_) (fun c9 => absurd c9 (by decide))
            refine lv_iinc (v := 6) (lv' := [(2, .int 6), (0, .int 16), (1, .int y)]) hx hb dL_depth_26 hl (k := 0) rfl (by decide) (by decide) rfl (fun ls hl => ?_)
            refine lv_goto (tgt := 2) hx hb dL_depth_29 (by decide) ?_
            refine lv_iload_n hx hb dL_depth_2 rfl (lv_at hl 0 rfl) ?_
            refine lv_bipush (v := 7) hx hb dL_depth_3 (by decide) ?_
            refine lv_icmp_ge (tgt := 32) hx hb dL_depth_5 (by decide) (fun c9 => absurd c9 (by decide)) (fun _ => ?_)
            refine lv_iload_n hx hb dL_depth_8 rfl (lv_at hl 1 rfl) ?_
            refine lv_iconst (v := 1) hx hb dL_depth_9 (by decide) ?_
            refine lv_iload_n hx hb dL_depth_10 rfl (lv_at hl 0 rfl) ?_
            refine lv_ishl hx hb dL_depth_11 ?_
            refine lv_topi (fun k_23 ek_23 => ?_)
            obtain rfl : k_23 = 64 := ek_23.trans (by decide)
            refine lv_irem hx hb dL_depth_12 (by decide) ?_
            refine lv_topi (fun k_24 ek_24 => ?_)
            obtain rfl : k_24 = 16 := ek_24.trans (by decide)
            refine lv_if_ne (tgt := 26) hx hb dL_depth_13 (by decide) (fun _ => ?_) (fun c9 => absurd c9 (by decide))
            refine lv_iinc (v := 7) (lv' := [(2, .int 7), (0, .int 16), (1, .int y)]) hx hb dL_depth_26 hl (k := 0) rfl (by decide) (by decide) rfl (fun ls hl => ?_)
            refine lv_goto (tgt := 2) hx hb dL_depth_29 (by decide) ?_
            refine lv_iload_n hx hb dL_depth_2 rfl (lv_at hl 0 rfl) ?_
            refine lv_bipush (v := 7) hx hb dL_depth_3 (by decide) ?_
            refine lv_icmp_ge (tgt := 32) hx hb dL_depth_5 (by decide) (fun _ => ?_) (fun c9 => (c9 (by decide)).elim)
            refine lv_iconst (v := (-1)) hx hb dL_depth_32 (by decide) ?_
            subst hQ
            exact g_iret hE hG hr (Nat.le_of_ble_eq_true rfl) (Nat.le_of_ble_eq_true rfl) dL_depth_33 ⟨by unfold f_dpL4; rw [if_neg c_4, if_neg c_8, if_neg c_12, if_neg c_16, if_neg c_20], rfl⟩
          · skip
            refine lv_iload_n hx hb dL_depth_24 rfl (lv_at hl 0 rfl) ?_
            subst hQ
            exact g_iret hE hG hr (Nat.le_of_ble_eq_true rfl) (Nat.le_of_ble_eq_true rfl) dL_depth_25 ⟨by unfold f_dpL4; rw [if_neg c_4, if_neg c_8, if_neg c_12, if_neg c_16, if_pos c_20], rfl⟩
        · skip
          refine lv_iload_n hx hb dL_depth_24 rfl (lv_at hl 0 rfl) ?_
          subst hQ
          exact g_iret hE hG hr (Nat.le_of_ble_eq_true rfl) (Nat.le_of_ble_eq_true rfl) dL_depth_25 ⟨by unfold f_dpL4; rw [if_neg c_4, if_neg c_8, if_neg c_12, if_pos c_16], rfl⟩
      · skip
        refine lv_iload_n hx hb dL_depth_24 rfl (lv_at hl 0 rfl) ?_
        subst hQ
        exact g_iret hE hG hr (Nat.le_of_ble_eq_true rfl) (Nat.le_of_ble_eq_true rfl) dL_depth_25 ⟨by unfold f_dpL4; rw [if_neg c_4, if_neg c_8, if_pos c_12], rfl⟩
    · skip
      refine lv_iload_n hx hb dL_depth_24 rfl (lv_at hl 0 rfl) ?_
      subst hQ
      exact g_iret hE hG hr (Nat.le_of_ble_eq_true rfl) (Nat.le_of_ble_eq_true rfl) dL_depth_25 ⟨by unfold f_dpL4; rw [if_neg c_4, if_pos c_8], rfl⟩
  · skip
    refine lv_iload_n hx hb dL_depth_24 rfl (lv_at hl 0 rfl) ?_
    subst hQ
    exact g_iret hE hG hr (Nat.le_of_ble_eq_true rfl) (Nat.le_of_ble_eq_true rfl) dL_depth_25 ⟨by unfold f_dpL4; rw [if_pos c_4], rfl⟩
abbrev rm_L_depth : Room := { frames := 1, cells := 0, slots := 0, locals := 50 }
def f_dpL (q : Nat) (y : Int32) : Int32 := if q = 1 then f_dpL1 y else if q = 2 then f_dpL2 y else if q = 3 then f_dpL3 y else f_dpL4 y
theorem c_L_depth (l : Launch) (hfl : l.stackTraces = false) (D : va_G) (tc : Nat → ClassId) (A : Nat → Prop) (w : gW) (q : Nat) (y : Int32) (h1 : 1 ≤ q) (h4 : q ≤ 4) : gM l yL_depth cL_depth 3 (some .int) rm_L_depth D tc A [.int (nI (4 * q)), .int y] w (fun v w' => v = some (.int (f_dpL q y)) ∧ w' = w) (fun _ => False) := by
  match q, h1, h4 with
  | 1, _, _ => exact c_L_depth_1 l hfl D tc A w y
  | 2, _, _ => exact c_L_depth_2 l hfl D tc A w y
  | 3, _, _ => exact c_L_depth_3 l hfl D tc A w y
  | 4, _, _ => exact c_L_depth_4 l hfl D tc A w y
set_option maxRecDepth 100000 in
theorem dp_tab : ∀ q : Nat, q < 4 → ∀ j : Nat, j < 16 → j < 4 * (q + 1) → f_dpL (q + 1) (nI (j + 1)) = m_dp (nI (j + 1)) 7 (4 * (q + 1)) 0 := by decide +kernel
