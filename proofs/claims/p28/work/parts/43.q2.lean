/-! the law: its loops over numbers -/
def f_sdL (r : Int64) (n z : Nat) : Nat → Int32
  | 0 => 0
  | k + 1 => if f_atL r (nI ((z + k) % n + 1)) ≤ 0 then f_sdL r n z k else f_atL r (nI ((z + k) % n + 1))
abbrev rm_L_sounds : Room := { frames := 2, cells := 0, slots := 0, locals := 86 }
theorem nm_L_sounds : gNm yL_sounds 3 := ⟨by decide +kernel, by decide +kernel, by decide +kernel⟩
set_option maxHeartbeats 4000000 in
set_option maxRecDepth 100000 in
theorem c_L_sounds (l : Launch) (hfl : l.stackTraces = false) (D : va_G) (tc : Nat → ClassId) (A : Nat → Prop) (w : gW) (r : Int64) (n : Nat) (z : Nat) (h1 : 1 ≤ n) (hn : n ≤ 16) (hz : z ≤ 17) : gM l yL_sounds cL_sounds 7 (some .int) rm_L_sounds D tc A [.long r, .int (nI n), .int (nI z)] w (fun v w' => v = some (.int (f_sdL r n z n)) ∧ w' = w) (fun _ => False) := by
  refine gM_of (by decide +kernel) (Nat.le_of_ble_eq_true rfl) ?_
  intro p e s m args below meth c ls Q hQ hE hG hr hnt hnm hl
  have hx := hE.1
  have hb := hE.2.1
  have hl : lv_has ls 7 [(0, .long r), (2, .int (nI n)), (3, .int (nI z))] := hl
  refine lv_iconst (v := 0) hx hb dL_sounds_0 (by decide) ?_
  refine lv_istore (lv' := [(4, .int 0), (0, .long r), (2, .int (nI n)), (3, .int (nI z))]) hx hb dL_sounds_1 hl (by decide) rfl (fun ls hl => ?_)
  refine lv_iconst (v := 0) hx hb dL_sounds_3 (by decide) ?_
  refine lv_istore (lv' := [(5, .int 0), (4, .int 0), (0, .long r), (2, .int (nI n)), (3, .int (nI z))]) hx hb dL_sounds_4 hl (by decide) rfl (fun ls hl => ?_)
  have hl : lv_has ls 7 [(5, .int (nI 0)), (4, .int (f_sdL r n z 0)), (0, .long r), (2, .int (nI n)), (3, .int (nI z))] := lv_sub hl [0, 1, 2, 3, 4] rfl
  have hloop_3 : ∀ (n_1 i : Nat) (H : Heap) (locs : List Loc) (ls : Array Slot), i + n_1 = n → gS D A s.heap w H locs → lv_has ls 7 [(5, .int (nI i)), (4, .int (f_sdL r n z i)), (0, .long r), (2, .int (nI n)), (3, .int (nI z))] → W p l e rm_L_sounds s m args below meth c H locs 0 0 Q (F0 m 6 ls []) := by
    intro n_1
    induction n_1 with
    | zero =>
      intro i H locs ls hk_2 hG hl
      have ei9 : i = n := by omega
      rw [ei9] at hl
      refine lv_iload hx hb dL_sounds_6 (lv_at hl 0 rfl) ?_
      refine lv_iload_n hx hb dL_sounds_8 rfl (lv_at hl 3 rfl) ?_
      refine lv_icmp_ge (tgt := 50) hx hb dL_sounds_9 (by decide) (fun c9 => ?_) (fun c9 => (c9 ((nI_leI (a := n) (b := n) (by omega) (by omega)).mpr (by omega))).elim)
      refine lv_iload hx hb dL_sounds_50 (lv_at hl 1 rfl) ?_
      subst hQ
      exact g_iret hE hG hr (Nat.le_of_ble_eq_true rfl) (Nat.le_of_ble_eq_true rfl) dL_sounds_52 ⟨rfl, rfl⟩
    | succ n_1 ihn_1 =>
      intro i H locs ls hk_2 hG hl
      refine lv_iload hx hb dL_sounds_6 (lv_at hl 0 rfl) ?_
      refine lv_iload_n hx hb dL_sounds_8 rfl (lv_at hl 3 rfl) ?_
      refine lv_icmp_ge (tgt := 50) hx hb dL_sounds_9 (by decide) (fun c9 => absurd c9 (fun h9 => absurd ((nI_leI (a := n) (b := i) (by omega) (by omega)).mp h9) (by omega))) (fun c9 => ?_)
      refine lv_iload_n hx hb dL_sounds_12 rfl (lv_at hl 4 rfl) ?_
      refine lv_iload hx hb dL_sounds_13 (lv_at hl 0 rfl) ?_
      refine lv_iadd hx hb dL_sounds_15 ?_
      refine lv_topi (fun k_4 ek_4 => ?_)
      obtain rfl : k_4 = nI (z + i) := ek_4.trans (nI_add z i)
      refine lv_iload_n hx hb dL_sounds_16 rfl (lv_at hl 3 rfl) ?_
      refine lv_irem hx hb dL_sounds_17 (nI_ne0 (by omega) (by omega)) ?_
      refine lv_topi (fun k_5 ek_5 => ?_)
      obtain rfl : k_5 = nI ((z + i) % n) := ek_5.trans (pk_rem (a := (z + i)) (d := n) (by omega) (by omega) (by omega))
      refine lv_iconst (v := 1) hx hb dL_sounds_18 (by decide) ?_
      refine lv_iadd hx hb dL_sounds_19 ?_
      refine lv_topi (fun k_6 ek_6 => ?_)
      obtain rfl : k_6 = nI (((z + i) % n) + 1) := ek_6.trans (nI_add ((z + i) % n) 1)
      refine lv_istore (lv' := [(6, .int (nI (((z + i) % n) + 1))), (5, .int (nI i)), (4, .int (f_sdL r n z i)), (0, .long r), (2, .int (nI n)), (3, .int (nI z))]) hx hb dL_sounds_20 hl (by decide) rfl (fun ls hl => ?_)
      refine lv_lload_n hx hb dL_sounds_22 rfl (lv_at hl 3 rfl) ?_
      refine lv_iload hx hb dL_sounds_23 (lv_at hl 0 rfl) ?_
      refine g_callS (rest := []) (As := [.long r, .int (nI (((z + i) % n) + 1))]) hE hG hl.1 (c_L_at l hfl D tc A w r (nI (((z + i) % n) + 1)) ) mw3_5 mw3_6 mw1_0 mw3_7 nm_L_at ⟨⟨Nat.le_of_ble_eq_true rfl, Nat.le_of_ble_eq_true rfl⟩, Nat.le_of_ble_eq_true rfl, Nat.le_of_ble_eq_true rfl⟩ rfl rfl (Nat.le_of_ble_eq_true rfl) dL_sounds_25 (g_no) ?_
      intro v9 w9 H locs h9 hG
      obtain ⟨e9, f9⟩ := h9
      rw [f9] at hG; rw [e9]; clear e9 f9
      show W p l e _ s m args below meth c H locs _ _ _ (F0 m 28 ls [.int (f_atL r (nI (((z + i) % n) + 1)))])
      refine lv_if_le (tgt := 40) hx hb dL_sounds_28 (by decide) (fun c_7 => ?_) (fun c_7 => ?_)
      · skip
        refine lv_iload hx hb dL_sounds_40 (lv_at hl 2 rfl) ?_
        refine lv_istore (lv' := [(4, .int (f_sdL r n z i)), (6, .int (nI (((z + i) % n) + 1))), (5, .int (nI i)), (0, .long r), (2, .int (nI n)), (3, .int (nI z))]) hx hb dL_sounds_42 hl (by decide) rfl (fun ls hl => ?_)
        refine lv_iinc (v := (nI (i + 1))) (lv' := [(5, .int (nI (i + 1))), (4, .int (f_sdL r n z i)), (6, .int (nI (((z + i) % n) + 1))), (0, .long r), (2, .int (nI n)), (3, .int (nI z))]) hx hb dL_sounds_44 hl (k := 2) rfl (nI_1 _) (by decide) rfl (fun ls hl => ?_)
        refine lv_goto (tgt := 6) hx hb dL_sounds_47 (by decide) ?_
        have hl : lv_has ls 7 [(5, .int (nI (i + 1))), (4, .int (f_sdL r n z (i + 1))), (6, .int (nI (((z + i) % n) + 1))), (0, .long r), (2, .int (nI n)), (3, .int (nI z))] := by show lv_has _ _ [(5, _), (4, Value.int (if _ then _ else _)), (6, _), (0, _), (2, _), (3, _)]; rw [if_pos c_7]; exact hl
        exact ihn_1 (i + 1) _ _ _ (by omega) hG (lv_sub hl [0, 1, 3, 4, 5] rfl)
      · skip
        refine lv_lload_n hx hb dL_sounds_31 rfl (lv_at hl 3 rfl) ?_
        refine lv_iload hx hb dL_sounds_32 (lv_at hl 0 rfl) ?_
        refine g_callS (rest := []) (As := [.long r, .int (nI (((z + i) % n) + 1))]) hE hG hl.1 (c_L_at l hfl D tc A w r (nI (((z + i) % n) + 1)) ) mw3_5 mw3_6 mw1_0 mw3_7 nm_L_at ⟨⟨Nat.le_of_ble_eq_true rfl, Nat.le_of_ble_eq_true rfl⟩, Nat.le_of_ble_eq_true rfl, Nat.le_of_ble_eq_true rfl⟩ rfl rfl (Nat.le_of_ble_eq_true rfl) dL_sounds_34 (g_no) ?_
        intro v9 w9 H locs h9 hG
        obtain ⟨e9, f9⟩ := h9
        rw [f9] at hG; rw [e9]; clear e9 f9
        show W p l e _ s m args below meth c H locs _ _ _ (F0 m 37 ls [.int (f_atL r (nI (((z + i) % n) + 1)))])
        refine lv_goto (tgt := 42) hx hb dL_sounds_37 (by decide) ?_
        refine lv_istore (lv' := [(4, .int (f_atL r (nI (((z + i) % n) + 1)))), (6, .int (nI (((z + i) % n) + 1))), (5, .int (nI i)), (0, .long r), (2, .int (nI n)), (3, .int (nI z))]) hx hb dL_sounds_42 hl (by decide) rfl (fun ls hl => ?_)
        refine lv_iinc (v := (nI (i + 1))) (lv' := [(5, .int (nI (i + 1))), (4, .int (f_atL r (nI (((z + i) % n) + 1)))), (6, .int (nI (((z + i) % n) + 1))), (0, .long r), (2, .int (nI n)), (3, .int (nI z))]) hx hb dL_sounds_44 hl (k := 2) rfl (nI_1 _) (by decide) rfl (fun ls hl => ?_)
        refine lv_goto (tgt := 6) hx hb dL_sounds_47 (by decide) ?_
        have hl : lv_has ls 7 [(5, .int (nI (i + 1))), (4, .int (f_sdL r n z (i + 1))), (6, .int (nI (((z + i) % n) + 1))), (0, .long r), (2, .int (nI n)), (3, .int (nI z))] := by show lv_has _ _ [(5, _), (4, Value.int (if _ then _ else _)), (6, _), (0, _), (2, _), (3, _)]; rw [if_neg c_7]; exact hl
        exact ihn_1 (i + 1) _ _ _ (by omega) hG (lv_sub hl [0, 1, 3, 4, 5] rfl)
  exact hloop_3 n 0 _ _ _ (by omega) hG (lv_sub hl [0, 1, 2, 3, 4] rfl)
def f_stS (a dn x y q : Int32) (i : Nat) : Int32 := (if (if a = 3 then (if x ≤ 0 then 0 else (if y ≤ 0 then 0 else 1 : Int32) : Int32) else 0 : Int32) = 0 then (if a = 0 then y else (if a = 1 then (if (nI (((i + 1) / 2) % 2)) = 0 then x else y : Int32) else (if (if a = 3 then (if x ≤ 0 then 0 else (if y ≤ 0 then 0 else 1 : Int32) : Int32) else 0 : Int32) = 0 then (if q = x then (if (nI ((i + 1) % 2)) = 1 then y else (if (nI ((i + 1) % 2)) = 1 then y else x : Int32) : Int32) else (if (nI ((i + 1) % 2)) = 1 then y else x : Int32) : Int32) else (if y ≤ q then (if q ≤ y then y else (q - 1) : Int32) else (q + 1) : Int32) : Int32) : Int32) : Int32) else (if (nI (i + 1)) = ((2 * dn) - 1) then y else (if a = 0 then y else (if a = 1 then (if (nI (((i + 1) / 2) % 2)) = 0 then x else y : Int32) else (if (if a = 3 then (if x ≤ 0 then 0 else (if y ≤ 0 then 0 else 1 : Int32) : Int32) else 0 : Int32) = 0 then (if q = x then (if (nI ((i + 1) % 2)) = 1 then y else (if (nI ((i + 1) % 2)) = 1 then y else x : Int32) : Int32) else (if (nI ((i + 1) % 2)) = 1 then y else x : Int32) : Int32) else (if y ≤ q then (if q ≤ y then y else (q - 1) : Int32) else (q + 1) : Int32) : Int32) : Int32) : Int32) : Int32) : Int32)
def f_stL (a dn x y : Int32) : Nat → Int32
  | 0 => x
  | i + 1 => f_stS a dn x y (f_stL a dn x y i) i
abbrev rm_L_stroke : Room := { frames := 1, cells := 0, slots := 0, locals := 50 }
theorem nm_L_stroke : gNm yL_stroke 5 := ⟨by decide +kernel, by decide +kernel, by decide +kernel⟩
set_option maxHeartbeats 4000000 in
set_option maxRecDepth 100000 in
theorem c_L_stroke (l : Launch) (hfl : l.stackTraces = false) (D : va_G) (tc : Nat → ClassId) (A : Nat → Prop) (w : gW) (a : Int32) (dn : Int32) (T : Nat) (x : Int32) (y : Int32) (hT : T < 1000) : gM l yL_stroke cL_stroke 8 (some .int) rm_L_stroke D tc A [.int a, .int dn, .int (nI T), .int x, .int y] w (fun v w' => v = some (.int (f_stL a dn x y T)) ∧ w' = w) (fun _ => False) := by
  refine gM_of (by decide +kernel) (Nat.le_of_ble_eq_true rfl) ?_
  intro p e s m args below meth c ls Q hQ hE hG hr hnt hnm hl
  have hx := hE.1
  have hb := hE.2.1
  have hl : lv_has ls 8 [(0, .int a), (1, .int dn), (2, .int (nI T)), (3, .int x), (4, .int y)] := hl
  refine lv_iload_n hx hb dL_stroke_0 rfl (lv_at hl 3 rfl) ?_
  refine lv_istore (lv' := [(5, .int x), (0, .int a), (1, .int dn), (2, .int (nI T)), (3, .int x), (4, .int y)]) hx hb dL_stroke_1 hl (by decide) rfl (fun ls hl => ?_)
  refine lv_iconst (v := 1) hx hb dL_stroke_3 (by decide) ?_
  refine lv_istore (lv' := [(6, .int 1), (5, .int x), (0, .int a), (1, .int dn), (2, .int (nI T)), (3, .int x), (4, .int y)]) hx hb dL_stroke_4 hl (by decide) rfl (fun ls hl => ?_)
  have hl : lv_has ls 8 [(6, .int (nI (0 + 1))), (5, .int (f_stL a dn x y 0)), (0, .int a), (1, .int dn), (2, .int (nI T)), (3, .int x), (4, .int y)] := lv_sub hl [0, 1, 2, 3, 4, 5, 6] rfl
  have hloop_3 : ∀ (n_1 i : Nat) (H : Heap) (locs : List Loc) (ls : Array Slot), i + n_1 = T → gS D A s.heap w H locs → lv_has ls 8 [(6, .int (nI (i + 1))), (5, .int (f_stL a dn x y i)), (0, .int a), (1, .int dn), (2, .int (nI T)), (3, .int x), (4, .int y)] → W p l e rm_L_stroke s m args below meth c H locs 0 0 Q (F0 m 6 ls []) := by
    intro n_1
    induction n_1 with
    | zero =>
      intro i H locs ls hk_2 hG hl
      have ei9 : i = T := by omega
      rw [ei9] at hl
      refine lv_iload hx hb dL_stroke_6 (lv_at hl 0 rfl) ?_
      refine lv_iload_n hx hb dL_stroke_8 rfl (lv_at hl 4 rfl) ?_
      refine lv_icmp_gt (tgt := 168) hx hb dL_stroke_9 (by decide) (fun c9 => ?_) (fun c9 => (c9 ((nI_ltI (a := T) (b := (T + 1)) (by omega) (by omega)).mpr (by omega))).elim)
      refine lv_iload hx hb dL_stroke_168 (lv_at hl 1 rfl) ?_
      subst hQ
      exact g_iret hE hG hr (Nat.le_of_ble_eq_true rfl) (Nat.le_of_ble_eq_true rfl) dL_stroke_170 ⟨rfl, rfl⟩
    | succ n_1 ihn_1 =>
      intro i H locs ls hk_2 hG hl
      refine lv_iload hx hb dL_stroke_6 (lv_at hl 0 rfl) ?_
      refine lv_iload_n hx hb dL_stroke_8 rfl (lv_at hl 4 rfl) ?_
      refine lv_icmp_gt (tgt := 168) hx hb dL_stroke_9 (by decide) (fun c9 => absurd c9 (fun h9 => absurd ((nI_ltI (a := T) (b := (i + 1)) (by omega) (by omega)).mp h9) (by omega))) (fun c9 => ?_)
      refine lv_iload_n hx hb dL_stroke_12 rfl (lv_at hl 2 rfl) ?_
      refine lv_iconst (v := 3) hx hb dL_stroke_13 (by decide) ?_
      have j_5 : ∀ (v_4 : Int32) (H : Heap) (locs : List Loc), v_4 = (if a = 3 then (if x ≤ 0 then 0 else (if y ≤ 0 then 0 else 1 : Int32) : Int32) else 0 : Int32) → gS D A s.heap w H locs → W p l e rm_L_stroke s m args below meth c H locs 0 0 Q (F0 m 31 ls (.int v_4 :: [])) := by
        intro v_4 H locs ev_4 hG
        refine lv_istore (lv' := [(7, .int v_4), (6, .int (nI (i + 1))), (5, .int (f_stL a dn x y i)), (0, .int a), (1, .int dn), (2, .int (nI T)), (3, .int x), (4, .int y)]) hx hb dL_stroke_31 hl (by decide) rfl (fun ls hl => ?_)
        refine lv_iload_n hx hb dL_stroke_33 rfl (lv_at hl 3 rfl) ?_
        have j_7 : ∀ (v_6 : Int32) (H : Heap) (locs : List Loc), v_6 = (if a = 0 then y else (if a = 1 then (if (nI (((i + 1) / 2) % 2)) = 0 then x else y : Int32) else (if v_4 = 0 then (if (f_stL a dn x y i) = x then (if (nI ((i + 1) % 2)) = 1 then y else (if (nI ((i + 1) % 2)) = 1 then y else x : Int32) : Int32) else (if (nI ((i + 1) % 2)) = 1 then y else x : Int32) : Int32) else (if y ≤ (f_stL a dn x y i) then (if (f_stL a dn x y i) ≤ y then y else ((f_stL a dn x y i) - 1) : Int32) else ((f_stL a dn x y i) + 1) : Int32) : Int32) : Int32) : Int32) → gS D A s.heap w H locs → W p l e rm_L_stroke s m args below meth c H locs 0 0 Q (F0 m 136 ls (.int v_6 :: [])) := by
          intro v_6 H locs ev_6 hG
          refine lv_istore (lv' := [(5, .int v_6), (7, .int v_4), (6, .int (nI (i + 1))), (0, .int a), (1, .int dn), (2, .int (nI T)), (3, .int x), (4, .int y)]) hx hb dL_stroke_136 hl (by decide) rfl (fun ls hl => ?_)
          refine lv_iload hx hb dL_stroke_138 (lv_at hl 1 rfl) ?_
          have j_9 : ∀ (v_8 : Int32) (H : Heap) (locs : List Loc), v_8 = (if v_4 = 0 then v_6 else (if (nI (i + 1)) = ((2 * dn) - 1) then y else v_6 : Int32) : Int32) → gS D A s.heap w H locs → W p l e rm_L_stroke s m args below meth c H locs 0 0 Q (F0 m 160 ls (.int v_8 :: [])) := by
            intro v_8 H locs ev_8 hG
            refine lv_istore (lv' := [(5, .int v_8), (7, .int v_4), (6, .int (nI (i + 1))), (0, .int a), (1, .int dn), (2, .int (nI T)), (3, .int x), (4, .int y)]) hx hb dL_stroke_160 hl (by decide) rfl (fun ls hl => ?_)
            refine lv_iinc (v := (nI ((i + 1) + 1))) (lv' := [(6, .int (nI ((i + 1) + 1))), (5, .int v_8), (7, .int v_4), (0, .int a), (1, .int dn), (2, .int (nI T)), (3, .int x), (4, .int y)]) hx hb dL_stroke_162 hl (k := 2) rfl (by rw [show i + 1 + 1 = (i + 1) + 1 by omega]; exact (nI_1 _)) (by decide) rfl (fun ls hl => ?_)
            refine lv_goto (tgt := 6) hx hb dL_stroke_165 (by decide) ?_
            have hl : lv_has ls 8 [(6, .int (nI ((i + 1) + 1))), (5, .int (f_stL a dn x y (i + 1))), (7, .int v_4), (0, .int a), (1, .int dn), (2, .int (nI T)), (3, .int x), (4, .int y)] := by subst ev_8; subst ev_6; subst ev_4; exact hl
            exact ihn_1 (i + 1) _ _ _ (by omega) hG (lv_sub hl [0, 1, 3, 4, 5, 6, 7] rfl)
          refine lv_if_eq (tgt := 158) hx hb dL_stroke_140 (by decide) (fun c_10 => ?_) (fun c_10 => ?_)
          · skip
            refine lv_iload hx hb dL_stroke_158 (lv_at hl 0 rfl) ?_
            exact j_9 _ _ _ (by rw [if_pos c_10]) hG
          · skip
            refine lv_iload hx hb dL_stroke_143 (lv_at hl 2 rfl) ?_
            refine lv_iconst (v := 2) hx hb dL_stroke_145 (by decide) ?_
            refine lv_iload_n hx hb dL_stroke_146 rfl (lv_at hl 4 rfl) ?_
            refine lv_imul hx hb dL_stroke_147 ?_
            refine lv_iconst (v := 1) hx hb dL_stroke_148 (by decide) ?_
            refine lv_isub hx hb dL_stroke_149 ?_
            refine lv_icmp_ne (tgt := 158) hx hb dL_stroke_150 (by decide) (fun c_11 => ?_) (fun c_11 => ?_)
            · skip
              refine lv_iload hx hb dL_stroke_158 (lv_at hl 0 rfl) ?_
              exact j_9 _ _ _ (by rw [if_neg c_10, if_neg c_11]) hG
            · skip
              refine lv_iload hx hb dL_stroke_153 (lv_at hl 7 rfl) ?_
              refine lv_goto (tgt := 160) hx hb dL_stroke_155 (by decide) ?_
              exact j_9 _ _ _ (by rw [if_neg c_10, if_pos c_11]) hG
        refine lv_if_ne (tgt := 42) hx hb dL_stroke_34 (by decide) (fun c_12 => ?_) (fun c_12 => ?_)
        · skip
          refine lv_iload_n hx hb dL_stroke_42 rfl (lv_at hl 3 rfl) ?_
          refine lv_iconst (v := 1) hx hb dL_stroke_43 (by decide) ?_
          refine lv_icmp_ne (tgt := 65) hx hb dL_stroke_44 (by decide) (fun c_13 => ?_) (fun c_13 => ?_)
          · skip
            refine lv_iload hx hb dL_stroke_65 (lv_at hl 0 rfl) ?_
            refine lv_if_ne (tgt := 106) hx hb dL_stroke_67 (by decide) (fun c_14 => ?_) (fun c_14 => ?_)
            · skip
              refine lv_iload hx hb dL_stroke_106 (lv_at hl 2 rfl) ?_
              refine lv_iload hx hb dL_stroke_108 (lv_at hl 7 rfl) ?_
              refine lv_icmp_ge (tgt := 120) hx hb dL_stroke_110 (by decide) (fun c_15 => ?_) (fun c_15 => ?_)
              · skip
                refine lv_iload hx hb dL_stroke_120 (lv_at hl 2 rfl) ?_
                refine lv_iload hx hb dL_stroke_122 (lv_at hl 7 rfl) ?_
                refine lv_icmp_le (tgt := 134) hx hb dL_stroke_124 (by decide) (fun c_16 => ?_) (fun c_16 => ?_)
                · skip
                  refine lv_iload hx hb dL_stroke_134 (lv_at hl 7 rfl) ?_
                  exact j_7 _ _ _ (by rw [if_neg c_12, if_neg c_13, if_neg c_14, if_pos c_15, if_pos c_16]) hG
                · skip
                  refine lv_iload hx hb dL_stroke_127 (lv_at hl 2 rfl) ?_
                  refine lv_iconst (v := 1) hx hb dL_stroke_129 (by decide) ?_
                  refine lv_isub hx hb dL_stroke_130 ?_
                  refine lv_goto (tgt := 136) hx hb dL_stroke_131 (by decide) ?_
                  exact j_7 _ _ _ (by rw [if_neg c_12, if_neg c_13, if_neg c_14, if_pos c_15, if_neg c_16]) hG
              · skip
                refine lv_iload hx hb dL_stroke_113 (lv_at hl 2 rfl) ?_
                refine lv_iconst (v := 1) hx hb dL_stroke_115 (by decide) ?_
                refine lv_iadd hx hb dL_stroke_116 ?_
                refine lv_goto (tgt := 136) hx hb dL_stroke_117 (by decide) ?_
                exact j_7 _ _ _ (by rw [if_neg c_12, if_neg c_13, if_neg c_14, if_neg c_15]) hG
            · skip
              refine lv_iload hx hb dL_stroke_70 (lv_at hl 2 rfl) ?_
              refine lv_iload_n hx hb dL_stroke_72 rfl (lv_at hl 6 rfl) ?_
              refine lv_icmp_ne (tgt := 89) hx hb dL_stroke_73 (by decide) (fun c_17 => ?_) (fun c_17 => ?_)
              · skip
                refine lv_iload hx hb dL_stroke_89 (lv_at hl 1 rfl) ?_
                refine lv_iconst (v := 2) hx hb dL_stroke_91 (by decide) ?_
                refine lv_irem hx hb dL_stroke_92 (by decide) ?_
                refine lv_topi (fun k_18 ek_18 => ?_)
                obtain rfl : k_18 = nI ((i + 1) % 2) := ek_18.trans (pk_rem (a := (i + 1)) (d := 2) (by omega) (by omega) (by omega))
                refine lv_iconst (v := 1) hx hb dL_stroke_93 (by decide) ?_
                refine lv_icmp_ne (tgt := 102) hx hb dL_stroke_94 (by decide) (fun c_19 => ?_) (fun c_19 => ?_)
                · skip
                  have nc_19 : ¬ (((i + 1) % 2) = 1) := fun h9 => c_19 ((nI_eq (a := ((i + 1) % 2)) (b := 1) (by omega) (by omega)).mpr h9)
                  refine lv_iload_n hx hb dL_stroke_102 rfl (lv_at hl 6 rfl) ?_
                  refine lv_goto (tgt := 136) hx hb dL_stroke_103 (by decide) ?_
                  exact j_7 _ _ _ (by rw [if_neg c_12, if_neg c_13, if_pos c_14, if_neg c_17, if_neg c_19]) hG
                · skip
                  have nc_19 : ((i + 1) % 2) = 1 := (nI_eq (a := ((i + 1) % 2)) (b := 1) (by omega) (by omega)).mp c_19
                  refine lv_iload hx hb dL_stroke_97 (lv_at hl 7 rfl) ?_
                  refine lv_goto (tgt := 136) hx hb dL_stroke_99 (by decide) ?_
                  exact j_7 _ _ _ (by rw [if_neg c_12, if_neg c_13, if_pos c_14, if_neg c_17, if_pos c_19]) hG
              · skip
                refine lv_iload hx hb dL_stroke_76 (lv_at hl 1 rfl) ?_
                refine lv_iconst (v := 2) hx hb dL_stroke_78 (by decide) ?_
                refine lv_irem hx hb dL_stroke_79 (by decide) ?_
                refine lv_topi (fun k_20 ek_20 => ?_)
                obtain rfl : k_20 = nI ((i + 1) % 2) := ek_20.trans (pk_rem (a := (i + 1)) (d := 2) (by omega) (by omega) (by omega))
                refine lv_iconst (v := 1) hx hb dL_stroke_80 (by decide) ?_
                refine lv_icmp_ne (tgt := 89) hx hb dL_stroke_81 (by decide) (fun c_21 => ?_) (fun c_21 => ?_)
                · skip
                  have nc_21 : ¬ (((i + 1) % 2) = 1) := fun h9 => c_21 ((nI_eq (a := ((i + 1) % 2)) (b := 1) (by omega) (by omega)).mpr h9)
                  refine lv_iload hx hb dL_stroke_89 (lv_at hl 1 rfl) ?_
                  refine lv_iconst (v := 2) hx hb dL_stroke_91 (by decide) ?_
                  refine lv_irem hx hb dL_stroke_92 (by decide) ?_
                  refine lv_topi (fun k_22 ek_22 => ?_)
                  obtain rfl : k_22 = nI ((i + 1) % 2) := ek_22.trans (pk_rem (a := (i + 1)) (d := 2) (by omega) (by omega) (by omega))
                  refine lv_iconst (v := 1) hx hb dL_stroke_93 (by decide) ?_
                  refine lv_icmp_ne (tgt := 102) hx hb dL_stroke_94 (by decide) (fun c_23 => ?_) (fun c_23 => ?_)
                  · skip
                    have nc_23 : ¬ (((i + 1) % 2) = 1) := fun h9 => c_23 ((nI_eq (a := ((i + 1) % 2)) (b := 1) (by omega) (by omega)).mpr h9)
                    refine lv_iload_n hx hb dL_stroke_102 rfl (lv_at hl 6 rfl) ?_
                    refine lv_goto (tgt := 136) hx hb dL_stroke_103 (by decide) ?_
                    exact j_7 _ _ _ (by rw [if_neg c_12, if_neg c_13, if_pos c_14, if_pos c_17, if_neg c_21, if_neg c_23]) hG
                  · skip
                    have nc_23 : ((i + 1) % 2) = 1 := (nI_eq (a := ((i + 1) % 2)) (b := 1) (by omega) (by omega)).mp c_23
                    refine lv_iload hx hb dL_stroke_97 (lv_at hl 7 rfl) ?_
                    refine lv_goto (tgt := 136) hx hb dL_stroke_99 (by decide) ?_
                    exact j_7 _ _ _ (by rw [if_neg c_12, if_neg c_13, if_pos c_14, if_pos c_17, if_neg c_21, if_pos c_23]) hG
                · skip
                  have nc_21 : ((i + 1) % 2) = 1 := (nI_eq (a := ((i + 1) % 2)) (b := 1) (by omega) (by omega)).mp c_21
                  refine lv_iload hx hb dL_stroke_84 (lv_at hl 7 rfl) ?_
                  refine lv_goto (tgt := 136) hx hb dL_stroke_86 (by decide) ?_
                  exact j_7 _ _ _ (by rw [if_neg c_12, if_neg c_13, if_pos c_14, if_pos c_17, if_pos c_21]) hG
          · skip
            refine lv_iload hx hb dL_stroke_47 (lv_at hl 1 rfl) ?_
            refine lv_iconst (v := 2) hx hb dL_stroke_49 (by decide) ?_
            refine lv_idiv hx hb dL_stroke_50 (by decide) ?_
            refine lv_topi (fun k_24 ek_24 => ?_)
            obtain rfl : k_24 = nI ((i + 1) / 2) := ek_24.trans (pk_div (a := (i + 1)) (d := 2) (by omega) (by omega) (by omega))
            refine lv_iconst (v := 2) hx hb dL_stroke_51 (by decide) ?_
            refine lv_irem hx hb dL_stroke_52 (by decide) ?_
            refine lv_topi (fun k_25 ek_25 => ?_)
            obtain rfl : k_25 = nI (((i + 1) / 2) % 2) := ek_25.trans (pk_rem (a := ((i + 1) / 2)) (d := 2) (by omega) (by omega) (by omega))
            refine lv_if_ne (tgt := 60) hx hb dL_stroke_53 (by decide) (fun c_26 => ?_) (fun c_26 => ?_)
            · skip
              have nc_26 : ¬ ((((i + 1) / 2) % 2) = 0) := fun h9 => c_26 ((nI_eq (a := (((i + 1) / 2) % 2)) (b := 0) (by omega) (by omega)).mpr h9)
              refine lv_iload hx hb dL_stroke_60 (lv_at hl 7 rfl) ?_
              refine lv_goto (tgt := 136) hx hb dL_stroke_62 (by decide) ?_
              exact j_7 _ _ _ (by rw [if_neg c_12, if_pos c_13, if_neg c_26]) hG
            · skip
              have nc_26 : (((i + 1) / 2) % 2) = 0 := (nI_eq (a := (((i + 1) / 2) % 2)) (b := 0) (by omega) (by omega)).mp c_26
              refine lv_iload_n hx hb dL_stroke_56 rfl (lv_at hl 6 rfl) ?_
              refine lv_goto (tgt := 136) hx hb dL_stroke_57 (by decide) ?_
              exact j_7 _ _ _ (by rw [if_neg c_12, if_pos c_13, if_pos c_26]) hG
        · skip
          refine lv_iload hx hb dL_stroke_37 (lv_at hl 7 rfl) ?_
          refine lv_goto (tgt := 136) hx hb dL_stroke_39 (by decide) ?_
          exact j_7 _ _ _ (by rw [if_pos c_12]) hG
      refine lv_icmp_ne (tgt := 30) hx hb dL_stroke_14 (by decide) (fun c_27 => ?_) (fun c_27 => ?_)
      · skip
        refine lv_iconst (v := 0) hx hb dL_stroke_30 (by decide) ?_
        exact j_5 _ _ _ (by rw [if_neg c_27]) hG
      · skip
        refine lv_iload_n hx hb dL_stroke_17 rfl (lv_at hl 5 rfl) ?_
        refine lv_if_le (tgt := 30) hx hb dL_stroke_18 (by decide) (fun c_28 => ?_) (fun c_28 => ?_)
        · skip
          refine lv_iconst (v := 0) hx hb dL_stroke_30 (by decide) ?_
          exact j_5 _ _ _ (by rw [if_pos c_27, if_pos c_28]) hG
        · skip
          refine lv_iload hx hb dL_stroke_21 (lv_at hl 6 rfl) ?_
          refine lv_if_le (tgt := 30) hx hb dL_stroke_23 (by decide) (fun c_29 => ?_) (fun c_29 => ?_)
          · skip
            refine lv_iconst (v := 0) hx hb dL_stroke_30 (by decide) ?_
            exact j_5 _ _ _ (by rw [if_pos c_27, if_neg c_28, if_pos c_29]) hG
          · skip
            refine lv_iconst (v := 1) hx hb dL_stroke_26 (by decide) ?_
            refine lv_goto (tgt := 31) hx hb dL_stroke_27 (by decide) ?_
            exact j_5 _ _ _ (by rw [if_pos c_27, if_neg c_28, if_neg c_29]) hG
  exact hloop_3 T 0 _ _ _ (by omega) hG (lv_sub hl [0, 1, 2, 3, 4, 5, 6] rfl)
set_option maxRecDepth 100000 in
theorem stL_s : ∀ c : Nat, c < 16 → ∀ T : Nat, T < 2 * kk c - 1 → ∀ x : Nat, x < 8 → ∀ y : Nat, y < 8 → f_stS (nI (c / 4)) (nI (kk c)) (nI x) (nI y) (m_str (nI (c / 4)) (nI (kk c)) (nI T) (nI x) (nI y)) T = m_str (nI (c / 4)) (nI (kk c)) (nI (T + 1)) (nI x) (nI y) := by decide +kernel
theorem stL_eq {c x y : Nat} (hc : c < 16) (hx : x < 8) (hy : y < 8) : ∀ T, T < 2 * kk c → f_stL (nI (c / 4)) (nI (kk c)) (nI x) (nI y) T = m_str (nI (c / 4)) (nI (kk c)) (nI T) (nI x) (nI y) := by
  intro T
  induction T with
  | zero => intro _; exact (tab_0 c hc x hx y hy).symm
  | succ T ih =>
    intro h
    show f_stS _ _ _ _ (f_stL _ _ _ _ T) T = _
    rw [ih (by omega)]
    exact stL_s c hc T (by omega) x hx y hy
