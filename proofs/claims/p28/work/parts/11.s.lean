/-! functions of numbers alone -/
theorem nz_b {v : Int32} (h : v = 0 ∨ v = 1) : narrow .boolean (.int v) = .int v := by rcases h with rfl | rfl <;> decide
theorem i32_tab {x : Int32} {lo hi : Int} (h : ∀ n : Int, lo ≤ n → n ≤ hi → x ≠ Int32.ofInt n) (_ : -2147483648 ≤ lo) (_ : hi < 2147483648) : x.toInt < lo ∨ hi < x.toInt := by
  rcases Int.lt_or_le x.toInt lo with h1 | h1
  · exact Or.inl h1
  · rcases Int.lt_or_le hi x.toInt with h2 | h2
    · exact Or.inr h2
    · exact absurd (Int32.ofInt_toInt x).symm (h x.toInt h1 h2)
def f_den (a b : Int32) : Int32 := (if a = 1 then ((2 : Int32) <<< (b &&& 31)) else (if a = 2 then ((1 : Int32) <<< (b &&& 31)) else (if a = 3 then ((2 : Int32) <<< (b &&& 31)) else 1)))
abbrev rm_X5_densityOf : Room := { frames := 1, cells := 0, slots := 0, locals := 50 }
theorem nm_X5_densityOf : gNm yX5_densityOf 2 := ⟨by decide +kernel, by decide +kernel, by decide +kernel⟩
set_option maxHeartbeats 4000000 in
set_option maxRecDepth 100000 in
theorem c_X5_densityOf (l : Launch) (hfl : l.stackTraces = false) (D : va_G) (tc : Nat → ClassId) (A : Nat → Prop) (w : gW) (a : Int32) (b : Int32) : gM l yX5_densityOf cX5_densityOf 2 (some .int) rm_X5_densityOf D tc A [.int a, .int b] w (fun v w' => v = some (.int (f_den a b)) ∧ w' = w) (fun _ => False) := by
  refine gM_of (by decide +kernel) (Nat.le_of_ble_eq_true rfl) ?_
  intro p e s m args below meth c ls Q hQ hE hG hr hnt hnm hl
  have hx := hE.1
  have hb := hE.2.1
  have hl : lv_has ls 2 [(0, .int a), (1, .int b)] := hl
  refine lv_iload_n hx hb dX5_densityOf_0 rfl (lv_at hl 0 rfl) ?_
  by_cases c_1 : a = 1
  · skip
    refine lv_tableIn (off := 27) (tgt := 28) hx hb dX5_densityOf_1 (by rw [c_1]; decide) (by rw [c_1]; decide) (by rw [c_1]; rfl) (by decide) ?_
    refine lv_iconst (v := 2) hx hb dX5_densityOf_28 (by decide) ?_
    refine lv_iload_n hx hb dX5_densityOf_29 rfl (lv_at hl 1 rfl) ?_
    refine lv_ishl hx hb dX5_densityOf_30 ?_
    subst hQ
    exact g_iret hE hG hr (Nat.le_of_ble_eq_true rfl) (Nat.le_of_ble_eq_true rfl) dX5_densityOf_31 ⟨by unfold f_den; rw [if_pos c_1], rfl⟩
  by_cases c_2 : a = 2
  · skip
    refine lv_tableIn (off := 31) (tgt := 32) hx hb dX5_densityOf_1 (by rw [c_2]; decide) (by rw [c_2]; decide) (by rw [c_2]; rfl) (by decide) ?_
    refine lv_iconst (v := 1) hx hb dX5_densityOf_32 (by decide) ?_
    refine lv_iload_n hx hb dX5_densityOf_33 rfl (lv_at hl 1 rfl) ?_
    refine lv_ishl hx hb dX5_densityOf_34 ?_
    subst hQ
    exact g_iret hE hG hr (Nat.le_of_ble_eq_true rfl) (Nat.le_of_ble_eq_true rfl) dX5_densityOf_35 ⟨by unfold f_den; rw [if_neg c_1, if_pos c_2], rfl⟩
  by_cases c_3 : a = 3
  · skip
    refine lv_tableIn (off := 27) (tgt := 28) hx hb dX5_densityOf_1 (by rw [c_3]; decide) (by rw [c_3]; decide) (by rw [c_3]; rfl) (by decide) ?_
    refine lv_iconst (v := 2) hx hb dX5_densityOf_28 (by decide) ?_
    refine lv_iload_n hx hb dX5_densityOf_29 rfl (lv_at hl 1 rfl) ?_
    refine lv_ishl hx hb dX5_densityOf_30 ?_
    subst hQ
    exact g_iret hE hG hr (Nat.le_of_ble_eq_true rfl) (Nat.le_of_ble_eq_true rfl) dX5_densityOf_31 ⟨by unfold f_den; rw [if_neg c_1, if_neg c_2, if_pos c_3], rfl⟩
  refine lv_tableOut (tgt := 36) hx hb dX5_densityOf_1 (i32_tab (fun n9 h1 h2 h3 => by rcases (show n9 = 1 ∨ n9 = 2 ∨ n9 = 3 by omega) with rfl | rfl | rfl <;> first | exact c_1 (h3.trans (by decide)) | exact c_2 (h3.trans (by decide)) | exact c_3 (h3.trans (by decide))) (by decide) (by decide)) (by decide) ?_
  refine lv_iconst (v := 1) hx hb dX5_densityOf_36 (by decide) ?_
  subst hQ
  exact g_iret hE hG hr (Nat.le_of_ble_eq_true rfl) (Nat.le_of_ble_eq_true rfl) dX5_densityOf_37 ⟨by unfold f_den; rw [if_neg c_1, if_neg c_2, if_neg c_3], rfl⟩
def f_lev (a : Int32) : Int32 := (if a < 160 then (if a < 80 then (if a < 40 then 0 else 1) else 2) else 3)
abbrev rm_X4_levelOf : Room := { frames := 1, cells := 0, slots := 0, locals := 50 }
theorem nm_X4_levelOf : gNm yX4_levelOf 1 := ⟨by decide +kernel, by decide +kernel, by decide +kernel⟩
set_option maxHeartbeats 4000000 in
set_option maxRecDepth 100000 in
theorem c_X4_levelOf (l : Launch) (hfl : l.stackTraces = false) (D : va_G) (tc : Nat → ClassId) (A : Nat → Prop) (w : gW) (a : Int32) : gM l yX4_levelOf cX4_levelOf 1 (some .int) rm_X4_levelOf D tc A [.int a] w (fun v w' => v = some (.int (f_lev a)) ∧ w' = w) (fun _ => False) := by
  refine gM_of (by decide +kernel) (Nat.le_of_ble_eq_true rfl) ?_
  intro p e s m args below meth c ls Q hQ hE hG hr hnt hnm hl
  have hx := hE.1
  have hb := hE.2.1
  have hl : lv_has ls 1 [(0, .int a)] := hl
  refine lv_iload_n hx hb dX4_levelOf_0 rfl (lv_at hl 0 rfl) ?_
  refine lv_sipush (v := 160) hx hb dX4_levelOf_1 (by decide) ?_
  refine lv_icmp_lt (tgt := 9) hx hb dX4_levelOf_4 (by decide) (fun c_1 => ?_) (fun c_1 => ?_)
  · skip
    refine lv_iload_n hx hb dX4_levelOf_9 rfl (lv_at hl 0 rfl) ?_
    refine lv_bipush (v := 80) hx hb dX4_levelOf_10 (by decide) ?_
    refine lv_icmp_lt (tgt := 17) hx hb dX4_levelOf_12 (by decide) (fun c_2 => ?_) (fun c_2 => ?_)
    · skip
      refine lv_iload_n hx hb dX4_levelOf_17 rfl (lv_at hl 0 rfl) ?_
      refine lv_bipush (v := 40) hx hb dX4_levelOf_18 (by decide) ?_
      refine lv_icmp_lt (tgt := 27) hx hb dX4_levelOf_20 (by decide) (fun c_3 => ?_) (fun c_3 => ?_)
      · skip
        refine lv_iconst (v := 0) hx hb dX4_levelOf_27 (by decide) ?_
        subst hQ
        exact g_iret hE hG hr (Nat.le_of_ble_eq_true rfl) (Nat.le_of_ble_eq_true rfl) dX4_levelOf_28 ⟨by unfold f_lev; rw [if_pos c_1, if_pos c_2, if_pos c_3], rfl⟩
      · skip
        refine lv_iconst (v := 1) hx hb dX4_levelOf_23 (by decide) ?_
        refine lv_goto (tgt := 28) hx hb dX4_levelOf_24 (by decide) ?_
        subst hQ
        exact g_iret hE hG hr (Nat.le_of_ble_eq_true rfl) (Nat.le_of_ble_eq_true rfl) dX4_levelOf_28 ⟨by unfold f_lev; rw [if_pos c_1, if_pos c_2, if_neg c_3], rfl⟩
    · skip
      refine lv_iconst (v := 2) hx hb dX4_levelOf_15 (by decide) ?_
      subst hQ
      exact g_iret hE hG hr (Nat.le_of_ble_eq_true rfl) (Nat.le_of_ble_eq_true rfl) dX4_levelOf_16 ⟨by unfold f_lev; rw [if_pos c_1, if_neg c_2], rfl⟩
  · skip
    refine lv_iconst (v := 3) hx hb dX4_levelOf_7 (by decide) ?_
    subst hQ
    exact g_iret hE hG hr (Nat.le_of_ble_eq_true rfl) (Nat.le_of_ble_eq_true rfl) dX4_levelOf_8 ⟨by unfold f_lev; rw [if_neg c_1], rfl⟩
def f_turn (a b d : Int32) : Int32 := (if (a - a / 2 * 2) = 0 then b else d)
abbrev rm_X5_turnAt : Room := { frames := 1, cells := 0, slots := 0, locals := 50 }
theorem nm_X5_turnAt : gNm yX5_turnAt 3 := ⟨by decide +kernel, by decide +kernel, by decide +kernel⟩
set_option maxHeartbeats 4000000 in
set_option maxRecDepth 100000 in
theorem c_X5_turnAt (l : Launch) (hfl : l.stackTraces = false) (D : va_G) (tc : Nat → ClassId) (A : Nat → Prop) (w : gW) (a : Int32) (b : Int32) (d : Int32) : gM l yX5_turnAt cX5_turnAt 3 (some .int) rm_X5_turnAt D tc A [.int a, .int b, .int d] w (fun v w' => v = some (.int (f_turn a b d)) ∧ w' = w) (fun _ => False) := by
  refine gM_of (by decide +kernel) (Nat.le_of_ble_eq_true rfl) ?_
  intro p e s m args below meth c ls Q hQ hE hG hr hnt hnm hl
  have hx := hE.1
  have hb := hE.2.1
  have hl : lv_has ls 3 [(0, .int a), (1, .int b), (2, .int d)] := hl
  refine lv_iload_n hx hb dX5_turnAt_0 rfl (lv_at hl 0 rfl) ?_
  refine lv_iconst (v := 2) hx hb dX5_turnAt_1 (by decide) ?_
  refine lv_irem hx hb dX5_turnAt_2 (by decide) ?_
  refine lv_if_ne (tgt := 10) hx hb dX5_turnAt_3 (by decide) (fun c_1 => ?_) (fun c_1 => ?_)
  · skip
    refine lv_iload_n hx hb dX5_turnAt_10 rfl (lv_at hl 2 rfl) ?_
    subst hQ
    exact g_iret hE hG hr (Nat.le_of_ble_eq_true rfl) (Nat.le_of_ble_eq_true rfl) dX5_turnAt_11 ⟨by unfold f_turn; rw [if_neg c_1], rfl⟩
  · skip
    refine lv_iload_n hx hb dX5_turnAt_6 rfl (lv_at hl 1 rfl) ?_
    refine lv_goto (tgt := 11) hx hb dX5_turnAt_7 (by decide) ?_
    subst hQ
    exact g_iret hE hG hr (Nat.le_of_ble_eq_true rfl) (Nat.le_of_ble_eq_true rfl) dX5_turnAt_11 ⟨by unfold f_turn; rw [if_pos c_1], rfl⟩
def f_walk (a b d g : Int32) : Int32 := (if b < (if 0 ≤ (g - d) then (g - d) else 0 - (g - d)) then (if b = ((2 * a) - 1) then g else (if g ≤ d then (d - b) else (d + b))) else (if b = ((2 * a) - 1) then g else g))
abbrev rm_X5_walkAt : Room := { frames := 1, cells := 0, slots := 0, locals := 50 }
theorem nm_X5_walkAt : gNm yX5_walkAt 4 := ⟨by decide +kernel, by decide +kernel, by decide +kernel⟩
set_option maxHeartbeats 4000000 in
set_option maxRecDepth 100000 in
theorem c_X5_walkAt (l : Launch) (hfl : l.stackTraces = false) (D : va_G) (tc : Nat → ClassId) (A : Nat → Prop) (w : gW) (a : Int32) (b : Int32) (d : Int32) (g : Int32) : gM l yX5_walkAt cX5_walkAt 6 (some .int) rm_X5_walkAt D tc A [.int a, .int b, .int d, .int g] w (fun v w' => v = some (.int (f_walk a b d g)) ∧ w' = w) (fun _ => False) := by
  refine gM_of (by decide +kernel) (Nat.le_of_ble_eq_true rfl) ?_
  intro p e s m args below meth c ls Q hQ hE hG hr hnt hnm hl
  have hx := hE.1
  have hb := hE.2.1
  have hl : lv_has ls 6 [(0, .int a), (1, .int b), (2, .int d), (3, .int g)] := hl
  refine lv_iload_n hx hb dX5_walkAt_0 rfl (lv_at hl 1 rfl) ?_
  refine lv_iload_n hx hb dX5_walkAt_1 rfl (lv_at hl 3 rfl) ?_
  refine lv_iload_n hx hb dX5_walkAt_2 rfl (lv_at hl 2 rfl) ?_
  refine lv_isub hx hb dX5_walkAt_3 ?_
  refine va_mabs hx hb (hE.2.2.1.trans hl.1.symm) hE.2.2.2.1 (hE.2.2.2.2.1 _ mw3_113) (hE.2.2.2.2.1 _ mw3_114) (hE.2.2.2.2.1 _ mw1_12) (hE.2.2.2.2.1 _ mw3_115) (Nat.le_of_ble_eq_true rfl) (Nat.le_of_ble_eq_true rfl) (Nat.le_of_ble_eq_true rfl) (Nat.le_of_ble_eq_true rfl) dX5_walkAt_4 ?_
  refine lv_icmp_lt (tgt := 14) hx hb dX5_walkAt_7 (by decide) (fun c_1 => ?_) (fun c_1 => ?_)
  · skip
    refine lv_iconst (v := 0) hx hb dX5_walkAt_14 (by decide) ?_
    refine lv_istore (lv' := [(4, .int 0), (0, .int a), (1, .int b), (2, .int d), (3, .int g)]) hx hb dX5_walkAt_15 hl (by decide) rfl (fun ls hl => ?_)
    refine lv_iload_n hx hb dX5_walkAt_17 rfl (lv_at hl 2 rfl) ?_
    refine lv_iconst (v := 2) hx hb dX5_walkAt_18 (by decide) ?_
    refine lv_iload_n hx hb dX5_walkAt_19 rfl (lv_at hl 1 rfl) ?_
    refine lv_imul hx hb dX5_walkAt_20 ?_
    refine lv_iconst (v := 1) hx hb dX5_walkAt_21 (by decide) ?_
    refine lv_isub hx hb dX5_walkAt_22 ?_
    refine lv_icmp_ne (tgt := 30) hx hb dX5_walkAt_23 (by decide) (fun c_2 => ?_) (fun c_2 => ?_)
    · skip
      refine lv_iconst (v := 0) hx hb dX5_walkAt_30 (by decide) ?_
      refine lv_istore (lv' := [(5, .int 0), (4, .int 0), (0, .int a), (1, .int b), (2, .int d), (3, .int g)]) hx hb dX5_walkAt_31 hl (by decide) rfl (fun ls hl => ?_)
      refine lv_iload hx hb dX5_walkAt_33 (lv_at hl 1 rfl) ?_
      refine lv_if_ne (tgt := 43) hx hb dX5_walkAt_35 (by decide) (fun c9 => (c9 (by decide)).elim) (fun _ => ?_)
      refine lv_iload hx hb dX5_walkAt_38 (lv_at hl 0 rfl) ?_
      refine lv_if_eq (tgt := 45) hx hb dX5_walkAt_40 (by decide) (fun _ => ?_) (fun c9 => (c9 (by decide)).elim)
      refine lv_iload_n hx hb dX5_walkAt_45 rfl (lv_at hl 4 rfl) ?_
      refine lv_iload_n hx hb dX5_walkAt_46 rfl (lv_at hl 5 rfl) ?_
      refine lv_icmp_ge (tgt := 56) hx hb dX5_walkAt_47 (by decide) (fun c_3 => ?_) (fun c_3 => ?_)
      · skip
        refine lv_iload_n hx hb dX5_walkAt_56 rfl (lv_at hl 4 rfl) ?_
        refine lv_iload_n hx hb dX5_walkAt_57 rfl (lv_at hl 3 rfl) ?_
        refine lv_isub hx hb dX5_walkAt_58 ?_
        subst hQ
        exact g_iret hE hG hr (Nat.le_of_ble_eq_true rfl) (Nat.le_of_ble_eq_true rfl) dX5_walkAt_59 ⟨by unfold f_walk; rw [if_pos c_1, if_neg c_2, if_pos c_3], rfl⟩
      · skip
        refine lv_iload_n hx hb dX5_walkAt_50 rfl (lv_at hl 4 rfl) ?_
        refine lv_iload_n hx hb dX5_walkAt_51 rfl (lv_at hl 3 rfl) ?_
        refine lv_iadd hx hb dX5_walkAt_52 ?_
        refine lv_goto (tgt := 59) hx hb dX5_walkAt_53 (by decide) ?_
        subst hQ
        exact g_iret hE hG hr (Nat.le_of_ble_eq_true rfl) (Nat.le_of_ble_eq_true rfl) dX5_walkAt_59 ⟨by unfold f_walk; rw [if_pos c_1, if_neg c_2, if_neg c_3], rfl⟩
    · skip
      refine lv_iconst (v := 1) hx hb dX5_walkAt_26 (by decide) ?_
      refine lv_goto (tgt := 31) hx hb dX5_walkAt_27 (by decide) ?_
      refine lv_istore (lv' := [(5, .int 1), (4, .int 0), (0, .int a), (1, .int b), (2, .int d), (3, .int g)]) hx hb dX5_walkAt_31 hl (by decide) rfl (fun ls hl => ?_)
      refine lv_iload hx hb dX5_walkAt_33 (lv_at hl 1 rfl) ?_
      refine lv_if_ne (tgt := 43) hx hb dX5_walkAt_35 (by decide) (fun c9 => (c9 (by decide)).elim) (fun _ => ?_)
      refine lv_iload hx hb dX5_walkAt_38 (lv_at hl 0 rfl) ?_
      refine lv_if_eq (tgt := 45) hx hb dX5_walkAt_40 (by decide) (fun c9 => absurd c9 (by decide)) (fun _ => ?_)
      refine lv_iload_n hx hb dX5_walkAt_43 rfl (lv_at hl 5 rfl) ?_
      subst hQ
      exact g_iret hE hG hr (Nat.le_of_ble_eq_true rfl) (Nat.le_of_ble_eq_true rfl) dX5_walkAt_44 ⟨by unfold f_walk; rw [if_pos c_1, if_pos c_2], rfl⟩
  · skip
    refine lv_iconst (v := 1) hx hb dX5_walkAt_10 (by decide) ?_
    refine lv_goto (tgt := 15) hx hb dX5_walkAt_11 (by decide) ?_
    refine lv_istore (lv' := [(4, .int 1), (0, .int a), (1, .int b), (2, .int d), (3, .int g)]) hx hb dX5_walkAt_15 hl (by decide) rfl (fun ls hl => ?_)
    refine lv_iload_n hx hb dX5_walkAt_17 rfl (lv_at hl 2 rfl) ?_
    refine lv_iconst (v := 2) hx hb dX5_walkAt_18 (by decide) ?_
    refine lv_iload_n hx hb dX5_walkAt_19 rfl (lv_at hl 1 rfl) ?_
    refine lv_imul hx hb dX5_walkAt_20 ?_
    refine lv_iconst (v := 1) hx hb dX5_walkAt_21 (by decide) ?_
    refine lv_isub hx hb dX5_walkAt_22 ?_
    refine lv_icmp_ne (tgt := 30) hx hb dX5_walkAt_23 (by decide) (fun c_4 => ?_) (fun c_4 => ?_)
    · skip
      refine lv_iconst (v := 0) hx hb dX5_walkAt_30 (by decide) ?_
      refine lv_istore (lv' := [(5, .int 0), (4, .int 1), (0, .int a), (1, .int b), (2, .int d), (3, .int g)]) hx hb dX5_walkAt_31 hl (by decide) rfl (fun ls hl => ?_)
      refine lv_iload hx hb dX5_walkAt_33 (lv_at hl 1 rfl) ?_
      refine lv_if_ne (tgt := 43) hx hb dX5_walkAt_35 (by decide) (fun _ => ?_) (fun c9 => absurd c9 (by decide))
      refine lv_iload_n hx hb dX5_walkAt_43 rfl (lv_at hl 5 rfl) ?_
      subst hQ
      exact g_iret hE hG hr (Nat.le_of_ble_eq_true rfl) (Nat.le_of_ble_eq_true rfl) dX5_walkAt_44 ⟨by unfold f_walk; rw [if_neg c_1, if_neg c_4], rfl⟩
    · skip
      refine lv_iconst (v := 1) hx hb dX5_walkAt_26 (by decide) ?_
      refine lv_goto (tgt := 31) hx hb dX5_walkAt_27 (by decide) ?_
      refine lv_istore (lv' := [(5, .int 1), (4, .int 1), (0, .int a), (1, .int b), (2, .int d), (3, .int g)]) hx hb dX5_walkAt_31 hl (by decide) rfl (fun ls hl => ?_)
      refine lv_iload hx hb dX5_walkAt_33 (lv_at hl 1 rfl) ?_
      refine lv_if_ne (tgt := 43) hx hb dX5_walkAt_35 (by decide) (fun _ => ?_) (fun c9 => absurd c9 (by decide))
      refine lv_iload_n hx hb dX5_walkAt_43 rfl (lv_at hl 5 rfl) ?_
      subst hQ
      exact g_iret hE hG hr (Nat.le_of_ble_eq_true rfl) (Nat.le_of_ble_eq_true rfl) dX5_walkAt_44 ⟨by unfold f_walk; rw [if_neg c_1, if_pos c_4], rfl⟩
def f_strokeAt (a b d g h : Int32) : Int32 := (if a = 1 then (if 2 ≤ (d - d / 4 * 4) then h else g) else (if a = 3 then (if g = 0 then (f_turn d g h) else (if h = 0 then (f_turn d g h) else (f_walk b d g h))) else (f_turn d g h)))
abbrev rm_X5_strokeAt : Room := { frames := 2, cells := 0, slots := 0, locals := 86 }
theorem nm_X5_strokeAt : gNm yX5_strokeAt 5 := ⟨by decide +kernel, by decide +kernel, by decide +kernel⟩
set_option maxHeartbeats 4000000 in
set_option maxRecDepth 100000 in
theorem c_X5_strokeAt (l : Launch) (hfl : l.stackTraces = false) (D : va_G) (tc : Nat → ClassId) (A : Nat → Prop) (w : gW) (a : Int32) (b : Int32) (d : Int32) (g : Int32) (h : Int32) : gM l yX5_strokeAt cX5_strokeAt 5 (some .int) rm_X5_strokeAt D tc A [.int a, .int b, .int d, .int g, .int h] w (fun v w' => v = some (.int (f_strokeAt a b d g h)) ∧ w' = w) (fun _ => False) := by
  refine gM_of (by decide +kernel) (Nat.le_of_ble_eq_true rfl) ?_
  intro p e s m args below meth c ls Q hQ hE hG hr hnt hnm hl
  have hx := hE.1
  have hb := hE.2.1
  have hl : lv_has ls 5 [(0, .int a), (1, .int b), (2, .int d), (3, .int g), (4, .int h)] := hl
  refine lv_iload_n hx hb dX5_strokeAt_0 rfl (lv_at hl 0 rfl) ?_
  by_cases c_1 : a = 1
  · skip
    refine lv_lookup (off := 27) (tgt := 28) hx hb dX5_strokeAt_1 (by decide) (by rw [c_1]; decide) (by decide) ?_
    refine lv_iload_n hx hb dX5_strokeAt_28 rfl (lv_at hl 2 rfl) ?_
    refine lv_iconst (v := 4) hx hb dX5_strokeAt_29 (by decide) ?_
    refine lv_irem hx hb dX5_strokeAt_30 (by decide) ?_
    refine lv_iconst (v := 2) hx hb dX5_strokeAt_31 (by decide) ?_
    refine lv_icmp_ge (tgt := 39) hx hb dX5_strokeAt_32 (by decide) (fun c_2 => ?_) (fun c_2 => ?_)
    · skip
      refine lv_iload hx hb dX5_strokeAt_39 (lv_at hl 4 rfl) ?_
      subst hQ
      exact g_iret hE hG hr (Nat.le_of_ble_eq_true rfl) (Nat.le_of_ble_eq_true rfl) dX5_strokeAt_41 ⟨by unfold f_strokeAt; rw [if_pos c_1, if_pos c_2], rfl⟩
    · skip
      refine lv_iload_n hx hb dX5_strokeAt_35 rfl (lv_at hl 3 rfl) ?_
      refine lv_goto (tgt := 41) hx hb dX5_strokeAt_36 (by decide) ?_
      subst hQ
      exact g_iret hE hG hr (Nat.le_of_ble_eq_true rfl) (Nat.le_of_ble_eq_true rfl) dX5_strokeAt_41 ⟨by unfold f_strokeAt; rw [if_pos c_1, if_neg c_2], rfl⟩
  by_cases c_3 : a = 3
  · skip
    refine lv_lookup (off := 41) (tgt := 42) hx hb dX5_strokeAt_1 (by decide) (by rw [c_3]; decide) (by decide) ?_
    refine lv_iload_n hx hb dX5_strokeAt_42 rfl (lv_at hl 3 rfl) ?_
    refine lv_if_eq (tgt := 51) hx hb dX5_strokeAt_43 (by decide) (fun c_4 => ?_) (fun c_4 => ?_)
    · skip
      refine lv_iload_n hx hb dX5_strokeAt_51 rfl (lv_at hl 2 rfl) ?_
      refine lv_iload_n hx hb dX5_strokeAt_52 rfl (lv_at hl 3 rfl) ?_
      refine lv_iload hx hb dX5_strokeAt_53 (lv_at hl 4 rfl) ?_
      refine g_callS (rest := []) (As := [.int d, .int g, .int h]) hE hG hl.1 (c_X5_turnAt l hfl D tc A w d g h ) mw3_107 mw3_108 mw1_1 mw3_109 nm_X5_turnAt ⟨⟨Nat.le_of_ble_eq_true rfl, Nat.le_of_ble_eq_true rfl⟩, Nat.le_of_ble_eq_true rfl, Nat.le_of_ble_eq_true rfl⟩ rfl rfl (Nat.le_of_ble_eq_true rfl) dX5_strokeAt_55 (g_no) ?_
      intro v9 w9 H locs h9 hG
      obtain ⟨e9, f9⟩ := h9
      rw [f9] at hG; rw [e9]; clear e9 f9
      show W p l e _ s m args below meth c H locs _ _ _ (F0 m 58 ls [.int (f_turn d g h)])
      refine lv_goto (tgt := 69) hx hb dX5_strokeAt_58 (by decide) ?_
      subst hQ
      exact g_iret hE hG hr (Nat.le_of_ble_eq_true rfl) (Nat.le_of_ble_eq_true rfl) dX5_strokeAt_69 ⟨by unfold f_strokeAt; rw [if_neg c_1, if_pos c_3, if_pos c_4], rfl⟩
    · skip
      refine lv_iload hx hb dX5_strokeAt_46 (lv_at hl 4 rfl) ?_
      refine lv_if_ne (tgt := 61) hx hb dX5_strokeAt_48 (by decide) (fun c_5 => ?_) (fun c_5 => ?_)
      · skip
        refine lv_iload_n hx hb dX5_strokeAt_61 rfl (lv_at hl 1 rfl) ?_
        refine lv_iload_n hx hb dX5_strokeAt_62 rfl (lv_at hl 2 rfl) ?_
        refine lv_iload_n hx hb dX5_strokeAt_63 rfl (lv_at hl 3 rfl) ?_
        refine lv_iload hx hb dX5_strokeAt_64 (lv_at hl 4 rfl) ?_
        refine g_callS (rest := []) (As := [.int b, .int d, .int g, .int h]) hE hG hl.1 (c_X5_walkAt l hfl D tc A w b d g h ) mw3_110 mw3_111 mw1_1 mw3_112 nm_X5_walkAt ⟨⟨Nat.le_of_ble_eq_true rfl, Nat.le_of_ble_eq_true rfl⟩, Nat.le_of_ble_eq_true rfl, Nat.le_of_ble_eq_true rfl⟩ rfl rfl (Nat.le_of_ble_eq_true rfl) dX5_strokeAt_66 (g_no) ?_
        intro v9 w9 H locs h9 hG
        obtain ⟨e9, f9⟩ := h9
        rw [f9] at hG; rw [e9]; clear e9 f9
        show W p l e _ s m args below meth c H locs _ _ _ (F0 m 69 ls [.int (f_walk b d g h)])
        subst hQ
        exact g_iret hE hG hr (Nat.le_of_ble_eq_true rfl) (Nat.le_of_ble_eq_true rfl) dX5_strokeAt_69 ⟨by unfold f_strokeAt; rw [if_neg c_1, if_pos c_3, if_neg c_4, if_neg c_5], rfl⟩
      · skip
        refine lv_iload_n hx hb dX5_strokeAt_51 rfl (lv_at hl 2 rfl) ?_
        refine lv_iload_n hx hb dX5_strokeAt_52 rfl (lv_at hl 3 rfl) ?_
        refine lv_iload hx hb dX5_strokeAt_53 (lv_at hl 4 rfl) ?_
        refine g_callS (rest := []) (As := [.int d, .int g, .int h]) hE hG hl.1 (c_X5_turnAt l hfl D tc A w d g h ) mw3_107 mw3_108 mw1_1 mw3_109 nm_X5_turnAt ⟨⟨Nat.le_of_ble_eq_true rfl, Nat.le_of_ble_eq_true rfl⟩, Nat.le_of_ble_eq_true rfl, Nat.le_of_ble_eq_true rfl⟩ rfl rfl (Nat.le_of_ble_eq_true rfl) dX5_strokeAt_55 (g_no) ?_
        intro v9 w9 H locs h9 hG
        obtain ⟨e9, f9⟩ := h9
        rw [f9] at hG; rw [e9]; clear e9 f9
        show W p l e _ s m args below meth c H locs _ _ _ (F0 m 58 ls [.int (f_turn d g h)])
        refine lv_goto (tgt := 69) hx hb dX5_strokeAt_58 (by decide) ?_
        subst hQ
        exact g_iret hE hG hr (Nat.le_of_ble_eq_true rfl) (Nat.le_of_ble_eq_true rfl) dX5_strokeAt_69 ⟨by unfold f_strokeAt; rw [if_neg c_1, if_pos c_3, if_neg c_4, if_pos c_5], rfl⟩
  refine lv_lookup (off := 69) (tgt := 70) hx hb dX5_strokeAt_1 (by decide) (by show Op.lookupswitch.offset [(1, 27), (3, 41)] 69 _ = _; rw [lv_osw c_1 (by decide), lv_osw c_3 (by decide)]; rfl) (by decide) ?_
  refine lv_iload_n hx hb dX5_strokeAt_70 rfl (lv_at hl 2 rfl) ?_
  refine lv_iload_n hx hb dX5_strokeAt_71 rfl (lv_at hl 3 rfl) ?_
  refine lv_iload hx hb dX5_strokeAt_72 (lv_at hl 4 rfl) ?_
  refine g_callS (rest := []) (As := [.int d, .int g, .int h]) hE hG hl.1 (c_X5_turnAt l hfl D tc A w d g h ) mw3_107 mw3_108 mw1_1 mw3_109 nm_X5_turnAt ⟨⟨Nat.le_of_ble_eq_true rfl, Nat.le_of_ble_eq_true rfl⟩, Nat.le_of_ble_eq_true rfl, Nat.le_of_ble_eq_true rfl⟩ rfl rfl (Nat.le_of_ble_eq_true rfl) dX5_strokeAt_74 (g_no) ?_
  intro v9 w9 H locs h9 hG
  obtain ⟨e9, f9⟩ := h9
  rw [f9] at hG; rw [e9]; clear e9 f9
  show W p l e _ s m args below meth c H locs _ _ _ (F0 m 77 ls [.int (f_turn d g h)])
  subst hQ
  exact g_iret hE hG hr (Nat.le_of_ble_eq_true rfl) (Nat.le_of_ble_eq_true rfl) dX5_strokeAt_77 ⟨by unfold f_strokeAt; rw [if_neg c_1, if_neg c_3], rfl⟩
def f_walkB (a b d g : Int32) : Int32 := (if a = g then g else (if d = ((2 * b) - 1) then g else (if g ≤ a then (a - 1) else (a + 1))))
abbrev rm_X5_walkBehind : Room := { frames := 1, cells := 0, slots := 0, locals := 50 }
theorem nm_X5_walkBehind : gNm yX5_walkBehind 4 := ⟨by decide +kernel, by decide +kernel, by decide +kernel⟩
set_option maxHeartbeats 4000000 in
set_option maxRecDepth 100000 in
theorem c_X5_walkBehind (l : Launch) (hfl : l.stackTraces = false) (D : va_G) (tc : Nat → ClassId) (A : Nat → Prop) (w : gW) (a : Int32) (b : Int32) (d : Int32) (g : Int32) : gM l yX5_walkBehind cX5_walkBehind 4 (some .int) rm_X5_walkBehind D tc A [.int a, .int b, .int d, .int g] w (fun v w' => v = some (.int (f_walkB a b d g)) ∧ w' = w) (fun _ => False) := by
  refine gM_of (by decide +kernel) (Nat.le_of_ble_eq_true rfl) ?_
  intro p e s m args below meth c ls Q hQ hE hG hr hnt hnm hl
  have hx := hE.1
  have hb := hE.2.1
  have hl : lv_has ls 4 [(0, .int a), (1, .int b), (2, .int d), (3, .int g)] := hl
  refine lv_iload_n hx hb dX5_walkBehind_0 rfl (lv_at hl 0 rfl) ?_
  refine lv_iload_n hx hb dX5_walkBehind_1 rfl (lv_at hl 3 rfl) ?_
  refine lv_icmp_eq (tgt := 14) hx hb dX5_walkBehind_2 (by decide) (fun c_1 => ?_) (fun c_1 => ?_)
  · skip
    refine lv_iload_n hx hb dX5_walkBehind_14 rfl (lv_at hl 3 rfl) ?_
    subst hQ
    exact g_iret hE hG hr (Nat.le_of_ble_eq_true rfl) (Nat.le_of_ble_eq_true rfl) dX5_walkBehind_15 ⟨by unfold f_walkB; rw [if_pos c_1], rfl⟩
  · skip
    refine lv_iload_n hx hb dX5_walkBehind_5 rfl (lv_at hl 2 rfl) ?_
    refine lv_iconst (v := 2) hx hb dX5_walkBehind_6 (by decide) ?_
    refine lv_iload_n hx hb dX5_walkBehind_7 rfl (lv_at hl 1 rfl) ?_
    refine lv_imul hx hb dX5_walkBehind_8 ?_
    refine lv_iconst (v := 1) hx hb dX5_walkBehind_9 (by decide) ?_
    refine lv_isub hx hb dX5_walkBehind_10 ?_
    refine lv_icmp_ne (tgt := 16) hx hb dX5_walkBehind_11 (by decide) (fun c_2 => ?_) (fun c_2 => ?_)
    · skip
      refine lv_iload_n hx hb dX5_walkBehind_16 rfl (lv_at hl 0 rfl) ?_
      refine lv_iload_n hx hb dX5_walkBehind_17 rfl (lv_at hl 3 rfl) ?_
      refine lv_icmp_ge (tgt := 27) hx hb dX5_walkBehind_18 (by decide) (fun c_3 => ?_) (fun c_3 => ?_)
      · skip
        refine lv_iload_n hx hb dX5_walkBehind_27 rfl (lv_at hl 0 rfl) ?_
        refine lv_iconst (v := 1) hx hb dX5_walkBehind_28 (by decide) ?_
        refine lv_isub hx hb dX5_walkBehind_29 ?_
        subst hQ
        exact g_iret hE hG hr (Nat.le_of_ble_eq_true rfl) (Nat.le_of_ble_eq_true rfl) dX5_walkBehind_30 ⟨by unfold f_walkB; rw [if_neg c_1, if_neg c_2, if_pos c_3], rfl⟩
      · skip
        refine lv_iload_n hx hb dX5_walkBehind_21 rfl (lv_at hl 0 rfl) ?_
        refine lv_iconst (v := 1) hx hb dX5_walkBehind_22 (by decide) ?_
        refine lv_iadd hx hb dX5_walkBehind_23 ?_
        refine lv_goto (tgt := 30) hx hb dX5_walkBehind_24 (by decide) ?_
        subst hQ
        exact g_iret hE hG hr (Nat.le_of_ble_eq_true rfl) (Nat.le_of_ble_eq_true rfl) dX5_walkBehind_30 ⟨by unfold f_walkB; rw [if_neg c_1, if_neg c_2, if_neg c_3], rfl⟩
    · skip
      refine lv_iload_n hx hb dX5_walkBehind_14 rfl (lv_at hl 3 rfl) ?_
      subst hQ
      exact g_iret hE hG hr (Nat.le_of_ble_eq_true rfl) (Nat.le_of_ble_eq_true rfl) dX5_walkBehind_15 ⟨by unfold f_walkB; rw [if_neg c_1, if_pos c_2], rfl⟩
def f_strokeB (a b d g h j : Int32) : Int32 := (if b = 1 then (if (g - g / 2 * 2) = 0 then ((h + j) - a) else a) else (if b = 3 then (if h = 0 then ((h + j) - a) else (if j = 0 then ((h + j) - a) else (f_walkB a d g j))) else ((h + j) - a)))
abbrev rm_X5_strokeBehind : Room := { frames := 2, cells := 0, slots := 0, locals := 86 }
theorem nm_X5_strokeBehind : gNm yX5_strokeBehind 6 := ⟨by decide +kernel, by decide +kernel, by decide +kernel⟩
set_option maxHeartbeats 4000000 in
set_option maxRecDepth 100000 in
theorem c_X5_strokeBehind (l : Launch) (hfl : l.stackTraces = false) (D : va_G) (tc : Nat → ClassId) (A : Nat → Prop) (w : gW) (a : Int32) (b : Int32) (d : Int32) (g : Int32) (h : Int32) (j : Int32) : gM l yX5_strokeBehind cX5_strokeBehind 7 (some .int) rm_X5_strokeBehind D tc A [.int a, .int b, .int d, .int g, .int h, .int j] w (fun v w' => v = some (.int (f_strokeB a b d g h j)) ∧ w' = w) (fun _ => False) := by
  refine gM_of (by decide +kernel) (Nat.le_of_ble_eq_true rfl) ?_
  intro p e s m args below meth c ls Q hQ hE hG hr hnt hnm hl
  have hx := hE.1
  have hb := hE.2.1
  have hl : lv_has ls 7 [(0, .int a), (1, .int b), (2, .int d), (3, .int g), (4, .int h), (5, .int j)] := hl
  refine lv_iload hx hb dX5_strokeBehind_0 (lv_at hl 4 rfl) ?_
  refine lv_iload hx hb dX5_strokeBehind_2 (lv_at hl 5 rfl) ?_
  refine lv_iadd hx hb dX5_strokeBehind_4 ?_
  refine lv_iload_n hx hb dX5_strokeBehind_5 rfl (lv_at hl 0 rfl) ?_
  refine lv_isub hx hb dX5_strokeBehind_6 ?_
  refine lv_istore (lv' := [(6, .int ((h + j) - a)), (0, .int a), (1, .int b), (2, .int d), (3, .int g), (4, .int h), (5, .int j)]) hx hb dX5_strokeBehind_7 hl (by decide) rfl (fun ls hl => ?_)
  refine lv_iload_n hx hb dX5_strokeBehind_9 rfl (lv_at hl 2 rfl) ?_
  by_cases c_1 : b = 1
  · skip
    refine lv_lookup (off := 26) (tgt := 36) hx hb dX5_strokeBehind_10 (by decide) (by rw [c_1]; decide) (by decide) ?_
    refine lv_iload_n hx hb dX5_strokeBehind_36 rfl (lv_at hl 4 rfl) ?_
    refine lv_iconst (v := 2) hx hb dX5_strokeBehind_37 (by decide) ?_
    refine lv_irem hx hb dX5_strokeBehind_38 (by decide) ?_
    refine lv_if_ne (tgt := 47) hx hb dX5_strokeBehind_39 (by decide) (fun c_2 => ?_) (fun c_2 => ?_)
    · skip
      refine lv_iload_n hx hb dX5_strokeBehind_47 rfl (lv_at hl 1 rfl) ?_
      subst hQ
      exact g_iret hE hG hr (Nat.le_of_ble_eq_true rfl) (Nat.le_of_ble_eq_true rfl) dX5_strokeBehind_48 ⟨by unfold f_strokeB; rw [if_pos c_1, if_neg c_2], rfl⟩
    · skip
      refine lv_iload hx hb dX5_strokeBehind_42 (lv_at hl 0 rfl) ?_
      refine lv_goto (tgt := 48) hx hb dX5_strokeBehind_44 (by decide) ?_
      subst hQ
      exact g_iret hE hG hr (Nat.le_of_ble_eq_true rfl) (Nat.le_of_ble_eq_true rfl) dX5_strokeBehind_48 ⟨by unfold f_strokeB; rw [if_pos c_1, if_pos c_2], rfl⟩
  by_cases c_3 : b = 3
  · skip
    refine lv_lookup (off := 39) (tgt := 49) hx hb dX5_strokeBehind_10 (by decide) (by rw [c_3]; decide) (by decide) ?_
    refine lv_iload hx hb dX5_strokeBehind_49 (lv_at hl 5 rfl) ?_
    refine lv_if_eq (tgt := 59) hx hb dX5_strokeBehind_51 (by decide) (fun c_4 => ?_) (fun c_4 => ?_)
    · skip
      refine lv_iload hx hb dX5_strokeBehind_59 (lv_at hl 0 rfl) ?_
      refine lv_goto (tgt := 72) hx hb dX5_strokeBehind_61 (by decide) ?_
      subst hQ
      exact g_iret hE hG hr (Nat.le_of_ble_eq_true rfl) (Nat.le_of_ble_eq_true rfl) dX5_strokeBehind_72 ⟨by unfold f_strokeB; rw [if_neg c_1, if_pos c_3, if_pos c_4], rfl⟩
    · skip
      refine lv_iload hx hb dX5_strokeBehind_54 (lv_at hl 6 rfl) ?_
      refine lv_if_ne (tgt := 64) hx hb dX5_strokeBehind_56 (by decide) (fun c_5 => ?_) (fun c_5 => ?_)
      · skip
        refine lv_iload_n hx hb dX5_strokeBehind_64 rfl (lv_at hl 1 rfl) ?_
        refine lv_iload_n hx hb dX5_strokeBehind_65 rfl (lv_at hl 3 rfl) ?_
        refine lv_iload_n hx hb dX5_strokeBehind_66 rfl (lv_at hl 4 rfl) ?_
        refine lv_iload hx hb dX5_strokeBehind_67 (lv_at hl 6 rfl) ?_
        refine g_callS (rest := []) (As := [.int a, .int d, .int g, .int j]) hE hG hl.1 (c_X5_walkBehind l hfl D tc A w a d g j ) mw3_101 mw3_102 mw1_1 mw3_103 nm_X5_walkBehind ⟨⟨Nat.le_of_ble_eq_true rfl, Nat.le_of_ble_eq_true rfl⟩, Nat.le_of_ble_eq_true rfl, Nat.le_of_ble_eq_true rfl⟩ rfl rfl (Nat.le_of_ble_eq_true rfl) dX5_strokeBehind_69 (g_no) ?_
        intro v9 w9 H locs h9 hG
        obtain ⟨e9, f9⟩ := h9
        rw [f9] at hG; rw [e9]; clear e9 f9
        show W p l e _ s m args below meth c H locs _ _ _ (F0 m 72 ls [.int (f_walkB a d g j)])
        subst hQ
        exact g_iret hE hG hr (Nat.le_of_ble_eq_true rfl) (Nat.le_of_ble_eq_true rfl) dX5_strokeBehind_72 ⟨by unfold f_strokeB; rw [if_neg c_1, if_pos c_3, if_neg c_4, if_neg c_5], rfl⟩
      · skip
        refine lv_iload hx hb dX5_strokeBehind_59 (lv_at hl 0 rfl) ?_
        refine lv_goto (tgt := 72) hx hb dX5_strokeBehind_61 (by decide) ?_
        subst hQ
        exact g_iret hE hG hr (Nat.le_of_ble_eq_true rfl) (Nat.le_of_ble_eq_true rfl) dX5_strokeBehind_72 ⟨by unfold f_strokeB; rw [if_neg c_1, if_pos c_3, if_neg c_4, if_pos c_5], rfl⟩
  refine lv_lookup (off := 63) (tgt := 73) hx hb dX5_strokeBehind_10 (by decide) (by show Op.lookupswitch.offset [(1, 26), (3, 39)] 63 _ = _; rw [lv_osw c_1 (by decide), lv_osw c_3 (by decide)]; rfl) (by decide) ?_
  refine lv_iload hx hb dX5_strokeBehind_73 (lv_at hl 0 rfl) ?_
  subst hQ
  exact g_iret hE hG hr (Nat.le_of_ble_eq_true rfl) (Nat.le_of_ble_eq_true rfl) dX5_strokeBehind_75 ⟨by unfold f_strokeB; rw [if_neg c_1, if_neg c_3], rfl⟩
def f_in (a b d : Int32) : Int32 := (if a < b then 0 else (if d < a then 0 else 1))
theorem f_in_b (a b d : Int32) : f_in a b d = 0 ∨ f_in a b d = 1 := by
  unfold f_in
  repeat' split
  all_goals first | exact Or.inl rfl | exact Or.inr rfl
def m_den (a b : Int32) : Int32 := (if a = 0 then 1 else (if a = 2 then ((1 : Int32) <<< (b &&& 31)) else ((2 : Int32) <<< (b &&& 31))))
def f_less (a b : Int32) : Int32 := (if b ≤ a then b else a)
def m_str (a b d g h : Int32) : Int32 := (if a = 0 then (if d = 0 then g else h) else (if a = 1 then (if 2 ≤ (d - d / 4 * 4) then h else g) else (if a = 2 then (if (d - d / 2 * 2) = 0 then g else h) else (if g = 0 then (if (d - d / 2 * 2) = 0 then g else h) else (if h = 0 then (if (d - d / 2 * 2) = 0 then g else h) else (if d = ((2 * b) - 1) then h else (if h ≤ g then (if h ≤ (g - d) then (g - d) else h) else (f_less (g + d) h))))))))
def m_isPart (a : Int32) : Int32 := (f_in a 0 3)
theorem m_isPart_b (a : Int32) : m_isPart a = 0 ∨ m_isPart a = 1 := by
  unfold m_isPart
  repeat' split
  all_goals first | exact Or.inl rfl | exact Or.inr rfl | apply f_in_b
def m_isSet (a : Int32) : Int32 := (f_in a 0 3)
theorem m_isSet_b (a : Int32) : m_isSet a = 0 ∨ m_isSet a = 1 := by
  unfold m_isSet
  repeat' split
  all_goals first | exact Or.inl rfl | exact Or.inr rfl | apply f_in_b
