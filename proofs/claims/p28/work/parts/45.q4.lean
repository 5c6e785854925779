/-! what is covered -/
def bI (b : Bool) : Int32 := if b then 1 else 0
theorem bI_z {b : Bool} : bI b = 0 ↔ b = false := by cases b <;> decide
theorem bI_b (b : Bool) : bI b = 0 ∨ bI b = 1 := by cases b <;> decide
/-- the first k players of a way: the parts, how many, whether they can -/
def cvI (kn : Nat → Bool) (gP : Nat → Nat) (e : Nat → Nat) : Nat → Nat × Nat × Bool
  | 0 => (0, 0, true)
  | k + 1 => if e k < 4 then ((cvI kn gP e k).1 ||| 2 ^ (e k), (cvI kn gP e k).2.1 + 1, (cvI kn gP e k).2.2 && (kn k && (gP k).testBit (e k)) && !((cvI kn gP e k).1.testBit (e k))) else cvI kn gP e k
def wyD (wy : Nat) : Nat → Nat := fun k => wy / 5 ^ k % 5
def cvM (kn : Nat → Bool) (gP : Nat → Nat) : Nat → Nat
  | 0 => 0
  | wy + 1 => if (cvI kn gP (wyD wy) 4).2.2 && decide (cvM kn gP wy < (cvI kn gP (wyD wy) 4).2.1) then (cvI kn gP (wyD wy) 4).2.1 else cvM kn gP wy
theorem cvI_s {kn : Nat → Bool} {gP e : Nat → Nat} {k : Nat} (h : e k < 4) : cvI kn gP e (k + 1) = ((cvI kn gP e k).1 ||| 2 ^ (e k), (cvI kn gP e k).2.1 + 1, (cvI kn gP e k).2.2 && (kn k && (gP k).testBit (e k)) && !((cvI kn gP e k).1.testBit (e k))) := if_pos h
theorem cvI_n {kn : Nat → Bool} {gP e : Nat → Nat} {k : Nat} (h : ¬ e k < 4) : cvI kn gP e (k + 1) = cvI kn gP e k := if_neg h
theorem or_lt16 : ∀ S : Nat, S < 16 → ∀ pt : Nat, pt < 4 → S ||| 2 ^ pt < 16 := by decide +kernel
theorem cvI_lt (kn : Nat → Bool) (gP e : Nat → Nat) : ∀ k, (cvI kn gP e k).1 < 16 ∧ (cvI kn gP e k).2.1 ≤ k := by
  intro k
  induction k with
  | zero => exact ⟨(by show 0 < 16; decide), Nat.le_refl _⟩
  | succ k ih =>
    by_cases h : e k < 4
    · rw [cvI_s h]; exact ⟨or_lt16 _ ih.1 _ h, by show _ + 1 ≤ k + 1; omega⟩
    · rw [cvI_n h]; exact ⟨ih.1, by omega⟩
theorem cvM_le (kn : Nat → Bool) (gP : Nat → Nat) : ∀ wy, cvM kn gP wy ≤ 4 := by
  intro wy
  induction wy with
  | zero => exact Nat.zero_le _
  | succ wy ih =>
    have := (cvI_lt kn gP (wyD wy) 4).2
    unfold cvM
    split <;> omega
theorem or_pt : ∀ S : Nat, S < 16 → ∀ pt : Nat, pt < 4 → (nI S ||| ((1 : Int32) <<< (nI pt &&& 31))) = nI (S ||| 2 ^ pt) := by decide +kernel
theorem bit_pt : ∀ S : Nat, S < 16 → ∀ pt : Nat, pt < 4 → (((nI S >>> (nI pt &&& 31)) &&& 1) = 0 ∧ S.testBit pt = false) ∨ (((nI S >>> (nI pt &&& 31)) &&& 1) = 1 ∧ S.testBit pt = true) := by decide +kernel
theorem cv_can {C K : Bool} {x : Int64} {a S pt : Nat} (hx : K = decide (¬ lg_cmp x 0 < 0)) (ha : a < 16) (hS : S < 16) (hp : pt < 4) : (if bI C = 0 then 0 else (if lg_cmp x 0 < 0 then 0 else (if ((nI a >>> (nI pt &&& 31)) &&& 1) = 1 then (if ((nI S >>> (nI pt &&& 31)) &&& 1) = 0 then 1 else 0 : Int32) else 0 : Int32) : Int32) : Int32) = bI (C && (K && a.testBit pt) && !S.testBit pt) := by
  subst hx
  cases C
  · rfl
  · by_cases h : lg_cmp x 0 < 0
    · simp [h, bI]
    · rcases bit_pt a ha pt hp with ⟨h1, h2⟩ | ⟨h1, h2⟩ <;> rcases bit_pt S hS pt hp with ⟨h3, h4⟩ | ⟨h3, h4⟩ <;> simp [h, h1, h2, h3, h4, bI]
theorem cv_mst {C : Bool} {M N : Nat} (hM : M ≤ 4) (hN : N ≤ 4) : (if bI C = 0 then nI M else (if nI N ≤ nI M then nI M else nI N : Int32) : Int32) = nI (if C && decide (M < N) then N else M) := by
  cases C
  · rfl
  · by_cases h : M < N
    · have h2 : ¬ nI N ≤ nI M := nI_ge h (by omega)
      simp [h, h2, bI]
    · have h2 : nI N ≤ nI M := nI_le (by omega) (by omega)
      simp [h, h2, bI]
abbrev rm_L_covered : Room := { frames := 1, cells := 0, slots := 0, locals := 50 }
theorem nm_L_covered : gNm yL_covered 3 := ⟨by decide +kernel, by decide +kernel, by decide +kernel⟩
set_option maxHeartbeats 4000000 in
set_option maxRecDepth 100000 in
theorem c_L_covered (l : Launch) (hfl : l.stackTraces = false) (D : va_G) (tc : Nat → ClassId) (A : Nat → Prop) (w : gW) (gc : Nat → Int64) (gm : Nat → Int32) (ac : Nat) (am : Nat) (i : Nat) (kn : Nat → Bool) (gP : Nat → Nat) (h1 : w 1000 = some (ac, .inl (tc 1, 15, .inr (.inl gc)))) (h2 : w 1001 = some (am, .inl (tc 0, 19, .inl gm))) (hi : i < 2) (hP : ∀ k, k < 4 → gP k < 16 ∧ gm (15 + k) = nI (gP k)) (hkn : ∀ k, k < 4 → kn k = decide (¬ lg_cmp (gc (2 + 2 * k + i)) 0 < 0)) : gM l yL_covered cL_covered 11 (some .int) rm_L_covered D tc A [.ref ac, .ref am, .int (nI i)] w (fun v w' => v = some (.int (nI (cvM kn gP 625))) ∧ w' = w) (fun _ => False) := by
  refine gM_of (by decide +kernel) (Nat.le_of_ble_eq_true rfl) ?_
  intro p e s m args below meth c ls Q hQ hE hG hr hnt hnm hl
  have hx := hE.1
  have hb := hE.2.1
  have hl : lv_has ls 11 [(0, .ref ac), (1, .ref am), (2, .int (nI i))] := hl
  refine lv_iconst (v := 0) hx hb dL_covered_0 (by decide) ?_
  refine lv_istore_n (lv' := [(3, .int 0), (0, .ref ac), (1, .ref am), (2, .int (nI i))]) hx hb dL_covered_1 rfl hl (by decide) rfl (fun ls hl => ?_)
  refine lv_iconst (v := 0) hx hb dL_covered_2 (by decide) ?_
  refine lv_istore (lv' := [(4, .int 0), (3, .int 0), (0, .ref ac), (1, .ref am), (2, .int (nI i))]) hx hb dL_covered_3 hl (by decide) rfl (fun ls hl => ?_)
  have hl : lv_has ls 11 [(4, .int (nI 0)), (3, .int (nI (cvM kn gP 0))), (0, .ref ac), (1, .ref am), (2, .int (nI i))] := lv_sub hl [0, 1, 2, 3, 4] rfl
  have hloop_3 : ∀ (n_1 wy : Nat) (H : Heap) (locs : List Loc) (ls : Array Slot), wy + n_1 = 625 → gS D A s.heap w H locs → lv_has ls 11 [(4, .int (nI wy)), (3, .int (nI (cvM kn gP wy))), (0, .ref ac), (1, .ref am), (2, .int (nI i))] → W p l e rm_L_covered s m args below meth c H locs 0 0 Q (F0 m 5 ls []) := by
    intro n_1
    induction n_1 with
    | zero =>
      intro wy H locs ls hk_2 hG hl
      have ei9 : wy = 625 := by omega
      rw [ei9] at hl
      refine lv_iload hx hb dL_covered_5 (lv_at hl 0 rfl) ?_
      refine lv_sipush (v := 625) hx hb dL_covered_7 (by decide) ?_
      refine lv_icmp_ge (tgt := 148) hx hb dL_covered_10 (by decide) (fun c9 => ?_) (fun c9 => (c9 ((nI_leI (a := 625) (b := 625) (by omega) (by omega)).mpr (by omega))).elim)
      refine lv_iload_n hx hb dL_covered_148 rfl (lv_at hl 1 rfl) ?_
      subst hQ
      exact g_iret hE hG hr (Nat.le_of_ble_eq_true rfl) (Nat.le_of_ble_eq_true rfl) dL_covered_149 ⟨rfl, rfl⟩
    | succ n_1 ihn_1 =>
      intro wy H locs ls hk_2 hG hl
      refine lv_iload hx hb dL_covered_5 (lv_at hl 0 rfl) ?_
      refine lv_sipush (v := 625) hx hb dL_covered_7 (by decide) ?_
      refine lv_icmp_ge (tgt := 148) hx hb dL_covered_10 (by decide) (fun c9 => absurd c9 (fun h9 => absurd ((nI_leI (a := 625) (b := wy) (by omega) (by omega)).mp h9) (by omega))) (fun c9 => ?_)
      refine lv_iconst (v := 0) hx hb dL_covered_13 (by decide) ?_
      refine lv_istore (lv' := [(5, .int 0), (4, .int (nI wy)), (3, .int (nI (cvM kn gP wy))), (0, .ref ac), (1, .ref am), (2, .int (nI i))]) hx hb dL_covered_14 hl (by decide) rfl (fun ls hl => ?_)
      refine lv_iconst (v := 0) hx hb dL_covered_16 (by decide) ?_
      refine lv_istore (lv' := [(6, .int 0), (5, .int 0), (4, .int (nI wy)), (3, .int (nI (cvM kn gP wy))), (0, .ref ac), (1, .ref am), (2, .int (nI i))]) hx hb dL_covered_17 hl (by decide) rfl (fun ls hl => ?_)
      refine lv_iload hx hb dL_covered_19 (lv_at hl 2 rfl) ?_
      refine lv_istore (lv' := [(7, .int (nI wy)), (6, .int 0), (5, .int 0), (4, .int (nI wy)), (3, .int (nI (cvM kn gP wy))), (0, .ref ac), (1, .ref am), (2, .int (nI i))]) hx hb dL_covered_21 hl (by decide) rfl (fun ls hl => ?_)
      refine lv_iconst (v := 1) hx hb dL_covered_23 (by decide) ?_
      refine lv_istore (lv' := [(8, .int 1), (7, .int (nI wy)), (6, .int 0), (5, .int 0), (4, .int (nI wy)), (3, .int (nI (cvM kn gP wy))), (0, .ref ac), (1, .ref am), (2, .int (nI i))]) hx hb dL_covered_24 hl (by decide) rfl (fun ls hl => ?_)
      refine lv_iconst (v := 0) hx hb dL_covered_26 (by decide) ?_
      refine lv_istore (lv' := [(9, .int 0), (8, .int 1), (7, .int (nI wy)), (6, .int 0), (5, .int 0), (4, .int (nI wy)), (3, .int (nI (cvM kn gP wy))), (0, .ref ac), (1, .ref am), (2, .int (nI i))]) hx hb dL_covered_27 hl (by decide) rfl (fun ls hl => ?_)
      have hwy : wy < 625 := by omega
      have hl : lv_has ls 11 [(9, .int (nI 0)), (8, .int (bI (cvI kn gP (wyD wy) 0).2.2)), (7, .int (nI (wy / 5 ^ 0))), (6, .int (nI ((cvI kn gP (wyD wy) 0).2.1))), (5, .int (nI ((cvI kn gP (wyD wy) 0).1))), (4, .int (nI wy)), (3, .int (nI (cvM kn gP wy))), (0, .ref ac), (1, .ref am), (2, .int (nI i))] := by rw [show wy / 5 ^ 0 = wy by rw [Nat.pow_zero, Nat.div_one]]; exact lv_sub hl [0, 1, 2, 3, 4, 5, 6, 7, 8, 9] rfl
      have hloop_6 : ∀ (n_4 k : Nat) (H : Heap) (locs : List Loc) (ls : Array Slot), k + n_4 = 4 → gS D A s.heap w H locs → lv_has ls 11 [(9, .int (nI k)), (5, .int (nI ((cvI kn gP (wyD wy) k).1))), (6, .int (nI ((cvI kn gP (wyD wy) k).2.1))), (7, .int (nI (wy / 5 ^ k))), (8, .int (bI (cvI kn gP (wyD wy) k).2.2)), (4, .int (nI wy)), (3, .int (nI (cvM kn gP wy))), (0, .ref ac), (1, .ref am), (2, .int (nI i))] → W p l e rm_L_covered s m args below meth c H locs 0 0 Q (F0 m 29 ls []) := by
        intro n_4
        induction n_4 with
        | zero =>
          intro k H locs ls hk_5 hG hl
          have ei9 : k = 4 := by omega
          rw [ei9] at hl
          refine lv_iload hx hb dL_covered_29 (lv_at hl 0 rfl) ?_
          refine lv_iconst (v := 4) hx hb dL_covered_31 (by decide) ?_
          refine lv_icmp_ge (tgt := 124) hx hb dL_covered_32 (by decide) (fun c9 => ?_) (fun c9 => (c9 ((nI_leI (a := 4) (b := 4) (by omega) (by omega)).mpr (by omega))).elim)
          have hM4 := cvM_le kn gP wy
          have hN4 := (cvI_lt kn gP (wyD wy) 4).2
          refine lv_iload hx hb dL_covered_124 (lv_at hl 4 rfl) ?_
          have j_8 : ∀ (v_7 : Int32) (H : Heap) (locs : List Loc), v_7 = (if (bI (cvI kn gP (wyD wy) 4).2.2) = 0 then (nI (cvM kn gP wy)) else (if (nI ((cvI kn gP (wyD wy) 4).2.1)) ≤ (nI (cvM kn gP wy)) then (nI (cvM kn gP wy)) else (nI ((cvI kn gP (wyD wy) 4).2.1)) : Int32) : Int32) → gS D A s.heap w H locs → W p l e rm_L_covered s m args below meth c H locs 0 0 Q (F0 m 141 ls (.int v_7 :: [])) := by
            intro v_7 H locs ev_7 hG
            refine lv_istore_n (lv' := [(3, .int v_7), (9, .int (nI 4)), (5, .int (nI ((cvI kn gP (wyD wy) 4).1))), (6, .int (nI ((cvI kn gP (wyD wy) 4).2.1))), (7, .int (nI (wy / 5 ^ 4))), (8, .int (bI (cvI kn gP (wyD wy) 4).2.2)), (4, .int (nI wy)), (0, .ref ac), (1, .ref am), (2, .int (nI i))]) hx hb dL_covered_141 rfl hl (by decide) rfl (fun ls hl => ?_)
            refine lv_iinc (v := (nI (wy + 1))) (lv' := [(4, .int (nI (wy + 1))), (3, .int v_7), (9, .int (nI 4)), (5, .int (nI ((cvI kn gP (wyD wy) 4).1))), (6, .int (nI ((cvI kn gP (wyD wy) 4).2.1))), (7, .int (nI (wy / 5 ^ 4))), (8, .int (bI (cvI kn gP (wyD wy) 4).2.2)), (0, .ref ac), (1, .ref am), (2, .int (nI i))]) hx hb dL_covered_142 hl (k := 6) rfl (nI_1 _) (by decide) rfl (fun ls hl => ?_)
            refine lv_goto (tgt := 5) hx hb dL_covered_145 (by decide) ?_
            have hl : lv_has ls 11 [(4, .int (nI (wy + 1))), (3, .int (nI (cvM kn gP (wy + 1)))), (9, .int (nI 4)), (5, .int (nI ((cvI kn gP (wyD wy) 4).1))), (6, .int (nI ((cvI kn gP (wyD wy) 4).2.1))), (7, .int (nI (wy / 5 ^ 4))), (8, .int (bI (cvI kn gP (wyD wy) 4).2.2)), (0, .ref ac), (1, .ref am), (2, .int (nI i))] := by rw [ev_7, cv_mst (cvM_le kn gP wy) (cvI_lt kn gP (wyD wy) 4).2] at hl; exact hl
            exact ihn_1 (wy + 1) _ _ _ (by omega) hG (lv_sub hl [0, 1, 7, 8, 9] rfl)
          refine lv_if_eq (tgt := 140) hx hb dL_covered_126 (by decide) (fun c_9 => ?_) (fun c_9 => ?_)
          · skip
            refine lv_iload_n hx hb dL_covered_140 rfl (lv_at hl 6 rfl) ?_
            exact j_8 _ _ _ (by rw [if_pos c_9]) hG
          · skip
            refine lv_iload hx hb dL_covered_129 (lv_at hl 2 rfl) ?_
            refine lv_iload_n hx hb dL_covered_131 rfl (lv_at hl 6 rfl) ?_
            refine lv_icmp_le (tgt := 140) hx hb dL_covered_132 (by decide) (fun c_10 => ?_) (fun c_10 => ?_)
            · skip
              have nc_10 : ((cvI kn gP (wyD wy) 4).2.1) ≤ (cvM kn gP wy) := (nI_leI (a := ((cvI kn gP (wyD wy) 4).2.1)) (b := (cvM kn gP wy)) (by omega) (by omega)).mp c_10
              refine lv_iload_n hx hb dL_covered_140 rfl (lv_at hl 6 rfl) ?_
              exact j_8 _ _ _ (by rw [if_neg c_9, if_pos c_10]) hG
            · skip
              have nc_10 : ¬ (((cvI kn gP (wyD wy) 4).2.1) ≤ (cvM kn gP wy)) := fun h9 => c_10 ((nI_leI (a := ((cvI kn gP (wyD wy) 4).2.1)) (b := (cvM kn gP wy)) (by omega) (by omega)).mpr h9)
              refine lv_iload hx hb dL_covered_135 (lv_at hl 2 rfl) ?_
              refine lv_goto (tgt := 141) hx hb dL_covered_137 (by decide) ?_
              exact j_8 _ _ _ (by rw [if_neg c_9, if_neg c_10]) hG
        | succ n_4 ihn_4 =>
          intro k H locs ls hk_5 hG hl
          refine lv_iload hx hb dL_covered_29 (lv_at hl 0 rfl) ?_
          refine lv_iconst (v := 4) hx hb dL_covered_31 (by decide) ?_
          refine lv_icmp_ge (tgt := 124) hx hb dL_covered_32 (by decide) (fun c9 => absurd c9 (fun h9 => absurd ((nI_leI (a := 4) (b := k) (by omega) (by omega)).mp h9) (by omega))) (fun c9 => ?_)
          have hk4 : k < 4 := by omega
          have hq : wy / 5 ^ k ≤ wy := Nat.div_le_self _ _
          have hS := (cvI_lt kn gP (wyD wy) k).1
          have hN := (cvI_lt kn gP (wyD wy) k).2
          have hPk := (hP k hk4).2
          refine lv_iload hx hb dL_covered_35 (lv_at hl 3 rfl) ?_
          refine lv_iconst (v := 5) hx hb dL_covered_37 (by decide) ?_
          refine lv_irem hx hb dL_covered_38 (by decide) ?_
          refine lv_topi (fun k_11 ek_11 => ?_)
          obtain rfl : k_11 = nI ((wy / 5 ^ k) % 5) := ek_11.trans (pk_rem (a := (wy / 5 ^ k)) (d := 5) (by omega) (by omega) (by omega))
          refine lv_topi (fun k_12 ek_12 => ?_)
          obtain ⟨pt, hpt, rfl⟩ : ∃ pt : Nat, (pt = wy / 5 ^ k % 5) ∧ k_12 = nI pt := ⟨(wy / 5 ^ k) % 5, rfl, ek_12⟩
          refine lv_istore (lv' := [(10, .int (nI pt)), (9, .int (nI k)), (5, .int (nI ((cvI kn gP (wyD wy) k).1))), (6, .int (nI ((cvI kn gP (wyD wy) k).2.1))), (7, .int (nI (wy / 5 ^ k))), (8, .int (bI (cvI kn gP (wyD wy) k).2.2)), (4, .int (nI wy)), (3, .int (nI (cvM kn gP wy))), (0, .ref ac), (1, .ref am), (2, .int (nI i))]) hx hb dL_covered_39 hl (by decide) rfl (fun ls hl => ?_)
          refine lv_iload hx hb dL_covered_41 (lv_at hl 4 rfl) ?_
          refine lv_iconst (v := 5) hx hb dL_covered_43 (by decide) ?_
          refine lv_idiv hx hb dL_covered_44 (by decide) ?_
          refine lv_topi (fun k_13 ek_13 => ?_)
          obtain rfl : k_13 = nI ((wy / 5 ^ k) / 5) := ek_13.trans (pk_div (a := (wy / 5 ^ k)) (d := 5) (by omega) (by omega) (by omega))
          refine lv_istore (lv' := [(7, .int (nI ((wy / 5 ^ k) / 5))), (10, .int (nI pt)), (9, .int (nI k)), (5, .int (nI ((cvI kn gP (wyD wy) k).1))), (6, .int (nI ((cvI kn gP (wyD wy) k).2.1))), (8, .int (bI (cvI kn gP (wyD wy) k).2.2)), (4, .int (nI wy)), (3, .int (nI (cvM kn gP wy))), (0, .ref ac), (1, .ref am), (2, .int (nI i))]) hx hb dL_covered_45 hl (by decide) rfl (fun ls hl => ?_)
          refine lv_iload hx hb dL_covered_47 (lv_at hl 1 rfl) ?_
          refine lv_iconst (v := 4) hx hb dL_covered_49 (by decide) ?_
          refine lv_icmp_ge (tgt := 118) hx hb dL_covered_50 (by decide) (fun c_14 => ?_) (fun c_14 => ?_)
          · skip
            have nc_14 : 4 ≤ pt := (nI_leI (a := 4) (b := pt) (by omega) (by omega)).mp c_14
            refine lv_iinc (v := (nI (k + 1))) (lv' := [(9, .int (nI (k + 1))), (7, .int (nI ((wy / 5 ^ k) / 5))), (10, .int (nI pt)), (5, .int (nI ((cvI kn gP (wyD wy) k).1))), (6, .int (nI ((cvI kn gP (wyD wy) k).2.1))), (8, .int (bI (cvI kn gP (wyD wy) k).2.2)), (4, .int (nI wy)), (3, .int (nI (cvM kn gP wy))), (0, .ref ac), (1, .ref am), (2, .int (nI i))]) hx hb dL_covered_118 hl (k := 2) rfl (nI_1 _) (by decide) rfl (fun ls hl => ?_)
            refine lv_goto (tgt := 29) hx hb dL_covered_121 (by decide) ?_
            have hl : lv_has ls 11 [(9, .int (nI (k + 1))), (7, .int (nI (wy / 5 ^ (k + 1)))), (10, .int (nI pt)), (5, .int (nI ((cvI kn gP (wyD wy) (k + 1)).1))), (6, .int (nI ((cvI kn gP (wyD wy) (k + 1)).2.1))), (8, .int (bI (cvI kn gP (wyD wy) (k + 1)).2.2)), (4, .int (nI wy)), (3, .int (nI (cvM kn gP wy))), (0, .ref ac), (1, .ref am), (2, .int (nI i))] := by rw [show wy / 5 ^ k / 5 = wy / 5 ^ (k + 1) by rw [Nat.div_div_eq_div_mul, ← Nat.pow_succ]] at hl; rw [cvI_n (by show wy / 5 ^ k % 5 < 4 → False; omega)]; exact hl
            exact ihn_4 (k + 1) _ _ _ (by omega) hG (lv_sub hl [0, 3, 4, 1, 5, 6, 7, 8, 9, 10] rfl)
          · skip
            have nc_14 : ¬ (4 ≤ pt) := fun h9 => c_14 ((nI_leI (a := 4) (b := pt) (by omega) (by omega)).mpr h9)
            have hpt4 : pt < 4 := by omega
            refine lv_iload hx hb dL_covered_53 (lv_at hl 5 rfl) ?_
            have j_16 : ∀ (v_15 : Int32) (H : Heap) (locs : List Loc), v_15 = (if (bI (cvI kn gP (wyD wy) k).2.2) = 0 then 0 else (if (lg_cmp (gc ((2 + (2 * k)) + i)) 0) < 0 then 0 else (if (((gm (15 + k)) >>> ((nI pt) &&& 31)) &&& 1) = 1 then (if (((nI ((cvI kn gP (wyD wy) k).1)) >>> ((nI pt) &&& 31)) &&& 1) = 0 then 1 else 0 : Int32) else 0 : Int32) : Int32) : Int32) → gS D A s.heap w H locs → W p l e rm_L_covered s m args below meth c H locs 0 0 Q (F0 m 104 ls (.int v_15 :: [])) := by
              intro v_15 H locs ev_15 hG
              refine lv_istore (lv' := [(8, .int v_15), (7, .int (nI ((wy / 5 ^ k) / 5))), (10, .int (nI pt)), (9, .int (nI k)), (5, .int (nI ((cvI kn gP (wyD wy) k).1))), (6, .int (nI ((cvI kn gP (wyD wy) k).2.1))), (4, .int (nI wy)), (3, .int (nI (cvM kn gP wy))), (0, .ref ac), (1, .ref am), (2, .int (nI i))]) hx hb dL_covered_104 hl (by decide) rfl (fun ls hl => ?_)
              refine lv_iload hx hb dL_covered_106 (lv_at hl 4 rfl) ?_
              refine lv_iconst (v := 1) hx hb dL_covered_108 (by decide) ?_
              refine lv_iload hx hb dL_covered_109 (lv_at hl 2 rfl) ?_
              refine lv_ishl hx hb dL_covered_111 ?_
              refine lv_ior hx hb dL_covered_112 ?_
              refine lv_istore (lv' := [(5, .int ((nI ((cvI kn gP (wyD wy) k).1)) ||| ((1 : Int32) <<< ((nI pt) &&& 31)))), (8, .int v_15), (7, .int (nI ((wy / 5 ^ k) / 5))), (10, .int (nI pt)), (9, .int (nI k)), (6, .int (nI ((cvI kn gP (wyD wy) k).2.1))), (4, .int (nI wy)), (3, .int (nI (cvM kn gP wy))), (0, .ref ac), (1, .ref am), (2, .int (nI i))]) hx hb dL_covered_113 hl (by decide) rfl (fun ls hl => ?_)
              refine lv_iinc (v := (nI ((cvI kn gP (wyD wy) k).2.1 + 1))) (lv' := [(6, .int (nI ((cvI kn gP (wyD wy) k).2.1 + 1))), (5, .int ((nI ((cvI kn gP (wyD wy) k).1)) ||| ((1 : Int32) <<< ((nI pt) &&& 31)))), (8, .int v_15), (7, .int (nI ((wy / 5 ^ k) / 5))), (10, .int (nI pt)), (9, .int (nI k)), (4, .int (nI wy)), (3, .int (nI (cvM kn gP wy))), (0, .ref ac), (1, .ref am), (2, .int (nI i))]) hx hb dL_covered_115 hl (k := 5) rfl (nI_add ((cvI kn gP (wyD wy) k).2.1) 1) (by decide) rfl (fun ls hl => ?_)
              refine lv_iinc (v := (nI (k + 1))) (lv' := [(9, .int (nI (k + 1))), (6, .int (nI ((cvI kn gP (wyD wy) k).2.1 + 1))), (5, .int ((nI ((cvI kn gP (wyD wy) k).1)) ||| ((1 : Int32) <<< ((nI pt) &&& 31)))), (8, .int v_15), (7, .int (nI ((wy / 5 ^ k) / 5))), (10, .int (nI pt)), (4, .int (nI wy)), (3, .int (nI (cvM kn gP wy))), (0, .ref ac), (1, .ref am), (2, .int (nI i))]) hx hb dL_covered_118 hl (k := 5) rfl (nI_1 _) (by decide) rfl (fun ls hl => ?_)
              refine lv_goto (tgt := 29) hx hb dL_covered_121 (by decide) ?_
              have hl : lv_has ls 11 [(9, .int (nI (k + 1))), (6, .int (nI ((cvI kn gP (wyD wy) (k + 1)).2.1))), (5, .int (nI ((cvI kn gP (wyD wy) (k + 1)).1))), (8, .int (bI (cvI kn gP (wyD wy) (k + 1)).2.2)), (7, .int (nI (wy / 5 ^ (k + 1)))), (10, .int (nI pt)), (4, .int (nI wy)), (3, .int (nI (cvM kn gP wy))), (0, .ref ac), (1, .ref am), (2, .int (nI i))] := by rw [ev_15, hPk, cv_can (hkn k hk4) (hP k hk4).1 hS hpt4, or_pt _ hS _ hpt4, show wy / 5 ^ k / 5 = wy / 5 ^ (k + 1) by rw [Nat.div_div_eq_div_mul, ← Nat.pow_succ]] at hl; have e9 : wyD wy k = pt := hpt.symm; rw [cvI_s (by rw [e9]; omega), e9]; exact hl
              exact ihn_4 (k + 1) _ _ _ (by omega) hG (lv_sub hl [0, 2, 1, 4, 3, 6, 7, 8, 9, 10] rfl)
            refine lv_if_eq (tgt := 103) hx hb dL_covered_55 (by decide) (fun c_17 => ?_) (fun c_17 => ?_)
            · skip
              refine lv_iconst (v := 0) hx hb dL_covered_103 (by decide) ?_
              exact j_16 _ _ _ (by rw [if_pos c_17]) hG
            · skip
              refine lv_aload_n hx hb dL_covered_58 rfl (lv_at hl 8 rfl) ?_
              refine lv_iconst (v := 2) hx hb dL_covered_59 (by decide) ?_
              refine lv_iconst (v := 2) hx hb dL_covered_60 (by decide) ?_
              refine lv_iload hx hb dL_covered_61 (lv_at hl 2 rfl) ?_
              refine lv_imul hx hb dL_covered_63 ?_
              refine lv_topi (fun k_18 ek_18 => ?_)
              obtain rfl : k_18 = nI (2 * k) := ek_18.trans (pk_mul 2 k)
              refine lv_iadd hx hb dL_covered_64 ?_
              refine lv_topi (fun k_19 ek_19 => ?_)
              obtain rfl : k_19 = nI (2 + (2 * k)) := ek_19.trans (nI_add 2 (2 * k))
              refine lv_iload_n hx hb dL_covered_65 rfl (lv_at hl 10 rfl) ?_
              refine lv_iadd hx hb dL_covered_66 ?_
              refine lv_topi (fun k_20 ek_20 => ?_)
              obtain rfl : k_20 = nI ((2 + (2 * k)) + i) := ek_20.trans (nI_add (2 + (2 * k)) i)
              refine g_laldN hE hG h1 ((2 + (2 * k)) + i) rfl (by omega) (by decide) dL_covered_67 ?_
              refine lv_lconst (v := 0) hx hb dL_covered_68 (by decide) ?_
              refine W.lcmp hx hb dL_covered_69 ?_
              refine lv_if_lt (tgt := 103) hx hb dL_covered_70 (by decide) (fun c_21 => ?_) (fun c_21 => ?_)
              · skip
                refine lv_iconst (v := 0) hx hb dL_covered_103 (by decide) ?_
                exact j_16 _ _ _ (by rw [if_neg c_17, if_pos c_21]) hG
              · skip
                refine lv_aload_n hx hb dL_covered_73 rfl (lv_at hl 9 rfl) ?_
                refine lv_bipush (v := 15) hx hb dL_covered_74 (by decide) ?_
                refine lv_iload hx hb dL_covered_76 (lv_at hl 2 rfl) ?_
                refine lv_iadd hx hb dL_covered_78 ?_
                refine lv_topi (fun k_22 ek_22 => ?_)
                obtain rfl : k_22 = nI (15 + k) := ek_22.trans (nI_add 15 k)
                refine g_ialdN hE hG h2 (15 + k) rfl (by omega) (by decide) dL_covered_79 ?_
                refine lv_iload hx hb dL_covered_80 (lv_at hl 1 rfl) ?_
                refine lv_ishr hx hb dL_covered_82 ?_
                refine lv_iconst (v := 1) hx hb dL_covered_83 (by decide) ?_
                refine lv_iand hx hb dL_covered_84 ?_
                refine lv_iconst (v := 1) hx hb dL_covered_85 (by decide) ?_
                refine lv_icmp_ne (tgt := 103) hx hb dL_covered_86 (by decide) (fun c_23 => ?_) (fun c_23 => ?_)
                · skip
                  refine lv_iconst (v := 0) hx hb dL_covered_103 (by decide) ?_
                  exact j_16 _ _ _ (by rw [if_neg c_17, if_neg c_21, if_neg c_23]) hG
                · skip
                  refine lv_iload hx hb dL_covered_89 (lv_at hl 3 rfl) ?_
                  refine lv_iload hx hb dL_covered_91 (lv_at hl 1 rfl) ?_
                  refine lv_ishr hx hb dL_covered_93 ?_
                  refine lv_iconst (v := 1) hx hb dL_covered_94 (by decide) ?_
                  refine lv_iand hx hb dL_covered_95 ?_
                  refine lv_if_ne (tgt := 103) hx hb dL_covered_96 (by decide) (fun c_24 => ?_) (fun c_24 => ?_)
                  · skip
                    refine lv_iconst (v := 0) hx hb dL_covered_103 (by decide) ?_
                    exact j_16 _ _ _ (by rw [if_neg c_17, if_neg c_21, if_pos c_23, if_neg c_24]) hG
                  · skip
                    refine lv_iconst (v := 1) hx hb dL_covered_99 (by decide) ?_
                    refine lv_goto (tgt := 104) hx hb dL_covered_100 (by decide) ?_
                    exact j_16 _ _ _ (by rw [if_neg c_17, if_neg c_21, if_pos c_23, if_pos c_24]) hG
      exact hloop_6 4 0 _ _ _ (by omega) hG (lv_sub hl [0, 4, 3, 2, 1, 5, 6, 7, 8, 9] rfl)
  exact hloop_3 625 0 _ _ _ (by omega) hG (lv_sub hl [0, 1, 2, 3, 4] rfl)
