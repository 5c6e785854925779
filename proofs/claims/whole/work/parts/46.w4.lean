/-! the law: its loop, its start -/
set_option maxHeartbeats 4000000 in
set_option maxRecDepth 100000 in
theorem law_head {p : Program} {l : Launch} {e : Env} {s : State} {m : MethodId} {below : List Frame} {meth : Method} {c : Code} (hfl : l.stackTraces = false) {D : va_G} {tc : Nat → ClassId} {A : Nat → Prop} {b L : Nat} {xs : Nat → Int32} {oa k : Nat} (hE : gE p l s m #[Value.ref b] meth c code 8 RL D tc A) (hX : va_X b L xs s s.heap) (hbl : b < s.heap.size) (hbA : ¬ A b) (hL : L ≤ 3072) (hr : meth.sig.returnType = ret) (hlocks : meth.locks = false) (hAo : ∀ q, A q → s.heap.size ≤ q) (hk9 : k ≤ 513) (ih : 6 * k + 6 ≤ L → gLoop p l e s m #[Value.ref b] below meth c (lw_Z below #[Value.ref b] s) D tc A b oa (k + 1)) : gLoop p l e s m #[Value.ref b] below meth c (lw_Z below #[Value.ref b] s) D tc A b oa k := by
  intro ca ad d tk st of w H locs ls hC hM hI h7 hG hl
  obtain ⟨args, hargs⟩ : ∃ a : Array Value, a = #[Value.ref b] := ⟨_, rfl⟩
  obtain ⟨Q, hQ⟩ : ∃ q : State → Prop, q = lw_Z below #[Value.ref b] s := ⟨_, rfl⟩
  rw [← hargs] at hE ih ⊢
  rw [← hargs] at hQ
  have hx := hE.1
  have hb := hE.2.1
  obtain ⟨y0, ey0⟩ : ∃ y, y = xs (nI (6 * k)).toNatClampNeg := ⟨_, rfl⟩
  refine lv_iload hx hb dL_law_23 (lv_at hl 0 rfl) ?_
  refine lv_aload_n hx hb dL_law_25 rfl (lv_at hl 1 rfl) ?_
  refine va_slen hx hb hX hbl hbA hG.2.2 dL_law_26 ?_
  show W p l e _ s m args below meth c H locs _ _ _ (F0 m 27 ls [.int (nI L), .int (nI (6 * k))])
  refine lv_bipush (v := 6) hx hb dL_law_27 (by decide) ?_
  refine lv_isub hx hb dL_law_29 ?_
  refine lv_icmp_gt (tgt := 1831) hx hb dL_law_30 (by decide) (fun c_1 => ?_) (fun c_1 => ?_)
  · skip
    refine lv_iconst (v := 1) hx hb dL_law_1831 (by decide) ?_
    refine va_forget (fun q hq => hAo _ (hG.2.2.2.2 q hq)) (W.widen (k := 601024) (n := 7293034) (by omega) (by omega) ?_)
    subst hargs
    exact lw_ret hx hb hr hlocks dL_law_1832
  · skip
    have hk : 6 * k + 6 ≤ L := by have h9 := c_1; rw [Int32.lt_iff_toInt_lt, show (6 : Int32) = nI 6 from rfl, pk_sub_toInt (by omega) (by omega), nI_toInt (by omega)] at h9; omega
    refine lv_aload_n hx hb dL_law_33 rfl (lv_at hl 1 rfl) ?_
    refine lv_iload hx hb dL_law_34 (lv_at hl 0 rfl) ?_
    refine va_sld (xs := xs) hx hb hX hbl hbA hG.2.2 (vp_in_nI (by omega) (by omega)) dL_law_36 ?_
    rw [← ey0]
    refine lv_bipush (v := 31) hx hb dL_law_37 (by decide) ?_
    refine lv_iand hx hb dL_law_39 ?_
    by_cases c_2 : (y0 &&& 31) = 0
    · skip
      refine lv_tableIn (off := 116) (tgt := 156) hx hb dL_law_40 (by rw [c_2]; decide) (by rw [c_2]; decide) (by rw [c_2]; rfl) (by decide) ?_
      exact lc_form hfl hE hX hbl hbA hL hk (ih hk) ca ad d tk st of w H locs ls hC hM hI h7 hG hl
    by_cases c_3 : (y0 &&& 31) = 1
    · skip
      refine lv_tableIn (off := 172) (tgt := 212) hx hb dL_law_40 (by rw [c_3]; decide) (by rw [c_3]; decide) (by rw [c_3]; rfl) (by decide) ?_
      exact lc_depth hfl hE hX hbl hbA hL hk (ih hk) ca ad d tk st of w H locs ls hC hM hI h7 hG hl
    by_cases c_4 : (y0 &&& 31) = 2
    · skip
      refine lv_tableIn (off := 240) (tgt := 280) hx hb dL_law_40 (by rw [c_4]; decide) (by rw [c_4]; decide) (by rw [c_4]; rfl) (by decide) ?_
      exact lc_piece hfl hE hX hbl hbA hL hk (ih hk) ca ad d tk st of w H locs ls hC hM hI h7 hG hl
    by_cases c_5 : (y0 &&& 31) = 3
    · skip
      refine lv_tableIn (off := 296) (tgt := 336) hx hb dL_law_40 (by rw [c_5]; decide) (by rw [c_5]; decide) (by rw [c_5]; rfl) (by decide) ?_
      exact lc_tone hfl hE hX hbl hbA hL hk (ih hk) ca ad d tk st of w H locs ls hC hM hI h7 hG hl
    by_cases c_6 : (y0 &&& 31) = 4
    · skip
      refine lv_tableIn (off := 376) (tgt := 416) hx hb dL_law_40 (by rw [c_6]; decide) (by rw [c_6]; decide) (by rw [c_6]; rfl) (by decide) ?_
      exact lc_forbid hfl hE hX hbl hbA hL hk (ih hk) ca ad d tk st of w H locs ls hC hM hI h7 hG hl
    by_cases c_7 : (y0 &&& 31) = 5
    · skip
      refine lv_tableIn (off := 444) (tgt := 484) hx hb dL_law_40 (by rw [c_7]; decide) (by rw [c_7]; decide) (by rw [c_7]; rfl) (by decide) ?_
      exact lc_sounds hfl hE hX hbl hbA hL hk (ih hk) ca ad d tk st of w H locs ls hC hM hI h7 hG hl
    by_cases c_8 : (y0 &&& 31) = 6
    · skip
      refine lv_tableIn (off := 512) (tgt := 552) hx hb dL_law_40 (by rw [c_8]; decide) (by rw [c_8]; decide) (by rw [c_8]; rfl) (by decide) ?_
      exact lc_stroke hfl hE hX hbl hbA hL hk (ih hk) ca ad d tk st of w H locs ls hC hM hI h7 hG hl
    by_cases c_9 : (y0 &&& 31) = 7
    · skip
      refine lv_tableIn (off := 616) (tgt := 656) hx hb dL_law_40 (by rw [c_9]; decide) (by rw [c_9]; decide) (by rw [c_9]; rfl) (by decide) ?_
      exact lc_strokeAnew hfl hE hX hbl hbA hL hk (ih hk) ca ad d tk st of w H locs ls hC hM hI h7 hG hl
    by_cases c_10 : (y0 &&& 31) = 8
    · skip
      refine lv_tableIn (off := 720) (tgt := 760) hx hb dL_law_40 (by rw [c_10]; decide) (by rw [c_10]; decide) (by rw [c_10]; rfl) (by decide) ?_
      exact lc_begin hfl hE hX hbl hbA hL hk (ih hk) ca ad d tk st of w H locs ls hC hM hI h7 hG hl
    by_cases c_11 : (y0 &&& 31) = 9
    · skip
      refine lv_tableIn (off := 776) (tgt := 816) hx hb dL_law_40 (by rw [c_11]; decide) (by rw [c_11]; decide) (by rw [c_11]; rfl) (by decide) ?_
      exact lc_drum hfl hE hX hbl hbA hL hk (ih hk) ca ad d tk st of w H locs ls hC hM hI h7 hG hl
    by_cases c_12 : (y0 &&& 31) = 10
    · skip
      refine lv_tableIn (off := 832) (tgt := 872) hx hb dL_law_40 (by rw [c_12]; decide) (by rw [c_12]; decide) (by rw [c_12]; rfl) (by decide) ?_
      exact lc_beats hfl hE hX hbl hbA hL hk (ih hk) ca ad d tk st of w H locs ls hC hM hI h7 hG hl
    by_cases c_13 : (y0 &&& 31) = 11
    · skip
      refine lv_tableIn (off := 888) (tgt := 928) hx hb dL_law_40 (by rw [c_13]; decide) (by rw [c_13]; decide) (by rw [c_13]; rfl) (by decide) ?_
      exact lc_now hfl hE hX hbl hbA hL hk (ih hk) ca ad d tk st of w H locs ls hC hM hI h7 hG hl
    by_cases c_14 : (y0 &&& 31) = 12
    · skip
      refine lv_tableIn (off := 944) (tgt := 984) hx hb dL_law_40 (by rw [c_14]; decide) (by rw [c_14]; decide) (by rw [c_14]; rfl) (by decide) ?_
      exact lc_ticks hfl hE hX hbl hbA hL hk (ih hk) ca ad d tk st of w H locs ls hC hM hI h7 hG hl
    by_cases c_15 : (y0 &&& 31) = 13
    · skip
      refine lv_tableIn (off := 958) (tgt := 998) hx hb dL_law_40 (by rw [c_15]; decide) (by rw [c_15]; decide) (by rw [c_15]; rfl) (by decide) ?_
      exact lc_strokes hfl hE hX hbl hbA hL hk (ih hk) ca ad d tk st of w H locs ls hC hM hI h7 hG hl
    by_cases c_16 : (y0 &&& 31) = 14
    · skip
      refine lv_tableIn (off := 1013) (tgt := 1053) hx hb dL_law_40 (by rw [c_16]; decide) (by rw [c_16]; decide) (by rw [c_16]; rfl) (by decide) ?_
      exact lc_days hfl hE hX hbl hbA hL hk (ih hk) ca ad d tk st of w H locs ls hC hM hI h7 hG hl
    by_cases c_17 : (y0 &&& 31) = 15
    · skip
      refine lv_tableIn (off := 1069) (tgt := 1109) hx hb dL_law_40 (by rw [c_17]; decide) (by rw [c_17]; decide) (by rw [c_17]; rfl) (by decide) ?_
      exact lc_pitch hfl hE hX hbl hbA hL hk (ih hk) ca ad d tk st of w H locs ls hC hM hI h7 hG hl
    by_cases c_18 : (y0 &&& 31) = 16
    · skip
      refine lv_tableIn (off := 1149) (tgt := 1189) hx hb dL_law_40 (by rw [c_18]; decide) (by rw [c_18]; decide) (by rw [c_18]; rfl) (by decide) ?_
      exact lc_drift hfl hE hX hbl hbA hL hk (ih hk) ca ad d tk st of w H locs ls hC hM hI h7 hG hl
    by_cases c_19 : (y0 &&& 31) = 17
    · skip
      refine lv_tableIn (off := 1217) (tgt := 1257) hx hb dL_law_40 (by rw [c_19]; decide) (by rw [c_19]; decide) (by rw [c_19]; rfl) (by decide) ?_
      exact lc_years hfl hE hX hbl hbA hL hk (ih hk) ca ad d tk st of w H locs ls hC hM hI h7 hG hl
    by_cases c_20 : (y0 &&& 31) = 18
    · skip
      refine lv_tableIn (off := 1273) (tgt := 1313) hx hb dL_law_40 (by rw [c_20]; decide) (by rw [c_20]; decide) (by rw [c_20]; rfl) (by decide) ?_
      exact lc_tune hfl hE hX hbl hbA hL hk (ih hk) ca ad d tk st of w H locs ls hC hM hI h7 hG hl
    by_cases c_21 : (y0 &&& 31) = 19
    · skip
      refine lv_tableIn (off := 1341) (tgt := 1381) hx hb dL_law_40 (by rw [c_21]; decide) (by rw [c_21]; decide) (by rw [c_21]; rfl) (by decide) ?_
      exact lc_beat hfl hE hX hbl hbA hL hk (ih hk) ca ad d tk st of w H locs ls hC hM hI h7 hG hl
    by_cases c_22 : (y0 &&& 31) = 20
    · skip
      refine lv_tableIn (off := 1421) (tgt := 1461) hx hb dL_law_40 (by rw [c_22]; decide) (by rw [c_22]; decide) (by rw [c_22]; rfl) (by decide) ?_
      exact lc_player hfl hE hX hbl hbA hL hk (ih hk) ca ad d tk st of w H locs ls hC hM hI h7 hG hl
    by_cases c_23 : (y0 &&& 31) = 21
    · skip
      refine lv_tableIn (off := 1477) (tgt := 1517) hx hb dL_law_40 (by rw [c_23]; decide) (by rw [c_23]; decide) (by rw [c_23]; rfl) (by decide) ?_
      exact lc_learn hfl hE hX hbl hbA hL hk (ih hk) ca ad d tk st of w H locs ls hC hM hI h7 hG hl
    by_cases c_24 : (y0 &&& 31) = 22
    · skip
      refine lv_tableIn (off := 1557) (tgt := 1597) hx hb dL_law_40 (by rw [c_24]; decide) (by rw [c_24]; decide) (by rw [c_24]; rfl) (by decide) ?_
      exact lc_slip hfl hE hX hbl hbA hL hk (ih hk) ca ad d tk st of w H locs ls hC hM hI h7 hG hl
    by_cases c_25 : (y0 &&& 31) = 23
    · skip
      refine lv_tableIn (off := 1649) (tgt := 1689) hx hb dL_law_40 (by rw [c_25]; decide) (by rw [c_25]; decide) (by rw [c_25]; rfl) (by decide) ?_
      exact lc_unlike hfl hE hX hbl hbA hL hk (ih hk) ca ad d tk st of w H locs ls hC hM hI h7 hG hl
    by_cases c_26 : (y0 &&& 31) = 24
    · skip
      refine lv_tableIn (off := 1729) (tgt := 1769) hx hb dL_law_40 (by rw [c_26]; decide) (by rw [c_26]; decide) (by rw [c_26]; rfl) (by decide) ?_
      exact lc_covered hfl hE hX hbl hbA hL hk (ih hk) ca ad d tk st of w H locs ls hC hM hI h7 hG hl
    refine lv_tableOut (tgt := 1825) hx hb dL_law_40 (i32_tab (fun n9 h1 h2 h3 => by rcases (show n9 = 0 ∨ n9 = 1 ∨ n9 = 2 ∨ n9 = 3 ∨ n9 = 4 ∨ n9 = 5 ∨ n9 = 6 ∨ n9 = 7 ∨ n9 = 8 ∨ n9 = 9 ∨ n9 = 10 ∨ n9 = 11 ∨ n9 = 12 ∨ n9 = 13 ∨ n9 = 14 ∨ n9 = 15 ∨ n9 = 16 ∨ n9 = 17 ∨ n9 = 18 ∨ n9 = 19 ∨ n9 = 20 ∨ n9 = 21 ∨ n9 = 22 ∨ n9 = 23 ∨ n9 = 24 by omega) with rfl | rfl | rfl | rfl | rfl | rfl | rfl | rfl | rfl | rfl | rfl | rfl | rfl | rfl | rfl | rfl | rfl | rfl | rfl | rfl | rfl | rfl | rfl | rfl | rfl <;> first | exact c_2 (h3.trans (by decide)) | exact c_3 (h3.trans (by decide)) | exact c_4 (h3.trans (by decide)) | exact c_5 (h3.trans (by decide)) | exact c_6 (h3.trans (by decide)) | exact c_7 (h3.trans (by decide)) | exact c_8 (h3.trans (by decide)) | exact c_9 (h3.trans (by decide)) | exact c_10 (h3.trans (by decide)) | exact c_11 (h3.trans (by decide)) | exact c_12 (h3.trans (by decide)) | exact c_13 (h3.trans (by decide)) | exact c_14 (h3.trans (by decide)) | exact c_15 (h3.trans (by decide)) | exact c_16 (h3.trans (by decide)) | exact c_17 (h3.trans (by decide)) | exact c_18 (h3.trans (by decide)) | exact c_19 (h3.trans (by decide)) | exact c_20 (h3.trans (by decide)) | exact c_21 (h3.trans (by decide)) | exact c_22 (h3.trans (by decide)) | exact c_23 (h3.trans (by decide)) | exact c_24 (h3.trans (by decide)) | exact c_25 (h3.trans (by decide)) | exact c_26 (h3.trans (by decide))) (by decide) (by decide)) (by decide) ?_
    refine lv_iinc (v := (nI (6 * (k + 1)))) (lv' := [(4, .int (nI (6 * (k + 1)))), (0, .ref b), (1, .ref (ca 0)), (2, .ref (ad 0)), (3, .ref oa)]) hx hb dL_law_1825 hl (k := 0) rfl (by rw [show 6 * (k + 1) = 6 * k + 6 by omega]; exact nI_add (6 * k) 6) (by decide) rfl (fun ls hl => ?_)
    refine lv_goto (tgt := 23) hx hb dL_law_1828 (by decide) ?_
    refine W.widen (k := 100 + 40 * (k + 1)) (n := 5000 + 400 * (k + 1)) (by omega) (by omega) ?_
    exact ih hk ca ad d tk st of w _ _ _ hC hM (iOk_le hI (by omega)) h7 hG (lv_sub hl [0, 1, 2, 3, 4] rfl)
theorem law_loop {p : Program} {l : Launch} {e : Env} {s : State} {m : MethodId} {below : List Frame} {meth : Method} {c : Code} (hfl : l.stackTraces = false) {D : va_G} {tc : Nat → ClassId} {A : Nat → Prop} {b L : Nat} {xs : Nat → Int32} {oa : Nat} (hE : gE p l s m #[Value.ref b] meth c code 8 RL D tc A) (hX : va_X b L xs s s.heap) (hbl : b < s.heap.size) (hbA : ¬ A b) (hL : L ≤ 3072) (hr : meth.sig.returnType = ret) (hlocks : meth.locks = false) (hAo : ∀ q, A q → s.heap.size ≤ q) : ∀ n k : Nat, k + n = 513 → gLoop p l e s m #[Value.ref b] below meth c (lw_Z below #[Value.ref b] s) D tc A b oa k := by
  intro n
  induction n with
  | zero => intro k hk; exact law_head hfl hE hX hbl hbA hL hr hlocks hAo (by omega) (fun h => absurd h (by omega))
  | succ n ih => intro k hk; exact law_head hfl hE hX hbl hbA hL hr hlocks hAo (by omega) (fun _ => ih (k + 1) (by omega))
