/-! the start of the law -/
theorem ao_in : ∀ C ∈ gRs, Cond.arrayOver (.object C) ∈ lw_tbl := by decide +kernel
theorem str_in : ∀ q ∈ gSs, Cond.stringRef RX5 q.1 q.2 ∈ lw_tbl := by decide +kernel
theorem cas_in : ∀ E ∈ gEs, Cond.castable E E ∈ lw_tbl := by decide +kernel
theorem fln_in : ∀ q ∈ gFn, Cond.fieldLinkNest RX5 q.1 q.2.1 q.2.2.1 q.2.2.2 RX5 ∈ lw_tbl := by decide +kernel
theorem mln_in : ∀ q ∈ gMn, Cond.methodLinkNest q.1 q.2.1 q.2.2 RX5 ∈ lw_tbl := by decide +kernel
theorem dcl_in : ∀ x ∈ gDs, Cond.declares x ∈ lw_tbl := by decide +kernel
theorem las_in1 : Cond.laysStatic Bundle.tN "UNASSIGNED_STACK" Bundle.steD ∈ lw_tbl := by decide +kernel
theorem las_in2 : Cond.laysStatic Bundle.tN "SUPPRESSED_SENTINEL" Bundle.listD ∈ lw_tbl := by decide +kernel
theorem ini_in : Cond.initialized Bundle.tN ∈ lw_tbl := by decide +kernel
theorem nc_in : ∀ q ∈ gNs, Cond.not (.castable q.1 q.2) ∈ flatC (Jvm.Cond.and given_1 narrow_1) := by decide +kernel
theorem rf_in1 : Cond.isRef (.static Bundle.tN "UNASSIGNED_STACK" Bundle.steD) ∈ flatC (Jvm.Cond.and given_1 narrow_1) := by decide +kernel
theorem rf_in2 : Cond.isRef (.static Bundle.tN "SUPPRESSED_SENTINEL" Bundle.listD) ∈ flatC (Jvm.Cond.and given_1 narrow_1) := by decide +kernel
theorem ar_i {s : State} {args : Array Value} (h : (Cond.arrayClass .int).before args s = true) : ∃ cA : ClassId, ArrOfT s cA .int ∧ va_RA s cA .int := by
  obtain ⟨c, k, comp, h1, h2, h3⟩ := Cond.arrayClass_spec h
  exact ⟨c, fun N z => ⟨(fun k h => by cases h), k, h2, comp, h3⟩, h1⟩
theorem ar_l {s : State} {args : Array Value} (h : (Cond.arrayClass .long).before args s = true) : ∃ cA : ClassId, ArrOfT s cA .long ∧ va_RA s cA .long := by
  obtain ⟨c, k, comp, h1, h2, h3⟩ := Cond.arrayClass_spec h
  exact ⟨c, fun N z => ⟨(fun k h => by cases h), k, h2, comp, h3⟩, h1⟩
theorem ar_z {s : State} {args : Array Value} (h : (Cond.arrayClass .boolean).before args s = true) : ∃ cA : ClassId, ArrOfT s cA .boolean ∧ va_RA s cA .boolean := by
  obtain ⟨c, k, comp, h1, h2, h3⟩ := Cond.arrayClass_spec h
  exact ⟨c, fun N z => ⟨(fun k h => by cases h), k, h2, comp, h3⟩, h1⟩
theorem ar_o {s : State} {args : Array Value} {C : String} (h : (Cond.arrayOver (.object C)).before args s = true) : ∃ cA : ClassId, ArrOfT s cA (.object C) ∧ va_RA s cA (.object C) := by
  obtain ⟨comp, c, k, h1, h2, h3, h4, h5⟩ := Cond.arrayOver_spec h
  exact ⟨c, fun N z => ⟨(fun k h => by cases h), k, h3, comp, h4⟩, k, comp, h3, h4, h1, h5⟩
theorem k_start {s : State} {args : Array Value} (hts : ∀ w ∈ lw_tbl, w.before args s = true) : ∃ (D : va_G) (tc : Nat → ClassId), va_K D gCl (gTy tc) s := by
  have hts9 : ∀ w ∈ gT, w.before args s = true := fun w hw => hts w (gT_tbl w hw)
  obtain ⟨c0, s0, k0⟩ := u_known (C := RX0) (T := TX0) (N := 2) (n := 2) hts9 inG0 (hts9 _ mw1_79)
  obtain ⟨c1, s1, k1⟩ := u_known (C := RX1) (T := TX1) (N := 1) (n := 1) hts9 inG1 (hts9 _ mw2_27)
  obtain ⟨c2, s2, k2⟩ := u_known (C := RX2) (T := TX2) (N := 2) (n := 2) hts9 inG2 (hts9 _ mw2_21)
  obtain ⟨c3, s3, k3⟩ := u_known (C := RX3) (T := TX3) (N := 2) (n := 2) hts9 inG3 (hts9 _ mw3_88)
  obtain ⟨c4, s4, k4⟩ := u_known (C := RX4) (T := TX4) (N := 11) (n := 11) hts9 inG4 (hts9 _ mw1_27)
  obtain ⟨c5, s5, k5⟩ := u_known (C := RX5) (T := TX5) (N := 11) (n := 11) hts9 inG5 (hts9 _ mw1_17)
  obtain ⟨c6, s6, k6⟩ := u_known (C := RX6) (T := TX6) (N := 26) (n := 26) hts9 inG6 (hts9 _ mw3_181)
  obtain ⟨a0, r0⟩ := ar_i (hts9 _ mw1_73)
  obtain ⟨a1, r1⟩ := ar_l (hts9 _ mw1_74)
  obtain ⟨a2, r2⟩ := ar_z (hts9 _ mw4_26)
  obtain ⟨a3, r3⟩ := ar_o (C := RX2) (hts _ (ao_in RX2 (List.mem_of_getElem? (i := 0) rfl)))
  obtain ⟨a4, r4⟩ := ar_o (C := RX0) (hts _ (ao_in RX0 (List.mem_of_getElem? (i := 1) rfl)))
  obtain ⟨a5, r5⟩ := ar_o (C := RX3) (hts _ (ao_in RX3 (List.mem_of_getElem? (i := 2) rfl)))
  obtain ⟨a6, r6⟩ := ar_o (C := RX1) (hts _ (ao_in RX1 (List.mem_of_getElem? (i := 3) rfl)))
  refine ⟨(fun k => if k = 0 then c0 else if k = 1 then c1 else if k = 2 then c2 else if k = 3 then c3 else if k = 4 then c4 else if k = 5 then c5 else c6, fun k => if k = 0 then s0 else if k = 1 then s1 else if k = 2 then s2 else if k = 3 then s3 else if k = 4 then s4 else if k = 5 then s5 else s6), fun k => if k = 0 then a0 else if k = 1 then a1 else if k = 2 then a2 else if k = 3 then a3 else if k = 4 then a4 else if k = 5 then a5 else a6, ?_, ?_⟩
  · intro k q hq
    match k, hq with
    | 0, hq => cases hq; exact k0
    | 1, hq => cases hq; exact k1
    | 2, hq => cases hq; exact k2
    | 3, hq => cases hq; exact k3
    | 4, hq => cases hq; exact k4
    | 5, hq => cases hq; exact k5
    | 6, hq => cases hq; exact k6
    | k + 7, hq => simp [gCl] at hq
  · intro k q hq
    match k, hq with
    | 0, hq => cases hq; exact r0
    | 1, hq => cases hq; exact r1
    | 2, hq => cases hq; exact r2
    | 3, hq => cases hq; exact r3
    | 4, hq => cases hq; exact r4
    | 5, hq => cases hq; exact r5
    | 6, hq => cases hq; exact r6
    | k + 7, hq => simp [gTy] at hq
theorem x_start {s : State} {args : Array Value} {A : Nat → Prop} {D : va_G} {tc : Nat → ClassId} (hK : va_K D gCl (gTy tc) s) (hts : ∀ w ∈ lw_tbl, w.before args s = true) (hgv : (Jvm.Cond.and given_1 narrow_1).before args s = true) (hAo : ∀ q, A q → s.heap.size ≤ q) : gX A s s.heap := by
  have hs := flat_of_before _ hgv
  have hA : ∀ a : Nat, a < s.heap.size → ¬ A a := fun a h g => by have := hAo a g; omega
  refine ⟨vx_Zqof (hts _ las_in1) (hts _ ini_in) (hs _ rf_in1) hA, vx_Zqof (hts _ las_in2) (hts _ ini_in) (hs _ rf_in2) hA, ?_, ?_, ?_, ?_, ?_, ?_, ?_⟩
  · intro q hq
    have hw := hts _ (str_in q hq)
    obtain ⟨k, cf, i, a, -, -, -, -, -, he⟩ := Cond.stringRef_spec (hK.1 5 _ rfl).2.1 hw
    exact ⟨a, vk_R.of hw he⟩
  · exact fun C hC => va_AO.of (hts _ (ao_in C hC))
  · exact fun q hq => va_Nc.of (hs _ (nc_in q hq))
  · exact fun E hE => va_Nw.of rfl (hts _ (cas_in E hE))
  · exact fun q hq => va_Nw.of rfl (hts _ (fln_in q hq))
  · exact fun q hq => va_Nw.of rfl (hts _ (mln_in q hq))
  · exact fun x hx => va_Nw.of rfl (hts _ (dcl_in x hx))
set_option maxHeartbeats 4000000 in
set_option maxRecDepth 100000 in
theorem whole_start {p : Program} {e : Env} {s : State} {m : MethodId} {below : List Frame} {meth : Method} {c : Code} (l : Launch) (hflags : l.flags = flags0) {b L : Nat} {xs : Nat → Int32} (hL : L ≤ 3072) (C0 : lw_At p s m meth c b L xs) : W p l e room_1 s m #[Value.ref b] below meth c s.heap [] 0 0 (lw_Z below #[Value.ref b] s) (entryFrame m ([Value.ref b] : List Value).toArray 8) := by
  obtain ⟨hx, hb, hr, hml, hown, hts, hX, hbl, hlocks, hgv⟩ := id C0
  have hfl : l.stackTraces = false := by unfold Launch.stackTraces; rw [hflags]; decide +kernel
  obtain ⟨D, tc, hK⟩ := k_start hts
  obtain ⟨A, hAe⟩ : ∃ A : Nat → Prop, A = fun q => s.heap.size ≤ q := ⟨_, rfl⟩
  have hA : ∀ q, s.heap.size ≤ q → A q := by rw [hAe]; exact fun _ h => h
  have hAo : ∀ q, A q → s.heap.size ≤ q := by rw [hAe]; exact fun _ h => h
  have hbA : ¬ A b := fun h => by have := hAo b h; omega
  have hE : gE p l s m #[Value.ref b] meth c code 8 RL D tc A := ⟨hx, hb, hml, hown, fun w hw => hts w (gT_tbl w hw), hK, x_start hK hts hgv hAo, hA, hlocks⟩
  have hG : gS D A s.heap (fun _ => none) s.heap [] := ⟨(fun k x h => by cases h), ⟨(fun k j x y h => by cases h), (fun k x h => by cases h)⟩, va_S.rf⟩
  have hl := lv_entry ([.ref b]) (n := 8) (Nat.le_of_ble_eq_true rfl)
  rw [lg_entry_eq]
  generalize (lg_sl ([.ref b]) ++ List.replicate (8 - (lg_sl ([.ref b])).length) Slot.unset).toArray = ls at hl ⊢
  have hl : lv_has ls 8 [(0, .ref b)] := hl
  refine g_new (ci := 5) (fs := [.null, .int 0, .null, .int 0, .null, .int 0, .int 0, .null, .int 0, .null, .int 0]) hE hG rfl inG5 tyX5 tyX5_ok mw1_16 mw1_17 mw1_1 (by intro j hj; match j, hj with | 0, _ => rfl | 1, _ => rfl | 2, _ => rfl | 3, _ => rfl | 4, _ => rfl | 5, _ => rfl | 6, _ => rfl | 7, _ => rfl | 8, _ => rfl | 9, _ => rfl | 10, _ => rfl) (Nat.le_of_ble_eq_true rfl) (Nat.le_of_ble_eq_true rfl) 0 rfl dL_law_0 (fun q1 H w1 ew1 hG => ?_)
  have z1 : w1 0 = some (q1, .inr (5, [.null, .int 0, .null, .int 0, .null, .int 0, .int 0, .null, .int 0, .null, .int 0])) := gU_s ew1
  have f1 : ∀ k, 1 ≤ k → w1 k = none := fun k hk => by rw [ew1, gU_ne _ _ (by omega)]
  refine lv_dup hx hb dL_law_3 rfl ?_
  refine g_callI (rest := [.ref q1]) (As := []) hE hG hl.1 (c_X5_init l hfl D tc A w1 q1 z1 (fun k h1 _ => f1 k h1)) mw1_18 mw1_19 mw1_1 mw1_20 rfl nm_X5_init ⟨⟨Nat.le_of_ble_eq_true rfl, Nat.le_of_ble_eq_true rfl⟩, Nat.le_of_ble_eq_true rfl, Nat.le_of_ble_eq_true rfl⟩ rfl rfl (Nat.le_of_ble_eq_true rfl) dL_law_4 ?_
  intro v9 w2 H locs h9 hG
  obtain ⟨e9, ca, hca, hC, hK9⟩ := h9
  rw [e9]; clear e9
  show W p l e _ s m #[Value.ref b] below meth c H locs _ _ _ (F0 m 7 ls [.ref q1])
  refine lv_astore_n (lv' := [(1, .ref q1), (0, .ref b)]) hx hb dL_law_7 rfl hl (by decide) rfl (fun ls hl => ?_)
  have hG := hG.sw
  have hC := cW_cg hC I_0.1 (w' := gSw w2) (fun k h1 h2 => gSw_o w2 h2 (by omega))
  have f2 : ∀ k, 1000 ≤ k → k < 2000 → gSw w2 k = none := fun k h1 h2 => (gSw_o w2 (by omega) (by omega)).trans ((hK9 k h1).trans (f1 k (by omega)))
  have f27 : gSw w2 7 = none := (hK9 2000 (by omega)).trans (f1 2000 (by omega))
  refine g_new (ci := 6) (fs := [.null, .int 0, .null, .null, .null, .int 0, .int 0, .int 0, .int 0, .int 0, .int 0, .int 0, .int 0, .int 0, .long 0, .null, .int 0, .int 0, .null, .null, .int 0, .null, .null, .null, .int 0, .int 0]) hE hG rfl inG6 tyX6 tyX6_ok mw3_180 mw3_181 mw1_4 (by intro j hj; rcases (show j = 0 ∨ j = 1 ∨ j = 2 ∨ j = 3 ∨ j = 4 ∨ j = 5 ∨ j = 6 ∨ j = 7 ∨ j = 8 ∨ j = 9 ∨ j = 10 ∨ j = 11 ∨ j = 12 ∨ j = 13 ∨ j = 14 ∨ j = 15 ∨ j = 16 ∨ j = 17 ∨ j = 18 ∨ j = 19 ∨ j = 20 ∨ j = 21 ∨ j = 22 ∨ j = 23 ∨ j = 24 ∨ j = 25 by omega) with rfl | rfl | rfl | rfl | rfl | rfl | rfl | rfl | rfl | rfl | rfl | rfl | rfl | rfl | rfl | rfl | rfl | rfl | rfl | rfl | rfl | rfl | rfl | rfl | rfl | rfl <;> rfl) (Nat.le_of_ble_eq_true rfl) (Nat.le_of_ble_eq_true rfl) 1000 (f2 1000 (by omega) (by omega)) dL_law_8 (fun q2 H w3 ew3 hG => ?_)
  have z3 : w3 1000 = some (q2, .inr (6, [.null, .int 0, .null, .null, .null, .int 0, .int 0, .int 0, .int 0, .int 0, .int 0, .int 0, .int 0, .int 0, .long 0, .null, .int 0, .int 0, .null, .null, .int 0, .null, .null, .null, .int 0, .int 0])) := gU_s ew3
  have f3 : ∀ k, 1001 ≤ k → k < 2000 → w3 k = none := fun k h1 h2 => by rw [ew3, gU_ne _ _ (by omega)]; exact f2 k (by omega) h2
  have f37 : w3 7 = none := by rw [ew3, gU_ne _ _ (by omega)]; exact f27
  have hC := cW_cg hC I_0.1 (w' := w3) (fun k h1 h2 => by rw [ew3, gU_ne _ _ (by omega)])
  refine lv_dup hx hb dL_law_11 rfl ?_
  refine g_callI (rest := [.ref q2]) (As := []) hE hG hl.1 (c_X6_init l hfl D tc A w3 q2 z3 (f3 1001 (by omega) (by omega)) (f3 1002 (by omega) (by omega)) (f3 1003 (by omega) (by omega)) (f3 1004 (by omega) (by omega)) (f3 1005 (by omega) (by omega)) (f3 1006 (by omega) (by omega)) (f3 1007 (by omega) (by omega)) (f3 1008 (by omega) (by omega)) (f3 1009 (by omega) (by omega)) (f3 1010 (by omega) (by omega))) mw3_182 mw3_183 mw1_4 mw3_184 rfl nm_X6_init ⟨⟨Nat.le_of_ble_eq_true rfl, Nat.le_of_ble_eq_true rfl⟩, Nat.le_of_ble_eq_true rfl, Nat.le_of_ble_eq_true rfl⟩ rfl rfl (Nat.le_of_ble_eq_true rfl) dL_law_12 ?_
  intro v8 w4 H locs h8 hG
  obtain ⟨e8, ad, had, hM, hF⟩ := h8
  rw [e8]; clear e8
  show W p l e _ s m #[Value.ref b] below meth c H locs _ _ _ (F0 m 15 ls [.ref q2])
  refine lv_astore_n (lv' := [(2, .ref q2), (1, .ref q1), (0, .ref b)]) hx hb dL_law_15 rfl hl (by decide) rfl (fun ls hl => ?_)
  have hC := cW_cg hC I_0.1 (w' := w4) (fun k h1 h2 => hF k h1)
  have f47 : w4 7 = none := (hF 7 (by omega)).trans f37
  refine lv_iconst (v := 1) hx hb dL_law_16 (by decide) ?_
  refine g_newi (atype := .long) (t0 := 1) (ty := .long) (a0 := (1, .inr (.inl (fun _ => 0)))) (N' := 1) hE hG mw1_74 rfl rfl (fun _ _ h => h) (fun _ => by first | rfl | simp [vp_cell_i, vp_cell_l, defaultValue]) (by decide) (by decide) (by decide) (Nat.le_of_ble_eq_true rfl) (Nat.le_of_ble_eq_true rfl) 7 f47 dL_law_17 (fun q3 H w5 ew5 hG => ?_)
  have h7 : w5 7 = some (q3, .inl (tc 1, 1, .inr (.inl (fun _ => 0)))) := gU_s ew5
  have hC := cW_cg hC I_0.1 (w' := w5) (fun k h1 h2 => by rw [ew5, gU_ne _ _ h2])
  have hM := mW_cg hM (w' := w5) (fun k h1 h2 => by rw [ew5, gU_ne _ _ (by omega)])
  refine lv_astore_n (lv' := [(3, .ref q3), (2, .ref q2), (1, .ref q1), (0, .ref b)]) hx hb dL_law_19 rfl hl (by decide) rfl (fun ls hl => ?_)
  refine lv_iconst (v := 0) hx hb dL_law_20 (by decide) ?_
  refine lv_istore (lv' := [(4, .int 0), (3, .ref q3), (2, .ref q2), (1, .ref q1), (0, .ref b)]) hx hb dL_law_21 hl (by decide) rfl (fun ls hl => ?_)
  refine W.widen (k := 100 + 40 * 0) (n := 5000 + 400 * 0) (Nat.le_of_ble_eq_true rfl) (Nat.le_of_ble_eq_true rfl) ?_
  have hl : lv_has ls 8 [(4, .int (nI (6 * 0))), (3, .ref q3), (2, .ref q2), (1, .ref q1), (0, .ref b)] := hl
  exact law_loop hfl hE hX hbl hbA hL hr hlocks hAo 513 0 rfl ca ad d_0 0 (fun _ => 0) (fun _ => 0) w5 _ _ _ hC hM I_0 h7 hG (by rw [hca, had]; exact lv_sub hl [0, 4, 3, 2, 1] rfl)
