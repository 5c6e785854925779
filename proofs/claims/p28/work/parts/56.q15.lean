/-! the start of the law -/
def R_law : String := "GongCyclesLaw"
def lw_P (b : Addr) (xs : List Int32) (args : Array Value) (s : State) : Prop := args = #[.ref b] ∧ s.IntsAt b xs ∧ xs.length ≤ 260 ∧ (Jvm.Cond.and given_1 narrow_1).before args s = true
def lw_Q (_ : Array Value) (s : State) (o : Outcome) (t : State) : Prop := o = .returned (some (.int 1)) ∧ Framed s o t [] 600086 7301442
def lw_Z (below : List Frame) (a : Array Value) (s : State) : State → Prop := fun t => ∃ o, t.status = .running ∧ Ended t below o ∧ lw_Q a s o t
/-- the law's own end, with 1 on the stack, nothing written that was there before, its room as the claim has it -/
theorem lw_ret {p : Program} {l : Launch} {e : Env} {s : State} {m : MethodId} {below : List Frame} {meth : Method} {c : Code} {b : Nat} (hx : p.tables.exec = Jvm.exec) (hb : c.code = code) (hr : meth.sig.returnType = ret) (hlocks : meth.locks = false) {pc : Nat} {H : Heap} {ls : Array Slot} (hdg : decode code pc = .ok (.ireturn, 1)) : W p l e room_1 s m #[Value.ref b] below meth c H [] 600086 7301442 (lw_Z below #[Value.ref b] s) (F0 m pc ls [.int 1]) := by
  intro T hT X
  obtain ⟨fs, hret, hrun, hended, hW, hframe⟩ := X.leave (v := some (.int 1)) (hlocks := hlocks) (fun h => by rw [hr] at h; cases h)
  have hmeth' : T.vm.method? m = some meth := X.method'
  refine ⟨T.setFrames fs, ?_, .returned (some (.int 1)), hrun, hended, rfl, ⟨_, rfl⟩, hW, hframe⟩
  jvm_step X.here [X.here.top, hx, hb, hdg, hmeth', hr, ret, narrow_b1]
  (try refine ⟨rfl, ?_⟩); (try refine ⟨rfl, ?_⟩)
  first | (intro acts; rw [hret _ acts rfl rfl rfl]) | rw [hret _ _ rfl rfl rfl]
  exact Steps.refl _
/-- what holds at the law's entry: the machine, the code, the tables' words (any of lw_tbl by 'hts w (by decide +kernel)'), the script of L ints xs at the cell b, what the Statement gives of the start (any of its parts by flat_of_before) -/
def lw_At (p : Program) (s : State) (m : MethodId) (meth : Method) (c : Code) (b L : Nat) (xs : Nat → Int32) : Prop :=
  p.tables.exec = Jvm.exec ∧ c.code = code ∧ meth.sig.returnType = ret ∧ c.maxLocals = 1 ∧ s.vm.findClass R_law = some m.cls ∧ (∀ w ∈ lw_tbl, w.before #[Value.ref b] s = true) ∧ va_X b L xs s s.heap ∧ b < s.heap.size ∧ meth.locks = false ∧ (Jvm.Cond.and given_1 narrow_1).before #[Value.ref b] s = true
theorem ao_in : ∀ C ∈ gRs, Cond.arrayOver (.object C) ∈ lw_tbl := by decide +kernel
theorem str_in : ∀ q ∈ gSs, Cond.stringRef RX5 q.1 q.2 ∈ lw_tbl := by decide +kernel
theorem cas_in : ∀ E ∈ gEs, Cond.castable E E ∈ lw_tbl := by decide +kernel
theorem fln_in : ∀ q ∈ gFn, Cond.fieldLinkNest RX5 q.1 q.2.1 q.2.2.1 q.2.2.2 RX5 ∈ lw_tbl := by decide +kernel
theorem mln_in : ∀ q ∈ gMn, Cond.methodLinkNest q.1 q.2.1 q.2.2 RX5 ∈ lw_tbl := by decide +kernel
theorem dcl_in : ∀ x ∈ gDs, Cond.declares x ∈ lw_tbl := by decide +kernel
theorem las_in1 : Cond.laysStatic Bundle.tN "UNASSIGNED_STACK" Bundle.steD ∈ lw_tbl := by decide +kernel
theorem las_in2 : Cond.laysStatic Bundle.tN "SUPPRESSED_SENTINEL" Bundle.listD ∈ lw_tbl := by decide +kernel
theorem ini_in : Cond.initialized Bundle.tN ∈ lw_tbl := by decide +kernel
theorem nc_in : ∀ q ∈ gNs, Cond.not (.castable q.1 q.2) ∈ flatC (Jvm.Cond.and given_1 narrow_1) := by decide +kernel
theorem rf_in1 : Cond.isRef (.static Bundle.tN "UNASSIGNED_STACK" Bundle.steD) ∈ flatC (Jvm.Cond.and given_1 narrow_1) := by decide +kernel
theorem rf_in2 : Cond.isRef (.static Bundle.tN "SUPPRESSED_SENTINEL" Bundle.listD) ∈ flatC (Jvm.Cond.and given_1 narrow_1) := by decide +kernel
theorem ar_i {s : State} {args : Array Value} (h : (Cond.arrayClass .int).before args s = true) : ∃ cA : ClassId, ArrOfT s cA .int ∧ va_RA s cA .int := by
  obtain ⟨c, k, comp, h1, h2, h3⟩ := Cond.arrayClass_spec h
  exact ⟨c, fun N z => ⟨(fun k h => by cases h), k, h2, comp, h3⟩, h1⟩
theorem ar_l {s : State} {args : Array Value} (h : (Cond.arrayClass .long).before args s = true) : ∃ cA : ClassId, ArrOfT s cA .long ∧ va_RA s cA .long := by
  obtain ⟨c, k, comp, h1, h2, h3⟩ := Cond.arrayClass_spec h
  exact ⟨c, fun N z => ⟨(fun k h => by cases h), k, h2, comp, h3⟩, h1⟩
theorem ar_o {s : State} {args : Array Value} {C : String} (h : (Cond.arrayOver (.object C)).before args s = true) : ∃ cA : ClassId, ArrOfT s cA (.object C) ∧ va_RA s cA (.object C) := by
  obtain ⟨comp, c, k, h1, h2, h3, h4, h5⟩ := Cond.arrayOver_spec h
  exact ⟨c, fun N z => ⟨(fun k h => by cases h), k, h3, comp, h4⟩, k, comp, h3, h4, h1, h5⟩
theorem k_start {s : State} {args : Array Value} (hts : ∀ w ∈ lw_tbl, w.before args s = true) : ∃ (D : va_G) (tc : Nat → ClassId), va_K D gCl (gTy tc) s := by
  have hts9 : ∀ w ∈ gT, w.before args s = true := fun w hw => hts w (gT_tbl w hw)
  obtain ⟨c0, s0, k0⟩ := u_known (C := RX0) (T := TX0) (N := 2) (n := 2) hts9 inG0 (hts9 _ mw1_87)
  obtain ⟨c1, s1, k1⟩ := u_known (C := RX1) (T := TX1) (N := 1) (n := 1) hts9 inG1 (hts9 _ mw2_27)
  obtain ⟨c2, s2, k2⟩ := u_known (C := RX2) (T := TX2) (N := 2) (n := 2) hts9 inG2 (hts9 _ mw2_21)
  obtain ⟨c3, s3, k3⟩ := u_known (C := RX3) (T := TX3) (N := 2) (n := 2) hts9 inG3 (hts9 _ mw2_89)
  obtain ⟨c4, s4, k4⟩ := u_known (C := RX4) (T := TX4) (N := 11) (n := 11) hts9 inG4 (hts9 _ mw1_35)
  obtain ⟨c5, s5, k5⟩ := u_known (C := RX5) (T := TX5) (N := 11) (n := 11) hts9 inG5 (hts9 _ mw1_25)
  obtain ⟨a0, r0⟩ := ar_i (hts9 _ mw1_81)
  obtain ⟨a1, r1⟩ := ar_l (hts9 _ mw1_82)
  obtain ⟨a3, r3⟩ := ar_o (C := RX2) (hts _ (ao_in RX2 (List.mem_of_getElem? (i := 0) rfl)))
  obtain ⟨a4, r4⟩ := ar_o (C := RX0) (hts _ (ao_in RX0 (List.mem_of_getElem? (i := 1) rfl)))
  obtain ⟨a5, r5⟩ := ar_o (C := RX3) (hts _ (ao_in RX3 (List.mem_of_getElem? (i := 2) rfl)))
  obtain ⟨a6, r6⟩ := ar_o (C := RX1) (hts _ (ao_in RX1 (List.mem_of_getElem? (i := 3) rfl)))
  refine ⟨(fun k => if k = 0 then c0 else if k = 1 then c1 else if k = 2 then c2 else if k = 3 then c3 else if k = 4 then c4 else c5, fun k => if k = 0 then s0 else if k = 1 then s1 else if k = 2 then s2 else if k = 3 then s3 else if k = 4 then s4 else s5), fun k => if k = 0 then a0 else if k = 1 then a1 else if k = 2 then a0 else if k = 3 then a3 else if k = 4 then a4 else if k = 5 then a5 else a6, ?_, ?_⟩
  · intro k q hq
    match k, hq with
    | 0, hq => cases hq; exact k0
    | 1, hq => cases hq; exact k1
    | 2, hq => cases hq; exact k2
    | 3, hq => cases hq; exact k3
    | 4, hq => cases hq; exact k4
    | 5, hq => cases hq; exact k5
    | k + 6, hq => simp [gCl] at hq
  · intro k q hq
    match k, hq with
    | 0, hq => cases hq; exact r0
    | 1, hq => cases hq; exact r1
    | 2, hq => cases hq; exact r0
    | 3, hq => cases hq; exact r3
    | 4, hq => cases hq; exact r4
    | 5, hq => cases hq; exact r5
    | 6, hq => cases hq; exact r6
    | k + 7, hq => simp [gTy] at hq
theorem x_start {s : State} {args : Array Value} {A : Nat → Prop} {D : va_G} {tc : Nat → ClassId} (hK : va_K D gCl (gTy tc) s) (hts : ∀ w ∈ lw_tbl, w.before args s = true) (hgv : (Jvm.Cond.and given_1 narrow_1).before args s = true) (hAo : ∀ q, A q → s.heap.size ≤ q) : gX A s s.heap := by
  have hs := flat_of_before _ hgv
  have hA : ∀ a : Nat, a < s.heap.size → ¬ A a := fun a h g => by have := hAo a g; omega
  refine ⟨vx_Zqof (hts _ las_in1) (hts _ ini_in) (hs _ rf_in1) hA, vx_Zqof (hts _ las_in2) (hts _ ini_in) (hs _ rf_in2) hA, ?_, ?_, ?_, ?_, ?_, ?_, ?_⟩
  · intro q hq
    have hw := hts _ (str_in q hq)
    obtain ⟨k, cf, i, a, -, -, -, -, -, he⟩ := Cond.stringRef_spec (hK.1 5 _ rfl).2.1 hw
    exact ⟨a, vk_R.of hw he⟩
  · exact fun C hC => va_AO.of (hts _ (ao_in C hC))
  · exact fun q hq => va_Nc.of (hs _ (nc_in q hq))
  · exact fun E hE => va_Nw.of rfl (hts _ (cas_in E hE))
  · exact fun q hq => va_Nw.of rfl (hts _ (fln_in q hq))
  · exact fun q hq => va_Nw.of rfl (hts _ (mln_in q hq))
  · exact fun x hx => va_Nw.of rfl (hts _ (dcl_in x hx))
set_option maxHeartbeats 4000000 in
set_option maxRecDepth 100000 in
theorem whole_start {p : Program} {e : Env} {s : State} {m : MethodId} {below : List Frame} {meth : Method} {c : Code} (l : Launch) (hflags : l.flags = flags0) {b L : Nat} {xs : Nat → Int32} (hL : L ≤ 260) (C0 : lw_At p s m meth c b L xs) : W p l e room_1 s m #[Value.ref b] below meth c s.heap [] 0 0 (lw_Z below #[Value.ref b] s) (entryFrame m ([Value.ref b] : List Value).toArray 1) := by
  obtain ⟨hx, hb, hr, hml, hown, hts, hX, hbl, hlocks, hgv⟩ := id C0
  have hfl : l.stackTraces = false := by unfold Launch.stackTraces; rw [hflags]; decide +kernel
  obtain ⟨D, tc, hK⟩ := k_start hts
  obtain ⟨A, hAe⟩ : ∃ A : Nat → Prop, A = fun q => s.heap.size ≤ q := ⟨_, rfl⟩
  have hA : ∀ q, s.heap.size ≤ q → A q := by rw [hAe]; exact fun _ h => h
  have hAo : ∀ q, A q → s.heap.size ≤ q := by rw [hAe]; exact fun _ h => h
  have hbA : ¬ A b := fun h => by have := hAo b h; omega
  have hE : gE p l s m #[Value.ref b] meth c code 1 RL D tc A := ⟨hx, hb, hml, hown, fun w hw => hts w (gT_tbl w hw), hK, x_start hK hts hgv hAo, hA, hlocks⟩
  have hG : gS D A s.heap (fun _ => none) s.heap [] := ⟨(fun k x h => by cases h), ⟨(fun k j x y h => by cases h), (fun k x h => by cases h)⟩, va_S.rf⟩
  have hl := lv_entry ([.ref b]) (n := 1) (Nat.le_of_ble_eq_true rfl)
  rw [lg_entry_eq]
  generalize (lg_sl ([.ref b]) ++ List.replicate (1 - (lg_sl ([.ref b])).length) Slot.unset).toArray = ls at hl ⊢
  have hl : lv_has ls 1 [(0, .ref b)] := hl
  refine lv_aload_n hx hb dL_law_0 rfl (lv_at hl 0 rfl) ?_
  refine g_callSHs hX hbl hbA (rest := []) (As := [.ref b]) hE hG hl.1 (c_L_isHeld l hfl D tc A b L xs hL) mw1_15 mw1_16 mw1_0 mw1_17 nm_L_isHeld ⟨⟨Nat.le_of_ble_eq_true rfl, Nat.le_of_ble_eq_true rfl⟩, Nat.le_of_ble_eq_true rfl, Nat.le_of_ble_eq_true rfl⟩ rfl rfl (Nat.le_of_ble_eq_true rfl) dL_law_1 ?_
  intro v9 w2 H locs h9 hG
  rw [show v9 = some (.int 1) from h9]
  show W p l e _ s m #[Value.ref b] below meth c H locs _ _ _ (F0 m 4 ls [.int 1])
  refine va_forget (fun q hq => hAo _ (hG.2.2.2.2 q hq)) (W.widen (k := 600086) (n := 7301442) (Nat.le_of_ble_eq_true rfl) (Nat.le_of_ble_eq_true rfl) ?_)
  exact lw_ret hx hb hr hlocks dL_law_4
