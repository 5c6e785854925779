/-! THE WORLD: cells by keys of our own choice. -/
abbrev gCl : List vw_C := [(RX0, TX0, 2), (RX1, TX1, 1), (RX2, TX2, 2), (RX3, TX3, 2), (RX4, TX4, 11), (RX5, TX5, 11)]
abbrev gTy (tc : Nat → ClassId) : List (ClassId × FieldType) := [(tc 0, .int), (tc 1, .long), (tc 2, .int), (tc 3, .object RX2), (tc 4, .object RX0), (tc 5, .object RX3), (tc 6, .object RX1)]
abbrev gW : Type := Nat → Option (Nat × va_E)
def gU (w : gW) (k : Nat) (x : Nat × va_E) : gW := fun j => if j = k then some x else w j
theorem gU_s {w w1 : gW} {k : Nat} {x : Nat × va_E} (e : w1 = gU w k x) : w1 k = some x := by rw [e]; exact if_pos rfl
theorem gU_n {w w1 : gW} {k j : Nat} {x : Nat × va_E} {y : Option (Nat × va_E)} (e : w1 = gU w k x) (h : j ≠ k) (hy : w j = y) : w1 j = y := by rw [e]; exact (if_neg h).trans hy
theorem gU_k {w : gW} {k j : Nat} {x y : Nat × va_E} (hx : w k = some x) (hy : w j = some y) (h : x.2 ≠ y.2) : j ≠ k := fun e => h (by subst e; exact congrArg Prod.snd (Option.some.inj (hx.symm.trans hy)))
theorem gU_f {w : gW} {k j : Nat} {y : Nat × va_E} (hx : w k = none) (hy : w j = some y) : j ≠ k := fun e => by subst e; rw [hx] at hy; cases hy
theorem gU_same (w : gW) (k : Nat) (x : Nat × va_E) : gU w k x k = some x := if_pos rfl
theorem gU_ne (w : gW) {k j : Nat} (x : Nat × va_E) (h : j ≠ k) : gU w k x j = w j := if_neg h
def gAt (D : va_G) (w : gW) (H : Heap) : Prop := ∀ (k : Nat) (x : Nat × va_E), w k = some x → va_at D gCl x H
def gDj (A : Nat → Prop) (w : gW) : Prop := (∀ (k j : Nat) (x y : Nat × va_E), w k = some x → w j = some y → x.1 = y.1 → k = j) ∧ ∀ (k : Nat) (x : Nat × va_E), w k = some x → A x.1
def gS (D : va_G) (A : Nat → Prop) (H0 : Heap) (w : gW) (H : Heap) (locs : List Loc) : Prop := gAt D w H ∧ gDj A w ∧ va_S A H0 H locs
theorem gAt_one {D : va_G} {w : gW} {H : Heap} {k : Nat} {x : Nat × va_E} (h : gAt D w H) (hk : w k = some x) : va_P D gCl [x] H := by
  intro j q hj
  have hz : j < 1 := (List.getElem?_eq_some_iff.mp hj).1
  rw [show j = 0 by omega] at hj
  cases hj
  exact h k x hk
theorem gS.set {D : va_G} {A : Nat → Prop} {H0 H H1 : Heap} {w : gW} {locs : List Loc} {k a j : Nat} {e0 e : va_E} (h : gS D A H0 w H locs) (hk : w k = some (a, e0)) (he : va_at D gCl (a, e) H1) (hz : H1.size = H.size) (ho : ∀ q : Nat, q ≠ a → H1[q]? = H[q]?) : gS D A H0 (gU w k (a, e)) H1 (locs ++ [⟨a, j⟩]) := by
  obtain ⟨h1, h2, h3⟩ := h
  refine ⟨?_, ⟨?_, ?_⟩, h3.put hz ho (h2.2 k _ hk)⟩
  · intro i x hx
    by_cases hi : i = k
    · subst hi
      rw [gU_same] at hx
      cases hx
      exact he
    · rw [gU_ne _ _ hi] at hx
      exact (h1 i x hx).kept (ho x.1 (fun e9 => hi (h2.1 i k x _ hx hk e9)))
  · intro i j x y hx hy hxy
    by_cases hi : i = k
    · by_cases hj : j = k
      · rw [hi, hj]
      · subst hi
        rw [gU_same] at hx
        rw [gU_ne _ _ hj] at hy
        cases hx
        exact h2.1 _ j _ y hk hy hxy
    · by_cases hj : j = k
      · subst hj
        rw [gU_same] at hy
        rw [gU_ne _ _ hi] at hx
        cases hy
        exact h2.1 i _ x _ hx hk hxy
      · rw [gU_ne _ _ hi] at hx
        rw [gU_ne _ _ hj] at hy
        exact h2.1 i j x y hx hy hxy
  · intro i x hx
    by_cases hi : i = k
    · subst hi
      rw [gU_same] at hx
      cases hx
      exact (h2.2 _ _ hk : A a)
    · rw [gU_ne _ _ hi] at hx
      exact h2.2 i x hx
theorem gS.push {D : va_G} {A : Nat → Prop} {H0 H H1 : Heap} {w : gW} {locs : List Loc} {k : Nat} {e : va_E} (h : gS D A H0 w H locs) (hk : w k = none) (hA : ∀ q, H0.size ≤ q → A q) (he : va_at D gCl (H.size, e) H1) (hz : H1.size = H.size + 1) (ho : ∀ q : Nat, q < H.size → H1[q]? = H[q]?) : gS D A H0 (gU w k (H.size, e)) H1 locs := by
  obtain ⟨h1, h2, h3⟩ := h
  have hlt : ∀ (i : Nat) (x : Nat × va_E), w i = some x → x.1 < H.size := fun i x hx => (h1 i x hx).lt
  refine ⟨?_, ⟨?_, ?_⟩, ⟨Nat.le_trans h3.1 (by omega), fun x g1 g2 => (ho x (Nat.lt_of_lt_of_le g1 h3.1)).trans (h3.2.1 x g1 g2), h3.2.2⟩⟩
  · intro i x hx
    by_cases hi : i = k
    · subst hi
      rw [gU_same] at hx
      cases hx
      exact he
    · rw [gU_ne _ _ hi] at hx
      exact (h1 i x hx).kept (ho x.1 (hlt i x hx))
  · intro i j x y hx hy hxy
    by_cases hi : i = k
    · by_cases hj : j = k
      · rw [hi, hj]
      · subst hi
        rw [gU_same] at hx
        rw [gU_ne _ _ hj] at hy
        cases hx
        have := hlt j y hy
        have e9 : H.size = y.1 := hxy
        omega
    · by_cases hj : j = k
      · subst hj
        rw [gU_same] at hy
        rw [gU_ne _ _ hi] at hx
        cases hy
        have := hlt i x hx
        have e9 : x.1 = H.size := hxy
        omega
      · rw [gU_ne _ _ hi] at hx
        rw [gU_ne _ _ hj] at hy
        exact h2.1 i j x y hx hy hxy
  · intro i x hx
    by_cases hi : i = k
    · subst hi
      rw [gU_same] at hx
      cases hx
      exact hA _ h3.1
    · rw [gU_ne _ _ hi] at hx
      exact h2.2 i x hx
/-! WHAT EVERY METHOD KNOWS -/
def gStr (L : List (Nat × String)) (U : State) : Prop := ∀ q ∈ L, ∃ sa : Nat, vk_R RX5 q.1 q.2 sa U
def gSs : List (Nat × String) := [(60, "a length is 4 to 64, a multiple of 4"), (67, "there are 4 forms"), (76, "no such place"), (79, "there are 6 pieces"), (105, "a set of days is 0 to 31"), (121, "a piece is played"), (123, "the piece is forbidden today"), (133, "the drum tells HOLD to CUT"), (144, "beats are 1 to 100"), (161, "it is told of 0 to 5"), (174, "days are 1 to 100"), (184, "a pitch is 5000 to 200000"), (189, "a drift is 0 to 50"), (194, "years are 1 to 30"), (196, "it would be above 300 years"), (201, "a set is tuned by another one"), (214, "a set of parts is 0 to 15"), (216, "there are 8 players"), (227, "nobody learns of oneself"), (229, "the other one does not know it"), (242, "the player does not know it"), (257, "no such form"), (259, "no such piece"), (261, "no such set"), (263, "no such player"), (269, "no such part"), (271, "no such tone"), (273, "a tone is 1 to 7, a rest 0"), (275, "a level is 0 to 3"), (280, "a stroke is 0 to the density less 1"), (282, "nothing is played")]
abbrev gIA : String := "java/lang/IllegalArgumentException"
abbrev gIS : String := "java/lang/IllegalStateException"
abbrev gIO : String := "java/lang/IndexOutOfBoundsException"
def gRs : List String := [RX2, RX0, RX3, RX1]
def gNs : List (String × String) := [(gIA, gIS), (gIA, gIO), (gIS, gIA), (gIS, gIO), (gIO, gIA), (gIO, gIS)]
def gEs : List String := [gIA, gIS, gIO]
def gFn : List (Nat × String × String × String) := [(158, RX4, "pieceNumber", "I"), (141, RX4, "place", "I"), (149, RX4, "beatLength", "I"), (152, RX4, "level", "I"), (155, RX4, "gongs", "I"), (117, RX4, "goesOn", "Z"), (163, RX4, "ticksGone", "J"), (191, RX0, "yearlyDrift", "I"), (88, RX2, "melody", "LGongCycles$Melody;"), (107, RX2, "forbiddenDays", "I"), (248, RX3, "ableParts", "I")]
def gMn : List (String × Nat × MethodName) := [(RX5, 28, yX4_init), (RX4, 51, yX5_densityOf)]
def gDs : List MethodName := [⟨"java/lang/Exception", "<init>", "()V"⟩, ⟨"java/lang/Exception", "<init>", "(Ljava/lang/String;)V"⟩, ⟨"java/lang/RuntimeException", "<init>", "()V"⟩, ⟨"java/lang/RuntimeException", "<init>", "(Ljava/lang/String;)V"⟩, ⟨"java/lang/Throwable", "<init>", "()V"⟩, ⟨"java/lang/Throwable", "<init>", "(Ljava/lang/String;)V"⟩]
def gX (A : Nat → Prop) (U : State) (H : Heap) : Prop := vx_Zq Bundle.tN "UNASSIGNED_STACK" Bundle.steD A U H ∧ vx_Zq Bundle.tN "SUPPRESSED_SENTINEL" Bundle.listD A U H ∧ gStr gSs U ∧ (∀ C ∈ gRs, va_AO C U) ∧ (∀ q ∈ gNs, va_Nc q.1 q.2 U) ∧ (∀ E ∈ gEs, va_Nw (.castable E E) U) ∧ (∀ q ∈ gFn, va_Nw (.fieldLinkNest RX5 q.1 q.2.1 q.2.2.1 q.2.2.2 RX5) U) ∧ (∀ q ∈ gMn, va_Nw (.methodLinkNest q.1 q.2.1 q.2.2 RX5) U) ∧ (∀ x ∈ gDs, va_Nw (.declares x) U)
theorem gX_blind {A : Nat → Prop} {U : State} {g : JFrame} {mk : MethodId} {a : Array Value} {H : Heap} (h : gX A U H) : gX A (U.calling g mk a) H := by
  obtain ⟨h5, h6, h7, h8, h9, h10, h11, h12, h13⟩ := h
  exact ⟨vx_Zq.moved (u := U) (U := U.calling g mk a) (Vm.Alike.refl U.vm) h5, vx_Zq.moved (u := U) (U := U.calling g mk a) (Vm.Alike.refl U.vm) h6, fun q hq => by obtain ⟨sa, h⟩ := h7 q hq; exact ⟨sa, vk_R.same (u := U) (U := U.calling g mk a) rfl h⟩,
    fun C hC => va_AO.moved (u := U) (U := U.calling g mk a) (Vm.Alike.refl U.vm) (h8 C hC), fun q hq => va_Nc.moved (u := U) (U := U.calling g mk a) (Vm.Alike.refl U.vm) (h9 q hq), fun E hE => va_Nw.warmC (s := U) (U := U.calling g mk a) (State.WarmedH.refl U) (h10 E hE),
    fun q hq => va_Nw.warmF (s := U) (U := U.calling g mk a) (State.WarmedH.refl U) (h11 q hq), fun q hq => va_Nw.warmM (s := U) (U := U.calling g mk a) (State.WarmedH.refl U) (h12 q hq), fun x hx => va_Nw.warmD (s := U) (U := U.calling g mk a) (State.WarmedH.refl U) (h13 x hx)⟩
def gB (D : va_G) (tc : Nat → ClassId) (A : Nat → Prop) (w : gW) (U : State) : Prop := gAt D w U.heap ∧ gDj A w ∧ (∀ q, U.heap.size ≤ q → A q) ∧ va_K D gCl (gTy tc) U ∧ gX A U U.heap
def gQ (D : va_G) (A : Nat → Prop) (post : Option Value → gW → Prop) : Array Value → State → Outcome → State → Prop := fun _ st oc t => (∃ (v : Option Value) (w : gW), oc = .returned v ∧ post v w ∧ gAt D w t.heap ∧ gDj A w) ∧ va_F A st t
def gXC (D : va_G) (A : Nat → Prop) (w : gW) (thr : String → Prop) : String → State → State → Prop := fun E st t => thr E ∧ gAt D w t.heap ∧ va_F A st t
def gM (l : Launch) (y : MethodName) (cc : ByteArray) (nL : Nat) (rt : Option FieldType) (rm : Room) (D : va_G) (tc : Nat → ClassId) (A : Nat → Prop) (args : List Value) (w : gW) (post : Option Value → gW → Prop) (thr : String → Prop) : Prop :=
  vx_Met l y (Cond.code y cc nL rt :: gT) rm (va_Pc args (gB D tc A w)) (gQ D A post) (gXC D A w thr) rm.cells rm.slots A
def gMH (l : Launch) (y : MethodName) (cc : ByteArray) (nL : Nat) (rt : Option FieldType) (hh : List (Nat × Nat × Nat × Nat)) (rm : Room) (D : va_G) (tc : Nat → ClassId) (A : Nat → Prop) (args : List Value) (w : gW) (post : Option Value → gW → Prop) (thr : String → Prop) : Prop :=
  vx_Met l y (Cond.codeWith y cc nL rt hh :: gT) rm (va_Pc args (gB D tc A w)) (gQ D A post) (gXC D A w thr) rm.cells rm.slots A
theorem gMet_of {l : Launch} {y : MethodName} {ws : List Cond} {rm : Room} {Pc : Array Value → State → Prop} {Qc : Array Value → State → Outcome → State → Prop} {XC : String → State → State → Prop} {mc ms : Nat} {free : Addr → Prop} (hX : ∀ E st t, ¬ XC E st t) (h : vx_Met l y ws rm Pc Qc XC mc ms free) : Met l y ws rm Pc Qc mc ms free := by
  intro p e ha hc hk s m args below hf happ hP hT
  obtain ⟨t, o, h1, h2, h3, h4⟩ := h p e ha hc hk s m args below hf happ hP hT
  refine ⟨t, o, h1, h2, h3, ?_⟩
  rcases h4 with h4 | ⟨q, -, E, ce, L, hx, -⟩
  · exact h4
  · exact absurd hx (hX _ _ _)
theorem gB_blind {D : va_G} {tc : Nat → ClassId} {A : Nat → Prop} {args : List Value} {w : gW} : FrameBlind (va_Pc args (gB D tc A w)) := by
  intro a U g mk h
  obtain ⟨h0, h1, h2, h3, h4, h5⟩ := h
  exact ⟨h0, h1, h2, h3, va_K.moved (u := U) (U := U.calling g mk a) (Vm.Alike.refl U.vm) h4, gX_blind h5⟩
section GROWS
variable {p : Program} {l : Launch} {e : Env} {R : Room} {s : State} {m : MethodId} {args : Array Value} {below : List Frame} {meth : Method} {c : Code} {H : Heap} {locs : List Loc} {cells slots : Nat} {Q : State → Prop}
variable {cc : ByteArray} {nL pc : Nat} {own : String} {ls : Array Slot} {rest : List Value} {D : va_G} {tc : Nat → ClassId} {A : Nat → Prop} {a : Nat} {w : gW}
/-- what stands at a method's entry, and through its walk -/
def gE (p : Program) (l : Launch) (s : State) (m : MethodId) (args : Array Value) (meth : Method) (c : Code) (cc : ByteArray) (nL : Nat) (own : String) (D : va_G) (tc : Nat → ClassId) (A : Nat → Prop) : Prop :=
  p.tables.exec = Jvm.exec ∧ c.code = cc ∧ c.maxLocals = nL ∧ s.vm.findClass own = some m.cls ∧ (∀ w ∈ gT, w.before args s = true) ∧ va_K D gCl (gTy tc) s ∧ gX A s s.heap ∧ (∀ q, s.heap.size ≤ q → A q) ∧ meth.locks = false
theorem gX_warm {H1 : Heap} {U : State} (h : gX A s s.heap) (hS : va_S A s.heap H1 locs) (hU : U.heap = H1) (hW : s.WarmedH U.vm) : gX A U U.heap := by
  obtain ⟨h5, h6, h7, h8, h9, h10, h11, h12, h13⟩ := h
  have hk : ∀ q : Nat, q < s.heap.size → ¬ A q → U.heap[q]? = s.heap[q]? := by rw [hU]; exact hS.2.1
  exact ⟨vx_Zq.moved hW.alike (vx_Zq.kept h5 hk), vx_Zq.moved hW.alike (vx_Zq.kept h6 hk), fun q hq => by obtain ⟨sa, h⟩ := h7 q hq; exact ⟨sa, vk_R.warm hW h⟩,
    fun C hC => va_AO.moved hW.alike (h8 C hC), fun q hq => va_Nc.moved hW.alike (h9 q hq), fun E hE => va_Nw.warmC hW (h10 E hE), fun q hq => va_Nw.warmF hW (h11 q hq), fun q hq => va_Nw.warmM hW (h12 q hq), fun x hx => va_Nw.warmD hW (h13 x hx)⟩
theorem gB_at (hE : gE p l s m args meth c cc nL own D tc A) (hG : gS D A s.heap w H locs) : ∀ U : State, U.heap = H → s.WarmedH U.vm → gB D tc A w U := by
  intro U hU hW
  obtain ⟨-, -, -, -, -, hK, hX, hA, -⟩ := hE
  obtain ⟨h1, h2, h3⟩ := hG
  exact ⟨by rw [hU]; exact h1, h2, fun q hq => hA q (Nat.le_trans h3.1 (by rw [hU] at hq; exact hq)), va_K.moved hW.alike hK, gX_warm hX h3 hU hW⟩
/-! fields -/
theorem g_get (hE : gE p l s m args meth c cc nL own D tc A) (hG : gS D A s.heap w H locs) {k0 ci : Nat} {fs : List Value} (he : w k0 = some (a, .inr (ci, fs))) {C : String} {T : u_T} {N index : Nat} (hc : gCl[ci]? = some (C, T, N)) (hin : ∀ w ∈ u_ws C T N, w ∈ gT) (k : Nat) (hk : k < N) (hlink : Cond.fieldLink own index (T k).1 (T k).2.1 (T k).2.2.1 ∈ gT) {v : Value} (hv : fs[k]? = some v) (hdg : decode cc pc = .ok (.getfield index, 3))
    (kk : W p l e R s m args below meth c H locs cells slots Q (F0 m (pc + 3) ls (v :: rest))) : W p l e R s m args below meth c H locs cells slots Q (F0 m pc ls (.ref a :: rest)) :=
  va_get hE.1 hE.2.1 hE.2.2.2.2.1 hin hE.2.2.2.1 hE.2.2.2.2.2.1 (gAt_one hG.1 he) 0 rfl hc k hk (hE.2.2.2.2.1 _ hlink) (fun _ h => h) hv hdg kk
theorem g_getN (hE : gE p l s m args meth c cc nL RX5 D tc A) (hG : gS D A s.heap w H locs) {k0 ci : Nat} {fs : List Value} (he : w k0 = some (a, .inr (ci, fs))) {C : String} {T : u_T} {N index : Nat} (hc : gCl[ci]? = some (C, T, N)) (hin : ∀ w ∈ u_ws C T N, w ∈ gT) (k : Nat) (hk : k < N) (hlink : (index, (T k).1, (T k).2.1, (T k).2.2.1) ∈ gFn) {v : Value} (hv : fs[k]? = some v) (hdg : decode cc pc = .ok (.getfield index, 3))
    (kk : W p l e R s m args below meth c H locs cells slots Q (F0 m (pc + 3) ls (v :: rest))) : W p l e R s m args below meth c H locs cells slots Q (F0 m pc ls (.ref a :: rest)) :=
  va_getN hE.1 hE.2.1 hE.2.2.2.2.1 hin hE.2.2.2.1 hE.2.2.2.2.2.1 (gAt_one hG.1 he) 0 rfl hc k hk (va_Nw.use (A := args) rfl (hE.2.2.2.2.2.2.1.2.2.2.2.2.2.1 _ hlink)) (fun _ h => h) hv hdg kk
theorem g_put (hE : gE p l s m args meth c cc nL own D tc A) (hG : gS D A s.heap w H locs) {k0 ci : Nat} {fs : List Value} (he : w k0 = some (a, .inr (ci, fs))) {C : String} {T : u_T} {N index : Nat} (hc : gCl[ci]? = some (C, T, N)) (hin : ∀ w ∈ u_ws C T N, w ∈ gT) (ty0 : Nat → FieldType) (hty : ∀ k, k < N → parseFieldDescriptor (T k).2.2.1 = some (ty0 k)) (hnm : ∀ a, a < N → ∀ b, b < N → a ≠ b → (T a).2.1 ≠ (T b).2.1)
    (k : Nat) (hk : k < N) (hlink : Cond.fieldLink own index (T k).1 (T k).2.1 (T k).2.2.1 ∈ gT) (hfin : (T k).2.2.2 = false) {v : Value} (hn : narrow (ty0 k) v = v) (hfit : fits (ty0 k) v = true) (hl : k < fs.length) (hdg : decode cc pc = .ok (.putfield index, 3))
    (kk : ∀ (H1 : Heap) (locs1 : List Loc) (w1 : gW), w1 = gU w k0 (a, .inr (ci, fs.set k v)) → gS D A s.heap w1 H1 locs1 → W p l e R s m args below meth c H1 locs1 cells slots Q (F0 m (pc + 3) ls rest)) : W p l e R s m args below meth c H locs cells slots Q (F0 m pc ls (v :: .ref a :: rest)) := by
  obtain ⟨hexec, hb, -, hown, hts, hK, -, -, -⟩ := hE
  have hap := va_apart (own := own) hts hin ty0 hty hnm hK hc
  obtain ⟨r, h1, cell, q1, q2, q3, q4⟩ := hG.1 k0 _ he
  have hr : r = (C, T, N) := Option.some.inj (h1.symm.trans hc)
  subst hr
  obtain ⟨hS, hfc, kC, hkC, hkind⟩ := hK.1 ci _ hc
  obtain ⟨cf, kf, fi, f, hi, hsl⟩ := hS k hk
  have hlay := hts _ (hin _ (u_in_lay hk))
  unfold u_lay at hlay
  rw [if_neg (by rw [hfin]; decide)] at hlay
  have hst := (u_facts hfc hkC (u_lays hts hin hk) hi).1
  have h6 := u_store hfc hkC hkind hlay hi (hty k hk) hn hfit
  refine W.putK hexec hb (f := f) ⟨hown, hts _ hlink, ⟨_, _, _, hi⟩, hst⟩ (by rw [q2]; exact h6) q1 q3 (by rw [hsl]; exact k2_hasslot (q4 k hk)) rfl rfl hdg fun H' e1 e2 e3 => ?_
  rw [hsl] at e1 ⊢
  exact kk H' _ _ rfl (hG.set he ⟨_, hc, t_OB.to (V := updV (vp_V fs) k v) ⟨_, e1, q2, q3, t_set q4 hap hk v⟩ (fun j _ => vp_updV_set hl v j)⟩ e2 e3)
theorem g_putN (hE : gE p l s m args meth c cc nL RX5 D tc A) (hG : gS D A s.heap w H locs) {k0 ci : Nat} {fs : List Value} (he : w k0 = some (a, .inr (ci, fs))) {C : String} {T : u_T} {N index : Nat} (hc : gCl[ci]? = some (C, T, N)) (hin : ∀ w ∈ u_ws C T N, w ∈ gT) (ty0 : Nat → FieldType) (hty : ∀ k, k < N → parseFieldDescriptor (T k).2.2.1 = some (ty0 k)) (hnm : ∀ a, a < N → ∀ b, b < N → a ≠ b → (T a).2.1 ≠ (T b).2.1)
    (k : Nat) (hk : k < N) (hlink : (index, (T k).1, (T k).2.1, (T k).2.2.1) ∈ gFn) (hfin : (T k).2.2.2 = false) {v : Value} (hn : narrow (ty0 k) v = v) (hfit : fits (ty0 k) v = true) (hl : k < fs.length) (hdg : decode cc pc = .ok (.putfield index, 3))
    (kk : ∀ (H1 : Heap) (locs1 : List Loc) (w1 : gW), w1 = gU w k0 (a, .inr (ci, fs.set k v)) → gS D A s.heap w1 H1 locs1 → W p l e R s m args below meth c H1 locs1 cells slots Q (F0 m (pc + 3) ls rest)) : W p l e R s m args below meth c H locs cells slots Q (F0 m pc ls (v :: .ref a :: rest)) := by
  obtain ⟨hexec, hb, -, hown, hts, hK, hX, -, -⟩ := hE
  have hap := va_apart (own := RX5) hts hin ty0 hty hnm hK hc
  obtain ⟨r, h1, cell, q1, q2, q3, q4⟩ := hG.1 k0 _ he
  have hr : r = (C, T, N) := Option.some.inj (h1.symm.trans hc)
  subst hr
  obtain ⟨hS, hfc, kC, hkC, hkind⟩ := hK.1 ci _ hc
  obtain ⟨cf, kf, fi, f, hi, hsl⟩ := hS k hk
  have hlay := hts _ (hin _ (u_in_lay hk))
  unfold u_lay at hlay
  rw [if_neg (by rw [hfin]; decide)] at hlay
  have hst := (u_facts hfc hkC (u_lays hts hin hk) hi).1
  have h6 := u_store hfc hkC hkind hlay hi (hty k hk) hn hfit
  refine va_WputK hexec hb (f := f) hown (va_Nw.use (A := args) rfl (hX.2.2.2.2.2.2.1 _ hlink)) hi hst (by rw [q2]; exact h6) q1 q3 (by rw [hsl]; exact k2_hasslot (q4 k hk)) rfl rfl hdg fun H' e1 e2 e3 => ?_
  rw [hsl] at e1 ⊢
  exact kk H' _ _ rfl (hG.set he ⟨_, hc, t_OB.to (V := updV (vp_V fs) k v) ⟨_, e1, q2, q3, t_set q4 hap hk v⟩ (fun j _ => vp_updV_set hl v j)⟩ e2 e3)
theorem g_putF (hE : gE p l s m args meth c cc nL own D tc A) (hG : gS D A s.heap w H locs) {k0 ci : Nat} {fs : List Value} (he : w k0 = some (a, .inr (ci, fs))) {C : String} {T : u_T} {N index : Nat} (hc : gCl[ci]? = some (C, T, N)) (hin : ∀ w ∈ u_ws C T N, w ∈ gT) (ty0 : Nat → FieldType) (hty : ∀ k, k < N → parseFieldDescriptor (T k).2.2.1 = some (ty0 k)) (hnm : ∀ a, a < N → ∀ b, b < N → a ≠ b → (T a).2.1 ≠ (T b).2.1)
    (k : Nat) (hk : k < N) (hlink : Cond.fieldLink own index (T k).1 (T k).2.1 (T k).2.2.1 ∈ gT) (hfin : (T k).2.2.2 = true) (hin2 : meth.name = "<init>") (hdecl : (T k).1 = own) {v : Value} (hn : narrow (ty0 k) v = v) (hfit : fits (ty0 k) v = true) (hl : k < fs.length) (hdg : decode cc pc = .ok (.putfield index, 3))
    (kk : ∀ (H1 : Heap) (locs1 : List Loc) (w1 : gW), w1 = gU w k0 (a, .inr (ci, fs.set k v)) → gS D A s.heap w1 H1 locs1 → W p l e R s m args below meth c H1 locs1 cells slots Q (F0 m (pc + 3) ls rest)) : W p l e R s m args below meth c H locs cells slots Q (F0 m pc ls (v :: .ref a :: rest)) := by
  obtain ⟨hexec, hb, -, hown, hts, hK, -, -, -⟩ := hE
  have hap := va_apart (own := own) hts hin ty0 hty hnm hK hc
  obtain ⟨r, h1, cell, q1, q2, q3, q4⟩ := hG.1 k0 _ he
  have hr : r = (C, T, N) := Option.some.inj (h1.symm.trans hc)
  subst hr
  obtain ⟨hS, hfc, kC, hkC, hkind⟩ := hK.1 ci _ hc
  obtain ⟨cf, kf, fi, f, hi, hsl⟩ := hS k hk
  have hlay := hts _ (hin _ (u_in_lay hk))
  unfold u_lay at hlay
  rw [if_pos hfin] at hlay
  have hst := (u_facts hfc hkC (u_lays hts hin hk) hi).1
  have hcf : m.cls = cf := by
    obtain ⟨_, _, c', _, _, _, -, -, hf', -, -, -, hown2, -⟩ := Cond.laysFinal_spec hlay
    have e1 : c' = cf := by have := hi.symm.trans hf'; simp at this; exact this.1.symm
    rw [hdecl] at hown2
    rw [← e1]; exact Option.some.inj (hown.symm.trans hown2)
  have h6 := u_fits hfc hkC hkind (Or.inr hlay) hi (hty k hk) hn hfit
  refine W.putFinK hexec hb hown (hts _ hlink) hi hst hcf hin2 (by rw [q2]; exact h6) q1 q3 (by rw [hsl]; exact k2_hasslot (q4 k hk)) rfl rfl hdg fun H' e1 e2 e3 => ?_
  rw [hsl] at e1 ⊢
  exact kk H' _ _ rfl (hG.set he ⟨_, hc, t_OB.to (V := updV (vp_V fs) k v) ⟨_, e1, q2, q3, t_set q4 hap hk v⟩ (fun j _ => vp_updV_set hl v j)⟩ e2 e3)
/-! arrays -/
theorem g_iald (hE : gE p l s m args meth c cc nL own D tc A) (hG : gS D A s.heap w H locs) {k0 n : Nat} {f : Nat → Int32} (he : w k0 = some (a, .inl (tc 0, n, .inl f))) {i : Int32} (hin : vp_in i n) (hdg : decode cc pc = .ok (.iaload, 1))
    (kk : W p l e R s m args below meth c H locs cells slots Q (F0 m (pc + 1) ls (.int (f i.toNatClampNeg) :: rest))) : W p l e R s m args below meth c H locs cells slots Q (F0 m pc ls (.int i :: .ref a :: rest)) :=
  va_iald hE.1 hE.2.1 hE.2.2.2.2.2.1 (gAt_one hG.1 he) 0 0 rfl rfl hin hdg kk
theorem g_lald (hE : gE p l s m args meth c cc nL own D tc A) (hG : gS D A s.heap w H locs) {k0 n : Nat} {f : Nat → Int64} (he : w k0 = some (a, .inl (tc 1, n, .inr (.inl f)))) {i : Int32} (hin : vp_in i n) (hdg : decode cc pc = .ok (.laload, 1))
    (kk : W p l e R s m args below meth c H locs cells slots Q (F0 m (pc + 1) ls (.long (f i.toNatClampNeg) :: rest))) : W p l e R s m args below meth c H locs cells slots Q (F0 m pc ls (.int i :: .ref a :: rest)) :=
  va_lald hE.1 hE.2.1 hE.2.2.2.2.2.1 (gAt_one hG.1 he) 0 1 rfl rfl hin hdg kk
theorem g_aald (hE : gE p l s m args meth c cc nL own D tc A) (hG : gS D A s.heap w H locs) {k0 n t0 : Nat} {cA : ClassId} {C : String} {f : Nat → Option Nat} (he : w k0 = some (a, .inl (cA, n, .inr (.inr (.inr (.inr f)))))) (ht : (gTy tc)[t0]? = some (cA, .object C)) {i : Int32} (hin : vp_in i n) (hdg : decode cc pc = .ok (.aaload, 1))
    (kk : W p l e R s m args below meth c H locs cells slots Q (F0 m (pc + 1) ls (va_rf (f i.toNatClampNeg) :: rest))) : W p l e R s m args below meth c H locs cells slots Q (F0 m pc ls (.int i :: .ref a :: rest)) :=
  va_aldq hE.1 hE.2.1 hE.2.2.2.2.2.1 (gAt_one hG.1 he) 0 t0 rfl ht hin hdg kk
theorem g_alen (hE : gE p l s m args meth c cc nL own D tc A) (hG : gS D A s.heap w H locs) {k0 t0 : Nat} {cA : ClassId} {x : vp_A} (he : w k0 = some (a, .inl (cA, x))) {ty : FieldType} (ht : (gTy tc)[t0]? = some (cA, ty)) {v : Int32} (hv : Int32.ofNat x.1 = v) (hdg : decode cc pc = .ok (.arraylength, 1))
    (kk : W p l e R s m args below meth c H locs cells slots Q (F0 m (pc + 1) ls (.int v :: rest))) : W p l e R s m args below meth c H locs cells slots Q (F0 m pc ls (.ref a :: rest)) :=
  va_alen hE.1 hE.2.1 hE.2.2.2.2.2.1 (gAt_one hG.1 he) 0 t0 rfl ht hv hdg kk
theorem g_iast (hE : gE p l s m args meth c cc nL own D tc A) (hG : gS D A s.heap w H locs) {k0 n : Nat} {f : Nat → Int32} (he : w k0 = some (a, .inl (tc 0, n, .inl f))) {i x : Int32} (hin : vp_in i n) (hdg : decode cc pc = .ok (.iastore, 1))
    (kk : ∀ (H1 : Heap) (locs1 : List Loc) (w1 : gW), w1 = gU w k0 (a, .inl (tc 0, n, .inl (upd f i.toNatClampNeg x))) → gS D A s.heap w1 H1 locs1 → W p l e R s m args below meth c H1 locs1 cells slots Q (F0 m (pc + 1) ls rest)) : W p l e R s m args below meth c H locs cells slots Q (F0 m pc ls (.int x :: .int i :: .ref a :: rest)) := by
  obtain ⟨hexec, hb, -, hown, hts, hK, -, -, -⟩ := hE
  refine W.iast hexec hb (hG.1 k0 _ he) ((hK.2 0 _ rfl).1 n (fun j => .int (f j))) (fun q => by cases q) (by show ¬ (i < 0 ∨ (arrV _ _ _).slots.size ≤ _); rw [arrV_size]; exact hin) rfl rfl hdg fun H1 e z oq => ?_
  refine kk H1 _ _ rfl (hG.set he ?_ z oq)
  show H1[a]? = some (vp_cell _ _)
  rw [e]
  rw [vp_cell_i, vp_cell_i, arrV_store]
  congr 2
  funext q
  by_cases hq : q = i.toNatClampNeg
  · subst hq
    simp [updV, upd]
  · simp [updV, upd, hq]
theorem g_last (hE : gE p l s m args meth c cc nL own D tc A) (hG : gS D A s.heap w H locs) {k0 n : Nat} {f : Nat → Int64} (he : w k0 = some (a, .inl (tc 1, n, .inr (.inl f)))) {i : Int32} {x : Int64} (hin : vp_in i n) (hdg : decode cc pc = .ok (.lastore, 1))
    (kk : ∀ (H1 : Heap) (locs1 : List Loc) (w1 : gW), w1 = gU w k0 (a, .inl (tc 1, n, .inr (.inl (vp_updL f i.toNatClampNeg x)))) → gS D A s.heap w1 H1 locs1 → W p l e R s m args below meth c H1 locs1 cells slots Q (F0 m (pc + 1) ls rest)) : W p l e R s m args below meth c H locs cells slots Q (F0 m pc ls (.long x :: .int i :: .ref a :: rest)) := by
  obtain ⟨hexec, hb, -, hown, hts, hK, -, -, -⟩ := hE
  refine W.last hexec hb (hG.1 k0 _ he) ((hK.2 1 _ rfl).1 n (fun j => .long (f j))) (fun q => by cases q) (by show ¬ (i < 0 ∨ (arrV _ _ _).slots.size ≤ _); rw [arrV_size]; exact hin) rfl rfl hdg fun H1 e z oq => ?_
  refine kk H1 _ _ rfl (hG.set he ?_ z oq)
  show H1[a]? = some (vp_cell _ _)
  rw [e]
  rw [vp_cell_l, vp_cell_l, arrV_store]
  congr 2
  funext q
  by_cases hq : q = i.toNatClampNeg
  · subst hq
    simp [updV, vp_updL]
  · simp [updV, vp_updL, hq]
theorem g_aast (hE : gE p l s m args meth c cc nL own D tc A) (hG : gS D A s.heap w H locs) {k0 k1 n t0 v ci : Nat} {cA : ClassId} {r : vw_C} {vs : List Value} {f : Nat → Option Nat} (he : w k0 = some (a, .inl (cA, n, .inr (.inr (.inr (.inr f)))))) (ht : (gTy tc)[t0]? = some (cA, .object r.1)) (hv : w k1 = some (v, .inr (ci, vs))) (hc : gCl[ci]? = some r) {i : Int32} (hin : vp_in i n) (hdg : decode cc pc = .ok (.aastore, 1))
    (kk : ∀ (H1 : Heap) (locs1 : List Loc) (w1 : gW), w1 = gU w k0 (a, .inl (cA, n, .inr (.inr (.inr (.inr (va_up f i.toNatClampNeg (some v))))))) → gS D A s.heap w1 H1 locs1 → W p l e R s m args below meth c H1 locs1 cells slots Q (F0 m (pc + 1) ls rest)) : W p l e R s m args below meth c H locs cells slots Q (F0 m pc ls (.ref v :: .int i :: .ref a :: rest)) := by
  obtain ⟨hexec, hb, -, hown, hts, hK, -, -, -⟩ := hE
  have hlt : i.toNatClampNeg < n := Nat.not_le.mp fun q => hin (Or.inr q)
  have h0 : ¬ i < 0 := fun q => hin (Or.inl q)
  obtain ⟨r', hr', cellV, g1, g2, g3, -⟩ := hG.1 k1 _ hv
  have hcls := (hK.1 ci r hc).2
  obtain ⟨kA, comp, j1, j2, j3, -⟩ := (hK.2 t0 _ ht).2
  have hcomp : comp = D.1 ci := Option.some.inj (j3.symm.trans hcls.1)
  subst hcomp
  obtain ⟨kC, hkC, -⟩ := hcls.2
  refine W.aast hexec hb (hG.1 k0 _ he) (fun q h => by cases h) (fun h => by cases h) j1 j2 rfl hkC ⟨h0, by show _ < (arrV _ _ _).slots.size; rw [arrV_size]; exact hlt⟩ g1 (fun q h => by rw [g3] at h; cases h) (by rw [g2]; exact hkC) (by rw [g2]; exact va_assign hcls) rfl rfl hdg fun H1 e z oq => ?_
  refine kk H1 _ _ rfl (hG.set he ?_ z oq)
  show H1[a]? = some (vp_cell _ _)
  rw [e]
  rw [vp_cell_q, vp_cell_q, arrV_store]
  congr 2
  funext q
  by_cases hq : q = i.toNatClampNeg
  · subst hq
    simp [updV, va_up, va_rf]
  · simp [updV, va_up, hq]
/-! new things -/
theorem g_new (hE : gE p l s m args meth c cc nL own D tc A) (hG : gS D A s.heap w H locs) {ci : Nat} {C : String} {T : u_T} {N index : Nat} (hc : gCl[ci]? = some (C, T, N)) (hin : ∀ w ∈ u_ws C T N, w ∈ gT) (ty0 : Nat → FieldType) (hty : ∀ k, k < N → parseFieldDescriptor (T k).2.2.1 = some (ty0 k)) (hcl : Cond.classLink own index C ∈ gT) (hinst : Cond.instantiable C N ∈ gT) (hini : Cond.initialized C ∈ gT) {fs : List Value} (hfs : ∀ j, j < N → defaultValue (ty0 j) = vp_V fs j) (hcells : cells + 1 ≤ R.cells) (hslots : slots + N ≤ R.slots) (k0 : Nat) (hk0 : w k0 = none) (hdg : decode cc pc = .ok (.new index, 3))
    (kk : ∀ (q : Nat) (H1 : Heap) (w1 : gW), w1 = gU w k0 (q, .inr (ci, fs)) → gS D A s.heap w1 H1 locs → W p l e R s m args below meth c H1 locs (cells + 1) (slots + N) Q (F0 m (pc + 3) ls (.ref q :: rest))) : W p l e R s m args below meth c H locs cells slots Q (F0 m pc ls rest) := by
  obtain ⟨hexec, hb, -, hown, hts, hK, -, hA, -⟩ := hE
  have hKn := hK.1 ci _ hc
  refine W.newcK hexec hb hown (hts _ hcl) (hts _ hinst) (hts _ hini) rfl hdg hcells hslots hKn.2.1 rfl fun H1 kC hkC e1 z1 o1 => ?_
  exact kk H.size H1 _ rfl (hG.push hk0 hA ⟨_, hc, (u_born ty0 hts hin hKn hkC e1 hty).to hfs⟩ z1 o1)
theorem g_newi (hE : gE p l s m args meth c cc nL own D tc A) (hG : gS D A s.heap w H locs) {atype : ArrayType} {t0 : Nat} {ty : FieldType} {a0 : vp_A} (harr : Cond.arrayClass (newarray.typeOf atype) ∈ gT) (hty : newarray.typeOf atype = ty) (ht : (gTy tc)[t0]? = some (tc t0, ty)) (hra : ∀ U cA, va_RA U cA ty → U.vm.findClass ("[" ++ ty.toString) = some cA) {n : Int32} {N' : Nat} (ha : ∀ cA : ClassId, vp_cell cA a0 = arrV cA N' (fun _ => defaultValue ty)) (hn : ¬ n < 0) (hN : n.toNatClampNeg = N') (hbytes : N' * componentBytes ty ≤ 536870912) (hcells : cells + 1 ≤ R.cells) (hslots : slots + N' ≤ R.slots) (k0 : Nat) (hk0 : w k0 = none) (hdg : decode cc pc = .ok (.newarray atype, 2))
    (kk : ∀ (q : Nat) (H1 : Heap) (w1 : gW), w1 = gU w k0 (q, .inl (tc t0, a0)) → gS D A s.heap w1 H1 locs → W p l e R s m args below meth c H1 locs (cells + 1) (slots + N') Q (F0 m (pc + 2) ls (.ref q :: rest))) : W p l e R s m args below meth c H locs cells slots Q (F0 m pc ls (.int n :: rest)) := by
  obtain ⟨hexec, hb, -, hown, hts, hK, -, hA, -⟩ := hE
  subst hty
  refine va_newaK hexec hb (hts _ harr) rfl hdg rfl hn hN hbytes hcells hslots rfl fun H1 cA e1 z1 o1 hAr hNm => ?_
  have hc : cA = tc t0 := Option.some.inj (hNm.symm.trans (hra s _ (hK.2 t0 _ ht).2))
  subst hc
  refine kk H.size H1 _ rfl (hG.push hk0 hA ?_ z1 o1)
  show H1[H.size]? = some (vp_cell _ _)
  rw [ha]
  exact e1
theorem g_newq (hE : gE p l s m args meth c cc nL own D tc A) (hG : gS D A s.heap w H locs) {C : String} {index t0 : Nat} (hcl : Cond.classLink own index C ∈ gT) (hr : C ∈ gRs) (ht : (gTy tc)[t0]? = some (tc t0, .object C)) {n : Int32} {N' : Nat} (hn : ¬ n < 0) (hN : n.toNatClampNeg = N') (hbytes : N' * 4 ≤ 536870912) (hcells : cells + 1 ≤ R.cells) (hslots : slots + N' ≤ R.slots) (k0 : Nat) (hk0 : w k0 = none) (hdg : decode cc pc = .ok (.anewarray index, 3))
    (kk : ∀ (q : Nat) (H1 : Heap) (w1 : gW), w1 = gU w k0 (q, .inl (tc t0, N', .inr (.inr (.inr (.inr (fun _ => none)))))) → gS D A s.heap w1 H1 locs → W p l e R s m args below meth c H1 locs (cells + 1) (slots + N') Q (F0 m (pc + 3) ls (.ref q :: rest))) : W p l e R s m args below meth c H locs cells slots Q (F0 m pc ls (.int n :: rest)) := by
  obtain ⟨hexec, hb, -, hown, hts, hK, hX, hA, -⟩ := hE
  subst hN
  refine W.anew hexec hb hown (hts _ hcl) (va_AO.use (hX.2.2.2.1 C hr)) rfl hdg rfl hn hbytes hcells hslots fun cA kA comp f1 f2 f3 f4 => ?_
  generalize hH1 : H.push ({ cls := cA, slots := Array.replicate n.toNatClampNeg .null, vm := .none } : Cell) = H1
  have z1 : H1.size = H.size + 1 := by rw [← hH1, Array.size_push]
  have e1 : H1[H.size]? = some (arrV cA n.toNatClampNeg (fun _ => .null)) := by rw [← hH1, Array.getElem?_push_size, ← arrV_new]
  have o1 : ∀ q : Nat, q < H.size → H1[q]? = H[q]? := fun q hq => by rw [← hH1, Array.getElem?_push, if_neg (Nat.ne_of_lt hq)]
  obtain ⟨kA2, comp2, g1, g2, g3, g4⟩ := (hK.2 t0 _ ht).2
  have hc : cA = tc t0 := Option.some.inj (f1.symm.trans g4)
  subst hc
  refine kk H.size H1 _ rfl (hG.push hk0 hA ?_ z1 o1)
  show H1[H.size]? = some (vp_cell _ _)
  rw [vp_cell_q]
  exact e1
/-! ends -/
theorem gQ_at {post : Option Value → gW → Prop} {v : Option Value} (hG : gS D A s.heap w H locs) (hp : post v w) {ar : Array Value} : ∀ t : State, t.heap = H → s.WarmedH t.vm → gQ D A post ar s (.returned v) t := fun t ht _ => ⟨⟨v, w, rfl, hp, by rw [ht]; exact hG.1, hG.2.1⟩, hG.2.2.F ht⟩
theorem g_iret {post : Option Value → gW → Prop} {XC : String → State → State → Prop} {mc ms : Nat} {v : Int32} (hE : gE p l s m args meth c cc nL own D tc A) (hG : gS D A s.heap w H locs) (hr : meth.sig.returnType = some .int) (hc : cells ≤ mc) (hs : slots ≤ ms) (hdg : decode cc pc = .ok (.ireturn, 1)) (hp : post (some (.int v)) w) : W p l e R s m args below meth c H locs cells slots (vx_MQ below (gQ D A post) XC args s mc ms A) (F0 m pc ls [.int v]) :=
  vx_ret (W.widen hc hs (W.iret hE.1 hE.2.1 hr (gQ_at hG hp) hG.2.2.2.2 hdg hE.2.2.2.2.2.2.2.2))
theorem g_zret {post : Option Value → gW → Prop} {XC : String → State → State → Prop} {mc ms : Nat} {v : Int32} (hE : gE p l s m args meth c cc nL own D tc A) (hG : gS D A s.heap w H locs) (hr : meth.sig.returnType = some .boolean) (hn : narrow .boolean (.int v) = .int v) (hc : cells ≤ mc) (hs : slots ≤ ms) (hdg : decode cc pc = .ok (.ireturn, 1)) (hp : post (some (.int v)) w) : W p l e R s m args below meth c H locs cells slots (vx_MQ below (gQ D A post) XC args s mc ms A) (F0 m pc ls [.int v]) :=
  vx_ret (W.widen hc hs (W.zret hE.1 hE.2.1 hr hn (gQ_at hG hp) hG.2.2.2.2 hdg hE.2.2.2.2.2.2.2.2))
theorem g_lret {post : Option Value → gW → Prop} {XC : String → State → State → Prop} {mc ms : Nat} {v : Int64} (hE : gE p l s m args meth c cc nL own D tc A) (hG : gS D A s.heap w H locs) (hr : meth.sig.returnType = some .long) (hc : cells ≤ mc) (hs : slots ≤ ms) (hdg : decode cc pc = .ok (.lreturn, 1)) (hp : post (some (.long v)) w) : W p l e R s m args below meth c H locs cells slots (vx_MQ below (gQ D A post) XC args s mc ms A) (F0 m pc ls [.long v]) :=
  vx_ret (W.widen hc hs (W.lret hE.1 hE.2.1 hr (gQ_at hG hp) hG.2.2.2.2 hdg hE.2.2.2.2.2.2.2.2))
theorem g_vret {post : Option Value → gW → Prop} {XC : String → State → State → Prop} {mc ms : Nat} (hE : gE p l s m args meth c cc nL own D tc A) (hG : gS D A s.heap w H locs) (hr : meth.sig.returnType = none) (hc : cells ≤ mc) (hs : slots ≤ ms) (hdg : decode cc pc = .ok (.return_, 1)) (hp : post none w) : W p l e R s m args below meth c H locs cells slots (vx_MQ below (gQ D A post) XC args s mc ms A) (F0 m pc ls []) :=
  vx_ret (W.widen hc hs (W.vret hE.1 hE.2.1 hr (gQ_at hG hp) hG.2.2.2.2 hdg hE.2.2.2.2.2.2.2.2))
theorem g_aret {post : Option Value → gW → Prop} {XC : String → State → State → Prop} {mc ms : Nat} {v : Value} {C : String} (hE : gE p l s m args meth c cc nL own D tc A) (hG : gS D A s.heap w H locs) (hr : meth.sig.returnType = some (.object C)) (hv : v = .null ∨ ∃ a, v = .ref a) (hc : cells ≤ mc) (hs : slots ≤ ms) (hdg : decode cc pc = .ok (.areturn, 1)) (hp : post (some v) w) : W p l e R s m args below meth c H locs cells slots (vx_MQ below (gQ D A post) XC args s mc ms A) (F0 m pc ls [v]) :=
  vx_ret (W.widen hc hs (W.aret hE.1 hE.2.1 hr (Or.inl ⟨_, rfl⟩) hv (gQ_at hG hp) hG.2.2.2.2 hdg hE.2.2.2.2.2.2.2.2))
/-! calls -/
/-- behind a call of ours that may throw -/
theorem g_back {post : Option Value → gW → Prop} {thr : String → Prop} {mc ms : Nat} {st0 : List Value} {ar : Array Value} (hr : vx_Run p l e R s m args below meth c H locs cells slots mc ms (F0 m pc ls st0) rest (gQ D A post ar) (gXC D A w thr) A) (hG : gS D A s.heap w H locs)
    (kx : ∀ (E : String) (ce : Cell) (q9 : Addr) (H1 : Heap) (locs1 : List Loc), thr E → gS D A s.heap w H1 locs1 → H1[q9]? = some ce → ce.vm = .none → s.vm.findClass E = some ce.cls → vx_W p l e R s m args below meth c H1 locs1 (cells + mc) (slots + ms) Q (F0 m pc ls rest) q9)
    (kk : ∀ (v : Option Value) (w1 : gW) (H1 : Heap) (locs1 : List Loc), post v w1 → gS D A s.heap w1 H1 locs1 → W p l e R s m args below meth c H1 locs1 (cells + mc) (slots + ms) Q (F0 m (pc + 3) ls (v.toList ++ rest))) : W p l e R s m args below meth c H locs cells slots Q (F0 m pc ls st0) := by
  intro T hT X
  rcases hr T hT X with ⟨v, st₀, t, T', L, h0, X', hL, e1, e2, ⟨⟨v2, w1, hv, hp, hat, hdj⟩, hF⟩, st⟩ | ⟨q, st₀, t, T', L, E, ce, h0, X', hL, e1, e2, ⟨hp, hat, hF⟩, hce, hcv, hcl, st⟩
  · cases hv
    obtain ⟨k1, k2, k3⟩ := vx_keep h0 e1 hG.2.2 (fun _ _ h => h) (fun _ h => h) hL hF
    obtain ⟨t2, a1, b1⟩ := kk v w1 T'.heap (locs ++ L) hp ⟨by rw [e1]; exact hat, hdj, k3⟩ T' rfl X'
    exact ⟨t2, st t2 a1, b1⟩
  · obtain ⟨k1, k2, k3⟩ := vx_keep h0 e1 hG.2.2 (fun _ _ h => h) (fun _ h => h) hL hF
    obtain ⟨t2, a1, b1⟩ := kx E ce q T'.heap (locs ++ L) hp ⟨by rw [e1]; exact hat, hG.2.1, k3⟩ (by rw [e1]; exact hce) hcv hcl T' rfl X'
    exact ⟨t2, st.trans a1, b1⟩
theorem g_backN {post : Option Value → gW → Prop} {mc ms : Nat} {st0 : List Value} {ar : Array Value} (hr : va_Run p l e R s m args below meth c H locs cells slots mc ms (F0 m pc ls st0) rest (gQ D A post ar) A) (hG : gS D A s.heap w H locs)
    (kk : ∀ (v : Option Value) (w1 : gW) (H1 : Heap) (locs1 : List Loc), post v w1 → gS D A s.heap w1 H1 locs1 → W p l e R s m args below meth c H1 locs1 (cells + mc) (slots + ms) Q (F0 m (pc + 3) ls (v.toList ++ rest))) : W p l e R s m args below meth c H locs cells slots Q (F0 m pc ls st0) := by
  intro T hT X
  obtain ⟨v, st₀, t, T', L, h0, X', hL, e1, e2, ⟨⟨v2, w1, hv, hp, hat, hdj⟩, hF⟩, st⟩ := hr T hT X
  cases hv
  obtain ⟨k1, k2, k3⟩ := vx_keep h0 e1 hG.2.2 (fun _ _ h => h) (fun _ h => h) hL hF
  obtain ⟨t2, a1, b1⟩ := kk v w1 T'.heap (locs ++ L) hp ⟨by rw [e1]; exact hat, hdj, k3⟩ T' rfl X'
  exact ⟨t2, st t2 a1, b1⟩
theorem gFix (hE : gE p l s m args meth c cc nL own D tc A) : CallFix p m c cc nL s args gT own := ⟨hE.1, hE.2.1, hE.2.2.1, hE.2.2.2.1, hE.2.2.2.2.1⟩
theorem gPreS (hE : gE p l s m args meth c cc nL own D tc A) (hG : gS D A s.heap w H locs) {As : List Value} : PreS s H (va_Pc As (gB D tc A w)) As := ⟨gB_blind, fun U hU hW => ⟨rfl, gB_at hE hG U hU hW⟩⟩
theorem gPreV (hE : gE p l s m args meth c cc nL own D tc A) (hG : gS D A s.heap w H locs) {As : List Value} {b k0 ci N : Nat} {fs : List Value} {C : String} {T : u_T} (he : w k0 = some (b, .inr (ci, fs))) (hc : gCl[ci]? = some (C, T, N)) : PreV s H C b (va_Pc (.ref b :: As) (gB D tc A w)) As :=
  ⟨gB_blind, va_recv (q0 := 0) hE.2.2.2.2.2.1 (gAt_one hG.1 he) hc rfl, fun U hU hW => ⟨rfl, gB_at hE hG U hU hW⟩⟩
theorem gW_V {C : String} {index : Nat} {y : MethodName} {bytes : ByteArray} {nM : Nat} {ret : Option FieldType} (m1 : Cond.methodLink own index y ∈ gT) (m2 : Cond.instanceMethod y ∈ gT) (m3 : Cond.selects C y y ∈ gT) (m4 : Cond.initialized C ∈ gT) (m5 : Cond.code y bytes nM ret ∈ gT) : GoodIn gT (wsV own index C y (Cond.code y bytes nM ret :: gT)) :=
  gGood (List.forall_mem_cons.mpr ⟨m1, List.forall_mem_cons.mpr ⟨m2, List.forall_mem_cons.mpr ⟨m3, List.forall_mem_cons.mpr ⟨m4, List.forall_mem_cons.mpr ⟨m5, fun _ h => h⟩⟩⟩⟩⟩)
theorem gW_S {index : Nat} {y : MethodName} {bytes : ByteArray} {nM : Nat} {ret : Option FieldType} (m1 : Cond.methodLink own index y ∈ gT) (m2 : Cond.static y ∈ gT) (m4 : Cond.initialized y.cls ∈ gT) (m5 : Cond.code y bytes nM ret ∈ gT) : GoodIn gT (va_wsS own index y (Cond.code y bytes nM ret :: gT)) :=
  gGood (List.forall_mem_cons.mpr ⟨m1, List.forall_mem_cons.mpr ⟨m2, List.forall_mem_cons.mpr ⟨m4, List.forall_mem_cons.mpr ⟨m5, fun _ h => h⟩⟩⟩⟩)
theorem gW_I {y : MethodName} {bytes : ByteArray} {nM : Nat} {ret : Option FieldType} (m5 : Cond.code y bytes nM ret ∈ gT) : GoodIn gT (Cond.code y bytes nM ret :: gT) := gGood (List.forall_mem_cons.mpr ⟨m5, fun _ h => h⟩)
/-- what the name and the room of a callee owe -/
def gNm (y : MethodName) (n : Nat) : Prop := y.cls ≠ "java/lang/invoke/MethodHandle" ∧ y.cls ≠ "java/lang/invoke/VarHandle" ∧ (parseMethodDescriptor y.desc).map (fun d => d.parameters.length) = some n
def gRm (rm R : Room) (nM cells slots : Nat) : Prop := (rm.frames + 1 ≤ R.frames ∧ 8 + (nM + 11) + rm.locals ≤ R.locals) ∧ cells + rm.cells ≤ R.cells ∧ slots + rm.slots ≤ R.slots
theorem g_callV (hE : gE p l s m args meth c cc nL own D tc A) (hG : gS D A s.heap w H locs) (hsz : ls.size = nL) {C : String} {T : u_T} {index N n nM k0 ci b : Nat} {fs As : List Value} {y : MethodName} {bytes : ByteArray} {ret : Option FieldType} {rm : Room} {post : Option Value → gW → Prop} {thr : String → Prop} (hM : gM l y bytes nM ret rm D tc A (.ref b :: As) w post thr)
    (he : w k0 = some (b, .inr (ci, fs))) (hc : gCl[ci]? = some (C, T, N)) (m1 : Cond.methodLink own index y ∈ gT) (m2 : Cond.instanceMethod y ∈ gT) (m3 : Cond.selects C y y ∈ gT) (m4 : Cond.initialized C ∈ gT) (m5 : Cond.code y bytes nM ret ∈ gT) (hy : y.cls = C) (hn : gNm y n) (hR : gRm rm R nM cells slots) (hA : As.length = n) {st0 : List Value} (hst : st0 = As.reverse ++ .ref b :: rest) (hW : (rest.map fun v => v.category).sum ≤ 8) (hdg : decode cc pc = .ok (.invokevirtual index, 3))
    (kx : ∀ (E : String) (ce : Cell) (q9 : Addr) (H1 : Heap) (locs1 : List Loc), thr E → gS D A s.heap w H1 locs1 → H1[q9]? = some ce → ce.vm = .none → s.vm.findClass E = some ce.cls → vx_W p l e R s m args below meth c H1 locs1 (cells + rm.cells) (slots + rm.slots) Q (F0 m pc ls rest) q9)
    (kk : ∀ (v : Option Value) (w1 : gW) (H1 : Heap) (locs1 : List Loc), post v w1 → gS D A s.heap w1 H1 locs1 → W p l e R s m args below meth c H1 locs1 (cells + rm.cells) (slots + rm.slots) Q (F0 m (pc + 3) ls (v.toList ++ rest))) : W p l e R s m args below meth c H locs cells slots Q (F0 m pc ls st0) := by
  subst hst
  exact g_back (vx_runV (g := F0 m pc ls (As.reverse ++ .ref b :: rest)) (gFix hE) hM (cwV n hE.2.2.2.2.1 (gW_V m1 m2 m3 m4 m5) rfl rfl rfl ⟨hy, hn⟩ hR.1) (gPreV hE hG he hc) rfl hA hsz rfl (by show 2 * 0 + _ ≤ 8; omega) hdg hR.2) hG kx kk
theorem g_callS (hE : gE p l s m args meth c cc nL own D tc A) (hG : gS D A s.heap w H locs) (hsz : ls.size = nL) {index n nM : Nat} {As : List Value} {y : MethodName} {bytes : ByteArray} {ret : Option FieldType} {rm : Room} {post : Option Value → gW → Prop} {thr : String → Prop} (hM : gM l y bytes nM ret rm D tc A As w post thr)
    (m1 : Cond.methodLink own index y ∈ gT) (m2 : Cond.static y ∈ gT) (m4 : Cond.initialized y.cls ∈ gT) (m5 : Cond.code y bytes nM ret ∈ gT) (hn : gNm y n) (hR : gRm rm R nM cells slots) (hA : As.length = n) {st0 : List Value} (hst : st0 = As.reverse ++ rest) (hW : (rest.map fun v => v.category).sum ≤ 8) (hdg : decode cc pc = .ok (.invokestatic index, 3))
    (kx : ∀ (E : String) (ce : Cell) (q9 : Addr) (H1 : Heap) (locs1 : List Loc), thr E → gS D A s.heap w H1 locs1 → H1[q9]? = some ce → ce.vm = .none → s.vm.findClass E = some ce.cls → vx_W p l e R s m args below meth c H1 locs1 (cells + rm.cells) (slots + rm.slots) Q (F0 m pc ls rest) q9)
    (kk : ∀ (v : Option Value) (w1 : gW) (H1 : Heap) (locs1 : List Loc), post v w1 → gS D A s.heap w1 H1 locs1 → W p l e R s m args below meth c H1 locs1 (cells + rm.cells) (slots + rm.slots) Q (F0 m (pc + 3) ls (v.toList ++ rest))) : W p l e R s m args below meth c H locs cells slots Q (F0 m pc ls st0) := by
  subst hst
  exact g_back (vx_runS (g := F0 m pc ls (As.reverse ++ rest)) (gFix hE) hM (va_cwS n hE.2.2.2.2.1 (gW_S m1 m2 m4 m5) rfl rfl rfl hn hR.1) (gPreS hE hG) rfl hA hsz rfl (by show 2 * 0 + _ ≤ 8; omega) hdg hR.2) hG kx kk
theorem gM_not {y : MethodName} {bytes : ByteArray} {nM : Nat} {ret : Option FieldType} {rm : Room} {As : List Value} {post : Option Value → gW → Prop} (hM : gM l y bytes nM ret rm D tc A As w post (fun _ => False)) : Met l y (Cond.code y bytes nM ret :: gT) rm (va_Pc As (gB D tc A w)) (gQ D A post) rm.cells rm.slots A := gMet_of (fun _ _ _ h => h.1) hM
theorem g_callI (hE : gE p l s m args meth c cc nL own D tc A) (hG : gS D A s.heap w H locs) (hsz : ls.size = nL) {index n nM b : Nat} {As : List Value} {y : MethodName} {bytes : ByteArray} {rm : Room} {post : Option Value → gW → Prop} (hM : gM l y bytes nM none rm D tc A (.ref b :: As) w post (fun _ => False))
    (m1 : Cond.methodLink own index y ∈ gT) (m2 : Cond.instanceMethod y ∈ gT) (m4 : Cond.initialized y.cls ∈ gT) (m5 : Cond.code y bytes nM none ∈ gT) (hy : y.name = "<init>") (hn : gNm y n) (hR : gRm rm R nM cells slots) (hA : As.length = n) {st0 : List Value} (hst : st0 = As.reverse ++ .ref b :: rest) (hW : (rest.map fun v => v.category).sum ≤ 8) (hdg : decode cc pc = .ok (.invokespecial index, 3))
    (kk : ∀ (v : Option Value) (w1 : gW) (H1 : Heap) (locs1 : List Loc), post v w1 → gS D A s.heap w1 H1 locs1 → W p l e R s m args below meth c H1 locs1 (cells + rm.cells) (slots + rm.slots) Q (F0 m (pc + 3) ls (v.toList ++ rest))) : W p l e R s m args below meth c H locs cells slots Q (F0 m pc ls st0) := by
  subst hst
  have hts := hE.2.2.2.2.1
  exact g_backN (va_runI (g := F0 m pc ls (As.reverse ++ .ref b :: rest)) (gFix hE) (gM_not hM) (cwI n hts (gW_I m5) rfl rfl rfl (hts _ m4) (hts _ m1) (hts _ m2) hy hn hR.1) (gPreS hE hG) rfl hA hsz rfl (by show 2 * 0 + _ ≤ 8; omega) hdg hR.2) hG kk
theorem g_callIN (hE : gE p l s m args meth c cc nL own D tc A) (hG : gS D A s.heap w H locs) (hsz : ls.size = nL) {index n nM b : Nat} {As : List Value} {y : MethodName} {bytes : ByteArray} {rm : Room} {post : Option Value → gW → Prop} (hM : gM l y bytes nM none rm D tc A (.ref b :: As) w post (fun _ => False))
    (m1 : (own, index, y) ∈ gMn) (m2 : Cond.instanceMethod y ∈ gT) (m4 : Cond.initialized y.cls ∈ gT) (m5 : Cond.code y bytes nM none ∈ gT) (hy : y.name = "<init>") (hn : gNm y n) (hR : gRm rm R nM cells slots) (hA : As.length = n) {st0 : List Value} (hst : st0 = As.reverse ++ .ref b :: rest) (hW : (rest.map fun v => v.category).sum ≤ 8) (hdg : decode cc pc = .ok (.invokespecial index, 3))
    (kk : ∀ (v : Option Value) (w1 : gW) (H1 : Heap) (locs1 : List Loc), post v w1 → gS D A s.heap w1 H1 locs1 → W p l e R s m args below meth c H1 locs1 (cells + rm.cells) (slots + rm.slots) Q (F0 m (pc + 3) ls (v.toList ++ rest))) : W p l e R s m args below meth c H locs cells slots Q (F0 m pc ls st0) := by
  subst hst
  have hts := hE.2.2.2.2.1
  exact g_backN (va_runIN (g := F0 m pc ls (As.reverse ++ .ref b :: rest)) (gFix hE) (gM_not hM) ⟨va_cnB n hts (gW_I m5) rfl rfl rfl (hE.2.2.2.2.2.2.1.2.2.2.2.2.2.2.1 _ m1) (hts _ m4) hn hR.1, hy, hts _ m2⟩ (gPreS hE hG) rfl hA hsz rfl (by show 2 * 0 + _ ≤ 8; omega) hdg hR.2) hG kk
theorem g_callSN (hE : gE p l s m args meth c cc nL own D tc A) (hG : gS D A s.heap w H locs) (hsz : ls.size = nL) {index n nM : Nat} {As : List Value} {y : MethodName} {bytes : ByteArray} {ret : Option FieldType} {rm : Room} {post : Option Value → gW → Prop} (hM : gM l y bytes nM ret rm D tc A As w post (fun _ => False))
    (m1 : (own, index, y) ∈ gMn) (m2 : Cond.static y ∈ gT) (m4 : Cond.initialized y.cls ∈ gT) (m5 : Cond.code y bytes nM ret ∈ gT) (hn : gNm y n) (hR : gRm rm R nM cells slots) (hA : As.length = n) {st0 : List Value} (hst : st0 = As.reverse ++ rest) (hW : (rest.map fun v => v.category).sum ≤ 8) (hdg : decode cc pc = .ok (.invokestatic index, 3))
    (kk : ∀ (v : Option Value) (w1 : gW) (H1 : Heap) (locs1 : List Loc), post v w1 → gS D A s.heap w1 H1 locs1 → W p l e R s m args below meth c H1 locs1 (cells + rm.cells) (slots + rm.slots) Q (F0 m (pc + 3) ls (v.toList ++ rest))) : W p l e R s m args below meth c H locs cells slots Q (F0 m pc ls st0) := by
  subst hst
  have hts := hE.2.2.2.2.1
  exact g_backN (va_runSN (g := F0 m pc ls (As.reverse ++ rest)) (gFix hE) (gM_not hM) ⟨va_cnB n hts (gW_I m5) rfl rfl rfl (hE.2.2.2.2.2.2.1.2.2.2.2.2.2.2.1 _ m1) (hts _ m4) hn hR.1, hts _ m2, trivial⟩ (gPreS hE hG) rfl hA hsz rfl (by show 2 * 0 + _ ≤ 8; omega) hdg hR.2) hG kk
end GROWS
