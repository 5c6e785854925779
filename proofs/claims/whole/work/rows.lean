section
/-- a private method of a class that the tables say can be made, by its rows of tables_1 -/
def lw_okq (q : MethodName × Nat) : Prop := (q.1.cls ≠ "java/lang/invoke/MethodHandle" ∧ q.1.cls ≠ "java/lang/invoke/VarHandle") ∧ Cond.instantiable q.1.cls q.2 ∈ tables_1 ∧ Cond.privateMethod q.1 ∈ tables_1 ∧ Cond.instanceMethod q.1 ∈ tables_1
theorem lw_p0 : lw_okq (⟨"java/lang/Throwable", "fillInStackTrace", "(I)Ljava/lang/Throwable;"⟩, 6) := ⟨⟨by decide +kernel, by decide +kernel⟩, List.mem_of_getElem? (i := 179) (by decide +kernel), List.mem_of_getElem? (i := 177) (by decide +kernel), List.mem_of_getElem? (i := 178) (by decide +kernel)⟩
theorem lw_p1 : lw_okq (⟨"GongCycles", "lengthOfForm", "(I)I"⟩, 11) := ⟨⟨by decide +kernel, by decide +kernel⟩, List.mem_of_getElem? (i := 17) (by decide +kernel), List.mem_of_getElem? (i := 233) (by decide +kernel), List.mem_of_getElem? (i := 234) (by decide +kernel)⟩
theorem lw_p2 : lw_okq (⟨"GongCycles", "pieceAt", "(I)LGongCycles$Piece;"⟩, 11) := ⟨⟨by decide +kernel, by decide +kernel⟩, List.mem_of_getElem? (i := 17) (by decide +kernel), List.mem_of_getElem? (i := 296) (by decide +kernel), List.mem_of_getElem? (i := 297) (by decide +kernel)⟩
theorem lw_p3 : lw_okq (⟨"GongCycles", "toneOfStroke", "(IIIIIZ)I"⟩, 11) := ⟨⟨by decide +kernel, by decide +kernel⟩, List.mem_of_getElem? (i := 17) (by decide +kernel), List.mem_of_getElem? (i := 347) (by decide +kernel), List.mem_of_getElem? (i := 348) (by decide +kernel)⟩
theorem lw_p4 : lw_okq (⟨"GongCycles", "refuseSilence", "()V"⟩, 11) := ⟨⟨by decide +kernel, by decide +kernel⟩, List.mem_of_getElem? (i := 17) (by decide +kernel), List.mem_of_getElem? (i := 416) (by decide +kernel), List.mem_of_getElem? (i := 417) (by decide +kernel)⟩
theorem lw_p5 : lw_okq (⟨"GongCycles$Playing", "hearEnd", "()V"⟩, 11) := ⟨⟨by decide +kernel, by decide +kernel⟩, List.mem_of_getElem? (i := 27) (by decide +kernel), List.mem_of_getElem? (i := 425) (by decide +kernel), List.mem_of_getElem? (i := 426) (by decide +kernel)⟩
theorem lw_p6 : lw_okq (⟨"GongCycles$Playing", "changeBeatLength", "()V"⟩, 11) := ⟨⟨by decide +kernel, by decide +kernel⟩, List.mem_of_getElem? (i := 27) (by decide +kernel), List.mem_of_getElem? (i := 442) (by decide +kernel), List.mem_of_getElem? (i := 443) (by decide +kernel)⟩
theorem lw_p7 : lw_okq (⟨"GongCycles$Playing", "playGong", "()V"⟩, 11) := ⟨⟨by decide +kernel, by decide +kernel⟩, List.mem_of_getElem? (i := 27) (by decide +kernel), List.mem_of_getElem? (i := 450) (by decide +kernel), List.mem_of_getElem? (i := 451) (by decide +kernel)⟩
theorem lw_p8 : lw_okq (⟨"GongCycles", "setAt", "(I)LGongCycles$BronzeSet;"⟩, 11) := ⟨⟨by decide +kernel, by decide +kernel⟩, List.mem_of_getElem? (i := 17) (by decide +kernel), List.mem_of_getElem? (i := 491) (by decide +kernel), List.mem_of_getElem? (i := 492) (by decide +kernel)⟩
theorem lw_p9 : lw_okq (⟨"GongCycles", "playerAt", "(I)LGongCycles$Player;"⟩, 11) := ⟨⟨by decide +kernel, by decide +kernel⟩, List.mem_of_getElem? (i := 17) (by decide +kernel), List.mem_of_getElem? (i := 591) (by decide +kernel), List.mem_of_getElem? (i := 592) (by decide +kernel)⟩
theorem lw_p10 : lw_okq (⟨"GongCycles", "melodyOf", "(II)LGongCycles$Melody;"⟩, 11) := ⟨⟨by decide +kernel, by decide +kernel⟩, List.mem_of_getElem? (i := 17) (by decide +kernel), List.mem_of_getElem? (i := 596) (by decide +kernel), List.mem_of_getElem? (i := 597) (by decide +kernel)⟩
theorem lw_p11 : lw_okq (⟨"GongCycles", "knowersOf", "(I)I"⟩, 11) := ⟨⟨by decide +kernel, by decide +kernel⟩, List.mem_of_getElem? (i := 17) (by decide +kernel), List.mem_of_getElem? (i := 618) (by decide +kernel), List.mem_of_getElem? (i := 619) (by decide +kernel)⟩
theorem lw_p12 : lw_okq (⟨"GongCyclesModel", "goes", "(ZZZ)Z"⟩, 26) := ⟨⟨by decide +kernel, by decide +kernel⟩, List.mem_of_getElem? (i := 661) (by decide +kernel), List.mem_of_getElem? (i := 759) (by decide +kernel), List.mem_of_getElem? (i := 760) (by decide +kernel)⟩
theorem lw_p13 : lw_okq (⟨"GongCyclesModel", "isForm", "(I)Z"⟩, 26) := ⟨⟨by decide +kernel, by decide +kernel⟩, List.mem_of_getElem? (i := 661) (by decide +kernel), List.mem_of_getElem? (i := 767) (by decide +kernel), List.mem_of_getElem? (i := 768) (by decide +kernel)⟩
theorem lw_p14 : lw_okq (⟨"GongCyclesModel", "isPlace", "(II)Z"⟩, 26) := ⟨⟨by decide +kernel, by decide +kernel⟩, List.mem_of_getElem? (i := 661) (by decide +kernel), List.mem_of_getElem? (i := 779) (by decide +kernel), List.mem_of_getElem? (i := 780) (by decide +kernel)⟩
theorem lw_p15 : lw_okq (⟨"GongCyclesModel", "isPiece", "(I)Z"⟩, 26) := ⟨⟨by decide +kernel, by decide +kernel⟩, List.mem_of_getElem? (i := 661) (by decide +kernel), List.mem_of_getElem? (i := 783) (by decide +kernel), List.mem_of_getElem? (i := 784) (by decide +kernel)⟩
def lw_privs_1 : List (MethodName × Nat) := [(⟨"java/lang/Throwable", "fillInStackTrace", "(I)Ljava/lang/Throwable;"⟩, 6), (⟨"GongCycles", "lengthOfForm", "(I)I"⟩, 11), (⟨"GongCycles", "pieceAt", "(I)LGongCycles$Piece;"⟩, 11), (⟨"GongCycles", "toneOfStroke", "(IIIIIZ)I"⟩, 11), (⟨"GongCycles", "refuseSilence", "()V"⟩, 11), (⟨"GongCycles$Playing", "hearEnd", "()V"⟩, 11), (⟨"GongCycles$Playing", "changeBeatLength", "()V"⟩, 11), (⟨"GongCycles$Playing", "playGong", "()V"⟩, 11), (⟨"GongCycles", "setAt", "(I)LGongCycles$BronzeSet;"⟩, 11), (⟨"GongCycles", "playerAt", "(I)LGongCycles$Player;"⟩, 11), (⟨"GongCycles", "melodyOf", "(II)LGongCycles$Melody;"⟩, 11), (⟨"GongCycles", "knowersOf", "(I)I"⟩, 11), (⟨"GongCyclesModel", "goes", "(ZZZ)Z"⟩, 26), (⟨"GongCyclesModel", "isForm", "(I)Z"⟩, 26), (⟨"GongCyclesModel", "isPlace", "(II)Z"⟩, 26), (⟨"GongCyclesModel", "isPiece", "(I)Z"⟩, 26)]
theorem lw_r1 : ∀ q ∈ lw_privs_1, lw_okq q := List.forall_mem_cons.mpr ⟨lw_p0, List.forall_mem_cons.mpr ⟨lw_p1, List.forall_mem_cons.mpr ⟨lw_p2, List.forall_mem_cons.mpr ⟨lw_p3, List.forall_mem_cons.mpr ⟨lw_p4, List.forall_mem_cons.mpr ⟨lw_p5, List.forall_mem_cons.mpr ⟨lw_p6, List.forall_mem_cons.mpr ⟨lw_p7, List.forall_mem_cons.mpr ⟨lw_p8, List.forall_mem_cons.mpr ⟨lw_p9, List.forall_mem_cons.mpr ⟨lw_p10, List.forall_mem_cons.mpr ⟨lw_p11, List.forall_mem_cons.mpr ⟨lw_p12, List.forall_mem_cons.mpr ⟨lw_p13, List.forall_mem_cons.mpr ⟨lw_p14, List.forall_mem_cons.mpr ⟨lw_p15, fun _ h => absurd h List.not_mem_nil⟩⟩⟩⟩⟩⟩⟩⟩⟩⟩⟩⟩⟩⟩⟩⟩
theorem lw_p16 : lw_okq (⟨"GongCyclesModel", "lengthOf", "(I)I"⟩, 26) := ⟨⟨by decide +kernel, by decide +kernel⟩, List.mem_of_getElem? (i := 661) (by decide +kernel), List.mem_of_getElem? (i := 787) (by decide +kernel), List.mem_of_getElem? (i := 788) (by decide +kernel)⟩
theorem lw_p17 : lw_okq (⟨"GongCyclesModel", "soundOf", "(II)I"⟩, 26) := ⟨⟨by decide +kernel, by decide +kernel⟩, List.mem_of_getElem? (i := 661) (by decide +kernel), List.mem_of_getElem? (i := 799) (by decide +kernel), List.mem_of_getElem? (i := 800) (by decide +kernel)⟩
theorem lw_p18 : lw_okq (⟨"GongCyclesModel", "playsBeat", "()V"⟩, 26) := ⟨⟨by decide +kernel, by decide +kernel⟩, List.mem_of_getElem? (i := 661) (by decide +kernel), List.mem_of_getElem? (i := 836) (by decide +kernel), List.mem_of_getElem? (i := 837) (by decide +kernel)⟩
theorem lw_p19 : lw_okq (⟨"GongCyclesModel", "isPlayer", "(I)Z"⟩, 26) := ⟨⟨by decide +kernel, by decide +kernel⟩, List.mem_of_getElem? (i := 661) (by decide +kernel), List.mem_of_getElem? (i := 890) (by decide +kernel), List.mem_of_getElem? (i := 891) (by decide +kernel)⟩
theorem lw_p20 : lw_okq (⟨"GongCyclesModel", "knowsIt", "(II)Z"⟩, 26) := ⟨⟨by decide +kernel, by decide +kernel⟩, List.mem_of_getElem? (i := 661) (by decide +kernel), List.mem_of_getElem? (i := 894) (by decide +kernel), List.mem_of_getElem? (i := 895) (by decide +kernel)⟩
theorem lw_p21 : lw_okq (⟨"GongCyclesModel", "toneOf", "(III)I"⟩, 26) := ⟨⟨by decide +kernel, by decide +kernel⟩, List.mem_of_getElem? (i := 661) (by decide +kernel), List.mem_of_getElem? (i := 898) (by decide +kernel), List.mem_of_getElem? (i := 899) (by decide +kernel)⟩
def lw_privs_2 : List (MethodName × Nat) := [(⟨"GongCyclesModel", "lengthOf", "(I)I"⟩, 26), (⟨"GongCyclesModel", "soundOf", "(II)I"⟩, 26), (⟨"GongCyclesModel", "playsBeat", "()V"⟩, 26), (⟨"GongCyclesModel", "isPlayer", "(I)Z"⟩, 26), (⟨"GongCyclesModel", "knowsIt", "(II)Z"⟩, 26), (⟨"GongCyclesModel", "toneOf", "(III)I"⟩, 26)]
theorem lw_r2 : ∀ q ∈ lw_privs_2, lw_okq q := List.forall_mem_cons.mpr ⟨lw_p16, List.forall_mem_cons.mpr ⟨lw_p17, List.forall_mem_cons.mpr ⟨lw_p18, List.forall_mem_cons.mpr ⟨lw_p19, List.forall_mem_cons.mpr ⟨lw_p20, List.forall_mem_cons.mpr ⟨lw_p21, fun _ h => absurd h List.not_mem_nil⟩⟩⟩⟩⟩⟩
def lw_privs : List (MethodName × Nat) := lw_privs_1 ++ (lw_privs_2)
def lw_tbl : List Cond := k2_sels lw_privs ++ tables_1
theorem lw_privs_ok : ∀ q ∈ lw_privs, lw_okq q := by
  show ∀ q ∈ lw_privs_1 ++ (lw_privs_2), lw_okq q
  exact List.forall_mem_append.mpr ⟨lw_r1, lw_r2⟩
end
section
/-! ===== BEGIN words of one list among another's, by their places ===== -/
theorem goodIn_r {big : List Cond} (ws : List Cond) (ps : List Nat) (hp : ws = ps.filterMap (fun i => big[i]?)) (h : ws.all goodWord = true) : GoodIn big ws := by
  intro w hw
  have h1 := List.all_eq_true.mp h w hw
  rw [hp] at hw
  obtain ⟨i, -, hi⟩ := List.mem_filterMap.mp hw
  have hm : w ∈ big := by first | exact List.mem_of_getElem? hi | exact List.getElem?_mem hi
  exact ⟨hm, good_of_word h1⟩
theorem goodIn_app {big a b : List Cond} (ha : GoodIn big a) (hb : GoodIn big b) : GoodIn big (a ++ b) := fun w h => (List.mem_append.mp h).elim (ha w) (hb w)
theorem goodIn_ca {big a b : List Cond} {c : Cond} (ha : GoodIn big (c :: a)) (hb : GoodIn big b) : GoodIn big (c :: (a ++ b)) := fun w h => (List.mem_cons.mp h).elim (fun e => ha w (List.mem_cons.mpr (Or.inl e))) (fun h => (List.mem_append.mp h).elim (fun h => ha w (List.mem_cons.mpr (Or.inr h))) (hb w))
theorem goodIn_sub {big ws : List Cond} (hm : ∀ w ∈ ws, w ∈ big) (h : ws.all goodWord = true) : GoodIn big ws := fun w hw => ⟨hm w hw, good_of_word (List.all_eq_true.mp h w hw)⟩
/-! ===== END ===== -/

/-! ===== BEGIN exceptions that leave a method, and their catching by the caller (launches without stack traces) ===== -/
section VXA
/-! The laws vx_back, vx_callV, vx_callS, vx_callSW, vx_throw0, vx_throwS follow proofs of the library, with one case more: JvmDerived/Free/Laws.lean (Back.of_free), Shelf42/LK1.lean (callV, callS), Shelf/KitTraced.lean (throwNew0V, throwNewS). -/
/-- where a method has thrown q: the class by its name, the cell, what was written, the world -/
def vx_T (XC : String → State → State → Prop) (st : State) (q : Addr) (t : State) (mc ms : Nat) (free : Addr → Prop) : Prop :=
  ∃ (E : String) (ce : Cell) (L : List Loc), XC E st t ∧ t.heap[q]? = some ce ∧ ce.vm = .none ∧ st.vm.findClass E = some ce.cls ∧ st.WarmedH t.vm ∧ st.sameButNew ({ t with vm := st.vm } : State) L mc ms ∧ ∀ z ∈ L, free z.base
def vx_Q (Qc : Array Value → State → Outcome → State → Prop) (XC : String → State → State → Prop) (mc ms : Nat) (free : Addr → Prop) : Array Value → State → Outcome → State → Prop := fun a st o t =>
  (Qc a st o t ∧ ∃ L, FrameEnd st o t L mc ms ∧ ∀ q ∈ L, free q.base) ∨ ∃ q, o = .threw q ∧ vx_T XC st q t mc ms free
/-- a callee that returns or throws -/
def vx_Met (l : Launch) (y : MethodName) (ws : List Cond) (rm : Room) (Pc : Array Value → State → Prop) (Qc : Array Value → State → Outcome → State → Prop) (XC : String → State → State → Prop) (mc ms : Nat) (free : Addr → Prop) : Prop :=
  MetFree l y (headSpec ws rm) Pc (fun _ _ _ _ _ => True) (vx_Q Qc XC mc ms free)
def vx_Post (XC : String → State → State → Prop) (mc ms : Nat) (free : Addr → Prop) : Pt → Array Value → Addr → Pt → Prop := fun A a q B =>
  ∃ (g : JFrame) (mk : MethodId) (t : State) (L : List Loc) (E : String) (ce : Cell), B.U.heap = t.heap ∧ B.U.vm = t.vm ∧ XC E (A.U.calling g mk a) t ∧ t.heap[q]? = some ce ∧ ce.vm = .none ∧ A.U.vm.findClass E = some ce.cls ∧ B.locs = A.locs ++ L ∧ (∀ z ∈ L, free z.base) ∧ B.cells = A.cells + mc ∧ B.slots = A.slots + ms
def vx_Back (l : Launch) (R : Room) (p : Program) (e : Env) (below : List Frame) (s : State) (sargs : Array Value) (y : MethodName) (len W9 : Nat)
    (Pre : Pt → Array Value → Prop) (Post : Pt → Array Value → Option Value → Pt → Prop) (PostX : Pt → Array Value → Addr → Pt → Prop) : Prop :=
  ∀ (m : MethodId) (meth : Method) (c : Code) (A : Pt) (g : JFrame) (ig : Instr) (mk : MethodId) (a : Array Value),
    Stand p l e R s m sargs below meth c A.U A.locs A.cells A.slots → g.method = m → g.locals.size = c.maxLocals → decode c.code g.pc = .ok (ig, len) →
    2 * g.monitorRoom + (g.stack.map fun v => v.category).sum ≤ W9 → A.U.methodNamed? y = some mk → Pre A a →
    (∃ (v : Option Value) (B : Pt), Stand p l e R s m sargs below meth c B.U B.locs B.cells B.slots ∧ Post A a v B ∧
      Steps p.tables e below (doInvoke e (A.U.setTop g) [] mk a).1 (B.U.setTop { g with pc := g.pc + len, stack := v.toList ++ g.stack })) ∨
    (∃ (q : Addr) (B : Pt), Stand p l e R s m sargs below meth c B.U B.locs B.cells B.slots ∧ PostX A a q B ∧
      Steps p.tables e below (doInvoke e (A.U.setTop g) [] mk a).1 ((B.U.setTop g).pushFrame (.throwing q)))
section Payer
variable {l : Launch} {R : Room} {p : Program} {e : Env} {below : List Frame} {s : State} {sargs : Array Value} {y : MethodName} {len W9 : Nat}
theorem vx_back {ws : List Cond} {rm : Room} {Pc : Array Value → State → Prop} {Qc : Array Value → State → Outcome → State → Prop} {XC : String → State → State → Prop} {mc ms : Nat} {free : Addr → Prop} {bytes : ByteArray} {maxL : Nat} {ret : Option FieldType}
    (hM : vx_Met l y ws rm Pc Qc XC mc ms free) (hblind : FrameBlind Pc) (hrc : rm.cells = mc) (hrs : rm.slots = ms)
    (hframes : rm.frames + 1 ≤ R.frames) (hlocals : W9 + (maxL + 11) + rm.locals ≤ R.locals)
    (hws : ∀ w ∈ ws, ∀ a' U, s.WarmedH U.vm → w.before a' U = true) (hcode : Cond.code y bytes maxL ret ∈ ws) (hinit : ∀ a' U, s.WarmedH U.vm → (Cond.initialized y.cls).before a' U = true) :
    vx_Back l R p e below s sargs y len W9 (PreOf R mc ms Pc) (PostOf Qc mc ms free) (vx_Post XC mc ms free) := by
  intro m meth c A g ig mk a X hg hsize hdg hW hn hp
  have h1 : (headSpec ws rm).pre.before a A.U = true := atoms_intro fun w hw => hws w hw _ _ X.warmed
  have h2 : (Cond.code y bytes maxL ret).before a A.U = true := hws _ hcode _ _ X.warmed
  have h3 : (Cond.initialized y.cls).before a A.U = true := hinit _ _ X.warmed
  have h4 : A.cells + (headSpec ws rm).room.cells ≤ R.cells := by rw [show (headSpec ws rm).room.cells = mc from hrc]; exact hp.1
  have h5 : A.slots + (headSpec ws rm).room.slots ≤ R.slots := by rw [show (headSpec ws rm).room.slots = ms from hrs]; exact hp.2.1
  have hPc : Pc a (A.U.calling g mk a) := hblind _ _ _ _ hp.2.2
  obtain ⟨U, Ls, c0, s0⟩ := A
  dsimp only [Pt.U, Pt.locs, Pt.cells, Pt.slots] at h1 h2 h3 h4 h5 X hn hPc ⊢
  obtain ⟨methY, cY, hmY, hcY, -, hlY, -, -, -, -⟩ := Cond.code_spec hn h2
  obtain ⟨kY, hkY, -⟩ := className_of_methodNamed hn
  have hinitY : kY.init = .initialized := Cond.initialized_spec (findClass_of_methodNamed hn) hkY h3
  have h : At U g.method c below := by rw [hg]; exact X.here
  have hlocals9 : W9 + (maxL + 11) + (headSpec ws rm).room.locals ≤ R.locals := hlocals
  have happ : (headSpec ws rm).appliesLoose y e.platform (U.calling g mk a) = true :=
    Spec.appliesLoose_calling (g := g) h hdg hn hkY hinitY
      (X.room_calling (g := g) (R' := (headSpec ws rm).room) hsize hmY hcY hframes (by rw [hlY]; omega) h4 h5) h1
  obtain ⟨mid, hmid⟩ := h.above
  have hfr : (U.setTop g).frames = (.java g :: mid) ++ below := by rw [State.frames_setTop' g h.top, hmid]; rfl
  obtain ⟨o, s₂, hsteps, -, hend, hq⟩ := Steps.callFree hM p X.admits X.cas X.clock (acts := []) hfr happ hPc trivial
  have hq' : vx_Q Qc XC mc ms free a (U.calling g mk a) o s₂ := hq
  rw [State.frames_setTop' g h.top] at hend
  obtain ⟨g₀, hg0⟩ := Option.isSome_iff_exists.mp h.top
  obtain ⟨r, hr⟩ := State.topJava?_eq_some.mp hg0
  have hr' : (({ U with heap := s₂.heap, slotsUsed := s₂.slotsUsed } : State).setVm s₂.vm).frames = .java g₀ :: r := hr
  rcases hq' with ⟨hqc, L, hfe, hL⟩ | ⟨q, rfl, E, ce, L, hx, hce, hcv, hcl, hW₂, hsm, hL⟩
  · obtain ⟨⟨v, rfl⟩, hW₂, e2, q2, q3, q4, q5, q6⟩ := id hfe
    have e3 : s₂ = ({ (U.calling g mk a).setFrames s₂.frames with heap := s₂.heap, slotsUsed := s₂.slotsUsed } : State).setVm s₂.vm := by
      have : s₂ = ({ s₂ with vm := (U.calling g mk a).vm } : State).setVm s₂.vm := rfl
      rw [e2] at this
      exact this
    obtain ⟨c₂, i₂, len₂, hc₂, hd₂, hf₂⟩ := hend
    have hW' : U.WarmedH s₂.vm := hW₂
    have hcc : c₂ = c := by
      have h1 : s₂.code? g.method = U.code? g.method := by
        rw [State.code?_eq, State.code?_eq, hW'.alike.method?]
      exact Option.some.inj (hc₂.symm.trans (h1.trans h.code))
    subst hcc
    have hlen : len₂ = len := by rw [hdg] at hd₂; cases hd₂; rfl
    subst hlen
    have hs₂ : s₂ = (({ U with heap := s₂.heap, slotsUsed := s₂.slotsUsed } : State).setVm s₂.vm).setTop { g with pc := g.pc + len₂, stack := v.toList ++ g.stack } := by
      refine e3.trans ?_
      rw [hf₂, State.calling_eq h.top, State.setFrames_setFrames, State.setTop_of_frames _ hr', hr]
      rfl
    have hsame : U.sameButNew ({ U with heap := s₂.heap, slotsUsed := s₂.slotsUsed } : State) L mc ms := by
      refine ⟨?_, q2, q3, q4, q5, q6⟩
      obtain ⟨t, ht, -⟩ := State.frames_cons hr
      show ({ U with heap := s₂.heap, slotsUsed := s₂.slotsUsed } : State) = { U.setFrames U.frames with heap := s₂.heap, slotsUsed := s₂.slotsUsed }
      rw [State.setFrames_self ht]
    subst hg
    refine Or.inl ⟨v, ⟨(({ U with heap := s₂.heap, slotsUsed := s₂.slotsUsed } : State).setVm s₂.vm), Ls ++ L, c0 + mc, s0 + ms⟩,
      ⟨X.admits, X.cas, X.clock, X.frames, X.room, X.hears, X.method, X.code, (X.here.setHeapUsed s₂.heap s₂.slotsUsed).setVm hW'.alike, X.tail, State.WarmedH.trans X.warmed hW', X.limits, X.bytes, X.same.trans (hsame.setVm s.vm)⟩,
      ⟨g, mk, s₂, L, rfl, rfl, hqc, rfl, hL, rfl, rfl⟩, ?_⟩
    show Steps p.tables e below _ ((({ U with heap := s₂.heap, slotsUsed := s₂.slotsUsed } : State).setVm s₂.vm).setTop { g with pc := g.pc + len₂, stack := v.toList ++ g.stack })
    rw [← hs₂]
    exact hsteps
  · obtain ⟨e2, q2, q3, q4, q5, q6⟩ := id hsm
    have e3 : s₂ = ({ (U.calling g mk a).setFrames s₂.frames with heap := s₂.heap, slotsUsed := s₂.slotsUsed } : State).setVm s₂.vm := by
      have : s₂ = ({ s₂ with vm := (U.calling g mk a).vm } : State).setVm s₂.vm := rfl
      rw [e2] at this
      exact this
    have hf₂ : s₂.frames = .throwing q :: .java g :: U.frames.tail := hend
    have hW' : U.WarmedH s₂.vm := hW₂
    have hs₂ : s₂ = ((({ U with heap := s₂.heap, slotsUsed := s₂.slotsUsed } : State).setVm s₂.vm).setTop g).pushFrame (.throwing q) := by
      refine e3.trans ?_
      rw [hf₂, State.calling_eq h.top, State.setFrames_setFrames, State.pushFrame, State.frames_setTop _ hr', State.setTop_of_frames _ hr', State.setFrames_setFrames, hr]
      rfl
    have hsame : U.sameButNew ({ U with heap := s₂.heap, slotsUsed := s₂.slotsUsed } : State) L mc ms := by
      refine ⟨?_, q2, q3, q4, q5, q6⟩
      obtain ⟨t, ht, -⟩ := State.frames_cons hr
      show ({ U with heap := s₂.heap, slotsUsed := s₂.slotsUsed } : State) = { U.setFrames U.frames with heap := s₂.heap, slotsUsed := s₂.slotsUsed }
      rw [State.setFrames_self ht]
    subst hg
    refine Or.inr ⟨q, ⟨(({ U with heap := s₂.heap, slotsUsed := s₂.slotsUsed } : State).setVm s₂.vm), Ls ++ L, c0 + mc, s0 + ms⟩,
      ⟨X.admits, X.cas, X.clock, X.frames, X.room, X.hears, X.method, X.code, (X.here.setHeapUsed s₂.heap s₂.slotsUsed).setVm hW'.alike, X.tail, State.WarmedH.trans X.warmed hW', X.limits, X.bytes, X.same.trans (hsame.setVm s.vm)⟩,
      ⟨g, mk, s₂, L, E, ce, rfl, rfl, hx, hce, hcv, hcl, rfl, hL, rfl, rfl⟩, ?_⟩
    show Steps p.tables e below _ (((({ U with heap := s₂.heap, slotsUsed := s₂.slotsUsed } : State).setVm s₂.vm).setTop g).pushFrame (.throwing q))
    rw [← hs₂]
    exact hsteps
end Payer
section Calls
variable {p : Program} {l : Launch} {e : Env} {R : Room} {s : State} {m : MethodId} {args : Array Value} {below : List Frame} {meth : Method} {c : Code} {T : State} {locs : List Loc} {cells slots : Nat}
theorem vx_callV (X : Stand p l e R s m args below meth c T locs cells slots) (hexec : p.tables.exec = Jvm.exec) {own C : String} {index : Nat} {y : MethodName} {bytes : ByteArray} {maxL : Nat} {ret : Option FieldType}
    (hown : s.vm.findClass own = some m.cls) (hlink : (Cond.methodLink own index y).before args s = true) (hinst : (Cond.instanceMethod y).before args s = true) (hsel : (Cond.selects C y y).before args s = true)
    (hcode : (Cond.code y bytes maxL ret).before args s = true) (hy : y.cls ≠ "java/lang/invoke/MethodHandle" ∧ y.cls ≠ "java/lang/invoke/VarHandle")
    {W9 : Nat} {Pre : Pt → Array Value → Prop} {Post : Pt → Array Value → Option Value → Pt → Prop} {PostX : Pt → Array Value → Addr → Pt → Prop} (hK : vx_Back l R p e below s args y 3 W9 Pre Post PostX)
    {b : Addr} {cellB : Cell} (hcell : T.heap[b]? = some cellB) (hobj : cellB.vm.isStatics = false) (hcls : s.vm.findClass C = some cellB.cls)
    {g : JFrame} (hg : g.method = m) (hsize : g.locals.size = c.maxLocals) {argsL rest : List Value} (hlen : ∀ sig, parseMethodDescriptor y.desc = some sig → argsL.length = sig.parameters.length)
    (hstack : g.stack = argsL.reverse ++ .ref b :: rest) (hW : 2 * g.monitorRoom + (rest.map fun v => v.category).sum ≤ W9) (hdg : decode c.code g.pc = .ok (.invokevirtual index, 3))
    (hpre : ∀ vm₁, s.WarmedH vm₁ → Pre ⟨T.setVm vm₁, locs, cells, slots⟩ (Value.ref b :: argsL).toArray) :
    (∃ (v : Option Value) (vm₁ : Vm) (B : Pt), s.WarmedH vm₁ ∧ Stand p l e R s m args below meth c B.U B.locs B.cells B.slots ∧ Post ⟨T.setVm vm₁, locs, cells, slots⟩ (Value.ref b :: argsL).toArray v B ∧
      ∀ target, Steps p.tables e below (B.U.setTop { g with pc := g.pc + 3, stack := v.toList ++ rest }) target → Steps p.tables e below (T.setTop g) target) ∨
    (∃ (q : Addr) (vm₁ : Vm) (B : Pt), s.WarmedH vm₁ ∧ Stand p l e R s m args below meth c B.U B.locs B.cells B.slots ∧ PostX ⟨T.setVm vm₁, locs, cells, slots⟩ (Value.ref b :: argsL).toArray q B ∧
      Steps p.tables e below (T.setTop g) ((B.U.setTop { g with stack := rest }).pushFrame (.throwing q))) := by
  obtain ⟨mk, methM, hnamed, hmethM, hstM, habM⟩ := Cond.instanceMethod_spec hinst
  obtain ⟨methM', cM, hmethM', -, -, -, -, -, -, hsigM⟩ := Cond.code_spec hnamed hcode
  cases hmethM.symm.trans hmethM'
  obtain ⟨c2, r2, m2, q1, q2, q3, q4, kP, hkP, hkPi⟩ := Cond.selects_spec hsel
  cases hcls.symm.trans q1
  cases (State.methodFound?_of_named hnamed hy).symm.trans q2
  cases hnamed.symm.trans q3
  have hselP : selectMethod e.platform s.vm cellB.cls mk = .method mk := by rw [Launch.admits_selectMethod X.admits]; exact q4
  obtain ⟨vm₁, X₁, hstep₁⟩ := X.invokevirtual hexec hown hlink hnamed hmethM hstM hkP hkPi hy (a := b) (cell := cellB) hcell
    (fun z h => by rw [h] at hobj; cases hobj) hselP hmethM habM hkP hkPi (g := g) hg (argsL := argsL) (rest := rest) (hlen _ hsigM) hstack hdg
  rcases hK m meth c ⟨T.setVm vm₁, locs, cells, slots⟩ { g with stack := rest } (.invokevirtual index) mk (Value.ref b :: argsL).toArray X₁ hg hsize hdg hW (X₁.named hnamed) (hpre vm₁ X₁.warmed) with ⟨v, B, X', hpost, hsteps⟩ | ⟨q, B, X', hpost, hsteps⟩
  · exact Or.inl ⟨v, vm₁, B, X₁.warmed, X', hpost, fun target h => hstep₁ _ fun acts => by rw [doInvoke_state]; exact hsteps.trans h⟩
  · exact Or.inr ⟨q, vm₁, B, X₁.warmed, X', hpost, hstep₁ _ fun acts => by rw [doInvoke_state]; exact hsteps⟩
theorem vx_callS (X : Stand p l e R s m args below meth c T locs cells slots) (hexec : p.tables.exec = Jvm.exec) {own : String} {index : Nat} {y : MethodName} {bytes : ByteArray} {maxL : Nat} {ret : Option FieldType}
    (hown : s.vm.findClass own = some m.cls) (hlink : (Cond.methodLink own index y).before args s = true) (hstat : (Cond.static y).before args s = true) (hinit : (Cond.initialized y.cls).before args s = true)
    (hcode : (Cond.code y bytes maxL ret).before args s = true) (hy : y.cls ≠ "java/lang/invoke/MethodHandle" ∧ y.cls ≠ "java/lang/invoke/VarHandle")
    {W9 : Nat} {Pre : Pt → Array Value → Prop} {Post : Pt → Array Value → Option Value → Pt → Prop} {PostX : Pt → Array Value → Addr → Pt → Prop} (hK : vx_Back l R p e below s args y 3 W9 Pre Post PostX)
    {g : JFrame} (hg : g.method = m) (hsize : g.locals.size = c.maxLocals) {argsL rest : List Value} (hlen : ∀ sig, parseMethodDescriptor y.desc = some sig → argsL.length = sig.parameters.length)
    (hstack : g.stack = argsL.reverse ++ rest) (hW : 2 * g.monitorRoom + (rest.map fun v => v.category).sum ≤ W9) (hdg : decode c.code g.pc = .ok (.invokestatic index, 3))
    (hpre : ∀ vm₁, s.WarmedH vm₁ → Pre ⟨T.setVm vm₁, locs, cells, slots⟩ argsL.toArray) :
    (∃ (v : Option Value) (vm₁ : Vm) (B : Pt), s.WarmedH vm₁ ∧ Stand p l e R s m args below meth c B.U B.locs B.cells B.slots ∧ Post ⟨T.setVm vm₁, locs, cells, slots⟩ argsL.toArray v B ∧
      ∀ target, Steps p.tables e below (B.U.setTop { g with pc := g.pc + 3, stack := v.toList ++ rest }) target → Steps p.tables e below (T.setTop g) target) ∨
    (∃ (q : Addr) (vm₁ : Vm) (B : Pt), s.WarmedH vm₁ ∧ Stand p l e R s m args below meth c B.U B.locs B.cells B.slots ∧ PostX ⟨T.setVm vm₁, locs, cells, slots⟩ argsL.toArray q B ∧
      Steps p.tables e below (T.setTop g) ((B.U.setTop { g with stack := rest }).pushFrame (.throwing q))) := by
  obtain ⟨mk, hnamed⟩ := Cond.code_named hcode
  obtain ⟨methM, cM, hmethM, -, -, -, -, -, -, hsigM⟩ := Cond.code_spec hnamed hcode
  have hstatic : methM.isStatic = true := Cond.static_spec hnamed hmethM hstat
  obtain ⟨kP, hkP, -⟩ := className_of_methodNamed hnamed
  have hinitP : kP.init = .initialized := Cond.initialized_spec (findClass_of_methodNamed hnamed) hkP hinit
  obtain ⟨vm₁, X₁, hstep₁⟩ := X.invokestatic hexec hown hlink hnamed hmethM hstatic hkP hinitP hy (g := g) hg (argsL := argsL) (rest := rest) (hlen _ hsigM) hstack hdg
  rcases hK m meth c ⟨T.setVm vm₁, locs, cells, slots⟩ { g with stack := rest } (.invokestatic index) mk argsL.toArray X₁ hg hsize hdg hW (X₁.named hnamed) (hpre vm₁ X₁.warmed) with ⟨v, B, X', hpost, hsteps⟩ | ⟨q, B, X', hpost, hsteps⟩
  · exact Or.inl ⟨v, vm₁, B, X₁.warmed, X', hpost, fun target h => hstep₁ _ fun acts => by rw [doInvoke_state]; exact hsteps.trans h⟩
  · exact Or.inr ⟨q, vm₁, B, X₁.warmed, X', hpost, hstep₁ _ fun acts => by rw [doInvoke_state]; exact hsteps⟩
end Calls
theorem vx_cls {s : State} {T : State} {vm₁ : Vm} {E : String} {k : ClassId} (hW : s.WarmedH vm₁) (h : (T.setVm vm₁).vm.findClass E = some k) : s.vm.findClass E = some k := by
  have h1 : vm₁.findClass E = some k := h
  rw [hW.alike.findClass] at h1
  exact h1
/-- the method's frame g, with q thrown over it -/
def vx_W (p : Program) (l : Launch) (e : Env) (R : Room) (s : State) (m : MethodId) (args : Array Value) (below : List Frame) (meth : Method) (c : Code) (H : Heap) (locs : List Loc) (cells slots : Nat) (Q : State → Prop) (g : JFrame) (q : Addr) : Prop :=
  ∀ T : State, T.heap = H → Stand p l e R s m args below meth c T locs cells slots → ∃ t, Steps p.tables e below ((T.setTop g).pushFrame (.throwing q)) t ∧ Q t
def vx_Run (p : Program) (l : Launch) (e : Env) (R : Room) (s : State) (m : MethodId) (args : Array Value) (below : List Frame) (meth : Method) (c : Code) (H : Heap) (locs : List Loc) (cells slots mc ms : Nat) (g : JFrame) (rest : List Value) (Qa : State → Outcome → State → Prop) (XC : String → State → State → Prop) (free : Addr → Prop) : Prop :=
  ∀ T : State, T.heap = H → Stand p l e R s m args below meth c T locs cells slots →
    (∃ (v : Option Value) (st₀ t T' : State) (L : List Loc), st₀.heap = H ∧ Stand p l e R s m args below meth c T' (locs ++ L) (cells + mc) (slots + ms) ∧ (∀ q ∈ L, free q.base) ∧ T'.heap = t.heap ∧ T'.vm = t.vm ∧ Qa st₀ (.returned v) t ∧
      Goes p e below T g T' { g with pc := g.pc + 3, stack := v.toList ++ rest }) ∨
    (∃ (q : Addr) (st₀ t T' : State) (L : List Loc) (E : String) (ce : Cell), st₀.heap = H ∧ Stand p l e R s m args below meth c T' (locs ++ L) (cells + mc) (slots + ms) ∧ (∀ z ∈ L, free z.base) ∧ T'.heap = t.heap ∧ T'.vm = t.vm ∧ XC E st₀ t ∧ t.heap[q]? = some ce ∧ ce.vm = .none ∧ s.vm.findClass E = some ce.cls ∧
      Steps p.tables e below (T.setTop g) ((T'.setTop { g with stack := rest }).pushFrame (.throwing q)))
def vx_X {S : Type} (px : S → Prop) (B : String → S → State → Prop) (A : Nat → Prop) : String → State → State → Prop := fun E st t => ∃ u : S, px u ∧ B E u t ∧ va_F A st t
section Runs
variable {p : Program} {l : Launch} {e : Env} {R : Room} {s : State} {m : MethodId} {args : Array Value} {below : List Frame} {meth : Method} {c : Code} {H : Heap} {locs : List Loc} {cells slots : Nat}
variable {y : MethodName} {bytes cc : ByteArray} {maxL nL mc ms n index : Nat} {ret : Option FieldType} {ws : List Cond} {rm : Room} {Pc : Array Value → State → Prop} {Qc : Array Value → State → Outcome → State → Prop} {XC : String → State → State → Prop} {free : Addr → Prop} {Ts : List Cond} {own C : String} {b : Addr} {As rest : List Value} {g : JFrame}
theorem vx_callBack (cb : CallB R s args own index y bytes maxL ret ws rm mc ms n) (hM : vx_Met l y ws rm Pc Qc XC mc ms free) (hbl : FrameBlind Pc) : vx_Back l R p e below s args y 3 8 (PreOf R mc ms Pc) (PostOf Qc mc ms free) (vx_Post XC mc ms free) := by
  obtain ⟨hrc, hrs, hfr, hlo, hws, hcw, -, hini, -⟩ := cb
  exact vx_back (bytes := bytes) (maxL := maxL) (ret := ret) hM hbl hrc hrs hfr hlo hws hcw (fun a' U hW => word_at hW (Or.inl (by first | rfl | simp [Cond.onTables, Cond.keeps, Cond.steady])) hini)
theorem vx_runV (S : CallFix p m c cc nL s args Ts own) (hM : vx_Met l y ws rm Pc Qc XC mc ms free) (cw : CallW R s args own C index y bytes maxL ret ws rm mc ms n) (hp : PreV s H C b Pc As)
    (hg : g.method = m) (hn : As.length = n) (hsize : g.locals.size = nL) (hstack : g.stack = As.reverse ++ .ref b :: rest) (hW : 2 * g.monitorRoom + (rest.map fun v => v.category).sum ≤ 8) (hdg : decode cc g.pc = .ok (.invokevirtual index, 3)) (hf : cells + mc ≤ R.cells ∧ slots + ms ≤ R.slots) :
    vx_Run p l e R s m args below meth c H locs cells slots mc ms g rest (Qc (Value.ref b :: As).toArray) XC free := by
  have hK : vx_Back l R p e below s args y 3 8 (PreOf R mc ms Pc) (PostOf Qc mc ms free) (vx_Post XC mc ms free) := vx_callBack cw.1 hM hp.1
  obtain ⟨⟨-, -, -, -, -, -, hcode, -, hy, hlen, hl⟩, hin, hse⟩ := cw
  obtain ⟨hx, hb, hml, ho, -⟩ := S
  obtain ⟨-, ⟨cellB, hcB, hoB, hclB⟩, hPc⟩ := hp
  intro T hT X
  rcases vx_callV X hx (C := C) (bytes := bytes) (maxL := maxL) (ret := ret) ho hl hin hse hcode hy hK (by rw [hT]; exact hcB) hoB hclB hg (hsize.trans hml.symm) (argsL := As) (rest := rest) (fun sig h => hn.trans (hlen sig h)) hstack hW (by rw [hb]; exact hdg)
    (fun vm₁ hW₁ => ⟨hf.1, hf.2, hPc (T.setVm vm₁) hT hW₁⟩) with ⟨v, vm₁, ⟨U', l2, c2, s2⟩, hW₁, X', ⟨g', mk, t, L, e1, e2, hq, h1, hL, h2, h3⟩, st⟩ | ⟨q, vm₁, ⟨U', l2, c2, s2⟩, hW₁, X', ⟨g', mk, t, L, E, ce, e1, e2, hq, hce, hcv, hcl, h1, hL, h2, h3⟩, st⟩
  · dsimp only [Pt.U, Pt.locs, Pt.cells, Pt.slots] at X' e1 e2 h1 h2 h3 st
    subst h1; subst h2; subst h3
    exact Or.inl ⟨v, (T.setVm vm₁).calling g' mk (Value.ref b :: As).toArray, t, U', L, hT, X', hL, e1, e2, hq, st⟩
  · dsimp only [Pt.U, Pt.locs, Pt.cells, Pt.slots] at X' e1 e2 h1 h2 h3 st hcl
    subst h1; subst h2; subst h3
    exact Or.inr ⟨q, (T.setVm vm₁).calling g' mk (Value.ref b :: As).toArray, t, U', L, E, ce, hT, X', hL, e1, e2, hq, hce, hcv, vx_cls hW₁ hcl, st⟩
theorem vx_runS (S : CallFix p m c cc nL s args Ts own) (hM : vx_Met l y ws rm Pc Qc XC mc ms free) (cw : CallB R s args own index y bytes maxL ret ws rm mc ms n ∧ (Cond.static y).before args s = true) (hp : PreS s H Pc As)
    (hg : g.method = m) (hn : As.length = n) (hsize : g.locals.size = nL) (hstack : g.stack = As.reverse ++ rest) (hW : 2 * g.monitorRoom + (rest.map fun v => v.category).sum ≤ 8) (hdg : decode cc g.pc = .ok (.invokestatic index, 3)) (hf : cells + mc ≤ R.cells ∧ slots + ms ≤ R.slots) :
    vx_Run p l e R s m args below meth c H locs cells slots mc ms g rest (Qc As.toArray) XC free := by
  have hK : vx_Back l R p e below s args y 3 8 (PreOf R mc ms Pc) (PostOf Qc mc ms free) (vx_Post XC mc ms free) := vx_callBack cw.1 hM hp.1
  obtain ⟨⟨-, -, -, -, -, -, hcode, hini, hy, hlen, hl⟩, hstt⟩ := cw
  obtain ⟨hx, hb, hml, ho, -⟩ := S
  intro T hT X
  rcases vx_callS X hx (bytes := bytes) (maxL := maxL) (ret := ret) ho hl hstt hini hcode hy hK hg (hsize.trans hml.symm) (argsL := As) (rest := rest) (fun sig h => hn.trans (hlen sig h)) hstack hW (by rw [hb]; exact hdg)
    (fun vm₁ hW₁ => ⟨hf.1, hf.2, hp.2 (T.setVm vm₁) hT hW₁⟩) with ⟨v, vm₁, ⟨U', l2, c2, s2⟩, hW₁, X', ⟨g', mk, t, L, e1, e2, hq, h1, hL, h2, h3⟩, st⟩ | ⟨q, vm₁, ⟨U', l2, c2, s2⟩, hW₁, X', ⟨g', mk, t, L, E, ce, e1, e2, hq, hce, hcv, hcl, h1, hL, h2, h3⟩, st⟩
  · dsimp only [Pt.U, Pt.locs, Pt.cells, Pt.slots] at X' e1 e2 h1 h2 h3 st
    subst h1; subst h2; subst h3
    exact Or.inl ⟨v, (T.setVm vm₁).calling g' mk As.toArray, t, U', L, hT, X', hL, e1, e2, hq, st⟩
  · dsimp only [Pt.U, Pt.locs, Pt.cells, Pt.slots] at X' e1 e2 h1 h2 h3 st hcl
    subst h1; subst h2; subst h3
    exact Or.inr ⟨q, (T.setVm vm₁).calling g' mk As.toArray, t, U', L, E, ce, hT, X', hL, e1, e2, hq, hce, hcv, vx_cls hW₁ hcl, st⟩
end Runs
section Rows
variable {p : Program} {l : Launch} {e : Env} {R : Room} {s : State} {m : MethodId} {args : Array Value} {below : List Frame} {meth : Method} {c : Code} {H : Heap} {locs : List Loc} {cells slots : Nat} {Q : State → Prop}
variable {mc ms : Nat} {free : Addr → Prop} {A0 A1 : Nat → Prop} {H0 : Heap} {a : Array Value} {pc : Nat} {ls : Array Slot} {st0 rest : List Value}
theorem vx_keep {st₀ t T' : State} {L : List Loc} (h0 : st₀.heap = H) (e1 : T'.heap = t.heap) (hS : va_S A0 H0 H locs) (hA : ∀ q, q < H.size → A1 q → A0 q) (hf : ∀ q, free q → A0 q) (hL : ∀ q ∈ L, free q.base) (hF : va_F A1 st₀ t) :
    H.size ≤ T'.heap.size ∧ (∀ q : Nat, q < H.size → ¬ A1 q → T'.heap[q]? = H[q]?) ∧ va_S A0 H0 T'.heap (locs ++ L) := by
  obtain ⟨hz, hk⟩ := hF
  rw [h0] at hz hk
  exact ⟨by rw [e1]; exact hz, fun q h1 h2 => by rw [e1]; exact hk q h1 h2,
    ⟨Nat.le_trans hS.1 (by rw [e1]; exact hz), fun q h1 h2 => by rw [e1, hk q (Nat.lt_of_lt_of_le h1 hS.1) (fun z => h2 (hA q (Nat.lt_of_lt_of_le h1 hS.1) z))]; exact hS.2.1 q h1 h2, fun q hq => by
      rcases List.mem_append.mp hq with h | h
      · exact hS.2.2 q h
      · exact hf _ (hL q h)⟩⟩
theorem vx_calli {S SX : Type} {post : Int32 → S → Prop} {px : SX → Prop} {B : S → State → Prop} {BX : String → SX → State → Prop} {AX : Nat → Prop} (hr : vx_Run p l e R s m args below meth c H locs cells slots mc ms (F0 m pc ls st0) rest (va_Qi post B A1 a) (vx_X px BX AX) free) (hS : va_S A0 H0 H locs) (hA : ∀ q, q < H.size → A1 q → A0 q) (hf : ∀ q, free q → A0 q) (hAX : ∀ q, q < H.size → AX q → A0 q)
    (kx : ∀ (E : String) (ce : Cell) (q9 : Addr) (u : SX) (t : State) (H1 : Heap) (locs1 : List Loc), t.heap = H1 → s.vm.Alike t.vm → px u → BX E u t → H.size ≤ H1.size → (∀ q : Nat, q < H.size → ¬ AX q → H1[q]? = H[q]?) → va_S A0 H0 H1 locs1 → H1[q9]? = some ce → ce.vm = .none → s.vm.findClass E = some ce.cls → vx_W p l e R s m args below meth c H1 locs1 (cells + mc) (slots + ms) Q (F0 m pc ls rest) q9)
    (kk : ∀ (r : Int32) (u : S) (t : State) (H1 : Heap) (locs1 : List Loc), t.heap = H1 → s.vm.Alike t.vm → post r u → B u t → H.size ≤ H1.size → (∀ q : Nat, q < H.size → ¬ A1 q → H1[q]? = H[q]?) → va_S A0 H0 H1 locs1 → W p l e R s m args below meth c H1 locs1 (cells + mc) (slots + ms) Q (F0 m (pc + 3) ls (.int r :: rest))) : W p l e R s m args below meth c H locs cells slots Q (F0 m pc ls st0) := by
  intro T hT X
  rcases hr T hT X with ⟨v, st₀, t, T', L, h0, X', hL, e1, e2, ⟨⟨r, u, hv, hp, hb⟩, hF⟩, st⟩ | ⟨q, st₀, t, T', L, E, ce, h0, X', hL, e1, e2, ⟨u, hp, hb, hF⟩, hce, hcv, hcl, st⟩
  · cases hv
    obtain ⟨k1, k2, k3⟩ := vx_keep h0 e1 hS hA hf hL hF
    obtain ⟨t2, a1, b1⟩ := kk r u t T'.heap (locs ++ L) e1.symm (by rw [← e2]; exact X'.warmed.alike) hp hb k1 k2 k3 T' rfl X'
    exact ⟨t2, st t2 a1, b1⟩
  · obtain ⟨k1, k2, k3⟩ := vx_keep h0 e1 hS hAX hf hL hF
    obtain ⟨t2, a1, b1⟩ := kx E ce q u t T'.heap (locs ++ L) e1.symm (by rw [← e2]; exact X'.warmed.alike) hp hb k1 k2 k3 (by rw [e1]; exact hce) hcv hcl T' rfl X'
    exact ⟨t2, st.trans a1, b1⟩
theorem vx_calll {S SX : Type} {post : Int64 → S → Prop} {px : SX → Prop} {B : S → State → Prop} {BX : String → SX → State → Prop} {AX : Nat → Prop} (hr : vx_Run p l e R s m args below meth c H locs cells slots mc ms (F0 m pc ls st0) rest (va_Ql post B A1 a) (vx_X px BX AX) free) (hS : va_S A0 H0 H locs) (hA : ∀ q, q < H.size → A1 q → A0 q) (hf : ∀ q, free q → A0 q) (hAX : ∀ q, q < H.size → AX q → A0 q)
    (kx : ∀ (E : String) (ce : Cell) (q9 : Addr) (u : SX) (t : State) (H1 : Heap) (locs1 : List Loc), t.heap = H1 → s.vm.Alike t.vm → px u → BX E u t → H.size ≤ H1.size → (∀ q : Nat, q < H.size → ¬ AX q → H1[q]? = H[q]?) → va_S A0 H0 H1 locs1 → H1[q9]? = some ce → ce.vm = .none → s.vm.findClass E = some ce.cls → vx_W p l e R s m args below meth c H1 locs1 (cells + mc) (slots + ms) Q (F0 m pc ls rest) q9)
    (kk : ∀ (r : Int64) (u : S) (t : State) (H1 : Heap) (locs1 : List Loc), t.heap = H1 → s.vm.Alike t.vm → post r u → B u t → H.size ≤ H1.size → (∀ q : Nat, q < H.size → ¬ A1 q → H1[q]? = H[q]?) → va_S A0 H0 H1 locs1 → W p l e R s m args below meth c H1 locs1 (cells + mc) (slots + ms) Q (F0 m (pc + 3) ls (.long r :: rest))) : W p l e R s m args below meth c H locs cells slots Q (F0 m pc ls st0) := by
  intro T hT X
  rcases hr T hT X with ⟨v, st₀, t, T', L, h0, X', hL, e1, e2, ⟨⟨r, u, hv, hp, hb⟩, hF⟩, st⟩ | ⟨q, st₀, t, T', L, E, ce, h0, X', hL, e1, e2, ⟨u, hp, hb, hF⟩, hce, hcv, hcl, st⟩
  · cases hv
    obtain ⟨k1, k2, k3⟩ := vx_keep h0 e1 hS hA hf hL hF
    obtain ⟨t2, a1, b1⟩ := kk r u t T'.heap (locs ++ L) e1.symm (by rw [← e2]; exact X'.warmed.alike) hp hb k1 k2 k3 T' rfl X'
    exact ⟨t2, st t2 a1, b1⟩
  · obtain ⟨k1, k2, k3⟩ := vx_keep h0 e1 hS hAX hf hL hF
    obtain ⟨t2, a1, b1⟩ := kx E ce q u t T'.heap (locs ++ L) e1.symm (by rw [← e2]; exact X'.warmed.alike) hp hb k1 k2 k3 (by rw [e1]; exact hce) hcv hcl T' rfl X'
    exact ⟨t2, st.trans a1, b1⟩
theorem vx_callf {S SX : Type} {post : UInt32 → S → Prop} {px : SX → Prop} {B : S → State → Prop} {BX : String → SX → State → Prop} {AX : Nat → Prop} (hr : vx_Run p l e R s m args below meth c H locs cells slots mc ms (F0 m pc ls st0) rest (va_Qf post B A1 a) (vx_X px BX AX) free) (hS : va_S A0 H0 H locs) (hA : ∀ q, q < H.size → A1 q → A0 q) (hf : ∀ q, free q → A0 q) (hAX : ∀ q, q < H.size → AX q → A0 q)
    (kx : ∀ (E : String) (ce : Cell) (q9 : Addr) (u : SX) (t : State) (H1 : Heap) (locs1 : List Loc), t.heap = H1 → s.vm.Alike t.vm → px u → BX E u t → H.size ≤ H1.size → (∀ q : Nat, q < H.size → ¬ AX q → H1[q]? = H[q]?) → va_S A0 H0 H1 locs1 → H1[q9]? = some ce → ce.vm = .none → s.vm.findClass E = some ce.cls → vx_W p l e R s m args below meth c H1 locs1 (cells + mc) (slots + ms) Q (F0 m pc ls rest) q9)
    (kk : ∀ (r : UInt32) (u : S) (t : State) (H1 : Heap) (locs1 : List Loc), t.heap = H1 → s.vm.Alike t.vm → post r u → B u t → H.size ≤ H1.size → (∀ q : Nat, q < H.size → ¬ A1 q → H1[q]? = H[q]?) → va_S A0 H0 H1 locs1 → W p l e R s m args below meth c H1 locs1 (cells + mc) (slots + ms) Q (F0 m (pc + 3) ls (.float r :: rest))) : W p l e R s m args below meth c H locs cells slots Q (F0 m pc ls st0) := by
  intro T hT X
  rcases hr T hT X with ⟨v, st₀, t, T', L, h0, X', hL, e1, e2, ⟨⟨r, u, hv, hp, hb⟩, hF⟩, st⟩ | ⟨q, st₀, t, T', L, E, ce, h0, X', hL, e1, e2, ⟨u, hp, hb, hF⟩, hce, hcv, hcl, st⟩
  · cases hv
    obtain ⟨k1, k2, k3⟩ := vx_keep h0 e1 hS hA hf hL hF
    obtain ⟨t2, a1, b1⟩ := kk r u t T'.heap (locs ++ L) e1.symm (by rw [← e2]; exact X'.warmed.alike) hp hb k1 k2 k3 T' rfl X'
    exact ⟨t2, st t2 a1, b1⟩
  · obtain ⟨k1, k2, k3⟩ := vx_keep h0 e1 hS hAX hf hL hF
    obtain ⟨t2, a1, b1⟩ := kx E ce q u t T'.heap (locs ++ L) e1.symm (by rw [← e2]; exact X'.warmed.alike) hp hb k1 k2 k3 (by rw [e1]; exact hce) hcv hcl T' rfl X'
    exact ⟨t2, st.trans a1, b1⟩
theorem vx_calld {S SX : Type} {post : UInt64 → S → Prop} {px : SX → Prop} {B : S → State → Prop} {BX : String → SX → State → Prop} {AX : Nat → Prop} (hr : vx_Run p l e R s m args below meth c H locs cells slots mc ms (F0 m pc ls st0) rest (va_Qd post B A1 a) (vx_X px BX AX) free) (hS : va_S A0 H0 H locs) (hA : ∀ q, q < H.size → A1 q → A0 q) (hf : ∀ q, free q → A0 q) (hAX : ∀ q, q < H.size → AX q → A0 q)
    (kx : ∀ (E : String) (ce : Cell) (q9 : Addr) (u : SX) (t : State) (H1 : Heap) (locs1 : List Loc), t.heap = H1 → s.vm.Alike t.vm → px u → BX E u t → H.size ≤ H1.size → (∀ q : Nat, q < H.size → ¬ AX q → H1[q]? = H[q]?) → va_S A0 H0 H1 locs1 → H1[q9]? = some ce → ce.vm = .none → s.vm.findClass E = some ce.cls → vx_W p l e R s m args below meth c H1 locs1 (cells + mc) (slots + ms) Q (F0 m pc ls rest) q9)
    (kk : ∀ (r : UInt64) (u : S) (t : State) (H1 : Heap) (locs1 : List Loc), t.heap = H1 → s.vm.Alike t.vm → post r u → B u t → H.size ≤ H1.size → (∀ q : Nat, q < H.size → ¬ A1 q → H1[q]? = H[q]?) → va_S A0 H0 H1 locs1 → W p l e R s m args below meth c H1 locs1 (cells + mc) (slots + ms) Q (F0 m (pc + 3) ls (.double r :: rest))) : W p l e R s m args below meth c H locs cells slots Q (F0 m pc ls st0) := by
  intro T hT X
  rcases hr T hT X with ⟨v, st₀, t, T', L, h0, X', hL, e1, e2, ⟨⟨r, u, hv, hp, hb⟩, hF⟩, st⟩ | ⟨q, st₀, t, T', L, E, ce, h0, X', hL, e1, e2, ⟨u, hp, hb, hF⟩, hce, hcv, hcl, st⟩
  · cases hv
    obtain ⟨k1, k2, k3⟩ := vx_keep h0 e1 hS hA hf hL hF
    obtain ⟨t2, a1, b1⟩ := kk r u t T'.heap (locs ++ L) e1.symm (by rw [← e2]; exact X'.warmed.alike) hp hb k1 k2 k3 T' rfl X'
    exact ⟨t2, st t2 a1, b1⟩
  · obtain ⟨k1, k2, k3⟩ := vx_keep h0 e1 hS hAX hf hL hF
    obtain ⟨t2, a1, b1⟩ := kx E ce q u t T'.heap (locs ++ L) e1.symm (by rw [← e2]; exact X'.warmed.alike) hp hb k1 k2 k3 (by rw [e1]; exact hce) hcv hcl T' rfl X'
    exact ⟨t2, st.trans a1, b1⟩
theorem vx_callv {S SX : Type} {post : S → Prop} {px : SX → Prop} {B : S → State → Prop} {BX : String → SX → State → Prop} {AX : Nat → Prop} (hr : vx_Run p l e R s m args below meth c H locs cells slots mc ms (F0 m pc ls st0) rest (va_Qv post B A1 a) (vx_X px BX AX) free) (hS : va_S A0 H0 H locs) (hA : ∀ q, q < H.size → A1 q → A0 q) (hf : ∀ q, free q → A0 q) (hAX : ∀ q, q < H.size → AX q → A0 q)
    (kx : ∀ (E : String) (ce : Cell) (q9 : Addr) (u : SX) (t : State) (H1 : Heap) (locs1 : List Loc), t.heap = H1 → s.vm.Alike t.vm → px u → BX E u t → H.size ≤ H1.size → (∀ q : Nat, q < H.size → ¬ AX q → H1[q]? = H[q]?) → va_S A0 H0 H1 locs1 → H1[q9]? = some ce → ce.vm = .none → s.vm.findClass E = some ce.cls → vx_W p l e R s m args below meth c H1 locs1 (cells + mc) (slots + ms) Q (F0 m pc ls rest) q9)
    (kk : ∀ (u : S) (t : State) (H1 : Heap) (locs1 : List Loc), t.heap = H1 → s.vm.Alike t.vm → post u → B u t → H.size ≤ H1.size → (∀ q : Nat, q < H.size → ¬ A1 q → H1[q]? = H[q]?) → va_S A0 H0 H1 locs1 → W p l e R s m args below meth c H1 locs1 (cells + mc) (slots + ms) Q (F0 m (pc + 3) ls (rest))) : W p l e R s m args below meth c H locs cells slots Q (F0 m pc ls st0) := by
  intro T hT X
  rcases hr T hT X with ⟨v, st₀, t, T', L, h0, X', hL, e1, e2, ⟨⟨u, hv, hp, hb⟩, hF⟩, st⟩ | ⟨q, st₀, t, T', L, E, ce, h0, X', hL, e1, e2, ⟨u, hp, hb, hF⟩, hce, hcv, hcl, st⟩
  · cases hv
    obtain ⟨k1, k2, k3⟩ := vx_keep h0 e1 hS hA hf hL hF
    obtain ⟨t2, a1, b1⟩ := kk u t T'.heap (locs ++ L) e1.symm (by rw [← e2]; exact X'.warmed.alike) hp hb k1 k2 k3 T' rfl X'
    exact ⟨t2, st t2 a1, b1⟩
  · obtain ⟨k1, k2, k3⟩ := vx_keep h0 e1 hS hAX hf hL hF
    obtain ⟨t2, a1, b1⟩ := kx E ce q u t T'.heap (locs ++ L) e1.symm (by rw [← e2]; exact X'.warmed.alike) hp hb k1 k2 k3 (by rw [e1]; exact hce) hcv hcl T' rfl X'
    exact ⟨t2, st.trans a1, b1⟩
/-- caught by the row x of this method's table; the rows ahead don't take it -/
theorem vx_catch {own name : String} {E : String} {ce : Cell} {q : Addr} (hown : s.vm.findClass own = some m.cls) (pre : List ExceptionTableEntry) (x : ExceptionTableEntry) (suf : List ExceptionTableEntry) (hsplit : c.exceptionTable.toList = pre ++ x :: suf)
    (hpass : ∀ z ∈ pre, covers z pc = false ∨ (z.catchType ≠ 0 ∧ ∃ nm : String, (Cond.classLink own z.catchType nm).before args s = true ∧ va_Nc E nm s)) (hx : covers x pc = true) (h0 : x.catchType ≠ 0)
    (hlink : (Cond.classLink own x.catchType name).before args s = true) (hcast : (Cond.castable E name).before args s = true) (hcell : H[q]? = some ce) (hv : ce.vm = .none) (hcl : s.vm.findClass E = some ce.cls)
    (kk : W p l e R s m args below meth c H locs cells slots Q (F0 m x.handlerPc ls [.ref q])) : vx_W p l e R s m args below meth c H locs cells slots Q (F0 m pc ls rest) q := by
  intro T hT X
  have hpl : e.platform.magicAccessors = ({} : Platform).magicAccessors := by rw [X.admits.platform]
  obtain ⟨c3, c4, hc3, hc4, hasg⟩ := Cond.castable_spec hcast
  cases Option.some.inj (hc3.symm.trans hcl)
  obtain ⟨c5, hc5, hcl5⟩ := Cond.classLink_spec hown hlink e.platform hpl
  cases Option.some.inj (hc4.symm.trans hc5)
  obtain ⟨vm', X', st⟩ := X.thenCaughtThrough q (g := F0 m pc ls rest) rfl (Steps.refl _) (by rw [hT]; exact hcell) (by rw [hv]; rfl) (by obtain ⟨k9, h9, -⟩ := Vm.findClass_spec hcl; exact ⟨k9, h9⟩) pre x suf hsplit
    (fun z hz => by
      rcases hpass z hz with h | ⟨hz0, nm, hl1, hn1⟩
      · exact Or.inl h
      · obtain ⟨c6, hc6, hcl6⟩ := Cond.classLink_spec hown hl1 e.platform hpl
        obtain ⟨a8, b8, h1, h2, h3⟩ := hn1
        cases Option.some.inj (h1.symm.trans hcl)
        cases Option.some.inj (h2.symm.trans hc6)
        exact Or.inr ⟨hz0, _, hcl6, h3⟩) hx (Or.inr ⟨h0, c4, hcl5, hasg⟩)
  obtain ⟨t, a1, b1⟩ := kk (T.setVm vm') hT X'
  exact ⟨t, st.trans a1, b1⟩
end Rows
section Ends
variable {p : Program} {l : Launch} {e : Env} {R : Room} {s : State} {m : MethodId} {args : Array Value} {below : List Frame} {meth : Method} {c : Code} {H : Heap} {locs : List Loc} {cells slots : Nat} {Q : State → Prop}
variable {mc ms : Nat} {free : Addr → Prop} {A0 A1 : Nat → Prop} {H0 : Heap} {a : Array Value} {ls : Array Slot} {st0 rest : List Value}
variable {Qc : Array Value → State → Outcome → State → Prop} {XC : String → State → State → Prop}
/-- what a body that may throw owes at its end -/
def vx_MQ (below : List Frame) (Qc : Array Value → State → Outcome → State → Prop) (XC : String → State → State → Prop) (a : Array Value) (s : State) (mc ms : Nat) (free : Addr → Prop) : State → Prop := fun t =>
  ∃ o, t.status = .running ∧ Ended t below o ∧ vx_Q Qc XC mc ms free a s o t
theorem vx_ret {g : JFrame} {mc ms : Nat} (k : W p l e R s m args below meth c H locs cells slots (MQ below Qc args s mc ms free) g) : W p l e R s m args below meth c H locs cells slots (vx_MQ below Qc XC args s mc ms free) g := by
  intro T hT X
  obtain ⟨t, a1, o, b1, b2, b3, b4⟩ := k T hT X
  exact ⟨t, a1, o, b1, b2, Or.inl ⟨b3, b4⟩⟩
/-- not caught here: it goes on to the caller -/
theorem vx_widen {g : JFrame} {q : Addr} {k n : Nat} (h1 : cells ≤ k) (h2 : slots ≤ n) (kk : vx_W p l e R s m args below meth c H locs k n Q g q) : vx_W p l e R s m args below meth c H locs cells slots Q g q := fun T hT X => kk T hT (stand_widen X h1 h2)
theorem vx_out {pc : Nat} {E : String} {ce : Cell} {q : Addr} {mc ms : Nat} (hout : ∀ x ∈ c.exceptionTable.toList, covers x pc = false) (hlocks : meth.locks = false) (hcell : H[q]? = some ce) (hv : ce.vm = .none) (hcl : s.vm.findClass E = some ce.cls)
    (hx : ∀ t : State, t.heap = H → s.vm.Alike t.vm → XC E s t) (hf : ∀ z ∈ locs, free z.base) (hc : cells ≤ mc) (hs : slots ≤ ms) :
    vx_W p l e R s m args below meth c H locs cells slots (vx_MQ below Qc XC args s mc ms free) (F0 m pc ls rest) q := by
  intro T hT X
  obtain ⟨st1, hrun, hend, hW, hsm⟩ := X.leaveThrown q (g := F0 m pc ls rest) rfl rfl rfl hout hlocks
  have hcell9 : (T.setFrames (.throwing q :: below)).heap[q]? = some ce := by
    show T.heap[q]? = some ce
    rw [hT]; exact hcell
  exact ⟨_, st1, .threw q, hrun, hend, Or.inr ⟨q, rfl, E, ce, locs, hx _ hT hW.alike, hcell9, hv, hcl, hW, hsm.mono hc hs, hf⟩⟩
theorem vx_frame {U : State} {k n : Nat} (h : s.sameButNew ({ U with vm := s.vm } : State) locs k n) : s.heap.size ≤ U.heap.size ∧ ∀ q : Nat, q < s.heap.size → (∀ z ∈ locs, z.base ≠ q) → U.heap[q]? = s.heap[q]? := by
  obtain ⟨-, h2, -, -, -, h6⟩ := h
  refine ⟨h2, fun q hq hz => ?_⟩
  obtain ⟨c9, e1, e2, e3, e4⟩ := h6 q _ (Array.getElem?_eq_getElem hq)
  have hs : c9.slots = (s.heap[q]).slots := Array.ext_getElem? fun i => e4 i fun hm => hz _ hm rfl
  have h9 : c9 = s.heap[q] := by
    rw [hs] at e2
    exact e2
  have e5 : U.heap[q]? = some c9 := e1
  rw [e5, h9, Array.getElem?_eq_getElem hq]
/-- the words of a throw but the four that speak of the heap -/
def vx_no (w : Cond) : Bool := decide (w ≠ .isRef (.static Bundle.tN "UNASSIGNED_STACK" Bundle.steD)) && decide (w ≠ .isRef (.static Bundle.tN "SUPPRESSED_SENTINEL" Bundle.listD)) && decide (w ≠ .laysStatic Bundle.tN "UNASSIGNED_STACK" Bundle.steD) && decide (w ≠ .laysStatic Bundle.tN "SUPPRESSED_SENTINEL" Bundle.listD)
def vx_at0 (own : String) (ic : Nat) (X : String) (names : List String) : List Cond := (Bundle.ownAtoms0 own ic X names).filter vx_no
def vx_atS (own : String) (ic : Nat) (X : String) (names : List String) : List Cond := (Bundle.ownAtoms own ic X names).filter vx_no
/-- a word that the tables alone decide, or a good one -/
def vx_ot (w : Cond) : Bool := w.onTables || goodWord w
theorem vx_ot_at {args a' : Array Value} {s U : State} {w : Cond} (hW : s.WarmedH U.vm) (hvm : s.vm = U.vm) (hg : vx_ot w = true) (h : w.before args s = true) : w.before a' U = true := by
  simp only [vx_ot, Bool.or_eq_true] at hg
  rcases hg with hg | hg
  · exact va_tabs hg hvm h
  · exact word_at hW (good_of_word hg) h
/-- a list's words: the good ones out of the method's own list, the others by premises of their own -/
theorem vx_hat {args : Array Value} {s : State} {L B : List Cond} (h1 : ∀ w ∈ L.filter goodWord, w.before args s = true) (h2 : ∀ w ∈ L.filter (fun w => !goodWord w), w ∈ B) (h3 : ∀ w ∈ B, w.before args s = true) : ∀ w ∈ L, w.before args s = true := by
  intro w hw
  by_cases g : goodWord w = true
  · exact h1 w (List.mem_filter.mpr ⟨hw, g⟩)
  · refine h3 w (h2 w (List.mem_filter.mpr ⟨hw, ?_⟩))
    show (!goodWord w) = true
    cases hgw : goodWord w
    · rfl
    · exact absurd hgw g
theorem vx_c {args : Array Value} {s : State} {w : Cond} {B : List Cond} (h : w.before args s = true) (t : ∀ w ∈ B, w.before args s = true) : ∀ w' ∈ w :: B, w'.before args s = true := fun w' h' => (List.mem_cons.mp h').elim (fun e => by rw [e]; exact h) (t w')
theorem vx_n {args : Array Value} {s : State} : ∀ w ∈ ([] : List Cond), w.before args s = true := fun _ h => nomatch h
theorem vx_own {args : Array Value} {s : State} {L : List Cond} (h1 : ∀ w ∈ L.filter vx_no, w.before args s = true)
    (hU : (Cond.isRef (.static Bundle.tN "UNASSIGNED_STACK" Bundle.steD)).before args s = true) (hN : (Cond.isRef (.static Bundle.tN "SUPPRESSED_SENTINEL" Bundle.listD)).before args s = true)
    (lU : (Cond.laysStatic Bundle.tN "UNASSIGNED_STACK" Bundle.steD).before args s = true) (lN : (Cond.laysStatic Bundle.tN "SUPPRESSED_SENTINEL" Bundle.listD).before args s = true) : ∀ w ∈ L, w.before args s = true := by
  intro w hw
  by_cases e1 : w = .isRef (.static Bundle.tN "UNASSIGNED_STACK" Bundle.steD)
  · rw [e1]; exact hU
  · by_cases e2 : w = .isRef (.static Bundle.tN "SUPPRESSED_SENTINEL" Bundle.listD)
    · rw [e2]; exact hN
    · by_cases e3 : w = .laysStatic Bundle.tN "UNASSIGNED_STACK" Bundle.steD
      · rw [e3]; exact lU
      · by_cases e4 : w = .laysStatic Bundle.tN "SUPPRESSED_SENTINEL" Bundle.listD
        · rw [e4]; exact lN
        · exact h1 w (List.mem_filter.mpr ⟨hw, by unfold vx_no; rw [decide_eq_true e1, decide_eq_true e2, decide_eq_true e3, decide_eq_true e4]; rfl⟩)
/-- where a static field lies, its class's statics cell in H -/
def vx_L (C n d : String) (A : Nat → Prop) (U : State) (H : Heap) : Prop := ∃ (c : ClassId) (k : Class) (i : Nat) (f : Field) (a : Nat) (cell : Cell), U.vm.findClass C = some c ∧ U.fieldFound? C n d = some (c, k, i, f) ∧ f.isStatic = true ∧ k.statics = some a ∧ H[a]? = some cell ∧ cell.vm.isStatics = true ∧ cell.cls = c ∧ f.slot < cell.slots.size ∧ k.staticTypes[f.slot]? = some f.type ∧ ¬ A a
theorem vx_L.moved {C n d : String} {A : Nat → Prop} {u U : State} {H : Heap} (hvm : u.vm.Alike U.vm) (h : vx_L C n d A u H) : vx_L C n d A U H := by
  obtain ⟨c, k, i, f, a, cell, h1, h2, h3, h4, h5, h6, h7, h8, h9, h10⟩ := h
  obtain ⟨k', hi', he⟩ := State.fieldFound?_setVm hvm h2
  exact ⟨c, k', i, f, a, cell, by rw [hvm.findClass]; exact h1, hi', h3, by rw [he]; exact h4, h5, h6, h7, h8, by rw [he]; exact h9, h10⟩
theorem vx_L.kept {C n d : String} {A : Nat → Prop} {U : State} {H H1 : Heap} (h : vx_L C n d A U H) (hq : ∀ a : Nat, a < H.size → ¬ A a → H1[a]? = H[a]?) : vx_L C n d A U H1 := by
  obtain ⟨c, k, i, f, a, cell, h1, h2, h3, h4, h5, h6, h7, h8, h9, h10⟩ := h
  exact ⟨c, k, i, f, a, cell, h1, h2, h3, h4, by rw [hq a (Array.getElem?_eq_some_iff.mp h5).1 h10]; exact h5, h6, h7, h8, h9, h10⟩
theorem vx_L.narrow {C n d : String} {A B : Nat → Prop} {U : State} {H : Heap} (h : vx_L C n d A U H) (hAB : ∀ q, B q → A q) : vx_L C n d B U H := by
  obtain ⟨c, k, i, f, a, cell, h1, h2, h3, h4, h5, h6, h7, h8, h9, h10⟩ := h
  exact ⟨c, k, i, f, a, cell, h1, h2, h3, h4, h5, h6, h7, h8, h9, fun z => h10 (hAB _ z)⟩
theorem vx_L.word {C n d : String} {A : Nat → Prop} {s : State} {args : Array Value} (h : vx_L C n d A s s.heap) : (Cond.laysStatic C n d).before args s = true := by
  obtain ⟨c, k, i, f, a, cell, h1, h2, h3, h4, h5, h6, h7, h8, h9, -⟩ := h
  show (Cond.laysStatic C n d).holds args s none s [] = true
  exact Cond.laysStatic_of h1 h2 h3 h4 h5 h6 h7 h8 h9
/-- .. and what it holds: null or some reference -/
def vx_Zq (C n d : String) (A : Nat → Prop) (U : State) (H : Heap) : Prop := va_Zq C n d A U H ∧ vx_L C n d A U H
theorem vx_Zq.moved {C n d : String} {A : Nat → Prop} {u U : State} {H : Heap} (hvm : u.vm.Alike U.vm) (h : vx_Zq C n d A u H) : vx_Zq C n d A U H := ⟨va_Zq.moved hvm h.1, vx_L.moved hvm h.2⟩
theorem vx_Zq.kept {C n d : String} {A : Nat → Prop} {U : State} {H H1 : Heap} (h : vx_Zq C n d A U H) (hq : ∀ a : Nat, a < H.size → ¬ A a → H1[a]? = H[a]?) : vx_Zq C n d A U H1 := ⟨va_Zq.kept h.1 hq, vx_L.kept h.2 hq⟩
theorem vx_Zq.narrow {C n d : String} {A B : Nat → Prop} {U : State} {H : Heap} (h : vx_Zq C n d A U H) (hAB : ∀ q, B q → A q) : vx_Zq C n d B U H := ⟨va_Zq.narrow h.1 hAB, vx_L.narrow h.2 hAB⟩
theorem vx_Zqof {args : Array Value} {s : State} {C n d : String} {A : Nat → Prop} (hl : (Cond.laysStatic C n d).before args s = true) (hini : (Cond.initialized C).before args s = true) (h : (Cond.isRef (.static C n d)).before args s = true) (hA : ∀ a : Nat, a < s.heap.size → ¬ A a) : vx_Zq C n d A s s.heap := by
  refine ⟨va_Zqof hl hini h hA, ?_⟩
  obtain ⟨c, k, i, f, a, cell, h1, h2, h3, h4, h5, h6, h7, h8, h9⟩ := Cond.laysStatic_spec hl
  exact ⟨c, k, i, f, a, cell, h1, h2, h3, h4, h5, h6, h7, h8, h9, hA a (Array.getElem?_eq_some_iff.mp h5).1⟩
theorem vx_isRef {C n d : String} {v : Value} {A : Nat → Prop} {s : State} {args : Array Value} (h : va_Z C n d v A s s.heap) (hv : v.isRef = true) : (Cond.isRef (.static C n d)).before args s = true := by
  obtain ⟨cf, kf, fi, f, a, cell, h1, h2, h3, h4, h5, h6, h7, -⟩ := h
  have he : (Term.static C n d).eval args s none [] s = some v := by
    simp [Term.eval, State.fieldNamed?, h1, h2, h4, h5, h6, h7]
  simp only [Cond.before, Cond.holds, Cond.value, he]
  cases v <;> simp_all [Value.isRef]
theorem vx_isRefq {C n d : String} {A : Nat → Prop} {s : State} {args : Array Value} (h : va_Zq C n d A s s.heap) : (Cond.isRef (.static C n d)).before args s = true := by
  rcases h with h | ⟨t, h⟩
  · exact vx_isRef h rfl
  · exact vx_isRef h rfl
/-- the same frame, seen from here: as if the method were called anew in this heap -/
theorem vx_rebase {T : State} (X : Stand p l e R s m args below meth c T locs cells slots) {R' : Room} (hf : R'.frames ≤ R.frames) (hl : R'.locals ≤ R.locals) (hc : cells + R'.cells ≤ R.cells) (hs : slots + R'.slots ≤ R.slots) :
    Stand p l e R' ((T.setVm s.vm).setFrames (.invoking m args :: below)) m args below meth c T [] 0 0 := by
  have htop : (T.setVm s.vm).topJava?.isSome := X.here.top
  have hF : ((T.setVm s.vm).setFrames (.invoking m args :: below)).frames = .invoking m args :: below := State.frames_setFrames _ (State.cur_lt_of_top htop)
  obtain ⟨g₀, hg0⟩ := Option.isSome_iff_exists.mp htop
  obtain ⟨r, hr⟩ := State.topJava?_eq_some.mp hg0
  have hl9 : e.platform.stackLimits (T.setVm s.vm).me = e.platform.stackLimits s.me := X.limits
  have hb9 : (T.setVm s.vm).me.stackBytes = s.me.stackBytes := X.bytes
  refine ⟨X.admits, X.cas, X.clock, hF, ?_, X.hears, X.method, X.code, X.here, X.tail, X.warmed, ?_, ?_, ?_⟩
  · have h := X.room
    have hU : ((T.setVm s.vm).setFrames (.invoking m args :: below)).localsInUse = s.localsInUse := by
      rw [State.localsInUse_invoking hF (meth := meth) (c := c) X.method X.code, State.localsInUse_invoking X.frames X.method X.code]
    simp only [State.hasRoom, Bool.and_eq_true, decide_eq_true_eq] at h ⊢
    obtain ⟨⟨⟨⟨h1, h2, h3, h4, h5, h6⟩, h7⟩, h8⟩, h9⟩ := h
    rw [X.frames, List.length_cons] at h2 h3
    have q1 := X.heapSize
    have q2 := X.used
    simp only [hF, hU, List.length_cons, State.stackLimits_setFrames, State.stackBytes_setFrames, hl9, hb9]
    refine ⟨⟨⟨⟨by omega, by omega, by omega, by omega, by omega, h6⟩, ?_⟩, ?_⟩, X.book⟩
    · show T.heap.size + R'.cells ≤ e.platform.maxCells
      omega
    · show T.slotsUsed + R'.slots ≤ e.platform.maxSlots
      omega
  · rw [State.stackLimits_setFrames]; rfl
  · rw [State.stackBytes_setFrames]; rfl
  · refine ⟨?_, Nat.le_refl _, Nat.le_refl _, ?_, ?_, fun a c9 h9 => ⟨c9, h9, rfl, rfl, fun _ _ => rfl⟩⟩
    · obtain ⟨t, ht, -⟩ := State.frames_cons hr
      show T.setVm s.vm = { ((T.setVm s.vm).setFrames (.invoking m args :: below)).setFrames (T.setVm s.vm).frames with heap := T.heap, slotsUsed := T.slotsUsed }
      rw [State.setFrames_setFrames, State.setFrames_self ht]
      rfl
    · show T.slotsUsed = T.slotsUsed + ((T.heap.toList.drop T.heap.size).map (·.slots.size)).sum
      rw [List.drop_eq_nil_of_le (Nat.le_of_eq Array.length_toList)]
      rfl
    · show ((T.heap.toList.drop T.heap.size).map (·.slots.size)).sum ≤ 0
      rw [List.drop_eq_nil_of_le (Nat.le_of_eq Array.length_toList)]
      exact Nat.le_refl _
/-- 'throw new E()': new; dup; invokespecial; athrow -/
theorem vx_throw0 {cc : ByteArray} {pc : Nat} (hexec : p.tables.exec = Jvm.exec) (hb : c.code = cc) (hl : l.stackTraces = false) {own cls : String} {names : List String} {ik ic mc ms : Nat} {A : Nat → Prop}
    (hown : s.vm.findClass own = some m.cls) (hcls : Bundle.fit cls = true) (hnames : ∀ n ∈ names, Bundle.fit n = true)
    (hk : (Cond.classLink own ik cls).before args s = true) (hini : (Cond.initialized cls).before args s = true) (hat : ∀ w ∈ vx_at0 own ic cls names, w.before args s = true)
    (hgood : ∀ w ∈ Cond.classLink own ik cls :: Cond.initialized cls :: vx_at0 own ic cls names, vx_ot w = true)
    (hU : vx_Zq Bundle.tN "UNASSIGNED_STACK" Bundle.steD A s s.heap) (hN : vx_Zq Bundle.tN "SUPPRESSED_SENTINEL" Bundle.listD A s s.heap) (hS : va_S A s.heap H locs) (hsize : ls.size = c.maxLocals)
    (d0 : decode cc pc = .ok (.new ik, 3)) (d3 : decode cc (pc + 3) = .ok (.dup, 1)) (d4 : decode cc (pc + 4) = .ok (.invokespecial ic, 3)) (d7 : decode cc (pc + 7) = .ok (.athrow, 1))
    (hout : ∀ x ∈ c.exceptionTable.toList, covers x (pc + 7) = false)
    (hRframes : names.length + 3 < R.frames) (hRlocals : (rest.map fun v => v.category).sum + (13 * (names.length + 1) + 42) ≤ R.locals) (hRcells : cells + 1 ≤ R.cells) (hRslots : slots + 6 ≤ R.slots) (hlocks : meth.locks = false)
    (hx : ∀ t : State, s.vm.Alike t.vm → H.size ≤ t.heap.size → (∀ q : Nat, q < H.size → t.heap[q]? = H[q]?) → XC cls s t)
    (hf : ∀ z ∈ locs, free z.base) (hc : cells + 1 ≤ mc) (hs : slots + 6 ≤ ms) :
    W p l e R s m args below meth c H locs cells slots (vx_MQ below Qc XC args s mc ms free) (F0 m pc ls rest) := by
  intro T hT X
  have htr : e.platform.stackTraces = false := (show e.platform.stackTraces = l.stackTraces by rw [X.admits.platform]).trans hl
  have Y := vx_rebase X (R' := { frames := R.frames, locals := R.locals, cells := 1, slots := 6 }) (Nat.le_refl _) (Nat.le_refl _) hRcells hRslots
  obtain ⟨s', hA⟩ : ∃ z, z = (T.setVm s.vm).setFrames (.invoking m args :: below) := ⟨_, rfl⟩
  rw [← hA] at Y
  have hvm : s'.vm = s.vm := by rw [hA]; rfl
  have hhp : s'.heap = H := by rw [hA]; exact hT
  have hW0 : s.WarmedH s'.vm := by rw [hvm]; exact State.WarmedH.refl s
  have hat' : ∀ w ∈ vx_at0 own ic cls names, w.before args s' = true := fun w hw => vx_ot_at hW0 hvm.symm (hgood w (List.mem_cons_of_mem _ (List.mem_cons_of_mem _ hw))) (hat w hw)
  have hk' : (Cond.classLink own ik cls).before args s' = true := vx_ot_at hW0 hvm.symm (hgood _ List.mem_cons_self) hk
  have hini' : (Cond.initialized cls).before args s' = true := vx_ot_at hW0 hvm.symm (hgood _ (List.mem_cons_of_mem _ List.mem_cons_self)) hini
  have hU' : vx_Zq Bundle.tN "UNASSIGNED_STACK" Bundle.steD A s' s'.heap := by rw [hhp]; exact vx_Zq.moved hW0.alike (hU.kept hS.2.1)
  have hN' : vx_Zq Bundle.tN "SUPPRESSED_SENTINEL" Bundle.listD A s' s'.heap := by rw [hhp]; exact vx_Zq.moved hW0.alike (hN.kept hS.2.1)
  have h : ∀ w ∈ Bundle.ownAtoms0 own ic cls names, w.before args s' = true := vx_own hat' (vx_isRefq hU'.1) (vx_isRefq hN'.1) hU'.2.word hN'.2.word
  have hown' : s'.vm.findClass own = some m.cls := by rw [hvm]; exact hown
  have hins : (Cond.instantiable cls 6).before args s' = true := h _ (by simp [Bundle.ownAtoms0])
  obtain ⟨vm₁, cX, kX, hfX, hkX, -, -, X₁, st1⟩ := Y.newCold hexec (own := own) (C := cls) (index := ik) (n := 6) hown' hk' hins hini'
    (g := F0 m pc ls rest) rfl (by rw [hb]; exact d0) (Nat.le_refl _) (Nat.le_refl _)
  generalize hT1 : (T.setVm vm₁).pushCell { cls := cX, slots := kX.instanceTypes.map defaultValue, vm := .none } = T1 at X₁ st1
  have hcat : (Value.ref T.heap.size).category = 1 := rfl
  have hcellA : T1.heap[T.heap.size]? = some (freshCell cX kX) := by rw [← hT1]; exact State.heap_pushCell_size _ _
  have d3' : decode c.code (pc + 3) = .ok (.dup, 1) := by rw [hb]; exact d3
  obtain ⟨U, hsteps, hrun, hend, hW, hsame, ce, hce, hO⟩ := X₁.ctorThrow0 hexec htr (own := own) (cls := cls) (names := names) (ic := ic) hown' hcls hnames h (fun x hx => nomatch hx) hfX hkX hcellA (by rw [hhp, hT]; exact Nat.le_refl _)
    (g := { method := m, pc := pc + 4, locals := ls, stack := .ref T.heap.size :: .ref T.heap.size :: rest, locked := none }) rfl hsize rfl rfl (rest := rest) rfl
    (by rw [hb]; exact d4) (by rw [hb]; exact d7) hout hRframes (by simp only [List.map_cons, List.sum_cons, hcat]; omega) hlocks
  obtain ⟨f1, f2⟩ := vx_frame hsame
  rw [hhp] at f1 f2
  have hWs : s.WarmedH U.vm := State.WarmedH.trans hW0 hW
  have hcl : s.vm.findClass cls = some ce.cls := by
    have h9 := hO.cls
    rw [hvm] at h9
    exact h9
  have hall : s.sameButNew ({ U with vm := s.vm } : State) locs mc ms := by
    subst hA
    obtain ⟨e1, e2⟩ := hsame
    rw [State.setFrames_setFrames] at e1
    have h2 : (T.setVm s.vm).sameButNew ({ U with vm := s.vm } : State) [] (0 + 1) (0 + 6) := ⟨e1, e2⟩
    have h3 := X.same.trans h2
    rw [List.append_nil] at h3
    exact h3.mono hc hs
  refine ⟨U, ?_, .threw T.heap.size, hrun, hend, Or.inr ⟨T.heap.size, rfl, cls, ce, locs, hx U hWs.alike f1 (fun q hq => f2 q hq (fun z hz => nomatch hz)), hce, hO.vm, hcl, hWs, hall, hf⟩⟩
  refine st1 _ ?_
  show Steps p.tables e below (T1.setTop { method := m, pc := pc + 3, locals := ls, stack := .ref T.heap.size :: rest, locked := none }) _
  jvm_step X₁.here [X₁.here.top, hexec, d3', Value.category]
  exact hsteps
/-- 'throw new E("text")': new; dup; ldc; invokespecial; athrow -/
theorem vx_throwS {cc : ByteArray} {pc : Nat} (hexec : p.tables.exec = Jvm.exec) (hb : c.code = cc) (hl : l.stackTraces = false) {own cls text : String} {names : List String} {ik is ic mc ms sa : Nat} {A : Nat → Prop}
    (hown : s.vm.findClass own = some m.cls) (hcls : Bundle.fit cls = true) (hnames : ∀ n ∈ names, Bundle.fit n = true)
    (hk : (Cond.classLink own ik cls).before args s = true) (hini : (Cond.initialized cls).before args s = true) (hstr : vk_R own is text sa s) (hat : ∀ w ∈ vx_atS own ic cls names, w.before args s = true)
    (hgood : ∀ w ∈ Cond.classLink own ik cls :: Cond.initialized cls :: vx_atS own ic cls names, vx_ot w = true)
    (hU : vx_Zq Bundle.tN "UNASSIGNED_STACK" Bundle.steD A s s.heap) (hN : vx_Zq Bundle.tN "SUPPRESSED_SENTINEL" Bundle.listD A s s.heap) (hS : va_S A s.heap H locs) (hsize : ls.size = c.maxLocals)
    (d0 : decode cc pc = .ok (.new ik, 3)) (d3 : decode cc (pc + 3) = .ok (.dup, 1)) (d4 : decode cc (pc + 4) = .ok (.ldc is, 2)) (d6 : decode cc (pc + 6) = .ok (.invokespecial ic, 3)) (d9 : decode cc (pc + 9) = .ok (.athrow, 1))
    (hout : ∀ x ∈ c.exceptionTable.toList, covers x (pc + 9) = false)
    (hRframes : names.length + 3 < R.frames) (hRlocals : (rest.map fun v => v.category).sum + (13 * (names.length + 1) + 43) ≤ R.locals) (hRcells : cells + 1 ≤ R.cells) (hRslots : slots + 6 ≤ R.slots) (hlocks : meth.locks = false)
    (hx : ∀ t : State, s.vm.Alike t.vm → H.size ≤ t.heap.size → (∀ q : Nat, q < H.size → t.heap[q]? = H[q]?) → XC cls s t)
    (hf : ∀ z ∈ locs, free z.base) (hc : cells + 1 ≤ mc) (hs : slots + 6 ≤ ms) :
    W p l e R s m args below meth c H locs cells slots (vx_MQ below Qc XC args s mc ms free) (F0 m pc ls rest) := by
  intro T hT X
  have htr : e.platform.stackTraces = false := (show e.platform.stackTraces = l.stackTraces by rw [X.admits.platform]).trans hl
  have Y := vx_rebase X (R' := { frames := R.frames, locals := R.locals, cells := 1, slots := 6 }) (Nat.le_refl _) (Nat.le_refl _) hRcells hRslots
  obtain ⟨s', hA⟩ : ∃ z, z = (T.setVm s.vm).setFrames (.invoking m args :: below) := ⟨_, rfl⟩
  rw [← hA] at Y
  have hvm : s'.vm = s.vm := by rw [hA]; rfl
  have hhp : s'.heap = H := by rw [hA]; exact hT
  have hW0 : s.WarmedH s'.vm := by rw [hvm]; exact State.WarmedH.refl s
  have hat' : ∀ w ∈ vx_atS own ic cls names, w.before args s' = true := fun w hw => vx_ot_at hW0 hvm.symm (hgood w (List.mem_cons_of_mem _ (List.mem_cons_of_mem _ hw))) (hat w hw)
  have hk' : (Cond.classLink own ik cls).before args s' = true := vx_ot_at hW0 hvm.symm (hgood _ List.mem_cons_self) hk
  have hini' : (Cond.initialized cls).before args s' = true := vx_ot_at hW0 hvm.symm (hgood _ (List.mem_cons_of_mem _ List.mem_cons_self)) hini
  have hU' : vx_Zq Bundle.tN "UNASSIGNED_STACK" Bundle.steD A s' s'.heap := by rw [hhp]; exact vx_Zq.moved hW0.alike (hU.kept hS.2.1)
  have hN' : vx_Zq Bundle.tN "SUPPRESSED_SENTINEL" Bundle.listD A s' s'.heap := by rw [hhp]; exact vx_Zq.moved hW0.alike (hN.kept hS.2.1)
  have h : ∀ w ∈ Bundle.ownAtoms own ic cls names, w.before args s' = true := vx_own hat' (vx_isRefq hU'.1) (vx_isRefq hN'.1) hU'.2.word hN'.2.word
  have hown' : s'.vm.findClass own = some m.cls := by rw [hvm]; exact hown
  have hins : (Cond.instantiable cls 6).before args s' = true := h _ (by simp [Bundle.ownAtoms])
  obtain ⟨vm₁, cX, kX, hfX, hkX, -, -, X₁, st1⟩ := Y.newCold hexec (own := own) (C := cls) (index := ik) (n := 6) hown' hk' hins hini'
    (g := F0 m pc ls rest) rfl (by rw [hb]; exact d0) (Nat.le_refl _) (Nat.le_refl _)
  generalize hT1 : (T.setVm vm₁).pushCell { cls := cX, slots := kX.instanceTypes.map defaultValue, vm := .none } = T1 at X₁ st1
  have hcat : (Value.ref T.heap.size).category = 1 := rfl
  have hcellA : T1.heap[T.heap.size]? = some (freshCell cX kX) := by rw [← hT1]; exact State.heap_pushCell_size _ _
  have d3' : decode c.code (pc + 3) = .ok (.dup, 1) := by rw [hb]; exact d3
  have d4' : decode c.code (pc + 4) = .ok (.ldc is, 2) := by rw [hb]; exact d4
  have hstr' : vk_R own is text sa s' := vk_R.warm hW0 hstr
  obtain ⟨U, hsteps, hrun, hend, hW, hsame, ce, hce, hO⟩ := X₁.ctorThrowS hexec htr (own := own) (cls := cls) (names := names) (ic := ic) hown' hcls hnames h (fun x hx => nomatch hx) hfX hkX hcellA (by rw [hhp, hT]; exact Nat.le_refl _) (msg := .ref sa) rfl
    (g := { method := m, pc := pc + 6, locals := ls, stack := .ref sa :: .ref T.heap.size :: .ref T.heap.size :: rest, locked := none }) rfl hsize rfl rfl (rest := rest) rfl
    (by rw [hb]; exact d6) (by rw [hb]; exact d9) hout hRframes (by simp only [List.map_cons, List.sum_cons, hcat]; omega) hlocks
  obtain ⟨f1, f2⟩ := vx_frame hsame
  rw [hhp] at f1 f2
  have hWs : s.WarmedH U.vm := State.WarmedH.trans hW0 hW
  have hcl : s.vm.findClass cls = some ce.cls := by
    have h9 := hO.cls
    rw [hvm] at h9
    exact h9
  have hall : s.sameButNew ({ U with vm := s.vm } : State) locs mc ms := by
    subst hA
    obtain ⟨e1, e2⟩ := hsame
    rw [State.setFrames_setFrames] at e1
    have h2 : (T.setVm s.vm).sameButNew ({ U with vm := s.vm } : State) [] (0 + 1) (0 + 6) := ⟨e1, e2⟩
    have h3 := X.same.trans h2
    rw [List.append_nil] at h3
    exact h3.mono hc hs
  refine ⟨U, ?_, .threw T.heap.size, hrun, hend, Or.inr ⟨T.heap.size, rfl, cls, ce, locs, hx U hWs.alike f1 (fun q hq => f2 q hq (fun z hz => nomatch hz)), hce, hO.vm, hcl, hWs, hall, hf⟩⟩
  refine st1 _ ?_
  show Steps p.tables e below (T1.setTop { method := m, pc := pc + 3, locals := ls, stack := .ref T.heap.size :: rest, locked := none }) _
  jvm_step X₁.here [X₁.here.top, hexec, d3', Value.category]
  exact X₁.ldcString hexec (own := own) (text := text) (index := is) (a := sa) hown' hstr'.1 hstr'.2
    (g := { method := m, pc := pc + 4, locals := ls, stack := .ref T.heap.size :: .ref T.heap.size :: rest, locked := none }) rfl d4' _ hsteps
/-- 'throw new E("text")', the text by a wide index -/
theorem vx_throwSW {cc : ByteArray} {pc : Nat} (hexec : p.tables.exec = Jvm.exec) (hb : c.code = cc) (hl : l.stackTraces = false) {own cls text : String} {names : List String} {ik is ic mc ms sa : Nat} {A : Nat → Prop}
    (hown : s.vm.findClass own = some m.cls) (hcls : Bundle.fit cls = true) (hnames : ∀ n ∈ names, Bundle.fit n = true)
    (hk : (Cond.classLink own ik cls).before args s = true) (hini : (Cond.initialized cls).before args s = true) (hstr : vk_R own is text sa s) (hat : ∀ w ∈ vx_atS own ic cls names, w.before args s = true)
    (hgood : ∀ w ∈ Cond.classLink own ik cls :: Cond.initialized cls :: vx_atS own ic cls names, vx_ot w = true)
    (hU : vx_Zq Bundle.tN "UNASSIGNED_STACK" Bundle.steD A s s.heap) (hN : vx_Zq Bundle.tN "SUPPRESSED_SENTINEL" Bundle.listD A s s.heap) (hS : va_S A s.heap H locs) (hsize : ls.size = c.maxLocals)
    (d0 : decode cc pc = .ok (.new ik, 3)) (d3 : decode cc (pc + 3) = .ok (.dup, 1)) (d4 : decode cc (pc + 4) = .ok (.ldc_w is, 3)) (d7 : decode cc (pc + 7) = .ok (.invokespecial ic, 3)) (d10 : decode cc (pc + 10) = .ok (.athrow, 1))
    (hout : ∀ x ∈ c.exceptionTable.toList, covers x (pc + 10) = false)
    (hRframes : names.length + 3 < R.frames) (hRlocals : (rest.map fun v => v.category).sum + (13 * (names.length + 1) + 43) ≤ R.locals) (hRcells : cells + 1 ≤ R.cells) (hRslots : slots + 6 ≤ R.slots) (hlocks : meth.locks = false)
    (hx : ∀ t : State, s.vm.Alike t.vm → H.size ≤ t.heap.size → (∀ q : Nat, q < H.size → t.heap[q]? = H[q]?) → XC cls s t)
    (hf : ∀ z ∈ locs, free z.base) (hc : cells + 1 ≤ mc) (hs : slots + 6 ≤ ms) :
    W p l e R s m args below meth c H locs cells slots (vx_MQ below Qc XC args s mc ms free) (F0 m pc ls rest) := by
  intro T hT X
  have htr : e.platform.stackTraces = false := (show e.platform.stackTraces = l.stackTraces by rw [X.admits.platform]).trans hl
  have Y := vx_rebase X (R' := { frames := R.frames, locals := R.locals, cells := 1, slots := 6 }) (Nat.le_refl _) (Nat.le_refl _) hRcells hRslots
  obtain ⟨s', hA⟩ : ∃ z, z = (T.setVm s.vm).setFrames (.invoking m args :: below) := ⟨_, rfl⟩
  rw [← hA] at Y
  have hvm : s'.vm = s.vm := by rw [hA]; rfl
  have hhp : s'.heap = H := by rw [hA]; exact hT
  have hW0 : s.WarmedH s'.vm := by rw [hvm]; exact State.WarmedH.refl s
  have hat' : ∀ w ∈ vx_atS own ic cls names, w.before args s' = true := fun w hw => vx_ot_at hW0 hvm.symm (hgood w (List.mem_cons_of_mem _ (List.mem_cons_of_mem _ hw))) (hat w hw)
  have hk' : (Cond.classLink own ik cls).before args s' = true := vx_ot_at hW0 hvm.symm (hgood _ List.mem_cons_self) hk
  have hini' : (Cond.initialized cls).before args s' = true := vx_ot_at hW0 hvm.symm (hgood _ (List.mem_cons_of_mem _ List.mem_cons_self)) hini
  have hU' : vx_Zq Bundle.tN "UNASSIGNED_STACK" Bundle.steD A s' s'.heap := by rw [hhp]; exact vx_Zq.moved hW0.alike (hU.kept hS.2.1)
  have hN' : vx_Zq Bundle.tN "SUPPRESSED_SENTINEL" Bundle.listD A s' s'.heap := by rw [hhp]; exact vx_Zq.moved hW0.alike (hN.kept hS.2.1)
  have h : ∀ w ∈ Bundle.ownAtoms own ic cls names, w.before args s' = true := vx_own hat' (vx_isRefq hU'.1) (vx_isRefq hN'.1) hU'.2.word hN'.2.word
  have hown' : s'.vm.findClass own = some m.cls := by rw [hvm]; exact hown
  have hins : (Cond.instantiable cls 6).before args s' = true := h _ (by simp [Bundle.ownAtoms])
  obtain ⟨vm₁, cX, kX, hfX, hkX, -, -, X₁, st1⟩ := Y.newCold hexec (own := own) (C := cls) (index := ik) (n := 6) hown' hk' hins hini'
    (g := F0 m pc ls rest) rfl (by rw [hb]; exact d0) (Nat.le_refl _) (Nat.le_refl _)
  generalize hT1 : (T.setVm vm₁).pushCell { cls := cX, slots := kX.instanceTypes.map defaultValue, vm := .none } = T1 at X₁ st1
  have hcat : (Value.ref T.heap.size).category = 1 := rfl
  have hcellA : T1.heap[T.heap.size]? = some (freshCell cX kX) := by rw [← hT1]; exact State.heap_pushCell_size _ _
  have d3' : decode c.code (pc + 3) = .ok (.dup, 1) := by rw [hb]; exact d3
  have d4' : decode c.code (pc + 4) = .ok (.ldc_w is, 3) := by rw [hb]; exact d4
  have hstr' : vk_R own is text sa s' := vk_R.warm hW0 hstr
  obtain ⟨U, hsteps, hrun, hend, hW, hsame, ce, hce, hO⟩ := X₁.ctorThrowS hexec htr (own := own) (cls := cls) (names := names) (ic := ic) hown' hcls hnames h (fun x hx => nomatch hx) hfX hkX hcellA (by rw [hhp, hT]; exact Nat.le_refl _) (msg := .ref sa) rfl
    (g := { method := m, pc := pc + 7, locals := ls, stack := .ref sa :: .ref T.heap.size :: .ref T.heap.size :: rest, locked := none }) rfl hsize rfl rfl (rest := rest) rfl
    (by rw [hb]; exact d7) (by rw [hb]; exact d10) hout hRframes (by simp only [List.map_cons, List.sum_cons, hcat]; omega) hlocks
  obtain ⟨f1, f2⟩ := vx_frame hsame
  rw [hhp] at f1 f2
  have hWs : s.WarmedH U.vm := State.WarmedH.trans hW0 hW
  have hcl : s.vm.findClass cls = some ce.cls := by
    have h9 := hO.cls
    rw [hvm] at h9
    exact h9
  have hall : s.sameButNew ({ U with vm := s.vm } : State) locs mc ms := by
    subst hA
    obtain ⟨e1, e2⟩ := hsame
    rw [State.setFrames_setFrames] at e1
    have h2 : (T.setVm s.vm).sameButNew ({ U with vm := s.vm } : State) [] (0 + 1) (0 + 6) := ⟨e1, e2⟩
    have h3 := X.same.trans h2
    rw [List.append_nil] at h3
    exact h3.mono hc hs
  refine ⟨U, ?_, .threw T.heap.size, hrun, hend, Or.inr ⟨T.heap.size, rfl, cls, ce, locs, hx U hWs.alike f1 (fun q hq => f2 q hq (fun z hz => nomatch hz)), hce, hO.vm, hcl, hWs, hall, hf⟩⟩
  refine st1 _ ?_
  show Steps p.tables e below (T1.setTop { method := m, pc := pc + 3, locals := ls, stack := .ref T.heap.size :: rest, locked := none }) _
  jvm_step X₁.here [X₁.here.top, hexec, d3', Value.category]
  exact X₁.ldcStringW hexec (own := own) (text := text) (index := is) (a := sa) hown' hstr'.1 hstr'.2
    (g := { method := m, pc := pc + 4, locals := ls, stack := .ref T.heap.size :: .ref T.heap.size :: rest, locked := none }) rfl d4' _ hsteps
end Ends
section Bodies
variable {l : Launch}
theorem vx_ofW {y : MethodName} {ws ws' : List Cond} {rm : Room} {Pc : Array Value → State → Prop} {Qc : Array Value → State → Outcome → State → Prop} {XC : String → State → State → Prop} {mc ms : Nat} {free : Addr → Prop} {cc : ByteArray} {maxL : Nat} {ret : Option FieldType}
    (hy : plainName y.cls = true) (hw : ws = Cond.code y cc maxL ret :: ws')
    (body : ∀ p e s m args below meth c s₁, BodyLoose p l y (headSpec ws rm) cc maxL ret e s m args below meth c s₁ → c.maxLocals = maxL → (∀ x ∈ c.exceptionTable.toList, False) → Pc args s →
      W p l e (headSpec ws rm).room s m args below meth c s.heap [] 0 0 (vx_MQ below Qc XC args s mc ms free) (entryFrame m args maxL)) : vx_Met l y ws rm Pc Qc XC mc ms free := by
  refine MetFree.of_bodyS (code := cc) (maxLocals := maxL) (ret := ret) hy ?_ ?_
  · intro args s m h hn
    obtain ⟨meth, c, h1, h2, h3, h4, h5, h6, -, -⟩ := Cond.code_spec hn (atoms_spec (ws := ws) h _ (by rw [hw]; exact List.mem_cons_self))
    exact ⟨meth, c, h1, h2, h3, h4, h5, h6⟩
  · intro p e s m args below meth c s₁ B hml hP _
    have hh0 : s₁.heap = s.heap := by rw [B.state]; rfl
    have ht : ∀ x ∈ c.exceptionTable.toList, False := by
      obtain ⟨meth9, c9, h1, h2, -, -, -, -, h7, -⟩ := Cond.code_spec B.named (atoms_spec (ws := ws) B.pre _ (by rw [hw]; exact List.mem_cons_self))
      cases Option.some.inj (h1.symm.trans B.method)
      cases Option.some.inj (h2.symm.trans (Stand.of_body B).code)
      intro x hx
      rw [Array.isEmpty_iff.mp h7] at hx
      cases hx
    obtain ⟨t, a1, o, b1, b2, b3⟩ := body p e s m args below meth c s₁ B hml ht hP s₁ hh0 (Stand.of_body B)
    exact ⟨t, o, a1, b1, b2, b3⟩
/-- the table of a body with handlers -/
theorem vx_table {p : Program} {x y : MethodName} {S : Spec} {cc bytes : ByteArray} {maxL maxL' : Nat} {ret ret' : Option FieldType} {e : Env} {s s₁ : State} {m : MethodId} {args : Array Value} {below : List Frame} {meth : Method} {c : Code} {hh : List (Nat × Nat × Nat × Nat)}
    (B : BodyLoose p l y S cc maxL ret e s m args below meth c s₁) (h : (Cond.codeWith y bytes maxL' ret' hh).before args s = true) : c.exceptionTable.toList = tableOf hh := by
  obtain ⟨m9, meth9, c9, hn9, h1, h2, -, -, h6, -⟩ := Cond.codeWith_spec h
  cases Option.some.inj (hn9.symm.trans B.named)
  cases Option.some.inj (h1.symm.trans B.method)
  cases Option.some.inj (h2.symm.trans (Stand.of_body B).code)
  rw [← h6, table_eq]
end Bodies
end VXA
/-! ===== END ===== -/
/-! ===== BEGIN a static call of a method with an exception table ===== -/
section VXS
variable {p : Program} {l : Launch} {e : Env} {R : Room} {s : State} {m : MethodId} {args : Array Value} {below : List Frame} {meth : Method} {c : Code} {T : State} {H : Heap} {locs : List Loc} {cells slots : Nat}
abbrev vx_CSW (R : Room) (s : State) (args : Array Value) (own : String) (index : Nat) (y : MethodName) (bytes : ByteArray) (maxL : Nat) (ret : Option FieldType) (hh : List (Nat × Nat × Nat × Nat)) (ws : List Cond) (rm : Room) (mc ms n : Nat) : Prop :=
  (rm.cells = mc ∧ rm.slots = ms ∧ rm.frames + 1 ≤ R.frames ∧ 8 + (maxL + 11) + rm.locals ≤ R.locals ∧ (∀ w ∈ ws, ∀ (a' : Array Value) (U : State), s.WarmedH U.vm → w.before a' U = true) ∧ Cond.codeWith y bytes maxL ret hh ∈ ws) ∧
  (Cond.codeWith y bytes maxL ret hh).before args s = true ∧ (Cond.initialized y.cls).before args s = true ∧ (y.cls ≠ "java/lang/invoke/MethodHandle" ∧ y.cls ≠ "java/lang/invoke/VarHandle") ∧
  (∀ sig, parseMethodDescriptor y.desc = some sig → n = sig.parameters.length) ∧ (Cond.methodLink own index y).before args s = true ∧ (Cond.static y).before args s = true
theorem vx_cwSW {own : String} {index maxL mc ms : Nat} {y : MethodName} {bytes : ByteArray} {ret : Option FieldType} {hh : List (Nat × Nat × Nat × Nat)} {Ts ws ws' : List Cond} {rm : Room} (n : Nat) (ht : ∀ w ∈ Ts, w.before args s = true) (hT : GoodIn Ts (va_wsS own index y ws)) (hw : ws = Cond.codeWith y bytes maxL ret hh :: ws') (hrc : rm.cells = mc) (hrs : rm.slots = ms)
    (hd : y.cls ≠ "java/lang/invoke/MethodHandle" ∧ y.cls ≠ "java/lang/invoke/VarHandle" ∧ (parseMethodDescriptor y.desc).map (fun d => d.parameters.length) = some n) (hR : rm.frames + 1 ≤ R.frames ∧ 8 + (maxL + 11) + rm.locals ≤ R.locals) :
    vx_CSW R s args own index y bytes maxL ret hh ws rm mc ms n := by
  have ok : ∀ w ∈ va_wsS own index y ws, w.before args s = true := fun w h => ht w (hT w h).1
  have hG : GoodIn Ts ws := fun w h => hT w (by unfold va_wsS; exact List.mem_append_right _ h)
  have hc : Cond.codeWith y bytes maxL ret hh ∈ ws := by rw [hw]; exact List.mem_cons_self
  refine ⟨⟨hrc, hrs, hR.1, hR.2, pay_in ht hG, hc⟩, ht _ (hG _ hc).1, ok _ (by simp [va_wsS]), ⟨hd.1, hd.2.1⟩, fun sig h => ?_, ok _ (by simp [va_wsS]), ok _ (by simp [va_wsS])⟩
  have h2 := hd.2.2
  rw [h] at h2
  exact (Option.some.inj h2).symm
theorem vx_callSW (X : Stand p l e R s m args below meth c T locs cells slots) (hexec : p.tables.exec = Jvm.exec) {own : String} {index : Nat} {y : MethodName} {bytes : ByteArray} {maxL : Nat} {ret : Option FieldType} {hh : List (Nat × Nat × Nat × Nat)}
    (hown : s.vm.findClass own = some m.cls) (hlink : (Cond.methodLink own index y).before args s = true) (hstat : (Cond.static y).before args s = true) (hinit : (Cond.initialized y.cls).before args s = true)
    (hcode : (Cond.codeWith y bytes maxL ret hh).before args s = true) (hy : y.cls ≠ "java/lang/invoke/MethodHandle" ∧ y.cls ≠ "java/lang/invoke/VarHandle")
    {W9 : Nat} {Pre : Pt → Array Value → Prop} {Post : Pt → Array Value → Option Value → Pt → Prop} (hK : Back l R p e below s args y 3 W9 Pre Post)
    {g : JFrame} (hg : g.method = m) (hsize : g.locals.size = c.maxLocals) {argsL rest : List Value} (hlen : ∀ sig, parseMethodDescriptor y.desc = some sig → argsL.length = sig.parameters.length)
    (hstack : g.stack = argsL.reverse ++ rest) (hW : 2 * g.monitorRoom + (rest.map fun v => v.category).sum ≤ W9) (hdg : decode c.code g.pc = .ok (.invokestatic index, 3))
    (hpre : ∀ vm₁, s.WarmedH vm₁ → Pre ⟨T.setVm vm₁, locs, cells, slots⟩ argsL.toArray) :
    ∃ (v : Option Value) (vm₁ : Vm) (B : Pt), s.WarmedH vm₁ ∧ Stand p l e R s m args below meth c B.U B.locs B.cells B.slots ∧ Post ⟨T.setVm vm₁, locs, cells, slots⟩ argsL.toArray v B ∧
      ∀ target, Steps p.tables e below (B.U.setTop { g with pc := g.pc + 3, stack := v.toList ++ rest }) target → Steps p.tables e below (T.setTop g) target := by
  obtain ⟨mk, methM, cM, hnamed, hmethM, -, -, -, -, -, -, hsigM⟩ := Cond.codeWith_spec hcode
  have hstatic : methM.isStatic = true := Cond.static_spec hnamed hmethM hstat
  obtain ⟨kP, hkP, -⟩ := className_of_methodNamed hnamed
  have hinitP : kP.init = .initialized := Cond.initialized_spec (findClass_of_methodNamed hnamed) hkP hinit
  obtain ⟨vm₁, X₁, hstep₁⟩ := X.invokestatic hexec hown hlink hnamed hmethM hstatic hkP hinitP hy (g := g) hg (argsL := argsL) (rest := rest) (hlen _ hsigM) hstack hdg
  obtain ⟨v, B, X', hpost, hsteps⟩ := hK m meth c ⟨T.setVm vm₁, locs, cells, slots⟩ { g with stack := rest } (.invokestatic index) mk argsL.toArray X₁ hg hsize hdg hW (X₁.named hnamed) (hpre vm₁ X₁.warmed)
  exact ⟨v, vm₁, B, X₁.warmed, X', hpost, fun target h => hstep₁ _ fun acts => by rw [doInvoke_state]; exact hsteps.trans h⟩
theorem vx_runSW {y : MethodName} {bytes cc : ByteArray} {maxL nL mc ms n index : Nat} {ret : Option FieldType} {hh : List (Nat × Nat × Nat × Nat)} {ws : List Cond} {rm : Room} {Pc : Array Value → State → Prop} {Qc : Array Value → State → Outcome → State → Prop} {free : Addr → Prop} {Ts : List Cond} {own : String} {As rest : List Value} {g : JFrame}
    (S : CallFix p m c cc nL s args Ts own) (hM : Met l y ws rm Pc Qc mc ms free) (cw : vx_CSW R s args own index y bytes maxL ret hh ws rm mc ms n) (hp : PreS s H Pc As)
    (hg : g.method = m) (hn : As.length = n) (hsize : g.locals.size = nL) (hstack : g.stack = As.reverse ++ rest) (hW : 2 * g.monitorRoom + (rest.map fun v => v.category).sum ≤ 8) (hdg : decode cc g.pc = .ok (.invokestatic index, 3)) (hf : cells + mc ≤ R.cells ∧ slots + ms ≤ R.slots) :
    va_Run p l e R s m args below meth c H locs cells slots mc ms g rest (Qc As.toArray) (free) := by
  obtain ⟨⟨hrc, hrs, hfr, hlo, hws, hcw⟩, hcode, hini, hy, hlen, hl, hstt⟩ := cw
  have hK : Back l R p e below s args y 3 8 (PreOf R mc ms Pc) (PostOf Qc mc ms free) := va_backW (hh := hh) (bytes := bytes) (maxL := maxL) (ret := ret) hM hp.1 hrc hrs hfr hlo hws hcw (fun a' U hW => word_at hW (Or.inl (by first | rfl | simp [Cond.onTables, Cond.keeps, Cond.steady])) hini)
  obtain ⟨hx, hb, hml, ho, -⟩ := S
  intro T hT X
  obtain ⟨v, vm₁, ⟨U', l2, c2, s2⟩, hW₁, X', ⟨g', mk, t, L, e1, e2, hq, h1, hL, h2, h3⟩, st⟩ := vx_callSW X hx (hh := hh) (bytes := bytes) (maxL := maxL) (ret := ret) ho hl hstt hini hcode hy hK hg (hsize.trans hml.symm) (argsL := As) (rest := rest) (fun sig h => hn.trans (hlen sig h)) hstack hW (by rw [hb]; exact hdg)
    (fun vm₁ hW₁ => ⟨hf.1, hf.2, hp.2 (T.setVm vm₁) hT hW₁⟩)
  dsimp only [Pt.U, Pt.locs, Pt.cells, Pt.slots] at X' e1 e2 h1 h2 h3 st
  subst h1; subst h2; subst h3
  exact ⟨v, (T.setVm vm₁).calling g' mk As.toArray, t, U', L, hT, X', hL, e1, e2, hq, st⟩
/-- not caught here, past rows that name other classes: it goes on to the caller -/
theorem vx_outP {p : Program} {l : Launch} {e : Env} {R : Room} {s : State} {m : MethodId} {args : Array Value} {below : List Frame} {meth : Method} {c : Code} {H : Heap} {locs : List Loc} {cells slots : Nat} {free : Addr → Prop} {ls : Array Slot} {rest : List Value} {Qc : Array Value → State → Outcome → State → Prop} {XC : String → State → State → Prop}
    {pc : Nat} {own E : String} {ce : Cell} {q : Addr} {mc ms : Nat} (hown : s.vm.findClass own = some m.cls) (hlocks : meth.locks = false)
    (hpass : ∀ z ∈ c.exceptionTable.toList, covers z pc = false ∨ (z.catchType ≠ 0 ∧ ∃ nm : String, (Cond.classLink own z.catchType nm).before args s = true ∧ va_Nc E nm s)) (hcell : H[q]? = some ce) (hv : ce.vm = .none) (hcl : s.vm.findClass E = some ce.cls)
    (hx : ∀ t : State, t.heap = H → s.vm.Alike t.vm → XC E s t) (hf : ∀ z ∈ locs, free z.base) (hc : cells ≤ mc) (hs : slots ≤ ms) :
    vx_W p l e R s m args below meth c H locs cells slots (vx_MQ below Qc XC args s mc ms free) (F0 m pc ls rest) q := by
  intro T hT X
  have hpl : e.platform.magicAccessors = ({} : Platform).magicAccessors := by rw [X.admits.platform]
  obtain ⟨vm', hW', X', st⟩ := X.outThrough hlocks q (g := F0 m pc ls rest) rfl rfl rfl (cell := ce) (by rw [hT]; exact hcell) (by rw [hv]; rfl)
    (by obtain ⟨k9, h9, -⟩ := Vm.findClass_spec hcl; exact ⟨k9, h9⟩) (fun z hz => by
      rcases hpass z hz with h | ⟨hz0, nm, hl1, hn1⟩
      · exact Or.inl h
      · obtain ⟨c6, hc6, hcl6⟩ := Cond.classLink_spec hown hl1 e.platform hpl
        obtain ⟨a8, b8, h1, h2, h3⟩ := hn1
        cases Option.some.inj (h1.symm.trans hcl)
        cases Option.some.inj (h2.symm.trans hc6)
        exact Or.inr ⟨hz0, _, hcl6, h3⟩)
  obtain ⟨g₀, hfr⟩ := X'.frames_eq
  have hcell9 : ((T.setVm vm').setFrames (.throwing q :: below)).heap[q]? = some ce := by
    show T.heap[q]? = some ce
    rw [hT]; exact hcell
  have hend : Ended ((T.setVm vm').setFrames (.throwing q :: below)) below (.threw q) := State.frames_setFrames _ (State.cur_lt_of_frames hfr)
  refine ⟨(T.setVm vm').setFrames (.throwing q :: below), ?_, .threw q, X'.here.running, hend, Or.inr ⟨q, rfl, E, ce, locs, hx _ hT (X'.ends _).1.alike, hcell9, hv, hcl, (X'.ends _).1, (X'.ends _).2.mono hc hs, hf⟩⟩
  rw [X.pushThrowing_eq]
  exact st
/-- a thing of a world lies in the heap -/
theorem vx_lt {D : va_G} {cl : List vw_C} {ws : va_W} {H1 : Heap} (h : va_P D cl ws H1) {k : Nat} {q : Nat × va_E} (hk : ws[k]? = some q) : q.1 < H1.size := (h k q hk).lt
end VXS
/-! ===== END ===== -/
/-! ===== BEGIN methods with a table of their own: called by a name, returning or throwing ===== -/
section VXH
/-! vx_backW, vx_callVX, vx_callSX, vx_callVW, vx_runVW, vx_runVX, vx_runSX, vx_ofWH follow the same proofs as their sisters above (Free/Laws.lean, Shelf42/LK1.lean); vx_outP calls Shelf42/NT130.lean (outThrough). -/
section
variable {l : Launch} {R : Room} {p : Program} {e : Env} {below : List Frame} {s : State} {sargs : Array Value} {y : MethodName} {len W9 : Nat}
theorem vx_backW {ws : List Cond} {rm : Room} {Pc : Array Value → State → Prop} {Qc : Array Value → State → Outcome → State → Prop} {XC : String → State → State → Prop} {mc ms : Nat} {free : Addr → Prop} {bytes : ByteArray} {maxL : Nat} {ret : Option FieldType} {hh : List (Nat × Nat × Nat × Nat)}
    (hM : vx_Met l y ws rm Pc Qc XC mc ms free) (hblind : FrameBlind Pc) (hrc : rm.cells = mc) (hrs : rm.slots = ms)
    (hframes : rm.frames + 1 ≤ R.frames) (hlocals : W9 + (maxL + 11) + rm.locals ≤ R.locals)
    (hws : ∀ w ∈ ws, ∀ a' U, s.WarmedH U.vm → w.before a' U = true) (hcode : Cond.codeWith y bytes maxL ret hh ∈ ws) (hinit : ∀ a' U, s.WarmedH U.vm → (Cond.initialized y.cls).before a' U = true) :
    vx_Back l R p e below s sargs y len W9 (PreOf R mc ms Pc) (PostOf Qc mc ms free) (vx_Post XC mc ms free) := by
  intro m meth c A g ig mk a X hg hsize hdg hW hn hp
  have h1 : (headSpec ws rm).pre.before a A.U = true := atoms_intro fun w hw => hws w hw _ _ X.warmed
  have h2 : (Cond.codeWith y bytes maxL ret hh).before a A.U = true := hws _ hcode _ _ X.warmed
  have h3 : (Cond.initialized y.cls).before a A.U = true := hinit _ _ X.warmed
  have h4 : A.cells + (headSpec ws rm).room.cells ≤ R.cells := by rw [show (headSpec ws rm).room.cells = mc from hrc]; exact hp.1
  have h5 : A.slots + (headSpec ws rm).room.slots ≤ R.slots := by rw [show (headSpec ws rm).room.slots = ms from hrs]; exact hp.2.1
  have hPc : Pc a (A.U.calling g mk a) := hblind _ _ _ _ hp.2.2
  obtain ⟨U, Ls, c0, s0⟩ := A
  dsimp only [Pt.U, Pt.locs, Pt.cells, Pt.slots] at h1 h2 h3 h4 h5 X hn hPc ⊢
  obtain ⟨m9, methY, cY, hn9, hmY, hcY, -, hlY, -⟩ := Cond.codeWith_spec h2
  cases Option.some.inj (hn9.symm.trans hn)
  obtain ⟨kY, hkY, -⟩ := className_of_methodNamed hn
  have hinitY : kY.init = .initialized := Cond.initialized_spec (findClass_of_methodNamed hn) hkY h3
  have h : At U g.method c below := by rw [hg]; exact X.here
  have hlocals9 : W9 + (maxL + 11) + (headSpec ws rm).room.locals ≤ R.locals := hlocals
  have happ : (headSpec ws rm).appliesLoose y e.platform (U.calling g mk a) = true :=
    Spec.appliesLoose_calling (g := g) h hdg hn hkY hinitY
      (X.room_calling (g := g) (R' := (headSpec ws rm).room) hsize hmY hcY hframes (by rw [hlY]; omega) h4 h5) h1
  obtain ⟨mid, hmid⟩ := h.above
  have hfr : (U.setTop g).frames = (.java g :: mid) ++ below := by rw [State.frames_setTop' g h.top, hmid]; rfl
  obtain ⟨o, s₂, hsteps, -, hend, hq⟩ := Steps.callFree hM p X.admits X.cas X.clock (acts := []) hfr happ hPc trivial
  have hq' : vx_Q Qc XC mc ms free a (U.calling g mk a) o s₂ := hq
  rw [State.frames_setTop' g h.top] at hend
  obtain ⟨g₀, hg0⟩ := Option.isSome_iff_exists.mp h.top
  obtain ⟨r, hr⟩ := State.topJava?_eq_some.mp hg0
  have hr' : (({ U with heap := s₂.heap, slotsUsed := s₂.slotsUsed } : State).setVm s₂.vm).frames = .java g₀ :: r := hr
  rcases hq' with ⟨hqc, L, hfe, hL⟩ | ⟨q, rfl, E, ce, L, hx, hce, hcv, hcl, hW₂, hsm, hL⟩
  · obtain ⟨⟨v, rfl⟩, hW₂, e2, q2, q3, q4, q5, q6⟩ := id hfe
    have e3 : s₂ = ({ (U.calling g mk a).setFrames s₂.frames with heap := s₂.heap, slotsUsed := s₂.slotsUsed } : State).setVm s₂.vm := by
      have : s₂ = ({ s₂ with vm := (U.calling g mk a).vm } : State).setVm s₂.vm := rfl
      rw [e2] at this
      exact this
    obtain ⟨c₂, i₂, len₂, hc₂, hd₂, hf₂⟩ := hend
    have hW' : U.WarmedH s₂.vm := hW₂
    have hcc : c₂ = c := by
      have h1 : s₂.code? g.method = U.code? g.method := by
        rw [State.code?_eq, State.code?_eq, hW'.alike.method?]
      exact Option.some.inj (hc₂.symm.trans (h1.trans h.code))
    subst hcc
    have hlen : len₂ = len := by rw [hdg] at hd₂; cases hd₂; rfl
    subst hlen
    have hs₂ : s₂ = (({ U with heap := s₂.heap, slotsUsed := s₂.slotsUsed } : State).setVm s₂.vm).setTop { g with pc := g.pc + len₂, stack := v.toList ++ g.stack } := by
      refine e3.trans ?_
      rw [hf₂, State.calling_eq h.top, State.setFrames_setFrames, State.setTop_of_frames _ hr', hr]
      rfl
    have hsame : U.sameButNew ({ U with heap := s₂.heap, slotsUsed := s₂.slotsUsed } : State) L mc ms := by
      refine ⟨?_, q2, q3, q4, q5, q6⟩
      obtain ⟨t, ht, -⟩ := State.frames_cons hr
      show ({ U with heap := s₂.heap, slotsUsed := s₂.slotsUsed } : State) = { U.setFrames U.frames with heap := s₂.heap, slotsUsed := s₂.slotsUsed }
      rw [State.setFrames_self ht]
    subst hg
    refine Or.inl ⟨v, ⟨(({ U with heap := s₂.heap, slotsUsed := s₂.slotsUsed } : State).setVm s₂.vm), Ls ++ L, c0 + mc, s0 + ms⟩,
      ⟨X.admits, X.cas, X.clock, X.frames, X.room, X.hears, X.method, X.code, (X.here.setHeapUsed s₂.heap s₂.slotsUsed).setVm hW'.alike, X.tail, State.WarmedH.trans X.warmed hW', X.limits, X.bytes, X.same.trans (hsame.setVm s.vm)⟩,
      ⟨g, mk, s₂, L, rfl, rfl, hqc, rfl, hL, rfl, rfl⟩, ?_⟩
    show Steps p.tables e below _ ((({ U with heap := s₂.heap, slotsUsed := s₂.slotsUsed } : State).setVm s₂.vm).setTop { g with pc := g.pc + len₂, stack := v.toList ++ g.stack })
    rw [← hs₂]
    exact hsteps
  · obtain ⟨e2, q2, q3, q4, q5, q6⟩ := id hsm
    have e3 : s₂ = ({ (U.calling g mk a).setFrames s₂.frames with heap := s₂.heap, slotsUsed := s₂.slotsUsed } : State).setVm s₂.vm := by
      have : s₂ = ({ s₂ with vm := (U.calling g mk a).vm } : State).setVm s₂.vm := rfl
      rw [e2] at this
      exact this
    have hf₂ : s₂.frames = .throwing q :: .java g :: U.frames.tail := hend
    have hW' : U.WarmedH s₂.vm := hW₂
    have hs₂ : s₂ = ((({ U with heap := s₂.heap, slotsUsed := s₂.slotsUsed } : State).setVm s₂.vm).setTop g).pushFrame (.throwing q) := by
      refine e3.trans ?_
      rw [hf₂, State.calling_eq h.top, State.setFrames_setFrames, State.pushFrame, State.frames_setTop _ hr', State.setTop_of_frames _ hr', State.setFrames_setFrames, hr]
      rfl
    have hsame : U.sameButNew ({ U with heap := s₂.heap, slotsUsed := s₂.slotsUsed } : State) L mc ms := by
      refine ⟨?_, q2, q3, q4, q5, q6⟩
      obtain ⟨t, ht, -⟩ := State.frames_cons hr
      show ({ U with heap := s₂.heap, slotsUsed := s₂.slotsUsed } : State) = { U.setFrames U.frames with heap := s₂.heap, slotsUsed := s₂.slotsUsed }
      rw [State.setFrames_self ht]
    subst hg
    refine Or.inr ⟨q, ⟨(({ U with heap := s₂.heap, slotsUsed := s₂.slotsUsed } : State).setVm s₂.vm), Ls ++ L, c0 + mc, s0 + ms⟩,
      ⟨X.admits, X.cas, X.clock, X.frames, X.room, X.hears, X.method, X.code, (X.here.setHeapUsed s₂.heap s₂.slotsUsed).setVm hW'.alike, X.tail, State.WarmedH.trans X.warmed hW', X.limits, X.bytes, X.same.trans (hsame.setVm s.vm)⟩,
      ⟨g, mk, s₂, L, E, ce, rfl, rfl, hx, hce, hcv, hcl, rfl, hL, rfl, rfl⟩, ?_⟩
    show Steps p.tables e below _ (((({ U with heap := s₂.heap, slotsUsed := s₂.slotsUsed } : State).setVm s₂.vm).setTop g).pushFrame (.throwing q))
    rw [← hs₂]
    exact hsteps
end
variable {p : Program} {l : Launch} {e : Env} {R : Room} {s : State} {m : MethodId} {args : Array Value} {below : List Frame} {meth : Method} {c : Code} {T : State} {H : Heap} {locs : List Loc} {cells slots : Nat}
theorem vx_callVX (X : Stand p l e R s m args below meth c T locs cells slots) (hexec : p.tables.exec = Jvm.exec) {own C : String} {index : Nat} {y : MethodName} {bytes : ByteArray} {maxL : Nat} {ret : Option FieldType} {hh : List (Nat × Nat × Nat × Nat)}
    (hown : s.vm.findClass own = some m.cls) (hlink : (Cond.methodLink own index y).before args s = true) (hinst : (Cond.instanceMethod y).before args s = true) (hsel : (Cond.selects C y y).before args s = true)
    (hcode : (Cond.codeWith y bytes maxL ret hh).before args s = true) (hy : y.cls ≠ "java/lang/invoke/MethodHandle" ∧ y.cls ≠ "java/lang/invoke/VarHandle")
    {W9 : Nat} {Pre : Pt → Array Value → Prop} {Post : Pt → Array Value → Option Value → Pt → Prop} {PostX : Pt → Array Value → Addr → Pt → Prop} (hK : vx_Back l R p e below s args y 3 W9 Pre Post PostX)
    {b : Addr} {cellB : Cell} (hcell : T.heap[b]? = some cellB) (hobj : cellB.vm.isStatics = false) (hcls : s.vm.findClass C = some cellB.cls)
    {g : JFrame} (hg : g.method = m) (hsize : g.locals.size = c.maxLocals) {argsL rest : List Value} (hlen : ∀ sig, parseMethodDescriptor y.desc = some sig → argsL.length = sig.parameters.length)
    (hstack : g.stack = argsL.reverse ++ .ref b :: rest) (hW : 2 * g.monitorRoom + (rest.map fun v => v.category).sum ≤ W9) (hdg : decode c.code g.pc = .ok (.invokevirtual index, 3))
    (hpre : ∀ vm₁, s.WarmedH vm₁ → Pre ⟨T.setVm vm₁, locs, cells, slots⟩ (Value.ref b :: argsL).toArray) :
    (∃ (v : Option Value) (vm₁ : Vm) (B : Pt), s.WarmedH vm₁ ∧ Stand p l e R s m args below meth c B.U B.locs B.cells B.slots ∧ Post ⟨T.setVm vm₁, locs, cells, slots⟩ (Value.ref b :: argsL).toArray v B ∧
      ∀ target, Steps p.tables e below (B.U.setTop { g with pc := g.pc + 3, stack := v.toList ++ rest }) target → Steps p.tables e below (T.setTop g) target) ∨
    (∃ (q : Addr) (vm₁ : Vm) (B : Pt), s.WarmedH vm₁ ∧ Stand p l e R s m args below meth c B.U B.locs B.cells B.slots ∧ PostX ⟨T.setVm vm₁, locs, cells, slots⟩ (Value.ref b :: argsL).toArray q B ∧
      Steps p.tables e below (T.setTop g) ((B.U.setTop { g with stack := rest }).pushFrame (.throwing q))) := by
  obtain ⟨mk, methM, hnamed, hmethM, hstM, habM⟩ := Cond.instanceMethod_spec hinst
  obtain ⟨m8, methM', cM, hn8, hmethM', -, -, -, -, -, -, hsigM⟩ := Cond.codeWith_spec hcode
  cases Option.some.inj (hn8.symm.trans hnamed)
  cases hmethM.symm.trans hmethM'
  obtain ⟨c2, r2, m2, q1, q2, q3, q4, kP, hkP, hkPi⟩ := Cond.selects_spec hsel
  cases hcls.symm.trans q1
  cases (State.methodFound?_of_named hnamed hy).symm.trans q2
  cases hnamed.symm.trans q3
  have hselP : selectMethod e.platform s.vm cellB.cls mk = .method mk := by rw [Launch.admits_selectMethod X.admits]; exact q4
  obtain ⟨vm₁, X₁, hstep₁⟩ := X.invokevirtual hexec hown hlink hnamed hmethM hstM hkP hkPi hy (a := b) (cell := cellB) hcell
    (fun z h => by rw [h] at hobj; cases hobj) hselP hmethM habM hkP hkPi (g := g) hg (argsL := argsL) (rest := rest) (hlen _ hsigM) hstack hdg
  rcases hK m meth c ⟨T.setVm vm₁, locs, cells, slots⟩ { g with stack := rest } (.invokevirtual index) mk (Value.ref b :: argsL).toArray X₁ hg hsize hdg hW (X₁.named hnamed) (hpre vm₁ X₁.warmed) with ⟨v, B, X', hpost, hsteps⟩ | ⟨q, B, X', hpost, hsteps⟩
  · exact Or.inl ⟨v, vm₁, B, X₁.warmed, X', hpost, fun target h => hstep₁ _ fun acts => by rw [doInvoke_state]; exact hsteps.trans h⟩
  · exact Or.inr ⟨q, vm₁, B, X₁.warmed, X', hpost, hstep₁ _ fun acts => by rw [doInvoke_state]; exact hsteps⟩
theorem vx_callSX (X : Stand p l e R s m args below meth c T locs cells slots) (hexec : p.tables.exec = Jvm.exec) {own : String} {index : Nat} {y : MethodName} {bytes : ByteArray} {maxL : Nat} {ret : Option FieldType} {hh : List (Nat × Nat × Nat × Nat)}
    (hown : s.vm.findClass own = some m.cls) (hlink : (Cond.methodLink own index y).before args s = true) (hstat : (Cond.static y).before args s = true) (hinit : (Cond.initialized y.cls).before args s = true)
    (hcode : (Cond.codeWith y bytes maxL ret hh).before args s = true) (hy : y.cls ≠ "java/lang/invoke/MethodHandle" ∧ y.cls ≠ "java/lang/invoke/VarHandle")
    {W9 : Nat} {Pre : Pt → Array Value → Prop} {Post : Pt → Array Value → Option Value → Pt → Prop} {PostX : Pt → Array Value → Addr → Pt → Prop} (hK : vx_Back l R p e below s args y 3 W9 Pre Post PostX)
    {g : JFrame} (hg : g.method = m) (hsize : g.locals.size = c.maxLocals) {argsL rest : List Value} (hlen : ∀ sig, parseMethodDescriptor y.desc = some sig → argsL.length = sig.parameters.length)
    (hstack : g.stack = argsL.reverse ++ rest) (hW : 2 * g.monitorRoom + (rest.map fun v => v.category).sum ≤ W9) (hdg : decode c.code g.pc = .ok (.invokestatic index, 3))
    (hpre : ∀ vm₁, s.WarmedH vm₁ → Pre ⟨T.setVm vm₁, locs, cells, slots⟩ argsL.toArray) :
    (∃ (v : Option Value) (vm₁ : Vm) (B : Pt), s.WarmedH vm₁ ∧ Stand p l e R s m args below meth c B.U B.locs B.cells B.slots ∧ Post ⟨T.setVm vm₁, locs, cells, slots⟩ argsL.toArray v B ∧
      ∀ target, Steps p.tables e below (B.U.setTop { g with pc := g.pc + 3, stack := v.toList ++ rest }) target → Steps p.tables e below (T.setTop g) target) ∨
    (∃ (q : Addr) (vm₁ : Vm) (B : Pt), s.WarmedH vm₁ ∧ Stand p l e R s m args below meth c B.U B.locs B.cells B.slots ∧ PostX ⟨T.setVm vm₁, locs, cells, slots⟩ argsL.toArray q B ∧
      Steps p.tables e below (T.setTop g) ((B.U.setTop { g with stack := rest }).pushFrame (.throwing q))) := by
  obtain ⟨mk, methM, cM, hnamed, hmethM, -, -, -, -, -, -, hsigM⟩ := Cond.codeWith_spec hcode
  have hstatic : methM.isStatic = true := Cond.static_spec hnamed hmethM hstat
  obtain ⟨kP, hkP, -⟩ := className_of_methodNamed hnamed
  have hinitP : kP.init = .initialized := Cond.initialized_spec (findClass_of_methodNamed hnamed) hkP hinit
  obtain ⟨vm₁, X₁, hstep₁⟩ := X.invokestatic hexec hown hlink hnamed hmethM hstatic hkP hinitP hy (g := g) hg (argsL := argsL) (rest := rest) (hlen _ hsigM) hstack hdg
  rcases hK m meth c ⟨T.setVm vm₁, locs, cells, slots⟩ { g with stack := rest } (.invokestatic index) mk argsL.toArray X₁ hg hsize hdg hW (X₁.named hnamed) (hpre vm₁ X₁.warmed) with ⟨v, B, X', hpost, hsteps⟩ | ⟨q, B, X', hpost, hsteps⟩
  · exact Or.inl ⟨v, vm₁, B, X₁.warmed, X', hpost, fun target h => hstep₁ _ fun acts => by rw [doInvoke_state]; exact hsteps.trans h⟩
  · exact Or.inr ⟨q, vm₁, B, X₁.warmed, X', hpost, hstep₁ _ fun acts => by rw [doInvoke_state]; exact hsteps⟩
theorem vx_callVW (X : Stand p l e R s m args below meth c T locs cells slots) (hexec : p.tables.exec = Jvm.exec) {own C : String} {index : Nat} {y : MethodName} {bytes : ByteArray} {maxL : Nat} {ret : Option FieldType} {hh : List (Nat × Nat × Nat × Nat)}
    (hown : s.vm.findClass own = some m.cls) (hlink : (Cond.methodLink own index y).before args s = true) (hinst : (Cond.instanceMethod y).before args s = true) (hsel : (Cond.selects C y y).before args s = true)
    (hcode : (Cond.codeWith y bytes maxL ret hh).before args s = true) (hy : y.cls ≠ "java/lang/invoke/MethodHandle" ∧ y.cls ≠ "java/lang/invoke/VarHandle")
    {W9 : Nat} {Pre : Pt → Array Value → Prop} {Post : Pt → Array Value → Option Value → Pt → Prop} (hK : Back l R p e below s args y 3 W9 Pre Post)
    {b : Addr} {cellB : Cell} (hcell : T.heap[b]? = some cellB) (hobj : cellB.vm.isStatics = false) (hcls : s.vm.findClass C = some cellB.cls)
    {g : JFrame} (hg : g.method = m) (hsize : g.locals.size = c.maxLocals) {argsL rest : List Value} (hlen : ∀ sig, parseMethodDescriptor y.desc = some sig → argsL.length = sig.parameters.length)
    (hstack : g.stack = argsL.reverse ++ .ref b :: rest) (hW : 2 * g.monitorRoom + (rest.map fun v => v.category).sum ≤ W9) (hdg : decode c.code g.pc = .ok (.invokevirtual index, 3))
    (hpre : ∀ vm₁, s.WarmedH vm₁ → Pre ⟨T.setVm vm₁, locs, cells, slots⟩ (Value.ref b :: argsL).toArray) :
    ∃ (v : Option Value) (vm₁ : Vm) (B : Pt), s.WarmedH vm₁ ∧ Stand p l e R s m args below meth c B.U B.locs B.cells B.slots ∧ Post ⟨T.setVm vm₁, locs, cells, slots⟩ (Value.ref b :: argsL).toArray v B ∧
      ∀ target, Steps p.tables e below (B.U.setTop { g with pc := g.pc + 3, stack := v.toList ++ rest }) target → Steps p.tables e below (T.setTop g) target := by
  obtain ⟨mk, methM, hnamed, hmethM, hstM, habM⟩ := Cond.instanceMethod_spec hinst
  obtain ⟨m8, methM', cM, hn8, hmethM', -, -, -, -, -, -, hsigM⟩ := Cond.codeWith_spec hcode
  cases Option.some.inj (hn8.symm.trans hnamed)
  cases hmethM.symm.trans hmethM'
  obtain ⟨c2, r2, m2, q1, q2, q3, q4, kP, hkP, hkPi⟩ := Cond.selects_spec hsel
  cases hcls.symm.trans q1
  cases (State.methodFound?_of_named hnamed hy).symm.trans q2
  cases hnamed.symm.trans q3
  have hselP : selectMethod e.platform s.vm cellB.cls mk = .method mk := by rw [Launch.admits_selectMethod X.admits]; exact q4
  obtain ⟨vm₁, X₁, hstep₁⟩ := X.invokevirtual hexec hown hlink hnamed hmethM hstM hkP hkPi hy (a := b) (cell := cellB) hcell
    (fun z h => by rw [h] at hobj; cases hobj) hselP hmethM habM hkP hkPi (g := g) hg (argsL := argsL) (rest := rest) (hlen _ hsigM) hstack hdg
  obtain ⟨v, B, X', hpost, hsteps⟩ := hK m meth c ⟨T.setVm vm₁, locs, cells, slots⟩ { g with stack := rest } (.invokevirtual index) mk (Value.ref b :: argsL).toArray X₁ hg hsize hdg hW (X₁.named hnamed) (hpre vm₁ X₁.warmed)
  exact ⟨v, vm₁, B, X₁.warmed, X', hpost, fun target h => hstep₁ _ fun acts => by rw [doInvoke_state]; exact hsteps.trans h⟩
abbrev vx_CVW (R : Room) (s : State) (args : Array Value) (own C : String) (index : Nat) (y : MethodName) (bytes : ByteArray) (maxL : Nat) (ret : Option FieldType) (hh : List (Nat × Nat × Nat × Nat)) (ws : List Cond) (rm : Room) (mc ms n : Nat) : Prop :=
  (rm.cells = mc ∧ rm.slots = ms ∧ rm.frames + 1 ≤ R.frames ∧ 8 + (maxL + 11) + rm.locals ≤ R.locals ∧ (∀ w ∈ ws, ∀ (a' : Array Value) (U : State), s.WarmedH U.vm → w.before a' U = true) ∧ Cond.codeWith y bytes maxL ret hh ∈ ws) ∧
  (Cond.codeWith y bytes maxL ret hh).before args s = true ∧ (Cond.initialized y.cls).before args s = true ∧ (y.cls ≠ "java/lang/invoke/MethodHandle" ∧ y.cls ≠ "java/lang/invoke/VarHandle") ∧
  (∀ sig, parseMethodDescriptor y.desc = some sig → n = sig.parameters.length) ∧ (Cond.methodLink own index y).before args s = true ∧ (Cond.instanceMethod y).before args s = true ∧ (Cond.selects C y y).before args s = true
theorem vx_cwVW {own C : String} {index maxL mc ms : Nat} {y : MethodName} {bytes : ByteArray} {ret : Option FieldType} {hh : List (Nat × Nat × Nat × Nat)} {Ts ws ws' : List Cond} {rm : Room} (n : Nat) (ht : ∀ w ∈ Ts, w.before args s = true) (hT : GoodIn Ts (wsV own index C y ws)) (hw : ws = Cond.codeWith y bytes maxL ret hh :: ws') (hrc : rm.cells = mc) (hrs : rm.slots = ms)
    (hd : y.cls = C ∧ y.cls ≠ "java/lang/invoke/MethodHandle" ∧ y.cls ≠ "java/lang/invoke/VarHandle" ∧ (parseMethodDescriptor y.desc).map (fun d => d.parameters.length) = some n) (hR : rm.frames + 1 ≤ R.frames ∧ 8 + (maxL + 11) + rm.locals ≤ R.locals) :
    vx_CVW R s args own C index y bytes maxL ret hh ws rm mc ms n := by
  obtain ⟨hC, hd⟩ := hd
  subst hC
  have ok : ∀ w ∈ wsV own index y.cls y ws, w.before args s = true := fun w h => ht w (hT w h).1
  have hG : GoodIn Ts ws := fun w h => hT w (by unfold wsV; exact List.mem_append_right _ h)
  have hc : Cond.codeWith y bytes maxL ret hh ∈ ws := by rw [hw]; exact List.mem_cons_self
  refine ⟨⟨hrc, hrs, hR.1, hR.2, pay_in ht hG, hc⟩, ht _ (hG _ hc).1, ok _ (by simp [wsV]), ⟨hd.1, hd.2.1⟩, fun sig h => ?_, ok _ (by simp [wsV]), ok _ (by simp [wsV]), ok _ (by simp [wsV])⟩
  have h2 := hd.2.2
  rw [h] at h2
  exact (Option.some.inj h2).symm
theorem vx_runVW {y : MethodName} {bytes cc : ByteArray} {maxL nL mc ms n index : Nat} {ret : Option FieldType} {hh : List (Nat × Nat × Nat × Nat)} {ws : List Cond} {rm : Room} {Pc : Array Value → State → Prop} {Qc : Array Value → State → Outcome → State → Prop} {free : Addr → Prop} {Ts : List Cond} {own C : String} {b : Addr} {As rest : List Value} {g : JFrame}
    (S : CallFix p m c cc nL s args Ts own) (hM : Met l y ws rm Pc Qc mc ms free) (cw : vx_CVW R s args own C index y bytes maxL ret hh ws rm mc ms n) (hp : PreV s H C b Pc As)
    (hg : g.method = m) (hn : As.length = n) (hsize : g.locals.size = nL) (hstack : g.stack = As.reverse ++ .ref b :: rest) (hW : 2 * g.monitorRoom + (rest.map fun v => v.category).sum ≤ 8) (hdg : decode cc g.pc = .ok (.invokevirtual index, 3)) (hf : cells + mc ≤ R.cells ∧ slots + ms ≤ R.slots) :
    va_Run p l e R s m args below meth c H locs cells slots mc ms g rest (Qc (Value.ref b :: As).toArray) free := by
  obtain ⟨⟨hrc, hrs, hfr, hlo, hws, hcw⟩, hcode, hini, hy, hlen, hl, hin, hse⟩ := cw
  have hK : Back l R p e below s args y 3 8 (PreOf R mc ms Pc) (PostOf Qc mc ms free) := va_backW (hh := hh) (bytes := bytes) (maxL := maxL) (ret := ret) hM hp.1 hrc hrs hfr hlo hws hcw (fun a' U hW => word_at hW (Or.inl (by first | rfl | simp [Cond.onTables, Cond.keeps, Cond.steady])) hini)
  obtain ⟨hx, hb, hml, ho, -⟩ := S
  obtain ⟨-, ⟨cellB, hcB, hoB, hclB⟩, hPc⟩ := hp
  intro T hT X
  obtain ⟨v, vm₁, ⟨U', l2, c2, s2⟩, hW₁, X', ⟨g', mk, t, L, e1, e2, hq, h1, hL, h2, h3⟩, st⟩ := vx_callVW X hx (C := C) (hh := hh) (bytes := bytes) (maxL := maxL) (ret := ret) ho hl hin hse hcode hy hK (by rw [hT]; exact hcB) hoB hclB hg (hsize.trans hml.symm) (argsL := As) (rest := rest) (fun sig h => hn.trans (hlen sig h)) hstack hW (by rw [hb]; exact hdg)
    (fun vm₁ hW₁ => ⟨hf.1, hf.2, hPc (T.setVm vm₁) hT hW₁⟩)
  dsimp only [Pt.U, Pt.locs, Pt.cells, Pt.slots] at X' e1 e2 h1 h2 h3 st
  subst h1; subst h2; subst h3
  exact ⟨v, (T.setVm vm₁).calling g' mk (Value.ref b :: As).toArray, t, U', L, hT, X', hL, e1, e2, hq, st⟩
section
variable {y : MethodName} {bytes cc : ByteArray} {maxL nL mc ms n index : Nat} {ret : Option FieldType} {ws : List Cond} {rm : Room} {Pc : Array Value → State → Prop} {Qc : Array Value → State → Outcome → State → Prop} {XC : String → State → State → Prop} {free : Addr → Prop} {Ts : List Cond} {own C : String} {b : Addr} {As rest : List Value} {g : JFrame}
theorem vx_runVX {hh : List (Nat × Nat × Nat × Nat)} (S : CallFix p m c cc nL s args Ts own) (hM : vx_Met l y ws rm Pc Qc XC mc ms free) (cw : vx_CVW R s args own C index y bytes maxL ret hh ws rm mc ms n) (hp : PreV s H C b Pc As)
    (hg : g.method = m) (hn : As.length = n) (hsize : g.locals.size = nL) (hstack : g.stack = As.reverse ++ .ref b :: rest) (hW : 2 * g.monitorRoom + (rest.map fun v => v.category).sum ≤ 8) (hdg : decode cc g.pc = .ok (.invokevirtual index, 3)) (hf : cells + mc ≤ R.cells ∧ slots + ms ≤ R.slots) :
    vx_Run p l e R s m args below meth c H locs cells slots mc ms g rest (Qc (Value.ref b :: As).toArray) XC free := by
  obtain ⟨⟨hrc, hrs, hfr, hlo, hws, hcw⟩, hcode, hini, hy, hlen, hl, hin, hse⟩ := cw
  have hK : vx_Back l R p e below s args y 3 8 (PreOf R mc ms Pc) (PostOf Qc mc ms free) (vx_Post XC mc ms free) := vx_backW (hh := hh) (bytes := bytes) (maxL := maxL) (ret := ret) hM hp.1 hrc hrs hfr hlo hws hcw (fun a' U hW => word_at hW (Or.inl (by first | rfl | simp [Cond.onTables, Cond.keeps, Cond.steady])) hini)
  obtain ⟨hx, hb, hml, ho, -⟩ := S
  obtain ⟨-, ⟨cellB, hcB, hoB, hclB⟩, hPc⟩ := hp
  intro T hT X
  rcases vx_callVX X hx (C := C) (hh := hh) (bytes := bytes) (maxL := maxL) (ret := ret) ho hl hin hse hcode hy hK (by rw [hT]; exact hcB) hoB hclB hg (hsize.trans hml.symm) (argsL := As) (rest := rest) (fun sig h => hn.trans (hlen sig h)) hstack hW (by rw [hb]; exact hdg)
    (fun vm₁ hW₁ => ⟨hf.1, hf.2, hPc (T.setVm vm₁) hT hW₁⟩) with ⟨v, vm₁, ⟨U', l2, c2, s2⟩, hW₁, X', ⟨g', mk, t, L, e1, e2, hq, h1, hL, h2, h3⟩, st⟩ | ⟨q, vm₁, ⟨U', l2, c2, s2⟩, hW₁, X', ⟨g', mk, t, L, E, ce, e1, e2, hq, hce, hcv, hcl, h1, hL, h2, h3⟩, st⟩
  · dsimp only [Pt.U, Pt.locs, Pt.cells, Pt.slots] at X' e1 e2 h1 h2 h3 st
    subst h1; subst h2; subst h3
    exact Or.inl ⟨v, (T.setVm vm₁).calling g' mk (Value.ref b :: As).toArray, t, U', L, hT, X', hL, e1, e2, hq, st⟩
  · dsimp only [Pt.U, Pt.locs, Pt.cells, Pt.slots] at X' e1 e2 h1 h2 h3 st hcl
    subst h1; subst h2; subst h3
    exact Or.inr ⟨q, (T.setVm vm₁).calling g' mk (Value.ref b :: As).toArray, t, U', L, E, ce, hT, X', hL, e1, e2, hq, hce, hcv, vx_cls hW₁ hcl, st⟩
theorem vx_runSX {hh : List (Nat × Nat × Nat × Nat)} (S : CallFix p m c cc nL s args Ts own) (hM : vx_Met l y ws rm Pc Qc XC mc ms free) (cw : vx_CSW R s args own index y bytes maxL ret hh ws rm mc ms n) (hp : PreS s H Pc As)
    (hg : g.method = m) (hn : As.length = n) (hsize : g.locals.size = nL) (hstack : g.stack = As.reverse ++ rest) (hW : 2 * g.monitorRoom + (rest.map fun v => v.category).sum ≤ 8) (hdg : decode cc g.pc = .ok (.invokestatic index, 3)) (hf : cells + mc ≤ R.cells ∧ slots + ms ≤ R.slots) :
    vx_Run p l e R s m args below meth c H locs cells slots mc ms g rest (Qc As.toArray) XC free := by
  obtain ⟨⟨hrc, hrs, hfr, hlo, hws, hcw⟩, hcode, hini, hy, hlen, hl, hstt⟩ := cw
  have hK : vx_Back l R p e below s args y 3 8 (PreOf R mc ms Pc) (PostOf Qc mc ms free) (vx_Post XC mc ms free) := vx_backW (hh := hh) (bytes := bytes) (maxL := maxL) (ret := ret) hM hp.1 hrc hrs hfr hlo hws hcw (fun a' U hW => word_at hW (Or.inl (by first | rfl | simp [Cond.onTables, Cond.keeps, Cond.steady])) hini)
  obtain ⟨hx, hb, hml, ho, -⟩ := S
  intro T hT X
  rcases vx_callSX X hx (hh := hh) (bytes := bytes) (maxL := maxL) (ret := ret) ho hl hstt hini hcode hy hK hg (hsize.trans hml.symm) (argsL := As) (rest := rest) (fun sig h => hn.trans (hlen sig h)) hstack hW (by rw [hb]; exact hdg)
    (fun vm₁ hW₁ => ⟨hf.1, hf.2, hp.2 (T.setVm vm₁) hT hW₁⟩) with ⟨v, vm₁, ⟨U', l2, c2, s2⟩, hW₁, X', ⟨g', mk, t, L, e1, e2, hq, h1, hL, h2, h3⟩, st⟩ | ⟨q, vm₁, ⟨U', l2, c2, s2⟩, hW₁, X', ⟨g', mk, t, L, E, ce, e1, e2, hq, hce, hcv, hcl, h1, hL, h2, h3⟩, st⟩
  · dsimp only [Pt.U, Pt.locs, Pt.cells, Pt.slots] at X' e1 e2 h1 h2 h3 st
    subst h1; subst h2; subst h3
    exact Or.inl ⟨v, (T.setVm vm₁).calling g' mk As.toArray, t, U', L, hT, X', hL, e1, e2, hq, st⟩
  · dsimp only [Pt.U, Pt.locs, Pt.cells, Pt.slots] at X' e1 e2 h1 h2 h3 st hcl
    subst h1; subst h2; subst h3
    exact Or.inr ⟨q, (T.setVm vm₁).calling g' mk As.toArray, t, U', L, E, ce, hT, X', hL, e1, e2, hq, hce, hcv, vx_cls hW₁ hcl, st⟩
end
end VXH
theorem vx_ofWH {l : Launch} {y : MethodName} {ws ws' : List Cond} {rm : Room} {Pc : Array Value → State → Prop} {Qc : Array Value → State → Outcome → State → Prop} {XC : String → State → State → Prop} {mc ms : Nat} {free : Addr → Prop} {cc : ByteArray} {maxL : Nat} {ret : Option FieldType} {hh : List (Nat × Nat × Nat × Nat)}
    (hy : plainName y.cls = true) (hw : ws = Cond.codeWith y cc maxL ret hh :: ws')
    (body : ∀ p e s m args below meth c s₁, BodyLoose p l y (headSpec ws rm) cc maxL ret e s m args below meth c s₁ → c.maxLocals = maxL → Pc args s →
      W p l e (headSpec ws rm).room s m args below meth c s.heap [] 0 0 (vx_MQ below Qc XC args s mc ms free) (entryFrame m args maxL)) : vx_Met l y ws rm Pc Qc XC mc ms free := by
  refine MetFree.of_bodyS (code := cc) (maxLocals := maxL) (ret := ret) hy ?_ ?_
  · intro args s m h hn
    obtain ⟨m9, meth, c, hn9, h1, h2, h3, h4, -, h5, h6, -⟩ := Cond.codeWith_spec (atoms_spec (ws := ws) h _ (by rw [hw]; exact List.mem_cons_self))
    cases hn.symm.trans hn9
    exact ⟨meth, c, h1, h2, h3, h4, h5, h6⟩
  · intro p e s m args below meth c s₁ B hml hP _
    have hh0 : s₁.heap = s.heap := by rw [B.state]; rfl
    obtain ⟨t, a1, o, b1, b2, b3⟩ := body p e s m args below meth c s₁ B hml hP s₁ hh0 (Stand.of_body B)
    exact ⟨t, o, a1, b1, b2, b3⟩
/-! ===== END ===== -/
end
section
/-! ===== BEGIN printed: names, fields, word lists, decode rows ===== -/
def RX0 : String := "GongCycles$BronzeSet"
def TX0 : u_T := fun k => match k with
  | 0 => ("GongCycles$BronzeSet", "pitches", "[I", true)
  | _ => ("GongCycles$BronzeSet", "yearlyDrift", "I", false)
def tyX0 : Nat → FieldType := fun k => match k with
  | 0 => .array .int
  | _ => .int
abbrev wsX00 : List Cond := u_ws RX0 TX0 2
theorem nmX0 : ∀ a, a < 2 → ∀ b, b < 2 → a ≠ b → (TX0 a).2.1 ≠ (TX0 b).2.1 := by decide +kernel
theorem tyX0_ok : ∀ k, k < 2 → parseFieldDescriptor (TX0 k).2.2.1 = some (tyX0 k) := by decide +kernel
abbrev cX0_init : ByteArray := prog_2_method_1_code
def yX0_init : MethodName := ⟨RX0, "<init>", "()V"⟩
abbrev cX0_pitchOf : ByteArray := prog_2_method_2_code
def yX0_pitchOf : MethodName := ⟨RX0, "pitchOf", "(I)I"⟩
abbrev cX0_putPitch : ByteArray := prog_2_method_3_code
def yX0_putPitch : MethodName := ⟨RX0, "putPitch", "(II)I"⟩
abbrev cX0_ageBy : ByteArray := prog_2_method_4_code
def yX0_ageBy : MethodName := ⟨RX0, "ageBy", "(I)V"⟩
abbrev cX0_tuneTo : ByteArray := prog_2_method_5_code
def yX0_tuneTo : MethodName := ⟨RX0, "tuneTo", "(I)V"⟩
def RX1 : String := "GongCycles$Melody"
def TX1 : u_T := fun k => match k with
  | _ => ("GongCycles$Melody", "tones", "[I", true)
def tyX1 : Nat → FieldType := fun k => match k with
  | _ => .array .int
abbrev wsX10 : List Cond := u_ws RX1 TX1 1
theorem nmX1 : ∀ a, a < 1 → ∀ b, b < 1 → a ≠ b → (TX1 a).2.1 ≠ (TX1 b).2.1 := by decide +kernel
theorem tyX1_ok : ∀ k, k < 1 → parseFieldDescriptor (TX1 k).2.2.1 = some (tyX1 k) := by decide +kernel
abbrev cX1_init : ByteArray := prog_3_method_1_code
def yX1_init : MethodName := ⟨RX1, "<init>", "(I)V"⟩
abbrev cX1_length : ByteArray := prog_3_method_2_code
def yX1_length : MethodName := ⟨RX1, "length", "()I"⟩
abbrev cX1_hasPlace : ByteArray := prog_3_method_3_code
def yX1_hasPlace : MethodName := ⟨RX1, "hasPlace", "(I)Z"⟩
abbrev cX1_at : ByteArray := prog_3_method_4_code
def yX1_at : MethodName := ⟨RX1, "at", "(I)I"⟩
abbrev cX1_put : ByteArray := prog_3_method_5_code
def yX1_put : MethodName := ⟨RX1, "put", "(II)I"⟩
abbrev cX1_soundAt : ByteArray := prog_3_method_6_code
def yX1_soundAt : MethodName := ⟨RX1, "soundAt", "(I)I"⟩
abbrev cX1_takeFrom : ByteArray := prog_3_method_7_code
def yX1_takeFrom : MethodName := ⟨RX1, "takeFrom", "(LGongCycles$Melody;)V"⟩
abbrev cX1_placesUnlike : ByteArray := prog_3_method_8_code
def yX1_placesUnlike : MethodName := ⟨RX1, "placesUnlike", "(LGongCycles$Melody;)I"⟩
def RX2 : String := "GongCycles$Piece"
def TX2 : u_T := fun k => match k with
  | 0 => ("GongCycles$Piece", "melody", "LGongCycles$Melody;", true)
  | _ => ("GongCycles$Piece", "forbiddenDays", "I", false)
def tyX2 : Nat → FieldType := fun k => match k with
  | 0 => .object "GongCycles$Melody"
  | _ => .int
abbrev wsX20 : List Cond := u_ws RX2 TX2 2
theorem nmX2 : ∀ a, a < 2 → ∀ b, b < 2 → a ≠ b → (TX2 a).2.1 ≠ (TX2 b).2.1 := by decide +kernel
theorem tyX2_ok : ∀ k, k < 2 → parseFieldDescriptor (TX2 k).2.2.1 = some (tyX2 k) := by decide +kernel
abbrev cX2_init : ByteArray := prog_4_method_1_code
def yX2_init : MethodName := ⟨RX2, "<init>", "(I)V"⟩
def RX3 : String := "GongCycles$Player"
def TX3 : u_T := fun k => match k with
  | 0 => ("GongCycles$Player", "ableParts", "I", true)
  | _ => ("GongCycles$Player", "versions", "[LGongCycles$Melody;", true)
def tyX3 : Nat → FieldType := fun k => match k with
  | 0 => .int
  | _ => .array (.object "GongCycles$Melody")
abbrev wsX30 : List Cond := u_ws RX3 TX3 2
theorem nmX3 : ∀ a, a < 2 → ∀ b, b < 2 → a ≠ b → (TX3 a).2.1 ≠ (TX3 b).2.1 := by decide +kernel
theorem tyX3_ok : ∀ k, k < 2 → parseFieldDescriptor (TX3 k).2.2.1 = some (tyX3 k) := by decide +kernel
abbrev cX3_init : ByteArray := prog_5_method_1_code
def yX3_init : MethodName := ⟨RX3, "<init>", "(I)V"⟩
abbrev cX3_versionOf : ByteArray := prog_5_method_2_code
def yX3_versionOf : MethodName := ⟨RX3, "versionOf", "(I)LGongCycles$Melody;"⟩
abbrev cX3_takeVersion : ByteArray := prog_5_method_3_code
def yX3_takeVersion : MethodName := ⟨RX3, "takeVersion", "(ILGongCycles$Melody;)V"⟩
def RX4 : String := "GongCycles$Playing"
def TX4 : u_T := fun k => match k with
  | 0 => ("GongCycles$Playing", "pieceNumber", "I", false)
  | 1 => ("GongCycles$Playing", "cycle", "I", false)
  | 2 => ("GongCycles$Playing", "place", "I", false)
  | 3 => ("GongCycles$Playing", "beatLength", "I", false)
  | 4 => ("GongCycles$Playing", "level", "I", false)
  | 5 => ("GongCycles$Playing", "gongs", "I", false)
  | 6 => ("GongCycles$Playing", "tempoTold", "I", false)
  | 7 => ("GongCycles$Playing", "goesOn", "Z", false)
  | 8 => ("GongCycles$Playing", "gongsToEnd", "I", false)
  | 9 => ("GongCycles$Playing", "ticksGone", "J", false)
  | _ => ("GongCycles$Playing", "strokesHad", "[J", true)
def tyX4 : Nat → FieldType := fun k => match k with
  | 0 => .int
  | 1 => .int
  | 2 => .int
  | 3 => .int
  | 4 => .int
  | 5 => .int
  | 6 => .int
  | 7 => .boolean
  | 8 => .int
  | 9 => .long
  | _ => .array .long
abbrev wsX40 : List Cond := u_ws RX4 TX4 11
theorem nmX4 : ∀ a, a < 11 → ∀ b, b < 11 → a ≠ b → (TX4 a).2.1 ≠ (TX4 b).2.1 := by decide +kernel
theorem tyX4_ok : ∀ k, k < 11 → parseFieldDescriptor (TX4 k).2.2.1 = some (tyX4 k) := by decide +kernel
abbrev cX4_init : ByteArray := prog_6_method_1_code
def yX4_init : MethodName := ⟨RX4, "<init>", "()V"⟩
abbrev cX4_startPiece : ByteArray := prog_6_method_2_code
def yX4_startPiece : MethodName := ⟨RX4, "startPiece", "(II)V"⟩
abbrev cX4_hearDrum : ByteArray := prog_6_method_3_code
def yX4_hearDrum : MethodName := ⟨RX4, "hearDrum", "(I)V"⟩
abbrev cX4_hearEnd : ByteArray := prog_6_method_4_code
def yX4_hearEnd : MethodName := ⟨RX4, "hearEnd", "()V"⟩
abbrev cX4_playBeat : ByteArray := prog_6_method_5_code
def yX4_playBeat : MethodName := ⟨RX4, "playBeat", "()V"⟩
abbrev cX4_changeBeatLength : ByteArray := prog_6_method_6_code
def yX4_changeBeatLength : MethodName := ⟨RX4, "changeBeatLength", "()V"⟩
abbrev cX4_playGong : ByteArray := prog_6_method_7_code
def yX4_playGong : MethodName := ⟨RX4, "playGong", "()V"⟩
abbrev cX4_levelOf : ByteArray := prog_6_method_8_code
def yX4_levelOf : MethodName := ⟨RX4, "levelOf", "(I)I"⟩
abbrev cX4_strokesOf : ByteArray := prog_6_method_9_code
def yX4_strokesOf : MethodName := ⟨RX4, "strokesOf", "(I)J"⟩
def RX5 : String := "GongCycles"
def TX5 : u_T := fun k => match k with
  | 0 => ("GongCycles", "lengths", "[I", true)
  | 1 => ("GongCycles", "formCount", "I", false)
  | 2 => ("GongCycles", "pieces", "[LGongCycles$Piece;", true)
  | 3 => ("GongCycles", "pieceCount", "I", false)
  | 4 => ("GongCycles", "playing", "LGongCycles$Playing;", true)
  | 5 => ("GongCycles", "begun", "I", false)
  | 6 => ("GongCycles", "today", "I", false)
  | 7 => ("GongCycles", "sets", "[LGongCycles$BronzeSet;", true)
  | 8 => ("GongCycles", "yearsGone", "I", false)
  | 9 => ("GongCycles", "players", "[LGongCycles$Player;", true)
  | _ => ("GongCycles", "playerCount", "I", false)
def tyX5 : Nat → FieldType := fun k => match k with
  | 0 => .array .int
  | 1 => .int
  | 2 => .array (.object "GongCycles$Piece")
  | 3 => .int
  | 4 => .object "GongCycles$Playing"
  | 5 => .int
  | 6 => .int
  | 7 => .array (.object "GongCycles$BronzeSet")
  | 8 => .int
  | 9 => .array (.object "GongCycles$Player")
  | _ => .int
abbrev wsX50 : List Cond := u_ws RX5 TX5 11
theorem nmX5 : ∀ a, a < 11 → ∀ b, b < 11 → a ≠ b → (TX5 a).2.1 ≠ (TX5 b).2.1 := by decide +kernel
theorem tyX5_ok : ∀ k, k < 11 → parseFieldDescriptor (TX5 k).2.2.1 = some (tyX5 k) := by decide +kernel
abbrev cX5_init : ByteArray := prog_1_method_1_code
def yX5_init : MethodName := ⟨RX5, "<init>", "()V"⟩
abbrev cX5_form : ByteArray := prog_1_method_2_code
def yX5_form : MethodName := ⟨RX5, "form", "(I)I"⟩
abbrev cX5_depth : ByteArray := prog_1_method_3_code
def yX5_depth : MethodName := ⟨RX5, "depth", "(II)I"⟩
abbrev cX5_piece : ByteArray := prog_1_method_4_code
def yX5_piece : MethodName := ⟨RX5, "piece", "(I)I"⟩
abbrev cX5_tone : ByteArray := prog_1_method_5_code
def yX5_tone : MethodName := ⟨RX5, "tone", "(III)I"⟩
abbrev cX5_forbid : ByteArray := prog_1_method_6_code
def yX5_forbid : MethodName := ⟨RX5, "forbid", "(II)I"⟩
abbrev cX5_sounds : ByteArray := prog_1_method_7_code
def yX5_sounds : MethodName := ⟨RX5, "sounds", "(II)I"⟩
abbrev cX5_stroke : ByteArray := prog_1_method_8_code
def yX5_stroke : MethodName := ⟨RX5, "stroke", "(IIIII)I"⟩
abbrev cX5_strokeAnew : ByteArray := prog_1_method_9_code
def yX5_strokeAnew : MethodName := ⟨RX5, "strokeAnew", "(IIIII)I"⟩
abbrev cX5_begin : ByteArray := prog_1_method_10_code
def yX5_begin : MethodName := ⟨RX5, "begin", "(I)I"⟩
abbrev cX5_drum : ByteArray := prog_1_method_11_code
def yX5_drum : MethodName := ⟨RX5, "drum", "(I)I"⟩
abbrev cX5_beats : ByteArray := prog_1_method_12_code
def yX5_beats : MethodName := ⟨RX5, "beats", "(I)I"⟩
abbrev cX5_now : ByteArray := prog_1_method_13_code
def yX5_now : MethodName := ⟨RX5, "now", "(I)I"⟩
abbrev cX5_ticks : ByteArray := prog_1_method_14_code
def yX5_ticks : MethodName := ⟨RX5, "ticks", "()J"⟩
abbrev cX5_strokes : ByteArray := prog_1_method_15_code
def yX5_strokes : MethodName := ⟨RX5, "strokes", "(I)J"⟩
abbrev cX5_days : ByteArray := prog_1_method_16_code
def yX5_days : MethodName := ⟨RX5, "days", "(I)I"⟩
abbrev cX5_pitch : ByteArray := prog_1_method_17_code
def yX5_pitch : MethodName := ⟨RX5, "pitch", "(III)I"⟩
abbrev cX5_drift : ByteArray := prog_1_method_18_code
def yX5_drift : MethodName := ⟨RX5, "drift", "(II)I"⟩
abbrev cX5_years : ByteArray := prog_1_method_19_code
def yX5_years : MethodName := ⟨RX5, "years", "(I)I"⟩
abbrev cX5_tune : ByteArray := prog_1_method_20_code
def yX5_tune : MethodName := ⟨RX5, "tune", "(II)I"⟩
abbrev cX5_beat : ByteArray := prog_1_method_21_code
def yX5_beat : MethodName := ⟨RX5, "beat", "(III)I"⟩
abbrev cX5_player : ByteArray := prog_1_method_22_code
def yX5_player : MethodName := ⟨RX5, "player", "(I)I"⟩
abbrev cX5_learn : ByteArray := prog_1_method_23_code
def yX5_learn : MethodName := ⟨RX5, "learn", "(III)I"⟩
abbrev cX5_slip : ByteArray := prog_1_method_24_code
def yX5_slip : MethodName := ⟨RX5, "slip", "(IIII)I"⟩
abbrev cX5_unlike : ByteArray := prog_1_method_25_code
def yX5_unlike : MethodName := ⟨RX5, "unlike", "(III)I"⟩
abbrev cX5_covered : ByteArray := prog_1_method_26_code
def yX5_covered : MethodName := ⟨RX5, "covered", "(I)I"⟩
abbrev cX5_lengthOfForm : ByteArray := prog_1_method_27_code
def yX5_lengthOfForm : MethodName := ⟨RX5, "lengthOfForm", "(I)I"⟩
abbrev cX5_pieceAt : ByteArray := prog_1_method_28_code
def yX5_pieceAt : MethodName := ⟨RX5, "pieceAt", "(I)LGongCycles$Piece;"⟩
abbrev cX5_setAt : ByteArray := prog_1_method_29_code
def yX5_setAt : MethodName := ⟨RX5, "setAt", "(I)LGongCycles$BronzeSet;"⟩
abbrev cX5_playerAt : ByteArray := prog_1_method_30_code
def yX5_playerAt : MethodName := ⟨RX5, "playerAt", "(I)LGongCycles$Player;"⟩
abbrev cX5_melodyOf : ByteArray := prog_1_method_31_code
def yX5_melodyOf : MethodName := ⟨RX5, "melodyOf", "(II)LGongCycles$Melody;"⟩
abbrev cX5_knowersOf : ByteArray := prog_1_method_32_code
def yX5_knowersOf : MethodName := ⟨RX5, "knowersOf", "(I)I"⟩
abbrev cX5_refuseNoPlace : ByteArray := prog_1_method_33_code
def yX5_refuseNoPlace : MethodName := ⟨RX5, "refuseNoPlace", "(LGongCycles$Melody;I)V"⟩
abbrev cX5_refuseNoPart : ByteArray := prog_1_method_34_code
def yX5_refuseNoPart : MethodName := ⟨RX5, "refuseNoPart", "(I)V"⟩
abbrev cX5_refuseNoTone : ByteArray := prog_1_method_35_code
def yX5_refuseNoTone : MethodName := ⟨RX5, "refuseNoTone", "(I)V"⟩
abbrev cX5_refuseNoToneOrRest : ByteArray := prog_1_method_36_code
def yX5_refuseNoToneOrRest : MethodName := ⟨RX5, "refuseNoToneOrRest", "(I)V"⟩
abbrev cX5_refuseNoStroke : ByteArray := prog_1_method_37_code
def yX5_refuseNoStroke : MethodName := ⟨RX5, "refuseNoStroke", "(LGongCycles$Melody;IIII)V"⟩
abbrev cX5_refuseSilence : ByteArray := prog_1_method_38_code
def yX5_refuseSilence : MethodName := ⟨RX5, "refuseSilence", "()V"⟩
abbrev cX5_toneOfStroke : ByteArray := prog_1_method_39_code
def yX5_toneOfStroke : MethodName := ⟨RX5, "toneOfStroke", "(IIIIIZ)I"⟩
abbrev cX5_densityOf : ByteArray := prog_1_method_40_code
def yX5_densityOf : MethodName := ⟨RX5, "densityOf", "(II)I"⟩
abbrev cX5_strokeAt : ByteArray := prog_1_method_41_code
def yX5_strokeAt : MethodName := ⟨RX5, "strokeAt", "(IIIII)I"⟩
abbrev cX5_turnAt : ByteArray := prog_1_method_42_code
def yX5_turnAt : MethodName := ⟨RX5, "turnAt", "(III)I"⟩
abbrev cX5_walkAt : ByteArray := prog_1_method_43_code
def yX5_walkAt : MethodName := ⟨RX5, "walkAt", "(IIII)I"⟩
abbrev cX5_strokeByStroke : ByteArray := prog_1_method_44_code
def yX5_strokeByStroke : MethodName := ⟨RX5, "strokeByStroke", "(IIIII)I"⟩
abbrev cX5_strokeBehind : ByteArray := prog_1_method_45_code
def yX5_strokeBehind : MethodName := ⟨RX5, "strokeBehind", "(IIIIII)I"⟩
abbrev cX5_walkBehind : ByteArray := prog_1_method_46_code
def yX5_walkBehind : MethodName := ⟨RX5, "walkBehind", "(IIII)I"⟩
abbrev cX5_withOnePlayerMore : ByteArray := prog_1_method_47_code
def yX5_withOnePlayerMore : MethodName := ⟨RX5, "withOnePlayerMore", "(II)I"⟩
abbrev cX5_mostParts : ByteArray := prog_1_method_48_code
def yX5_mostParts : MethodName := ⟨RX5, "mostParts", "(I)I"⟩
def RX6 : String := "GongCyclesModel"
def TX6 : u_T := fun k => match k with
  | 0 => ("GongCyclesModel", "lengths", "[I", true)
  | 1 => ("GongCyclesModel", "forms", "I", false)
  | 2 => ("GongCyclesModel", "formOf", "[I", true)
  | 3 => ("GongCyclesModel", "forbidden", "[I", true)
  | 4 => ("GongCyclesModel", "tones", "[I", true)
  | 5 => ("GongCyclesModel", "pieces", "I", false)
  | 6 => ("GongCyclesModel", "isPlayed", "Z", false)
  | 7 => ("GongCyclesModel", "current", "I", false)
  | 8 => ("GongCyclesModel", "place", "I", false)
  | 9 => ("GongCyclesModel", "beat", "I", false)
  | 10 => ("GongCyclesModel", "level", "I", false)
  | 11 => ("GongCyclesModel", "gongs", "I", false)
  | 12 => ("GongCyclesModel", "drums", "I", false)
  | 13 => ("GongCyclesModel", "ends", "I", false)
  | 14 => ("GongCyclesModel", "ticks", "J", false)
  | 15 => ("GongCyclesModel", "strokes", "[J", true)
  | 16 => ("GongCyclesModel", "begun", "I", false)
  | 17 => ("GongCyclesModel", "day", "I", false)
  | 18 => ("GongCyclesModel", "pitches", "[I", true)
  | 19 => ("GongCyclesModel", "drifts", "[I", true)
  | 20 => ("GongCyclesModel", "years", "I", false)
  | 21 => ("GongCyclesModel", "able", "[I", true)
  | 22 => ("GongCyclesModel", "knows", "[Z", true)
  | 23 => ("GongCyclesModel", "versions", "[I", true)
  | 24 => ("GongCyclesModel", "players", "I", false)
  | _ => ("GongCyclesModel", "last", "I", false)
def tyX6 : Nat → FieldType := fun k => match k with
  | 0 => .array .int
  | 1 => .int
  | 2 => .array .int
  | 3 => .array .int
  | 4 => .array .int
  | 5 => .int
  | 6 => .boolean
  | 7 => .int
  | 8 => .int
  | 9 => .int
  | 10 => .int
  | 11 => .int
  | 12 => .int
  | 13 => .int
  | 14 => .long
  | 15 => .array .long
  | 16 => .int
  | 17 => .int
  | 18 => .array .int
  | 19 => .array .int
  | 20 => .int
  | 21 => .array .int
  | 22 => .array .boolean
  | 23 => .array .int
  | 24 => .int
  | _ => .int
abbrev wsX60 : List Cond := u_ws RX6 TX6 26
theorem nmX6 : ∀ a, a < 26 → ∀ b, b < 26 → a ≠ b → (TX6 a).2.1 ≠ (TX6 b).2.1 := by decide +kernel
theorem tyX6_ok : ∀ k, k < 26 → parseFieldDescriptor (TX6 k).2.2.1 = some (tyX6 k) := by decide +kernel
abbrev cX6_init : ByteArray := prog_8_method_1_code
def yX6_init : MethodName := ⟨RX6, "<init>", "()V"⟩
abbrev cX6_thrown : ByteArray := prog_8_method_2_code
def yX6_thrown : MethodName := ⟨RX6, "thrown", "()I"⟩
abbrev cX6_in : ByteArray := prog_8_method_3_code
def yX6_in : MethodName := ⟨RX6, "in", "(III)Z"⟩
abbrev cX6_goes : ByteArray := prog_8_method_4_code
def yX6_goes : MethodName := ⟨RX6, "goes", "(ZZZ)Z"⟩
abbrev cX6_isForm : ByteArray := prog_8_method_5_code
def yX6_isForm : MethodName := ⟨RX6, "isForm", "(I)Z"⟩
abbrev cX6_isPiece : ByteArray := prog_8_method_6_code
def yX6_isPiece : MethodName := ⟨RX6, "isPiece", "(I)Z"⟩
abbrev cX6_lengthOf : ByteArray := prog_8_method_7_code
def yX6_lengthOf : MethodName := ⟨RX6, "lengthOf", "(I)I"⟩
abbrev cX6_isPlace : ByteArray := prog_8_method_8_code
def yX6_isPlace : MethodName := ⟨RX6, "isPlace", "(II)Z"⟩
abbrev cX6_isPart : ByteArray := prog_8_method_9_code
def yX6_isPart : MethodName := ⟨RX6, "isPart", "(I)Z"⟩
abbrev cX6_isPlayer : ByteArray := prog_8_method_10_code
def yX6_isPlayer : MethodName := ⟨RX6, "isPlayer", "(I)Z"⟩
abbrev cX6_lesser : ByteArray := prog_8_method_11_code
def yX6_lesser : MethodName := ⟨RX6, "lesser", "(II)I"⟩
abbrev cX6_form : ByteArray := prog_8_method_12_code
def yX6_form : MethodName := ⟨RX6, "form", "(I)I"⟩
abbrev cX6_depth : ByteArray := prog_8_method_13_code
def yX6_depth : MethodName := ⟨RX6, "depth", "(II)I"⟩
abbrev cX6_piece : ByteArray := prog_8_method_14_code
def yX6_piece : MethodName := ⟨RX6, "piece", "(I)I"⟩
abbrev cX6_tone : ByteArray := prog_8_method_15_code
def yX6_tone : MethodName := ⟨RX6, "tone", "(III)I"⟩
abbrev cX6_forbid : ByteArray := prog_8_method_16_code
def yX6_forbid : MethodName := ⟨RX6, "forbid", "(II)I"⟩
abbrev cX6_soundOf : ByteArray := prog_8_method_17_code
def yX6_soundOf : MethodName := ⟨RX6, "soundOf", "(II)I"⟩
abbrev cX6_sounds : ByteArray := prog_8_method_18_code
def yX6_sounds : MethodName := ⟨RX6, "sounds", "(II)I"⟩
abbrev cX6_density : ByteArray := prog_8_method_19_code
def yX6_density : MethodName := ⟨RX6, "density", "(II)I"⟩
abbrev cX6_strikes : ByteArray := prog_8_method_20_code
def yX6_strikes : MethodName := ⟨RX6, "strikes", "(IIIII)I"⟩
abbrev cX6_stroke : ByteArray := prog_8_method_21_code
def yX6_stroke : MethodName := ⟨RX6, "stroke", "(IIIII)I"⟩
abbrev cX6_strokeAnew : ByteArray := prog_8_method_22_code
def yX6_strokeAnew : MethodName := ⟨RX6, "strokeAnew", "(IIIII)I"⟩
abbrev cX6_begin : ByteArray := prog_8_method_23_code
def yX6_begin : MethodName := ⟨RX6, "begin", "(I)I"⟩
abbrev cX6_drum : ByteArray := prog_8_method_24_code
def yX6_drum : MethodName := ⟨RX6, "drum", "(I)I"⟩
abbrev cX6_playsBeat : ByteArray := prog_8_method_25_code
def yX6_playsBeat : MethodName := ⟨RX6, "playsBeat", "()V"⟩
abbrev cX6_beats : ByteArray := prog_8_method_26_code
def yX6_beats : MethodName := ⟨RX6, "beats", "(I)I"⟩
abbrev cX6_now : ByteArray := prog_8_method_27_code
def yX6_now : MethodName := ⟨RX6, "now", "(I)I"⟩
abbrev cX6_ticks : ByteArray := prog_8_method_28_code
def yX6_ticks : MethodName := ⟨RX6, "ticks", "()J"⟩
abbrev cX6_strokes : ByteArray := prog_8_method_29_code
def yX6_strokes : MethodName := ⟨RX6, "strokes", "(I)J"⟩
abbrev cX6_days : ByteArray := prog_8_method_30_code
def yX6_days : MethodName := ⟨RX6, "days", "(I)I"⟩
abbrev cX6_isSet : ByteArray := prog_8_method_31_code
def yX6_isSet : MethodName := ⟨RX6, "isSet", "(I)Z"⟩
abbrev cX6_pitch : ByteArray := prog_8_method_32_code
def yX6_pitch : MethodName := ⟨RX6, "pitch", "(III)I"⟩
abbrev cX6_drift : ByteArray := prog_8_method_33_code
def yX6_drift : MethodName := ⟨RX6, "drift", "(II)I"⟩
abbrev cX6_years : ByteArray := prog_8_method_34_code
def yX6_years : MethodName := ⟨RX6, "years", "(I)I"⟩
abbrev cX6_tune : ByteArray := prog_8_method_35_code
def yX6_tune : MethodName := ⟨RX6, "tune", "(II)I"⟩
abbrev cX6_beat : ByteArray := prog_8_method_36_code
def yX6_beat : MethodName := ⟨RX6, "beat", "(III)I"⟩
abbrev cX6_player : ByteArray := prog_8_method_37_code
def yX6_player : MethodName := ⟨RX6, "player", "(I)I"⟩
abbrev cX6_knowsIt : ByteArray := prog_8_method_38_code
def yX6_knowsIt : MethodName := ⟨RX6, "knowsIt", "(II)Z"⟩
abbrev cX6_toneOf : ByteArray := prog_8_method_39_code
def yX6_toneOf : MethodName := ⟨RX6, "toneOf", "(III)I"⟩
abbrev cX6_learn : ByteArray := prog_8_method_40_code
def yX6_learn : MethodName := ⟨RX6, "learn", "(III)I"⟩
abbrev cX6_slip : ByteArray := prog_8_method_41_code
def yX6_slip : MethodName := ⟨RX6, "slip", "(IIII)I"⟩
abbrev cX6_unlike : ByteArray := prog_8_method_42_code
def yX6_unlike : MethodName := ⟨RX6, "unlike", "(III)I"⟩
abbrev cX6_covered : ByteArray := prog_8_method_43_code
def yX6_covered : MethodName := ⟨RX6, "covered", "(I)I"⟩
def RJ6 : String := "java/lang/Integer"
def TJ6 : u_T := fun k => match k with
  | _ => ("", "", "", false)
def tyJ6 : Nat → FieldType := fun k => match k with
  | _ => .int
abbrev wsJ60 : List Cond := u_ws RJ6 TJ6 0
theorem nmJ6 : ∀ a, a < 0 → ∀ b, b < 0 → a ≠ b → (TJ6 a).2.1 ≠ (TJ6 b).2.1 := by decide +kernel
theorem tyJ6_ok : ∀ k, k < 0 → parseFieldDescriptor (TJ6 k).2.2.1 = some (tyJ6 k) := by decide +kernel
abbrev cJ6_bitCount_0f7a4 : ByteArray := prog_13_method_49_code
def yJ6_bitCount_0f7a4 : MethodName := ⟨RJ6, "bitCount", "(I)I"⟩
def RJ9 : String := "java/lang/Math"
def TJ9 : u_T := fun k => match k with
  | _ => ("", "", "", false)
def tyJ9 : Nat → FieldType := fun k => match k with
  | _ => .int
abbrev wsJ90 : List Cond := u_ws RJ9 TJ9 0
theorem nmJ9 : ∀ a, a < 0 → ∀ b, b < 0 → a ≠ b → (TJ9 a).2.1 ≠ (TJ9 b).2.1 := by decide +kernel
theorem tyJ9_ok : ∀ k, k < 0 → parseFieldDescriptor (TJ9 k).2.2.1 = some (tyJ9 k) := by decide +kernel
abbrev cJ9_abs_0f7a4 : ByteArray := prog_14_method_59_code
def yJ9_abs_0f7a4 : MethodName := ⟨RJ9, "abs", "(I)I"⟩
abbrev cJ9_max_7cf53 : ByteArray := prog_14_method_65_code
def yJ9_max_7cf53 : MethodName := ⟨RJ9, "max", "(II)I"⟩
abbrev cJ9_max_f86c9 : ByteArray := prog_14_method_66_code
def yJ9_max_f86c9 : MethodName := ⟨RJ9, "max", "(JJ)J"⟩
abbrev cJ9_min_7cf53 : ByteArray := prog_14_method_69_code
def yJ9_min_7cf53 : MethodName := ⟨RJ9, "min", "(II)I"⟩
abbrev cJ9_min_f86c9 : ByteArray := prog_14_method_70_code
def yJ9_min_f86c9 : MethodName := ⟨RJ9, "min", "(JJ)J"⟩
def RJ0 : String := "java/lang/String"
def TJ0 : u_T := fun k => match k with
  | _ => ("", "", "", false)
def tyJ0 : Nat → FieldType := fun k => match k with
  | _ => .int
abbrev wsJ00 : List Cond := u_ws RJ0 TJ0 0
theorem nmJ0 : ∀ a, a < 0 → ∀ b, b < 0 → a ≠ b → (TJ0 a).2.1 ≠ (TJ0 b).2.1 := by decide +kernel
theorem tyJ0_ok : ∀ k, k < 0 → parseFieldDescriptor (TJ0 k).2.2.1 = some (tyJ0 k) := by decide +kernel
def RL : String := "GongCyclesLaw"
abbrev cL_form : ByteArray := method_3_code
def yL_form : MethodName := ⟨RL, "form", "(LGongCycles;I[J)I"⟩
abbrev cL_depth : ByteArray := method_4_code
def yL_depth : MethodName := ⟨RL, "depth", "(LGongCycles;II[J)I"⟩
abbrev cL_piece : ByteArray := method_5_code
def yL_piece : MethodName := ⟨RL, "piece", "(LGongCycles;I[J)I"⟩
abbrev cL_tone : ByteArray := method_6_code
def yL_tone : MethodName := ⟨RL, "tone", "(LGongCycles;III[J)I"⟩
abbrev cL_forbid : ByteArray := method_7_code
def yL_forbid : MethodName := ⟨RL, "forbid", "(LGongCycles;II[J)I"⟩
abbrev cL_sounds : ByteArray := method_8_code
def yL_sounds : MethodName := ⟨RL, "sounds", "(LGongCycles;II[J)I"⟩
abbrev cL_stroke : ByteArray := method_9_code
def yL_stroke : MethodName := ⟨RL, "stroke", "(LGongCycles;IIIII[J)I"⟩
abbrev cL_strokeAnew : ByteArray := method_10_code
def yL_strokeAnew : MethodName := ⟨RL, "strokeAnew", "(LGongCycles;IIIII[J)I"⟩
abbrev cL_begin : ByteArray := method_11_code
def yL_begin : MethodName := ⟨RL, "begin", "(LGongCycles;I[J)I"⟩
abbrev cL_drum : ByteArray := method_12_code
def yL_drum : MethodName := ⟨RL, "drum", "(LGongCycles;I[J)I"⟩
abbrev cL_beats : ByteArray := method_13_code
def yL_beats : MethodName := ⟨RL, "beats", "(LGongCycles;I[J)I"⟩
abbrev cL_now : ByteArray := method_14_code
def yL_now : MethodName := ⟨RL, "now", "(LGongCycles;I[J)I"⟩
abbrev cL_strokes : ByteArray := method_15_code
def yL_strokes : MethodName := ⟨RL, "strokes", "(LGongCycles;I[J)I"⟩
abbrev cL_days : ByteArray := method_16_code
def yL_days : MethodName := ⟨RL, "days", "(LGongCycles;I[J)I"⟩
abbrev cL_pitch : ByteArray := method_17_code
def yL_pitch : MethodName := ⟨RL, "pitch", "(LGongCycles;III[J)I"⟩
abbrev cL_drift : ByteArray := method_18_code
def yL_drift : MethodName := ⟨RL, "drift", "(LGongCycles;II[J)I"⟩
abbrev cL_years : ByteArray := method_19_code
def yL_years : MethodName := ⟨RL, "years", "(LGongCycles;I[J)I"⟩
abbrev cL_tune : ByteArray := method_20_code
def yL_tune : MethodName := ⟨RL, "tune", "(LGongCycles;II[J)I"⟩
abbrev cL_beat : ByteArray := method_21_code
def yL_beat : MethodName := ⟨RL, "beat", "(LGongCycles;III[J)I"⟩
abbrev cL_player : ByteArray := method_22_code
def yL_player : MethodName := ⟨RL, "player", "(LGongCycles;I[J)I"⟩
abbrev cL_learn : ByteArray := method_23_code
def yL_learn : MethodName := ⟨RL, "learn", "(LGongCycles;III[J)I"⟩
abbrev cL_slip : ByteArray := method_24_code
def yL_slip : MethodName := ⟨RL, "slip", "(LGongCycles;IIII[J)I"⟩
abbrev cL_unlike : ByteArray := method_25_code
def yL_unlike : MethodName := ⟨RL, "unlike", "(LGongCycles;III[J)I"⟩
abbrev cL_covered : ByteArray := method_26_code
def yL_covered : MethodName := ⟨RL, "covered", "(LGongCycles;I[J)I"⟩
abbrev cL_law : ByteArray := code
def yL_law : MethodName := ⟨RL, "law", "([I)Z"⟩
end
section
theorem dL_form_0 : decode cL_form 0 = .ok (.aload_n 2, 1) := by decide +kernel
theorem dL_form_1 : decode cL_form 1 = .ok (.iconst 0, 1) := by decide +kernel
theorem dL_form_2 : decode cL_form 2 = .ok (.aload_n 0, 1) := by decide +kernel
theorem dL_form_3 : decode cL_form 3 = .ok (.iload_n 1, 1) := by decide +kernel
theorem dL_form_4 : decode cL_form 4 = .ok (.invokevirtual 7, 3) := by decide +kernel
theorem dL_form_7 : decode cL_form 7 = .ok (.i2l, 1) := by decide +kernel
theorem dL_form_8 : decode cL_form 8 = .ok (.lastore, 1) := by decide +kernel
theorem dL_form_9 : decode cL_form 9 = .ok (.goto 9, 3) := by decide +kernel
theorem dL_form_12 : decode cL_form 12 = .ok (.astore_n 3, 1) := by decide +kernel
theorem dL_form_13 : decode cL_form 13 = .ok (.iconst 1, 1) := by decide +kernel
theorem dL_form_14 : decode cL_form 14 = .ok (.ireturn, 1) := by decide +kernel
theorem dL_form_15 : decode cL_form 15 = .ok (.astore_n 3, 1) := by decide +kernel
theorem dL_form_16 : decode cL_form 16 = .ok (.iconst 2, 1) := by decide +kernel
theorem dL_form_17 : decode cL_form 17 = .ok (.ireturn, 1) := by decide +kernel
theorem dL_form_18 : decode cL_form 18 = .ok (.iconst 0, 1) := by decide +kernel
theorem dL_form_19 : decode cL_form 19 = .ok (.ireturn, 1) := by decide +kernel
theorem dL_depth_0 : decode cL_depth 0 = .ok (.aload_n 3, 1) := by decide +kernel
theorem dL_depth_1 : decode cL_depth 1 = .ok (.iconst 0, 1) := by decide +kernel
theorem dL_depth_2 : decode cL_depth 2 = .ok (.aload_n 0, 1) := by decide +kernel
theorem dL_depth_3 : decode cL_depth 3 = .ok (.iload_n 1, 1) := by decide +kernel
theorem dL_depth_4 : decode cL_depth 4 = .ok (.iload_n 2, 1) := by decide +kernel
theorem dL_depth_5 : decode cL_depth 5 = .ok (.invokevirtual 17, 3) := by decide +kernel
theorem dL_depth_8 : decode cL_depth 8 = .ok (.i2l, 1) := by decide +kernel
theorem dL_depth_9 : decode cL_depth 9 = .ok (.lastore, 1) := by decide +kernel
theorem dL_depth_10 : decode cL_depth 10 = .ok (.goto 7, 3) := by decide +kernel
theorem dL_depth_13 : decode cL_depth 13 = .ok (.astore 4, 2) := by decide +kernel
theorem dL_depth_15 : decode cL_depth 15 = .ok (.iconst 1, 1) := by decide +kernel
theorem dL_depth_16 : decode cL_depth 16 = .ok (.ireturn, 1) := by decide +kernel
theorem dL_depth_17 : decode cL_depth 17 = .ok (.iconst 0, 1) := by decide +kernel
theorem dL_depth_18 : decode cL_depth 18 = .ok (.ireturn, 1) := by decide +kernel
theorem dL_piece_0 : decode cL_piece 0 = .ok (.aload_n 2, 1) := by decide +kernel
theorem dL_piece_1 : decode cL_piece 1 = .ok (.iconst 0, 1) := by decide +kernel
theorem dL_piece_2 : decode cL_piece 2 = .ok (.aload_n 0, 1) := by decide +kernel
theorem dL_piece_3 : decode cL_piece 3 = .ok (.iload_n 1, 1) := by decide +kernel
theorem dL_piece_4 : decode cL_piece 4 = .ok (.invokevirtual 23, 3) := by decide +kernel
theorem dL_piece_7 : decode cL_piece 7 = .ok (.i2l, 1) := by decide +kernel
theorem dL_piece_8 : decode cL_piece 8 = .ok (.lastore, 1) := by decide +kernel
theorem dL_piece_9 : decode cL_piece 9 = .ok (.goto 9, 3) := by decide +kernel
theorem dL_piece_12 : decode cL_piece 12 = .ok (.astore_n 3, 1) := by decide +kernel
theorem dL_piece_13 : decode cL_piece 13 = .ok (.iconst 1, 1) := by decide +kernel
theorem dL_piece_14 : decode cL_piece 14 = .ok (.ireturn, 1) := by decide +kernel
theorem dL_piece_15 : decode cL_piece 15 = .ok (.astore_n 3, 1) := by decide +kernel
theorem dL_piece_16 : decode cL_piece 16 = .ok (.iconst 2, 1) := by decide +kernel
theorem dL_piece_17 : decode cL_piece 17 = .ok (.ireturn, 1) := by decide +kernel
theorem dL_piece_18 : decode cL_piece 18 = .ok (.iconst 0, 1) := by decide +kernel
theorem dL_piece_19 : decode cL_piece 19 = .ok (.ireturn, 1) := by decide +kernel
theorem dL_tone_0 : decode cL_tone 0 = .ok (.aload 4, 2) := by decide +kernel
theorem dL_tone_2 : decode cL_tone 2 = .ok (.iconst 0, 1) := by decide +kernel
theorem dL_tone_3 : decode cL_tone 3 = .ok (.aload_n 0, 1) := by decide +kernel
theorem dL_tone_4 : decode cL_tone 4 = .ok (.iload_n 1, 1) := by decide +kernel
theorem dL_tone_5 : decode cL_tone 5 = .ok (.iload_n 2, 1) := by decide +kernel
theorem dL_tone_6 : decode cL_tone 6 = .ok (.iload_n 3, 1) := by decide +kernel
theorem dL_tone_7 : decode cL_tone 7 = .ok (.invokevirtual 26, 3) := by decide +kernel
theorem dL_tone_10 : decode cL_tone 10 = .ok (.i2l, 1) := by decide +kernel
theorem dL_tone_11 : decode cL_tone 11 = .ok (.lastore, 1) := by decide +kernel
theorem dL_tone_12 : decode cL_tone 12 = .ok (.goto 11, 3) := by decide +kernel
theorem dL_tone_15 : decode cL_tone 15 = .ok (.astore 5, 2) := by decide +kernel
theorem dL_tone_17 : decode cL_tone 17 = .ok (.iconst 1, 1) := by decide +kernel
theorem dL_tone_18 : decode cL_tone 18 = .ok (.ireturn, 1) := by decide +kernel
theorem dL_tone_19 : decode cL_tone 19 = .ok (.astore 5, 2) := by decide +kernel
theorem dL_tone_21 : decode cL_tone 21 = .ok (.iconst 2, 1) := by decide +kernel
theorem dL_tone_22 : decode cL_tone 22 = .ok (.ireturn, 1) := by decide +kernel
theorem dL_tone_23 : decode cL_tone 23 = .ok (.iconst 0, 1) := by decide +kernel
theorem dL_tone_24 : decode cL_tone 24 = .ok (.ireturn, 1) := by decide +kernel
theorem dL_forbid_0 : decode cL_forbid 0 = .ok (.aload_n 3, 1) := by decide +kernel
theorem dL_forbid_1 : decode cL_forbid 1 = .ok (.iconst 0, 1) := by decide +kernel
theorem dL_forbid_2 : decode cL_forbid 2 = .ok (.aload_n 0, 1) := by decide +kernel
theorem dL_forbid_3 : decode cL_forbid 3 = .ok (.iload_n 1, 1) := by decide +kernel
theorem dL_forbid_4 : decode cL_forbid 4 = .ok (.iload_n 2, 1) := by decide +kernel
theorem dL_forbid_5 : decode cL_forbid 5 = .ok (.invokevirtual 30, 3) := by decide +kernel
theorem dL_forbid_8 : decode cL_forbid 8 = .ok (.i2l, 1) := by decide +kernel
theorem dL_forbid_9 : decode cL_forbid 9 = .ok (.lastore, 1) := by decide +kernel
theorem dL_forbid_10 : decode cL_forbid 10 = .ok (.goto 11, 3) := by decide +kernel
theorem dL_forbid_13 : decode cL_forbid 13 = .ok (.astore 4, 2) := by decide +kernel
theorem dL_forbid_15 : decode cL_forbid 15 = .ok (.iconst 1, 1) := by decide +kernel
theorem dL_forbid_16 : decode cL_forbid 16 = .ok (.ireturn, 1) := by decide +kernel
theorem dL_forbid_17 : decode cL_forbid 17 = .ok (.astore 4, 2) := by decide +kernel
theorem dL_forbid_19 : decode cL_forbid 19 = .ok (.iconst 2, 1) := by decide +kernel
theorem dL_forbid_20 : decode cL_forbid 20 = .ok (.ireturn, 1) := by decide +kernel
theorem dL_forbid_21 : decode cL_forbid 21 = .ok (.iconst 0, 1) := by decide +kernel
theorem dL_forbid_22 : decode cL_forbid 22 = .ok (.ireturn, 1) := by decide +kernel
theorem dL_sounds_0 : decode cL_sounds 0 = .ok (.aload_n 3, 1) := by decide +kernel
theorem dL_sounds_1 : decode cL_sounds 1 = .ok (.iconst 0, 1) := by decide +kernel
theorem dL_sounds_2 : decode cL_sounds 2 = .ok (.aload_n 0, 1) := by decide +kernel
theorem dL_sounds_3 : decode cL_sounds 3 = .ok (.iload_n 1, 1) := by decide +kernel
theorem dL_sounds_4 : decode cL_sounds 4 = .ok (.iload_n 2, 1) := by decide +kernel
theorem dL_sounds_5 : decode cL_sounds 5 = .ok (.invokevirtual 33, 3) := by decide +kernel
theorem dL_sounds_8 : decode cL_sounds 8 = .ok (.i2l, 1) := by decide +kernel
theorem dL_sounds_9 : decode cL_sounds 9 = .ok (.lastore, 1) := by decide +kernel
theorem dL_sounds_10 : decode cL_sounds 10 = .ok (.goto 7, 3) := by decide +kernel
theorem dL_sounds_13 : decode cL_sounds 13 = .ok (.astore 4, 2) := by decide +kernel
theorem dL_sounds_15 : decode cL_sounds 15 = .ok (.iconst 1, 1) := by decide +kernel
theorem dL_sounds_16 : decode cL_sounds 16 = .ok (.ireturn, 1) := by decide +kernel
theorem dL_sounds_17 : decode cL_sounds 17 = .ok (.iconst 0, 1) := by decide +kernel
theorem dL_sounds_18 : decode cL_sounds 18 = .ok (.ireturn, 1) := by decide +kernel
theorem dL_stroke_0 : decode cL_stroke 0 = .ok (.aload 6, 2) := by decide +kernel
theorem dL_stroke_2 : decode cL_stroke 2 = .ok (.iconst 0, 1) := by decide +kernel
theorem dL_stroke_3 : decode cL_stroke 3 = .ok (.aload_n 0, 1) := by decide +kernel
theorem dL_stroke_4 : decode cL_stroke 4 = .ok (.iload_n 1, 1) := by decide +kernel
theorem dL_stroke_5 : decode cL_stroke 5 = .ok (.iload_n 2, 1) := by decide +kernel
theorem dL_stroke_6 : decode cL_stroke 6 = .ok (.iload_n 3, 1) := by decide +kernel
theorem dL_stroke_7 : decode cL_stroke 7 = .ok (.iload 4, 2) := by decide +kernel
theorem dL_stroke_9 : decode cL_stroke 9 = .ok (.iload 5, 2) := by decide +kernel
theorem dL_stroke_11 : decode cL_stroke 11 = .ok (.invokevirtual 36, 3) := by decide +kernel
theorem dL_stroke_14 : decode cL_stroke 14 = .ok (.i2l, 1) := by decide +kernel
theorem dL_stroke_15 : decode cL_stroke 15 = .ok (.lastore, 1) := by decide +kernel
theorem dL_stroke_16 : decode cL_stroke 16 = .ok (.goto 11, 3) := by decide +kernel
theorem dL_stroke_19 : decode cL_stroke 19 = .ok (.astore 7, 2) := by decide +kernel
theorem dL_stroke_21 : decode cL_stroke 21 = .ok (.iconst 1, 1) := by decide +kernel
theorem dL_stroke_22 : decode cL_stroke 22 = .ok (.ireturn, 1) := by decide +kernel
theorem dL_stroke_23 : decode cL_stroke 23 = .ok (.astore 7, 2) := by decide +kernel
theorem dL_stroke_25 : decode cL_stroke 25 = .ok (.iconst 2, 1) := by decide +kernel
theorem dL_stroke_26 : decode cL_stroke 26 = .ok (.ireturn, 1) := by decide +kernel
theorem dL_stroke_27 : decode cL_stroke 27 = .ok (.iconst 0, 1) := by decide +kernel
theorem dL_stroke_28 : decode cL_stroke 28 = .ok (.ireturn, 1) := by decide +kernel
theorem dL_strokeAnew_0 : decode cL_strokeAnew 0 = .ok (.aload 6, 2) := by decide +kernel
theorem dL_strokeAnew_2 : decode cL_strokeAnew 2 = .ok (.iconst 0, 1) := by decide +kernel
theorem dL_strokeAnew_3 : decode cL_strokeAnew 3 = .ok (.aload_n 0, 1) := by decide +kernel
theorem dL_strokeAnew_4 : decode cL_strokeAnew 4 = .ok (.iload_n 1, 1) := by decide +kernel
theorem dL_strokeAnew_5 : decode cL_strokeAnew 5 = .ok (.iload_n 2, 1) := by decide +kernel
theorem dL_strokeAnew_6 : decode cL_strokeAnew 6 = .ok (.iload_n 3, 1) := by decide +kernel
theorem dL_strokeAnew_7 : decode cL_strokeAnew 7 = .ok (.iload 4, 2) := by decide +kernel
theorem dL_strokeAnew_9 : decode cL_strokeAnew 9 = .ok (.iload 5, 2) := by decide +kernel
theorem dL_strokeAnew_11 : decode cL_strokeAnew 11 = .ok (.invokevirtual 40, 3) := by decide +kernel
theorem dL_strokeAnew_14 : decode cL_strokeAnew 14 = .ok (.i2l, 1) := by decide +kernel
theorem dL_strokeAnew_15 : decode cL_strokeAnew 15 = .ok (.lastore, 1) := by decide +kernel
theorem dL_strokeAnew_16 : decode cL_strokeAnew 16 = .ok (.goto 11, 3) := by decide +kernel
theorem dL_strokeAnew_19 : decode cL_strokeAnew 19 = .ok (.astore 7, 2) := by decide +kernel
theorem dL_strokeAnew_21 : decode cL_strokeAnew 21 = .ok (.iconst 1, 1) := by decide +kernel
theorem dL_strokeAnew_22 : decode cL_strokeAnew 22 = .ok (.ireturn, 1) := by decide +kernel
theorem dL_strokeAnew_23 : decode cL_strokeAnew 23 = .ok (.astore 7, 2) := by decide +kernel
theorem dL_strokeAnew_25 : decode cL_strokeAnew 25 = .ok (.iconst 2, 1) := by decide +kernel
theorem dL_strokeAnew_26 : decode cL_strokeAnew 26 = .ok (.ireturn, 1) := by decide +kernel
theorem dL_strokeAnew_27 : decode cL_strokeAnew 27 = .ok (.iconst 0, 1) := by decide +kernel
theorem dL_strokeAnew_28 : decode cL_strokeAnew 28 = .ok (.ireturn, 1) := by decide +kernel
theorem dL_begin_0 : decode cL_begin 0 = .ok (.aload_n 2, 1) := by decide +kernel
theorem dL_begin_1 : decode cL_begin 1 = .ok (.iconst 0, 1) := by decide +kernel
theorem dL_begin_2 : decode cL_begin 2 = .ok (.aload_n 0, 1) := by decide +kernel
theorem dL_begin_3 : decode cL_begin 3 = .ok (.iload_n 1, 1) := by decide +kernel
theorem dL_begin_4 : decode cL_begin 4 = .ok (.invokevirtual 43, 3) := by decide +kernel
theorem dL_begin_7 : decode cL_begin 7 = .ok (.i2l, 1) := by decide +kernel
theorem dL_begin_8 : decode cL_begin 8 = .ok (.lastore, 1) := by decide +kernel
theorem dL_begin_9 : decode cL_begin 9 = .ok (.goto 9, 3) := by decide +kernel
theorem dL_begin_12 : decode cL_begin 12 = .ok (.astore_n 3, 1) := by decide +kernel
theorem dL_begin_13 : decode cL_begin 13 = .ok (.iconst 1, 1) := by decide +kernel
theorem dL_begin_14 : decode cL_begin 14 = .ok (.ireturn, 1) := by decide +kernel
theorem dL_begin_15 : decode cL_begin 15 = .ok (.astore_n 3, 1) := by decide +kernel
theorem dL_begin_16 : decode cL_begin 16 = .ok (.iconst 2, 1) := by decide +kernel
theorem dL_begin_17 : decode cL_begin 17 = .ok (.ireturn, 1) := by decide +kernel
theorem dL_begin_18 : decode cL_begin 18 = .ok (.iconst 0, 1) := by decide +kernel
theorem dL_begin_19 : decode cL_begin 19 = .ok (.ireturn, 1) := by decide +kernel
theorem dL_drum_0 : decode cL_drum 0 = .ok (.aload_n 2, 1) := by decide +kernel
theorem dL_drum_1 : decode cL_drum 1 = .ok (.iconst 0, 1) := by decide +kernel
theorem dL_drum_2 : decode cL_drum 2 = .ok (.aload_n 0, 1) := by decide +kernel
theorem dL_drum_3 : decode cL_drum 3 = .ok (.iload_n 1, 1) := by decide +kernel
theorem dL_drum_4 : decode cL_drum 4 = .ok (.invokevirtual 46, 3) := by decide +kernel
theorem dL_drum_7 : decode cL_drum 7 = .ok (.i2l, 1) := by decide +kernel
theorem dL_drum_8 : decode cL_drum 8 = .ok (.lastore, 1) := by decide +kernel
theorem dL_drum_9 : decode cL_drum 9 = .ok (.goto 9, 3) := by decide +kernel
theorem dL_drum_12 : decode cL_drum 12 = .ok (.astore_n 3, 1) := by decide +kernel
theorem dL_drum_13 : decode cL_drum 13 = .ok (.iconst 1, 1) := by decide +kernel
theorem dL_drum_14 : decode cL_drum 14 = .ok (.ireturn, 1) := by decide +kernel
theorem dL_drum_15 : decode cL_drum 15 = .ok (.astore_n 3, 1) := by decide +kernel
theorem dL_drum_16 : decode cL_drum 16 = .ok (.iconst 2, 1) := by decide +kernel
theorem dL_drum_17 : decode cL_drum 17 = .ok (.ireturn, 1) := by decide +kernel
theorem dL_drum_18 : decode cL_drum 18 = .ok (.iconst 0, 1) := by decide +kernel
theorem dL_drum_19 : decode cL_drum 19 = .ok (.ireturn, 1) := by decide +kernel
theorem dL_beats_0 : decode cL_beats 0 = .ok (.aload_n 2, 1) := by decide +kernel
theorem dL_beats_1 : decode cL_beats 1 = .ok (.iconst 0, 1) := by decide +kernel
theorem dL_beats_2 : decode cL_beats 2 = .ok (.aload_n 0, 1) := by decide +kernel
theorem dL_beats_3 : decode cL_beats 3 = .ok (.iload_n 1, 1) := by decide +kernel
theorem dL_beats_4 : decode cL_beats 4 = .ok (.invokevirtual 49, 3) := by decide +kernel
theorem dL_beats_7 : decode cL_beats 7 = .ok (.i2l, 1) := by decide +kernel
theorem dL_beats_8 : decode cL_beats 8 = .ok (.lastore, 1) := by decide +kernel
theorem dL_beats_9 : decode cL_beats 9 = .ok (.goto 9, 3) := by decide +kernel
theorem dL_beats_12 : decode cL_beats 12 = .ok (.astore_n 3, 1) := by decide +kernel
theorem dL_beats_13 : decode cL_beats 13 = .ok (.iconst 1, 1) := by decide +kernel
theorem dL_beats_14 : decode cL_beats 14 = .ok (.ireturn, 1) := by decide +kernel
theorem dL_beats_15 : decode cL_beats 15 = .ok (.astore_n 3, 1) := by decide +kernel
theorem dL_beats_16 : decode cL_beats 16 = .ok (.iconst 2, 1) := by decide +kernel
theorem dL_beats_17 : decode cL_beats 17 = .ok (.ireturn, 1) := by decide +kernel
theorem dL_beats_18 : decode cL_beats 18 = .ok (.iconst 0, 1) := by decide +kernel
theorem dL_beats_19 : decode cL_beats 19 = .ok (.ireturn, 1) := by decide +kernel
theorem dL_now_0 : decode cL_now 0 = .ok (.aload_n 2, 1) := by decide +kernel
theorem dL_now_1 : decode cL_now 1 = .ok (.iconst 0, 1) := by decide +kernel
theorem dL_now_2 : decode cL_now 2 = .ok (.aload_n 0, 1) := by decide +kernel
theorem dL_now_3 : decode cL_now 3 = .ok (.iload_n 1, 1) := by decide +kernel
theorem dL_now_4 : decode cL_now 4 = .ok (.invokevirtual 52, 3) := by decide +kernel
theorem dL_now_7 : decode cL_now 7 = .ok (.i2l, 1) := by decide +kernel
theorem dL_now_8 : decode cL_now 8 = .ok (.lastore, 1) := by decide +kernel
theorem dL_now_9 : decode cL_now 9 = .ok (.goto 6, 3) := by decide +kernel
theorem dL_now_12 : decode cL_now 12 = .ok (.astore_n 3, 1) := by decide +kernel
theorem dL_now_13 : decode cL_now 13 = .ok (.iconst 1, 1) := by decide +kernel
theorem dL_now_14 : decode cL_now 14 = .ok (.ireturn, 1) := by decide +kernel
theorem dL_now_15 : decode cL_now 15 = .ok (.iconst 0, 1) := by decide +kernel
theorem dL_now_16 : decode cL_now 16 = .ok (.ireturn, 1) := by decide +kernel
theorem dL_strokes_0 : decode cL_strokes 0 = .ok (.aload_n 2, 1) := by decide +kernel
theorem dL_strokes_1 : decode cL_strokes 1 = .ok (.iconst 0, 1) := by decide +kernel
theorem dL_strokes_2 : decode cL_strokes 2 = .ok (.aload_n 0, 1) := by decide +kernel
theorem dL_strokes_3 : decode cL_strokes 3 = .ok (.iload_n 1, 1) := by decide +kernel
theorem dL_strokes_4 : decode cL_strokes 4 = .ok (.invokevirtual 55, 3) := by decide +kernel
theorem dL_strokes_7 : decode cL_strokes 7 = .ok (.lastore, 1) := by decide +kernel
theorem dL_strokes_8 : decode cL_strokes 8 = .ok (.goto 6, 3) := by decide +kernel
theorem dL_strokes_11 : decode cL_strokes 11 = .ok (.astore_n 3, 1) := by decide +kernel
theorem dL_strokes_12 : decode cL_strokes 12 = .ok (.iconst 1, 1) := by decide +kernel
theorem dL_strokes_13 : decode cL_strokes 13 = .ok (.ireturn, 1) := by decide +kernel
theorem dL_strokes_14 : decode cL_strokes 14 = .ok (.iconst 0, 1) := by decide +kernel
theorem dL_strokes_15 : decode cL_strokes 15 = .ok (.ireturn, 1) := by decide +kernel
theorem dL_days_0 : decode cL_days 0 = .ok (.aload_n 2, 1) := by decide +kernel
theorem dL_days_1 : decode cL_days 1 = .ok (.iconst 0, 1) := by decide +kernel
theorem dL_days_2 : decode cL_days 2 = .ok (.aload_n 0, 1) := by decide +kernel
theorem dL_days_3 : decode cL_days 3 = .ok (.iload_n 1, 1) := by decide +kernel
theorem dL_days_4 : decode cL_days 4 = .ok (.invokevirtual 59, 3) := by decide +kernel
theorem dL_days_7 : decode cL_days 7 = .ok (.i2l, 1) := by decide +kernel
theorem dL_days_8 : decode cL_days 8 = .ok (.lastore, 1) := by decide +kernel
theorem dL_days_9 : decode cL_days 9 = .ok (.goto 9, 3) := by decide +kernel
theorem dL_days_12 : decode cL_days 12 = .ok (.astore_n 3, 1) := by decide +kernel
theorem dL_days_13 : decode cL_days 13 = .ok (.iconst 1, 1) := by decide +kernel
theorem dL_days_14 : decode cL_days 14 = .ok (.ireturn, 1) := by decide +kernel
theorem dL_days_15 : decode cL_days 15 = .ok (.astore_n 3, 1) := by decide +kernel
theorem dL_days_16 : decode cL_days 16 = .ok (.iconst 2, 1) := by decide +kernel
theorem dL_days_17 : decode cL_days 17 = .ok (.ireturn, 1) := by decide +kernel
theorem dL_days_18 : decode cL_days 18 = .ok (.iconst 0, 1) := by decide +kernel
theorem dL_days_19 : decode cL_days 19 = .ok (.ireturn, 1) := by decide +kernel
theorem dL_pitch_0 : decode cL_pitch 0 = .ok (.aload 4, 2) := by decide +kernel
theorem dL_pitch_2 : decode cL_pitch 2 = .ok (.iconst 0, 1) := by decide +kernel
theorem dL_pitch_3 : decode cL_pitch 3 = .ok (.aload_n 0, 1) := by decide +kernel
theorem dL_pitch_4 : decode cL_pitch 4 = .ok (.iload_n 1, 1) := by decide +kernel
theorem dL_pitch_5 : decode cL_pitch 5 = .ok (.iload_n 2, 1) := by decide +kernel
theorem dL_pitch_6 : decode cL_pitch 6 = .ok (.iload_n 3, 1) := by decide +kernel
theorem dL_pitch_7 : decode cL_pitch 7 = .ok (.invokevirtual 62, 3) := by decide +kernel
theorem dL_pitch_10 : decode cL_pitch 10 = .ok (.i2l, 1) := by decide +kernel
theorem dL_pitch_11 : decode cL_pitch 11 = .ok (.lastore, 1) := by decide +kernel
theorem dL_pitch_12 : decode cL_pitch 12 = .ok (.goto 11, 3) := by decide +kernel
theorem dL_pitch_15 : decode cL_pitch 15 = .ok (.astore 5, 2) := by decide +kernel
theorem dL_pitch_17 : decode cL_pitch 17 = .ok (.iconst 1, 1) := by decide +kernel
theorem dL_pitch_18 : decode cL_pitch 18 = .ok (.ireturn, 1) := by decide +kernel
theorem dL_pitch_19 : decode cL_pitch 19 = .ok (.astore 5, 2) := by decide +kernel
theorem dL_pitch_21 : decode cL_pitch 21 = .ok (.iconst 2, 1) := by decide +kernel
theorem dL_pitch_22 : decode cL_pitch 22 = .ok (.ireturn, 1) := by decide +kernel
theorem dL_pitch_23 : decode cL_pitch 23 = .ok (.iconst 0, 1) := by decide +kernel
theorem dL_pitch_24 : decode cL_pitch 24 = .ok (.ireturn, 1) := by decide +kernel
theorem dL_drift_0 : decode cL_drift 0 = .ok (.aload_n 3, 1) := by decide +kernel
theorem dL_drift_1 : decode cL_drift 1 = .ok (.iconst 0, 1) := by decide +kernel
theorem dL_drift_2 : decode cL_drift 2 = .ok (.aload_n 0, 1) := by decide +kernel
theorem dL_drift_3 : decode cL_drift 3 = .ok (.iload_n 1, 1) := by decide +kernel
theorem dL_drift_4 : decode cL_drift 4 = .ok (.iload_n 2, 1) := by decide +kernel
theorem dL_drift_5 : decode cL_drift 5 = .ok (.invokevirtual 65, 3) := by decide +kernel
theorem dL_drift_8 : decode cL_drift 8 = .ok (.i2l, 1) := by decide +kernel
theorem dL_drift_9 : decode cL_drift 9 = .ok (.lastore, 1) := by decide +kernel
theorem dL_drift_10 : decode cL_drift 10 = .ok (.goto 11, 3) := by decide +kernel
theorem dL_drift_13 : decode cL_drift 13 = .ok (.astore 4, 2) := by decide +kernel
theorem dL_drift_15 : decode cL_drift 15 = .ok (.iconst 1, 1) := by decide +kernel
theorem dL_drift_16 : decode cL_drift 16 = .ok (.ireturn, 1) := by decide +kernel
theorem dL_drift_17 : decode cL_drift 17 = .ok (.astore 4, 2) := by decide +kernel
theorem dL_drift_19 : decode cL_drift 19 = .ok (.iconst 2, 1) := by decide +kernel
theorem dL_drift_20 : decode cL_drift 20 = .ok (.ireturn, 1) := by decide +kernel
theorem dL_drift_21 : decode cL_drift 21 = .ok (.iconst 0, 1) := by decide +kernel
theorem dL_drift_22 : decode cL_drift 22 = .ok (.ireturn, 1) := by decide +kernel
theorem dL_years_0 : decode cL_years 0 = .ok (.aload_n 2, 1) := by decide +kernel
theorem dL_years_1 : decode cL_years 1 = .ok (.iconst 0, 1) := by decide +kernel
theorem dL_years_2 : decode cL_years 2 = .ok (.aload_n 0, 1) := by decide +kernel
theorem dL_years_3 : decode cL_years 3 = .ok (.iload_n 1, 1) := by decide +kernel
theorem dL_years_4 : decode cL_years 4 = .ok (.invokevirtual 68, 3) := by decide +kernel
theorem dL_years_7 : decode cL_years 7 = .ok (.i2l, 1) := by decide +kernel
theorem dL_years_8 : decode cL_years 8 = .ok (.lastore, 1) := by decide +kernel
theorem dL_years_9 : decode cL_years 9 = .ok (.goto 9, 3) := by decide +kernel
theorem dL_years_12 : decode cL_years 12 = .ok (.astore_n 3, 1) := by decide +kernel
theorem dL_years_13 : decode cL_years 13 = .ok (.iconst 1, 1) := by decide +kernel
theorem dL_years_14 : decode cL_years 14 = .ok (.ireturn, 1) := by decide +kernel
theorem dL_years_15 : decode cL_years 15 = .ok (.astore_n 3, 1) := by decide +kernel
theorem dL_years_16 : decode cL_years 16 = .ok (.iconst 2, 1) := by decide +kernel
theorem dL_years_17 : decode cL_years 17 = .ok (.ireturn, 1) := by decide +kernel
theorem dL_years_18 : decode cL_years 18 = .ok (.iconst 0, 1) := by decide +kernel
theorem dL_years_19 : decode cL_years 19 = .ok (.ireturn, 1) := by decide +kernel
theorem dL_tune_0 : decode cL_tune 0 = .ok (.aload_n 3, 1) := by decide +kernel
theorem dL_tune_1 : decode cL_tune 1 = .ok (.iconst 0, 1) := by decide +kernel
theorem dL_tune_2 : decode cL_tune 2 = .ok (.aload_n 0, 1) := by decide +kernel
theorem dL_tune_3 : decode cL_tune 3 = .ok (.iload_n 1, 1) := by decide +kernel
theorem dL_tune_4 : decode cL_tune 4 = .ok (.iload_n 2, 1) := by decide +kernel
theorem dL_tune_5 : decode cL_tune 5 = .ok (.invokevirtual 71, 3) := by decide +kernel
theorem dL_tune_8 : decode cL_tune 8 = .ok (.i2l, 1) := by decide +kernel
theorem dL_tune_9 : decode cL_tune 9 = .ok (.lastore, 1) := by decide +kernel
theorem dL_tune_10 : decode cL_tune 10 = .ok (.goto 11, 3) := by decide +kernel
theorem dL_tune_13 : decode cL_tune 13 = .ok (.astore 4, 2) := by decide +kernel
theorem dL_tune_15 : decode cL_tune 15 = .ok (.iconst 1, 1) := by decide +kernel
theorem dL_tune_16 : decode cL_tune 16 = .ok (.ireturn, 1) := by decide +kernel
theorem dL_tune_17 : decode cL_tune 17 = .ok (.astore 4, 2) := by decide +kernel
theorem dL_tune_19 : decode cL_tune 19 = .ok (.iconst 2, 1) := by decide +kernel
theorem dL_tune_20 : decode cL_tune 20 = .ok (.ireturn, 1) := by decide +kernel
theorem dL_tune_21 : decode cL_tune 21 = .ok (.iconst 0, 1) := by decide +kernel
theorem dL_tune_22 : decode cL_tune 22 = .ok (.ireturn, 1) := by decide +kernel
theorem dL_beat_0 : decode cL_beat 0 = .ok (.aload 4, 2) := by decide +kernel
theorem dL_beat_2 : decode cL_beat 2 = .ok (.iconst 0, 1) := by decide +kernel
theorem dL_beat_3 : decode cL_beat 3 = .ok (.aload_n 0, 1) := by decide +kernel
theorem dL_beat_4 : decode cL_beat 4 = .ok (.iload_n 1, 1) := by decide +kernel
theorem dL_beat_5 : decode cL_beat 5 = .ok (.iload_n 2, 1) := by decide +kernel
theorem dL_beat_6 : decode cL_beat 6 = .ok (.iload_n 3, 1) := by decide +kernel
theorem dL_beat_7 : decode cL_beat 7 = .ok (.invokevirtual 74, 3) := by decide +kernel
theorem dL_beat_10 : decode cL_beat 10 = .ok (.i2l, 1) := by decide +kernel
theorem dL_beat_11 : decode cL_beat 11 = .ok (.lastore, 1) := by decide +kernel
theorem dL_beat_12 : decode cL_beat 12 = .ok (.goto 7, 3) := by decide +kernel
theorem dL_beat_15 : decode cL_beat 15 = .ok (.astore 5, 2) := by decide +kernel
theorem dL_beat_17 : decode cL_beat 17 = .ok (.iconst 1, 1) := by decide +kernel
theorem dL_beat_18 : decode cL_beat 18 = .ok (.ireturn, 1) := by decide +kernel
theorem dL_beat_19 : decode cL_beat 19 = .ok (.iconst 0, 1) := by decide +kernel
theorem dL_beat_20 : decode cL_beat 20 = .ok (.ireturn, 1) := by decide +kernel
theorem dL_player_0 : decode cL_player 0 = .ok (.aload_n 2, 1) := by decide +kernel
theorem dL_player_1 : decode cL_player 1 = .ok (.iconst 0, 1) := by decide +kernel
theorem dL_player_2 : decode cL_player 2 = .ok (.aload_n 0, 1) := by decide +kernel
theorem dL_player_3 : decode cL_player 3 = .ok (.iload_n 1, 1) := by decide +kernel
theorem dL_player_4 : decode cL_player 4 = .ok (.invokevirtual 77, 3) := by decide +kernel
theorem dL_player_7 : decode cL_player 7 = .ok (.i2l, 1) := by decide +kernel
theorem dL_player_8 : decode cL_player 8 = .ok (.lastore, 1) := by decide +kernel
theorem dL_player_9 : decode cL_player 9 = .ok (.goto 9, 3) := by decide +kernel
theorem dL_player_12 : decode cL_player 12 = .ok (.astore_n 3, 1) := by decide +kernel
theorem dL_player_13 : decode cL_player 13 = .ok (.iconst 1, 1) := by decide +kernel
theorem dL_player_14 : decode cL_player 14 = .ok (.ireturn, 1) := by decide +kernel
theorem dL_player_15 : decode cL_player 15 = .ok (.astore_n 3, 1) := by decide +kernel
theorem dL_player_16 : decode cL_player 16 = .ok (.iconst 2, 1) := by decide +kernel
theorem dL_player_17 : decode cL_player 17 = .ok (.ireturn, 1) := by decide +kernel
theorem dL_player_18 : decode cL_player 18 = .ok (.iconst 0, 1) := by decide +kernel
theorem dL_player_19 : decode cL_player 19 = .ok (.ireturn, 1) := by decide +kernel
theorem dL_learn_0 : decode cL_learn 0 = .ok (.aload 4, 2) := by decide +kernel
theorem dL_learn_2 : decode cL_learn 2 = .ok (.iconst 0, 1) := by decide +kernel
theorem dL_learn_3 : decode cL_learn 3 = .ok (.aload_n 0, 1) := by decide +kernel
theorem dL_learn_4 : decode cL_learn 4 = .ok (.iload_n 1, 1) := by decide +kernel
theorem dL_learn_5 : decode cL_learn 5 = .ok (.iload_n 2, 1) := by decide +kernel
theorem dL_learn_6 : decode cL_learn 6 = .ok (.iload_n 3, 1) := by decide +kernel
theorem dL_learn_7 : decode cL_learn 7 = .ok (.invokevirtual 80, 3) := by decide +kernel
theorem dL_learn_10 : decode cL_learn 10 = .ok (.i2l, 1) := by decide +kernel
theorem dL_learn_11 : decode cL_learn 11 = .ok (.lastore, 1) := by decide +kernel
theorem dL_learn_12 : decode cL_learn 12 = .ok (.goto 15, 3) := by decide +kernel
theorem dL_learn_15 : decode cL_learn 15 = .ok (.astore 5, 2) := by decide +kernel
theorem dL_learn_17 : decode cL_learn 17 = .ok (.iconst 1, 1) := by decide +kernel
theorem dL_learn_18 : decode cL_learn 18 = .ok (.ireturn, 1) := by decide +kernel
theorem dL_learn_19 : decode cL_learn 19 = .ok (.astore 5, 2) := by decide +kernel
theorem dL_learn_21 : decode cL_learn 21 = .ok (.iconst 2, 1) := by decide +kernel
theorem dL_learn_22 : decode cL_learn 22 = .ok (.ireturn, 1) := by decide +kernel
theorem dL_learn_23 : decode cL_learn 23 = .ok (.astore 5, 2) := by decide +kernel
theorem dL_learn_25 : decode cL_learn 25 = .ok (.iconst 3, 1) := by decide +kernel
theorem dL_learn_26 : decode cL_learn 26 = .ok (.ireturn, 1) := by decide +kernel
theorem dL_learn_27 : decode cL_learn 27 = .ok (.iconst 0, 1) := by decide +kernel
theorem dL_learn_28 : decode cL_learn 28 = .ok (.ireturn, 1) := by decide +kernel
theorem dL_slip_0 : decode cL_slip 0 = .ok (.aload 5, 2) := by decide +kernel
theorem dL_slip_2 : decode cL_slip 2 = .ok (.iconst 0, 1) := by decide +kernel
theorem dL_slip_3 : decode cL_slip 3 = .ok (.aload_n 0, 1) := by decide +kernel
theorem dL_slip_4 : decode cL_slip 4 = .ok (.iload_n 1, 1) := by decide +kernel
theorem dL_slip_5 : decode cL_slip 5 = .ok (.iload_n 2, 1) := by decide +kernel
theorem dL_slip_6 : decode cL_slip 6 = .ok (.iload_n 3, 1) := by decide +kernel
theorem dL_slip_7 : decode cL_slip 7 = .ok (.iload 4, 2) := by decide +kernel
theorem dL_slip_9 : decode cL_slip 9 = .ok (.invokevirtual 83, 3) := by decide +kernel
theorem dL_slip_12 : decode cL_slip 12 = .ok (.i2l, 1) := by decide +kernel
theorem dL_slip_13 : decode cL_slip 13 = .ok (.lastore, 1) := by decide +kernel
theorem dL_slip_14 : decode cL_slip 14 = .ok (.goto 15, 3) := by decide +kernel
theorem dL_slip_17 : decode cL_slip 17 = .ok (.astore 6, 2) := by decide +kernel
theorem dL_slip_19 : decode cL_slip 19 = .ok (.iconst 1, 1) := by decide +kernel
theorem dL_slip_20 : decode cL_slip 20 = .ok (.ireturn, 1) := by decide +kernel
theorem dL_slip_21 : decode cL_slip 21 = .ok (.astore 6, 2) := by decide +kernel
theorem dL_slip_23 : decode cL_slip 23 = .ok (.iconst 2, 1) := by decide +kernel
theorem dL_slip_24 : decode cL_slip 24 = .ok (.ireturn, 1) := by decide +kernel
theorem dL_slip_25 : decode cL_slip 25 = .ok (.astore 6, 2) := by decide +kernel
theorem dL_slip_27 : decode cL_slip 27 = .ok (.iconst 3, 1) := by decide +kernel
theorem dL_slip_28 : decode cL_slip 28 = .ok (.ireturn, 1) := by decide +kernel
theorem dL_slip_29 : decode cL_slip 29 = .ok (.iconst 0, 1) := by decide +kernel
theorem dL_slip_30 : decode cL_slip 30 = .ok (.ireturn, 1) := by decide +kernel
theorem dL_unlike_0 : decode cL_unlike 0 = .ok (.aload 4, 2) := by decide +kernel
theorem dL_unlike_2 : decode cL_unlike 2 = .ok (.iconst 0, 1) := by decide +kernel
theorem dL_unlike_3 : decode cL_unlike 3 = .ok (.aload_n 0, 1) := by decide +kernel
theorem dL_unlike_4 : decode cL_unlike 4 = .ok (.iload_n 1, 1) := by decide +kernel
theorem dL_unlike_5 : decode cL_unlike 5 = .ok (.iload_n 2, 1) := by decide +kernel
theorem dL_unlike_6 : decode cL_unlike 6 = .ok (.iload_n 3, 1) := by decide +kernel
theorem dL_unlike_7 : decode cL_unlike 7 = .ok (.invokevirtual 87, 3) := by decide +kernel
theorem dL_unlike_10 : decode cL_unlike 10 = .ok (.i2l, 1) := by decide +kernel
theorem dL_unlike_11 : decode cL_unlike 11 = .ok (.lastore, 1) := by decide +kernel
theorem dL_unlike_12 : decode cL_unlike 12 = .ok (.goto 7, 3) := by decide +kernel
theorem dL_unlike_15 : decode cL_unlike 15 = .ok (.astore 5, 2) := by decide +kernel
theorem dL_unlike_17 : decode cL_unlike 17 = .ok (.iconst 1, 1) := by decide +kernel
theorem dL_unlike_18 : decode cL_unlike 18 = .ok (.ireturn, 1) := by decide +kernel
theorem dL_unlike_19 : decode cL_unlike 19 = .ok (.iconst 0, 1) := by decide +kernel
theorem dL_unlike_20 : decode cL_unlike 20 = .ok (.ireturn, 1) := by decide +kernel
theorem dL_covered_0 : decode cL_covered 0 = .ok (.aload_n 2, 1) := by decide +kernel
theorem dL_covered_1 : decode cL_covered 1 = .ok (.iconst 0, 1) := by decide +kernel
theorem dL_covered_2 : decode cL_covered 2 = .ok (.aload_n 0, 1) := by decide +kernel
theorem dL_covered_3 : decode cL_covered 3 = .ok (.iload_n 1, 1) := by decide +kernel
theorem dL_covered_4 : decode cL_covered 4 = .ok (.invokevirtual 90, 3) := by decide +kernel
theorem dL_covered_7 : decode cL_covered 7 = .ok (.i2l, 1) := by decide +kernel
theorem dL_covered_8 : decode cL_covered 8 = .ok (.lastore, 1) := by decide +kernel
theorem dL_covered_9 : decode cL_covered 9 = .ok (.goto 6, 3) := by decide +kernel
theorem dL_covered_12 : decode cL_covered 12 = .ok (.astore_n 3, 1) := by decide +kernel
theorem dL_covered_13 : decode cL_covered 13 = .ok (.iconst 1, 1) := by decide +kernel
theorem dL_covered_14 : decode cL_covered 14 = .ok (.ireturn, 1) := by decide +kernel
theorem dL_covered_15 : decode cL_covered 15 = .ok (.iconst 0, 1) := by decide +kernel
theorem dL_covered_16 : decode cL_covered 16 = .ok (.ireturn, 1) := by decide +kernel
end
section
theorem dX0_init_0 : decode cX0_init 0 = .ok (.aload_n 0, 1) := by decide +kernel
theorem dX0_init_1 : decode cX0_init 1 = .ok (.invokespecial 3, 3) := by decide +kernel
theorem dX0_init_4 : decode cX0_init 4 = .ok (.aload_n 0, 1) := by decide +kernel
theorem dX0_init_5 : decode cX0_init 5 = .ok (.bipush 7, 2) := by decide +kernel
theorem dX0_init_7 : decode cX0_init 7 = .ok (.newarray .int, 2) := by decide +kernel
theorem dX0_init_9 : decode cX0_init 9 = .ok (.putfield 9, 3) := by decide +kernel
theorem dX0_init_12 : decode cX0_init 12 = .ok (.aload_n 0, 1) := by decide +kernel
theorem dX0_init_13 : decode cX0_init 13 = .ok (.iconst 0, 1) := by decide +kernel
theorem dX0_init_14 : decode cX0_init 14 = .ok (.putfield 15, 3) := by decide +kernel
theorem dX0_init_17 : decode cX0_init 17 = .ok (.iconst 0, 1) := by decide +kernel
theorem dX0_init_18 : decode cX0_init 18 = .ok (.istore_n 1, 1) := by decide +kernel
theorem dX0_init_19 : decode cX0_init 19 = .ok (.iload_n 1, 1) := by decide +kernel
theorem dX0_init_20 : decode cX0_init 20 = .ok (.aload_n 0, 1) := by decide +kernel
theorem dX0_init_21 : decode cX0_init 21 = .ok (.getfield 9, 3) := by decide +kernel
theorem dX0_init_24 : decode cX0_init 24 = .ok (.arraylength, 1) := by decide +kernel
theorem dX0_init_25 : decode cX0_init 25 = .ok (.if_icmp .ge 17, 3) := by decide +kernel
theorem dX0_init_28 : decode cX0_init 28 = .ok (.aload_n 0, 1) := by decide +kernel
theorem dX0_init_29 : decode cX0_init 29 = .ok (.getfield 9, 3) := by decide +kernel
theorem dX0_init_32 : decode cX0_init 32 = .ok (.iload_n 1, 1) := by decide +kernel
theorem dX0_init_33 : decode cX0_init 33 = .ok (.ldc 19, 2) := by decide +kernel
theorem dX0_init_35 : decode cX0_init 35 = .ok (.iastore, 1) := by decide +kernel
theorem dX0_init_36 : decode cX0_init 36 = .ok (.iinc 1 1, 3) := by decide +kernel
theorem dX0_init_39 : decode cX0_init 39 = .ok (.goto (-20), 3) := by decide +kernel
theorem dX0_init_42 : decode cX0_init 42 = .ok (.return_, 1) := by decide +kernel
theorem dX0_pitchOf_0 : decode cX0_pitchOf 0 = .ok (.iload_n 1, 1) := by decide +kernel
theorem dX0_pitchOf_1 : decode cX0_pitchOf 1 = .ok (.iconst 1, 1) := by decide +kernel
theorem dX0_pitchOf_2 : decode cX0_pitchOf 2 = .ok (.if_icmp .lt 23, 3) := by decide +kernel
theorem dX0_pitchOf_5 : decode cX0_pitchOf 5 = .ok (.iload_n 1, 1) := by decide +kernel
theorem dX0_pitchOf_6 : decode cX0_pitchOf 6 = .ok (.aload_n 0, 1) := by decide +kernel
theorem dX0_pitchOf_7 : decode cX0_pitchOf 7 = .ok (.getfield 9, 3) := by decide +kernel
theorem dX0_pitchOf_10 : decode cX0_pitchOf 10 = .ok (.arraylength, 1) := by decide +kernel
theorem dX0_pitchOf_11 : decode cX0_pitchOf 11 = .ok (.if_icmp .gt 14, 3) := by decide +kernel
theorem dX0_pitchOf_14 : decode cX0_pitchOf 14 = .ok (.aload_n 0, 1) := by decide +kernel
theorem dX0_pitchOf_15 : decode cX0_pitchOf 15 = .ok (.getfield 9, 3) := by decide +kernel
theorem dX0_pitchOf_18 : decode cX0_pitchOf 18 = .ok (.iload_n 1, 1) := by decide +kernel
theorem dX0_pitchOf_19 : decode cX0_pitchOf 19 = .ok (.iconst 1, 1) := by decide +kernel
theorem dX0_pitchOf_20 : decode cX0_pitchOf 20 = .ok (.isub, 1) := by decide +kernel
theorem dX0_pitchOf_21 : decode cX0_pitchOf 21 = .ok (.iaload, 1) := by decide +kernel
theorem dX0_pitchOf_22 : decode cX0_pitchOf 22 = .ok (.goto 4, 3) := by decide +kernel
theorem dX0_pitchOf_25 : decode cX0_pitchOf 25 = .ok (.iconst 0, 1) := by decide +kernel
theorem dX0_pitchOf_26 : decode cX0_pitchOf 26 = .ok (.ireturn, 1) := by decide +kernel
theorem dX0_putPitch_0 : decode cX0_putPitch 0 = .ok (.aload_n 0, 1) := by decide +kernel
theorem dX0_putPitch_1 : decode cX0_putPitch 1 = .ok (.iload_n 1, 1) := by decide +kernel
theorem dX0_putPitch_2 : decode cX0_putPitch 2 = .ok (.invokevirtual 20, 3) := by decide +kernel
theorem dX0_putPitch_5 : decode cX0_putPitch 5 = .ok (.istore_n 3, 1) := by decide +kernel
theorem dX0_putPitch_6 : decode cX0_putPitch 6 = .ok (.iload_n 1, 1) := by decide +kernel
theorem dX0_putPitch_7 : decode cX0_putPitch 7 = .ok (.iconst 1, 1) := by decide +kernel
theorem dX0_putPitch_8 : decode cX0_putPitch 8 = .ok (.if_icmp .lt 21, 3) := by decide +kernel
theorem dX0_putPitch_11 : decode cX0_putPitch 11 = .ok (.iload_n 1, 1) := by decide +kernel
theorem dX0_putPitch_12 : decode cX0_putPitch 12 = .ok (.aload_n 0, 1) := by decide +kernel
theorem dX0_putPitch_13 : decode cX0_putPitch 13 = .ok (.getfield 9, 3) := by decide +kernel
theorem dX0_putPitch_16 : decode cX0_putPitch 16 = .ok (.arraylength, 1) := by decide +kernel
theorem dX0_putPitch_17 : decode cX0_putPitch 17 = .ok (.if_icmp .gt 12, 3) := by decide +kernel
theorem dX0_putPitch_20 : decode cX0_putPitch 20 = .ok (.aload_n 0, 1) := by decide +kernel
theorem dX0_putPitch_21 : decode cX0_putPitch 21 = .ok (.getfield 9, 3) := by decide +kernel
theorem dX0_putPitch_24 : decode cX0_putPitch 24 = .ok (.iload_n 1, 1) := by decide +kernel
theorem dX0_putPitch_25 : decode cX0_putPitch 25 = .ok (.iconst 1, 1) := by decide +kernel
theorem dX0_putPitch_26 : decode cX0_putPitch 26 = .ok (.isub, 1) := by decide +kernel
theorem dX0_putPitch_27 : decode cX0_putPitch 27 = .ok (.iload_n 2, 1) := by decide +kernel
theorem dX0_putPitch_28 : decode cX0_putPitch 28 = .ok (.iastore, 1) := by decide +kernel
theorem dX0_putPitch_29 : decode cX0_putPitch 29 = .ok (.iload_n 3, 1) := by decide +kernel
theorem dX0_putPitch_30 : decode cX0_putPitch 30 = .ok (.ireturn, 1) := by decide +kernel
theorem dX0_ageBy_0 : decode cX0_ageBy 0 = .ok (.iconst 0, 1) := by decide +kernel
theorem dX0_ageBy_1 : decode cX0_ageBy 1 = .ok (.istore_n 2, 1) := by decide +kernel
theorem dX0_ageBy_2 : decode cX0_ageBy 2 = .ok (.iload_n 2, 1) := by decide +kernel
theorem dX0_ageBy_3 : decode cX0_ageBy 3 = .ok (.iload_n 1, 1) := by decide +kernel
theorem dX0_ageBy_4 : decode cX0_ageBy 4 = .ok (.if_icmp .ge 64, 3) := by decide +kernel
theorem dX0_ageBy_7 : decode cX0_ageBy 7 = .ok (.iconst 0, 1) := by decide +kernel
theorem dX0_ageBy_8 : decode cX0_ageBy 8 = .ok (.istore_n 3, 1) := by decide +kernel
theorem dX0_ageBy_9 : decode cX0_ageBy 9 = .ok (.iload_n 3, 1) := by decide +kernel
theorem dX0_ageBy_10 : decode cX0_ageBy 10 = .ok (.aload_n 0, 1) := by decide +kernel
theorem dX0_ageBy_11 : decode cX0_ageBy 11 = .ok (.getfield 9, 3) := by decide +kernel
theorem dX0_ageBy_14 : decode cX0_ageBy 14 = .ok (.arraylength, 1) := by decide +kernel
theorem dX0_ageBy_15 : decode cX0_ageBy 15 = .ok (.if_icmp .ge 47, 3) := by decide +kernel
theorem dX0_ageBy_18 : decode cX0_ageBy 18 = .ok (.aload_n 0, 1) := by decide +kernel
theorem dX0_ageBy_19 : decode cX0_ageBy 19 = .ok (.getfield 9, 3) := by decide +kernel
theorem dX0_ageBy_22 : decode cX0_ageBy 22 = .ok (.iload_n 3, 1) := by decide +kernel
theorem dX0_ageBy_23 : decode cX0_ageBy 23 = .ok (.iaload, 1) := by decide +kernel
theorem dX0_ageBy_24 : decode cX0_ageBy 24 = .ok (.aload_n 0, 1) := by decide +kernel
theorem dX0_ageBy_25 : decode cX0_ageBy 25 = .ok (.getfield 15, 3) := by decide +kernel
theorem dX0_ageBy_28 : decode cX0_ageBy 28 = .ok (.imul, 1) := by decide +kernel
theorem dX0_ageBy_29 : decode cX0_ageBy 29 = .ok (.sipush 10000, 3) := by decide +kernel
theorem dX0_ageBy_32 : decode cX0_ageBy 32 = .ok (.idiv, 1) := by decide +kernel
theorem dX0_ageBy_33 : decode cX0_ageBy 33 = .ok (.istore 4, 2) := by decide +kernel
theorem dX0_ageBy_35 : decode cX0_ageBy 35 = .ok (.aload_n 0, 1) := by decide +kernel
theorem dX0_ageBy_36 : decode cX0_ageBy 36 = .ok (.getfield 9, 3) := by decide +kernel
theorem dX0_ageBy_39 : decode cX0_ageBy 39 = .ok (.iload_n 3, 1) := by decide +kernel
theorem dX0_ageBy_40 : decode cX0_ageBy 40 = .ok (.aload_n 0, 1) := by decide +kernel
theorem dX0_ageBy_41 : decode cX0_ageBy 41 = .ok (.getfield 9, 3) := by decide +kernel
theorem dX0_ageBy_44 : decode cX0_ageBy 44 = .ok (.iload_n 3, 1) := by decide +kernel
theorem dX0_ageBy_45 : decode cX0_ageBy 45 = .ok (.iaload, 1) := by decide +kernel
theorem dX0_ageBy_46 : decode cX0_ageBy 46 = .ok (.iload 4, 2) := by decide +kernel
theorem dX0_ageBy_48 : decode cX0_ageBy 48 = .ok (.isub, 1) := by decide +kernel
theorem dX0_ageBy_49 : decode cX0_ageBy 49 = .ok (.sipush 5000, 3) := by decide +kernel
theorem dX0_ageBy_52 : decode cX0_ageBy 52 = .ok (.invokestatic 24, 3) := by decide +kernel
theorem dX0_ageBy_55 : decode cX0_ageBy 55 = .ok (.iastore, 1) := by decide +kernel
theorem dX0_ageBy_56 : decode cX0_ageBy 56 = .ok (.iinc 3 1, 3) := by decide +kernel
theorem dX0_ageBy_59 : decode cX0_ageBy 59 = .ok (.goto (-50), 3) := by decide +kernel
theorem dX0_ageBy_62 : decode cX0_ageBy 62 = .ok (.iinc 2 1, 3) := by decide +kernel
theorem dX0_ageBy_65 : decode cX0_ageBy 65 = .ok (.goto (-63), 3) := by decide +kernel
theorem dX0_ageBy_68 : decode cX0_ageBy 68 = .ok (.return_, 1) := by decide +kernel
theorem dX0_tuneTo_0 : decode cX0_tuneTo 0 = .ok (.aload_n 0, 1) := by decide +kernel
theorem dX0_tuneTo_1 : decode cX0_tuneTo 1 = .ok (.iconst 1, 1) := by decide +kernel
theorem dX0_tuneTo_2 : decode cX0_tuneTo 2 = .ok (.invokevirtual 20, 3) := by decide +kernel
theorem dX0_tuneTo_5 : decode cX0_tuneTo 5 = .ok (.i2l, 1) := by decide +kernel
theorem dX0_tuneTo_6 : decode cX0_tuneTo 6 = .ok (.lstore_n 2, 1) := by decide +kernel
theorem dX0_tuneTo_7 : decode cX0_tuneTo 7 = .ok (.lload_n 2, 1) := by decide +kernel
theorem dX0_tuneTo_8 : decode cX0_tuneTo 8 = .ok (.lconst 0, 1) := by decide +kernel
theorem dX0_tuneTo_9 : decode cX0_tuneTo 9 = .ok (.lcmp, 1) := by decide +kernel
theorem dX0_tuneTo_10 : decode cX0_tuneTo 10 = .ok (.ifCond .le 59, 3) := by decide +kernel
theorem dX0_tuneTo_13 : decode cX0_tuneTo 13 = .ok (.iconst 0, 1) := by decide +kernel
theorem dX0_tuneTo_14 : decode cX0_tuneTo 14 = .ok (.istore 4, 2) := by decide +kernel
theorem dX0_tuneTo_16 : decode cX0_tuneTo 16 = .ok (.iload 4, 2) := by decide +kernel
theorem dX0_tuneTo_18 : decode cX0_tuneTo 18 = .ok (.aload_n 0, 1) := by decide +kernel
theorem dX0_tuneTo_19 : decode cX0_tuneTo 19 = .ok (.getfield 9, 3) := by decide +kernel
theorem dX0_tuneTo_22 : decode cX0_tuneTo 22 = .ok (.arraylength, 1) := by decide +kernel
theorem dX0_tuneTo_23 : decode cX0_tuneTo 23 = .ok (.if_icmp .ge 46, 3) := by decide +kernel
theorem dX0_tuneTo_26 : decode cX0_tuneTo 26 = .ok (.aload_n 0, 1) := by decide +kernel
theorem dX0_tuneTo_27 : decode cX0_tuneTo 27 = .ok (.getfield 9, 3) := by decide +kernel
theorem dX0_tuneTo_30 : decode cX0_tuneTo 30 = .ok (.iload 4, 2) := by decide +kernel
theorem dX0_tuneTo_32 : decode cX0_tuneTo 32 = .ok (.iaload, 1) := by decide +kernel
theorem dX0_tuneTo_33 : decode cX0_tuneTo 33 = .ok (.i2l, 1) := by decide +kernel
theorem dX0_tuneTo_34 : decode cX0_tuneTo 34 = .ok (.iload_n 1, 1) := by decide +kernel
theorem dX0_tuneTo_35 : decode cX0_tuneTo 35 = .ok (.i2l, 1) := by decide +kernel
theorem dX0_tuneTo_36 : decode cX0_tuneTo 36 = .ok (.lmul, 1) := by decide +kernel
theorem dX0_tuneTo_37 : decode cX0_tuneTo 37 = .ok (.lload_n 2, 1) := by decide +kernel
theorem dX0_tuneTo_38 : decode cX0_tuneTo 38 = .ok (.ldiv, 1) := by decide +kernel
theorem dX0_tuneTo_39 : decode cX0_tuneTo 39 = .ok (.lstore 5, 2) := by decide +kernel
theorem dX0_tuneTo_41 : decode cX0_tuneTo 41 = .ok (.aload_n 0, 1) := by decide +kernel
theorem dX0_tuneTo_42 : decode cX0_tuneTo 42 = .ok (.getfield 9, 3) := by decide +kernel
theorem dX0_tuneTo_45 : decode cX0_tuneTo 45 = .ok (.iload 4, 2) := by decide +kernel
theorem dX0_tuneTo_47 : decode cX0_tuneTo 47 = .ok (.ldc2_w 30, 3) := by decide +kernel
theorem dX0_tuneTo_50 : decode cX0_tuneTo 50 = .ok (.lload 5, 2) := by decide +kernel
theorem dX0_tuneTo_52 : decode cX0_tuneTo 52 = .ok (.ldc2_w 32, 3) := by decide +kernel
theorem dX0_tuneTo_55 : decode cX0_tuneTo 55 = .ok (.invokestatic 34, 3) := by decide +kernel
theorem dX0_tuneTo_58 : decode cX0_tuneTo 58 = .ok (.invokestatic 38, 3) := by decide +kernel
theorem dX0_tuneTo_61 : decode cX0_tuneTo 61 = .ok (.l2i, 1) := by decide +kernel
theorem dX0_tuneTo_62 : decode cX0_tuneTo 62 = .ok (.iastore, 1) := by decide +kernel
theorem dX0_tuneTo_63 : decode cX0_tuneTo 63 = .ok (.iinc 4 1, 3) := by decide +kernel
theorem dX0_tuneTo_66 : decode cX0_tuneTo 66 = .ok (.goto (-50), 3) := by decide +kernel
theorem dX0_tuneTo_69 : decode cX0_tuneTo 69 = .ok (.return_, 1) := by decide +kernel
theorem dX1_init_0 : decode cX1_init 0 = .ok (.aload_n 0, 1) := by decide +kernel
theorem dX1_init_1 : decode cX1_init 1 = .ok (.invokespecial 1, 3) := by decide +kernel
theorem dX1_init_4 : decode cX1_init 4 = .ok (.aload_n 0, 1) := by decide +kernel
theorem dX1_init_5 : decode cX1_init 5 = .ok (.iload_n 1, 1) := by decide +kernel
theorem dX1_init_6 : decode cX1_init 6 = .ok (.iconst 0, 1) := by decide +kernel
theorem dX1_init_7 : decode cX1_init 7 = .ok (.invokestatic 7, 3) := by decide +kernel
theorem dX1_init_10 : decode cX1_init 10 = .ok (.newarray .int, 2) := by decide +kernel
theorem dX1_init_12 : decode cX1_init 12 = .ok (.putfield 13, 3) := by decide +kernel
theorem dX1_init_15 : decode cX1_init 15 = .ok (.return_, 1) := by decide +kernel
theorem dX1_length_0 : decode cX1_length 0 = .ok (.aload_n 0, 1) := by decide +kernel
theorem dX1_length_1 : decode cX1_length 1 = .ok (.getfield 13, 3) := by decide +kernel
theorem dX1_length_4 : decode cX1_length 4 = .ok (.arraylength, 1) := by decide +kernel
theorem dX1_length_5 : decode cX1_length 5 = .ok (.ireturn, 1) := by decide +kernel
theorem dX1_hasPlace_0 : decode cX1_hasPlace 0 = .ok (.iload_n 1, 1) := by decide +kernel
theorem dX1_hasPlace_1 : decode cX1_hasPlace 1 = .ok (.iconst 1, 1) := by decide +kernel
theorem dX1_hasPlace_2 : decode cX1_hasPlace 2 = .ok (.if_icmp .lt 16, 3) := by decide +kernel
theorem dX1_hasPlace_5 : decode cX1_hasPlace 5 = .ok (.iload_n 1, 1) := by decide +kernel
theorem dX1_hasPlace_6 : decode cX1_hasPlace 6 = .ok (.aload_n 0, 1) := by decide +kernel
theorem dX1_hasPlace_7 : decode cX1_hasPlace 7 = .ok (.getfield 13, 3) := by decide +kernel
theorem dX1_hasPlace_10 : decode cX1_hasPlace 10 = .ok (.arraylength, 1) := by decide +kernel
theorem dX1_hasPlace_11 : decode cX1_hasPlace 11 = .ok (.if_icmp .gt 7, 3) := by decide +kernel
theorem dX1_hasPlace_14 : decode cX1_hasPlace 14 = .ok (.iconst 1, 1) := by decide +kernel
theorem dX1_hasPlace_15 : decode cX1_hasPlace 15 = .ok (.goto 4, 3) := by decide +kernel
theorem dX1_hasPlace_18 : decode cX1_hasPlace 18 = .ok (.iconst 0, 1) := by decide +kernel
theorem dX1_hasPlace_19 : decode cX1_hasPlace 19 = .ok (.ireturn, 1) := by decide +kernel
theorem dX1_at_0 : decode cX1_at 0 = .ok (.aload_n 0, 1) := by decide +kernel
theorem dX1_at_1 : decode cX1_at 1 = .ok (.iload_n 1, 1) := by decide +kernel
theorem dX1_at_2 : decode cX1_at 2 = .ok (.invokevirtual 19, 3) := by decide +kernel
theorem dX1_at_5 : decode cX1_at 5 = .ok (.ifCond .eq 14, 3) := by decide +kernel
theorem dX1_at_8 : decode cX1_at 8 = .ok (.aload_n 0, 1) := by decide +kernel
theorem dX1_at_9 : decode cX1_at 9 = .ok (.getfield 13, 3) := by decide +kernel
theorem dX1_at_12 : decode cX1_at 12 = .ok (.iload_n 1, 1) := by decide +kernel
theorem dX1_at_13 : decode cX1_at 13 = .ok (.iconst 1, 1) := by decide +kernel
theorem dX1_at_14 : decode cX1_at 14 = .ok (.isub, 1) := by decide +kernel
theorem dX1_at_15 : decode cX1_at 15 = .ok (.iaload, 1) := by decide +kernel
theorem dX1_at_16 : decode cX1_at 16 = .ok (.goto 4, 3) := by decide +kernel
theorem dX1_at_19 : decode cX1_at 19 = .ok (.iconst 0, 1) := by decide +kernel
theorem dX1_at_20 : decode cX1_at 20 = .ok (.ireturn, 1) := by decide +kernel
theorem dX1_put_0 : decode cX1_put 0 = .ok (.aload_n 0, 1) := by decide +kernel
theorem dX1_put_1 : decode cX1_put 1 = .ok (.iload_n 1, 1) := by decide +kernel
theorem dX1_put_2 : decode cX1_put 2 = .ok (.invokevirtual 23, 3) := by decide +kernel
theorem dX1_put_5 : decode cX1_put 5 = .ok (.istore_n 3, 1) := by decide +kernel
theorem dX1_put_6 : decode cX1_put 6 = .ok (.aload_n 0, 1) := by decide +kernel
theorem dX1_put_7 : decode cX1_put 7 = .ok (.iload_n 1, 1) := by decide +kernel
theorem dX1_put_8 : decode cX1_put 8 = .ok (.invokevirtual 19, 3) := by decide +kernel
theorem dX1_put_11 : decode cX1_put 11 = .ok (.ifCond .eq 12, 3) := by decide +kernel
theorem dX1_put_14 : decode cX1_put 14 = .ok (.aload_n 0, 1) := by decide +kernel
theorem dX1_put_15 : decode cX1_put 15 = .ok (.getfield 13, 3) := by decide +kernel
theorem dX1_put_18 : decode cX1_put 18 = .ok (.iload_n 1, 1) := by decide +kernel
theorem dX1_put_19 : decode cX1_put 19 = .ok (.iconst 1, 1) := by decide +kernel
theorem dX1_put_20 : decode cX1_put 20 = .ok (.isub, 1) := by decide +kernel
theorem dX1_put_21 : decode cX1_put 21 = .ok (.iload_n 2, 1) := by decide +kernel
theorem dX1_put_22 : decode cX1_put 22 = .ok (.iastore, 1) := by decide +kernel
theorem dX1_put_23 : decode cX1_put 23 = .ok (.iload_n 3, 1) := by decide +kernel
theorem dX1_put_24 : decode cX1_put 24 = .ok (.ireturn, 1) := by decide +kernel
theorem dX1_soundAt_0 : decode cX1_soundAt 0 = .ok (.iload_n 1, 1) := by decide +kernel
theorem dX1_soundAt_1 : decode cX1_soundAt 1 = .ok (.istore_n 2, 1) := by decide +kernel
theorem dX1_soundAt_2 : decode cX1_soundAt 2 = .ok (.aload_n 0, 1) := by decide +kernel
theorem dX1_soundAt_3 : decode cX1_soundAt 3 = .ok (.getfield 13, 3) := by decide +kernel
theorem dX1_soundAt_6 : decode cX1_soundAt 6 = .ok (.arraylength, 1) := by decide +kernel
theorem dX1_soundAt_7 : decode cX1_soundAt 7 = .ok (.istore_n 3, 1) := by decide +kernel
theorem dX1_soundAt_8 : decode cX1_soundAt 8 = .ok (.iload_n 3, 1) := by decide +kernel
theorem dX1_soundAt_9 : decode cX1_soundAt 9 = .ok (.ifCond .le 40, 3) := by decide +kernel
theorem dX1_soundAt_12 : decode cX1_soundAt 12 = .ok (.aload_n 0, 1) := by decide +kernel
theorem dX1_soundAt_13 : decode cX1_soundAt 13 = .ok (.iload_n 2, 1) := by decide +kernel
theorem dX1_soundAt_14 : decode cX1_soundAt 14 = .ok (.invokevirtual 23, 3) := by decide +kernel
theorem dX1_soundAt_17 : decode cX1_soundAt 17 = .ok (.ifCond .eq 9, 3) := by decide +kernel
theorem dX1_soundAt_20 : decode cX1_soundAt 20 = .ok (.aload_n 0, 1) := by decide +kernel
theorem dX1_soundAt_21 : decode cX1_soundAt 21 = .ok (.iload_n 2, 1) := by decide +kernel
theorem dX1_soundAt_22 : decode cX1_soundAt 22 = .ok (.invokevirtual 23, 3) := by decide +kernel
theorem dX1_soundAt_25 : decode cX1_soundAt 25 = .ok (.ireturn, 1) := by decide +kernel
theorem dX1_soundAt_26 : decode cX1_soundAt 26 = .ok (.iload_n 2, 1) := by decide +kernel
theorem dX1_soundAt_27 : decode cX1_soundAt 27 = .ok (.iconst 1, 1) := by decide +kernel
theorem dX1_soundAt_28 : decode cX1_soundAt 28 = .ok (.if_icmp .le 9, 3) := by decide +kernel
theorem dX1_soundAt_31 : decode cX1_soundAt 31 = .ok (.iload_n 2, 1) := by decide +kernel
theorem dX1_soundAt_32 : decode cX1_soundAt 32 = .ok (.iconst 1, 1) := by decide +kernel
theorem dX1_soundAt_33 : decode cX1_soundAt 33 = .ok (.isub, 1) := by decide +kernel
theorem dX1_soundAt_34 : decode cX1_soundAt 34 = .ok (.goto 8, 3) := by decide +kernel
theorem dX1_soundAt_37 : decode cX1_soundAt 37 = .ok (.aload_n 0, 1) := by decide +kernel
theorem dX1_soundAt_38 : decode cX1_soundAt 38 = .ok (.getfield 13, 3) := by decide +kernel
theorem dX1_soundAt_41 : decode cX1_soundAt 41 = .ok (.arraylength, 1) := by decide +kernel
theorem dX1_soundAt_42 : decode cX1_soundAt 42 = .ok (.istore_n 2, 1) := by decide +kernel
theorem dX1_soundAt_43 : decode cX1_soundAt 43 = .ok (.iinc 3 (-1), 3) := by decide +kernel
theorem dX1_soundAt_46 : decode cX1_soundAt 46 = .ok (.goto (-38), 3) := by decide +kernel
theorem dX1_soundAt_49 : decode cX1_soundAt 49 = .ok (.iconst 0, 1) := by decide +kernel
theorem dX1_soundAt_50 : decode cX1_soundAt 50 = .ok (.ireturn, 1) := by decide +kernel
theorem dX1_takeFrom_0 : decode cX1_takeFrom 0 = .ok (.iconst 1, 1) := by decide +kernel
theorem dX1_takeFrom_1 : decode cX1_takeFrom 1 = .ok (.istore_n 2, 1) := by decide +kernel
theorem dX1_takeFrom_2 : decode cX1_takeFrom 2 = .ok (.iload_n 2, 1) := by decide +kernel
theorem dX1_takeFrom_3 : decode cX1_takeFrom 3 = .ok (.aload_n 0, 1) := by decide +kernel
theorem dX1_takeFrom_4 : decode cX1_takeFrom 4 = .ok (.getfield 13, 3) := by decide +kernel
theorem dX1_takeFrom_7 : decode cX1_takeFrom 7 = .ok (.arraylength, 1) := by decide +kernel
theorem dX1_takeFrom_8 : decode cX1_takeFrom 8 = .ok (.if_icmp .gt 20, 3) := by decide +kernel
theorem dX1_takeFrom_11 : decode cX1_takeFrom 11 = .ok (.aload_n 0, 1) := by decide +kernel
theorem dX1_takeFrom_12 : decode cX1_takeFrom 12 = .ok (.iload_n 2, 1) := by decide +kernel
theorem dX1_takeFrom_13 : decode cX1_takeFrom 13 = .ok (.aload_n 1, 1) := by decide +kernel
theorem dX1_takeFrom_14 : decode cX1_takeFrom 14 = .ok (.iload_n 2, 1) := by decide +kernel
theorem dX1_takeFrom_15 : decode cX1_takeFrom 15 = .ok (.invokevirtual 23, 3) := by decide +kernel
theorem dX1_takeFrom_18 : decode cX1_takeFrom 18 = .ok (.invokevirtual 27, 3) := by decide +kernel
theorem dX1_takeFrom_21 : decode cX1_takeFrom 21 = .ok (.pop, 1) := by decide +kernel
theorem dX1_takeFrom_22 : decode cX1_takeFrom 22 = .ok (.iinc 2 1, 3) := by decide +kernel
theorem dX1_takeFrom_25 : decode cX1_takeFrom 25 = .ok (.goto (-23), 3) := by decide +kernel
theorem dX1_takeFrom_28 : decode cX1_takeFrom 28 = .ok (.return_, 1) := by decide +kernel
theorem dX1_placesUnlike_0 : decode cX1_placesUnlike 0 = .ok (.iconst 0, 1) := by decide +kernel
theorem dX1_placesUnlike_1 : decode cX1_placesUnlike 1 = .ok (.istore_n 2, 1) := by decide +kernel
theorem dX1_placesUnlike_2 : decode cX1_placesUnlike 2 = .ok (.iconst 1, 1) := by decide +kernel
theorem dX1_placesUnlike_3 : decode cX1_placesUnlike 3 = .ok (.istore_n 3, 1) := by decide +kernel
theorem dX1_placesUnlike_4 : decode cX1_placesUnlike 4 = .ok (.iload_n 3, 1) := by decide +kernel
theorem dX1_placesUnlike_5 : decode cX1_placesUnlike 5 = .ok (.aload_n 0, 1) := by decide +kernel
theorem dX1_placesUnlike_6 : decode cX1_placesUnlike 6 = .ok (.getfield 13, 3) := by decide +kernel
theorem dX1_placesUnlike_9 : decode cX1_placesUnlike 9 = .ok (.arraylength, 1) := by decide +kernel
theorem dX1_placesUnlike_10 : decode cX1_placesUnlike 10 = .ok (.if_icmp .gt 25, 3) := by decide +kernel
theorem dX1_placesUnlike_13 : decode cX1_placesUnlike 13 = .ok (.aload_n 0, 1) := by decide +kernel
theorem dX1_placesUnlike_14 : decode cX1_placesUnlike 14 = .ok (.iload_n 3, 1) := by decide +kernel
theorem dX1_placesUnlike_15 : decode cX1_placesUnlike 15 = .ok (.invokevirtual 23, 3) := by decide +kernel
theorem dX1_placesUnlike_18 : decode cX1_placesUnlike 18 = .ok (.aload_n 1, 1) := by decide +kernel
theorem dX1_placesUnlike_19 : decode cX1_placesUnlike 19 = .ok (.iload_n 3, 1) := by decide +kernel
theorem dX1_placesUnlike_20 : decode cX1_placesUnlike 20 = .ok (.invokevirtual 23, 3) := by decide +kernel
theorem dX1_placesUnlike_23 : decode cX1_placesUnlike 23 = .ok (.if_icmp .eq 6, 3) := by decide +kernel
theorem dX1_placesUnlike_26 : decode cX1_placesUnlike 26 = .ok (.iinc 2 1, 3) := by decide +kernel
theorem dX1_placesUnlike_29 : decode cX1_placesUnlike 29 = .ok (.iinc 3 1, 3) := by decide +kernel
theorem dX1_placesUnlike_32 : decode cX1_placesUnlike 32 = .ok (.goto (-28), 3) := by decide +kernel
theorem dX1_placesUnlike_35 : decode cX1_placesUnlike 35 = .ok (.iload_n 2, 1) := by decide +kernel
theorem dX1_placesUnlike_36 : decode cX1_placesUnlike 36 = .ok (.ireturn, 1) := by decide +kernel
theorem dX2_init_0 : decode cX2_init 0 = .ok (.aload_n 0, 1) := by decide +kernel
theorem dX2_init_1 : decode cX2_init 1 = .ok (.invokespecial 1, 3) := by decide +kernel
theorem dX2_init_4 : decode cX2_init 4 = .ok (.aload_n 0, 1) := by decide +kernel
theorem dX2_init_5 : decode cX2_init 5 = .ok (.iconst 0, 1) := by decide +kernel
theorem dX2_init_6 : decode cX2_init 6 = .ok (.putfield 7, 3) := by decide +kernel
theorem dX2_init_9 : decode cX2_init 9 = .ok (.aload_n 0, 1) := by decide +kernel
theorem dX2_init_10 : decode cX2_init 10 = .ok (.new 13, 3) := by decide +kernel
theorem dX2_init_13 : decode cX2_init 13 = .ok (.dup, 1) := by decide +kernel
theorem dX2_init_14 : decode cX2_init 14 = .ok (.iload_n 1, 1) := by decide +kernel
theorem dX2_init_15 : decode cX2_init 15 = .ok (.invokespecial 15, 3) := by decide +kernel
theorem dX2_init_18 : decode cX2_init 18 = .ok (.putfield 18, 3) := by decide +kernel
theorem dX2_init_21 : decode cX2_init 21 = .ok (.return_, 1) := by decide +kernel
theorem dX3_init_0 : decode cX3_init 0 = .ok (.aload_n 0, 1) := by decide +kernel
theorem dX3_init_1 : decode cX3_init 1 = .ok (.invokespecial 3, 3) := by decide +kernel
theorem dX3_init_4 : decode cX3_init 4 = .ok (.aload_n 0, 1) := by decide +kernel
theorem dX3_init_5 : decode cX3_init 5 = .ok (.bipush 6, 2) := by decide +kernel
theorem dX3_init_7 : decode cX3_init 7 = .ok (.anewarray 9, 3) := by decide +kernel
theorem dX3_init_10 : decode cX3_init 10 = .ok (.putfield 11, 3) := by decide +kernel
theorem dX3_init_13 : decode cX3_init 13 = .ok (.aload_n 0, 1) := by decide +kernel
theorem dX3_init_14 : decode cX3_init 14 = .ok (.iload_n 1, 1) := by decide +kernel
theorem dX3_init_15 : decode cX3_init 15 = .ok (.putfield 17, 3) := by decide +kernel
theorem dX3_init_18 : decode cX3_init 18 = .ok (.return_, 1) := by decide +kernel
theorem dX3_versionOf_0 : decode cX3_versionOf 0 = .ok (.iload_n 1, 1) := by decide +kernel
theorem dX3_versionOf_1 : decode cX3_versionOf 1 = .ok (.ifCond .lt 21, 3) := by decide +kernel
theorem dX3_versionOf_4 : decode cX3_versionOf 4 = .ok (.iload_n 1, 1) := by decide +kernel
theorem dX3_versionOf_5 : decode cX3_versionOf 5 = .ok (.aload_n 0, 1) := by decide +kernel
theorem dX3_versionOf_6 : decode cX3_versionOf 6 = .ok (.getfield 11, 3) := by decide +kernel
theorem dX3_versionOf_9 : decode cX3_versionOf 9 = .ok (.arraylength, 1) := by decide +kernel
theorem dX3_versionOf_10 : decode cX3_versionOf 10 = .ok (.if_icmp .ge 12, 3) := by decide +kernel
theorem dX3_versionOf_13 : decode cX3_versionOf 13 = .ok (.aload_n 0, 1) := by decide +kernel
theorem dX3_versionOf_14 : decode cX3_versionOf 14 = .ok (.getfield 11, 3) := by decide +kernel
theorem dX3_versionOf_17 : decode cX3_versionOf 17 = .ok (.iload_n 1, 1) := by decide +kernel
theorem dX3_versionOf_18 : decode cX3_versionOf 18 = .ok (.aaload, 1) := by decide +kernel
theorem dX3_versionOf_19 : decode cX3_versionOf 19 = .ok (.goto 4, 3) := by decide +kernel
theorem dX3_versionOf_22 : decode cX3_versionOf 22 = .ok (.aconst_null, 1) := by decide +kernel
theorem dX3_versionOf_23 : decode cX3_versionOf 23 = .ok (.areturn, 1) := by decide +kernel
theorem dX3_takeVersion_0 : decode cX3_takeVersion 0 = .ok (.aload_n 0, 1) := by decide +kernel
theorem dX3_takeVersion_1 : decode cX3_takeVersion 1 = .ok (.iload_n 1, 1) := by decide +kernel
theorem dX3_takeVersion_2 : decode cX3_takeVersion 2 = .ok (.invokevirtual 21, 3) := by decide +kernel
theorem dX3_takeVersion_5 : decode cX3_takeVersion 5 = .ok (.astore_n 3, 1) := by decide +kernel
theorem dX3_takeVersion_6 : decode cX3_takeVersion 6 = .ok (.aload_n 3, 1) := by decide +kernel
theorem dX3_takeVersion_7 : decode cX3_takeVersion 7 = .ok (.ifnonnull 35, 3) := by decide +kernel
theorem dX3_takeVersion_10 : decode cX3_takeVersion 10 = .ok (.iload_n 1, 1) := by decide +kernel
theorem dX3_takeVersion_11 : decode cX3_takeVersion 11 = .ok (.ifCond .lt 31, 3) := by decide +kernel
theorem dX3_takeVersion_14 : decode cX3_takeVersion 14 = .ok (.iload_n 1, 1) := by decide +kernel
theorem dX3_takeVersion_15 : decode cX3_takeVersion 15 = .ok (.aload_n 0, 1) := by decide +kernel
theorem dX3_takeVersion_16 : decode cX3_takeVersion 16 = .ok (.getfield 11, 3) := by decide +kernel
theorem dX3_takeVersion_19 : decode cX3_takeVersion 19 = .ok (.arraylength, 1) := by decide +kernel
theorem dX3_takeVersion_20 : decode cX3_takeVersion 20 = .ok (.if_icmp .ge 22, 3) := by decide +kernel
theorem dX3_takeVersion_23 : decode cX3_takeVersion 23 = .ok (.new 9, 3) := by decide +kernel
theorem dX3_takeVersion_26 : decode cX3_takeVersion 26 = .ok (.dup, 1) := by decide +kernel
theorem dX3_takeVersion_27 : decode cX3_takeVersion 27 = .ok (.aload_n 2, 1) := by decide +kernel
theorem dX3_takeVersion_28 : decode cX3_takeVersion 28 = .ok (.invokevirtual 25, 3) := by decide +kernel
theorem dX3_takeVersion_31 : decode cX3_takeVersion 31 = .ok (.invokespecial 29, 3) := by decide +kernel
theorem dX3_takeVersion_34 : decode cX3_takeVersion 34 = .ok (.astore_n 3, 1) := by decide +kernel
theorem dX3_takeVersion_35 : decode cX3_takeVersion 35 = .ok (.aload_n 0, 1) := by decide +kernel
theorem dX3_takeVersion_36 : decode cX3_takeVersion 36 = .ok (.getfield 11, 3) := by decide +kernel
theorem dX3_takeVersion_39 : decode cX3_takeVersion 39 = .ok (.iload_n 1, 1) := by decide +kernel
theorem dX3_takeVersion_40 : decode cX3_takeVersion 40 = .ok (.aload_n 3, 1) := by decide +kernel
theorem dX3_takeVersion_41 : decode cX3_takeVersion 41 = .ok (.aastore, 1) := by decide +kernel
theorem dX3_takeVersion_42 : decode cX3_takeVersion 42 = .ok (.aload_n 3, 1) := by decide +kernel
theorem dX3_takeVersion_43 : decode cX3_takeVersion 43 = .ok (.ifnull 8, 3) := by decide +kernel
theorem dX3_takeVersion_46 : decode cX3_takeVersion 46 = .ok (.aload_n 3, 1) := by decide +kernel
theorem dX3_takeVersion_47 : decode cX3_takeVersion 47 = .ok (.aload_n 2, 1) := by decide +kernel
theorem dX3_takeVersion_48 : decode cX3_takeVersion 48 = .ok (.invokevirtual 32, 3) := by decide +kernel
theorem dX3_takeVersion_51 : decode cX3_takeVersion 51 = .ok (.return_, 1) := by decide +kernel
theorem dX4_init_0 : decode cX4_init 0 = .ok (.aload_n 0, 1) := by decide +kernel
theorem dX4_init_1 : decode cX4_init 1 = .ok (.invokespecial 3, 3) := by decide +kernel
theorem dX4_init_4 : decode cX4_init 4 = .ok (.aload_n 0, 1) := by decide +kernel
theorem dX4_init_5 : decode cX4_init 5 = .ok (.iconst (-1), 1) := by decide +kernel
theorem dX4_init_6 : decode cX4_init 6 = .ok (.putfield 9, 3) := by decide +kernel
theorem dX4_init_9 : decode cX4_init 9 = .ok (.aload_n 0, 1) := by decide +kernel
theorem dX4_init_10 : decode cX4_init 10 = .ok (.iconst 0, 1) := by decide +kernel
theorem dX4_init_11 : decode cX4_init 11 = .ok (.putfield 15, 3) := by decide +kernel
theorem dX4_init_14 : decode cX4_init 14 = .ok (.aload_n 0, 1) := by decide +kernel
theorem dX4_init_15 : decode cX4_init 15 = .ok (.iconst 0, 1) := by decide +kernel
theorem dX4_init_16 : decode cX4_init 16 = .ok (.putfield 18, 3) := by decide +kernel
theorem dX4_init_19 : decode cX4_init 19 = .ok (.aload_n 0, 1) := by decide +kernel
theorem dX4_init_20 : decode cX4_init 20 = .ok (.iconst 0, 1) := by decide +kernel
theorem dX4_init_21 : decode cX4_init 21 = .ok (.putfield 21, 3) := by decide +kernel
theorem dX4_init_24 : decode cX4_init 24 = .ok (.aload_n 0, 1) := by decide +kernel
theorem dX4_init_25 : decode cX4_init 25 = .ok (.iconst 0, 1) := by decide +kernel
theorem dX4_init_26 : decode cX4_init 26 = .ok (.putfield 24, 3) := by decide +kernel
theorem dX4_init_29 : decode cX4_init 29 = .ok (.aload_n 0, 1) := by decide +kernel
theorem dX4_init_30 : decode cX4_init 30 = .ok (.iconst 0, 1) := by decide +kernel
theorem dX4_init_31 : decode cX4_init 31 = .ok (.putfield 27, 3) := by decide +kernel
theorem dX4_init_34 : decode cX4_init 34 = .ok (.aload_n 0, 1) := by decide +kernel
theorem dX4_init_35 : decode cX4_init 35 = .ok (.iconst 0, 1) := by decide +kernel
theorem dX4_init_36 : decode cX4_init 36 = .ok (.putfield 30, 3) := by decide +kernel
theorem dX4_init_39 : decode cX4_init 39 = .ok (.aload_n 0, 1) := by decide +kernel
theorem dX4_init_40 : decode cX4_init 40 = .ok (.iconst 0, 1) := by decide +kernel
theorem dX4_init_41 : decode cX4_init 41 = .ok (.putfield 33, 3) := by decide +kernel
theorem dX4_init_44 : decode cX4_init 44 = .ok (.aload_n 0, 1) := by decide +kernel
theorem dX4_init_45 : decode cX4_init 45 = .ok (.iconst 0, 1) := by decide +kernel
theorem dX4_init_46 : decode cX4_init 46 = .ok (.putfield 37, 3) := by decide +kernel
theorem dX4_init_49 : decode cX4_init 49 = .ok (.aload_n 0, 1) := by decide +kernel
theorem dX4_init_50 : decode cX4_init 50 = .ok (.lconst 0, 1) := by decide +kernel
theorem dX4_init_51 : decode cX4_init 51 = .ok (.putfield 40, 3) := by decide +kernel
theorem dX4_init_54 : decode cX4_init 54 = .ok (.aload_n 0, 1) := by decide +kernel
theorem dX4_init_55 : decode cX4_init 55 = .ok (.iconst 4, 1) := by decide +kernel
theorem dX4_init_56 : decode cX4_init 56 = .ok (.newarray .long, 2) := by decide +kernel
theorem dX4_init_58 : decode cX4_init 58 = .ok (.putfield 44, 3) := by decide +kernel
theorem dX4_init_61 : decode cX4_init 61 = .ok (.return_, 1) := by decide +kernel
theorem dX4_startPiece_0 : decode cX4_startPiece 0 = .ok (.aload_n 0, 1) := by decide +kernel
theorem dX4_startPiece_1 : decode cX4_startPiece 1 = .ok (.iload_n 1, 1) := by decide +kernel
theorem dX4_startPiece_2 : decode cX4_startPiece 2 = .ok (.putfield 9, 3) := by decide +kernel
theorem dX4_startPiece_5 : decode cX4_startPiece 5 = .ok (.aload_n 0, 1) := by decide +kernel
theorem dX4_startPiece_6 : decode cX4_startPiece 6 = .ok (.iload_n 2, 1) := by decide +kernel
theorem dX4_startPiece_7 : decode cX4_startPiece 7 = .ok (.putfield 15, 3) := by decide +kernel
theorem dX4_startPiece_10 : decode cX4_startPiece 10 = .ok (.aload_n 0, 1) := by decide +kernel
theorem dX4_startPiece_11 : decode cX4_startPiece 11 = .ok (.iconst 0, 1) := by decide +kernel
theorem dX4_startPiece_12 : decode cX4_startPiece 12 = .ok (.putfield 18, 3) := by decide +kernel
theorem dX4_startPiece_15 : decode cX4_startPiece 15 = .ok (.aload_n 0, 1) := by decide +kernel
theorem dX4_startPiece_16 : decode cX4_startPiece 16 = .ok (.bipush 20, 2) := by decide +kernel
theorem dX4_startPiece_18 : decode cX4_startPiece 18 = .ok (.putfield 21, 3) := by decide +kernel
theorem dX4_startPiece_21 : decode cX4_startPiece 21 = .ok (.aload_n 0, 1) := by decide +kernel
theorem dX4_startPiece_22 : decode cX4_startPiece 22 = .ok (.iconst 0, 1) := by decide +kernel
theorem dX4_startPiece_23 : decode cX4_startPiece 23 = .ok (.putfield 24, 3) := by decide +kernel
theorem dX4_startPiece_26 : decode cX4_startPiece 26 = .ok (.aload_n 0, 1) := by decide +kernel
theorem dX4_startPiece_27 : decode cX4_startPiece 27 = .ok (.iconst 0, 1) := by decide +kernel
theorem dX4_startPiece_28 : decode cX4_startPiece 28 = .ok (.putfield 27, 3) := by decide +kernel
theorem dX4_startPiece_31 : decode cX4_startPiece 31 = .ok (.aload_n 0, 1) := by decide +kernel
theorem dX4_startPiece_32 : decode cX4_startPiece 32 = .ok (.iconst 0, 1) := by decide +kernel
theorem dX4_startPiece_33 : decode cX4_startPiece 33 = .ok (.putfield 30, 3) := by decide +kernel
theorem dX4_startPiece_36 : decode cX4_startPiece 36 = .ok (.aload_n 0, 1) := by decide +kernel
theorem dX4_startPiece_37 : decode cX4_startPiece 37 = .ok (.iconst 0, 1) := by decide +kernel
theorem dX4_startPiece_38 : decode cX4_startPiece 38 = .ok (.putfield 37, 3) := by decide +kernel
theorem dX4_startPiece_41 : decode cX4_startPiece 41 = .ok (.aload_n 0, 1) := by decide +kernel
theorem dX4_startPiece_42 : decode cX4_startPiece 42 = .ok (.iconst 1, 1) := by decide +kernel
theorem dX4_startPiece_43 : decode cX4_startPiece 43 = .ok (.putfield 33, 3) := by decide +kernel
theorem dX4_startPiece_46 : decode cX4_startPiece 46 = .ok (.return_, 1) := by decide +kernel
theorem dX4_hearDrum_0 : decode cX4_hearDrum 0 = .ok (.iload_n 1, 1) := by decide +kernel
theorem dX4_hearDrum_1 : decode cX4_hearDrum 1 = .ok (.lookupswitch 42 #[(3, 27), (4, 34)], 27) := by decide +kernel
theorem dX4_hearDrum_28 : decode cX4_hearDrum 28 = .ok (.aload_n 0, 1) := by decide +kernel
theorem dX4_hearDrum_29 : decode cX4_hearDrum 29 = .ok (.invokevirtual 48, 3) := by decide +kernel
theorem dX4_hearDrum_32 : decode cX4_hearDrum 32 = .ok (.goto 16, 3) := by decide +kernel
theorem dX4_hearDrum_35 : decode cX4_hearDrum 35 = .ok (.aload_n 0, 1) := by decide +kernel
theorem dX4_hearDrum_36 : decode cX4_hearDrum 36 = .ok (.iconst 0, 1) := by decide +kernel
theorem dX4_hearDrum_37 : decode cX4_hearDrum 37 = .ok (.putfield 33, 3) := by decide +kernel
theorem dX4_hearDrum_40 : decode cX4_hearDrum 40 = .ok (.goto 8, 3) := by decide +kernel
theorem dX4_hearDrum_43 : decode cX4_hearDrum 43 = .ok (.aload_n 0, 1) := by decide +kernel
theorem dX4_hearDrum_44 : decode cX4_hearDrum 44 = .ok (.iload_n 1, 1) := by decide +kernel
theorem dX4_hearDrum_45 : decode cX4_hearDrum 45 = .ok (.putfield 30, 3) := by decide +kernel
theorem dX4_hearDrum_48 : decode cX4_hearDrum 48 = .ok (.return_, 1) := by decide +kernel
theorem dX4_hearEnd_0 : decode cX4_hearEnd 0 = .ok (.aload_n 0, 1) := by decide +kernel
theorem dX4_hearEnd_1 : decode cX4_hearEnd 1 = .ok (.getfield 37, 3) := by decide +kernel
theorem dX4_hearEnd_4 : decode cX4_hearEnd 4 = .ok (.ifCond .ne 25, 3) := by decide +kernel
theorem dX4_hearEnd_7 : decode cX4_hearEnd 7 = .ok (.aload_n 0, 1) := by decide +kernel
theorem dX4_hearEnd_8 : decode cX4_hearEnd 8 = .ok (.aload_n 0, 1) := by decide +kernel
theorem dX4_hearEnd_9 : decode cX4_hearEnd 9 = .ok (.getfield 18, 3) := by decide +kernel
theorem dX4_hearEnd_12 : decode cX4_hearEnd 12 = .ok (.aload_n 0, 1) := by decide +kernel
theorem dX4_hearEnd_13 : decode cX4_hearEnd 13 = .ok (.getfield 15, 3) := by decide +kernel
theorem dX4_hearEnd_16 : decode cX4_hearEnd 16 = .ok (.iconst 2, 1) := by decide +kernel
theorem dX4_hearEnd_17 : decode cX4_hearEnd 17 = .ok (.idiv, 1) := by decide +kernel
theorem dX4_hearEnd_18 : decode cX4_hearEnd 18 = .ok (.if_icmp .gt 7, 3) := by decide +kernel
theorem dX4_hearEnd_21 : decode cX4_hearEnd 21 = .ok (.iconst 1, 1) := by decide +kernel
theorem dX4_hearEnd_22 : decode cX4_hearEnd 22 = .ok (.goto 4, 3) := by decide +kernel
theorem dX4_hearEnd_25 : decode cX4_hearEnd 25 = .ok (.iconst 2, 1) := by decide +kernel
theorem dX4_hearEnd_26 : decode cX4_hearEnd 26 = .ok (.putfield 37, 3) := by decide +kernel
theorem dX4_hearEnd_29 : decode cX4_hearEnd 29 = .ok (.return_, 1) := by decide +kernel
theorem dX4_playBeat_0 : decode cX4_playBeat 0 = .ok (.aload_n 0, 1) := by decide +kernel
theorem dX4_playBeat_1 : decode cX4_playBeat 1 = .ok (.aload_n 0, 1) := by decide +kernel
theorem dX4_playBeat_2 : decode cX4_playBeat 2 = .ok (.getfield 18, 3) := by decide +kernel
theorem dX4_playBeat_5 : decode cX4_playBeat 5 = .ok (.aload_n 0, 1) := by decide +kernel
theorem dX4_playBeat_6 : decode cX4_playBeat 6 = .ok (.getfield 15, 3) := by decide +kernel
theorem dX4_playBeat_9 : decode cX4_playBeat 9 = .ok (.if_icmp .ge 12, 3) := by decide +kernel
theorem dX4_playBeat_12 : decode cX4_playBeat 12 = .ok (.aload_n 0, 1) := by decide +kernel
theorem dX4_playBeat_13 : decode cX4_playBeat 13 = .ok (.getfield 18, 3) := by decide +kernel
theorem dX4_playBeat_16 : decode cX4_playBeat 16 = .ok (.iconst 1, 1) := by decide +kernel
theorem dX4_playBeat_17 : decode cX4_playBeat 17 = .ok (.iadd, 1) := by decide +kernel
theorem dX4_playBeat_18 : decode cX4_playBeat 18 = .ok (.goto 4, 3) := by decide +kernel
theorem dX4_playBeat_21 : decode cX4_playBeat 21 = .ok (.iconst 1, 1) := by decide +kernel
theorem dX4_playBeat_22 : decode cX4_playBeat 22 = .ok (.putfield 18, 3) := by decide +kernel
theorem dX4_playBeat_25 : decode cX4_playBeat 25 = .ok (.aload_n 0, 1) := by decide +kernel
theorem dX4_playBeat_26 : decode cX4_playBeat 26 = .ok (.dup, 1) := by decide +kernel
theorem dX4_playBeat_27 : decode cX4_playBeat 27 = .ok (.getfield 40, 3) := by decide +kernel
theorem dX4_playBeat_30 : decode cX4_playBeat 30 = .ok (.aload_n 0, 1) := by decide +kernel
theorem dX4_playBeat_31 : decode cX4_playBeat 31 = .ok (.getfield 21, 3) := by decide +kernel
theorem dX4_playBeat_34 : decode cX4_playBeat 34 = .ok (.i2l, 1) := by decide +kernel
theorem dX4_playBeat_35 : decode cX4_playBeat 35 = .ok (.ladd, 1) := by decide +kernel
theorem dX4_playBeat_36 : decode cX4_playBeat 36 = .ok (.putfield 40, 3) := by decide +kernel
theorem dX4_playBeat_39 : decode cX4_playBeat 39 = .ok (.iconst 0, 1) := by decide +kernel
theorem dX4_playBeat_40 : decode cX4_playBeat 40 = .ok (.istore_n 1, 1) := by decide +kernel
theorem dX4_playBeat_41 : decode cX4_playBeat 41 = .ok (.iload_n 1, 1) := by decide +kernel
theorem dX4_playBeat_42 : decode cX4_playBeat 42 = .ok (.aload_n 0, 1) := by decide +kernel
theorem dX4_playBeat_43 : decode cX4_playBeat 43 = .ok (.getfield 44, 3) := by decide +kernel
theorem dX4_playBeat_46 : decode cX4_playBeat 46 = .ok (.arraylength, 1) := by decide +kernel
theorem dX4_playBeat_47 : decode cX4_playBeat 47 = .ok (.if_icmp .ge 27, 3) := by decide +kernel
theorem dX4_playBeat_50 : decode cX4_playBeat 50 = .ok (.aload_n 0, 1) := by decide +kernel
theorem dX4_playBeat_51 : decode cX4_playBeat 51 = .ok (.getfield 44, 3) := by decide +kernel
theorem dX4_playBeat_54 : decode cX4_playBeat 54 = .ok (.iload_n 1, 1) := by decide +kernel
theorem dX4_playBeat_55 : decode cX4_playBeat 55 = .ok (.dup2, 1) := by decide +kernel
theorem dX4_playBeat_56 : decode cX4_playBeat 56 = .ok (.laload, 1) := by decide +kernel
theorem dX4_playBeat_57 : decode cX4_playBeat 57 = .ok (.iload_n 1, 1) := by decide +kernel
theorem dX4_playBeat_58 : decode cX4_playBeat 58 = .ok (.aload_n 0, 1) := by decide +kernel
theorem dX4_playBeat_59 : decode cX4_playBeat 59 = .ok (.getfield 24, 3) := by decide +kernel
theorem dX4_playBeat_62 : decode cX4_playBeat 62 = .ok (.invokestatic 51, 3) := by decide +kernel
theorem dX4_playBeat_65 : decode cX4_playBeat 65 = .ok (.i2l, 1) := by decide +kernel
theorem dX4_playBeat_66 : decode cX4_playBeat 66 = .ok (.ladd, 1) := by decide +kernel
theorem dX4_playBeat_67 : decode cX4_playBeat 67 = .ok (.lastore, 1) := by decide +kernel
theorem dX4_playBeat_68 : decode cX4_playBeat 68 = .ok (.iinc 1 1, 3) := by decide +kernel
theorem dX4_playBeat_71 : decode cX4_playBeat 71 = .ok (.goto (-30), 3) := by decide +kernel
theorem dX4_playBeat_74 : decode cX4_playBeat 74 = .ok (.aload_n 0, 1) := by decide +kernel
theorem dX4_playBeat_75 : decode cX4_playBeat 75 = .ok (.invokevirtual 55, 3) := by decide +kernel
theorem dX4_playBeat_78 : decode cX4_playBeat 78 = .ok (.aload_n 0, 1) := by decide +kernel
theorem dX4_playBeat_79 : decode cX4_playBeat 79 = .ok (.getfield 18, 3) := by decide +kernel
theorem dX4_playBeat_82 : decode cX4_playBeat 82 = .ok (.aload_n 0, 1) := by decide +kernel
theorem dX4_playBeat_83 : decode cX4_playBeat 83 = .ok (.getfield 15, 3) := by decide +kernel
theorem dX4_playBeat_86 : decode cX4_playBeat 86 = .ok (.if_icmp .ne 7, 3) := by decide +kernel
theorem dX4_playBeat_89 : decode cX4_playBeat 89 = .ok (.aload_n 0, 1) := by decide +kernel
theorem dX4_playBeat_90 : decode cX4_playBeat 90 = .ok (.invokevirtual 58, 3) := by decide +kernel
theorem dX4_playBeat_93 : decode cX4_playBeat 93 = .ok (.return_, 1) := by decide +kernel
theorem dX4_changeBeatLength_0 : decode cX4_changeBeatLength 0 = .ok (.aload_n 0, 1) := by decide +kernel
theorem dX4_changeBeatLength_1 : decode cX4_changeBeatLength 1 = .ok (.getfield 30, 3) := by decide +kernel
theorem dX4_changeBeatLength_4 : decode cX4_changeBeatLength 4 = .ok (.iconst 1, 1) := by decide +kernel
theorem dX4_changeBeatLength_5 : decode cX4_changeBeatLength 5 = .ok (.if_icmp .ne 22, 3) := by decide +kernel
theorem dX4_changeBeatLength_8 : decode cX4_changeBeatLength 8 = .ok (.aload_n 0, 1) := by decide +kernel
theorem dX4_changeBeatLength_9 : decode cX4_changeBeatLength 9 = .ok (.aload_n 0, 1) := by decide +kernel
theorem dX4_changeBeatLength_10 : decode cX4_changeBeatLength 10 = .ok (.getfield 21, 3) := by decide +kernel
theorem dX4_changeBeatLength_13 : decode cX4_changeBeatLength 13 = .ok (.iconst 2, 1) := by decide +kernel
theorem dX4_changeBeatLength_14 : decode cX4_changeBeatLength 14 = .ok (.iadd, 1) := by decide +kernel
theorem dX4_changeBeatLength_15 : decode cX4_changeBeatLength 15 = .ok (.sipush 160, 3) := by decide +kernel
theorem dX4_changeBeatLength_18 : decode cX4_changeBeatLength 18 = .ok (.invokestatic 61, 3) := by decide +kernel
theorem dX4_changeBeatLength_21 : decode cX4_changeBeatLength 21 = .ok (.putfield 21, 3) := by decide +kernel
theorem dX4_changeBeatLength_24 : decode cX4_changeBeatLength 24 = .ok (.goto 26, 3) := by decide +kernel
theorem dX4_changeBeatLength_27 : decode cX4_changeBeatLength 27 = .ok (.aload_n 0, 1) := by decide +kernel
theorem dX4_changeBeatLength_28 : decode cX4_changeBeatLength 28 = .ok (.getfield 30, 3) := by decide +kernel
theorem dX4_changeBeatLength_31 : decode cX4_changeBeatLength 31 = .ok (.iconst 2, 1) := by decide +kernel
theorem dX4_changeBeatLength_32 : decode cX4_changeBeatLength 32 = .ok (.if_icmp .ne 18, 3) := by decide +kernel
theorem dX4_changeBeatLength_35 : decode cX4_changeBeatLength 35 = .ok (.aload_n 0, 1) := by decide +kernel
theorem dX4_changeBeatLength_36 : decode cX4_changeBeatLength 36 = .ok (.aload_n 0, 1) := by decide +kernel
theorem dX4_changeBeatLength_37 : decode cX4_changeBeatLength 37 = .ok (.getfield 21, 3) := by decide +kernel
theorem dX4_changeBeatLength_40 : decode cX4_changeBeatLength 40 = .ok (.iconst 2, 1) := by decide +kernel
theorem dX4_changeBeatLength_41 : decode cX4_changeBeatLength 41 = .ok (.isub, 1) := by decide +kernel
theorem dX4_changeBeatLength_42 : decode cX4_changeBeatLength 42 = .ok (.bipush 10, 2) := by decide +kernel
theorem dX4_changeBeatLength_44 : decode cX4_changeBeatLength 44 = .ok (.invokestatic 66, 3) := by decide +kernel
theorem dX4_changeBeatLength_47 : decode cX4_changeBeatLength 47 = .ok (.putfield 21, 3) := by decide +kernel
theorem dX4_changeBeatLength_50 : decode cX4_changeBeatLength 50 = .ok (.return_, 1) := by decide +kernel
theorem dX4_playGong_0 : decode cX4_playGong 0 = .ok (.aload_n 0, 1) := by decide +kernel
theorem dX4_playGong_1 : decode cX4_playGong 1 = .ok (.dup, 1) := by decide +kernel
theorem dX4_playGong_2 : decode cX4_playGong 2 = .ok (.getfield 27, 3) := by decide +kernel
theorem dX4_playGong_5 : decode cX4_playGong 5 = .ok (.iconst 1, 1) := by decide +kernel
theorem dX4_playGong_6 : decode cX4_playGong 6 = .ok (.iadd, 1) := by decide +kernel
theorem dX4_playGong_7 : decode cX4_playGong 7 = .ok (.putfield 27, 3) := by decide +kernel
theorem dX4_playGong_10 : decode cX4_playGong 10 = .ok (.aload_n 0, 1) := by decide +kernel
theorem dX4_playGong_11 : decode cX4_playGong 11 = .ok (.aload_n 0, 1) := by decide +kernel
theorem dX4_playGong_12 : decode cX4_playGong 12 = .ok (.getfield 21, 3) := by decide +kernel
theorem dX4_playGong_15 : decode cX4_playGong 15 = .ok (.invokestatic 69, 3) := by decide +kernel
theorem dX4_playGong_18 : decode cX4_playGong 18 = .ok (.putfield 24, 3) := by decide +kernel
theorem dX4_playGong_21 : decode cX4_playGong 21 = .ok (.aload_n 0, 1) := by decide +kernel
theorem dX4_playGong_22 : decode cX4_playGong 22 = .ok (.getfield 37, 3) := by decide +kernel
theorem dX4_playGong_25 : decode cX4_playGong 25 = .ok (.ifCond .le 29, 3) := by decide +kernel
theorem dX4_playGong_28 : decode cX4_playGong 28 = .ok (.aload_n 0, 1) := by decide +kernel
theorem dX4_playGong_29 : decode cX4_playGong 29 = .ok (.dup, 1) := by decide +kernel
theorem dX4_playGong_30 : decode cX4_playGong 30 = .ok (.getfield 37, 3) := by decide +kernel
theorem dX4_playGong_33 : decode cX4_playGong 33 = .ok (.iconst 1, 1) := by decide +kernel
theorem dX4_playGong_34 : decode cX4_playGong 34 = .ok (.isub, 1) := by decide +kernel
theorem dX4_playGong_35 : decode cX4_playGong 35 = .ok (.putfield 37, 3) := by decide +kernel
theorem dX4_playGong_38 : decode cX4_playGong 38 = .ok (.aload_n 0, 1) := by decide +kernel
theorem dX4_playGong_39 : decode cX4_playGong 39 = .ok (.aload_n 0, 1) := by decide +kernel
theorem dX4_playGong_40 : decode cX4_playGong 40 = .ok (.getfield 37, 3) := by decide +kernel
theorem dX4_playGong_43 : decode cX4_playGong 43 = .ok (.ifCond .le 7, 3) := by decide +kernel
theorem dX4_playGong_46 : decode cX4_playGong 46 = .ok (.iconst 1, 1) := by decide +kernel
theorem dX4_playGong_47 : decode cX4_playGong 47 = .ok (.goto 4, 3) := by decide +kernel
theorem dX4_playGong_50 : decode cX4_playGong 50 = .ok (.iconst 0, 1) := by decide +kernel
theorem dX4_playGong_51 : decode cX4_playGong 51 = .ok (.putfield 33, 3) := by decide +kernel
theorem dX4_playGong_54 : decode cX4_playGong 54 = .ok (.return_, 1) := by decide +kernel
theorem dX4_levelOf_0 : decode cX4_levelOf 0 = .ok (.iload_n 0, 1) := by decide +kernel
theorem dX4_levelOf_1 : decode cX4_levelOf 1 = .ok (.sipush 160, 3) := by decide +kernel
theorem dX4_levelOf_4 : decode cX4_levelOf 4 = .ok (.if_icmp .lt 5, 3) := by decide +kernel
theorem dX4_levelOf_7 : decode cX4_levelOf 7 = .ok (.iconst 3, 1) := by decide +kernel
theorem dX4_levelOf_8 : decode cX4_levelOf 8 = .ok (.ireturn, 1) := by decide +kernel
theorem dX4_levelOf_9 : decode cX4_levelOf 9 = .ok (.iload_n 0, 1) := by decide +kernel
theorem dX4_levelOf_10 : decode cX4_levelOf 10 = .ok (.bipush 80, 2) := by decide +kernel
theorem dX4_levelOf_12 : decode cX4_levelOf 12 = .ok (.if_icmp .lt 5, 3) := by decide +kernel
theorem dX4_levelOf_15 : decode cX4_levelOf 15 = .ok (.iconst 2, 1) := by decide +kernel
theorem dX4_levelOf_16 : decode cX4_levelOf 16 = .ok (.ireturn, 1) := by decide +kernel
theorem dX4_levelOf_17 : decode cX4_levelOf 17 = .ok (.iload_n 0, 1) := by decide +kernel
theorem dX4_levelOf_18 : decode cX4_levelOf 18 = .ok (.bipush 40, 2) := by decide +kernel
theorem dX4_levelOf_20 : decode cX4_levelOf 20 = .ok (.if_icmp .lt 7, 3) := by decide +kernel
theorem dX4_levelOf_23 : decode cX4_levelOf 23 = .ok (.iconst 1, 1) := by decide +kernel
theorem dX4_levelOf_24 : decode cX4_levelOf 24 = .ok (.goto 4, 3) := by decide +kernel
theorem dX4_levelOf_27 : decode cX4_levelOf 27 = .ok (.iconst 0, 1) := by decide +kernel
theorem dX4_levelOf_28 : decode cX4_levelOf 28 = .ok (.ireturn, 1) := by decide +kernel
theorem dX4_strokesOf_0 : decode cX4_strokesOf 0 = .ok (.iload_n 1, 1) := by decide +kernel
theorem dX4_strokesOf_1 : decode cX4_strokesOf 1 = .ok (.ifCond .lt 21, 3) := by decide +kernel
theorem dX4_strokesOf_4 : decode cX4_strokesOf 4 = .ok (.iload_n 1, 1) := by decide +kernel
theorem dX4_strokesOf_5 : decode cX4_strokesOf 5 = .ok (.aload_n 0, 1) := by decide +kernel
theorem dX4_strokesOf_6 : decode cX4_strokesOf 6 = .ok (.getfield 44, 3) := by decide +kernel
theorem dX4_strokesOf_9 : decode cX4_strokesOf 9 = .ok (.arraylength, 1) := by decide +kernel
theorem dX4_strokesOf_10 : decode cX4_strokesOf 10 = .ok (.if_icmp .ge 12, 3) := by decide +kernel
theorem dX4_strokesOf_13 : decode cX4_strokesOf 13 = .ok (.aload_n 0, 1) := by decide +kernel
theorem dX4_strokesOf_14 : decode cX4_strokesOf 14 = .ok (.getfield 44, 3) := by decide +kernel
theorem dX4_strokesOf_17 : decode cX4_strokesOf 17 = .ok (.iload_n 1, 1) := by decide +kernel
theorem dX4_strokesOf_18 : decode cX4_strokesOf 18 = .ok (.laload, 1) := by decide +kernel
theorem dX4_strokesOf_19 : decode cX4_strokesOf 19 = .ok (.goto 4, 3) := by decide +kernel
theorem dX4_strokesOf_22 : decode cX4_strokesOf 22 = .ok (.lconst 0, 1) := by decide +kernel
theorem dX4_strokesOf_23 : decode cX4_strokesOf 23 = .ok (.lreturn, 1) := by decide +kernel
theorem dJ6_bitCount_0f7a4_0 : decode cJ6_bitCount_0f7a4 0 = .ok (.iload_n 0, 1) := by decide +kernel
theorem dJ6_bitCount_0f7a4_1 : decode cJ6_bitCount_0f7a4 1 = .ok (.iload_n 0, 1) := by decide +kernel
theorem dJ6_bitCount_0f7a4_2 : decode cJ6_bitCount_0f7a4 2 = .ok (.iconst 1, 1) := by decide +kernel
theorem dJ6_bitCount_0f7a4_3 : decode cJ6_bitCount_0f7a4 3 = .ok (.iushr, 1) := by decide +kernel
theorem dJ6_bitCount_0f7a4_4 : decode cJ6_bitCount_0f7a4 4 = .ok (.ldc_w 265, 3) := by decide +kernel
theorem dJ6_bitCount_0f7a4_7 : decode cJ6_bitCount_0f7a4 7 = .ok (.iand, 1) := by decide +kernel
theorem dJ6_bitCount_0f7a4_8 : decode cJ6_bitCount_0f7a4 8 = .ok (.isub, 1) := by decide +kernel
theorem dJ6_bitCount_0f7a4_9 : decode cJ6_bitCount_0f7a4 9 = .ok (.istore_n 0, 1) := by decide +kernel
theorem dJ6_bitCount_0f7a4_10 : decode cJ6_bitCount_0f7a4 10 = .ok (.iload_n 0, 1) := by decide +kernel
theorem dJ6_bitCount_0f7a4_11 : decode cJ6_bitCount_0f7a4 11 = .ok (.ldc_w 266, 3) := by decide +kernel
theorem dJ6_bitCount_0f7a4_14 : decode cJ6_bitCount_0f7a4 14 = .ok (.iand, 1) := by decide +kernel
theorem dJ6_bitCount_0f7a4_15 : decode cJ6_bitCount_0f7a4 15 = .ok (.iload_n 0, 1) := by decide +kernel
theorem dJ6_bitCount_0f7a4_16 : decode cJ6_bitCount_0f7a4 16 = .ok (.iconst 2, 1) := by decide +kernel
theorem dJ6_bitCount_0f7a4_17 : decode cJ6_bitCount_0f7a4 17 = .ok (.iushr, 1) := by decide +kernel
theorem dJ6_bitCount_0f7a4_18 : decode cJ6_bitCount_0f7a4 18 = .ok (.ldc_w 266, 3) := by decide +kernel
theorem dJ6_bitCount_0f7a4_21 : decode cJ6_bitCount_0f7a4 21 = .ok (.iand, 1) := by decide +kernel
theorem dJ6_bitCount_0f7a4_22 : decode cJ6_bitCount_0f7a4 22 = .ok (.iadd, 1) := by decide +kernel
theorem dJ6_bitCount_0f7a4_23 : decode cJ6_bitCount_0f7a4 23 = .ok (.istore_n 0, 1) := by decide +kernel
theorem dJ6_bitCount_0f7a4_24 : decode cJ6_bitCount_0f7a4 24 = .ok (.iload_n 0, 1) := by decide +kernel
theorem dJ6_bitCount_0f7a4_25 : decode cJ6_bitCount_0f7a4 25 = .ok (.iload_n 0, 1) := by decide +kernel
theorem dJ6_bitCount_0f7a4_26 : decode cJ6_bitCount_0f7a4 26 = .ok (.iconst 4, 1) := by decide +kernel
theorem dJ6_bitCount_0f7a4_27 : decode cJ6_bitCount_0f7a4 27 = .ok (.iushr, 1) := by decide +kernel
theorem dJ6_bitCount_0f7a4_28 : decode cJ6_bitCount_0f7a4 28 = .ok (.iadd, 1) := by decide +kernel
theorem dJ6_bitCount_0f7a4_29 : decode cJ6_bitCount_0f7a4 29 = .ok (.ldc_w 267, 3) := by decide +kernel
theorem dJ6_bitCount_0f7a4_32 : decode cJ6_bitCount_0f7a4 32 = .ok (.iand, 1) := by decide +kernel
theorem dJ6_bitCount_0f7a4_33 : decode cJ6_bitCount_0f7a4 33 = .ok (.istore_n 0, 1) := by decide +kernel
theorem dJ6_bitCount_0f7a4_34 : decode cJ6_bitCount_0f7a4 34 = .ok (.iload_n 0, 1) := by decide +kernel
theorem dJ6_bitCount_0f7a4_35 : decode cJ6_bitCount_0f7a4 35 = .ok (.iload_n 0, 1) := by decide +kernel
theorem dJ6_bitCount_0f7a4_36 : decode cJ6_bitCount_0f7a4 36 = .ok (.bipush 8, 2) := by decide +kernel
theorem dJ6_bitCount_0f7a4_38 : decode cJ6_bitCount_0f7a4 38 = .ok (.iushr, 1) := by decide +kernel
theorem dJ6_bitCount_0f7a4_39 : decode cJ6_bitCount_0f7a4 39 = .ok (.iadd, 1) := by decide +kernel
theorem dJ6_bitCount_0f7a4_40 : decode cJ6_bitCount_0f7a4 40 = .ok (.istore_n 0, 1) := by decide +kernel
theorem dJ6_bitCount_0f7a4_41 : decode cJ6_bitCount_0f7a4 41 = .ok (.iload_n 0, 1) := by decide +kernel
theorem dJ6_bitCount_0f7a4_42 : decode cJ6_bitCount_0f7a4 42 = .ok (.iload_n 0, 1) := by decide +kernel
theorem dJ6_bitCount_0f7a4_43 : decode cJ6_bitCount_0f7a4 43 = .ok (.bipush 16, 2) := by decide +kernel
theorem dJ6_bitCount_0f7a4_45 : decode cJ6_bitCount_0f7a4 45 = .ok (.iushr, 1) := by decide +kernel
theorem dJ6_bitCount_0f7a4_46 : decode cJ6_bitCount_0f7a4 46 = .ok (.iadd, 1) := by decide +kernel
theorem dJ6_bitCount_0f7a4_47 : decode cJ6_bitCount_0f7a4 47 = .ok (.istore_n 0, 1) := by decide +kernel
theorem dJ6_bitCount_0f7a4_48 : decode cJ6_bitCount_0f7a4 48 = .ok (.iload_n 0, 1) := by decide +kernel
theorem dJ6_bitCount_0f7a4_49 : decode cJ6_bitCount_0f7a4 49 = .ok (.bipush 63, 2) := by decide +kernel
theorem dJ6_bitCount_0f7a4_51 : decode cJ6_bitCount_0f7a4 51 = .ok (.iand, 1) := by decide +kernel
theorem dJ6_bitCount_0f7a4_52 : decode cJ6_bitCount_0f7a4 52 = .ok (.ireturn, 1) := by decide +kernel
theorem dJ9_abs_0f7a4_0 : decode cJ9_abs_0f7a4 0 = .ok (.iload_n 0, 1) := by decide +kernel
theorem dJ9_abs_0f7a4_1 : decode cJ9_abs_0f7a4 1 = .ok (.ifCond .ge 8, 3) := by decide +kernel
theorem dJ9_abs_0f7a4_4 : decode cJ9_abs_0f7a4 4 = .ok (.iload_n 0, 1) := by decide +kernel
theorem dJ9_abs_0f7a4_5 : decode cJ9_abs_0f7a4 5 = .ok (.ineg, 1) := by decide +kernel
theorem dJ9_abs_0f7a4_6 : decode cJ9_abs_0f7a4 6 = .ok (.goto 4, 3) := by decide +kernel
theorem dJ9_abs_0f7a4_9 : decode cJ9_abs_0f7a4 9 = .ok (.iload_n 0, 1) := by decide +kernel
theorem dJ9_abs_0f7a4_10 : decode cJ9_abs_0f7a4 10 = .ok (.ireturn, 1) := by decide +kernel
theorem dJ9_max_7cf53_0 : decode cJ9_max_7cf53 0 = .ok (.iload_n 0, 1) := by decide +kernel
theorem dJ9_max_7cf53_1 : decode cJ9_max_7cf53 1 = .ok (.iload_n 1, 1) := by decide +kernel
theorem dJ9_max_7cf53_2 : decode cJ9_max_7cf53 2 = .ok (.if_icmp .lt 7, 3) := by decide +kernel
theorem dJ9_max_7cf53_5 : decode cJ9_max_7cf53 5 = .ok (.iload_n 0, 1) := by decide +kernel
theorem dJ9_max_7cf53_6 : decode cJ9_max_7cf53 6 = .ok (.goto 4, 3) := by decide +kernel
theorem dJ9_max_7cf53_9 : decode cJ9_max_7cf53 9 = .ok (.iload_n 1, 1) := by decide +kernel
theorem dJ9_max_7cf53_10 : decode cJ9_max_7cf53 10 = .ok (.ireturn, 1) := by decide +kernel
theorem dJ9_max_f86c9_0 : decode cJ9_max_f86c9 0 = .ok (.lload_n 0, 1) := by decide +kernel
theorem dJ9_max_f86c9_1 : decode cJ9_max_f86c9 1 = .ok (.lload_n 2, 1) := by decide +kernel
theorem dJ9_max_f86c9_2 : decode cJ9_max_f86c9 2 = .ok (.lcmp, 1) := by decide +kernel
theorem dJ9_max_f86c9_3 : decode cJ9_max_f86c9 3 = .ok (.ifCond .lt 7, 3) := by decide +kernel
theorem dJ9_max_f86c9_6 : decode cJ9_max_f86c9 6 = .ok (.lload_n 0, 1) := by decide +kernel
theorem dJ9_max_f86c9_7 : decode cJ9_max_f86c9 7 = .ok (.goto 4, 3) := by decide +kernel
theorem dJ9_max_f86c9_10 : decode cJ9_max_f86c9 10 = .ok (.lload_n 2, 1) := by decide +kernel
theorem dJ9_max_f86c9_11 : decode cJ9_max_f86c9 11 = .ok (.lreturn, 1) := by decide +kernel
theorem dJ9_min_7cf53_0 : decode cJ9_min_7cf53 0 = .ok (.iload_n 0, 1) := by decide +kernel
theorem dJ9_min_7cf53_1 : decode cJ9_min_7cf53 1 = .ok (.iload_n 1, 1) := by decide +kernel
theorem dJ9_min_7cf53_2 : decode cJ9_min_7cf53 2 = .ok (.if_icmp .gt 7, 3) := by decide +kernel
theorem dJ9_min_7cf53_5 : decode cJ9_min_7cf53 5 = .ok (.iload_n 0, 1) := by decide +kernel
theorem dJ9_min_7cf53_6 : decode cJ9_min_7cf53 6 = .ok (.goto 4, 3) := by decide +kernel
theorem dJ9_min_7cf53_9 : decode cJ9_min_7cf53 9 = .ok (.iload_n 1, 1) := by decide +kernel
theorem dJ9_min_7cf53_10 : decode cJ9_min_7cf53 10 = .ok (.ireturn, 1) := by decide +kernel
theorem dJ9_min_f86c9_0 : decode cJ9_min_f86c9 0 = .ok (.lload_n 0, 1) := by decide +kernel
theorem dJ9_min_f86c9_1 : decode cJ9_min_f86c9 1 = .ok (.lload_n 2, 1) := by decide +kernel
theorem dJ9_min_f86c9_2 : decode cJ9_min_f86c9 2 = .ok (.lcmp, 1) := by decide +kernel
theorem dJ9_min_f86c9_3 : decode cJ9_min_f86c9 3 = .ok (.ifCond .gt 7, 3) := by decide +kernel
theorem dJ9_min_f86c9_6 : decode cJ9_min_f86c9 6 = .ok (.lload_n 0, 1) := by decide +kernel
theorem dJ9_min_f86c9_7 : decode cJ9_min_f86c9 7 = .ok (.goto 4, 3) := by decide +kernel
theorem dJ9_min_f86c9_10 : decode cJ9_min_f86c9 10 = .ok (.lload_n 2, 1) := by decide +kernel
theorem dJ9_min_f86c9_11 : decode cJ9_min_f86c9 11 = .ok (.lreturn, 1) := by decide +kernel
end
section
theorem dX5_init_0 : decode cX5_init 0 = .ok (.aload_n 0, 1) := by decide +kernel
theorem dX5_init_1 : decode cX5_init 1 = .ok (.invokespecial 3, 3) := by decide +kernel
theorem dX5_init_4 : decode cX5_init 4 = .ok (.aload_n 0, 1) := by decide +kernel
theorem dX5_init_5 : decode cX5_init 5 = .ok (.iconst 4, 1) := by decide +kernel
theorem dX5_init_6 : decode cX5_init 6 = .ok (.newarray .int, 2) := by decide +kernel
theorem dX5_init_8 : decode cX5_init 8 = .ok (.putfield 9, 3) := by decide +kernel
theorem dX5_init_11 : decode cX5_init 11 = .ok (.aload_n 0, 1) := by decide +kernel
theorem dX5_init_12 : decode cX5_init 12 = .ok (.iconst 0, 1) := by decide +kernel
theorem dX5_init_13 : decode cX5_init 13 = .ok (.putfield 13, 3) := by decide +kernel
theorem dX5_init_16 : decode cX5_init 16 = .ok (.aload_n 0, 1) := by decide +kernel
theorem dX5_init_17 : decode cX5_init 17 = .ok (.bipush 6, 2) := by decide +kernel
theorem dX5_init_19 : decode cX5_init 19 = .ok (.anewarray 17, 3) := by decide +kernel
theorem dX5_init_22 : decode cX5_init 22 = .ok (.putfield 19, 3) := by decide +kernel
theorem dX5_init_25 : decode cX5_init 25 = .ok (.aload_n 0, 1) := by decide +kernel
theorem dX5_init_26 : decode cX5_init 26 = .ok (.iconst 0, 1) := by decide +kernel
theorem dX5_init_27 : decode cX5_init 27 = .ok (.putfield 23, 3) := by decide +kernel
theorem dX5_init_30 : decode cX5_init 30 = .ok (.aload_n 0, 1) := by decide +kernel
theorem dX5_init_31 : decode cX5_init 31 = .ok (.new 26, 3) := by decide +kernel
theorem dX5_init_34 : decode cX5_init 34 = .ok (.dup, 1) := by decide +kernel
theorem dX5_init_35 : decode cX5_init 35 = .ok (.invokespecial 28, 3) := by decide +kernel
theorem dX5_init_38 : decode cX5_init 38 = .ok (.putfield 29, 3) := by decide +kernel
theorem dX5_init_41 : decode cX5_init 41 = .ok (.aload_n 0, 1) := by decide +kernel
theorem dX5_init_42 : decode cX5_init 42 = .ok (.iconst 0, 1) := by decide +kernel
theorem dX5_init_43 : decode cX5_init 43 = .ok (.putfield 33, 3) := by decide +kernel
theorem dX5_init_46 : decode cX5_init 46 = .ok (.aload_n 0, 1) := by decide +kernel
theorem dX5_init_47 : decode cX5_init 47 = .ok (.iconst 0, 1) := by decide +kernel
theorem dX5_init_48 : decode cX5_init 48 = .ok (.putfield 36, 3) := by decide +kernel
theorem dX5_init_51 : decode cX5_init 51 = .ok (.aload_n 0, 1) := by decide +kernel
theorem dX5_init_52 : decode cX5_init 52 = .ok (.iconst 4, 1) := by decide +kernel
theorem dX5_init_53 : decode cX5_init 53 = .ok (.anewarray 39, 3) := by decide +kernel
theorem dX5_init_56 : decode cX5_init 56 = .ok (.putfield 41, 3) := by decide +kernel
theorem dX5_init_59 : decode cX5_init 59 = .ok (.aload_n 0, 1) := by decide +kernel
theorem dX5_init_60 : decode cX5_init 60 = .ok (.iconst 0, 1) := by decide +kernel
theorem dX5_init_61 : decode cX5_init 61 = .ok (.putfield 45, 3) := by decide +kernel
theorem dX5_init_64 : decode cX5_init 64 = .ok (.aload_n 0, 1) := by decide +kernel
theorem dX5_init_65 : decode cX5_init 65 = .ok (.bipush 8, 2) := by decide +kernel
theorem dX5_init_67 : decode cX5_init 67 = .ok (.anewarray 48, 3) := by decide +kernel
theorem dX5_init_70 : decode cX5_init 70 = .ok (.putfield 50, 3) := by decide +kernel
theorem dX5_init_73 : decode cX5_init 73 = .ok (.aload_n 0, 1) := by decide +kernel
theorem dX5_init_74 : decode cX5_init 74 = .ok (.iconst 0, 1) := by decide +kernel
theorem dX5_init_75 : decode cX5_init 75 = .ok (.putfield 54, 3) := by decide +kernel
theorem dX5_init_78 : decode cX5_init 78 = .ok (.iconst 0, 1) := by decide +kernel
theorem dX5_init_79 : decode cX5_init 79 = .ok (.istore_n 1, 1) := by decide +kernel
theorem dX5_init_80 : decode cX5_init 80 = .ok (.iload_n 1, 1) := by decide +kernel
theorem dX5_init_81 : decode cX5_init 81 = .ok (.aload_n 0, 1) := by decide +kernel
theorem dX5_init_82 : decode cX5_init 82 = .ok (.getfield 41, 3) := by decide +kernel
theorem dX5_init_85 : decode cX5_init 85 = .ok (.arraylength, 1) := by decide +kernel
theorem dX5_init_86 : decode cX5_init 86 = .ok (.if_icmp .ge 22, 3) := by decide +kernel
theorem dX5_init_89 : decode cX5_init 89 = .ok (.aload_n 0, 1) := by decide +kernel
theorem dX5_init_90 : decode cX5_init 90 = .ok (.getfield 41, 3) := by decide +kernel
theorem dX5_init_93 : decode cX5_init 93 = .ok (.iload_n 1, 1) := by decide +kernel
theorem dX5_init_94 : decode cX5_init 94 = .ok (.new 39, 3) := by decide +kernel
theorem dX5_init_97 : decode cX5_init 97 = .ok (.dup, 1) := by decide +kernel
theorem dX5_init_98 : decode cX5_init 98 = .ok (.invokespecial 57, 3) := by decide +kernel
theorem dX5_init_101 : decode cX5_init 101 = .ok (.aastore, 1) := by decide +kernel
theorem dX5_init_102 : decode cX5_init 102 = .ok (.iinc 1 1, 3) := by decide +kernel
theorem dX5_init_105 : decode cX5_init 105 = .ok (.goto (-25), 3) := by decide +kernel
theorem dX5_init_108 : decode cX5_init 108 = .ok (.return_, 1) := by decide +kernel
theorem dX5_form_0 : decode cX5_form 0 = .ok (.iload_n 1, 1) := by decide +kernel
theorem dX5_form_1 : decode cX5_form 1 = .ok (.iconst 4, 1) := by decide +kernel
theorem dX5_form_2 : decode cX5_form 2 = .ok (.if_icmp .lt 15, 3) := by decide +kernel
theorem dX5_form_5 : decode cX5_form 5 = .ok (.iload_n 1, 1) := by decide +kernel
theorem dX5_form_6 : decode cX5_form 6 = .ok (.bipush 64, 2) := by decide +kernel
theorem dX5_form_8 : decode cX5_form 8 = .ok (.if_icmp .gt 9, 3) := by decide +kernel
theorem dX5_form_11 : decode cX5_form 11 = .ok (.iload_n 1, 1) := by decide +kernel
theorem dX5_form_12 : decode cX5_form 12 = .ok (.iconst 4, 1) := by decide +kernel
theorem dX5_form_13 : decode cX5_form 13 = .ok (.irem, 1) := by decide +kernel
theorem dX5_form_14 : decode cX5_form 14 = .ok (.ifCond .eq 13, 3) := by decide +kernel
theorem dX5_form_17 : decode cX5_form 17 = .ok (.new 58, 3) := by decide +kernel
theorem dX5_form_20 : decode cX5_form 20 = .ok (.dup, 1) := by decide +kernel
theorem dX5_form_21 : decode cX5_form 21 = .ok (.ldc 60, 2) := by decide +kernel
theorem dX5_form_23 : decode cX5_form 23 = .ok (.invokespecial 62, 3) := by decide +kernel
theorem dX5_form_26 : decode cX5_form 26 = .ok (.athrow, 1) := by decide +kernel
theorem dX5_form_27 : decode cX5_form 27 = .ok (.aload_n 0, 1) := by decide +kernel
theorem dX5_form_28 : decode cX5_form 28 = .ok (.getfield 13, 3) := by decide +kernel
theorem dX5_form_31 : decode cX5_form 31 = .ok (.aload_n 0, 1) := by decide +kernel
theorem dX5_form_32 : decode cX5_form 32 = .ok (.getfield 9, 3) := by decide +kernel
theorem dX5_form_35 : decode cX5_form 35 = .ok (.arraylength, 1) := by decide +kernel
theorem dX5_form_36 : decode cX5_form 36 = .ok (.if_icmp .lt 13, 3) := by decide +kernel
theorem dX5_form_39 : decode cX5_form 39 = .ok (.new 65, 3) := by decide +kernel
theorem dX5_form_42 : decode cX5_form 42 = .ok (.dup, 1) := by decide +kernel
theorem dX5_form_43 : decode cX5_form 43 = .ok (.ldc 67, 2) := by decide +kernel
theorem dX5_form_45 : decode cX5_form 45 = .ok (.invokespecial 69, 3) := by decide +kernel
theorem dX5_form_48 : decode cX5_form 48 = .ok (.athrow, 1) := by decide +kernel
theorem dX5_form_49 : decode cX5_form 49 = .ok (.aload_n 0, 1) := by decide +kernel
theorem dX5_form_50 : decode cX5_form 50 = .ok (.getfield 9, 3) := by decide +kernel
theorem dX5_form_53 : decode cX5_form 53 = .ok (.aload_n 0, 1) := by decide +kernel
theorem dX5_form_54 : decode cX5_form 54 = .ok (.getfield 13, 3) := by decide +kernel
theorem dX5_form_57 : decode cX5_form 57 = .ok (.iload_n 1, 1) := by decide +kernel
theorem dX5_form_58 : decode cX5_form 58 = .ok (.iastore, 1) := by decide +kernel
theorem dX5_form_59 : decode cX5_form 59 = .ok (.aload_n 0, 1) := by decide +kernel
theorem dX5_form_60 : decode cX5_form 60 = .ok (.dup, 1) := by decide +kernel
theorem dX5_form_61 : decode cX5_form 61 = .ok (.getfield 13, 3) := by decide +kernel
theorem dX5_form_64 : decode cX5_form 64 = .ok (.iconst 1, 1) := by decide +kernel
theorem dX5_form_65 : decode cX5_form 65 = .ok (.iadd, 1) := by decide +kernel
theorem dX5_form_66 : decode cX5_form 66 = .ok (.putfield 13, 3) := by decide +kernel
theorem dX5_form_69 : decode cX5_form 69 = .ok (.aload_n 0, 1) := by decide +kernel
theorem dX5_form_70 : decode cX5_form 70 = .ok (.getfield 13, 3) := by decide +kernel
theorem dX5_form_73 : decode cX5_form 73 = .ok (.iconst 1, 1) := by decide +kernel
theorem dX5_form_74 : decode cX5_form 74 = .ok (.isub, 1) := by decide +kernel
theorem dX5_form_75 : decode cX5_form 75 = .ok (.ireturn, 1) := by decide +kernel
theorem dX5_depth_0 : decode cX5_depth 0 = .ok (.aload_n 0, 1) := by decide +kernel
theorem dX5_depth_1 : decode cX5_depth 1 = .ok (.iload_n 1, 1) := by decide +kernel
theorem dX5_depth_2 : decode cX5_depth 2 = .ok (.invokevirtual 70, 3) := by decide +kernel
theorem dX5_depth_5 : decode cX5_depth 5 = .ok (.istore_n 3, 1) := by decide +kernel
theorem dX5_depth_6 : decode cX5_depth 6 = .ok (.iload_n 2, 1) := by decide +kernel
theorem dX5_depth_7 : decode cX5_depth 7 = .ok (.iconst 1, 1) := by decide +kernel
theorem dX5_depth_8 : decode cX5_depth 8 = .ok (.if_icmp .lt 8, 3) := by decide +kernel
theorem dX5_depth_11 : decode cX5_depth 11 = .ok (.iload_n 2, 1) := by decide +kernel
theorem dX5_depth_12 : decode cX5_depth 12 = .ok (.iload_n 3, 1) := by decide +kernel
theorem dX5_depth_13 : decode cX5_depth 13 = .ok (.if_icmp .le 13, 3) := by decide +kernel
theorem dX5_depth_16 : decode cX5_depth 16 = .ok (.new 74, 3) := by decide +kernel
theorem dX5_depth_19 : decode cX5_depth 19 = .ok (.dup, 1) := by decide +kernel
theorem dX5_depth_20 : decode cX5_depth 20 = .ok (.ldc 76, 2) := by decide +kernel
theorem dX5_depth_22 : decode cX5_depth 22 = .ok (.invokespecial 78, 3) := by decide +kernel
theorem dX5_depth_25 : decode cX5_depth 25 = .ok (.athrow, 1) := by decide +kernel
theorem dX5_depth_26 : decode cX5_depth 26 = .ok (.iconst 0, 1) := by decide +kernel
theorem dX5_depth_27 : decode cX5_depth 27 = .ok (.istore 4, 2) := by decide +kernel
theorem dX5_depth_29 : decode cX5_depth 29 = .ok (.iload_n 3, 1) := by decide +kernel
theorem dX5_depth_30 : decode cX5_depth 30 = .ok (.istore 5, 2) := by decide +kernel
theorem dX5_depth_32 : decode cX5_depth 32 = .ok (.iload 5, 2) := by decide +kernel
theorem dX5_depth_34 : decode cX5_depth 34 = .ok (.ifCond .le 34, 3) := by decide +kernel
theorem dX5_depth_37 : decode cX5_depth 37 = .ok (.iload_n 2, 1) := by decide +kernel
theorem dX5_depth_38 : decode cX5_depth 38 = .ok (.iload 5, 2) := by decide +kernel
theorem dX5_depth_40 : decode cX5_depth 40 = .ok (.irem, 1) := by decide +kernel
theorem dX5_depth_41 : decode cX5_depth 41 = .ok (.ifCond .ne 6, 3) := by decide +kernel
theorem dX5_depth_44 : decode cX5_depth 44 = .ok (.iload 4, 2) := by decide +kernel
theorem dX5_depth_46 : decode cX5_depth 46 = .ok (.ireturn, 1) := by decide +kernel
theorem dX5_depth_47 : decode cX5_depth 47 = .ok (.iload 5, 2) := by decide +kernel
theorem dX5_depth_49 : decode cX5_depth 49 = .ok (.iconst 2, 1) := by decide +kernel
theorem dX5_depth_50 : decode cX5_depth 50 = .ok (.irem, 1) := by decide +kernel
theorem dX5_depth_51 : decode cX5_depth 51 = .ok (.ifCond .eq 5, 3) := by decide +kernel
theorem dX5_depth_54 : decode cX5_depth 54 = .ok (.iconst (-1), 1) := by decide +kernel
theorem dX5_depth_55 : decode cX5_depth 55 = .ok (.ireturn, 1) := by decide +kernel
theorem dX5_depth_56 : decode cX5_depth 56 = .ok (.iinc 4 1, 3) := by decide +kernel
theorem dX5_depth_59 : decode cX5_depth 59 = .ok (.iload 5, 2) := by decide +kernel
theorem dX5_depth_61 : decode cX5_depth 61 = .ok (.iconst 2, 1) := by decide +kernel
theorem dX5_depth_62 : decode cX5_depth 62 = .ok (.idiv, 1) := by decide +kernel
theorem dX5_depth_63 : decode cX5_depth 63 = .ok (.istore 5, 2) := by decide +kernel
theorem dX5_depth_65 : decode cX5_depth 65 = .ok (.goto (-33), 3) := by decide +kernel
theorem dX5_depth_68 : decode cX5_depth 68 = .ok (.iconst (-1), 1) := by decide +kernel
theorem dX5_depth_69 : decode cX5_depth 69 = .ok (.ireturn, 1) := by decide +kernel
theorem dX5_piece_0 : decode cX5_piece 0 = .ok (.aload_n 0, 1) := by decide +kernel
theorem dX5_piece_1 : decode cX5_piece 1 = .ok (.iload_n 1, 1) := by decide +kernel
theorem dX5_piece_2 : decode cX5_piece 2 = .ok (.invokevirtual 70, 3) := by decide +kernel
theorem dX5_piece_5 : decode cX5_piece 5 = .ok (.istore_n 2, 1) := by decide +kernel
theorem dX5_piece_6 : decode cX5_piece 6 = .ok (.aload_n 0, 1) := by decide +kernel
theorem dX5_piece_7 : decode cX5_piece 7 = .ok (.getfield 23, 3) := by decide +kernel
theorem dX5_piece_10 : decode cX5_piece 10 = .ok (.aload_n 0, 1) := by decide +kernel
theorem dX5_piece_11 : decode cX5_piece 11 = .ok (.getfield 19, 3) := by decide +kernel
theorem dX5_piece_14 : decode cX5_piece 14 = .ok (.arraylength, 1) := by decide +kernel
theorem dX5_piece_15 : decode cX5_piece 15 = .ok (.if_icmp .lt 13, 3) := by decide +kernel
theorem dX5_piece_18 : decode cX5_piece 18 = .ok (.new 65, 3) := by decide +kernel
theorem dX5_piece_21 : decode cX5_piece 21 = .ok (.dup, 1) := by decide +kernel
theorem dX5_piece_22 : decode cX5_piece 22 = .ok (.ldc 79, 2) := by decide +kernel
theorem dX5_piece_24 : decode cX5_piece 24 = .ok (.invokespecial 69, 3) := by decide +kernel
theorem dX5_piece_27 : decode cX5_piece 27 = .ok (.athrow, 1) := by decide +kernel
theorem dX5_piece_28 : decode cX5_piece 28 = .ok (.aload_n 0, 1) := by decide +kernel
theorem dX5_piece_29 : decode cX5_piece 29 = .ok (.getfield 19, 3) := by decide +kernel
theorem dX5_piece_32 : decode cX5_piece 32 = .ok (.aload_n 0, 1) := by decide +kernel
theorem dX5_piece_33 : decode cX5_piece 33 = .ok (.getfield 23, 3) := by decide +kernel
theorem dX5_piece_36 : decode cX5_piece 36 = .ok (.new 17, 3) := by decide +kernel
theorem dX5_piece_39 : decode cX5_piece 39 = .ok (.dup, 1) := by decide +kernel
theorem dX5_piece_40 : decode cX5_piece 40 = .ok (.iload_n 2, 1) := by decide +kernel
theorem dX5_piece_41 : decode cX5_piece 41 = .ok (.invokespecial 81, 3) := by decide +kernel
theorem dX5_piece_44 : decode cX5_piece 44 = .ok (.aastore, 1) := by decide +kernel
theorem dX5_piece_45 : decode cX5_piece 45 = .ok (.aload_n 0, 1) := by decide +kernel
theorem dX5_piece_46 : decode cX5_piece 46 = .ok (.dup, 1) := by decide +kernel
theorem dX5_piece_47 : decode cX5_piece 47 = .ok (.getfield 23, 3) := by decide +kernel
theorem dX5_piece_50 : decode cX5_piece 50 = .ok (.iconst 1, 1) := by decide +kernel
theorem dX5_piece_51 : decode cX5_piece 51 = .ok (.iadd, 1) := by decide +kernel
theorem dX5_piece_52 : decode cX5_piece 52 = .ok (.putfield 23, 3) := by decide +kernel
theorem dX5_piece_55 : decode cX5_piece 55 = .ok (.aload_n 0, 1) := by decide +kernel
theorem dX5_piece_56 : decode cX5_piece 56 = .ok (.getfield 23, 3) := by decide +kernel
theorem dX5_piece_59 : decode cX5_piece 59 = .ok (.iconst 1, 1) := by decide +kernel
theorem dX5_piece_60 : decode cX5_piece 60 = .ok (.isub, 1) := by decide +kernel
theorem dX5_piece_61 : decode cX5_piece 61 = .ok (.ireturn, 1) := by decide +kernel
theorem dX5_tone_0 : decode cX5_tone 0 = .ok (.aload_n 0, 1) := by decide +kernel
theorem dX5_tone_1 : decode cX5_tone 1 = .ok (.iload_n 1, 1) := by decide +kernel
theorem dX5_tone_2 : decode cX5_tone 2 = .ok (.invokevirtual 84, 3) := by decide +kernel
theorem dX5_tone_5 : decode cX5_tone 5 = .ok (.getfield 88, 3) := by decide +kernel
theorem dX5_tone_8 : decode cX5_tone 8 = .ok (.astore 4, 2) := by decide +kernel
theorem dX5_tone_10 : decode cX5_tone 10 = .ok (.aload 4, 2) := by decide +kernel
theorem dX5_tone_12 : decode cX5_tone 12 = .ok (.iload_n 2, 1) := by decide +kernel
theorem dX5_tone_13 : decode cX5_tone 13 = .ok (.invokestatic 92, 3) := by decide +kernel
theorem dX5_tone_16 : decode cX5_tone 16 = .ok (.iload_n 3, 1) := by decide +kernel
theorem dX5_tone_17 : decode cX5_tone 17 = .ok (.invokestatic 96, 3) := by decide +kernel
theorem dX5_tone_20 : decode cX5_tone 20 = .ok (.aload 4, 2) := by decide +kernel
theorem dX5_tone_22 : decode cX5_tone 22 = .ok (.iload_n 2, 1) := by decide +kernel
theorem dX5_tone_23 : decode cX5_tone 23 = .ok (.iload_n 3, 1) := by decide +kernel
theorem dX5_tone_24 : decode cX5_tone 24 = .ok (.invokevirtual 99, 3) := by decide +kernel
theorem dX5_tone_27 : decode cX5_tone 27 = .ok (.ireturn, 1) := by decide +kernel
theorem dX5_forbid_0 : decode cX5_forbid 0 = .ok (.aload_n 0, 1) := by decide +kernel
theorem dX5_forbid_1 : decode cX5_forbid 1 = .ok (.iload_n 1, 1) := by decide +kernel
theorem dX5_forbid_2 : decode cX5_forbid 2 = .ok (.invokevirtual 84, 3) := by decide +kernel
theorem dX5_forbid_5 : decode cX5_forbid 5 = .ok (.astore_n 3, 1) := by decide +kernel
theorem dX5_forbid_6 : decode cX5_forbid 6 = .ok (.iload_n 2, 1) := by decide +kernel
theorem dX5_forbid_7 : decode cX5_forbid 7 = .ok (.ifCond .lt 9, 3) := by decide +kernel
theorem dX5_forbid_10 : decode cX5_forbid 10 = .ok (.iload_n 2, 1) := by decide +kernel
theorem dX5_forbid_11 : decode cX5_forbid 11 = .ok (.bipush 31, 2) := by decide +kernel
theorem dX5_forbid_13 : decode cX5_forbid 13 = .ok (.if_icmp .le 13, 3) := by decide +kernel
theorem dX5_forbid_16 : decode cX5_forbid 16 = .ok (.new 58, 3) := by decide +kernel
theorem dX5_forbid_19 : decode cX5_forbid 19 = .ok (.dup, 1) := by decide +kernel
theorem dX5_forbid_20 : decode cX5_forbid 20 = .ok (.ldc 105, 2) := by decide +kernel
theorem dX5_forbid_22 : decode cX5_forbid 22 = .ok (.invokespecial 62, 3) := by decide +kernel
theorem dX5_forbid_25 : decode cX5_forbid 25 = .ok (.athrow, 1) := by decide +kernel
theorem dX5_forbid_26 : decode cX5_forbid 26 = .ok (.aload_n 3, 1) := by decide +kernel
theorem dX5_forbid_27 : decode cX5_forbid 27 = .ok (.getfield 107, 3) := by decide +kernel
theorem dX5_forbid_30 : decode cX5_forbid 30 = .ok (.istore 4, 2) := by decide +kernel
theorem dX5_forbid_32 : decode cX5_forbid 32 = .ok (.aload_n 3, 1) := by decide +kernel
theorem dX5_forbid_33 : decode cX5_forbid 33 = .ok (.iload_n 2, 1) := by decide +kernel
theorem dX5_forbid_34 : decode cX5_forbid 34 = .ok (.putfield 107, 3) := by decide +kernel
theorem dX5_forbid_37 : decode cX5_forbid 37 = .ok (.iload 4, 2) := by decide +kernel
theorem dX5_forbid_39 : decode cX5_forbid 39 = .ok (.ireturn, 1) := by decide +kernel
theorem dX5_sounds_0 : decode cX5_sounds 0 = .ok (.aload_n 0, 1) := by decide +kernel
theorem dX5_sounds_1 : decode cX5_sounds 1 = .ok (.iload_n 1, 1) := by decide +kernel
theorem dX5_sounds_2 : decode cX5_sounds 2 = .ok (.invokevirtual 84, 3) := by decide +kernel
theorem dX5_sounds_5 : decode cX5_sounds 5 = .ok (.getfield 88, 3) := by decide +kernel
theorem dX5_sounds_8 : decode cX5_sounds 8 = .ok (.astore_n 3, 1) := by decide +kernel
theorem dX5_sounds_9 : decode cX5_sounds 9 = .ok (.aload_n 3, 1) := by decide +kernel
theorem dX5_sounds_10 : decode cX5_sounds 10 = .ok (.iload_n 2, 1) := by decide +kernel
theorem dX5_sounds_11 : decode cX5_sounds 11 = .ok (.invokestatic 92, 3) := by decide +kernel
theorem dX5_sounds_14 : decode cX5_sounds 14 = .ok (.aload_n 3, 1) := by decide +kernel
theorem dX5_sounds_15 : decode cX5_sounds 15 = .ok (.iload_n 2, 1) := by decide +kernel
theorem dX5_sounds_16 : decode cX5_sounds 16 = .ok (.invokevirtual 110, 3) := by decide +kernel
theorem dX5_sounds_19 : decode cX5_sounds 19 = .ok (.ireturn, 1) := by decide +kernel
theorem dX5_stroke_0 : decode cX5_stroke 0 = .ok (.aload_n 0, 1) := by decide +kernel
theorem dX5_stroke_1 : decode cX5_stroke 1 = .ok (.iload_n 1, 1) := by decide +kernel
theorem dX5_stroke_2 : decode cX5_stroke 2 = .ok (.iload_n 2, 1) := by decide +kernel
theorem dX5_stroke_3 : decode cX5_stroke 3 = .ok (.iload_n 3, 1) := by decide +kernel
theorem dX5_stroke_4 : decode cX5_stroke 4 = .ok (.iload 4, 2) := by decide +kernel
theorem dX5_stroke_6 : decode cX5_stroke 6 = .ok (.iload 5, 2) := by decide +kernel
theorem dX5_stroke_8 : decode cX5_stroke 8 = .ok (.iconst 0, 1) := by decide +kernel
theorem dX5_stroke_9 : decode cX5_stroke 9 = .ok (.invokevirtual 113, 3) := by decide +kernel
theorem dX5_stroke_12 : decode cX5_stroke 12 = .ok (.ireturn, 1) := by decide +kernel
theorem dX5_strokeAnew_0 : decode cX5_strokeAnew 0 = .ok (.aload_n 0, 1) := by decide +kernel
theorem dX5_strokeAnew_1 : decode cX5_strokeAnew 1 = .ok (.iload_n 1, 1) := by decide +kernel
theorem dX5_strokeAnew_2 : decode cX5_strokeAnew 2 = .ok (.iload_n 2, 1) := by decide +kernel
theorem dX5_strokeAnew_3 : decode cX5_strokeAnew 3 = .ok (.iload_n 3, 1) := by decide +kernel
theorem dX5_strokeAnew_4 : decode cX5_strokeAnew 4 = .ok (.iload 4, 2) := by decide +kernel
theorem dX5_strokeAnew_6 : decode cX5_strokeAnew 6 = .ok (.iload 5, 2) := by decide +kernel
theorem dX5_strokeAnew_8 : decode cX5_strokeAnew 8 = .ok (.iconst 1, 1) := by decide +kernel
theorem dX5_strokeAnew_9 : decode cX5_strokeAnew 9 = .ok (.invokevirtual 113, 3) := by decide +kernel
theorem dX5_strokeAnew_12 : decode cX5_strokeAnew 12 = .ok (.ireturn, 1) := by decide +kernel
theorem dX5_begin_0 : decode cX5_begin 0 = .ok (.aload_n 0, 1) := by decide +kernel
theorem dX5_begin_1 : decode cX5_begin 1 = .ok (.iload_n 1, 1) := by decide +kernel
theorem dX5_begin_2 : decode cX5_begin 2 = .ok (.invokevirtual 84, 3) := by decide +kernel
theorem dX5_begin_5 : decode cX5_begin 5 = .ok (.astore_n 2, 1) := by decide +kernel
theorem dX5_begin_6 : decode cX5_begin 6 = .ok (.aload_n 0, 1) := by decide +kernel
theorem dX5_begin_7 : decode cX5_begin 7 = .ok (.getfield 29, 3) := by decide +kernel
theorem dX5_begin_10 : decode cX5_begin 10 = .ok (.getfield 117, 3) := by decide +kernel
theorem dX5_begin_13 : decode cX5_begin 13 = .ok (.ifCond .eq 13, 3) := by decide +kernel
theorem dX5_begin_16 : decode cX5_begin 16 = .ok (.new 65, 3) := by decide +kernel
theorem dX5_begin_19 : decode cX5_begin 19 = .ok (.dup, 1) := by decide +kernel
theorem dX5_begin_20 : decode cX5_begin 20 = .ok (.ldc 121, 2) := by decide +kernel
theorem dX5_begin_22 : decode cX5_begin 22 = .ok (.invokespecial 69, 3) := by decide +kernel
theorem dX5_begin_25 : decode cX5_begin 25 = .ok (.athrow, 1) := by decide +kernel
theorem dX5_begin_26 : decode cX5_begin 26 = .ok (.aload_n 2, 1) := by decide +kernel
theorem dX5_begin_27 : decode cX5_begin 27 = .ok (.getfield 107, 3) := by decide +kernel
theorem dX5_begin_30 : decode cX5_begin 30 = .ok (.aload_n 0, 1) := by decide +kernel
theorem dX5_begin_31 : decode cX5_begin 31 = .ok (.getfield 36, 3) := by decide +kernel
theorem dX5_begin_34 : decode cX5_begin 34 = .ok (.ishr, 1) := by decide +kernel
theorem dX5_begin_35 : decode cX5_begin 35 = .ok (.iconst 1, 1) := by decide +kernel
theorem dX5_begin_36 : decode cX5_begin 36 = .ok (.iand, 1) := by decide +kernel
theorem dX5_begin_37 : decode cX5_begin 37 = .ok (.ifCond .eq 13, 3) := by decide +kernel
theorem dX5_begin_40 : decode cX5_begin 40 = .ok (.new 65, 3) := by decide +kernel
theorem dX5_begin_43 : decode cX5_begin 43 = .ok (.dup, 1) := by decide +kernel
theorem dX5_begin_44 : decode cX5_begin 44 = .ok (.ldc 123, 2) := by decide +kernel
theorem dX5_begin_46 : decode cX5_begin 46 = .ok (.invokespecial 69, 3) := by decide +kernel
theorem dX5_begin_49 : decode cX5_begin 49 = .ok (.athrow, 1) := by decide +kernel
theorem dX5_begin_50 : decode cX5_begin 50 = .ok (.aload_n 0, 1) := by decide +kernel
theorem dX5_begin_51 : decode cX5_begin 51 = .ok (.getfield 29, 3) := by decide +kernel
theorem dX5_begin_54 : decode cX5_begin 54 = .ok (.iload_n 1, 1) := by decide +kernel
theorem dX5_begin_55 : decode cX5_begin 55 = .ok (.aload_n 2, 1) := by decide +kernel
theorem dX5_begin_56 : decode cX5_begin 56 = .ok (.getfield 88, 3) := by decide +kernel
theorem dX5_begin_59 : decode cX5_begin 59 = .ok (.invokevirtual 125, 3) := by decide +kernel
theorem dX5_begin_62 : decode cX5_begin 62 = .ok (.invokevirtual 129, 3) := by decide +kernel
theorem dX5_begin_65 : decode cX5_begin 65 = .ok (.aload_n 0, 1) := by decide +kernel
theorem dX5_begin_66 : decode cX5_begin 66 = .ok (.dup, 1) := by decide +kernel
theorem dX5_begin_67 : decode cX5_begin 67 = .ok (.getfield 33, 3) := by decide +kernel
theorem dX5_begin_70 : decode cX5_begin 70 = .ok (.iconst 1, 1) := by decide +kernel
theorem dX5_begin_71 : decode cX5_begin 71 = .ok (.iadd, 1) := by decide +kernel
theorem dX5_begin_72 : decode cX5_begin 72 = .ok (.putfield 33, 3) := by decide +kernel
theorem dX5_begin_75 : decode cX5_begin 75 = .ok (.aload_n 0, 1) := by decide +kernel
theorem dX5_begin_76 : decode cX5_begin 76 = .ok (.getfield 33, 3) := by decide +kernel
theorem dX5_begin_79 : decode cX5_begin 79 = .ok (.ireturn, 1) := by decide +kernel
theorem dX5_drum_0 : decode cX5_drum 0 = .ok (.iload_n 1, 1) := by decide +kernel
theorem dX5_drum_1 : decode cX5_drum 1 = .ok (.ifCond .lt 8, 3) := by decide +kernel
theorem dX5_drum_4 : decode cX5_drum 4 = .ok (.iload_n 1, 1) := by decide +kernel
theorem dX5_drum_5 : decode cX5_drum 5 = .ok (.iconst 4, 1) := by decide +kernel
theorem dX5_drum_6 : decode cX5_drum 6 = .ok (.if_icmp .le 13, 3) := by decide +kernel
theorem dX5_drum_9 : decode cX5_drum 9 = .ok (.new 58, 3) := by decide +kernel
theorem dX5_drum_12 : decode cX5_drum 12 = .ok (.dup, 1) := by decide +kernel
theorem dX5_drum_13 : decode cX5_drum 13 = .ok (.ldc 133, 2) := by decide +kernel
theorem dX5_drum_15 : decode cX5_drum 15 = .ok (.invokespecial 62, 3) := by decide +kernel
theorem dX5_drum_18 : decode cX5_drum 18 = .ok (.athrow, 1) := by decide +kernel
theorem dX5_drum_19 : decode cX5_drum 19 = .ok (.aload_n 0, 1) := by decide +kernel
theorem dX5_drum_20 : decode cX5_drum 20 = .ok (.invokevirtual 135, 3) := by decide +kernel
theorem dX5_drum_23 : decode cX5_drum 23 = .ok (.aload_n 0, 1) := by decide +kernel
theorem dX5_drum_24 : decode cX5_drum 24 = .ok (.getfield 29, 3) := by decide +kernel
theorem dX5_drum_27 : decode cX5_drum 27 = .ok (.iload_n 1, 1) := by decide +kernel
theorem dX5_drum_28 : decode cX5_drum 28 = .ok (.invokevirtual 138, 3) := by decide +kernel
theorem dX5_drum_31 : decode cX5_drum 31 = .ok (.aload_n 0, 1) := by decide +kernel
theorem dX5_drum_32 : decode cX5_drum 32 = .ok (.getfield 29, 3) := by decide +kernel
theorem dX5_drum_35 : decode cX5_drum 35 = .ok (.getfield 141, 3) := by decide +kernel
theorem dX5_drum_38 : decode cX5_drum 38 = .ok (.ireturn, 1) := by decide +kernel
theorem dX5_beats_0 : decode cX5_beats 0 = .ok (.iload_n 1, 1) := by decide +kernel
theorem dX5_beats_1 : decode cX5_beats 1 = .ok (.iconst 1, 1) := by decide +kernel
theorem dX5_beats_2 : decode cX5_beats 2 = .ok (.if_icmp .lt 9, 3) := by decide +kernel
theorem dX5_beats_5 : decode cX5_beats 5 = .ok (.iload_n 1, 1) := by decide +kernel
theorem dX5_beats_6 : decode cX5_beats 6 = .ok (.bipush 100, 2) := by decide +kernel
theorem dX5_beats_8 : decode cX5_beats 8 = .ok (.if_icmp .le 13, 3) := by decide +kernel
theorem dX5_beats_11 : decode cX5_beats 11 = .ok (.new 58, 3) := by decide +kernel
theorem dX5_beats_14 : decode cX5_beats 14 = .ok (.dup, 1) := by decide +kernel
theorem dX5_beats_15 : decode cX5_beats 15 = .ok (.ldc 144, 2) := by decide +kernel
theorem dX5_beats_17 : decode cX5_beats 17 = .ok (.invokespecial 62, 3) := by decide +kernel
theorem dX5_beats_20 : decode cX5_beats 20 = .ok (.athrow, 1) := by decide +kernel
theorem dX5_beats_21 : decode cX5_beats 21 = .ok (.aload_n 0, 1) := by decide +kernel
theorem dX5_beats_22 : decode cX5_beats 22 = .ok (.invokevirtual 135, 3) := by decide +kernel
theorem dX5_beats_25 : decode cX5_beats 25 = .ok (.iconst 0, 1) := by decide +kernel
theorem dX5_beats_26 : decode cX5_beats 26 = .ok (.istore_n 2, 1) := by decide +kernel
theorem dX5_beats_27 : decode cX5_beats 27 = .ok (.iload_n 2, 1) := by decide +kernel
theorem dX5_beats_28 : decode cX5_beats 28 = .ok (.iload_n 1, 1) := by decide +kernel
theorem dX5_beats_29 : decode cX5_beats 29 = .ok (.if_icmp .ge 26, 3) := by decide +kernel
theorem dX5_beats_32 : decode cX5_beats 32 = .ok (.aload_n 0, 1) := by decide +kernel
theorem dX5_beats_33 : decode cX5_beats 33 = .ok (.getfield 29, 3) := by decide +kernel
theorem dX5_beats_36 : decode cX5_beats 36 = .ok (.getfield 117, 3) := by decide +kernel
theorem dX5_beats_39 : decode cX5_beats 39 = .ok (.ifCond .eq 16, 3) := by decide +kernel
theorem dX5_beats_42 : decode cX5_beats 42 = .ok (.aload_n 0, 1) := by decide +kernel
theorem dX5_beats_43 : decode cX5_beats 43 = .ok (.getfield 29, 3) := by decide +kernel
theorem dX5_beats_46 : decode cX5_beats 46 = .ok (.invokevirtual 146, 3) := by decide +kernel
theorem dX5_beats_49 : decode cX5_beats 49 = .ok (.iinc 2 1, 3) := by decide +kernel
theorem dX5_beats_52 : decode cX5_beats 52 = .ok (.goto (-25), 3) := by decide +kernel
theorem dX5_beats_55 : decode cX5_beats 55 = .ok (.iload_n 2, 1) := by decide +kernel
theorem dX5_beats_56 : decode cX5_beats 56 = .ok (.ireturn, 1) := by decide +kernel
theorem dX5_now_0 : decode cX5_now 0 = .ok (.iload_n 1, 1) := by decide +kernel
theorem dX5_now_1 : decode cX5_now 1 = .ok (.tableswitch 95 0 5 #[39, 47, 55, 63, 71, 87], 39) := by decide +kernel
theorem dX5_now_40 : decode cX5_now 40 = .ok (.aload_n 0, 1) := by decide +kernel
theorem dX5_now_41 : decode cX5_now 41 = .ok (.getfield 29, 3) := by decide +kernel
theorem dX5_now_44 : decode cX5_now 44 = .ok (.getfield 141, 3) := by decide +kernel
theorem dX5_now_47 : decode cX5_now 47 = .ok (.ireturn, 1) := by decide +kernel
theorem dX5_now_48 : decode cX5_now 48 = .ok (.aload_n 0, 1) := by decide +kernel
theorem dX5_now_49 : decode cX5_now 49 = .ok (.getfield 29, 3) := by decide +kernel
theorem dX5_now_52 : decode cX5_now 52 = .ok (.getfield 149, 3) := by decide +kernel
theorem dX5_now_55 : decode cX5_now 55 = .ok (.ireturn, 1) := by decide +kernel
theorem dX5_now_56 : decode cX5_now 56 = .ok (.aload_n 0, 1) := by decide +kernel
theorem dX5_now_57 : decode cX5_now 57 = .ok (.getfield 29, 3) := by decide +kernel
theorem dX5_now_60 : decode cX5_now 60 = .ok (.getfield 152, 3) := by decide +kernel
theorem dX5_now_63 : decode cX5_now 63 = .ok (.ireturn, 1) := by decide +kernel
theorem dX5_now_64 : decode cX5_now 64 = .ok (.aload_n 0, 1) := by decide +kernel
theorem dX5_now_65 : decode cX5_now 65 = .ok (.getfield 29, 3) := by decide +kernel
theorem dX5_now_68 : decode cX5_now 68 = .ok (.getfield 155, 3) := by decide +kernel
theorem dX5_now_71 : decode cX5_now 71 = .ok (.ireturn, 1) := by decide +kernel
theorem dX5_now_72 : decode cX5_now 72 = .ok (.aload_n 0, 1) := by decide +kernel
theorem dX5_now_73 : decode cX5_now 73 = .ok (.getfield 29, 3) := by decide +kernel
theorem dX5_now_76 : decode cX5_now 76 = .ok (.getfield 117, 3) := by decide +kernel
theorem dX5_now_79 : decode cX5_now 79 = .ok (.ifCond .eq 7, 3) := by decide +kernel
theorem dX5_now_82 : decode cX5_now 82 = .ok (.iconst 1, 1) := by decide +kernel
theorem dX5_now_83 : decode cX5_now 83 = .ok (.goto 4, 3) := by decide +kernel
theorem dX5_now_86 : decode cX5_now 86 = .ok (.iconst 0, 1) := by decide +kernel
theorem dX5_now_87 : decode cX5_now 87 = .ok (.ireturn, 1) := by decide +kernel
theorem dX5_now_88 : decode cX5_now 88 = .ok (.aload_n 0, 1) := by decide +kernel
theorem dX5_now_89 : decode cX5_now 89 = .ok (.getfield 29, 3) := by decide +kernel
theorem dX5_now_92 : decode cX5_now 92 = .ok (.getfield 158, 3) := by decide +kernel
theorem dX5_now_95 : decode cX5_now 95 = .ok (.ireturn, 1) := by decide +kernel
theorem dX5_now_96 : decode cX5_now 96 = .ok (.new 58, 3) := by decide +kernel
theorem dX5_now_99 : decode cX5_now 99 = .ok (.dup, 1) := by decide +kernel
theorem dX5_now_100 : decode cX5_now 100 = .ok (.ldc 161, 2) := by decide +kernel
theorem dX5_now_102 : decode cX5_now 102 = .ok (.invokespecial 62, 3) := by decide +kernel
theorem dX5_now_105 : decode cX5_now 105 = .ok (.athrow, 1) := by decide +kernel
theorem dX5_ticks_0 : decode cX5_ticks 0 = .ok (.aload_n 0, 1) := by decide +kernel
theorem dX5_ticks_1 : decode cX5_ticks 1 = .ok (.getfield 29, 3) := by decide +kernel
theorem dX5_ticks_4 : decode cX5_ticks 4 = .ok (.getfield 163, 3) := by decide +kernel
theorem dX5_ticks_7 : decode cX5_ticks 7 = .ok (.lreturn, 1) := by decide +kernel
theorem dX5_strokes_0 : decode cX5_strokes 0 = .ok (.iload_n 1, 1) := by decide +kernel
theorem dX5_strokes_1 : decode cX5_strokes 1 = .ok (.invokestatic 167, 3) := by decide +kernel
theorem dX5_strokes_4 : decode cX5_strokes 4 = .ok (.aload_n 0, 1) := by decide +kernel
theorem dX5_strokes_5 : decode cX5_strokes 5 = .ok (.getfield 29, 3) := by decide +kernel
theorem dX5_strokes_8 : decode cX5_strokes 8 = .ok (.iload_n 1, 1) := by decide +kernel
theorem dX5_strokes_9 : decode cX5_strokes 9 = .ok (.invokevirtual 170, 3) := by decide +kernel
theorem dX5_strokes_12 : decode cX5_strokes 12 = .ok (.lreturn, 1) := by decide +kernel
theorem dX5_days_0 : decode cX5_days 0 = .ok (.iload_n 1, 1) := by decide +kernel
theorem dX5_days_1 : decode cX5_days 1 = .ok (.iconst 1, 1) := by decide +kernel
theorem dX5_days_2 : decode cX5_days 2 = .ok (.if_icmp .lt 9, 3) := by decide +kernel
theorem dX5_days_5 : decode cX5_days 5 = .ok (.iload_n 1, 1) := by decide +kernel
theorem dX5_days_6 : decode cX5_days 6 = .ok (.bipush 100, 2) := by decide +kernel
theorem dX5_days_8 : decode cX5_days 8 = .ok (.if_icmp .le 13, 3) := by decide +kernel
theorem dX5_days_11 : decode cX5_days 11 = .ok (.new 58, 3) := by decide +kernel
theorem dX5_days_14 : decode cX5_days 14 = .ok (.dup, 1) := by decide +kernel
theorem dX5_days_15 : decode cX5_days 15 = .ok (.ldc 174, 2) := by decide +kernel
theorem dX5_days_17 : decode cX5_days 17 = .ok (.invokespecial 62, 3) := by decide +kernel
theorem dX5_days_20 : decode cX5_days 20 = .ok (.athrow, 1) := by decide +kernel
theorem dX5_days_21 : decode cX5_days 21 = .ok (.aload_n 0, 1) := by decide +kernel
theorem dX5_days_22 : decode cX5_days 22 = .ok (.getfield 29, 3) := by decide +kernel
theorem dX5_days_25 : decode cX5_days 25 = .ok (.getfield 117, 3) := by decide +kernel
theorem dX5_days_28 : decode cX5_days 28 = .ok (.ifCond .eq 13, 3) := by decide +kernel
theorem dX5_days_31 : decode cX5_days 31 = .ok (.new 65, 3) := by decide +kernel
theorem dX5_days_34 : decode cX5_days 34 = .ok (.dup, 1) := by decide +kernel
theorem dX5_days_35 : decode cX5_days 35 = .ok (.ldc 121, 2) := by decide +kernel
theorem dX5_days_37 : decode cX5_days 37 = .ok (.invokespecial 69, 3) := by decide +kernel
theorem dX5_days_40 : decode cX5_days 40 = .ok (.athrow, 1) := by decide +kernel
theorem dX5_days_41 : decode cX5_days 41 = .ok (.aload_n 0, 1) := by decide +kernel
theorem dX5_days_42 : decode cX5_days 42 = .ok (.aload_n 0, 1) := by decide +kernel
theorem dX5_days_43 : decode cX5_days 43 = .ok (.getfield 36, 3) := by decide +kernel
theorem dX5_days_46 : decode cX5_days 46 = .ok (.iload_n 1, 1) := by decide +kernel
theorem dX5_days_47 : decode cX5_days 47 = .ok (.iadd, 1) := by decide +kernel
theorem dX5_days_48 : decode cX5_days 48 = .ok (.iconst 5, 1) := by decide +kernel
theorem dX5_days_49 : decode cX5_days 49 = .ok (.irem, 1) := by decide +kernel
theorem dX5_days_50 : decode cX5_days 50 = .ok (.putfield 36, 3) := by decide +kernel
theorem dX5_days_53 : decode cX5_days 53 = .ok (.aload_n 0, 1) := by decide +kernel
theorem dX5_days_54 : decode cX5_days 54 = .ok (.getfield 36, 3) := by decide +kernel
theorem dX5_days_57 : decode cX5_days 57 = .ok (.ireturn, 1) := by decide +kernel
theorem dX5_pitch_0 : decode cX5_pitch 0 = .ok (.aload_n 0, 1) := by decide +kernel
theorem dX5_pitch_1 : decode cX5_pitch 1 = .ok (.iload_n 1, 1) := by decide +kernel
theorem dX5_pitch_2 : decode cX5_pitch 2 = .ok (.invokevirtual 176, 3) := by decide +kernel
theorem dX5_pitch_5 : decode cX5_pitch 5 = .ok (.astore 4, 2) := by decide +kernel
theorem dX5_pitch_7 : decode cX5_pitch 7 = .ok (.iload_n 2, 1) := by decide +kernel
theorem dX5_pitch_8 : decode cX5_pitch 8 = .ok (.invokestatic 180, 3) := by decide +kernel
theorem dX5_pitch_11 : decode cX5_pitch 11 = .ok (.iload_n 3, 1) := by decide +kernel
theorem dX5_pitch_12 : decode cX5_pitch 12 = .ok (.sipush 5000, 3) := by decide +kernel
theorem dX5_pitch_15 : decode cX5_pitch 15 = .ok (.if_icmp .lt 9, 3) := by decide +kernel
theorem dX5_pitch_18 : decode cX5_pitch 18 = .ok (.iload_n 3, 1) := by decide +kernel
theorem dX5_pitch_19 : decode cX5_pitch 19 = .ok (.ldc 183, 2) := by decide +kernel
theorem dX5_pitch_21 : decode cX5_pitch 21 = .ok (.if_icmp .le 13, 3) := by decide +kernel
theorem dX5_pitch_24 : decode cX5_pitch 24 = .ok (.new 58, 3) := by decide +kernel
theorem dX5_pitch_27 : decode cX5_pitch 27 = .ok (.dup, 1) := by decide +kernel
theorem dX5_pitch_28 : decode cX5_pitch 28 = .ok (.ldc 184, 2) := by decide +kernel
theorem dX5_pitch_30 : decode cX5_pitch 30 = .ok (.invokespecial 62, 3) := by decide +kernel
theorem dX5_pitch_33 : decode cX5_pitch 33 = .ok (.athrow, 1) := by decide +kernel
theorem dX5_pitch_34 : decode cX5_pitch 34 = .ok (.aload 4, 2) := by decide +kernel
theorem dX5_pitch_36 : decode cX5_pitch 36 = .ok (.iload_n 2, 1) := by decide +kernel
theorem dX5_pitch_37 : decode cX5_pitch 37 = .ok (.iload_n 3, 1) := by decide +kernel
theorem dX5_pitch_38 : decode cX5_pitch 38 = .ok (.invokevirtual 186, 3) := by decide +kernel
theorem dX5_pitch_41 : decode cX5_pitch 41 = .ok (.ireturn, 1) := by decide +kernel
theorem dX5_drift_0 : decode cX5_drift 0 = .ok (.aload_n 0, 1) := by decide +kernel
theorem dX5_drift_1 : decode cX5_drift 1 = .ok (.iload_n 1, 1) := by decide +kernel
theorem dX5_drift_2 : decode cX5_drift 2 = .ok (.invokevirtual 176, 3) := by decide +kernel
theorem dX5_drift_5 : decode cX5_drift 5 = .ok (.astore_n 3, 1) := by decide +kernel
theorem dX5_drift_6 : decode cX5_drift 6 = .ok (.iload_n 2, 1) := by decide +kernel
theorem dX5_drift_7 : decode cX5_drift 7 = .ok (.ifCond .lt 9, 3) := by decide +kernel
theorem dX5_drift_10 : decode cX5_drift 10 = .ok (.iload_n 2, 1) := by decide +kernel
theorem dX5_drift_11 : decode cX5_drift 11 = .ok (.bipush 50, 2) := by decide +kernel
theorem dX5_drift_13 : decode cX5_drift 13 = .ok (.if_icmp .le 13, 3) := by decide +kernel
theorem dX5_drift_16 : decode cX5_drift 16 = .ok (.new 58, 3) := by decide +kernel
theorem dX5_drift_19 : decode cX5_drift 19 = .ok (.dup, 1) := by decide +kernel
theorem dX5_drift_20 : decode cX5_drift 20 = .ok (.ldc 189, 2) := by decide +kernel
theorem dX5_drift_22 : decode cX5_drift 22 = .ok (.invokespecial 62, 3) := by decide +kernel
theorem dX5_drift_25 : decode cX5_drift 25 = .ok (.athrow, 1) := by decide +kernel
theorem dX5_drift_26 : decode cX5_drift 26 = .ok (.aload_n 3, 1) := by decide +kernel
theorem dX5_drift_27 : decode cX5_drift 27 = .ok (.getfield 191, 3) := by decide +kernel
theorem dX5_drift_30 : decode cX5_drift 30 = .ok (.istore 4, 2) := by decide +kernel
theorem dX5_drift_32 : decode cX5_drift 32 = .ok (.aload_n 3, 1) := by decide +kernel
theorem dX5_drift_33 : decode cX5_drift 33 = .ok (.iload_n 2, 1) := by decide +kernel
theorem dX5_drift_34 : decode cX5_drift 34 = .ok (.putfield 191, 3) := by decide +kernel
theorem dX5_drift_37 : decode cX5_drift 37 = .ok (.iload 4, 2) := by decide +kernel
theorem dX5_drift_39 : decode cX5_drift 39 = .ok (.ireturn, 1) := by decide +kernel
theorem dX5_years_0 : decode cX5_years 0 = .ok (.iload_n 1, 1) := by decide +kernel
theorem dX5_years_1 : decode cX5_years 1 = .ok (.iconst 1, 1) := by decide +kernel
theorem dX5_years_2 : decode cX5_years 2 = .ok (.if_icmp .lt 9, 3) := by decide +kernel
theorem dX5_years_5 : decode cX5_years 5 = .ok (.iload_n 1, 1) := by decide +kernel
theorem dX5_years_6 : decode cX5_years 6 = .ok (.bipush 30, 2) := by decide +kernel
theorem dX5_years_8 : decode cX5_years 8 = .ok (.if_icmp .le 13, 3) := by decide +kernel
theorem dX5_years_11 : decode cX5_years 11 = .ok (.new 58, 3) := by decide +kernel
theorem dX5_years_14 : decode cX5_years 14 = .ok (.dup, 1) := by decide +kernel
theorem dX5_years_15 : decode cX5_years 15 = .ok (.ldc 194, 2) := by decide +kernel
theorem dX5_years_17 : decode cX5_years 17 = .ok (.invokespecial 62, 3) := by decide +kernel
theorem dX5_years_20 : decode cX5_years 20 = .ok (.athrow, 1) := by decide +kernel
theorem dX5_years_21 : decode cX5_years 21 = .ok (.aload_n 0, 1) := by decide +kernel
theorem dX5_years_22 : decode cX5_years 22 = .ok (.getfield 45, 3) := by decide +kernel
theorem dX5_years_25 : decode cX5_years 25 = .ok (.iload_n 1, 1) := by decide +kernel
theorem dX5_years_26 : decode cX5_years 26 = .ok (.iadd, 1) := by decide +kernel
theorem dX5_years_27 : decode cX5_years 27 = .ok (.sipush 300, 3) := by decide +kernel
theorem dX5_years_30 : decode cX5_years 30 = .ok (.if_icmp .le 13, 3) := by decide +kernel
theorem dX5_years_33 : decode cX5_years 33 = .ok (.new 65, 3) := by decide +kernel
theorem dX5_years_36 : decode cX5_years 36 = .ok (.dup, 1) := by decide +kernel
theorem dX5_years_37 : decode cX5_years 37 = .ok (.ldc 196, 2) := by decide +kernel
theorem dX5_years_39 : decode cX5_years 39 = .ok (.invokespecial 69, 3) := by decide +kernel
theorem dX5_years_42 : decode cX5_years 42 = .ok (.athrow, 1) := by decide +kernel
theorem dX5_years_43 : decode cX5_years 43 = .ok (.iconst 0, 1) := by decide +kernel
theorem dX5_years_44 : decode cX5_years 44 = .ok (.istore_n 2, 1) := by decide +kernel
theorem dX5_years_45 : decode cX5_years 45 = .ok (.iload_n 2, 1) := by decide +kernel
theorem dX5_years_46 : decode cX5_years 46 = .ok (.iconst 4, 1) := by decide +kernel
theorem dX5_years_47 : decode cX5_years 47 = .ok (.if_icmp .ge 18, 3) := by decide +kernel
theorem dX5_years_50 : decode cX5_years 50 = .ok (.aload_n 0, 1) := by decide +kernel
theorem dX5_years_51 : decode cX5_years 51 = .ok (.iload_n 2, 1) := by decide +kernel
theorem dX5_years_52 : decode cX5_years 52 = .ok (.invokevirtual 176, 3) := by decide +kernel
theorem dX5_years_55 : decode cX5_years 55 = .ok (.iload_n 1, 1) := by decide +kernel
theorem dX5_years_56 : decode cX5_years 56 = .ok (.invokevirtual 198, 3) := by decide +kernel
theorem dX5_years_59 : decode cX5_years 59 = .ok (.iinc 2 1, 3) := by decide +kernel
theorem dX5_years_62 : decode cX5_years 62 = .ok (.goto (-17), 3) := by decide +kernel
theorem dX5_years_65 : decode cX5_years 65 = .ok (.aload_n 0, 1) := by decide +kernel
theorem dX5_years_66 : decode cX5_years 66 = .ok (.dup, 1) := by decide +kernel
theorem dX5_years_67 : decode cX5_years 67 = .ok (.getfield 45, 3) := by decide +kernel
theorem dX5_years_70 : decode cX5_years 70 = .ok (.iload_n 1, 1) := by decide +kernel
theorem dX5_years_71 : decode cX5_years 71 = .ok (.iadd, 1) := by decide +kernel
theorem dX5_years_72 : decode cX5_years 72 = .ok (.putfield 45, 3) := by decide +kernel
theorem dX5_years_75 : decode cX5_years 75 = .ok (.aload_n 0, 1) := by decide +kernel
theorem dX5_years_76 : decode cX5_years 76 = .ok (.getfield 45, 3) := by decide +kernel
theorem dX5_years_79 : decode cX5_years 79 = .ok (.ireturn, 1) := by decide +kernel
theorem dX5_tune_0 : decode cX5_tune 0 = .ok (.aload_n 0, 1) := by decide +kernel
theorem dX5_tune_1 : decode cX5_tune 1 = .ok (.iload_n 1, 1) := by decide +kernel
theorem dX5_tune_2 : decode cX5_tune 2 = .ok (.invokevirtual 176, 3) := by decide +kernel
theorem dX5_tune_5 : decode cX5_tune 5 = .ok (.astore_n 3, 1) := by decide +kernel
theorem dX5_tune_6 : decode cX5_tune 6 = .ok (.aload_n 0, 1) := by decide +kernel
theorem dX5_tune_7 : decode cX5_tune 7 = .ok (.iload_n 2, 1) := by decide +kernel
theorem dX5_tune_8 : decode cX5_tune 8 = .ok (.invokevirtual 176, 3) := by decide +kernel
theorem dX5_tune_11 : decode cX5_tune 11 = .ok (.astore 4, 2) := by decide +kernel
theorem dX5_tune_13 : decode cX5_tune 13 = .ok (.iload_n 1, 1) := by decide +kernel
theorem dX5_tune_14 : decode cX5_tune 14 = .ok (.iload_n 2, 1) := by decide +kernel
theorem dX5_tune_15 : decode cX5_tune 15 = .ok (.if_icmp .ne 13, 3) := by decide +kernel
theorem dX5_tune_18 : decode cX5_tune 18 = .ok (.new 58, 3) := by decide +kernel
theorem dX5_tune_21 : decode cX5_tune 21 = .ok (.dup, 1) := by decide +kernel
theorem dX5_tune_22 : decode cX5_tune 22 = .ok (.ldc 201, 2) := by decide +kernel
theorem dX5_tune_24 : decode cX5_tune 24 = .ok (.invokespecial 62, 3) := by decide +kernel
theorem dX5_tune_27 : decode cX5_tune 27 = .ok (.athrow, 1) := by decide +kernel
theorem dX5_tune_28 : decode cX5_tune 28 = .ok (.aload_n 3, 1) := by decide +kernel
theorem dX5_tune_29 : decode cX5_tune 29 = .ok (.aload 4, 2) := by decide +kernel
theorem dX5_tune_31 : decode cX5_tune 31 = .ok (.iconst 1, 1) := by decide +kernel
theorem dX5_tune_32 : decode cX5_tune 32 = .ok (.invokevirtual 203, 3) := by decide +kernel
theorem dX5_tune_35 : decode cX5_tune 35 = .ok (.invokevirtual 206, 3) := by decide +kernel
theorem dX5_tune_38 : decode cX5_tune 38 = .ok (.aload_n 3, 1) := by decide +kernel
theorem dX5_tune_39 : decode cX5_tune 39 = .ok (.iconst 1, 1) := by decide +kernel
theorem dX5_tune_40 : decode cX5_tune 40 = .ok (.invokevirtual 203, 3) := by decide +kernel
theorem dX5_tune_43 : decode cX5_tune 43 = .ok (.ireturn, 1) := by decide +kernel
theorem dX5_beat_0 : decode cX5_beat 0 = .ok (.aload_n 0, 1) := by decide +kernel
theorem dX5_beat_1 : decode cX5_beat 1 = .ok (.iload_n 1, 1) := by decide +kernel
theorem dX5_beat_2 : decode cX5_beat 2 = .ok (.invokevirtual 176, 3) := by decide +kernel
theorem dX5_beat_5 : decode cX5_beat 5 = .ok (.astore 4, 2) := by decide +kernel
theorem dX5_beat_7 : decode cX5_beat 7 = .ok (.aload_n 0, 1) := by decide +kernel
theorem dX5_beat_8 : decode cX5_beat 8 = .ok (.iload_n 2, 1) := by decide +kernel
theorem dX5_beat_9 : decode cX5_beat 9 = .ok (.invokevirtual 176, 3) := by decide +kernel
theorem dX5_beat_12 : decode cX5_beat 12 = .ok (.astore 5, 2) := by decide +kernel
theorem dX5_beat_14 : decode cX5_beat 14 = .ok (.iload_n 3, 1) := by decide +kernel
theorem dX5_beat_15 : decode cX5_beat 15 = .ok (.invokestatic 180, 3) := by decide +kernel
theorem dX5_beat_18 : decode cX5_beat 18 = .ok (.aload 4, 2) := by decide +kernel
theorem dX5_beat_20 : decode cX5_beat 20 = .ok (.iload_n 3, 1) := by decide +kernel
theorem dX5_beat_21 : decode cX5_beat 21 = .ok (.invokevirtual 203, 3) := by decide +kernel
theorem dX5_beat_24 : decode cX5_beat 24 = .ok (.aload 5, 2) := by decide +kernel
theorem dX5_beat_26 : decode cX5_beat 26 = .ok (.iload_n 3, 1) := by decide +kernel
theorem dX5_beat_27 : decode cX5_beat 27 = .ok (.invokevirtual 203, 3) := by decide +kernel
theorem dX5_beat_30 : decode cX5_beat 30 = .ok (.isub, 1) := by decide +kernel
theorem dX5_beat_31 : decode cX5_beat 31 = .ok (.invokestatic 209, 3) := by decide +kernel
theorem dX5_beat_34 : decode cX5_beat 34 = .ok (.ireturn, 1) := by decide +kernel
theorem dX5_player_0 : decode cX5_player 0 = .ok (.iload_n 1, 1) := by decide +kernel
theorem dX5_player_1 : decode cX5_player 1 = .ok (.ifCond .lt 9, 3) := by decide +kernel
theorem dX5_player_4 : decode cX5_player 4 = .ok (.iload_n 1, 1) := by decide +kernel
theorem dX5_player_5 : decode cX5_player 5 = .ok (.bipush 15, 2) := by decide +kernel
theorem dX5_player_7 : decode cX5_player 7 = .ok (.if_icmp .le 13, 3) := by decide +kernel
theorem dX5_player_10 : decode cX5_player 10 = .ok (.new 58, 3) := by decide +kernel
theorem dX5_player_13 : decode cX5_player 13 = .ok (.dup, 1) := by decide +kernel
theorem dX5_player_14 : decode cX5_player 14 = .ok (.ldc 214, 2) := by decide +kernel
theorem dX5_player_16 : decode cX5_player 16 = .ok (.invokespecial 62, 3) := by decide +kernel
theorem dX5_player_19 : decode cX5_player 19 = .ok (.athrow, 1) := by decide +kernel
theorem dX5_player_20 : decode cX5_player 20 = .ok (.aload_n 0, 1) := by decide +kernel
theorem dX5_player_21 : decode cX5_player 21 = .ok (.getfield 54, 3) := by decide +kernel
theorem dX5_player_24 : decode cX5_player 24 = .ok (.aload_n 0, 1) := by decide +kernel
theorem dX5_player_25 : decode cX5_player 25 = .ok (.getfield 50, 3) := by decide +kernel
theorem dX5_player_28 : decode cX5_player 28 = .ok (.arraylength, 1) := by decide +kernel
theorem dX5_player_29 : decode cX5_player 29 = .ok (.if_icmp .lt 13, 3) := by decide +kernel
theorem dX5_player_32 : decode cX5_player 32 = .ok (.new 65, 3) := by decide +kernel
theorem dX5_player_35 : decode cX5_player 35 = .ok (.dup, 1) := by decide +kernel
theorem dX5_player_36 : decode cX5_player 36 = .ok (.ldc 216, 2) := by decide +kernel
theorem dX5_player_38 : decode cX5_player 38 = .ok (.invokespecial 69, 3) := by decide +kernel
theorem dX5_player_41 : decode cX5_player 41 = .ok (.athrow, 1) := by decide +kernel
theorem dX5_player_42 : decode cX5_player 42 = .ok (.aload_n 0, 1) := by decide +kernel
theorem dX5_player_43 : decode cX5_player 43 = .ok (.getfield 50, 3) := by decide +kernel
theorem dX5_player_46 : decode cX5_player 46 = .ok (.aload_n 0, 1) := by decide +kernel
theorem dX5_player_47 : decode cX5_player 47 = .ok (.getfield 54, 3) := by decide +kernel
theorem dX5_player_50 : decode cX5_player 50 = .ok (.new 48, 3) := by decide +kernel
theorem dX5_player_53 : decode cX5_player 53 = .ok (.dup, 1) := by decide +kernel
theorem dX5_player_54 : decode cX5_player 54 = .ok (.iload_n 1, 1) := by decide +kernel
theorem dX5_player_55 : decode cX5_player 55 = .ok (.invokespecial 218, 3) := by decide +kernel
theorem dX5_player_58 : decode cX5_player 58 = .ok (.aastore, 1) := by decide +kernel
theorem dX5_player_59 : decode cX5_player 59 = .ok (.aload_n 0, 1) := by decide +kernel
theorem dX5_player_60 : decode cX5_player 60 = .ok (.dup, 1) := by decide +kernel
theorem dX5_player_61 : decode cX5_player 61 = .ok (.getfield 54, 3) := by decide +kernel
theorem dX5_player_64 : decode cX5_player 64 = .ok (.iconst 1, 1) := by decide +kernel
theorem dX5_player_65 : decode cX5_player 65 = .ok (.iadd, 1) := by decide +kernel
theorem dX5_player_66 : decode cX5_player 66 = .ok (.putfield 54, 3) := by decide +kernel
theorem dX5_player_69 : decode cX5_player 69 = .ok (.aload_n 0, 1) := by decide +kernel
theorem dX5_player_70 : decode cX5_player 70 = .ok (.getfield 54, 3) := by decide +kernel
theorem dX5_player_73 : decode cX5_player 73 = .ok (.iconst 1, 1) := by decide +kernel
theorem dX5_player_74 : decode cX5_player 74 = .ok (.isub, 1) := by decide +kernel
theorem dX5_player_75 : decode cX5_player 75 = .ok (.ireturn, 1) := by decide +kernel
theorem dX5_learn_0 : decode cX5_learn 0 = .ok (.aload_n 0, 1) := by decide +kernel
theorem dX5_learn_1 : decode cX5_learn 1 = .ok (.iload_n 1, 1) := by decide +kernel
theorem dX5_learn_2 : decode cX5_learn 2 = .ok (.invokevirtual 219, 3) := by decide +kernel
theorem dX5_learn_5 : decode cX5_learn 5 = .ok (.astore 4, 2) := by decide +kernel
theorem dX5_learn_7 : decode cX5_learn 7 = .ok (.aload_n 0, 1) := by decide +kernel
theorem dX5_learn_8 : decode cX5_learn 8 = .ok (.iload_n 3, 1) := by decide +kernel
theorem dX5_learn_9 : decode cX5_learn 9 = .ok (.iload_n 2, 1) := by decide +kernel
theorem dX5_learn_10 : decode cX5_learn 10 = .ok (.invokevirtual 223, 3) := by decide +kernel
theorem dX5_learn_13 : decode cX5_learn 13 = .ok (.astore 5, 2) := by decide +kernel
theorem dX5_learn_15 : decode cX5_learn 15 = .ok (.iload_n 3, 1) := by decide +kernel
theorem dX5_learn_16 : decode cX5_learn 16 = .ok (.iload_n 1, 1) := by decide +kernel
theorem dX5_learn_17 : decode cX5_learn 17 = .ok (.if_icmp .ne 13, 3) := by decide +kernel
theorem dX5_learn_20 : decode cX5_learn 20 = .ok (.new 58, 3) := by decide +kernel
theorem dX5_learn_23 : decode cX5_learn 23 = .ok (.dup, 1) := by decide +kernel
theorem dX5_learn_24 : decode cX5_learn 24 = .ok (.ldc 227, 2) := by decide +kernel
theorem dX5_learn_26 : decode cX5_learn 26 = .ok (.invokespecial 62, 3) := by decide +kernel
theorem dX5_learn_29 : decode cX5_learn 29 = .ok (.athrow, 1) := by decide +kernel
theorem dX5_learn_30 : decode cX5_learn 30 = .ok (.aload 5, 2) := by decide +kernel
theorem dX5_learn_32 : decode cX5_learn 32 = .ok (.ifnonnull 13, 3) := by decide +kernel
theorem dX5_learn_35 : decode cX5_learn 35 = .ok (.new 65, 3) := by decide +kernel
theorem dX5_learn_38 : decode cX5_learn 38 = .ok (.dup, 1) := by decide +kernel
theorem dX5_learn_39 : decode cX5_learn 39 = .ok (.ldc 229, 2) := by decide +kernel
theorem dX5_learn_41 : decode cX5_learn 41 = .ok (.invokespecial 69, 3) := by decide +kernel
theorem dX5_learn_44 : decode cX5_learn 44 = .ok (.athrow, 1) := by decide +kernel
theorem dX5_learn_45 : decode cX5_learn 45 = .ok (.aload 4, 2) := by decide +kernel
theorem dX5_learn_47 : decode cX5_learn 47 = .ok (.iload_n 2, 1) := by decide +kernel
theorem dX5_learn_48 : decode cX5_learn 48 = .ok (.aload 5, 2) := by decide +kernel
theorem dX5_learn_50 : decode cX5_learn 50 = .ok (.invokevirtual 231, 3) := by decide +kernel
theorem dX5_learn_53 : decode cX5_learn 53 = .ok (.aload_n 0, 1) := by decide +kernel
theorem dX5_learn_54 : decode cX5_learn 54 = .ok (.iload_n 2, 1) := by decide +kernel
theorem dX5_learn_55 : decode cX5_learn 55 = .ok (.invokevirtual 235, 3) := by decide +kernel
theorem dX5_learn_58 : decode cX5_learn 58 = .ok (.ireturn, 1) := by decide +kernel
theorem dX5_slip_0 : decode cX5_slip 0 = .ok (.aload_n 0, 1) := by decide +kernel
theorem dX5_slip_1 : decode cX5_slip 1 = .ok (.iload_n 1, 1) := by decide +kernel
theorem dX5_slip_2 : decode cX5_slip 2 = .ok (.invokevirtual 219, 3) := by decide +kernel
theorem dX5_slip_5 : decode cX5_slip 5 = .ok (.astore 5, 2) := by decide +kernel
theorem dX5_slip_7 : decode cX5_slip 7 = .ok (.aload_n 0, 1) := by decide +kernel
theorem dX5_slip_8 : decode cX5_slip 8 = .ok (.iload_n 2, 1) := by decide +kernel
theorem dX5_slip_9 : decode cX5_slip 9 = .ok (.invokevirtual 84, 3) := by decide +kernel
theorem dX5_slip_12 : decode cX5_slip 12 = .ok (.getfield 88, 3) := by decide +kernel
theorem dX5_slip_15 : decode cX5_slip 15 = .ok (.iload_n 3, 1) := by decide +kernel
theorem dX5_slip_16 : decode cX5_slip 16 = .ok (.invokestatic 92, 3) := by decide +kernel
theorem dX5_slip_19 : decode cX5_slip 19 = .ok (.iload 4, 2) := by decide +kernel
theorem dX5_slip_21 : decode cX5_slip 21 = .ok (.invokestatic 96, 3) := by decide +kernel
theorem dX5_slip_24 : decode cX5_slip 24 = .ok (.aload 5, 2) := by decide +kernel
theorem dX5_slip_26 : decode cX5_slip 26 = .ok (.iload_n 2, 1) := by decide +kernel
theorem dX5_slip_27 : decode cX5_slip 27 = .ok (.invokevirtual 238, 3) := by decide +kernel
theorem dX5_slip_30 : decode cX5_slip 30 = .ok (.astore 6, 2) := by decide +kernel
theorem dX5_slip_32 : decode cX5_slip 32 = .ok (.aload 6, 2) := by decide +kernel
theorem dX5_slip_34 : decode cX5_slip 34 = .ok (.ifnonnull 13, 3) := by decide +kernel
theorem dX5_slip_37 : decode cX5_slip 37 = .ok (.new 65, 3) := by decide +kernel
theorem dX5_slip_40 : decode cX5_slip 40 = .ok (.dup, 1) := by decide +kernel
theorem dX5_slip_41 : decode cX5_slip 41 = .ok (.ldc 242, 2) := by decide +kernel
theorem dX5_slip_43 : decode cX5_slip 43 = .ok (.invokespecial 69, 3) := by decide +kernel
theorem dX5_slip_46 : decode cX5_slip 46 = .ok (.athrow, 1) := by decide +kernel
theorem dX5_slip_47 : decode cX5_slip 47 = .ok (.aload 6, 2) := by decide +kernel
theorem dX5_slip_49 : decode cX5_slip 49 = .ok (.iload_n 3, 1) := by decide +kernel
theorem dX5_slip_50 : decode cX5_slip 50 = .ok (.iload 4, 2) := by decide +kernel
theorem dX5_slip_52 : decode cX5_slip 52 = .ok (.invokevirtual 99, 3) := by decide +kernel
theorem dX5_slip_55 : decode cX5_slip 55 = .ok (.ireturn, 1) := by decide +kernel
theorem dX5_unlike_0 : decode cX5_unlike 0 = .ok (.aload_n 0, 1) := by decide +kernel
theorem dX5_unlike_1 : decode cX5_unlike 1 = .ok (.iload_n 1, 1) := by decide +kernel
theorem dX5_unlike_2 : decode cX5_unlike 2 = .ok (.invokevirtual 219, 3) := by decide +kernel
theorem dX5_unlike_5 : decode cX5_unlike 5 = .ok (.astore 4, 2) := by decide +kernel
theorem dX5_unlike_7 : decode cX5_unlike 7 = .ok (.aload_n 0, 1) := by decide +kernel
theorem dX5_unlike_8 : decode cX5_unlike 8 = .ok (.iload_n 2, 1) := by decide +kernel
theorem dX5_unlike_9 : decode cX5_unlike 9 = .ok (.iload_n 3, 1) := by decide +kernel
theorem dX5_unlike_10 : decode cX5_unlike 10 = .ok (.invokevirtual 223, 3) := by decide +kernel
theorem dX5_unlike_13 : decode cX5_unlike 13 = .ok (.astore 5, 2) := by decide +kernel
theorem dX5_unlike_15 : decode cX5_unlike 15 = .ok (.aload 4, 2) := by decide +kernel
theorem dX5_unlike_17 : decode cX5_unlike 17 = .ok (.iload_n 3, 1) := by decide +kernel
theorem dX5_unlike_18 : decode cX5_unlike 18 = .ok (.invokevirtual 238, 3) := by decide +kernel
theorem dX5_unlike_21 : decode cX5_unlike 21 = .ok (.astore 6, 2) := by decide +kernel
theorem dX5_unlike_23 : decode cX5_unlike 23 = .ok (.aload 6, 2) := by decide +kernel
theorem dX5_unlike_25 : decode cX5_unlike 25 = .ok (.ifnull 8, 3) := by decide +kernel
theorem dX5_unlike_28 : decode cX5_unlike 28 = .ok (.aload 5, 2) := by decide +kernel
theorem dX5_unlike_30 : decode cX5_unlike 30 = .ok (.ifnonnull 5, 3) := by decide +kernel
theorem dX5_unlike_33 : decode cX5_unlike 33 = .ok (.iconst (-1), 1) := by decide +kernel
theorem dX5_unlike_34 : decode cX5_unlike 34 = .ok (.ireturn, 1) := by decide +kernel
theorem dX5_unlike_35 : decode cX5_unlike 35 = .ok (.aload 6, 2) := by decide +kernel
theorem dX5_unlike_37 : decode cX5_unlike 37 = .ok (.aload 5, 2) := by decide +kernel
theorem dX5_unlike_39 : decode cX5_unlike 39 = .ok (.invokevirtual 244, 3) := by decide +kernel
theorem dX5_unlike_42 : decode cX5_unlike 42 = .ok (.ireturn, 1) := by decide +kernel
theorem dX5_covered_0 : decode cX5_covered 0 = .ok (.aload_n 0, 1) := by decide +kernel
theorem dX5_covered_1 : decode cX5_covered 1 = .ok (.iload_n 1, 1) := by decide +kernel
theorem dX5_covered_2 : decode cX5_covered 2 = .ok (.invokevirtual 84, 3) := by decide +kernel
theorem dX5_covered_5 : decode cX5_covered 5 = .ok (.pop, 1) := by decide +kernel
theorem dX5_covered_6 : decode cX5_covered 6 = .ok (.iconst 1, 1) := by decide +kernel
theorem dX5_covered_7 : decode cX5_covered 7 = .ok (.istore_n 2, 1) := by decide +kernel
theorem dX5_covered_8 : decode cX5_covered 8 = .ok (.iconst 0, 1) := by decide +kernel
theorem dX5_covered_9 : decode cX5_covered 9 = .ok (.istore_n 3, 1) := by decide +kernel
theorem dX5_covered_10 : decode cX5_covered 10 = .ok (.iload_n 3, 1) := by decide +kernel
theorem dX5_covered_11 : decode cX5_covered 11 = .ok (.aload_n 0, 1) := by decide +kernel
theorem dX5_covered_12 : decode cX5_covered 12 = .ok (.getfield 54, 3) := by decide +kernel
theorem dX5_covered_15 : decode cX5_covered 15 = .ok (.if_icmp .ge 35, 3) := by decide +kernel
theorem dX5_covered_18 : decode cX5_covered 18 = .ok (.aload_n 0, 1) := by decide +kernel
theorem dX5_covered_19 : decode cX5_covered 19 = .ok (.iload_n 3, 1) := by decide +kernel
theorem dX5_covered_20 : decode cX5_covered 20 = .ok (.invokevirtual 219, 3) := by decide +kernel
theorem dX5_covered_23 : decode cX5_covered 23 = .ok (.astore 4, 2) := by decide +kernel
theorem dX5_covered_25 : decode cX5_covered 25 = .ok (.aload 4, 2) := by decide +kernel
theorem dX5_covered_27 : decode cX5_covered 27 = .ok (.iload_n 1, 1) := by decide +kernel
theorem dX5_covered_28 : decode cX5_covered 28 = .ok (.invokevirtual 238, 3) := by decide +kernel
theorem dX5_covered_31 : decode cX5_covered 31 = .ok (.ifnull 13, 3) := by decide +kernel
theorem dX5_covered_34 : decode cX5_covered 34 = .ok (.iload_n 2, 1) := by decide +kernel
theorem dX5_covered_35 : decode cX5_covered 35 = .ok (.aload 4, 2) := by decide +kernel
theorem dX5_covered_37 : decode cX5_covered 37 = .ok (.getfield 248, 3) := by decide +kernel
theorem dX5_covered_40 : decode cX5_covered 40 = .ok (.invokestatic 251, 3) := by decide +kernel
theorem dX5_covered_43 : decode cX5_covered 43 = .ok (.istore_n 2, 1) := by decide +kernel
theorem dX5_covered_44 : decode cX5_covered 44 = .ok (.iinc 3 1, 3) := by decide +kernel
theorem dX5_covered_47 : decode cX5_covered 47 = .ok (.goto (-37), 3) := by decide +kernel
theorem dX5_covered_50 : decode cX5_covered 50 = .ok (.iload_n 2, 1) := by decide +kernel
theorem dX5_covered_51 : decode cX5_covered 51 = .ok (.invokestatic 254, 3) := by decide +kernel
theorem dX5_covered_54 : decode cX5_covered 54 = .ok (.ireturn, 1) := by decide +kernel
theorem dX5_lengthOfForm_0 : decode cX5_lengthOfForm 0 = .ok (.iload_n 1, 1) := by decide +kernel
theorem dX5_lengthOfForm_1 : decode cX5_lengthOfForm 1 = .ok (.ifCond .lt 20, 3) := by decide +kernel
theorem dX5_lengthOfForm_4 : decode cX5_lengthOfForm 4 = .ok (.iload_n 1, 1) := by decide +kernel
theorem dX5_lengthOfForm_5 : decode cX5_lengthOfForm 5 = .ok (.aload_n 0, 1) := by decide +kernel
theorem dX5_lengthOfForm_6 : decode cX5_lengthOfForm 6 = .ok (.getfield 13, 3) := by decide +kernel
theorem dX5_lengthOfForm_9 : decode cX5_lengthOfForm 9 = .ok (.if_icmp .ge 12, 3) := by decide +kernel
theorem dX5_lengthOfForm_12 : decode cX5_lengthOfForm 12 = .ok (.iload_n 1, 1) := by decide +kernel
theorem dX5_lengthOfForm_13 : decode cX5_lengthOfForm 13 = .ok (.aload_n 0, 1) := by decide +kernel
theorem dX5_lengthOfForm_14 : decode cX5_lengthOfForm 14 = .ok (.getfield 9, 3) := by decide +kernel
theorem dX5_lengthOfForm_17 : decode cX5_lengthOfForm 17 = .ok (.arraylength, 1) := by decide +kernel
theorem dX5_lengthOfForm_18 : decode cX5_lengthOfForm 18 = .ok (.if_icmp .lt 14, 3) := by decide +kernel
theorem dX5_lengthOfForm_21 : decode cX5_lengthOfForm 21 = .ok (.new 74, 3) := by decide +kernel
theorem dX5_lengthOfForm_24 : decode cX5_lengthOfForm 24 = .ok (.dup, 1) := by decide +kernel
theorem dX5_lengthOfForm_25 : decode cX5_lengthOfForm 25 = .ok (.ldc_w 257, 3) := by decide +kernel
theorem dX5_lengthOfForm_28 : decode cX5_lengthOfForm 28 = .ok (.invokespecial 78, 3) := by decide +kernel
theorem dX5_lengthOfForm_31 : decode cX5_lengthOfForm 31 = .ok (.athrow, 1) := by decide +kernel
theorem dX5_lengthOfForm_32 : decode cX5_lengthOfForm 32 = .ok (.aload_n 0, 1) := by decide +kernel
theorem dX5_lengthOfForm_33 : decode cX5_lengthOfForm 33 = .ok (.getfield 9, 3) := by decide +kernel
theorem dX5_lengthOfForm_36 : decode cX5_lengthOfForm 36 = .ok (.iload_n 1, 1) := by decide +kernel
theorem dX5_lengthOfForm_37 : decode cX5_lengthOfForm 37 = .ok (.iaload, 1) := by decide +kernel
theorem dX5_lengthOfForm_38 : decode cX5_lengthOfForm 38 = .ok (.ireturn, 1) := by decide +kernel
theorem dX5_pieceAt_0 : decode cX5_pieceAt 0 = .ok (.iload_n 1, 1) := by decide +kernel
theorem dX5_pieceAt_1 : decode cX5_pieceAt 1 = .ok (.ifCond .lt 21, 3) := by decide +kernel
theorem dX5_pieceAt_4 : decode cX5_pieceAt 4 = .ok (.iload_n 1, 1) := by decide +kernel
theorem dX5_pieceAt_5 : decode cX5_pieceAt 5 = .ok (.aload_n 0, 1) := by decide +kernel
theorem dX5_pieceAt_6 : decode cX5_pieceAt 6 = .ok (.getfield 19, 3) := by decide +kernel
theorem dX5_pieceAt_9 : decode cX5_pieceAt 9 = .ok (.arraylength, 1) := by decide +kernel
theorem dX5_pieceAt_10 : decode cX5_pieceAt 10 = .ok (.if_icmp .ge 12, 3) := by decide +kernel
theorem dX5_pieceAt_13 : decode cX5_pieceAt 13 = .ok (.aload_n 0, 1) := by decide +kernel
theorem dX5_pieceAt_14 : decode cX5_pieceAt 14 = .ok (.getfield 19, 3) := by decide +kernel
theorem dX5_pieceAt_17 : decode cX5_pieceAt 17 = .ok (.iload_n 1, 1) := by decide +kernel
theorem dX5_pieceAt_18 : decode cX5_pieceAt 18 = .ok (.aaload, 1) := by decide +kernel
theorem dX5_pieceAt_19 : decode cX5_pieceAt 19 = .ok (.goto 4, 3) := by decide +kernel
theorem dX5_pieceAt_22 : decode cX5_pieceAt 22 = .ok (.aconst_null, 1) := by decide +kernel
theorem dX5_pieceAt_23 : decode cX5_pieceAt 23 = .ok (.astore_n 2, 1) := by decide +kernel
theorem dX5_pieceAt_24 : decode cX5_pieceAt 24 = .ok (.aload_n 2, 1) := by decide +kernel
theorem dX5_pieceAt_25 : decode cX5_pieceAt 25 = .ok (.ifnonnull 14, 3) := by decide +kernel
theorem dX5_pieceAt_28 : decode cX5_pieceAt 28 = .ok (.new 74, 3) := by decide +kernel
theorem dX5_pieceAt_31 : decode cX5_pieceAt 31 = .ok (.dup, 1) := by decide +kernel
theorem dX5_pieceAt_32 : decode cX5_pieceAt 32 = .ok (.ldc_w 259, 3) := by decide +kernel
theorem dX5_pieceAt_35 : decode cX5_pieceAt 35 = .ok (.invokespecial 78, 3) := by decide +kernel
theorem dX5_pieceAt_38 : decode cX5_pieceAt 38 = .ok (.athrow, 1) := by decide +kernel
theorem dX5_pieceAt_39 : decode cX5_pieceAt 39 = .ok (.aload_n 2, 1) := by decide +kernel
theorem dX5_pieceAt_40 : decode cX5_pieceAt 40 = .ok (.areturn, 1) := by decide +kernel
theorem dX5_setAt_0 : decode cX5_setAt 0 = .ok (.iload_n 1, 1) := by decide +kernel
theorem dX5_setAt_1 : decode cX5_setAt 1 = .ok (.ifCond .lt 21, 3) := by decide +kernel
theorem dX5_setAt_4 : decode cX5_setAt 4 = .ok (.iload_n 1, 1) := by decide +kernel
theorem dX5_setAt_5 : decode cX5_setAt 5 = .ok (.aload_n 0, 1) := by decide +kernel
theorem dX5_setAt_6 : decode cX5_setAt 6 = .ok (.getfield 41, 3) := by decide +kernel
theorem dX5_setAt_9 : decode cX5_setAt 9 = .ok (.arraylength, 1) := by decide +kernel
theorem dX5_setAt_10 : decode cX5_setAt 10 = .ok (.if_icmp .ge 12, 3) := by decide +kernel
theorem dX5_setAt_13 : decode cX5_setAt 13 = .ok (.aload_n 0, 1) := by decide +kernel
theorem dX5_setAt_14 : decode cX5_setAt 14 = .ok (.getfield 41, 3) := by decide +kernel
theorem dX5_setAt_17 : decode cX5_setAt 17 = .ok (.iload_n 1, 1) := by decide +kernel
theorem dX5_setAt_18 : decode cX5_setAt 18 = .ok (.aaload, 1) := by decide +kernel
theorem dX5_setAt_19 : decode cX5_setAt 19 = .ok (.goto 4, 3) := by decide +kernel
theorem dX5_setAt_22 : decode cX5_setAt 22 = .ok (.aconst_null, 1) := by decide +kernel
theorem dX5_setAt_23 : decode cX5_setAt 23 = .ok (.astore_n 2, 1) := by decide +kernel
theorem dX5_setAt_24 : decode cX5_setAt 24 = .ok (.aload_n 2, 1) := by decide +kernel
theorem dX5_setAt_25 : decode cX5_setAt 25 = .ok (.ifnonnull 14, 3) := by decide +kernel
theorem dX5_setAt_28 : decode cX5_setAt 28 = .ok (.new 74, 3) := by decide +kernel
theorem dX5_setAt_31 : decode cX5_setAt 31 = .ok (.dup, 1) := by decide +kernel
theorem dX5_setAt_32 : decode cX5_setAt 32 = .ok (.ldc_w 261, 3) := by decide +kernel
theorem dX5_setAt_35 : decode cX5_setAt 35 = .ok (.invokespecial 78, 3) := by decide +kernel
theorem dX5_setAt_38 : decode cX5_setAt 38 = .ok (.athrow, 1) := by decide +kernel
theorem dX5_setAt_39 : decode cX5_setAt 39 = .ok (.aload_n 2, 1) := by decide +kernel
theorem dX5_setAt_40 : decode cX5_setAt 40 = .ok (.areturn, 1) := by decide +kernel
theorem dX5_playerAt_0 : decode cX5_playerAt 0 = .ok (.iload_n 1, 1) := by decide +kernel
theorem dX5_playerAt_1 : decode cX5_playerAt 1 = .ok (.ifCond .lt 21, 3) := by decide +kernel
theorem dX5_playerAt_4 : decode cX5_playerAt 4 = .ok (.iload_n 1, 1) := by decide +kernel
theorem dX5_playerAt_5 : decode cX5_playerAt 5 = .ok (.aload_n 0, 1) := by decide +kernel
theorem dX5_playerAt_6 : decode cX5_playerAt 6 = .ok (.getfield 50, 3) := by decide +kernel
theorem dX5_playerAt_9 : decode cX5_playerAt 9 = .ok (.arraylength, 1) := by decide +kernel
theorem dX5_playerAt_10 : decode cX5_playerAt 10 = .ok (.if_icmp .ge 12, 3) := by decide +kernel
theorem dX5_playerAt_13 : decode cX5_playerAt 13 = .ok (.aload_n 0, 1) := by decide +kernel
theorem dX5_playerAt_14 : decode cX5_playerAt 14 = .ok (.getfield 50, 3) := by decide +kernel
theorem dX5_playerAt_17 : decode cX5_playerAt 17 = .ok (.iload_n 1, 1) := by decide +kernel
theorem dX5_playerAt_18 : decode cX5_playerAt 18 = .ok (.aaload, 1) := by decide +kernel
theorem dX5_playerAt_19 : decode cX5_playerAt 19 = .ok (.goto 4, 3) := by decide +kernel
theorem dX5_playerAt_22 : decode cX5_playerAt 22 = .ok (.aconst_null, 1) := by decide +kernel
theorem dX5_playerAt_23 : decode cX5_playerAt 23 = .ok (.astore_n 2, 1) := by decide +kernel
theorem dX5_playerAt_24 : decode cX5_playerAt 24 = .ok (.aload_n 2, 1) := by decide +kernel
theorem dX5_playerAt_25 : decode cX5_playerAt 25 = .ok (.ifnonnull 14, 3) := by decide +kernel
theorem dX5_playerAt_28 : decode cX5_playerAt 28 = .ok (.new 74, 3) := by decide +kernel
theorem dX5_playerAt_31 : decode cX5_playerAt 31 = .ok (.dup, 1) := by decide +kernel
theorem dX5_playerAt_32 : decode cX5_playerAt 32 = .ok (.ldc_w 263, 3) := by decide +kernel
theorem dX5_playerAt_35 : decode cX5_playerAt 35 = .ok (.invokespecial 78, 3) := by decide +kernel
theorem dX5_playerAt_38 : decode cX5_playerAt 38 = .ok (.athrow, 1) := by decide +kernel
theorem dX5_playerAt_39 : decode cX5_playerAt 39 = .ok (.aload_n 2, 1) := by decide +kernel
theorem dX5_playerAt_40 : decode cX5_playerAt 40 = .ok (.areturn, 1) := by decide +kernel
theorem dX5_melodyOf_0 : decode cX5_melodyOf 0 = .ok (.aload_n 0, 1) := by decide +kernel
theorem dX5_melodyOf_1 : decode cX5_melodyOf 1 = .ok (.iload_n 2, 1) := by decide +kernel
theorem dX5_melodyOf_2 : decode cX5_melodyOf 2 = .ok (.invokevirtual 84, 3) := by decide +kernel
theorem dX5_melodyOf_5 : decode cX5_melodyOf 5 = .ok (.astore_n 3, 1) := by decide +kernel
theorem dX5_melodyOf_6 : decode cX5_melodyOf 6 = .ok (.iload_n 1, 1) := by decide +kernel
theorem dX5_melodyOf_7 : decode cX5_melodyOf 7 = .ok (.iconst (-1), 1) := by decide +kernel
theorem dX5_melodyOf_8 : decode cX5_melodyOf 8 = .ok (.if_icmp .ne 10, 3) := by decide +kernel
theorem dX5_melodyOf_11 : decode cX5_melodyOf 11 = .ok (.aload_n 3, 1) := by decide +kernel
theorem dX5_melodyOf_12 : decode cX5_melodyOf 12 = .ok (.getfield 88, 3) := by decide +kernel
theorem dX5_melodyOf_15 : decode cX5_melodyOf 15 = .ok (.goto 12, 3) := by decide +kernel
theorem dX5_melodyOf_18 : decode cX5_melodyOf 18 = .ok (.aload_n 0, 1) := by decide +kernel
theorem dX5_melodyOf_19 : decode cX5_melodyOf 19 = .ok (.iload_n 1, 1) := by decide +kernel
theorem dX5_melodyOf_20 : decode cX5_melodyOf 20 = .ok (.invokevirtual 219, 3) := by decide +kernel
theorem dX5_melodyOf_23 : decode cX5_melodyOf 23 = .ok (.iload_n 2, 1) := by decide +kernel
theorem dX5_melodyOf_24 : decode cX5_melodyOf 24 = .ok (.invokevirtual 238, 3) := by decide +kernel
theorem dX5_melodyOf_27 : decode cX5_melodyOf 27 = .ok (.areturn, 1) := by decide +kernel
theorem dX5_knowersOf_0 : decode cX5_knowersOf 0 = .ok (.iconst 0, 1) := by decide +kernel
theorem dX5_knowersOf_1 : decode cX5_knowersOf 1 = .ok (.istore_n 2, 1) := by decide +kernel
theorem dX5_knowersOf_2 : decode cX5_knowersOf 2 = .ok (.iconst 0, 1) := by decide +kernel
theorem dX5_knowersOf_3 : decode cX5_knowersOf 3 = .ok (.istore_n 3, 1) := by decide +kernel
theorem dX5_knowersOf_4 : decode cX5_knowersOf 4 = .ok (.iload_n 3, 1) := by decide +kernel
theorem dX5_knowersOf_5 : decode cX5_knowersOf 5 = .ok (.aload_n 0, 1) := by decide +kernel
theorem dX5_knowersOf_6 : decode cX5_knowersOf 6 = .ok (.getfield 54, 3) := by decide +kernel
theorem dX5_knowersOf_9 : decode cX5_knowersOf 9 = .ok (.if_icmp .ge 24, 3) := by decide +kernel
theorem dX5_knowersOf_12 : decode cX5_knowersOf 12 = .ok (.aload_n 0, 1) := by decide +kernel
theorem dX5_knowersOf_13 : decode cX5_knowersOf 13 = .ok (.iload_n 3, 1) := by decide +kernel
theorem dX5_knowersOf_14 : decode cX5_knowersOf 14 = .ok (.invokevirtual 219, 3) := by decide +kernel
theorem dX5_knowersOf_17 : decode cX5_knowersOf 17 = .ok (.iload_n 1, 1) := by decide +kernel
theorem dX5_knowersOf_18 : decode cX5_knowersOf 18 = .ok (.invokevirtual 238, 3) := by decide +kernel
theorem dX5_knowersOf_21 : decode cX5_knowersOf 21 = .ok (.ifnull 6, 3) := by decide +kernel
theorem dX5_knowersOf_24 : decode cX5_knowersOf 24 = .ok (.iinc 2 1, 3) := by decide +kernel
theorem dX5_knowersOf_27 : decode cX5_knowersOf 27 = .ok (.iinc 3 1, 3) := by decide +kernel
theorem dX5_knowersOf_30 : decode cX5_knowersOf 30 = .ok (.goto (-26), 3) := by decide +kernel
theorem dX5_knowersOf_33 : decode cX5_knowersOf 33 = .ok (.iload_n 2, 1) := by decide +kernel
theorem dX5_knowersOf_34 : decode cX5_knowersOf 34 = .ok (.ireturn, 1) := by decide +kernel
theorem dX5_refuseNoPlace_0 : decode cX5_refuseNoPlace 0 = .ok (.aload_n 0, 1) := by decide +kernel
theorem dX5_refuseNoPlace_1 : decode cX5_refuseNoPlace 1 = .ok (.iload_n 1, 1) := by decide +kernel
theorem dX5_refuseNoPlace_2 : decode cX5_refuseNoPlace 2 = .ok (.invokevirtual 265, 3) := by decide +kernel
theorem dX5_refuseNoPlace_5 : decode cX5_refuseNoPlace 5 = .ok (.ifCond .ne 13, 3) := by decide +kernel
theorem dX5_refuseNoPlace_8 : decode cX5_refuseNoPlace 8 = .ok (.new 74, 3) := by decide +kernel
theorem dX5_refuseNoPlace_11 : decode cX5_refuseNoPlace 11 = .ok (.dup, 1) := by decide +kernel
theorem dX5_refuseNoPlace_12 : decode cX5_refuseNoPlace 12 = .ok (.ldc 76, 2) := by decide +kernel
theorem dX5_refuseNoPlace_14 : decode cX5_refuseNoPlace 14 = .ok (.invokespecial 78, 3) := by decide +kernel
theorem dX5_refuseNoPlace_17 : decode cX5_refuseNoPlace 17 = .ok (.athrow, 1) := by decide +kernel
theorem dX5_refuseNoPlace_18 : decode cX5_refuseNoPlace 18 = .ok (.return_, 1) := by decide +kernel
theorem dX5_refuseNoPart_0 : decode cX5_refuseNoPart 0 = .ok (.iload_n 0, 1) := by decide +kernel
theorem dX5_refuseNoPart_1 : decode cX5_refuseNoPart 1 = .ok (.ifCond .lt 8, 3) := by decide +kernel
theorem dX5_refuseNoPart_4 : decode cX5_refuseNoPart 4 = .ok (.iload_n 0, 1) := by decide +kernel
theorem dX5_refuseNoPart_5 : decode cX5_refuseNoPart 5 = .ok (.iconst 3, 1) := by decide +kernel
theorem dX5_refuseNoPart_6 : decode cX5_refuseNoPart 6 = .ok (.if_icmp .le 14, 3) := by decide +kernel
theorem dX5_refuseNoPart_9 : decode cX5_refuseNoPart 9 = .ok (.new 74, 3) := by decide +kernel
theorem dX5_refuseNoPart_12 : decode cX5_refuseNoPart 12 = .ok (.dup, 1) := by decide +kernel
theorem dX5_refuseNoPart_13 : decode cX5_refuseNoPart 13 = .ok (.ldc_w 269, 3) := by decide +kernel
theorem dX5_refuseNoPart_16 : decode cX5_refuseNoPart 16 = .ok (.invokespecial 78, 3) := by decide +kernel
theorem dX5_refuseNoPart_19 : decode cX5_refuseNoPart 19 = .ok (.athrow, 1) := by decide +kernel
theorem dX5_refuseNoPart_20 : decode cX5_refuseNoPart 20 = .ok (.return_, 1) := by decide +kernel
theorem dX5_refuseNoTone_0 : decode cX5_refuseNoTone 0 = .ok (.iload_n 0, 1) := by decide +kernel
theorem dX5_refuseNoTone_1 : decode cX5_refuseNoTone 1 = .ok (.iconst 1, 1) := by decide +kernel
theorem dX5_refuseNoTone_2 : decode cX5_refuseNoTone 2 = .ok (.if_icmp .lt 9, 3) := by decide +kernel
theorem dX5_refuseNoTone_5 : decode cX5_refuseNoTone 5 = .ok (.iload_n 0, 1) := by decide +kernel
theorem dX5_refuseNoTone_6 : decode cX5_refuseNoTone 6 = .ok (.bipush 7, 2) := by decide +kernel
theorem dX5_refuseNoTone_8 : decode cX5_refuseNoTone 8 = .ok (.if_icmp .le 14, 3) := by decide +kernel
theorem dX5_refuseNoTone_11 : decode cX5_refuseNoTone 11 = .ok (.new 74, 3) := by decide +kernel
theorem dX5_refuseNoTone_14 : decode cX5_refuseNoTone 14 = .ok (.dup, 1) := by decide +kernel
theorem dX5_refuseNoTone_15 : decode cX5_refuseNoTone 15 = .ok (.ldc_w 271, 3) := by decide +kernel
theorem dX5_refuseNoTone_18 : decode cX5_refuseNoTone 18 = .ok (.invokespecial 78, 3) := by decide +kernel
theorem dX5_refuseNoTone_21 : decode cX5_refuseNoTone 21 = .ok (.athrow, 1) := by decide +kernel
theorem dX5_refuseNoTone_22 : decode cX5_refuseNoTone 22 = .ok (.return_, 1) := by decide +kernel
theorem dX5_refuseNoToneOrRest_0 : decode cX5_refuseNoToneOrRest 0 = .ok (.iload_n 0, 1) := by decide +kernel
theorem dX5_refuseNoToneOrRest_1 : decode cX5_refuseNoToneOrRest 1 = .ok (.ifCond .lt 9, 3) := by decide +kernel
theorem dX5_refuseNoToneOrRest_4 : decode cX5_refuseNoToneOrRest 4 = .ok (.iload_n 0, 1) := by decide +kernel
theorem dX5_refuseNoToneOrRest_5 : decode cX5_refuseNoToneOrRest 5 = .ok (.bipush 7, 2) := by decide +kernel
theorem dX5_refuseNoToneOrRest_7 : decode cX5_refuseNoToneOrRest 7 = .ok (.if_icmp .le 14, 3) := by decide +kernel
theorem dX5_refuseNoToneOrRest_10 : decode cX5_refuseNoToneOrRest 10 = .ok (.new 58, 3) := by decide +kernel
theorem dX5_refuseNoToneOrRest_13 : decode cX5_refuseNoToneOrRest 13 = .ok (.dup, 1) := by decide +kernel
theorem dX5_refuseNoToneOrRest_14 : decode cX5_refuseNoToneOrRest 14 = .ok (.ldc_w 273, 3) := by decide +kernel
theorem dX5_refuseNoToneOrRest_17 : decode cX5_refuseNoToneOrRest 17 = .ok (.invokespecial 62, 3) := by decide +kernel
theorem dX5_refuseNoToneOrRest_20 : decode cX5_refuseNoToneOrRest 20 = .ok (.athrow, 1) := by decide +kernel
theorem dX5_refuseNoToneOrRest_21 : decode cX5_refuseNoToneOrRest 21 = .ok (.return_, 1) := by decide +kernel
theorem dX5_refuseNoStroke_0 : decode cX5_refuseNoStroke 0 = .ok (.iload_n 1, 1) := by decide +kernel
theorem dX5_refuseNoStroke_1 : decode cX5_refuseNoStroke 1 = .ok (.invokestatic 167, 3) := by decide +kernel
theorem dX5_refuseNoStroke_4 : decode cX5_refuseNoStroke 4 = .ok (.aload_n 0, 1) := by decide +kernel
theorem dX5_refuseNoStroke_5 : decode cX5_refuseNoStroke 5 = .ok (.iload_n 2, 1) := by decide +kernel
theorem dX5_refuseNoStroke_6 : decode cX5_refuseNoStroke 6 = .ok (.invokestatic 92, 3) := by decide +kernel
theorem dX5_refuseNoStroke_9 : decode cX5_refuseNoStroke 9 = .ok (.iload_n 3, 1) := by decide +kernel
theorem dX5_refuseNoStroke_10 : decode cX5_refuseNoStroke 10 = .ok (.ifCond .lt 8, 3) := by decide +kernel
theorem dX5_refuseNoStroke_13 : decode cX5_refuseNoStroke 13 = .ok (.iload_n 3, 1) := by decide +kernel
theorem dX5_refuseNoStroke_14 : decode cX5_refuseNoStroke 14 = .ok (.iconst 3, 1) := by decide +kernel
theorem dX5_refuseNoStroke_15 : decode cX5_refuseNoStroke 15 = .ok (.if_icmp .le 14, 3) := by decide +kernel
theorem dX5_refuseNoStroke_18 : decode cX5_refuseNoStroke 18 = .ok (.new 58, 3) := by decide +kernel
theorem dX5_refuseNoStroke_21 : decode cX5_refuseNoStroke 21 = .ok (.dup, 1) := by decide +kernel
theorem dX5_refuseNoStroke_22 : decode cX5_refuseNoStroke 22 = .ok (.ldc_w 275, 3) := by decide +kernel
theorem dX5_refuseNoStroke_25 : decode cX5_refuseNoStroke 25 = .ok (.invokespecial 62, 3) := by decide +kernel
theorem dX5_refuseNoStroke_28 : decode cX5_refuseNoStroke 28 = .ok (.athrow, 1) := by decide +kernel
theorem dX5_refuseNoStroke_29 : decode cX5_refuseNoStroke 29 = .ok (.iload 4, 2) := by decide +kernel
theorem dX5_refuseNoStroke_31 : decode cX5_refuseNoStroke 31 = .ok (.ifCond .lt 13, 3) := by decide +kernel
theorem dX5_refuseNoStroke_34 : decode cX5_refuseNoStroke 34 = .ok (.iload 4, 2) := by decide +kernel
theorem dX5_refuseNoStroke_36 : decode cX5_refuseNoStroke 36 = .ok (.iload_n 1, 1) := by decide +kernel
theorem dX5_refuseNoStroke_37 : decode cX5_refuseNoStroke 37 = .ok (.iload_n 3, 1) := by decide +kernel
theorem dX5_refuseNoStroke_38 : decode cX5_refuseNoStroke 38 = .ok (.invokestatic 277, 3) := by decide +kernel
theorem dX5_refuseNoStroke_41 : decode cX5_refuseNoStroke 41 = .ok (.if_icmp .lt 14, 3) := by decide +kernel
theorem dX5_refuseNoStroke_44 : decode cX5_refuseNoStroke 44 = .ok (.new 58, 3) := by decide +kernel
theorem dX5_refuseNoStroke_47 : decode cX5_refuseNoStroke 47 = .ok (.dup, 1) := by decide +kernel
theorem dX5_refuseNoStroke_48 : decode cX5_refuseNoStroke 48 = .ok (.ldc_w 280, 3) := by decide +kernel
theorem dX5_refuseNoStroke_51 : decode cX5_refuseNoStroke 51 = .ok (.invokespecial 62, 3) := by decide +kernel
theorem dX5_refuseNoStroke_54 : decode cX5_refuseNoStroke 54 = .ok (.athrow, 1) := by decide +kernel
theorem dX5_refuseNoStroke_55 : decode cX5_refuseNoStroke 55 = .ok (.return_, 1) := by decide +kernel
theorem dX5_refuseSilence_0 : decode cX5_refuseSilence 0 = .ok (.aload_n 0, 1) := by decide +kernel
theorem dX5_refuseSilence_1 : decode cX5_refuseSilence 1 = .ok (.getfield 29, 3) := by decide +kernel
theorem dX5_refuseSilence_4 : decode cX5_refuseSilence 4 = .ok (.getfield 117, 3) := by decide +kernel
theorem dX5_refuseSilence_7 : decode cX5_refuseSilence 7 = .ok (.ifCond .ne 14, 3) := by decide +kernel
theorem dX5_refuseSilence_10 : decode cX5_refuseSilence 10 = .ok (.new 65, 3) := by decide +kernel
theorem dX5_refuseSilence_13 : decode cX5_refuseSilence 13 = .ok (.dup, 1) := by decide +kernel
theorem dX5_refuseSilence_14 : decode cX5_refuseSilence 14 = .ok (.ldc_w 282, 3) := by decide +kernel
theorem dX5_refuseSilence_17 : decode cX5_refuseSilence 17 = .ok (.invokespecial 69, 3) := by decide +kernel
theorem dX5_refuseSilence_20 : decode cX5_refuseSilence 20 = .ok (.athrow, 1) := by decide +kernel
theorem dX5_refuseSilence_21 : decode cX5_refuseSilence 21 = .ok (.return_, 1) := by decide +kernel
theorem dX5_toneOfStroke_0 : decode cX5_toneOfStroke 0 = .ok (.aload_n 0, 1) := by decide +kernel
theorem dX5_toneOfStroke_1 : decode cX5_toneOfStroke 1 = .ok (.iload_n 1, 1) := by decide +kernel
theorem dX5_toneOfStroke_2 : decode cX5_toneOfStroke 2 = .ok (.invokevirtual 84, 3) := by decide +kernel
theorem dX5_toneOfStroke_5 : decode cX5_toneOfStroke 5 = .ok (.getfield 88, 3) := by decide +kernel
theorem dX5_toneOfStroke_8 : decode cX5_toneOfStroke 8 = .ok (.astore 7, 2) := by decide +kernel
theorem dX5_toneOfStroke_10 : decode cX5_toneOfStroke 10 = .ok (.aload 7, 2) := by decide +kernel
theorem dX5_toneOfStroke_12 : decode cX5_toneOfStroke 12 = .ok (.iload_n 2, 1) := by decide +kernel
theorem dX5_toneOfStroke_13 : decode cX5_toneOfStroke 13 = .ok (.iload_n 3, 1) := by decide +kernel
theorem dX5_toneOfStroke_14 : decode cX5_toneOfStroke 14 = .ok (.iload 4, 2) := by decide +kernel
theorem dX5_toneOfStroke_16 : decode cX5_toneOfStroke 16 = .ok (.iload 5, 2) := by decide +kernel
theorem dX5_toneOfStroke_18 : decode cX5_toneOfStroke 18 = .ok (.invokestatic 284, 3) := by decide +kernel
theorem dX5_toneOfStroke_21 : decode cX5_toneOfStroke 21 = .ok (.iload_n 2, 1) := by decide +kernel
theorem dX5_toneOfStroke_22 : decode cX5_toneOfStroke 22 = .ok (.iload 4, 2) := by decide +kernel
theorem dX5_toneOfStroke_24 : decode cX5_toneOfStroke 24 = .ok (.invokestatic 277, 3) := by decide +kernel
theorem dX5_toneOfStroke_27 : decode cX5_toneOfStroke 27 = .ok (.istore 8, 2) := by decide +kernel
theorem dX5_toneOfStroke_29 : decode cX5_toneOfStroke 29 = .ok (.iload_n 3, 1) := by decide +kernel
theorem dX5_toneOfStroke_30 : decode cX5_toneOfStroke 30 = .ok (.iconst 2, 1) := by decide +kernel
theorem dX5_toneOfStroke_31 : decode cX5_toneOfStroke 31 = .ok (.irem, 1) := by decide +kernel
theorem dX5_toneOfStroke_32 : decode cX5_toneOfStroke 32 = .ok (.ifCond .ne 9, 3) := by decide +kernel
theorem dX5_toneOfStroke_35 : decode cX5_toneOfStroke 35 = .ok (.iload_n 3, 1) := by decide +kernel
theorem dX5_toneOfStroke_36 : decode cX5_toneOfStroke 36 = .ok (.iconst 1, 1) := by decide +kernel
theorem dX5_toneOfStroke_37 : decode cX5_toneOfStroke 37 = .ok (.isub, 1) := by decide +kernel
theorem dX5_toneOfStroke_38 : decode cX5_toneOfStroke 38 = .ok (.goto 4, 3) := by decide +kernel
theorem dX5_toneOfStroke_41 : decode cX5_toneOfStroke 41 = .ok (.iload_n 3, 1) := by decide +kernel
theorem dX5_toneOfStroke_42 : decode cX5_toneOfStroke 42 = .ok (.istore 9, 2) := by decide +kernel
theorem dX5_toneOfStroke_44 : decode cX5_toneOfStroke 44 = .ok (.aload 7, 2) := by decide +kernel
theorem dX5_toneOfStroke_46 : decode cX5_toneOfStroke 46 = .ok (.iload 9, 2) := by decide +kernel
theorem dX5_toneOfStroke_48 : decode cX5_toneOfStroke 48 = .ok (.invokevirtual 110, 3) := by decide +kernel
theorem dX5_toneOfStroke_51 : decode cX5_toneOfStroke 51 = .ok (.istore 10, 2) := by decide +kernel
theorem dX5_toneOfStroke_53 : decode cX5_toneOfStroke 53 = .ok (.aload 7, 2) := by decide +kernel
theorem dX5_toneOfStroke_55 : decode cX5_toneOfStroke 55 = .ok (.iload 9, 2) := by decide +kernel
theorem dX5_toneOfStroke_57 : decode cX5_toneOfStroke 57 = .ok (.iconst 1, 1) := by decide +kernel
theorem dX5_toneOfStroke_58 : decode cX5_toneOfStroke 58 = .ok (.iadd, 1) := by decide +kernel
theorem dX5_toneOfStroke_59 : decode cX5_toneOfStroke 59 = .ok (.invokevirtual 110, 3) := by decide +kernel
theorem dX5_toneOfStroke_62 : decode cX5_toneOfStroke 62 = .ok (.istore 11, 2) := by decide +kernel
theorem dX5_toneOfStroke_64 : decode cX5_toneOfStroke 64 = .ok (.iload_n 3, 1) := by decide +kernel
theorem dX5_toneOfStroke_65 : decode cX5_toneOfStroke 65 = .ok (.iload 9, 2) := by decide +kernel
theorem dX5_toneOfStroke_67 : decode cX5_toneOfStroke 67 = .ok (.if_icmp .ne 8, 3) := by decide +kernel
theorem dX5_toneOfStroke_70 : decode cX5_toneOfStroke 70 = .ok (.iload 5, 2) := by decide +kernel
theorem dX5_toneOfStroke_72 : decode cX5_toneOfStroke 72 = .ok (.goto 8, 3) := by decide +kernel
theorem dX5_toneOfStroke_75 : decode cX5_toneOfStroke 75 = .ok (.iload 8, 2) := by decide +kernel
theorem dX5_toneOfStroke_77 : decode cX5_toneOfStroke 77 = .ok (.iload 5, 2) := by decide +kernel
theorem dX5_toneOfStroke_79 : decode cX5_toneOfStroke 79 = .ok (.iadd, 1) := by decide +kernel
theorem dX5_toneOfStroke_80 : decode cX5_toneOfStroke 80 = .ok (.istore 12, 2) := by decide +kernel
theorem dX5_toneOfStroke_82 : decode cX5_toneOfStroke 82 = .ok (.iload 6, 2) := by decide +kernel
theorem dX5_toneOfStroke_84 : decode cX5_toneOfStroke 84 = .ok (.ifCond .eq 18, 3) := by decide +kernel
theorem dX5_toneOfStroke_87 : decode cX5_toneOfStroke 87 = .ok (.iload_n 2, 1) := by decide +kernel
theorem dX5_toneOfStroke_88 : decode cX5_toneOfStroke 88 = .ok (.iload 8, 2) := by decide +kernel
theorem dX5_toneOfStroke_90 : decode cX5_toneOfStroke 90 = .ok (.iload 12, 2) := by decide +kernel
theorem dX5_toneOfStroke_92 : decode cX5_toneOfStroke 92 = .ok (.iload 10, 2) := by decide +kernel
theorem dX5_toneOfStroke_94 : decode cX5_toneOfStroke 94 = .ok (.iload 11, 2) := by decide +kernel
theorem dX5_toneOfStroke_96 : decode cX5_toneOfStroke 96 = .ok (.invokestatic 288, 3) := by decide +kernel
theorem dX5_toneOfStroke_99 : decode cX5_toneOfStroke 99 = .ok (.goto 15, 3) := by decide +kernel
theorem dX5_toneOfStroke_102 : decode cX5_toneOfStroke 102 = .ok (.iload_n 2, 1) := by decide +kernel
theorem dX5_toneOfStroke_103 : decode cX5_toneOfStroke 103 = .ok (.iload 8, 2) := by decide +kernel
theorem dX5_toneOfStroke_105 : decode cX5_toneOfStroke 105 = .ok (.iload 12, 2) := by decide +kernel
theorem dX5_toneOfStroke_107 : decode cX5_toneOfStroke 107 = .ok (.iload 10, 2) := by decide +kernel
theorem dX5_toneOfStroke_109 : decode cX5_toneOfStroke 109 = .ok (.iload 11, 2) := by decide +kernel
theorem dX5_toneOfStroke_111 : decode cX5_toneOfStroke 111 = .ok (.invokestatic 292, 3) := by decide +kernel
theorem dX5_toneOfStroke_114 : decode cX5_toneOfStroke 114 = .ok (.ireturn, 1) := by decide +kernel
theorem dX5_densityOf_0 : decode cX5_densityOf 0 = .ok (.iload_n 0, 1) := by decide +kernel
theorem dX5_densityOf_1 : decode cX5_densityOf 1 = .ok (.tableswitch 35 1 3 #[27, 31, 27], 27) := by decide +kernel
theorem dX5_densityOf_28 : decode cX5_densityOf 28 = .ok (.iconst 2, 1) := by decide +kernel
theorem dX5_densityOf_29 : decode cX5_densityOf 29 = .ok (.iload_n 1, 1) := by decide +kernel
theorem dX5_densityOf_30 : decode cX5_densityOf 30 = .ok (.ishl, 1) := by decide +kernel
theorem dX5_densityOf_31 : decode cX5_densityOf 31 = .ok (.ireturn, 1) := by decide +kernel
theorem dX5_densityOf_32 : decode cX5_densityOf 32 = .ok (.iconst 1, 1) := by decide +kernel
theorem dX5_densityOf_33 : decode cX5_densityOf 33 = .ok (.iload_n 1, 1) := by decide +kernel
theorem dX5_densityOf_34 : decode cX5_densityOf 34 = .ok (.ishl, 1) := by decide +kernel
theorem dX5_densityOf_35 : decode cX5_densityOf 35 = .ok (.ireturn, 1) := by decide +kernel
theorem dX5_densityOf_36 : decode cX5_densityOf 36 = .ok (.iconst 1, 1) := by decide +kernel
theorem dX5_densityOf_37 : decode cX5_densityOf 37 = .ok (.ireturn, 1) := by decide +kernel
theorem dX5_strokeAt_0 : decode cX5_strokeAt 0 = .ok (.iload_n 0, 1) := by decide +kernel
theorem dX5_strokeAt_1 : decode cX5_strokeAt 1 = .ok (.lookupswitch 69 #[(1, 27), (3, 41)], 27) := by decide +kernel
theorem dX5_strokeAt_28 : decode cX5_strokeAt 28 = .ok (.iload_n 2, 1) := by decide +kernel
theorem dX5_strokeAt_29 : decode cX5_strokeAt 29 = .ok (.iconst 4, 1) := by decide +kernel
theorem dX5_strokeAt_30 : decode cX5_strokeAt 30 = .ok (.irem, 1) := by decide +kernel
theorem dX5_strokeAt_31 : decode cX5_strokeAt 31 = .ok (.iconst 2, 1) := by decide +kernel
theorem dX5_strokeAt_32 : decode cX5_strokeAt 32 = .ok (.if_icmp .ge 7, 3) := by decide +kernel
theorem dX5_strokeAt_35 : decode cX5_strokeAt 35 = .ok (.iload_n 3, 1) := by decide +kernel
theorem dX5_strokeAt_36 : decode cX5_strokeAt 36 = .ok (.goto 5, 3) := by decide +kernel
theorem dX5_strokeAt_39 : decode cX5_strokeAt 39 = .ok (.iload 4, 2) := by decide +kernel
theorem dX5_strokeAt_41 : decode cX5_strokeAt 41 = .ok (.ireturn, 1) := by decide +kernel
theorem dX5_strokeAt_42 : decode cX5_strokeAt 42 = .ok (.iload_n 3, 1) := by decide +kernel
theorem dX5_strokeAt_43 : decode cX5_strokeAt 43 = .ok (.ifCond .eq 8, 3) := by decide +kernel
theorem dX5_strokeAt_46 : decode cX5_strokeAt 46 = .ok (.iload 4, 2) := by decide +kernel
theorem dX5_strokeAt_48 : decode cX5_strokeAt 48 = .ok (.ifCond .ne 13, 3) := by decide +kernel
theorem dX5_strokeAt_51 : decode cX5_strokeAt 51 = .ok (.iload_n 2, 1) := by decide +kernel
theorem dX5_strokeAt_52 : decode cX5_strokeAt 52 = .ok (.iload_n 3, 1) := by decide +kernel
theorem dX5_strokeAt_53 : decode cX5_strokeAt 53 = .ok (.iload 4, 2) := by decide +kernel
theorem dX5_strokeAt_55 : decode cX5_strokeAt 55 = .ok (.invokestatic 295, 3) := by decide +kernel
theorem dX5_strokeAt_58 : decode cX5_strokeAt 58 = .ok (.goto 11, 3) := by decide +kernel
theorem dX5_strokeAt_61 : decode cX5_strokeAt 61 = .ok (.iload_n 1, 1) := by decide +kernel
theorem dX5_strokeAt_62 : decode cX5_strokeAt 62 = .ok (.iload_n 2, 1) := by decide +kernel
theorem dX5_strokeAt_63 : decode cX5_strokeAt 63 = .ok (.iload_n 3, 1) := by decide +kernel
theorem dX5_strokeAt_64 : decode cX5_strokeAt 64 = .ok (.iload 4, 2) := by decide +kernel
theorem dX5_strokeAt_66 : decode cX5_strokeAt 66 = .ok (.invokestatic 299, 3) := by decide +kernel
theorem dX5_strokeAt_69 : decode cX5_strokeAt 69 = .ok (.ireturn, 1) := by decide +kernel
theorem dX5_strokeAt_70 : decode cX5_strokeAt 70 = .ok (.iload_n 2, 1) := by decide +kernel
theorem dX5_strokeAt_71 : decode cX5_strokeAt 71 = .ok (.iload_n 3, 1) := by decide +kernel
theorem dX5_strokeAt_72 : decode cX5_strokeAt 72 = .ok (.iload 4, 2) := by decide +kernel
theorem dX5_strokeAt_74 : decode cX5_strokeAt 74 = .ok (.invokestatic 295, 3) := by decide +kernel
theorem dX5_strokeAt_77 : decode cX5_strokeAt 77 = .ok (.ireturn, 1) := by decide +kernel
theorem dX5_turnAt_0 : decode cX5_turnAt 0 = .ok (.iload_n 0, 1) := by decide +kernel
theorem dX5_turnAt_1 : decode cX5_turnAt 1 = .ok (.iconst 2, 1) := by decide +kernel
theorem dX5_turnAt_2 : decode cX5_turnAt 2 = .ok (.irem, 1) := by decide +kernel
theorem dX5_turnAt_3 : decode cX5_turnAt 3 = .ok (.ifCond .ne 7, 3) := by decide +kernel
theorem dX5_turnAt_6 : decode cX5_turnAt 6 = .ok (.iload_n 1, 1) := by decide +kernel
theorem dX5_turnAt_7 : decode cX5_turnAt 7 = .ok (.goto 4, 3) := by decide +kernel
theorem dX5_turnAt_10 : decode cX5_turnAt 10 = .ok (.iload_n 2, 1) := by decide +kernel
theorem dX5_turnAt_11 : decode cX5_turnAt 11 = .ok (.ireturn, 1) := by decide +kernel
theorem dX5_walkAt_0 : decode cX5_walkAt 0 = .ok (.iload_n 1, 1) := by decide +kernel
theorem dX5_walkAt_1 : decode cX5_walkAt 1 = .ok (.iload_n 3, 1) := by decide +kernel
theorem dX5_walkAt_2 : decode cX5_walkAt 2 = .ok (.iload_n 2, 1) := by decide +kernel
theorem dX5_walkAt_3 : decode cX5_walkAt 3 = .ok (.isub, 1) := by decide +kernel
theorem dX5_walkAt_4 : decode cX5_walkAt 4 = .ok (.invokestatic 209, 3) := by decide +kernel
theorem dX5_walkAt_7 : decode cX5_walkAt 7 = .ok (.if_icmp .lt 7, 3) := by decide +kernel
theorem dX5_walkAt_10 : decode cX5_walkAt 10 = .ok (.iconst 1, 1) := by decide +kernel
theorem dX5_walkAt_11 : decode cX5_walkAt 11 = .ok (.goto 4, 3) := by decide +kernel
theorem dX5_walkAt_14 : decode cX5_walkAt 14 = .ok (.iconst 0, 1) := by decide +kernel
theorem dX5_walkAt_15 : decode cX5_walkAt 15 = .ok (.istore 4, 2) := by decide +kernel
theorem dX5_walkAt_17 : decode cX5_walkAt 17 = .ok (.iload_n 1, 1) := by decide +kernel
theorem dX5_walkAt_18 : decode cX5_walkAt 18 = .ok (.iconst 2, 1) := by decide +kernel
theorem dX5_walkAt_19 : decode cX5_walkAt 19 = .ok (.iload_n 0, 1) := by decide +kernel
theorem dX5_walkAt_20 : decode cX5_walkAt 20 = .ok (.imul, 1) := by decide +kernel
theorem dX5_walkAt_21 : decode cX5_walkAt 21 = .ok (.iconst 1, 1) := by decide +kernel
theorem dX5_walkAt_22 : decode cX5_walkAt 22 = .ok (.isub, 1) := by decide +kernel
theorem dX5_walkAt_23 : decode cX5_walkAt 23 = .ok (.if_icmp .ne 7, 3) := by decide +kernel
theorem dX5_walkAt_26 : decode cX5_walkAt 26 = .ok (.iconst 1, 1) := by decide +kernel
theorem dX5_walkAt_27 : decode cX5_walkAt 27 = .ok (.goto 4, 3) := by decide +kernel
theorem dX5_walkAt_30 : decode cX5_walkAt 30 = .ok (.iconst 0, 1) := by decide +kernel
theorem dX5_walkAt_31 : decode cX5_walkAt 31 = .ok (.istore 5, 2) := by decide +kernel
theorem dX5_walkAt_33 : decode cX5_walkAt 33 = .ok (.iload 4, 2) := by decide +kernel
theorem dX5_walkAt_35 : decode cX5_walkAt 35 = .ok (.ifCond .ne 8, 3) := by decide +kernel
theorem dX5_walkAt_38 : decode cX5_walkAt 38 = .ok (.iload 5, 2) := by decide +kernel
theorem dX5_walkAt_40 : decode cX5_walkAt 40 = .ok (.ifCond .eq 5, 3) := by decide +kernel
theorem dX5_walkAt_43 : decode cX5_walkAt 43 = .ok (.iload_n 3, 1) := by decide +kernel
theorem dX5_walkAt_44 : decode cX5_walkAt 44 = .ok (.ireturn, 1) := by decide +kernel
theorem dX5_walkAt_45 : decode cX5_walkAt 45 = .ok (.iload_n 2, 1) := by decide +kernel
theorem dX5_walkAt_46 : decode cX5_walkAt 46 = .ok (.iload_n 3, 1) := by decide +kernel
theorem dX5_walkAt_47 : decode cX5_walkAt 47 = .ok (.if_icmp .ge 9, 3) := by decide +kernel
theorem dX5_walkAt_50 : decode cX5_walkAt 50 = .ok (.iload_n 2, 1) := by decide +kernel
theorem dX5_walkAt_51 : decode cX5_walkAt 51 = .ok (.iload_n 1, 1) := by decide +kernel
theorem dX5_walkAt_52 : decode cX5_walkAt 52 = .ok (.iadd, 1) := by decide +kernel
theorem dX5_walkAt_53 : decode cX5_walkAt 53 = .ok (.goto 6, 3) := by decide +kernel
theorem dX5_walkAt_56 : decode cX5_walkAt 56 = .ok (.iload_n 2, 1) := by decide +kernel
theorem dX5_walkAt_57 : decode cX5_walkAt 57 = .ok (.iload_n 1, 1) := by decide +kernel
theorem dX5_walkAt_58 : decode cX5_walkAt 58 = .ok (.isub, 1) := by decide +kernel
theorem dX5_walkAt_59 : decode cX5_walkAt 59 = .ok (.ireturn, 1) := by decide +kernel
theorem dX5_strokeByStroke_0 : decode cX5_strokeByStroke 0 = .ok (.iload_n 3, 1) := by decide +kernel
theorem dX5_strokeByStroke_1 : decode cX5_strokeByStroke 1 = .ok (.istore 5, 2) := by decide +kernel
theorem dX5_strokeByStroke_3 : decode cX5_strokeByStroke 3 = .ok (.iconst 1, 1) := by decide +kernel
theorem dX5_strokeByStroke_4 : decode cX5_strokeByStroke 4 = .ok (.istore 6, 2) := by decide +kernel
theorem dX5_strokeByStroke_6 : decode cX5_strokeByStroke 6 = .ok (.iload 6, 2) := by decide +kernel
theorem dX5_strokeByStroke_8 : decode cX5_strokeByStroke 8 = .ok (.iload_n 2, 1) := by decide +kernel
theorem dX5_strokeByStroke_9 : decode cX5_strokeByStroke 9 = .ok (.if_icmp .gt 23, 3) := by decide +kernel
theorem dX5_strokeByStroke_12 : decode cX5_strokeByStroke 12 = .ok (.iload 5, 2) := by decide +kernel
theorem dX5_strokeByStroke_14 : decode cX5_strokeByStroke 14 = .ok (.iload_n 0, 1) := by decide +kernel
theorem dX5_strokeByStroke_15 : decode cX5_strokeByStroke 15 = .ok (.iload_n 1, 1) := by decide +kernel
theorem dX5_strokeByStroke_16 : decode cX5_strokeByStroke 16 = .ok (.iload 6, 2) := by decide +kernel
theorem dX5_strokeByStroke_18 : decode cX5_strokeByStroke 18 = .ok (.iload_n 3, 1) := by decide +kernel
theorem dX5_strokeByStroke_19 : decode cX5_strokeByStroke 19 = .ok (.iload 4, 2) := by decide +kernel
theorem dX5_strokeByStroke_21 : decode cX5_strokeByStroke 21 = .ok (.invokestatic 303, 3) := by decide +kernel
theorem dX5_strokeByStroke_24 : decode cX5_strokeByStroke 24 = .ok (.istore 5, 2) := by decide +kernel
theorem dX5_strokeByStroke_26 : decode cX5_strokeByStroke 26 = .ok (.iinc 6 1, 3) := by decide +kernel
theorem dX5_strokeByStroke_29 : decode cX5_strokeByStroke 29 = .ok (.goto (-23), 3) := by decide +kernel
theorem dX5_strokeByStroke_32 : decode cX5_strokeByStroke 32 = .ok (.iload 5, 2) := by decide +kernel
theorem dX5_strokeByStroke_34 : decode cX5_strokeByStroke 34 = .ok (.ireturn, 1) := by decide +kernel
theorem dX5_strokeBehind_0 : decode cX5_strokeBehind 0 = .ok (.iload 4, 2) := by decide +kernel
theorem dX5_strokeBehind_2 : decode cX5_strokeBehind 2 = .ok (.iload 5, 2) := by decide +kernel
theorem dX5_strokeBehind_4 : decode cX5_strokeBehind 4 = .ok (.iadd, 1) := by decide +kernel
theorem dX5_strokeBehind_5 : decode cX5_strokeBehind 5 = .ok (.iload_n 0, 1) := by decide +kernel
theorem dX5_strokeBehind_6 : decode cX5_strokeBehind 6 = .ok (.isub, 1) := by decide +kernel
theorem dX5_strokeBehind_7 : decode cX5_strokeBehind 7 = .ok (.istore 6, 2) := by decide +kernel
theorem dX5_strokeBehind_9 : decode cX5_strokeBehind 9 = .ok (.iload_n 1, 1) := by decide +kernel
theorem dX5_strokeBehind_10 : decode cX5_strokeBehind 10 = .ok (.lookupswitch 63 #[(1, 26), (3, 39)], 26) := by decide +kernel
theorem dX5_strokeBehind_36 : decode cX5_strokeBehind 36 = .ok (.iload_n 3, 1) := by decide +kernel
theorem dX5_strokeBehind_37 : decode cX5_strokeBehind 37 = .ok (.iconst 2, 1) := by decide +kernel
theorem dX5_strokeBehind_38 : decode cX5_strokeBehind 38 = .ok (.irem, 1) := by decide +kernel
theorem dX5_strokeBehind_39 : decode cX5_strokeBehind 39 = .ok (.ifCond .ne 8, 3) := by decide +kernel
theorem dX5_strokeBehind_42 : decode cX5_strokeBehind 42 = .ok (.iload 6, 2) := by decide +kernel
theorem dX5_strokeBehind_44 : decode cX5_strokeBehind 44 = .ok (.goto 4, 3) := by decide +kernel
theorem dX5_strokeBehind_47 : decode cX5_strokeBehind 47 = .ok (.iload_n 0, 1) := by decide +kernel
theorem dX5_strokeBehind_48 : decode cX5_strokeBehind 48 = .ok (.ireturn, 1) := by decide +kernel
theorem dX5_strokeBehind_49 : decode cX5_strokeBehind 49 = .ok (.iload 4, 2) := by decide +kernel
theorem dX5_strokeBehind_51 : decode cX5_strokeBehind 51 = .ok (.ifCond .eq 8, 3) := by decide +kernel
theorem dX5_strokeBehind_54 : decode cX5_strokeBehind 54 = .ok (.iload 5, 2) := by decide +kernel
theorem dX5_strokeBehind_56 : decode cX5_strokeBehind 56 = .ok (.ifCond .ne 8, 3) := by decide +kernel
theorem dX5_strokeBehind_59 : decode cX5_strokeBehind 59 = .ok (.iload 6, 2) := by decide +kernel
theorem dX5_strokeBehind_61 : decode cX5_strokeBehind 61 = .ok (.goto 11, 3) := by decide +kernel
theorem dX5_strokeBehind_64 : decode cX5_strokeBehind 64 = .ok (.iload_n 0, 1) := by decide +kernel
theorem dX5_strokeBehind_65 : decode cX5_strokeBehind 65 = .ok (.iload_n 2, 1) := by decide +kernel
theorem dX5_strokeBehind_66 : decode cX5_strokeBehind 66 = .ok (.iload_n 3, 1) := by decide +kernel
theorem dX5_strokeBehind_67 : decode cX5_strokeBehind 67 = .ok (.iload 5, 2) := by decide +kernel
theorem dX5_strokeBehind_69 : decode cX5_strokeBehind 69 = .ok (.invokestatic 307, 3) := by decide +kernel
theorem dX5_strokeBehind_72 : decode cX5_strokeBehind 72 = .ok (.ireturn, 1) := by decide +kernel
theorem dX5_strokeBehind_73 : decode cX5_strokeBehind 73 = .ok (.iload 6, 2) := by decide +kernel
theorem dX5_strokeBehind_75 : decode cX5_strokeBehind 75 = .ok (.ireturn, 1) := by decide +kernel
theorem dX5_walkBehind_0 : decode cX5_walkBehind 0 = .ok (.iload_n 0, 1) := by decide +kernel
theorem dX5_walkBehind_1 : decode cX5_walkBehind 1 = .ok (.iload_n 3, 1) := by decide +kernel
theorem dX5_walkBehind_2 : decode cX5_walkBehind 2 = .ok (.if_icmp .eq 12, 3) := by decide +kernel
theorem dX5_walkBehind_5 : decode cX5_walkBehind 5 = .ok (.iload_n 2, 1) := by decide +kernel
theorem dX5_walkBehind_6 : decode cX5_walkBehind 6 = .ok (.iconst 2, 1) := by decide +kernel
theorem dX5_walkBehind_7 : decode cX5_walkBehind 7 = .ok (.iload_n 1, 1) := by decide +kernel
theorem dX5_walkBehind_8 : decode cX5_walkBehind 8 = .ok (.imul, 1) := by decide +kernel
theorem dX5_walkBehind_9 : decode cX5_walkBehind 9 = .ok (.iconst 1, 1) := by decide +kernel
theorem dX5_walkBehind_10 : decode cX5_walkBehind 10 = .ok (.isub, 1) := by decide +kernel
theorem dX5_walkBehind_11 : decode cX5_walkBehind 11 = .ok (.if_icmp .ne 5, 3) := by decide +kernel
theorem dX5_walkBehind_14 : decode cX5_walkBehind 14 = .ok (.iload_n 3, 1) := by decide +kernel
theorem dX5_walkBehind_15 : decode cX5_walkBehind 15 = .ok (.ireturn, 1) := by decide +kernel
theorem dX5_walkBehind_16 : decode cX5_walkBehind 16 = .ok (.iload_n 0, 1) := by decide +kernel
theorem dX5_walkBehind_17 : decode cX5_walkBehind 17 = .ok (.iload_n 3, 1) := by decide +kernel
theorem dX5_walkBehind_18 : decode cX5_walkBehind 18 = .ok (.if_icmp .ge 9, 3) := by decide +kernel
theorem dX5_walkBehind_21 : decode cX5_walkBehind 21 = .ok (.iload_n 0, 1) := by decide +kernel
theorem dX5_walkBehind_22 : decode cX5_walkBehind 22 = .ok (.iconst 1, 1) := by decide +kernel
theorem dX5_walkBehind_23 : decode cX5_walkBehind 23 = .ok (.iadd, 1) := by decide +kernel
theorem dX5_walkBehind_24 : decode cX5_walkBehind 24 = .ok (.goto 6, 3) := by decide +kernel
theorem dX5_walkBehind_27 : decode cX5_walkBehind 27 = .ok (.iload_n 0, 1) := by decide +kernel
theorem dX5_walkBehind_28 : decode cX5_walkBehind 28 = .ok (.iconst 1, 1) := by decide +kernel
theorem dX5_walkBehind_29 : decode cX5_walkBehind 29 = .ok (.isub, 1) := by decide +kernel
theorem dX5_walkBehind_30 : decode cX5_walkBehind 30 = .ok (.ireturn, 1) := by decide +kernel
theorem dX5_withOnePlayerMore_0 : decode cX5_withOnePlayerMore 0 = .ok (.iload_n 0, 1) := by decide +kernel
theorem dX5_withOnePlayerMore_1 : decode cX5_withOnePlayerMore 1 = .ok (.istore_n 2, 1) := by decide +kernel
theorem dX5_withOnePlayerMore_2 : decode cX5_withOnePlayerMore 2 = .ok (.iconst 0, 1) := by decide +kernel
theorem dX5_withOnePlayerMore_3 : decode cX5_withOnePlayerMore 3 = .ok (.istore_n 3, 1) := by decide +kernel
theorem dX5_withOnePlayerMore_4 : decode cX5_withOnePlayerMore 4 = .ok (.iload_n 3, 1) := by decide +kernel
theorem dX5_withOnePlayerMore_5 : decode cX5_withOnePlayerMore 5 = .ok (.bipush 15, 2) := by decide +kernel
theorem dX5_withOnePlayerMore_7 : decode cX5_withOnePlayerMore 7 = .ok (.if_icmp .gt 52, 3) := by decide +kernel
theorem dX5_withOnePlayerMore_10 : decode cX5_withOnePlayerMore 10 = .ok (.iload_n 0, 1) := by decide +kernel
theorem dX5_withOnePlayerMore_11 : decode cX5_withOnePlayerMore 11 = .ok (.iload_n 3, 1) := by decide +kernel
theorem dX5_withOnePlayerMore_12 : decode cX5_withOnePlayerMore 12 = .ok (.ishr, 1) := by decide +kernel
theorem dX5_withOnePlayerMore_13 : decode cX5_withOnePlayerMore 13 = .ok (.iconst 1, 1) := by decide +kernel
theorem dX5_withOnePlayerMore_14 : decode cX5_withOnePlayerMore 14 = .ok (.iand, 1) := by decide +kernel
theorem dX5_withOnePlayerMore_15 : decode cX5_withOnePlayerMore 15 = .ok (.ifCond .eq 38, 3) := by decide +kernel
theorem dX5_withOnePlayerMore_18 : decode cX5_withOnePlayerMore 18 = .ok (.iconst 0, 1) := by decide +kernel
theorem dX5_withOnePlayerMore_19 : decode cX5_withOnePlayerMore 19 = .ok (.istore 4, 2) := by decide +kernel
theorem dX5_withOnePlayerMore_21 : decode cX5_withOnePlayerMore 21 = .ok (.iload 4, 2) := by decide +kernel
theorem dX5_withOnePlayerMore_23 : decode cX5_withOnePlayerMore 23 = .ok (.iconst 4, 1) := by decide +kernel
theorem dX5_withOnePlayerMore_24 : decode cX5_withOnePlayerMore 24 = .ok (.if_icmp .ge 29, 3) := by decide +kernel
theorem dX5_withOnePlayerMore_27 : decode cX5_withOnePlayerMore 27 = .ok (.iload_n 1, 1) := by decide +kernel
theorem dX5_withOnePlayerMore_28 : decode cX5_withOnePlayerMore 28 = .ok (.iload 4, 2) := by decide +kernel
theorem dX5_withOnePlayerMore_30 : decode cX5_withOnePlayerMore 30 = .ok (.ishr, 1) := by decide +kernel
theorem dX5_withOnePlayerMore_31 : decode cX5_withOnePlayerMore 31 = .ok (.iconst 1, 1) := by decide +kernel
theorem dX5_withOnePlayerMore_32 : decode cX5_withOnePlayerMore 32 = .ok (.iand, 1) := by decide +kernel
theorem dX5_withOnePlayerMore_33 : decode cX5_withOnePlayerMore 33 = .ok (.ifCond .eq 14, 3) := by decide +kernel
theorem dX5_withOnePlayerMore_36 : decode cX5_withOnePlayerMore 36 = .ok (.iload_n 2, 1) := by decide +kernel
theorem dX5_withOnePlayerMore_37 : decode cX5_withOnePlayerMore 37 = .ok (.iconst 1, 1) := by decide +kernel
theorem dX5_withOnePlayerMore_38 : decode cX5_withOnePlayerMore 38 = .ok (.iload_n 3, 1) := by decide +kernel
theorem dX5_withOnePlayerMore_39 : decode cX5_withOnePlayerMore 39 = .ok (.iconst 1, 1) := by decide +kernel
theorem dX5_withOnePlayerMore_40 : decode cX5_withOnePlayerMore 40 = .ok (.iload 4, 2) := by decide +kernel
theorem dX5_withOnePlayerMore_42 : decode cX5_withOnePlayerMore 42 = .ok (.ishl, 1) := by decide +kernel
theorem dX5_withOnePlayerMore_43 : decode cX5_withOnePlayerMore 43 = .ok (.ior, 1) := by decide +kernel
theorem dX5_withOnePlayerMore_44 : decode cX5_withOnePlayerMore 44 = .ok (.ishl, 1) := by decide +kernel
theorem dX5_withOnePlayerMore_45 : decode cX5_withOnePlayerMore 45 = .ok (.ior, 1) := by decide +kernel
theorem dX5_withOnePlayerMore_46 : decode cX5_withOnePlayerMore 46 = .ok (.istore_n 2, 1) := by decide +kernel
theorem dX5_withOnePlayerMore_47 : decode cX5_withOnePlayerMore 47 = .ok (.iinc 4 1, 3) := by decide +kernel
theorem dX5_withOnePlayerMore_50 : decode cX5_withOnePlayerMore 50 = .ok (.goto (-29), 3) := by decide +kernel
theorem dX5_withOnePlayerMore_53 : decode cX5_withOnePlayerMore 53 = .ok (.iinc 3 1, 3) := by decide +kernel
theorem dX5_withOnePlayerMore_56 : decode cX5_withOnePlayerMore 56 = .ok (.goto (-52), 3) := by decide +kernel
theorem dX5_withOnePlayerMore_59 : decode cX5_withOnePlayerMore 59 = .ok (.iload_n 2, 1) := by decide +kernel
theorem dX5_withOnePlayerMore_60 : decode cX5_withOnePlayerMore 60 = .ok (.ireturn, 1) := by decide +kernel
theorem dX5_mostParts_0 : decode cX5_mostParts 0 = .ok (.iconst 0, 1) := by decide +kernel
theorem dX5_mostParts_1 : decode cX5_mostParts 1 = .ok (.istore_n 1, 1) := by decide +kernel
theorem dX5_mostParts_2 : decode cX5_mostParts 2 = .ok (.iconst 0, 1) := by decide +kernel
theorem dX5_mostParts_3 : decode cX5_mostParts 3 = .ok (.istore_n 2, 1) := by decide +kernel
theorem dX5_mostParts_4 : decode cX5_mostParts 4 = .ok (.iload_n 2, 1) := by decide +kernel
theorem dX5_mostParts_5 : decode cX5_mostParts 5 = .ok (.bipush 15, 2) := by decide +kernel
theorem dX5_mostParts_7 : decode cX5_mostParts 7 = .ok (.if_icmp .gt 26, 3) := by decide +kernel
theorem dX5_mostParts_10 : decode cX5_mostParts 10 = .ok (.iload_n 0, 1) := by decide +kernel
theorem dX5_mostParts_11 : decode cX5_mostParts 11 = .ok (.iload_n 2, 1) := by decide +kernel
theorem dX5_mostParts_12 : decode cX5_mostParts 12 = .ok (.ishr, 1) := by decide +kernel
theorem dX5_mostParts_13 : decode cX5_mostParts 13 = .ok (.iconst 1, 1) := by decide +kernel
theorem dX5_mostParts_14 : decode cX5_mostParts 14 = .ok (.iand, 1) := by decide +kernel
theorem dX5_mostParts_15 : decode cX5_mostParts 15 = .ok (.ifCond .eq 12, 3) := by decide +kernel
theorem dX5_mostParts_18 : decode cX5_mostParts 18 = .ok (.iload_n 1, 1) := by decide +kernel
theorem dX5_mostParts_19 : decode cX5_mostParts 19 = .ok (.iload_n 2, 1) := by decide +kernel
theorem dX5_mostParts_20 : decode cX5_mostParts 20 = .ok (.invokestatic 310, 3) := by decide +kernel
theorem dX5_mostParts_23 : decode cX5_mostParts 23 = .ok (.invokestatic 315, 3) := by decide +kernel
theorem dX5_mostParts_26 : decode cX5_mostParts 26 = .ok (.istore_n 1, 1) := by decide +kernel
theorem dX5_mostParts_27 : decode cX5_mostParts 27 = .ok (.iinc 2 1, 3) := by decide +kernel
theorem dX5_mostParts_30 : decode cX5_mostParts 30 = .ok (.goto (-26), 3) := by decide +kernel
theorem dX5_mostParts_33 : decode cX5_mostParts 33 = .ok (.iload_n 1, 1) := by decide +kernel
theorem dX5_mostParts_34 : decode cX5_mostParts 34 = .ok (.ireturn, 1) := by decide +kernel
end
section
theorem dX6_init_0 : decode cX6_init 0 = .ok (.aload_n 0, 1) := by decide +kernel
theorem dX6_init_1 : decode cX6_init 1 = .ok (.invokespecial 1, 3) := by decide +kernel
theorem dX6_init_4 : decode cX6_init 4 = .ok (.aload_n 0, 1) := by decide +kernel
theorem dX6_init_5 : decode cX6_init 5 = .ok (.iconst 4, 1) := by decide +kernel
theorem dX6_init_6 : decode cX6_init 6 = .ok (.newarray .int, 2) := by decide +kernel
theorem dX6_init_8 : decode cX6_init 8 = .ok (.putfield 7, 3) := by decide +kernel
theorem dX6_init_11 : decode cX6_init 11 = .ok (.aload_n 0, 1) := by decide +kernel
theorem dX6_init_12 : decode cX6_init 12 = .ok (.bipush 6, 2) := by decide +kernel
theorem dX6_init_14 : decode cX6_init 14 = .ok (.newarray .int, 2) := by decide +kernel
theorem dX6_init_16 : decode cX6_init 16 = .ok (.putfield 13, 3) := by decide +kernel
theorem dX6_init_19 : decode cX6_init 19 = .ok (.aload_n 0, 1) := by decide +kernel
theorem dX6_init_20 : decode cX6_init 20 = .ok (.bipush 6, 2) := by decide +kernel
theorem dX6_init_22 : decode cX6_init 22 = .ok (.newarray .int, 2) := by decide +kernel
theorem dX6_init_24 : decode cX6_init 24 = .ok (.putfield 16, 3) := by decide +kernel
theorem dX6_init_27 : decode cX6_init 27 = .ok (.aload_n 0, 1) := by decide +kernel
theorem dX6_init_28 : decode cX6_init 28 = .ok (.sipush 390, 3) := by decide +kernel
theorem dX6_init_31 : decode cX6_init 31 = .ok (.newarray .int, 2) := by decide +kernel
theorem dX6_init_33 : decode cX6_init 33 = .ok (.putfield 19, 3) := by decide +kernel
theorem dX6_init_36 : decode cX6_init 36 = .ok (.aload_n 0, 1) := by decide +kernel
theorem dX6_init_37 : decode cX6_init 37 = .ok (.iconst (-1), 1) := by decide +kernel
theorem dX6_init_38 : decode cX6_init 38 = .ok (.putfield 22, 3) := by decide +kernel
theorem dX6_init_41 : decode cX6_init 41 = .ok (.aload_n 0, 1) := by decide +kernel
theorem dX6_init_42 : decode cX6_init 42 = .ok (.iconst 4, 1) := by decide +kernel
theorem dX6_init_43 : decode cX6_init 43 = .ok (.newarray .long, 2) := by decide +kernel
theorem dX6_init_45 : decode cX6_init 45 = .ok (.putfield 26, 3) := by decide +kernel
theorem dX6_init_48 : decode cX6_init 48 = .ok (.aload_n 0, 1) := by decide +kernel
theorem dX6_init_49 : decode cX6_init 49 = .ok (.bipush 32, 2) := by decide +kernel
theorem dX6_init_51 : decode cX6_init 51 = .ok (.newarray .int, 2) := by decide +kernel
theorem dX6_init_53 : decode cX6_init 53 = .ok (.putfield 30, 3) := by decide +kernel
theorem dX6_init_56 : decode cX6_init 56 = .ok (.aload_n 0, 1) := by decide +kernel
theorem dX6_init_57 : decode cX6_init 57 = .ok (.iconst 4, 1) := by decide +kernel
theorem dX6_init_58 : decode cX6_init 58 = .ok (.newarray .int, 2) := by decide +kernel
theorem dX6_init_60 : decode cX6_init 60 = .ok (.putfield 33, 3) := by decide +kernel
theorem dX6_init_63 : decode cX6_init 63 = .ok (.aload_n 0, 1) := by decide +kernel
theorem dX6_init_64 : decode cX6_init 64 = .ok (.bipush 8, 2) := by decide +kernel
theorem dX6_init_66 : decode cX6_init 66 = .ok (.newarray .int, 2) := by decide +kernel
theorem dX6_init_68 : decode cX6_init 68 = .ok (.putfield 36, 3) := by decide +kernel
theorem dX6_init_71 : decode cX6_init 71 = .ok (.aload_n 0, 1) := by decide +kernel
theorem dX6_init_72 : decode cX6_init 72 = .ok (.bipush 48, 2) := by decide +kernel
theorem dX6_init_74 : decode cX6_init 74 = .ok (.newarray .boolean, 2) := by decide +kernel
theorem dX6_init_76 : decode cX6_init 76 = .ok (.putfield 39, 3) := by decide +kernel
theorem dX6_init_79 : decode cX6_init 79 = .ok (.aload_n 0, 1) := by decide +kernel
theorem dX6_init_80 : decode cX6_init 80 = .ok (.sipush 3120, 3) := by decide +kernel
theorem dX6_init_83 : decode cX6_init 83 = .ok (.newarray .int, 2) := by decide +kernel
theorem dX6_init_85 : decode cX6_init 85 = .ok (.putfield 43, 3) := by decide +kernel
theorem dX6_init_88 : decode cX6_init 88 = .ok (.iconst 0, 1) := by decide +kernel
theorem dX6_init_89 : decode cX6_init 89 = .ok (.istore_n 1, 1) := by decide +kernel
theorem dX6_init_90 : decode cX6_init 90 = .ok (.iload_n 1, 1) := by decide +kernel
theorem dX6_init_91 : decode cX6_init 91 = .ok (.bipush 32, 2) := by decide +kernel
theorem dX6_init_93 : decode cX6_init 93 = .ok (.if_icmp .ge 17, 3) := by decide +kernel
theorem dX6_init_96 : decode cX6_init 96 = .ok (.aload_n 0, 1) := by decide +kernel
theorem dX6_init_97 : decode cX6_init 97 = .ok (.getfield 30, 3) := by decide +kernel
theorem dX6_init_100 : decode cX6_init 100 = .ok (.iload_n 1, 1) := by decide +kernel
theorem dX6_init_101 : decode cX6_init 101 = .ok (.ldc 46, 2) := by decide +kernel
theorem dX6_init_103 : decode cX6_init 103 = .ok (.iastore, 1) := by decide +kernel
theorem dX6_init_104 : decode cX6_init 104 = .ok (.iinc 1 1, 3) := by decide +kernel
theorem dX6_init_107 : decode cX6_init 107 = .ok (.goto (-17), 3) := by decide +kernel
theorem dX6_init_110 : decode cX6_init 110 = .ok (.return_, 1) := by decide +kernel
theorem dX6_thrown_0 : decode cX6_thrown 0 = .ok (.aload_n 0, 1) := by decide +kernel
theorem dX6_thrown_1 : decode cX6_thrown 1 = .ok (.getfield 47, 3) := by decide +kernel
theorem dX6_thrown_4 : decode cX6_thrown 4 = .ok (.ireturn, 1) := by decide +kernel
theorem dX6_in_0 : decode cX6_in 0 = .ok (.iload_n 0, 1) := by decide +kernel
theorem dX6_in_1 : decode cX6_in 1 = .ok (.iload_n 1, 1) := by decide +kernel
theorem dX6_in_2 : decode cX6_in 2 = .ok (.if_icmp .lt 12, 3) := by decide +kernel
theorem dX6_in_5 : decode cX6_in 5 = .ok (.iload_n 0, 1) := by decide +kernel
theorem dX6_in_6 : decode cX6_in 6 = .ok (.iload_n 2, 1) := by decide +kernel
theorem dX6_in_7 : decode cX6_in 7 = .ok (.if_icmp .gt 7, 3) := by decide +kernel
theorem dX6_in_10 : decode cX6_in 10 = .ok (.iconst 1, 1) := by decide +kernel
theorem dX6_in_11 : decode cX6_in 11 = .ok (.goto 4, 3) := by decide +kernel
theorem dX6_in_14 : decode cX6_in 14 = .ok (.iconst 0, 1) := by decide +kernel
theorem dX6_in_15 : decode cX6_in 15 = .ok (.ireturn, 1) := by decide +kernel
theorem dX6_goes_0 : decode cX6_goes 0 = .ok (.aload_n 0, 1) := by decide +kernel
theorem dX6_goes_1 : decode cX6_goes 1 = .ok (.iload_n 1, 1) := by decide +kernel
theorem dX6_goes_2 : decode cX6_goes 2 = .ok (.ifCond .ne 7, 3) := by decide +kernel
theorem dX6_goes_5 : decode cX6_goes 5 = .ok (.iconst 1, 1) := by decide +kernel
theorem dX6_goes_6 : decode cX6_goes 6 = .ok (.goto 20, 3) := by decide +kernel
theorem dX6_goes_9 : decode cX6_goes 9 = .ok (.iload_n 2, 1) := by decide +kernel
theorem dX6_goes_10 : decode cX6_goes 10 = .ok (.ifCond .ne 7, 3) := by decide +kernel
theorem dX6_goes_13 : decode cX6_goes 13 = .ok (.iconst 2, 1) := by decide +kernel
theorem dX6_goes_14 : decode cX6_goes 14 = .ok (.goto 12, 3) := by decide +kernel
theorem dX6_goes_17 : decode cX6_goes 17 = .ok (.iload_n 3, 1) := by decide +kernel
theorem dX6_goes_18 : decode cX6_goes 18 = .ok (.ifCond .eq 7, 3) := by decide +kernel
theorem dX6_goes_21 : decode cX6_goes 21 = .ok (.iconst 0, 1) := by decide +kernel
theorem dX6_goes_22 : decode cX6_goes 22 = .ok (.goto 4, 3) := by decide +kernel
theorem dX6_goes_25 : decode cX6_goes 25 = .ok (.iconst 3, 1) := by decide +kernel
theorem dX6_goes_26 : decode cX6_goes 26 = .ok (.putfield 47, 3) := by decide +kernel
theorem dX6_goes_29 : decode cX6_goes 29 = .ok (.aload_n 0, 1) := by decide +kernel
theorem dX6_goes_30 : decode cX6_goes 30 = .ok (.getfield 47, 3) := by decide +kernel
theorem dX6_goes_33 : decode cX6_goes 33 = .ok (.ifCond .ne 7, 3) := by decide +kernel
theorem dX6_goes_36 : decode cX6_goes 36 = .ok (.iconst 1, 1) := by decide +kernel
theorem dX6_goes_37 : decode cX6_goes 37 = .ok (.goto 4, 3) := by decide +kernel
theorem dX6_goes_40 : decode cX6_goes 40 = .ok (.iconst 0, 1) := by decide +kernel
theorem dX6_goes_41 : decode cX6_goes 41 = .ok (.ireturn, 1) := by decide +kernel
theorem dX6_isForm_0 : decode cX6_isForm 0 = .ok (.iload_n 1, 1) := by decide +kernel
theorem dX6_isForm_1 : decode cX6_isForm 1 = .ok (.iconst 0, 1) := by decide +kernel
theorem dX6_isForm_2 : decode cX6_isForm 2 = .ok (.aload_n 0, 1) := by decide +kernel
theorem dX6_isForm_3 : decode cX6_isForm 3 = .ok (.getfield 50, 3) := by decide +kernel
theorem dX6_isForm_6 : decode cX6_isForm 6 = .ok (.iconst 1, 1) := by decide +kernel
theorem dX6_isForm_7 : decode cX6_isForm 7 = .ok (.isub, 1) := by decide +kernel
theorem dX6_isForm_8 : decode cX6_isForm 8 = .ok (.invokestatic 53, 3) := by decide +kernel
theorem dX6_isForm_11 : decode cX6_isForm 11 = .ok (.ireturn, 1) := by decide +kernel
theorem dX6_isPiece_0 : decode cX6_isPiece 0 = .ok (.iload_n 1, 1) := by decide +kernel
theorem dX6_isPiece_1 : decode cX6_isPiece 1 = .ok (.iconst 0, 1) := by decide +kernel
theorem dX6_isPiece_2 : decode cX6_isPiece 2 = .ok (.aload_n 0, 1) := by decide +kernel
theorem dX6_isPiece_3 : decode cX6_isPiece 3 = .ok (.getfield 57, 3) := by decide +kernel
theorem dX6_isPiece_6 : decode cX6_isPiece 6 = .ok (.iconst 1, 1) := by decide +kernel
theorem dX6_isPiece_7 : decode cX6_isPiece 7 = .ok (.isub, 1) := by decide +kernel
theorem dX6_isPiece_8 : decode cX6_isPiece 8 = .ok (.invokestatic 53, 3) := by decide +kernel
theorem dX6_isPiece_11 : decode cX6_isPiece 11 = .ok (.ireturn, 1) := by decide +kernel
theorem dX6_lengthOf_0 : decode cX6_lengthOf 0 = .ok (.aload_n 0, 1) := by decide +kernel
theorem dX6_lengthOf_1 : decode cX6_lengthOf 1 = .ok (.getfield 7, 3) := by decide +kernel
theorem dX6_lengthOf_4 : decode cX6_lengthOf 4 = .ok (.aload_n 0, 1) := by decide +kernel
theorem dX6_lengthOf_5 : decode cX6_lengthOf 5 = .ok (.getfield 13, 3) := by decide +kernel
theorem dX6_lengthOf_8 : decode cX6_lengthOf 8 = .ok (.iload_n 1, 1) := by decide +kernel
theorem dX6_lengthOf_9 : decode cX6_lengthOf 9 = .ok (.iaload, 1) := by decide +kernel
theorem dX6_lengthOf_10 : decode cX6_lengthOf 10 = .ok (.iaload, 1) := by decide +kernel
theorem dX6_lengthOf_11 : decode cX6_lengthOf 11 = .ok (.ireturn, 1) := by decide +kernel
theorem dX6_isPlace_0 : decode cX6_isPlace 0 = .ok (.aload_n 0, 1) := by decide +kernel
theorem dX6_isPlace_1 : decode cX6_isPlace 1 = .ok (.iload_n 1, 1) := by decide +kernel
theorem dX6_isPlace_2 : decode cX6_isPlace 2 = .ok (.invokevirtual 60, 3) := by decide +kernel
theorem dX6_isPlace_5 : decode cX6_isPlace 5 = .ok (.ifCond .eq 20, 3) := by decide +kernel
theorem dX6_isPlace_8 : decode cX6_isPlace 8 = .ok (.iload_n 2, 1) := by decide +kernel
theorem dX6_isPlace_9 : decode cX6_isPlace 9 = .ok (.iconst 1, 1) := by decide +kernel
theorem dX6_isPlace_10 : decode cX6_isPlace 10 = .ok (.aload_n 0, 1) := by decide +kernel
theorem dX6_isPlace_11 : decode cX6_isPlace 11 = .ok (.iload_n 1, 1) := by decide +kernel
theorem dX6_isPlace_12 : decode cX6_isPlace 12 = .ok (.invokevirtual 64, 3) := by decide +kernel
theorem dX6_isPlace_15 : decode cX6_isPlace 15 = .ok (.invokestatic 53, 3) := by decide +kernel
theorem dX6_isPlace_18 : decode cX6_isPlace 18 = .ok (.ifCond .eq 7, 3) := by decide +kernel
theorem dX6_isPlace_21 : decode cX6_isPlace 21 = .ok (.iconst 1, 1) := by decide +kernel
theorem dX6_isPlace_22 : decode cX6_isPlace 22 = .ok (.goto 4, 3) := by decide +kernel
theorem dX6_isPlace_25 : decode cX6_isPlace 25 = .ok (.iconst 0, 1) := by decide +kernel
theorem dX6_isPlace_26 : decode cX6_isPlace 26 = .ok (.ireturn, 1) := by decide +kernel
theorem dX6_isPart_0 : decode cX6_isPart 0 = .ok (.iload_n 0, 1) := by decide +kernel
theorem dX6_isPart_1 : decode cX6_isPart 1 = .ok (.iconst 0, 1) := by decide +kernel
theorem dX6_isPart_2 : decode cX6_isPart 2 = .ok (.iconst 3, 1) := by decide +kernel
theorem dX6_isPart_3 : decode cX6_isPart 3 = .ok (.invokestatic 53, 3) := by decide +kernel
theorem dX6_isPart_6 : decode cX6_isPart 6 = .ok (.ireturn, 1) := by decide +kernel
theorem dX6_isPlayer_0 : decode cX6_isPlayer 0 = .ok (.iload_n 1, 1) := by decide +kernel
theorem dX6_isPlayer_1 : decode cX6_isPlayer 1 = .ok (.iconst 0, 1) := by decide +kernel
theorem dX6_isPlayer_2 : decode cX6_isPlayer 2 = .ok (.aload_n 0, 1) := by decide +kernel
theorem dX6_isPlayer_3 : decode cX6_isPlayer 3 = .ok (.getfield 68, 3) := by decide +kernel
theorem dX6_isPlayer_6 : decode cX6_isPlayer 6 = .ok (.iconst 1, 1) := by decide +kernel
theorem dX6_isPlayer_7 : decode cX6_isPlayer 7 = .ok (.isub, 1) := by decide +kernel
theorem dX6_isPlayer_8 : decode cX6_isPlayer 8 = .ok (.invokestatic 53, 3) := by decide +kernel
theorem dX6_isPlayer_11 : decode cX6_isPlayer 11 = .ok (.ireturn, 1) := by decide +kernel
theorem dX6_lesser_0 : decode cX6_lesser 0 = .ok (.iload_n 0, 1) := by decide +kernel
theorem dX6_lesser_1 : decode cX6_lesser 1 = .ok (.iload_n 1, 1) := by decide +kernel
theorem dX6_lesser_2 : decode cX6_lesser 2 = .ok (.if_icmp .ge 7, 3) := by decide +kernel
theorem dX6_lesser_5 : decode cX6_lesser 5 = .ok (.iload_n 0, 1) := by decide +kernel
theorem dX6_lesser_6 : decode cX6_lesser 6 = .ok (.goto 4, 3) := by decide +kernel
theorem dX6_lesser_9 : decode cX6_lesser 9 = .ok (.iload_n 1, 1) := by decide +kernel
theorem dX6_lesser_10 : decode cX6_lesser 10 = .ok (.ireturn, 1) := by decide +kernel
theorem dX6_form_0 : decode cX6_form 0 = .ok (.aload_n 0, 1) := by decide +kernel
theorem dX6_form_1 : decode cX6_form 1 = .ok (.iload_n 1, 1) := by decide +kernel
theorem dX6_form_2 : decode cX6_form 2 = .ok (.iconst 4, 1) := by decide +kernel
theorem dX6_form_3 : decode cX6_form 3 = .ok (.bipush 64, 2) := by decide +kernel
theorem dX6_form_5 : decode cX6_form 5 = .ok (.invokestatic 53, 3) := by decide +kernel
theorem dX6_form_8 : decode cX6_form 8 = .ok (.ifCond .eq 13, 3) := by decide +kernel
theorem dX6_form_11 : decode cX6_form 11 = .ok (.iload_n 1, 1) := by decide +kernel
theorem dX6_form_12 : decode cX6_form 12 = .ok (.iconst 4, 1) := by decide +kernel
theorem dX6_form_13 : decode cX6_form 13 = .ok (.irem, 1) := by decide +kernel
theorem dX6_form_14 : decode cX6_form 14 = .ok (.ifCond .ne 7, 3) := by decide +kernel
theorem dX6_form_17 : decode cX6_form 17 = .ok (.iconst 1, 1) := by decide +kernel
theorem dX6_form_18 : decode cX6_form 18 = .ok (.goto 4, 3) := by decide +kernel
theorem dX6_form_21 : decode cX6_form 21 = .ok (.iconst 0, 1) := by decide +kernel
theorem dX6_form_22 : decode cX6_form 22 = .ok (.aload_n 0, 1) := by decide +kernel
theorem dX6_form_23 : decode cX6_form 23 = .ok (.getfield 50, 3) := by decide +kernel
theorem dX6_form_26 : decode cX6_form 26 = .ok (.iconst 4, 1) := by decide +kernel
theorem dX6_form_27 : decode cX6_form 27 = .ok (.if_icmp .ge 7, 3) := by decide +kernel
theorem dX6_form_30 : decode cX6_form 30 = .ok (.iconst 1, 1) := by decide +kernel
theorem dX6_form_31 : decode cX6_form 31 = .ok (.goto 4, 3) := by decide +kernel
theorem dX6_form_34 : decode cX6_form 34 = .ok (.iconst 0, 1) := by decide +kernel
theorem dX6_form_35 : decode cX6_form 35 = .ok (.iconst 1, 1) := by decide +kernel
theorem dX6_form_36 : decode cX6_form 36 = .ok (.invokevirtual 71, 3) := by decide +kernel
theorem dX6_form_39 : decode cX6_form 39 = .ok (.ifCond .ne 5, 3) := by decide +kernel
theorem dX6_form_42 : decode cX6_form 42 = .ok (.iconst 0, 1) := by decide +kernel
theorem dX6_form_43 : decode cX6_form 43 = .ok (.ireturn, 1) := by decide +kernel
theorem dX6_form_44 : decode cX6_form 44 = .ok (.aload_n 0, 1) := by decide +kernel
theorem dX6_form_45 : decode cX6_form 45 = .ok (.getfield 7, 3) := by decide +kernel
theorem dX6_form_48 : decode cX6_form 48 = .ok (.aload_n 0, 1) := by decide +kernel
theorem dX6_form_49 : decode cX6_form 49 = .ok (.getfield 50, 3) := by decide +kernel
theorem dX6_form_52 : decode cX6_form 52 = .ok (.iload_n 1, 1) := by decide +kernel
theorem dX6_form_53 : decode cX6_form 53 = .ok (.iastore, 1) := by decide +kernel
theorem dX6_form_54 : decode cX6_form 54 = .ok (.aload_n 0, 1) := by decide +kernel
theorem dX6_form_55 : decode cX6_form 55 = .ok (.dup, 1) := by decide +kernel
theorem dX6_form_56 : decode cX6_form 56 = .ok (.getfield 50, 3) := by decide +kernel
theorem dX6_form_59 : decode cX6_form 59 = .ok (.iconst 1, 1) := by decide +kernel
theorem dX6_form_60 : decode cX6_form 60 = .ok (.iadd, 1) := by decide +kernel
theorem dX6_form_61 : decode cX6_form 61 = .ok (.putfield 50, 3) := by decide +kernel
theorem dX6_form_64 : decode cX6_form 64 = .ok (.aload_n 0, 1) := by decide +kernel
theorem dX6_form_65 : decode cX6_form 65 = .ok (.getfield 50, 3) := by decide +kernel
theorem dX6_form_68 : decode cX6_form 68 = .ok (.iconst 1, 1) := by decide +kernel
theorem dX6_form_69 : decode cX6_form 69 = .ok (.isub, 1) := by decide +kernel
theorem dX6_form_70 : decode cX6_form 70 = .ok (.ireturn, 1) := by decide +kernel
theorem dX6_depth_0 : decode cX6_depth 0 = .ok (.aload_n 0, 1) := by decide +kernel
theorem dX6_depth_1 : decode cX6_depth 1 = .ok (.aload_n 0, 1) := by decide +kernel
theorem dX6_depth_2 : decode cX6_depth 2 = .ok (.iload_n 1, 1) := by decide +kernel
theorem dX6_depth_3 : decode cX6_depth 3 = .ok (.invokevirtual 75, 3) := by decide +kernel
theorem dX6_depth_6 : decode cX6_depth 6 = .ok (.ifCond .eq 33, 3) := by decide +kernel
theorem dX6_depth_9 : decode cX6_depth 9 = .ok (.iload_n 2, 1) := by decide +kernel
theorem dX6_depth_10 : decode cX6_depth 10 = .ok (.iconst 1, 1) := by decide +kernel
theorem dX6_depth_11 : decode cX6_depth 11 = .ok (.aload_n 0, 1) := by decide +kernel
theorem dX6_depth_12 : decode cX6_depth 12 = .ok (.getfield 7, 3) := by decide +kernel
theorem dX6_depth_15 : decode cX6_depth 15 = .ok (.aload_n 0, 1) := by decide +kernel
theorem dX6_depth_16 : decode cX6_depth 16 = .ok (.iload_n 1, 1) := by decide +kernel
theorem dX6_depth_17 : decode cX6_depth 17 = .ok (.invokevirtual 75, 3) := by decide +kernel
theorem dX6_depth_20 : decode cX6_depth 20 = .ok (.ifCond .eq 7, 3) := by decide +kernel
theorem dX6_depth_23 : decode cX6_depth 23 = .ok (.iload_n 1, 1) := by decide +kernel
theorem dX6_depth_24 : decode cX6_depth 24 = .ok (.goto 4, 3) := by decide +kernel
theorem dX6_depth_27 : decode cX6_depth 27 = .ok (.iconst 0, 1) := by decide +kernel
theorem dX6_depth_28 : decode cX6_depth 28 = .ok (.iaload, 1) := by decide +kernel
theorem dX6_depth_29 : decode cX6_depth 29 = .ok (.invokestatic 53, 3) := by decide +kernel
theorem dX6_depth_32 : decode cX6_depth 32 = .ok (.ifCond .eq 7, 3) := by decide +kernel
theorem dX6_depth_35 : decode cX6_depth 35 = .ok (.iconst 1, 1) := by decide +kernel
theorem dX6_depth_36 : decode cX6_depth 36 = .ok (.goto 4, 3) := by decide +kernel
theorem dX6_depth_39 : decode cX6_depth 39 = .ok (.iconst 0, 1) := by decide +kernel
theorem dX6_depth_40 : decode cX6_depth 40 = .ok (.iconst 1, 1) := by decide +kernel
theorem dX6_depth_41 : decode cX6_depth 41 = .ok (.iconst 1, 1) := by decide +kernel
theorem dX6_depth_42 : decode cX6_depth 42 = .ok (.invokevirtual 71, 3) := by decide +kernel
theorem dX6_depth_45 : decode cX6_depth 45 = .ok (.ifCond .ne 5, 3) := by decide +kernel
theorem dX6_depth_48 : decode cX6_depth 48 = .ok (.iconst 0, 1) := by decide +kernel
theorem dX6_depth_49 : decode cX6_depth 49 = .ok (.ireturn, 1) := by decide +kernel
theorem dX6_depth_50 : decode cX6_depth 50 = .ok (.iconst 0, 1) := by decide +kernel
theorem dX6_depth_51 : decode cX6_depth 51 = .ok (.istore_n 3, 1) := by decide +kernel
theorem dX6_depth_52 : decode cX6_depth 52 = .ok (.aload_n 0, 1) := by decide +kernel
theorem dX6_depth_53 : decode cX6_depth 53 = .ok (.getfield 7, 3) := by decide +kernel
theorem dX6_depth_56 : decode cX6_depth 56 = .ok (.iload_n 1, 1) := by decide +kernel
theorem dX6_depth_57 : decode cX6_depth 57 = .ok (.iaload, 1) := by decide +kernel
theorem dX6_depth_58 : decode cX6_depth 58 = .ok (.istore 4, 2) := by decide +kernel
theorem dX6_depth_60 : decode cX6_depth 60 = .ok (.iload_n 2, 1) := by decide +kernel
theorem dX6_depth_61 : decode cX6_depth 61 = .ok (.iload 4, 2) := by decide +kernel
theorem dX6_depth_63 : decode cX6_depth 63 = .ok (.irem, 1) := by decide +kernel
theorem dX6_depth_64 : decode cX6_depth 64 = .ok (.ifCond .eq 22, 3) := by decide +kernel
theorem dX6_depth_67 : decode cX6_depth 67 = .ok (.iload 4, 2) := by decide +kernel
theorem dX6_depth_69 : decode cX6_depth 69 = .ok (.iconst 2, 1) := by decide +kernel
theorem dX6_depth_70 : decode cX6_depth 70 = .ok (.irem, 1) := by decide +kernel
theorem dX6_depth_71 : decode cX6_depth 71 = .ok (.ifCond .ne 15, 3) := by decide +kernel
theorem dX6_depth_74 : decode cX6_depth 74 = .ok (.iload 4, 2) := by decide +kernel
theorem dX6_depth_76 : decode cX6_depth 76 = .ok (.iconst 2, 1) := by decide +kernel
theorem dX6_depth_77 : decode cX6_depth 77 = .ok (.idiv, 1) := by decide +kernel
theorem dX6_depth_78 : decode cX6_depth 78 = .ok (.istore 4, 2) := by decide +kernel
theorem dX6_depth_80 : decode cX6_depth 80 = .ok (.iinc 3 1, 3) := by decide +kernel
theorem dX6_depth_83 : decode cX6_depth 83 = .ok (.goto (-23), 3) := by decide +kernel
theorem dX6_depth_86 : decode cX6_depth 86 = .ok (.iload_n 2, 1) := by decide +kernel
theorem dX6_depth_87 : decode cX6_depth 87 = .ok (.iload 4, 2) := by decide +kernel
theorem dX6_depth_89 : decode cX6_depth 89 = .ok (.irem, 1) := by decide +kernel
theorem dX6_depth_90 : decode cX6_depth 90 = .ok (.ifCond .ne 7, 3) := by decide +kernel
theorem dX6_depth_93 : decode cX6_depth 93 = .ok (.iload_n 3, 1) := by decide +kernel
theorem dX6_depth_94 : decode cX6_depth 94 = .ok (.goto 4, 3) := by decide +kernel
theorem dX6_depth_97 : decode cX6_depth 97 = .ok (.iconst (-1), 1) := by decide +kernel
theorem dX6_depth_98 : decode cX6_depth 98 = .ok (.ireturn, 1) := by decide +kernel
theorem dX6_piece_0 : decode cX6_piece 0 = .ok (.aload_n 0, 1) := by decide +kernel
theorem dX6_piece_1 : decode cX6_piece 1 = .ok (.aload_n 0, 1) := by decide +kernel
theorem dX6_piece_2 : decode cX6_piece 2 = .ok (.iload_n 1, 1) := by decide +kernel
theorem dX6_piece_3 : decode cX6_piece 3 = .ok (.invokevirtual 75, 3) := by decide +kernel
theorem dX6_piece_6 : decode cX6_piece 6 = .ok (.aload_n 0, 1) := by decide +kernel
theorem dX6_piece_7 : decode cX6_piece 7 = .ok (.getfield 57, 3) := by decide +kernel
theorem dX6_piece_10 : decode cX6_piece 10 = .ok (.bipush 6, 2) := by decide +kernel
theorem dX6_piece_12 : decode cX6_piece 12 = .ok (.if_icmp .ge 7, 3) := by decide +kernel
theorem dX6_piece_15 : decode cX6_piece 15 = .ok (.iconst 1, 1) := by decide +kernel
theorem dX6_piece_16 : decode cX6_piece 16 = .ok (.goto 4, 3) := by decide +kernel
theorem dX6_piece_19 : decode cX6_piece 19 = .ok (.iconst 0, 1) := by decide +kernel
theorem dX6_piece_20 : decode cX6_piece 20 = .ok (.iconst 1, 1) := by decide +kernel
theorem dX6_piece_21 : decode cX6_piece 21 = .ok (.invokevirtual 71, 3) := by decide +kernel
theorem dX6_piece_24 : decode cX6_piece 24 = .ok (.ifCond .ne 5, 3) := by decide +kernel
theorem dX6_piece_27 : decode cX6_piece 27 = .ok (.iconst 0, 1) := by decide +kernel
theorem dX6_piece_28 : decode cX6_piece 28 = .ok (.ireturn, 1) := by decide +kernel
theorem dX6_piece_29 : decode cX6_piece 29 = .ok (.aload_n 0, 1) := by decide +kernel
theorem dX6_piece_30 : decode cX6_piece 30 = .ok (.getfield 13, 3) := by decide +kernel
theorem dX6_piece_33 : decode cX6_piece 33 = .ok (.aload_n 0, 1) := by decide +kernel
theorem dX6_piece_34 : decode cX6_piece 34 = .ok (.getfield 57, 3) := by decide +kernel
theorem dX6_piece_37 : decode cX6_piece 37 = .ok (.iload_n 1, 1) := by decide +kernel
theorem dX6_piece_38 : decode cX6_piece 38 = .ok (.iastore, 1) := by decide +kernel
theorem dX6_piece_39 : decode cX6_piece 39 = .ok (.aload_n 0, 1) := by decide +kernel
theorem dX6_piece_40 : decode cX6_piece 40 = .ok (.dup, 1) := by decide +kernel
theorem dX6_piece_41 : decode cX6_piece 41 = .ok (.getfield 57, 3) := by decide +kernel
theorem dX6_piece_44 : decode cX6_piece 44 = .ok (.iconst 1, 1) := by decide +kernel
theorem dX6_piece_45 : decode cX6_piece 45 = .ok (.iadd, 1) := by decide +kernel
theorem dX6_piece_46 : decode cX6_piece 46 = .ok (.putfield 57, 3) := by decide +kernel
theorem dX6_piece_49 : decode cX6_piece 49 = .ok (.aload_n 0, 1) := by decide +kernel
theorem dX6_piece_50 : decode cX6_piece 50 = .ok (.getfield 57, 3) := by decide +kernel
theorem dX6_piece_53 : decode cX6_piece 53 = .ok (.iconst 1, 1) := by decide +kernel
theorem dX6_piece_54 : decode cX6_piece 54 = .ok (.isub, 1) := by decide +kernel
theorem dX6_piece_55 : decode cX6_piece 55 = .ok (.ireturn, 1) := by decide +kernel
theorem dX6_tone_0 : decode cX6_tone 0 = .ok (.aload_n 0, 1) := by decide +kernel
theorem dX6_tone_1 : decode cX6_tone 1 = .ok (.aload_n 0, 1) := by decide +kernel
theorem dX6_tone_2 : decode cX6_tone 2 = .ok (.iload_n 1, 1) := by decide +kernel
theorem dX6_tone_3 : decode cX6_tone 3 = .ok (.iload_n 2, 1) := by decide +kernel
theorem dX6_tone_4 : decode cX6_tone 4 = .ok (.invokevirtual 78, 3) := by decide +kernel
theorem dX6_tone_7 : decode cX6_tone 7 = .ok (.iload_n 3, 1) := by decide +kernel
theorem dX6_tone_8 : decode cX6_tone 8 = .ok (.iconst 0, 1) := by decide +kernel
theorem dX6_tone_9 : decode cX6_tone 9 = .ok (.bipush 7, 2) := by decide +kernel
theorem dX6_tone_11 : decode cX6_tone 11 = .ok (.invokestatic 53, 3) := by decide +kernel
theorem dX6_tone_14 : decode cX6_tone 14 = .ok (.iconst 1, 1) := by decide +kernel
theorem dX6_tone_15 : decode cX6_tone 15 = .ok (.invokevirtual 71, 3) := by decide +kernel
theorem dX6_tone_18 : decode cX6_tone 18 = .ok (.ifCond .ne 5, 3) := by decide +kernel
theorem dX6_tone_21 : decode cX6_tone 21 = .ok (.iconst 0, 1) := by decide +kernel
theorem dX6_tone_22 : decode cX6_tone 22 = .ok (.ireturn, 1) := by decide +kernel
theorem dX6_tone_23 : decode cX6_tone 23 = .ok (.aload_n 0, 1) := by decide +kernel
theorem dX6_tone_24 : decode cX6_tone 24 = .ok (.getfield 19, 3) := by decide +kernel
theorem dX6_tone_27 : decode cX6_tone 27 = .ok (.bipush 65, 2) := by decide +kernel
theorem dX6_tone_29 : decode cX6_tone 29 = .ok (.iload_n 1, 1) := by decide +kernel
theorem dX6_tone_30 : decode cX6_tone 30 = .ok (.imul, 1) := by decide +kernel
theorem dX6_tone_31 : decode cX6_tone 31 = .ok (.iload_n 2, 1) := by decide +kernel
theorem dX6_tone_32 : decode cX6_tone 32 = .ok (.iadd, 1) := by decide +kernel
theorem dX6_tone_33 : decode cX6_tone 33 = .ok (.iaload, 1) := by decide +kernel
theorem dX6_tone_34 : decode cX6_tone 34 = .ok (.istore 4, 2) := by decide +kernel
theorem dX6_tone_36 : decode cX6_tone 36 = .ok (.aload_n 0, 1) := by decide +kernel
theorem dX6_tone_37 : decode cX6_tone 37 = .ok (.getfield 19, 3) := by decide +kernel
theorem dX6_tone_40 : decode cX6_tone 40 = .ok (.bipush 65, 2) := by decide +kernel
theorem dX6_tone_42 : decode cX6_tone 42 = .ok (.iload_n 1, 1) := by decide +kernel
theorem dX6_tone_43 : decode cX6_tone 43 = .ok (.imul, 1) := by decide +kernel
theorem dX6_tone_44 : decode cX6_tone 44 = .ok (.iload_n 2, 1) := by decide +kernel
theorem dX6_tone_45 : decode cX6_tone 45 = .ok (.iadd, 1) := by decide +kernel
theorem dX6_tone_46 : decode cX6_tone 46 = .ok (.iload_n 3, 1) := by decide +kernel
theorem dX6_tone_47 : decode cX6_tone 47 = .ok (.iastore, 1) := by decide +kernel
theorem dX6_tone_48 : decode cX6_tone 48 = .ok (.iload 4, 2) := by decide +kernel
theorem dX6_tone_50 : decode cX6_tone 50 = .ok (.ireturn, 1) := by decide +kernel
theorem dX6_forbid_0 : decode cX6_forbid 0 = .ok (.aload_n 0, 1) := by decide +kernel
theorem dX6_forbid_1 : decode cX6_forbid 1 = .ok (.aload_n 0, 1) := by decide +kernel
theorem dX6_forbid_2 : decode cX6_forbid 2 = .ok (.iload_n 1, 1) := by decide +kernel
theorem dX6_forbid_3 : decode cX6_forbid 3 = .ok (.invokevirtual 60, 3) := by decide +kernel
theorem dX6_forbid_6 : decode cX6_forbid 6 = .ok (.iload_n 2, 1) := by decide +kernel
theorem dX6_forbid_7 : decode cX6_forbid 7 = .ok (.iconst 0, 1) := by decide +kernel
theorem dX6_forbid_8 : decode cX6_forbid 8 = .ok (.bipush 31, 2) := by decide +kernel
theorem dX6_forbid_10 : decode cX6_forbid 10 = .ok (.invokestatic 53, 3) := by decide +kernel
theorem dX6_forbid_13 : decode cX6_forbid 13 = .ok (.iconst 1, 1) := by decide +kernel
theorem dX6_forbid_14 : decode cX6_forbid 14 = .ok (.invokevirtual 71, 3) := by decide +kernel
theorem dX6_forbid_17 : decode cX6_forbid 17 = .ok (.ifCond .ne 5, 3) := by decide +kernel
theorem dX6_forbid_20 : decode cX6_forbid 20 = .ok (.iconst 0, 1) := by decide +kernel
theorem dX6_forbid_21 : decode cX6_forbid 21 = .ok (.ireturn, 1) := by decide +kernel
theorem dX6_forbid_22 : decode cX6_forbid 22 = .ok (.aload_n 0, 1) := by decide +kernel
theorem dX6_forbid_23 : decode cX6_forbid 23 = .ok (.getfield 16, 3) := by decide +kernel
theorem dX6_forbid_26 : decode cX6_forbid 26 = .ok (.iload_n 1, 1) := by decide +kernel
theorem dX6_forbid_27 : decode cX6_forbid 27 = .ok (.iaload, 1) := by decide +kernel
theorem dX6_forbid_28 : decode cX6_forbid 28 = .ok (.istore_n 3, 1) := by decide +kernel
theorem dX6_forbid_29 : decode cX6_forbid 29 = .ok (.aload_n 0, 1) := by decide +kernel
theorem dX6_forbid_30 : decode cX6_forbid 30 = .ok (.getfield 16, 3) := by decide +kernel
theorem dX6_forbid_33 : decode cX6_forbid 33 = .ok (.iload_n 1, 1) := by decide +kernel
theorem dX6_forbid_34 : decode cX6_forbid 34 = .ok (.iload_n 2, 1) := by decide +kernel
theorem dX6_forbid_35 : decode cX6_forbid 35 = .ok (.iastore, 1) := by decide +kernel
theorem dX6_forbid_36 : decode cX6_forbid 36 = .ok (.iload_n 3, 1) := by decide +kernel
theorem dX6_forbid_37 : decode cX6_forbid 37 = .ok (.ireturn, 1) := by decide +kernel
theorem dX6_soundOf_0 : decode cX6_soundOf 0 = .ok (.iload_n 2, 1) := by decide +kernel
theorem dX6_soundOf_1 : decode cX6_soundOf 1 = .ok (.istore_n 3, 1) := by decide +kernel
theorem dX6_soundOf_2 : decode cX6_soundOf 2 = .ok (.iconst 0, 1) := by decide +kernel
theorem dX6_soundOf_3 : decode cX6_soundOf 3 = .ok (.istore 4, 2) := by decide +kernel
theorem dX6_soundOf_5 : decode cX6_soundOf 5 = .ok (.iload 4, 2) := by decide +kernel
theorem dX6_soundOf_7 : decode cX6_soundOf 7 = .ok (.aload_n 0, 1) := by decide +kernel
theorem dX6_soundOf_8 : decode cX6_soundOf 8 = .ok (.iload_n 1, 1) := by decide +kernel
theorem dX6_soundOf_9 : decode cX6_soundOf 9 = .ok (.invokevirtual 64, 3) := by decide +kernel
theorem dX6_soundOf_12 : decode cX6_soundOf 12 = .ok (.if_icmp .ge 40, 3) := by decide +kernel
theorem dX6_soundOf_15 : decode cX6_soundOf 15 = .ok (.aload_n 0, 1) := by decide +kernel
theorem dX6_soundOf_16 : decode cX6_soundOf 16 = .ok (.getfield 19, 3) := by decide +kernel
theorem dX6_soundOf_19 : decode cX6_soundOf 19 = .ok (.bipush 65, 2) := by decide +kernel
theorem dX6_soundOf_21 : decode cX6_soundOf 21 = .ok (.iload_n 1, 1) := by decide +kernel
theorem dX6_soundOf_22 : decode cX6_soundOf 22 = .ok (.imul, 1) := by decide +kernel
theorem dX6_soundOf_23 : decode cX6_soundOf 23 = .ok (.iload_n 3, 1) := by decide +kernel
theorem dX6_soundOf_24 : decode cX6_soundOf 24 = .ok (.iadd, 1) := by decide +kernel
theorem dX6_soundOf_25 : decode cX6_soundOf 25 = .ok (.iaload, 1) := by decide +kernel
theorem dX6_soundOf_26 : decode cX6_soundOf 26 = .ok (.ifCond .ne 26, 3) := by decide +kernel
theorem dX6_soundOf_29 : decode cX6_soundOf 29 = .ok (.iload_n 3, 1) := by decide +kernel
theorem dX6_soundOf_30 : decode cX6_soundOf 30 = .ok (.iconst 1, 1) := by decide +kernel
theorem dX6_soundOf_31 : decode cX6_soundOf 31 = .ok (.if_icmp .ne 11, 3) := by decide +kernel
theorem dX6_soundOf_34 : decode cX6_soundOf 34 = .ok (.aload_n 0, 1) := by decide +kernel
theorem dX6_soundOf_35 : decode cX6_soundOf 35 = .ok (.iload_n 1, 1) := by decide +kernel
theorem dX6_soundOf_36 : decode cX6_soundOf 36 = .ok (.invokevirtual 64, 3) := by decide +kernel
theorem dX6_soundOf_39 : decode cX6_soundOf 39 = .ok (.goto 6, 3) := by decide +kernel
theorem dX6_soundOf_42 : decode cX6_soundOf 42 = .ok (.iload_n 3, 1) := by decide +kernel
theorem dX6_soundOf_43 : decode cX6_soundOf 43 = .ok (.iconst 1, 1) := by decide +kernel
theorem dX6_soundOf_44 : decode cX6_soundOf 44 = .ok (.isub, 1) := by decide +kernel
theorem dX6_soundOf_45 : decode cX6_soundOf 45 = .ok (.istore_n 3, 1) := by decide +kernel
theorem dX6_soundOf_46 : decode cX6_soundOf 46 = .ok (.iinc 4 1, 3) := by decide +kernel
theorem dX6_soundOf_49 : decode cX6_soundOf 49 = .ok (.goto (-44), 3) := by decide +kernel
theorem dX6_soundOf_52 : decode cX6_soundOf 52 = .ok (.aload_n 0, 1) := by decide +kernel
theorem dX6_soundOf_53 : decode cX6_soundOf 53 = .ok (.getfield 19, 3) := by decide +kernel
theorem dX6_soundOf_56 : decode cX6_soundOf 56 = .ok (.bipush 65, 2) := by decide +kernel
theorem dX6_soundOf_58 : decode cX6_soundOf 58 = .ok (.iload_n 1, 1) := by decide +kernel
theorem dX6_soundOf_59 : decode cX6_soundOf 59 = .ok (.imul, 1) := by decide +kernel
theorem dX6_soundOf_60 : decode cX6_soundOf 60 = .ok (.iload_n 3, 1) := by decide +kernel
theorem dX6_soundOf_61 : decode cX6_soundOf 61 = .ok (.iadd, 1) := by decide +kernel
theorem dX6_soundOf_62 : decode cX6_soundOf 62 = .ok (.iaload, 1) := by decide +kernel
theorem dX6_soundOf_63 : decode cX6_soundOf 63 = .ok (.ireturn, 1) := by decide +kernel
theorem dX6_sounds_0 : decode cX6_sounds 0 = .ok (.aload_n 0, 1) := by decide +kernel
theorem dX6_sounds_1 : decode cX6_sounds 1 = .ok (.aload_n 0, 1) := by decide +kernel
theorem dX6_sounds_2 : decode cX6_sounds 2 = .ok (.iload_n 1, 1) := by decide +kernel
theorem dX6_sounds_3 : decode cX6_sounds 3 = .ok (.iload_n 2, 1) := by decide +kernel
theorem dX6_sounds_4 : decode cX6_sounds 4 = .ok (.invokevirtual 78, 3) := by decide +kernel
theorem dX6_sounds_7 : decode cX6_sounds 7 = .ok (.iconst 1, 1) := by decide +kernel
theorem dX6_sounds_8 : decode cX6_sounds 8 = .ok (.iconst 1, 1) := by decide +kernel
theorem dX6_sounds_9 : decode cX6_sounds 9 = .ok (.invokevirtual 71, 3) := by decide +kernel
theorem dX6_sounds_12 : decode cX6_sounds 12 = .ok (.ifCond .eq 12, 3) := by decide +kernel
theorem dX6_sounds_15 : decode cX6_sounds 15 = .ok (.aload_n 0, 1) := by decide +kernel
theorem dX6_sounds_16 : decode cX6_sounds 16 = .ok (.iload_n 1, 1) := by decide +kernel
theorem dX6_sounds_17 : decode cX6_sounds 17 = .ok (.iload_n 2, 1) := by decide +kernel
theorem dX6_sounds_18 : decode cX6_sounds 18 = .ok (.invokevirtual 82, 3) := by decide +kernel
theorem dX6_sounds_21 : decode cX6_sounds 21 = .ok (.goto 4, 3) := by decide +kernel
theorem dX6_sounds_24 : decode cX6_sounds 24 = .ok (.iconst 0, 1) := by decide +kernel
theorem dX6_sounds_25 : decode cX6_sounds 25 = .ok (.ireturn, 1) := by decide +kernel
theorem dX6_density_0 : decode cX6_density 0 = .ok (.iload_n 0, 1) := by decide +kernel
theorem dX6_density_1 : decode cX6_density 1 = .ok (.ifCond .ne 7, 3) := by decide +kernel
theorem dX6_density_4 : decode cX6_density 4 = .ok (.iconst 1, 1) := by decide +kernel
theorem dX6_density_5 : decode cX6_density 5 = .ok (.goto 17, 3) := by decide +kernel
theorem dX6_density_8 : decode cX6_density 8 = .ok (.iload_n 0, 1) := by decide +kernel
theorem dX6_density_9 : decode cX6_density 9 = .ok (.iconst 2, 1) := by decide +kernel
theorem dX6_density_10 : decode cX6_density 10 = .ok (.if_icmp .ne 9, 3) := by decide +kernel
theorem dX6_density_13 : decode cX6_density 13 = .ok (.iconst 1, 1) := by decide +kernel
theorem dX6_density_14 : decode cX6_density 14 = .ok (.iload_n 1, 1) := by decide +kernel
theorem dX6_density_15 : decode cX6_density 15 = .ok (.ishl, 1) := by decide +kernel
theorem dX6_density_16 : decode cX6_density 16 = .ok (.goto 6, 3) := by decide +kernel
theorem dX6_density_19 : decode cX6_density 19 = .ok (.iconst 2, 1) := by decide +kernel
theorem dX6_density_20 : decode cX6_density 20 = .ok (.iload_n 1, 1) := by decide +kernel
theorem dX6_density_21 : decode cX6_density 21 = .ok (.ishl, 1) := by decide +kernel
theorem dX6_density_22 : decode cX6_density 22 = .ok (.ireturn, 1) := by decide +kernel
theorem dX6_strikes_0 : decode cX6_strikes 0 = .ok (.iload_n 0, 1) := by decide +kernel
theorem dX6_strikes_1 : decode cX6_strikes 1 = .ok (.ifCond .ne 14, 3) := by decide +kernel
theorem dX6_strikes_4 : decode cX6_strikes 4 = .ok (.iload_n 2, 1) := by decide +kernel
theorem dX6_strikes_5 : decode cX6_strikes 5 = .ok (.ifCond .ne 7, 3) := by decide +kernel
theorem dX6_strikes_8 : decode cX6_strikes 8 = .ok (.iload_n 3, 1) := by decide +kernel
theorem dX6_strikes_9 : decode cX6_strikes 9 = .ok (.goto 5, 3) := by decide +kernel
theorem dX6_strikes_12 : decode cX6_strikes 12 = .ok (.iload 4, 2) := by decide +kernel
theorem dX6_strikes_14 : decode cX6_strikes 14 = .ok (.ireturn, 1) := by decide +kernel
theorem dX6_strikes_15 : decode cX6_strikes 15 = .ok (.iload_n 0, 1) := by decide +kernel
theorem dX6_strikes_16 : decode cX6_strikes 16 = .ok (.iconst 1, 1) := by decide +kernel
theorem dX6_strikes_17 : decode cX6_strikes 17 = .ok (.if_icmp .ne 17, 3) := by decide +kernel
theorem dX6_strikes_20 : decode cX6_strikes 20 = .ok (.iload_n 2, 1) := by decide +kernel
theorem dX6_strikes_21 : decode cX6_strikes 21 = .ok (.iconst 4, 1) := by decide +kernel
theorem dX6_strikes_22 : decode cX6_strikes 22 = .ok (.irem, 1) := by decide +kernel
theorem dX6_strikes_23 : decode cX6_strikes 23 = .ok (.iconst 2, 1) := by decide +kernel
theorem dX6_strikes_24 : decode cX6_strikes 24 = .ok (.if_icmp .ge 7, 3) := by decide +kernel
theorem dX6_strikes_27 : decode cX6_strikes 27 = .ok (.iload_n 3, 1) := by decide +kernel
theorem dX6_strikes_28 : decode cX6_strikes 28 = .ok (.goto 5, 3) := by decide +kernel
theorem dX6_strikes_31 : decode cX6_strikes 31 = .ok (.iload 4, 2) := by decide +kernel
theorem dX6_strikes_33 : decode cX6_strikes 33 = .ok (.ireturn, 1) := by decide +kernel
theorem dX6_strikes_34 : decode cX6_strikes 34 = .ok (.iload_n 0, 1) := by decide +kernel
theorem dX6_strikes_35 : decode cX6_strikes 35 = .ok (.iconst 2, 1) := by decide +kernel
theorem dX6_strikes_36 : decode cX6_strikes 36 = .ok (.if_icmp .eq 12, 3) := by decide +kernel
theorem dX6_strikes_39 : decode cX6_strikes 39 = .ok (.iload_n 3, 1) := by decide +kernel
theorem dX6_strikes_40 : decode cX6_strikes 40 = .ok (.ifCond .eq 8, 3) := by decide +kernel
theorem dX6_strikes_43 : decode cX6_strikes 43 = .ok (.iload 4, 2) := by decide +kernel
theorem dX6_strikes_45 : decode cX6_strikes 45 = .ok (.ifCond .ne 16, 3) := by decide +kernel
theorem dX6_strikes_48 : decode cX6_strikes 48 = .ok (.iload_n 2, 1) := by decide +kernel
theorem dX6_strikes_49 : decode cX6_strikes 49 = .ok (.iconst 2, 1) := by decide +kernel
theorem dX6_strikes_50 : decode cX6_strikes 50 = .ok (.irem, 1) := by decide +kernel
theorem dX6_strikes_51 : decode cX6_strikes 51 = .ok (.ifCond .ne 7, 3) := by decide +kernel
theorem dX6_strikes_54 : decode cX6_strikes 54 = .ok (.iload_n 3, 1) := by decide +kernel
theorem dX6_strikes_55 : decode cX6_strikes 55 = .ok (.goto 5, 3) := by decide +kernel
theorem dX6_strikes_58 : decode cX6_strikes 58 = .ok (.iload 4, 2) := by decide +kernel
theorem dX6_strikes_60 : decode cX6_strikes 60 = .ok (.ireturn, 1) := by decide +kernel
theorem dX6_strikes_61 : decode cX6_strikes 61 = .ok (.iload_n 2, 1) := by decide +kernel
theorem dX6_strikes_62 : decode cX6_strikes 62 = .ok (.iconst 2, 1) := by decide +kernel
theorem dX6_strikes_63 : decode cX6_strikes 63 = .ok (.iload_n 1, 1) := by decide +kernel
theorem dX6_strikes_64 : decode cX6_strikes 64 = .ok (.imul, 1) := by decide +kernel
theorem dX6_strikes_65 : decode cX6_strikes 65 = .ok (.iconst 1, 1) := by decide +kernel
theorem dX6_strikes_66 : decode cX6_strikes 66 = .ok (.isub, 1) := by decide +kernel
theorem dX6_strikes_67 : decode cX6_strikes 67 = .ok (.if_icmp .ne 6, 3) := by decide +kernel
theorem dX6_strikes_70 : decode cX6_strikes 70 = .ok (.iload 4, 2) := by decide +kernel
theorem dX6_strikes_72 : decode cX6_strikes 72 = .ok (.ireturn, 1) := by decide +kernel
theorem dX6_strikes_73 : decode cX6_strikes 73 = .ok (.iload_n 3, 1) := by decide +kernel
theorem dX6_strikes_74 : decode cX6_strikes 74 = .ok (.iload 4, 2) := by decide +kernel
theorem dX6_strikes_76 : decode cX6_strikes 76 = .ok (.if_icmp .ge 14, 3) := by decide +kernel
theorem dX6_strikes_79 : decode cX6_strikes 79 = .ok (.iload_n 3, 1) := by decide +kernel
theorem dX6_strikes_80 : decode cX6_strikes 80 = .ok (.iload_n 2, 1) := by decide +kernel
theorem dX6_strikes_81 : decode cX6_strikes 81 = .ok (.iadd, 1) := by decide +kernel
theorem dX6_strikes_82 : decode cX6_strikes 82 = .ok (.iload 4, 2) := by decide +kernel
theorem dX6_strikes_84 : decode cX6_strikes 84 = .ok (.invokestatic 86, 3) := by decide +kernel
theorem dX6_strikes_87 : decode cX6_strikes 87 = .ok (.goto 19, 3) := by decide +kernel
theorem dX6_strikes_90 : decode cX6_strikes 90 = .ok (.iload 4, 2) := by decide +kernel
theorem dX6_strikes_92 : decode cX6_strikes 92 = .ok (.iload_n 3, 1) := by decide +kernel
theorem dX6_strikes_93 : decode cX6_strikes 93 = .ok (.iload_n 2, 1) := by decide +kernel
theorem dX6_strikes_94 : decode cX6_strikes 94 = .ok (.isub, 1) := by decide +kernel
theorem dX6_strikes_95 : decode cX6_strikes 95 = .ok (.if_icmp .le 8, 3) := by decide +kernel
theorem dX6_strikes_98 : decode cX6_strikes 98 = .ok (.iload 4, 2) := by decide +kernel
theorem dX6_strikes_100 : decode cX6_strikes 100 = .ok (.goto 6, 3) := by decide +kernel
theorem dX6_strikes_103 : decode cX6_strikes 103 = .ok (.iload_n 3, 1) := by decide +kernel
theorem dX6_strikes_104 : decode cX6_strikes 104 = .ok (.iload_n 2, 1) := by decide +kernel
theorem dX6_strikes_105 : decode cX6_strikes 105 = .ok (.isub, 1) := by decide +kernel
theorem dX6_strikes_106 : decode cX6_strikes 106 = .ok (.ireturn, 1) := by decide +kernel
theorem dX6_stroke_0 : decode cX6_stroke 0 = .ok (.aload_n 0, 1) := by decide +kernel
theorem dX6_stroke_1 : decode cX6_stroke 1 = .ok (.iload_n 1, 1) := by decide +kernel
theorem dX6_stroke_2 : decode cX6_stroke 2 = .ok (.iload_n 3, 1) := by decide +kernel
theorem dX6_stroke_3 : decode cX6_stroke 3 = .ok (.invokevirtual 78, 3) := by decide +kernel
theorem dX6_stroke_6 : decode cX6_stroke 6 = .ok (.ifCond .eq 14, 3) := by decide +kernel
theorem dX6_stroke_9 : decode cX6_stroke 9 = .ok (.iload_n 2, 1) := by decide +kernel
theorem dX6_stroke_10 : decode cX6_stroke 10 = .ok (.invokestatic 89, 3) := by decide +kernel
theorem dX6_stroke_13 : decode cX6_stroke 13 = .ok (.ifCond .eq 7, 3) := by decide +kernel
theorem dX6_stroke_16 : decode cX6_stroke 16 = .ok (.iconst 1, 1) := by decide +kernel
theorem dX6_stroke_17 : decode cX6_stroke 17 = .ok (.goto 4, 3) := by decide +kernel
theorem dX6_stroke_20 : decode cX6_stroke 20 = .ok (.iconst 0, 1) := by decide +kernel
theorem dX6_stroke_21 : decode cX6_stroke 21 = .ok (.istore 6, 2) := by decide +kernel
theorem dX6_stroke_23 : decode cX6_stroke 23 = .ok (.iload 6, 2) := by decide +kernel
theorem dX6_stroke_25 : decode cX6_stroke 25 = .ok (.ifCond .eq 34, 3) := by decide +kernel
theorem dX6_stroke_28 : decode cX6_stroke 28 = .ok (.iload 4, 2) := by decide +kernel
theorem dX6_stroke_30 : decode cX6_stroke 30 = .ok (.iconst 0, 1) := by decide +kernel
theorem dX6_stroke_31 : decode cX6_stroke 31 = .ok (.iconst 3, 1) := by decide +kernel
theorem dX6_stroke_32 : decode cX6_stroke 32 = .ok (.invokestatic 53, 3) := by decide +kernel
theorem dX6_stroke_35 : decode cX6_stroke 35 = .ok (.ifCond .eq 24, 3) := by decide +kernel
theorem dX6_stroke_38 : decode cX6_stroke 38 = .ok (.iload 5, 2) := by decide +kernel
theorem dX6_stroke_40 : decode cX6_stroke 40 = .ok (.iconst 0, 1) := by decide +kernel
theorem dX6_stroke_41 : decode cX6_stroke 41 = .ok (.iload_n 2, 1) := by decide +kernel
theorem dX6_stroke_42 : decode cX6_stroke 42 = .ok (.iload 4, 2) := by decide +kernel
theorem dX6_stroke_44 : decode cX6_stroke 44 = .ok (.invokestatic 92, 3) := by decide +kernel
theorem dX6_stroke_47 : decode cX6_stroke 47 = .ok (.iconst 1, 1) := by decide +kernel
theorem dX6_stroke_48 : decode cX6_stroke 48 = .ok (.isub, 1) := by decide +kernel
theorem dX6_stroke_49 : decode cX6_stroke 49 = .ok (.invokestatic 53, 3) := by decide +kernel
theorem dX6_stroke_52 : decode cX6_stroke 52 = .ok (.ifCond .eq 7, 3) := by decide +kernel
theorem dX6_stroke_55 : decode cX6_stroke 55 = .ok (.iconst 1, 1) := by decide +kernel
theorem dX6_stroke_56 : decode cX6_stroke 56 = .ok (.goto 4, 3) := by decide +kernel
theorem dX6_stroke_59 : decode cX6_stroke 59 = .ok (.iconst 0, 1) := by decide +kernel
theorem dX6_stroke_60 : decode cX6_stroke 60 = .ok (.istore 7, 2) := by decide +kernel
theorem dX6_stroke_62 : decode cX6_stroke 62 = .ok (.aload_n 0, 1) := by decide +kernel
theorem dX6_stroke_63 : decode cX6_stroke 63 = .ok (.iload 6, 2) := by decide +kernel
theorem dX6_stroke_65 : decode cX6_stroke 65 = .ok (.iload 7, 2) := by decide +kernel
theorem dX6_stroke_67 : decode cX6_stroke 67 = .ok (.iconst 1, 1) := by decide +kernel
theorem dX6_stroke_68 : decode cX6_stroke 68 = .ok (.invokevirtual 71, 3) := by decide +kernel
theorem dX6_stroke_71 : decode cX6_stroke 71 = .ok (.ifCond .ne 5, 3) := by decide +kernel
theorem dX6_stroke_74 : decode cX6_stroke 74 = .ok (.iconst 0, 1) := by decide +kernel
theorem dX6_stroke_75 : decode cX6_stroke 75 = .ok (.ireturn, 1) := by decide +kernel
theorem dX6_stroke_76 : decode cX6_stroke 76 = .ok (.iload_n 3, 1) := by decide +kernel
theorem dX6_stroke_77 : decode cX6_stroke 77 = .ok (.iconst 1, 1) := by decide +kernel
theorem dX6_stroke_78 : decode cX6_stroke 78 = .ok (.isub, 1) := by decide +kernel
theorem dX6_stroke_79 : decode cX6_stroke 79 = .ok (.iload_n 3, 1) := by decide +kernel
theorem dX6_stroke_80 : decode cX6_stroke 80 = .ok (.iconst 2, 1) := by decide +kernel
theorem dX6_stroke_81 : decode cX6_stroke 81 = .ok (.irem, 1) := by decide +kernel
theorem dX6_stroke_82 : decode cX6_stroke 82 = .ok (.iadd, 1) := by decide +kernel
theorem dX6_stroke_83 : decode cX6_stroke 83 = .ok (.istore 8, 2) := by decide +kernel
theorem dX6_stroke_85 : decode cX6_stroke 85 = .ok (.aload_n 0, 1) := by decide +kernel
theorem dX6_stroke_86 : decode cX6_stroke 86 = .ok (.iload_n 1, 1) := by decide +kernel
theorem dX6_stroke_87 : decode cX6_stroke 87 = .ok (.iload 8, 2) := by decide +kernel
theorem dX6_stroke_89 : decode cX6_stroke 89 = .ok (.invokevirtual 82, 3) := by decide +kernel
theorem dX6_stroke_92 : decode cX6_stroke 92 = .ok (.istore 9, 2) := by decide +kernel
theorem dX6_stroke_94 : decode cX6_stroke 94 = .ok (.aload_n 0, 1) := by decide +kernel
theorem dX6_stroke_95 : decode cX6_stroke 95 = .ok (.iload_n 1, 1) := by decide +kernel
theorem dX6_stroke_96 : decode cX6_stroke 96 = .ok (.iload 8, 2) := by decide +kernel
theorem dX6_stroke_98 : decode cX6_stroke 98 = .ok (.iconst 1, 1) := by decide +kernel
theorem dX6_stroke_99 : decode cX6_stroke 99 = .ok (.iadd, 1) := by decide +kernel
theorem dX6_stroke_100 : decode cX6_stroke 100 = .ok (.invokevirtual 82, 3) := by decide +kernel
theorem dX6_stroke_103 : decode cX6_stroke 103 = .ok (.istore 10, 2) := by decide +kernel
theorem dX6_stroke_105 : decode cX6_stroke 105 = .ok (.iload_n 2, 1) := by decide +kernel
theorem dX6_stroke_106 : decode cX6_stroke 106 = .ok (.iload 4, 2) := by decide +kernel
theorem dX6_stroke_108 : decode cX6_stroke 108 = .ok (.invokestatic 92, 3) := by decide +kernel
theorem dX6_stroke_111 : decode cX6_stroke 111 = .ok (.istore 11, 2) := by decide +kernel
theorem dX6_stroke_113 : decode cX6_stroke 113 = .ok (.iload_n 2, 1) := by decide +kernel
theorem dX6_stroke_114 : decode cX6_stroke 114 = .ok (.iload 11, 2) := by decide +kernel
theorem dX6_stroke_116 : decode cX6_stroke 116 = .ok (.iload_n 3, 1) := by decide +kernel
theorem dX6_stroke_117 : decode cX6_stroke 117 = .ok (.iload 8, 2) := by decide +kernel
theorem dX6_stroke_119 : decode cX6_stroke 119 = .ok (.if_icmp .ne 8, 3) := by decide +kernel
theorem dX6_stroke_122 : decode cX6_stroke 122 = .ok (.iload 5, 2) := by decide +kernel
theorem dX6_stroke_124 : decode cX6_stroke 124 = .ok (.goto 8, 3) := by decide +kernel
theorem dX6_stroke_127 : decode cX6_stroke 127 = .ok (.iload 11, 2) := by decide +kernel
theorem dX6_stroke_129 : decode cX6_stroke 129 = .ok (.iload 5, 2) := by decide +kernel
theorem dX6_stroke_131 : decode cX6_stroke 131 = .ok (.iadd, 1) := by decide +kernel
theorem dX6_stroke_132 : decode cX6_stroke 132 = .ok (.iload 9, 2) := by decide +kernel
theorem dX6_stroke_134 : decode cX6_stroke 134 = .ok (.iload 10, 2) := by decide +kernel
theorem dX6_stroke_136 : decode cX6_stroke 136 = .ok (.invokestatic 95, 3) := by decide +kernel
theorem dX6_stroke_139 : decode cX6_stroke 139 = .ok (.ireturn, 1) := by decide +kernel
theorem dX6_strokeAnew_0 : decode cX6_strokeAnew 0 = .ok (.aload_n 0, 1) := by decide +kernel
theorem dX6_strokeAnew_1 : decode cX6_strokeAnew 1 = .ok (.iload_n 1, 1) := by decide +kernel
theorem dX6_strokeAnew_2 : decode cX6_strokeAnew 2 = .ok (.iload_n 2, 1) := by decide +kernel
theorem dX6_strokeAnew_3 : decode cX6_strokeAnew 3 = .ok (.iload_n 3, 1) := by decide +kernel
theorem dX6_strokeAnew_4 : decode cX6_strokeAnew 4 = .ok (.iload 4, 2) := by decide +kernel
theorem dX6_strokeAnew_6 : decode cX6_strokeAnew 6 = .ok (.iload 5, 2) := by decide +kernel
theorem dX6_strokeAnew_8 : decode cX6_strokeAnew 8 = .ok (.invokevirtual 99, 3) := by decide +kernel
theorem dX6_strokeAnew_11 : decode cX6_strokeAnew 11 = .ok (.ireturn, 1) := by decide +kernel
theorem dX6_begin_0 : decode cX6_begin 0 = .ok (.aload_n 0, 1) := by decide +kernel
theorem dX6_begin_1 : decode cX6_begin 1 = .ok (.iload_n 1, 1) := by decide +kernel
theorem dX6_begin_2 : decode cX6_begin 2 = .ok (.invokevirtual 60, 3) := by decide +kernel
theorem dX6_begin_5 : decode cX6_begin 5 = .ok (.istore_n 2, 1) := by decide +kernel
theorem dX6_begin_6 : decode cX6_begin 6 = .ok (.aload_n 0, 1) := by decide +kernel
theorem dX6_begin_7 : decode cX6_begin 7 = .ok (.iload_n 2, 1) := by decide +kernel
theorem dX6_begin_8 : decode cX6_begin 8 = .ok (.iload_n 2, 1) := by decide +kernel
theorem dX6_begin_9 : decode cX6_begin 9 = .ok (.ifCond .eq 30, 3) := by decide +kernel
theorem dX6_begin_12 : decode cX6_begin 12 = .ok (.aload_n 0, 1) := by decide +kernel
theorem dX6_begin_13 : decode cX6_begin 13 = .ok (.getfield 102, 3) := by decide +kernel
theorem dX6_begin_16 : decode cX6_begin 16 = .ok (.ifCond .ne 23, 3) := by decide +kernel
theorem dX6_begin_19 : decode cX6_begin 19 = .ok (.aload_n 0, 1) := by decide +kernel
theorem dX6_begin_20 : decode cX6_begin 20 = .ok (.getfield 16, 3) := by decide +kernel
theorem dX6_begin_23 : decode cX6_begin 23 = .ok (.iload_n 1, 1) := by decide +kernel
theorem dX6_begin_24 : decode cX6_begin 24 = .ok (.iaload, 1) := by decide +kernel
theorem dX6_begin_25 : decode cX6_begin 25 = .ok (.aload_n 0, 1) := by decide +kernel
theorem dX6_begin_26 : decode cX6_begin 26 = .ok (.getfield 106, 3) := by decide +kernel
theorem dX6_begin_29 : decode cX6_begin 29 = .ok (.ishr, 1) := by decide +kernel
theorem dX6_begin_30 : decode cX6_begin 30 = .ok (.iconst 1, 1) := by decide +kernel
theorem dX6_begin_31 : decode cX6_begin 31 = .ok (.iand, 1) := by decide +kernel
theorem dX6_begin_32 : decode cX6_begin 32 = .ok (.ifCond .ne 7, 3) := by decide +kernel
theorem dX6_begin_35 : decode cX6_begin 35 = .ok (.iconst 1, 1) := by decide +kernel
theorem dX6_begin_36 : decode cX6_begin 36 = .ok (.goto 4, 3) := by decide +kernel
theorem dX6_begin_39 : decode cX6_begin 39 = .ok (.iconst 0, 1) := by decide +kernel
theorem dX6_begin_40 : decode cX6_begin 40 = .ok (.iconst 1, 1) := by decide +kernel
theorem dX6_begin_41 : decode cX6_begin 41 = .ok (.invokevirtual 71, 3) := by decide +kernel
theorem dX6_begin_44 : decode cX6_begin 44 = .ok (.ifCond .ne 5, 3) := by decide +kernel
theorem dX6_begin_47 : decode cX6_begin 47 = .ok (.iconst 0, 1) := by decide +kernel
theorem dX6_begin_48 : decode cX6_begin 48 = .ok (.ireturn, 1) := by decide +kernel
theorem dX6_begin_49 : decode cX6_begin 49 = .ok (.aload_n 0, 1) := by decide +kernel
theorem dX6_begin_50 : decode cX6_begin 50 = .ok (.iconst 1, 1) := by decide +kernel
theorem dX6_begin_51 : decode cX6_begin 51 = .ok (.putfield 102, 3) := by decide +kernel
theorem dX6_begin_54 : decode cX6_begin 54 = .ok (.aload_n 0, 1) := by decide +kernel
theorem dX6_begin_55 : decode cX6_begin 55 = .ok (.iload_n 1, 1) := by decide +kernel
theorem dX6_begin_56 : decode cX6_begin 56 = .ok (.putfield 22, 3) := by decide +kernel
theorem dX6_begin_59 : decode cX6_begin 59 = .ok (.aload_n 0, 1) := by decide +kernel
theorem dX6_begin_60 : decode cX6_begin 60 = .ok (.iconst 0, 1) := by decide +kernel
theorem dX6_begin_61 : decode cX6_begin 61 = .ok (.putfield 109, 3) := by decide +kernel
theorem dX6_begin_64 : decode cX6_begin 64 = .ok (.aload_n 0, 1) := by decide +kernel
theorem dX6_begin_65 : decode cX6_begin 65 = .ok (.bipush 20, 2) := by decide +kernel
theorem dX6_begin_67 : decode cX6_begin 67 = .ok (.putfield 112, 3) := by decide +kernel
theorem dX6_begin_70 : decode cX6_begin 70 = .ok (.aload_n 0, 1) := by decide +kernel
theorem dX6_begin_71 : decode cX6_begin 71 = .ok (.iconst 0, 1) := by decide +kernel
theorem dX6_begin_72 : decode cX6_begin 72 = .ok (.putfield 115, 3) := by decide +kernel
theorem dX6_begin_75 : decode cX6_begin 75 = .ok (.aload_n 0, 1) := by decide +kernel
theorem dX6_begin_76 : decode cX6_begin 76 = .ok (.iconst 0, 1) := by decide +kernel
theorem dX6_begin_77 : decode cX6_begin 77 = .ok (.putfield 118, 3) := by decide +kernel
theorem dX6_begin_80 : decode cX6_begin 80 = .ok (.aload_n 0, 1) := by decide +kernel
theorem dX6_begin_81 : decode cX6_begin 81 = .ok (.iconst 0, 1) := by decide +kernel
theorem dX6_begin_82 : decode cX6_begin 82 = .ok (.putfield 121, 3) := by decide +kernel
theorem dX6_begin_85 : decode cX6_begin 85 = .ok (.aload_n 0, 1) := by decide +kernel
theorem dX6_begin_86 : decode cX6_begin 86 = .ok (.iconst 0, 1) := by decide +kernel
theorem dX6_begin_87 : decode cX6_begin 87 = .ok (.putfield 124, 3) := by decide +kernel
theorem dX6_begin_90 : decode cX6_begin 90 = .ok (.aload_n 0, 1) := by decide +kernel
theorem dX6_begin_91 : decode cX6_begin 91 = .ok (.dup, 1) := by decide +kernel
theorem dX6_begin_92 : decode cX6_begin 92 = .ok (.getfield 127, 3) := by decide +kernel
theorem dX6_begin_95 : decode cX6_begin 95 = .ok (.iconst 1, 1) := by decide +kernel
theorem dX6_begin_96 : decode cX6_begin 96 = .ok (.iadd, 1) := by decide +kernel
theorem dX6_begin_97 : decode cX6_begin 97 = .ok (.putfield 127, 3) := by decide +kernel
theorem dX6_begin_100 : decode cX6_begin 100 = .ok (.aload_n 0, 1) := by decide +kernel
theorem dX6_begin_101 : decode cX6_begin 101 = .ok (.getfield 127, 3) := by decide +kernel
theorem dX6_begin_104 : decode cX6_begin 104 = .ok (.ireturn, 1) := by decide +kernel
theorem dX6_drum_0 : decode cX6_drum 0 = .ok (.aload_n 0, 1) := by decide +kernel
theorem dX6_drum_1 : decode cX6_drum 1 = .ok (.iload_n 1, 1) := by decide +kernel
theorem dX6_drum_2 : decode cX6_drum 2 = .ok (.iconst 0, 1) := by decide +kernel
theorem dX6_drum_3 : decode cX6_drum 3 = .ok (.iconst 4, 1) := by decide +kernel
theorem dX6_drum_4 : decode cX6_drum 4 = .ok (.invokestatic 53, 3) := by decide +kernel
theorem dX6_drum_7 : decode cX6_drum 7 = .ok (.aload_n 0, 1) := by decide +kernel
theorem dX6_drum_8 : decode cX6_drum 8 = .ok (.getfield 102, 3) := by decide +kernel
theorem dX6_drum_11 : decode cX6_drum 11 = .ok (.iconst 1, 1) := by decide +kernel
theorem dX6_drum_12 : decode cX6_drum 12 = .ok (.invokevirtual 71, 3) := by decide +kernel
theorem dX6_drum_15 : decode cX6_drum 15 = .ok (.ifCond .ne 5, 3) := by decide +kernel
theorem dX6_drum_18 : decode cX6_drum 18 = .ok (.iconst 0, 1) := by decide +kernel
theorem dX6_drum_19 : decode cX6_drum 19 = .ok (.ireturn, 1) := by decide +kernel
theorem dX6_drum_20 : decode cX6_drum 20 = .ok (.iload_n 1, 1) := by decide +kernel
theorem dX6_drum_21 : decode cX6_drum 21 = .ok (.iconst 4, 1) := by decide +kernel
theorem dX6_drum_22 : decode cX6_drum 22 = .ok (.if_icmp .ne 11, 3) := by decide +kernel
theorem dX6_drum_25 : decode cX6_drum 25 = .ok (.aload_n 0, 1) := by decide +kernel
theorem dX6_drum_26 : decode cX6_drum 26 = .ok (.iconst 0, 1) := by decide +kernel
theorem dX6_drum_27 : decode cX6_drum 27 = .ok (.putfield 102, 3) := by decide +kernel
theorem dX6_drum_30 : decode cX6_drum 30 = .ok (.goto 61, 3) := by decide +kernel
theorem dX6_drum_33 : decode cX6_drum 33 = .ok (.iload_n 1, 1) := by decide +kernel
theorem dX6_drum_34 : decode cX6_drum 34 = .ok (.iconst 3, 1) := by decide +kernel
theorem dX6_drum_35 : decode cX6_drum 35 = .ok (.if_icmp .ne 51, 3) := by decide +kernel
theorem dX6_drum_38 : decode cX6_drum 38 = .ok (.aload_n 0, 1) := by decide +kernel
theorem dX6_drum_39 : decode cX6_drum 39 = .ok (.aload_n 0, 1) := by decide +kernel
theorem dX6_drum_40 : decode cX6_drum 40 = .ok (.getfield 124, 3) := by decide +kernel
theorem dX6_drum_43 : decode cX6_drum 43 = .ok (.ifCond .le 10, 3) := by decide +kernel
theorem dX6_drum_46 : decode cX6_drum 46 = .ok (.aload_n 0, 1) := by decide +kernel
theorem dX6_drum_47 : decode cX6_drum 47 = .ok (.getfield 124, 3) := by decide +kernel
theorem dX6_drum_50 : decode cX6_drum 50 = .ok (.goto 30, 3) := by decide +kernel
theorem dX6_drum_53 : decode cX6_drum 53 = .ok (.aload_n 0, 1) := by decide +kernel
theorem dX6_drum_54 : decode cX6_drum 54 = .ok (.getfield 118, 3) := by decide +kernel
theorem dX6_drum_57 : decode cX6_drum 57 = .ok (.iconst 2, 1) := by decide +kernel
theorem dX6_drum_58 : decode cX6_drum 58 = .ok (.aload_n 0, 1) := by decide +kernel
theorem dX6_drum_59 : decode cX6_drum 59 = .ok (.getfield 109, 3) := by decide +kernel
theorem dX6_drum_62 : decode cX6_drum 62 = .ok (.imul, 1) := by decide +kernel
theorem dX6_drum_63 : decode cX6_drum 63 = .ok (.aload_n 0, 1) := by decide +kernel
theorem dX6_drum_64 : decode cX6_drum 64 = .ok (.aload_n 0, 1) := by decide +kernel
theorem dX6_drum_65 : decode cX6_drum 65 = .ok (.getfield 22, 3) := by decide +kernel
theorem dX6_drum_68 : decode cX6_drum 68 = .ok (.invokevirtual 64, 3) := by decide +kernel
theorem dX6_drum_71 : decode cX6_drum 71 = .ok (.if_icmp .gt 7, 3) := by decide +kernel
theorem dX6_drum_74 : decode cX6_drum 74 = .ok (.iconst 1, 1) := by decide +kernel
theorem dX6_drum_75 : decode cX6_drum 75 = .ok (.goto 4, 3) := by decide +kernel
theorem dX6_drum_78 : decode cX6_drum 78 = .ok (.iconst 2, 1) := by decide +kernel
theorem dX6_drum_79 : decode cX6_drum 79 = .ok (.iadd, 1) := by decide +kernel
theorem dX6_drum_80 : decode cX6_drum 80 = .ok (.putfield 124, 3) := by decide +kernel
theorem dX6_drum_83 : decode cX6_drum 83 = .ok (.goto 8, 3) := by decide +kernel
theorem dX6_drum_86 : decode cX6_drum 86 = .ok (.aload_n 0, 1) := by decide +kernel
theorem dX6_drum_87 : decode cX6_drum 87 = .ok (.iload_n 1, 1) := by decide +kernel
theorem dX6_drum_88 : decode cX6_drum 88 = .ok (.putfield 121, 3) := by decide +kernel
theorem dX6_drum_91 : decode cX6_drum 91 = .ok (.aload_n 0, 1) := by decide +kernel
theorem dX6_drum_92 : decode cX6_drum 92 = .ok (.getfield 109, 3) := by decide +kernel
theorem dX6_drum_95 : decode cX6_drum 95 = .ok (.ireturn, 1) := by decide +kernel
theorem dX6_playsBeat_0 : decode cX6_playsBeat 0 = .ok (.aload_n 0, 1) := by decide +kernel
theorem dX6_playsBeat_1 : decode cX6_playsBeat 1 = .ok (.aload_n 0, 1) := by decide +kernel
theorem dX6_playsBeat_2 : decode cX6_playsBeat 2 = .ok (.getfield 109, 3) := by decide +kernel
theorem dX6_playsBeat_5 : decode cX6_playsBeat 5 = .ok (.aload_n 0, 1) := by decide +kernel
theorem dX6_playsBeat_6 : decode cX6_playsBeat 6 = .ok (.aload_n 0, 1) := by decide +kernel
theorem dX6_playsBeat_7 : decode cX6_playsBeat 7 = .ok (.getfield 22, 3) := by decide +kernel
theorem dX6_playsBeat_10 : decode cX6_playsBeat 10 = .ok (.invokevirtual 64, 3) := by decide +kernel
theorem dX6_playsBeat_13 : decode cX6_playsBeat 13 = .ok (.if_icmp .ne 7, 3) := by decide +kernel
theorem dX6_playsBeat_16 : decode cX6_playsBeat 16 = .ok (.iconst 1, 1) := by decide +kernel
theorem dX6_playsBeat_17 : decode cX6_playsBeat 17 = .ok (.goto 9, 3) := by decide +kernel
theorem dX6_playsBeat_20 : decode cX6_playsBeat 20 = .ok (.aload_n 0, 1) := by decide +kernel
theorem dX6_playsBeat_21 : decode cX6_playsBeat 21 = .ok (.getfield 109, 3) := by decide +kernel
theorem dX6_playsBeat_24 : decode cX6_playsBeat 24 = .ok (.iconst 1, 1) := by decide +kernel
theorem dX6_playsBeat_25 : decode cX6_playsBeat 25 = .ok (.iadd, 1) := by decide +kernel
theorem dX6_playsBeat_26 : decode cX6_playsBeat 26 = .ok (.putfield 109, 3) := by decide +kernel
theorem dX6_playsBeat_29 : decode cX6_playsBeat 29 = .ok (.aload_n 0, 1) := by decide +kernel
theorem dX6_playsBeat_30 : decode cX6_playsBeat 30 = .ok (.dup, 1) := by decide +kernel
theorem dX6_playsBeat_31 : decode cX6_playsBeat 31 = .ok (.getfield 130, 3) := by decide +kernel
theorem dX6_playsBeat_34 : decode cX6_playsBeat 34 = .ok (.aload_n 0, 1) := by decide +kernel
theorem dX6_playsBeat_35 : decode cX6_playsBeat 35 = .ok (.getfield 112, 3) := by decide +kernel
theorem dX6_playsBeat_38 : decode cX6_playsBeat 38 = .ok (.i2l, 1) := by decide +kernel
theorem dX6_playsBeat_39 : decode cX6_playsBeat 39 = .ok (.ladd, 1) := by decide +kernel
theorem dX6_playsBeat_40 : decode cX6_playsBeat 40 = .ok (.putfield 130, 3) := by decide +kernel
theorem dX6_playsBeat_43 : decode cX6_playsBeat 43 = .ok (.iconst 0, 1) := by decide +kernel
theorem dX6_playsBeat_44 : decode cX6_playsBeat 44 = .ok (.istore_n 1, 1) := by decide +kernel
theorem dX6_playsBeat_45 : decode cX6_playsBeat 45 = .ok (.iload_n 1, 1) := by decide +kernel
theorem dX6_playsBeat_46 : decode cX6_playsBeat 46 = .ok (.iconst 4, 1) := by decide +kernel
theorem dX6_playsBeat_47 : decode cX6_playsBeat 47 = .ok (.if_icmp .ge 27, 3) := by decide +kernel
theorem dX6_playsBeat_50 : decode cX6_playsBeat 50 = .ok (.aload_n 0, 1) := by decide +kernel
theorem dX6_playsBeat_51 : decode cX6_playsBeat 51 = .ok (.getfield 26, 3) := by decide +kernel
theorem dX6_playsBeat_54 : decode cX6_playsBeat 54 = .ok (.iload_n 1, 1) := by decide +kernel
theorem dX6_playsBeat_55 : decode cX6_playsBeat 55 = .ok (.dup2, 1) := by decide +kernel
theorem dX6_playsBeat_56 : decode cX6_playsBeat 56 = .ok (.laload, 1) := by decide +kernel
theorem dX6_playsBeat_57 : decode cX6_playsBeat 57 = .ok (.iload_n 1, 1) := by decide +kernel
theorem dX6_playsBeat_58 : decode cX6_playsBeat 58 = .ok (.aload_n 0, 1) := by decide +kernel
theorem dX6_playsBeat_59 : decode cX6_playsBeat 59 = .ok (.getfield 115, 3) := by decide +kernel
theorem dX6_playsBeat_62 : decode cX6_playsBeat 62 = .ok (.invokestatic 92, 3) := by decide +kernel
theorem dX6_playsBeat_65 : decode cX6_playsBeat 65 = .ok (.i2l, 1) := by decide +kernel
theorem dX6_playsBeat_66 : decode cX6_playsBeat 66 = .ok (.ladd, 1) := by decide +kernel
theorem dX6_playsBeat_67 : decode cX6_playsBeat 67 = .ok (.lastore, 1) := by decide +kernel
theorem dX6_playsBeat_68 : decode cX6_playsBeat 68 = .ok (.iinc 1 1, 3) := by decide +kernel
theorem dX6_playsBeat_71 : decode cX6_playsBeat 71 = .ok (.goto (-26), 3) := by decide +kernel
theorem dX6_playsBeat_74 : decode cX6_playsBeat 74 = .ok (.aload_n 0, 1) := by decide +kernel
theorem dX6_playsBeat_75 : decode cX6_playsBeat 75 = .ok (.getfield 112, 3) := by decide +kernel
theorem dX6_playsBeat_78 : decode cX6_playsBeat 78 = .ok (.aload_n 0, 1) := by decide +kernel
theorem dX6_playsBeat_79 : decode cX6_playsBeat 79 = .ok (.getfield 121, 3) := by decide +kernel
theorem dX6_playsBeat_82 : decode cX6_playsBeat 82 = .ok (.ifCond .ne 7, 3) := by decide +kernel
theorem dX6_playsBeat_85 : decode cX6_playsBeat 85 = .ok (.iconst 0, 1) := by decide +kernel
theorem dX6_playsBeat_86 : decode cX6_playsBeat 86 = .ok (.goto 17, 3) := by decide +kernel
theorem dX6_playsBeat_89 : decode cX6_playsBeat 89 = .ok (.aload_n 0, 1) := by decide +kernel
theorem dX6_playsBeat_90 : decode cX6_playsBeat 90 = .ok (.getfield 121, 3) := by decide +kernel
theorem dX6_playsBeat_93 : decode cX6_playsBeat 93 = .ok (.iconst 1, 1) := by decide +kernel
theorem dX6_playsBeat_94 : decode cX6_playsBeat 94 = .ok (.if_icmp .ne 7, 3) := by decide +kernel
theorem dX6_playsBeat_97 : decode cX6_playsBeat 97 = .ok (.iconst 2, 1) := by decide +kernel
theorem dX6_playsBeat_98 : decode cX6_playsBeat 98 = .ok (.goto 5, 3) := by decide +kernel
theorem dX6_playsBeat_101 : decode cX6_playsBeat 101 = .ok (.bipush (-2), 2) := by decide +kernel
theorem dX6_playsBeat_103 : decode cX6_playsBeat 103 = .ok (.iadd, 1) := by decide +kernel
theorem dX6_playsBeat_104 : decode cX6_playsBeat 104 = .ok (.istore_n 1, 1) := by decide +kernel
theorem dX6_playsBeat_105 : decode cX6_playsBeat 105 = .ok (.aload_n 0, 1) := by decide +kernel
theorem dX6_playsBeat_106 : decode cX6_playsBeat 106 = .ok (.iload_n 1, 1) := by decide +kernel
theorem dX6_playsBeat_107 : decode cX6_playsBeat 107 = .ok (.sipush 160, 3) := by decide +kernel
theorem dX6_playsBeat_110 : decode cX6_playsBeat 110 = .ok (.if_icmp .le 9, 3) := by decide +kernel
theorem dX6_playsBeat_113 : decode cX6_playsBeat 113 = .ok (.sipush 160, 3) := by decide +kernel
theorem dX6_playsBeat_116 : decode cX6_playsBeat 116 = .ok (.goto 15, 3) := by decide +kernel
theorem dX6_playsBeat_119 : decode cX6_playsBeat 119 = .ok (.iload_n 1, 1) := by decide +kernel
theorem dX6_playsBeat_120 : decode cX6_playsBeat 120 = .ok (.bipush 10, 2) := by decide +kernel
theorem dX6_playsBeat_122 : decode cX6_playsBeat 122 = .ok (.if_icmp .ge 8, 3) := by decide +kernel
theorem dX6_playsBeat_125 : decode cX6_playsBeat 125 = .ok (.bipush 10, 2) := by decide +kernel
theorem dX6_playsBeat_127 : decode cX6_playsBeat 127 = .ok (.goto 4, 3) := by decide +kernel
theorem dX6_playsBeat_130 : decode cX6_playsBeat 130 = .ok (.iload_n 1, 1) := by decide +kernel
theorem dX6_playsBeat_131 : decode cX6_playsBeat 131 = .ok (.putfield 112, 3) := by decide +kernel
theorem dX6_playsBeat_134 : decode cX6_playsBeat 134 = .ok (.aload_n 0, 1) := by decide +kernel
theorem dX6_playsBeat_135 : decode cX6_playsBeat 135 = .ok (.getfield 109, 3) := by decide +kernel
theorem dX6_playsBeat_138 : decode cX6_playsBeat 138 = .ok (.aload_n 0, 1) := by decide +kernel
theorem dX6_playsBeat_139 : decode cX6_playsBeat 139 = .ok (.aload_n 0, 1) := by decide +kernel
theorem dX6_playsBeat_140 : decode cX6_playsBeat 140 = .ok (.getfield 22, 3) := by decide +kernel
theorem dX6_playsBeat_143 : decode cX6_playsBeat 143 = .ok (.invokevirtual 64, 3) := by decide +kernel
theorem dX6_playsBeat_146 : decode cX6_playsBeat 146 = .ok (.if_icmp .ne 78, 3) := by decide +kernel
theorem dX6_playsBeat_149 : decode cX6_playsBeat 149 = .ok (.aload_n 0, 1) := by decide +kernel
theorem dX6_playsBeat_150 : decode cX6_playsBeat 150 = .ok (.aload_n 0, 1) := by decide +kernel
theorem dX6_playsBeat_151 : decode cX6_playsBeat 151 = .ok (.getfield 112, 3) := by decide +kernel
theorem dX6_playsBeat_154 : decode cX6_playsBeat 154 = .ok (.sipush 160, 3) := by decide +kernel
theorem dX6_playsBeat_157 : decode cX6_playsBeat 157 = .ok (.if_icmp .lt 7, 3) := by decide +kernel
theorem dX6_playsBeat_160 : decode cX6_playsBeat 160 = .ok (.iconst 3, 1) := by decide +kernel
theorem dX6_playsBeat_161 : decode cX6_playsBeat 161 = .ok (.goto 30, 3) := by decide +kernel
theorem dX6_playsBeat_164 : decode cX6_playsBeat 164 = .ok (.aload_n 0, 1) := by decide +kernel
theorem dX6_playsBeat_165 : decode cX6_playsBeat 165 = .ok (.getfield 112, 3) := by decide +kernel
theorem dX6_playsBeat_168 : decode cX6_playsBeat 168 = .ok (.bipush 80, 2) := by decide +kernel
theorem dX6_playsBeat_170 : decode cX6_playsBeat 170 = .ok (.if_icmp .lt 7, 3) := by decide +kernel
theorem dX6_playsBeat_173 : decode cX6_playsBeat 173 = .ok (.iconst 2, 1) := by decide +kernel
theorem dX6_playsBeat_174 : decode cX6_playsBeat 174 = .ok (.goto 17, 3) := by decide +kernel
theorem dX6_playsBeat_177 : decode cX6_playsBeat 177 = .ok (.aload_n 0, 1) := by decide +kernel
theorem dX6_playsBeat_178 : decode cX6_playsBeat 178 = .ok (.getfield 112, 3) := by decide +kernel
theorem dX6_playsBeat_181 : decode cX6_playsBeat 181 = .ok (.bipush 40, 2) := by decide +kernel
theorem dX6_playsBeat_183 : decode cX6_playsBeat 183 = .ok (.if_icmp .lt 7, 3) := by decide +kernel
theorem dX6_playsBeat_186 : decode cX6_playsBeat 186 = .ok (.iconst 1, 1) := by decide +kernel
theorem dX6_playsBeat_187 : decode cX6_playsBeat 187 = .ok (.goto 4, 3) := by decide +kernel
theorem dX6_playsBeat_190 : decode cX6_playsBeat 190 = .ok (.iconst 0, 1) := by decide +kernel
theorem dX6_playsBeat_191 : decode cX6_playsBeat 191 = .ok (.putfield 115, 3) := by decide +kernel
theorem dX6_playsBeat_194 : decode cX6_playsBeat 194 = .ok (.aload_n 0, 1) := by decide +kernel
theorem dX6_playsBeat_195 : decode cX6_playsBeat 195 = .ok (.dup, 1) := by decide +kernel
theorem dX6_playsBeat_196 : decode cX6_playsBeat 196 = .ok (.getfield 118, 3) := by decide +kernel
theorem dX6_playsBeat_199 : decode cX6_playsBeat 199 = .ok (.iconst 1, 1) := by decide +kernel
theorem dX6_playsBeat_200 : decode cX6_playsBeat 200 = .ok (.iadd, 1) := by decide +kernel
theorem dX6_playsBeat_201 : decode cX6_playsBeat 201 = .ok (.putfield 118, 3) := by decide +kernel
theorem dX6_playsBeat_204 : decode cX6_playsBeat 204 = .ok (.aload_n 0, 1) := by decide +kernel
theorem dX6_playsBeat_205 : decode cX6_playsBeat 205 = .ok (.aload_n 0, 1) := by decide +kernel
theorem dX6_playsBeat_206 : decode cX6_playsBeat 206 = .ok (.getfield 118, 3) := by decide +kernel
theorem dX6_playsBeat_209 : decode cX6_playsBeat 209 = .ok (.aload_n 0, 1) := by decide +kernel
theorem dX6_playsBeat_210 : decode cX6_playsBeat 210 = .ok (.getfield 124, 3) := by decide +kernel
theorem dX6_playsBeat_213 : decode cX6_playsBeat 213 = .ok (.if_icmp .eq 7, 3) := by decide +kernel
theorem dX6_playsBeat_216 : decode cX6_playsBeat 216 = .ok (.iconst 1, 1) := by decide +kernel
theorem dX6_playsBeat_217 : decode cX6_playsBeat 217 = .ok (.goto 4, 3) := by decide +kernel
theorem dX6_playsBeat_220 : decode cX6_playsBeat 220 = .ok (.iconst 0, 1) := by decide +kernel
theorem dX6_playsBeat_221 : decode cX6_playsBeat 221 = .ok (.putfield 102, 3) := by decide +kernel
theorem dX6_playsBeat_224 : decode cX6_playsBeat 224 = .ok (.return_, 1) := by decide +kernel
theorem dX6_beats_0 : decode cX6_beats 0 = .ok (.aload_n 0, 1) := by decide +kernel
theorem dX6_beats_1 : decode cX6_beats 1 = .ok (.iload_n 1, 1) := by decide +kernel
theorem dX6_beats_2 : decode cX6_beats 2 = .ok (.iconst 1, 1) := by decide +kernel
theorem dX6_beats_3 : decode cX6_beats 3 = .ok (.bipush 100, 2) := by decide +kernel
theorem dX6_beats_5 : decode cX6_beats 5 = .ok (.invokestatic 53, 3) := by decide +kernel
theorem dX6_beats_8 : decode cX6_beats 8 = .ok (.aload_n 0, 1) := by decide +kernel
theorem dX6_beats_9 : decode cX6_beats 9 = .ok (.getfield 102, 3) := by decide +kernel
theorem dX6_beats_12 : decode cX6_beats 12 = .ok (.iconst 1, 1) := by decide +kernel
theorem dX6_beats_13 : decode cX6_beats 13 = .ok (.invokevirtual 71, 3) := by decide +kernel
theorem dX6_beats_16 : decode cX6_beats 16 = .ok (.ifCond .ne 5, 3) := by decide +kernel
theorem dX6_beats_19 : decode cX6_beats 19 = .ok (.iconst 0, 1) := by decide +kernel
theorem dX6_beats_20 : decode cX6_beats 20 = .ok (.ireturn, 1) := by decide +kernel
theorem dX6_beats_21 : decode cX6_beats 21 = .ok (.iconst 0, 1) := by decide +kernel
theorem dX6_beats_22 : decode cX6_beats 22 = .ok (.istore_n 2, 1) := by decide +kernel
theorem dX6_beats_23 : decode cX6_beats 23 = .ok (.iload_n 2, 1) := by decide +kernel
theorem dX6_beats_24 : decode cX6_beats 24 = .ok (.iload_n 1, 1) := by decide +kernel
theorem dX6_beats_25 : decode cX6_beats 25 = .ok (.if_icmp .ge 20, 3) := by decide +kernel
theorem dX6_beats_28 : decode cX6_beats 28 = .ok (.aload_n 0, 1) := by decide +kernel
theorem dX6_beats_29 : decode cX6_beats 29 = .ok (.getfield 102, 3) := by decide +kernel
theorem dX6_beats_32 : decode cX6_beats 32 = .ok (.ifCond .eq 13, 3) := by decide +kernel
theorem dX6_beats_35 : decode cX6_beats 35 = .ok (.aload_n 0, 1) := by decide +kernel
theorem dX6_beats_36 : decode cX6_beats 36 = .ok (.invokevirtual 134, 3) := by decide +kernel
theorem dX6_beats_39 : decode cX6_beats 39 = .ok (.iinc 2 1, 3) := by decide +kernel
theorem dX6_beats_42 : decode cX6_beats 42 = .ok (.goto (-19), 3) := by decide +kernel
theorem dX6_beats_45 : decode cX6_beats 45 = .ok (.iload_n 2, 1) := by decide +kernel
theorem dX6_beats_46 : decode cX6_beats 46 = .ok (.ireturn, 1) := by decide +kernel
theorem dX6_now_0 : decode cX6_now 0 = .ok (.aload_n 0, 1) := by decide +kernel
theorem dX6_now_1 : decode cX6_now 1 = .ok (.iload_n 1, 1) := by decide +kernel
theorem dX6_now_2 : decode cX6_now 2 = .ok (.iconst 0, 1) := by decide +kernel
theorem dX6_now_3 : decode cX6_now 3 = .ok (.iconst 5, 1) := by decide +kernel
theorem dX6_now_4 : decode cX6_now 4 = .ok (.invokestatic 53, 3) := by decide +kernel
theorem dX6_now_7 : decode cX6_now 7 = .ok (.iconst 1, 1) := by decide +kernel
theorem dX6_now_8 : decode cX6_now 8 = .ok (.iconst 1, 1) := by decide +kernel
theorem dX6_now_9 : decode cX6_now 9 = .ok (.invokevirtual 71, 3) := by decide +kernel
theorem dX6_now_12 : decode cX6_now 12 = .ok (.ifCond .ne 5, 3) := by decide +kernel
theorem dX6_now_15 : decode cX6_now 15 = .ok (.iconst 0, 1) := by decide +kernel
theorem dX6_now_16 : decode cX6_now 16 = .ok (.ireturn, 1) := by decide +kernel
theorem dX6_now_17 : decode cX6_now 17 = .ok (.iload_n 1, 1) := by decide +kernel
theorem dX6_now_18 : decode cX6_now 18 = .ok (.ifCond .ne 10, 3) := by decide +kernel
theorem dX6_now_21 : decode cX6_now 21 = .ok (.aload_n 0, 1) := by decide +kernel
theorem dX6_now_22 : decode cX6_now 22 = .ok (.getfield 109, 3) := by decide +kernel
theorem dX6_now_25 : decode cX6_now 25 = .ok (.goto 63, 3) := by decide +kernel
theorem dX6_now_28 : decode cX6_now 28 = .ok (.iload_n 1, 1) := by decide +kernel
theorem dX6_now_29 : decode cX6_now 29 = .ok (.iconst 1, 1) := by decide +kernel
theorem dX6_now_30 : decode cX6_now 30 = .ok (.if_icmp .ne 10, 3) := by decide +kernel
theorem dX6_now_33 : decode cX6_now 33 = .ok (.aload_n 0, 1) := by decide +kernel
theorem dX6_now_34 : decode cX6_now 34 = .ok (.getfield 112, 3) := by decide +kernel
theorem dX6_now_37 : decode cX6_now 37 = .ok (.goto 51, 3) := by decide +kernel
theorem dX6_now_40 : decode cX6_now 40 = .ok (.iload_n 1, 1) := by decide +kernel
theorem dX6_now_41 : decode cX6_now 41 = .ok (.iconst 2, 1) := by decide +kernel
theorem dX6_now_42 : decode cX6_now 42 = .ok (.if_icmp .ne 10, 3) := by decide +kernel
theorem dX6_now_45 : decode cX6_now 45 = .ok (.aload_n 0, 1) := by decide +kernel
theorem dX6_now_46 : decode cX6_now 46 = .ok (.getfield 115, 3) := by decide +kernel
theorem dX6_now_49 : decode cX6_now 49 = .ok (.goto 39, 3) := by decide +kernel
theorem dX6_now_52 : decode cX6_now 52 = .ok (.iload_n 1, 1) := by decide +kernel
theorem dX6_now_53 : decode cX6_now 53 = .ok (.iconst 3, 1) := by decide +kernel
theorem dX6_now_54 : decode cX6_now 54 = .ok (.if_icmp .ne 10, 3) := by decide +kernel
theorem dX6_now_57 : decode cX6_now 57 = .ok (.aload_n 0, 1) := by decide +kernel
theorem dX6_now_58 : decode cX6_now 58 = .ok (.getfield 118, 3) := by decide +kernel
theorem dX6_now_61 : decode cX6_now 61 = .ok (.goto 27, 3) := by decide +kernel
theorem dX6_now_64 : decode cX6_now 64 = .ok (.iload_n 1, 1) := by decide +kernel
theorem dX6_now_65 : decode cX6_now 65 = .ok (.iconst 4, 1) := by decide +kernel
theorem dX6_now_66 : decode cX6_now 66 = .ok (.if_icmp .ne 18, 3) := by decide +kernel
theorem dX6_now_69 : decode cX6_now 69 = .ok (.aload_n 0, 1) := by decide +kernel
theorem dX6_now_70 : decode cX6_now 70 = .ok (.getfield 102, 3) := by decide +kernel
theorem dX6_now_73 : decode cX6_now 73 = .ok (.ifCond .eq 7, 3) := by decide +kernel
theorem dX6_now_76 : decode cX6_now 76 = .ok (.iconst 1, 1) := by decide +kernel
theorem dX6_now_77 : decode cX6_now 77 = .ok (.goto 11, 3) := by decide +kernel
theorem dX6_now_80 : decode cX6_now 80 = .ok (.iconst 0, 1) := by decide +kernel
theorem dX6_now_81 : decode cX6_now 81 = .ok (.goto 7, 3) := by decide +kernel
theorem dX6_now_84 : decode cX6_now 84 = .ok (.aload_n 0, 1) := by decide +kernel
theorem dX6_now_85 : decode cX6_now 85 = .ok (.getfield 22, 3) := by decide +kernel
theorem dX6_now_88 : decode cX6_now 88 = .ok (.ireturn, 1) := by decide +kernel
theorem dX6_ticks_0 : decode cX6_ticks 0 = .ok (.aload_n 0, 1) := by decide +kernel
theorem dX6_ticks_1 : decode cX6_ticks 1 = .ok (.iconst 0, 1) := by decide +kernel
theorem dX6_ticks_2 : decode cX6_ticks 2 = .ok (.putfield 47, 3) := by decide +kernel
theorem dX6_ticks_5 : decode cX6_ticks 5 = .ok (.aload_n 0, 1) := by decide +kernel
theorem dX6_ticks_6 : decode cX6_ticks 6 = .ok (.getfield 130, 3) := by decide +kernel
theorem dX6_ticks_9 : decode cX6_ticks 9 = .ok (.lreturn, 1) := by decide +kernel
theorem dX6_strokes_0 : decode cX6_strokes 0 = .ok (.aload_n 0, 1) := by decide +kernel
theorem dX6_strokes_1 : decode cX6_strokes 1 = .ok (.iload_n 1, 1) := by decide +kernel
theorem dX6_strokes_2 : decode cX6_strokes 2 = .ok (.invokestatic 89, 3) := by decide +kernel
theorem dX6_strokes_5 : decode cX6_strokes 5 = .ok (.iconst 1, 1) := by decide +kernel
theorem dX6_strokes_6 : decode cX6_strokes 6 = .ok (.iconst 1, 1) := by decide +kernel
theorem dX6_strokes_7 : decode cX6_strokes 7 = .ok (.invokevirtual 71, 3) := by decide +kernel
theorem dX6_strokes_10 : decode cX6_strokes 10 = .ok (.ifCond .eq 12, 3) := by decide +kernel
theorem dX6_strokes_13 : decode cX6_strokes 13 = .ok (.aload_n 0, 1) := by decide +kernel
theorem dX6_strokes_14 : decode cX6_strokes 14 = .ok (.getfield 26, 3) := by decide +kernel
theorem dX6_strokes_17 : decode cX6_strokes 17 = .ok (.iload_n 1, 1) := by decide +kernel
theorem dX6_strokes_18 : decode cX6_strokes 18 = .ok (.laload, 1) := by decide +kernel
theorem dX6_strokes_19 : decode cX6_strokes 19 = .ok (.goto 4, 3) := by decide +kernel
theorem dX6_strokes_22 : decode cX6_strokes 22 = .ok (.lconst 0, 1) := by decide +kernel
theorem dX6_strokes_23 : decode cX6_strokes 23 = .ok (.lreturn, 1) := by decide +kernel
theorem dX6_days_0 : decode cX6_days 0 = .ok (.aload_n 0, 1) := by decide +kernel
theorem dX6_days_1 : decode cX6_days 1 = .ok (.iload_n 1, 1) := by decide +kernel
theorem dX6_days_2 : decode cX6_days 2 = .ok (.iconst 1, 1) := by decide +kernel
theorem dX6_days_3 : decode cX6_days 3 = .ok (.bipush 100, 2) := by decide +kernel
theorem dX6_days_5 : decode cX6_days 5 = .ok (.invokestatic 53, 3) := by decide +kernel
theorem dX6_days_8 : decode cX6_days 8 = .ok (.aload_n 0, 1) := by decide +kernel
theorem dX6_days_9 : decode cX6_days 9 = .ok (.getfield 102, 3) := by decide +kernel
theorem dX6_days_12 : decode cX6_days 12 = .ok (.ifCond .ne 7, 3) := by decide +kernel
theorem dX6_days_15 : decode cX6_days 15 = .ok (.iconst 1, 1) := by decide +kernel
theorem dX6_days_16 : decode cX6_days 16 = .ok (.goto 4, 3) := by decide +kernel
theorem dX6_days_19 : decode cX6_days 19 = .ok (.iconst 0, 1) := by decide +kernel
theorem dX6_days_20 : decode cX6_days 20 = .ok (.iconst 1, 1) := by decide +kernel
theorem dX6_days_21 : decode cX6_days 21 = .ok (.invokevirtual 71, 3) := by decide +kernel
theorem dX6_days_24 : decode cX6_days 24 = .ok (.ifCond .ne 5, 3) := by decide +kernel
theorem dX6_days_27 : decode cX6_days 27 = .ok (.iconst 0, 1) := by decide +kernel
theorem dX6_days_28 : decode cX6_days 28 = .ok (.ireturn, 1) := by decide +kernel
theorem dX6_days_29 : decode cX6_days 29 = .ok (.aload_n 0, 1) := by decide +kernel
theorem dX6_days_30 : decode cX6_days 30 = .ok (.aload_n 0, 1) := by decide +kernel
theorem dX6_days_31 : decode cX6_days 31 = .ok (.getfield 106, 3) := by decide +kernel
theorem dX6_days_34 : decode cX6_days 34 = .ok (.iload_n 1, 1) := by decide +kernel
theorem dX6_days_35 : decode cX6_days 35 = .ok (.iadd, 1) := by decide +kernel
theorem dX6_days_36 : decode cX6_days 36 = .ok (.iconst 5, 1) := by decide +kernel
theorem dX6_days_37 : decode cX6_days 37 = .ok (.irem, 1) := by decide +kernel
theorem dX6_days_38 : decode cX6_days 38 = .ok (.putfield 106, 3) := by decide +kernel
theorem dX6_days_41 : decode cX6_days 41 = .ok (.aload_n 0, 1) := by decide +kernel
theorem dX6_days_42 : decode cX6_days 42 = .ok (.getfield 106, 3) := by decide +kernel
theorem dX6_days_45 : decode cX6_days 45 = .ok (.ireturn, 1) := by decide +kernel
theorem dX6_isSet_0 : decode cX6_isSet 0 = .ok (.iload_n 0, 1) := by decide +kernel
theorem dX6_isSet_1 : decode cX6_isSet 1 = .ok (.iconst 0, 1) := by decide +kernel
theorem dX6_isSet_2 : decode cX6_isSet 2 = .ok (.iconst 3, 1) := by decide +kernel
theorem dX6_isSet_3 : decode cX6_isSet 3 = .ok (.invokestatic 53, 3) := by decide +kernel
theorem dX6_isSet_6 : decode cX6_isSet 6 = .ok (.ireturn, 1) := by decide +kernel
theorem dX6_pitch_0 : decode cX6_pitch 0 = .ok (.aload_n 0, 1) := by decide +kernel
theorem dX6_pitch_1 : decode cX6_pitch 1 = .ok (.iload_n 1, 1) := by decide +kernel
theorem dX6_pitch_2 : decode cX6_pitch 2 = .ok (.invokestatic 137, 3) := by decide +kernel
theorem dX6_pitch_5 : decode cX6_pitch 5 = .ok (.ifCond .eq 17, 3) := by decide +kernel
theorem dX6_pitch_8 : decode cX6_pitch 8 = .ok (.iload_n 2, 1) := by decide +kernel
theorem dX6_pitch_9 : decode cX6_pitch 9 = .ok (.iconst 1, 1) := by decide +kernel
theorem dX6_pitch_10 : decode cX6_pitch 10 = .ok (.bipush 7, 2) := by decide +kernel
theorem dX6_pitch_12 : decode cX6_pitch 12 = .ok (.invokestatic 53, 3) := by decide +kernel
theorem dX6_pitch_15 : decode cX6_pitch 15 = .ok (.ifCond .eq 7, 3) := by decide +kernel
theorem dX6_pitch_18 : decode cX6_pitch 18 = .ok (.iconst 1, 1) := by decide +kernel
theorem dX6_pitch_19 : decode cX6_pitch 19 = .ok (.goto 4, 3) := by decide +kernel
theorem dX6_pitch_22 : decode cX6_pitch 22 = .ok (.iconst 0, 1) := by decide +kernel
theorem dX6_pitch_23 : decode cX6_pitch 23 = .ok (.iload_n 3, 1) := by decide +kernel
theorem dX6_pitch_24 : decode cX6_pitch 24 = .ok (.sipush 5000, 3) := by decide +kernel
theorem dX6_pitch_27 : decode cX6_pitch 27 = .ok (.ldc 140, 2) := by decide +kernel
theorem dX6_pitch_29 : decode cX6_pitch 29 = .ok (.invokestatic 53, 3) := by decide +kernel
theorem dX6_pitch_32 : decode cX6_pitch 32 = .ok (.iconst 1, 1) := by decide +kernel
theorem dX6_pitch_33 : decode cX6_pitch 33 = .ok (.invokevirtual 71, 3) := by decide +kernel
theorem dX6_pitch_36 : decode cX6_pitch 36 = .ok (.ifCond .ne 5, 3) := by decide +kernel
theorem dX6_pitch_39 : decode cX6_pitch 39 = .ok (.iconst 0, 1) := by decide +kernel
theorem dX6_pitch_40 : decode cX6_pitch 40 = .ok (.ireturn, 1) := by decide +kernel
theorem dX6_pitch_41 : decode cX6_pitch 41 = .ok (.aload_n 0, 1) := by decide +kernel
theorem dX6_pitch_42 : decode cX6_pitch 42 = .ok (.getfield 30, 3) := by decide +kernel
theorem dX6_pitch_45 : decode cX6_pitch 45 = .ok (.bipush 8, 2) := by decide +kernel
theorem dX6_pitch_47 : decode cX6_pitch 47 = .ok (.iload_n 1, 1) := by decide +kernel
theorem dX6_pitch_48 : decode cX6_pitch 48 = .ok (.imul, 1) := by decide +kernel
theorem dX6_pitch_49 : decode cX6_pitch 49 = .ok (.iload_n 2, 1) := by decide +kernel
theorem dX6_pitch_50 : decode cX6_pitch 50 = .ok (.iadd, 1) := by decide +kernel
theorem dX6_pitch_51 : decode cX6_pitch 51 = .ok (.iaload, 1) := by decide +kernel
theorem dX6_pitch_52 : decode cX6_pitch 52 = .ok (.istore 4, 2) := by decide +kernel
theorem dX6_pitch_54 : decode cX6_pitch 54 = .ok (.aload_n 0, 1) := by decide +kernel
theorem dX6_pitch_55 : decode cX6_pitch 55 = .ok (.getfield 30, 3) := by decide +kernel
theorem dX6_pitch_58 : decode cX6_pitch 58 = .ok (.bipush 8, 2) := by decide +kernel
theorem dX6_pitch_60 : decode cX6_pitch 60 = .ok (.iload_n 1, 1) := by decide +kernel
theorem dX6_pitch_61 : decode cX6_pitch 61 = .ok (.imul, 1) := by decide +kernel
theorem dX6_pitch_62 : decode cX6_pitch 62 = .ok (.iload_n 2, 1) := by decide +kernel
theorem dX6_pitch_63 : decode cX6_pitch 63 = .ok (.iadd, 1) := by decide +kernel
theorem dX6_pitch_64 : decode cX6_pitch 64 = .ok (.iload_n 3, 1) := by decide +kernel
theorem dX6_pitch_65 : decode cX6_pitch 65 = .ok (.iastore, 1) := by decide +kernel
theorem dX6_pitch_66 : decode cX6_pitch 66 = .ok (.iload 4, 2) := by decide +kernel
theorem dX6_pitch_68 : decode cX6_pitch 68 = .ok (.ireturn, 1) := by decide +kernel
theorem dX6_drift_0 : decode cX6_drift 0 = .ok (.aload_n 0, 1) := by decide +kernel
theorem dX6_drift_1 : decode cX6_drift 1 = .ok (.iload_n 1, 1) := by decide +kernel
theorem dX6_drift_2 : decode cX6_drift 2 = .ok (.invokestatic 137, 3) := by decide +kernel
theorem dX6_drift_5 : decode cX6_drift 5 = .ok (.iload_n 2, 1) := by decide +kernel
theorem dX6_drift_6 : decode cX6_drift 6 = .ok (.iconst 0, 1) := by decide +kernel
theorem dX6_drift_7 : decode cX6_drift 7 = .ok (.bipush 50, 2) := by decide +kernel
theorem dX6_drift_9 : decode cX6_drift 9 = .ok (.invokestatic 53, 3) := by decide +kernel
theorem dX6_drift_12 : decode cX6_drift 12 = .ok (.iconst 1, 1) := by decide +kernel
theorem dX6_drift_13 : decode cX6_drift 13 = .ok (.invokevirtual 71, 3) := by decide +kernel
theorem dX6_drift_16 : decode cX6_drift 16 = .ok (.ifCond .ne 5, 3) := by decide +kernel
theorem dX6_drift_19 : decode cX6_drift 19 = .ok (.iconst 0, 1) := by decide +kernel
theorem dX6_drift_20 : decode cX6_drift 20 = .ok (.ireturn, 1) := by decide +kernel
theorem dX6_drift_21 : decode cX6_drift 21 = .ok (.aload_n 0, 1) := by decide +kernel
theorem dX6_drift_22 : decode cX6_drift 22 = .ok (.getfield 33, 3) := by decide +kernel
theorem dX6_drift_25 : decode cX6_drift 25 = .ok (.iload_n 1, 1) := by decide +kernel
theorem dX6_drift_26 : decode cX6_drift 26 = .ok (.iaload, 1) := by decide +kernel
theorem dX6_drift_27 : decode cX6_drift 27 = .ok (.istore_n 3, 1) := by decide +kernel
theorem dX6_drift_28 : decode cX6_drift 28 = .ok (.aload_n 0, 1) := by decide +kernel
theorem dX6_drift_29 : decode cX6_drift 29 = .ok (.getfield 33, 3) := by decide +kernel
theorem dX6_drift_32 : decode cX6_drift 32 = .ok (.iload_n 1, 1) := by decide +kernel
theorem dX6_drift_33 : decode cX6_drift 33 = .ok (.iload_n 2, 1) := by decide +kernel
theorem dX6_drift_34 : decode cX6_drift 34 = .ok (.iastore, 1) := by decide +kernel
theorem dX6_drift_35 : decode cX6_drift 35 = .ok (.iload_n 3, 1) := by decide +kernel
theorem dX6_drift_36 : decode cX6_drift 36 = .ok (.ireturn, 1) := by decide +kernel
theorem dX6_years_0 : decode cX6_years 0 = .ok (.iload_n 1, 1) := by decide +kernel
theorem dX6_years_1 : decode cX6_years 1 = .ok (.iconst 1, 1) := by decide +kernel
theorem dX6_years_2 : decode cX6_years 2 = .ok (.bipush 30, 2) := by decide +kernel
theorem dX6_years_4 : decode cX6_years 4 = .ok (.invokestatic 53, 3) := by decide +kernel
theorem dX6_years_7 : decode cX6_years 7 = .ok (.istore_n 2, 1) := by decide +kernel
theorem dX6_years_8 : decode cX6_years 8 = .ok (.aload_n 0, 1) := by decide +kernel
theorem dX6_years_9 : decode cX6_years 9 = .ok (.iload_n 2, 1) := by decide +kernel
theorem dX6_years_10 : decode cX6_years 10 = .ok (.iload_n 2, 1) := by decide +kernel
theorem dX6_years_11 : decode cX6_years 11 = .ok (.ifCond .eq 19, 3) := by decide +kernel
theorem dX6_years_14 : decode cX6_years 14 = .ok (.aload_n 0, 1) := by decide +kernel
theorem dX6_years_15 : decode cX6_years 15 = .ok (.getfield 141, 3) := by decide +kernel
theorem dX6_years_18 : decode cX6_years 18 = .ok (.iload_n 1, 1) := by decide +kernel
theorem dX6_years_19 : decode cX6_years 19 = .ok (.iadd, 1) := by decide +kernel
theorem dX6_years_20 : decode cX6_years 20 = .ok (.sipush 300, 3) := by decide +kernel
theorem dX6_years_23 : decode cX6_years 23 = .ok (.if_icmp .gt 7, 3) := by decide +kernel
theorem dX6_years_26 : decode cX6_years 26 = .ok (.iconst 1, 1) := by decide +kernel
theorem dX6_years_27 : decode cX6_years 27 = .ok (.goto 4, 3) := by decide +kernel
theorem dX6_years_30 : decode cX6_years 30 = .ok (.iconst 0, 1) := by decide +kernel
theorem dX6_years_31 : decode cX6_years 31 = .ok (.iconst 1, 1) := by decide +kernel
theorem dX6_years_32 : decode cX6_years 32 = .ok (.invokevirtual 71, 3) := by decide +kernel
theorem dX6_years_35 : decode cX6_years 35 = .ok (.ifCond .ne 5, 3) := by decide +kernel
theorem dX6_years_38 : decode cX6_years 38 = .ok (.iconst 0, 1) := by decide +kernel
theorem dX6_years_39 : decode cX6_years 39 = .ok (.ireturn, 1) := by decide +kernel
theorem dX6_years_40 : decode cX6_years 40 = .ok (.iconst 0, 1) := by decide +kernel
theorem dX6_years_41 : decode cX6_years 41 = .ok (.istore_n 3, 1) := by decide +kernel
theorem dX6_years_42 : decode cX6_years 42 = .ok (.iload_n 3, 1) := by decide +kernel
theorem dX6_years_43 : decode cX6_years 43 = .ok (.iload_n 1, 1) := by decide +kernel
theorem dX6_years_44 : decode cX6_years 44 = .ok (.if_icmp .ge 80, 3) := by decide +kernel
theorem dX6_years_47 : decode cX6_years 47 = .ok (.iconst 0, 1) := by decide +kernel
theorem dX6_years_48 : decode cX6_years 48 = .ok (.istore 4, 2) := by decide +kernel
theorem dX6_years_50 : decode cX6_years 50 = .ok (.iload 4, 2) := by decide +kernel
theorem dX6_years_52 : decode cX6_years 52 = .ok (.bipush 32, 2) := by decide +kernel
theorem dX6_years_54 : decode cX6_years 54 = .ok (.if_icmp .ge 64, 3) := by decide +kernel
theorem dX6_years_57 : decode cX6_years 57 = .ok (.aload_n 0, 1) := by decide +kernel
theorem dX6_years_58 : decode cX6_years 58 = .ok (.getfield 30, 3) := by decide +kernel
theorem dX6_years_61 : decode cX6_years 61 = .ok (.iload 4, 2) := by decide +kernel
theorem dX6_years_63 : decode cX6_years 63 = .ok (.iaload, 1) := by decide +kernel
theorem dX6_years_64 : decode cX6_years 64 = .ok (.aload_n 0, 1) := by decide +kernel
theorem dX6_years_65 : decode cX6_years 65 = .ok (.getfield 30, 3) := by decide +kernel
theorem dX6_years_68 : decode cX6_years 68 = .ok (.iload 4, 2) := by decide +kernel
theorem dX6_years_70 : decode cX6_years 70 = .ok (.iaload, 1) := by decide +kernel
theorem dX6_years_71 : decode cX6_years 71 = .ok (.aload_n 0, 1) := by decide +kernel
theorem dX6_years_72 : decode cX6_years 72 = .ok (.getfield 33, 3) := by decide +kernel
theorem dX6_years_75 : decode cX6_years 75 = .ok (.iload 4, 2) := by decide +kernel
theorem dX6_years_77 : decode cX6_years 77 = .ok (.bipush 8, 2) := by decide +kernel
theorem dX6_years_79 : decode cX6_years 79 = .ok (.idiv, 1) := by decide +kernel
theorem dX6_years_80 : decode cX6_years 80 = .ok (.iaload, 1) := by decide +kernel
theorem dX6_years_81 : decode cX6_years 81 = .ok (.imul, 1) := by decide +kernel
theorem dX6_years_82 : decode cX6_years 82 = .ok (.sipush 10000, 3) := by decide +kernel
theorem dX6_years_85 : decode cX6_years 85 = .ok (.idiv, 1) := by decide +kernel
theorem dX6_years_86 : decode cX6_years 86 = .ok (.isub, 1) := by decide +kernel
theorem dX6_years_87 : decode cX6_years 87 = .ok (.istore 5, 2) := by decide +kernel
theorem dX6_years_89 : decode cX6_years 89 = .ok (.aload_n 0, 1) := by decide +kernel
theorem dX6_years_90 : decode cX6_years 90 = .ok (.getfield 30, 3) := by decide +kernel
theorem dX6_years_93 : decode cX6_years 93 = .ok (.iload 4, 2) := by decide +kernel
theorem dX6_years_95 : decode cX6_years 95 = .ok (.iload 5, 2) := by decide +kernel
theorem dX6_years_97 : decode cX6_years 97 = .ok (.sipush 5000, 3) := by decide +kernel
theorem dX6_years_100 : decode cX6_years 100 = .ok (.if_icmp .ge 9, 3) := by decide +kernel
theorem dX6_years_103 : decode cX6_years 103 = .ok (.sipush 5000, 3) := by decide +kernel
theorem dX6_years_106 : decode cX6_years 106 = .ok (.goto 5, 3) := by decide +kernel
theorem dX6_years_109 : decode cX6_years 109 = .ok (.iload 5, 2) := by decide +kernel
theorem dX6_years_111 : decode cX6_years 111 = .ok (.iastore, 1) := by decide +kernel
theorem dX6_years_112 : decode cX6_years 112 = .ok (.iinc 4 1, 3) := by decide +kernel
theorem dX6_years_115 : decode cX6_years 115 = .ok (.goto (-65), 3) := by decide +kernel
theorem dX6_years_118 : decode cX6_years 118 = .ok (.iinc 3 1, 3) := by decide +kernel
theorem dX6_years_121 : decode cX6_years 121 = .ok (.goto (-79), 3) := by decide +kernel
theorem dX6_years_124 : decode cX6_years 124 = .ok (.aload_n 0, 1) := by decide +kernel
theorem dX6_years_125 : decode cX6_years 125 = .ok (.dup, 1) := by decide +kernel
theorem dX6_years_126 : decode cX6_years 126 = .ok (.getfield 141, 3) := by decide +kernel
theorem dX6_years_129 : decode cX6_years 129 = .ok (.iload_n 1, 1) := by decide +kernel
theorem dX6_years_130 : decode cX6_years 130 = .ok (.iadd, 1) := by decide +kernel
theorem dX6_years_131 : decode cX6_years 131 = .ok (.putfield 141, 3) := by decide +kernel
theorem dX6_years_134 : decode cX6_years 134 = .ok (.aload_n 0, 1) := by decide +kernel
theorem dX6_years_135 : decode cX6_years 135 = .ok (.getfield 141, 3) := by decide +kernel
theorem dX6_years_138 : decode cX6_years 138 = .ok (.ireturn, 1) := by decide +kernel
theorem dX6_tune_0 : decode cX6_tune 0 = .ok (.aload_n 0, 1) := by decide +kernel
theorem dX6_tune_1 : decode cX6_tune 1 = .ok (.iload_n 1, 1) := by decide +kernel
theorem dX6_tune_2 : decode cX6_tune 2 = .ok (.invokestatic 137, 3) := by decide +kernel
theorem dX6_tune_5 : decode cX6_tune 5 = .ok (.ifCond .eq 14, 3) := by decide +kernel
theorem dX6_tune_8 : decode cX6_tune 8 = .ok (.iload_n 2, 1) := by decide +kernel
theorem dX6_tune_9 : decode cX6_tune 9 = .ok (.invokestatic 137, 3) := by decide +kernel
theorem dX6_tune_12 : decode cX6_tune 12 = .ok (.ifCond .eq 7, 3) := by decide +kernel
theorem dX6_tune_15 : decode cX6_tune 15 = .ok (.iconst 1, 1) := by decide +kernel
theorem dX6_tune_16 : decode cX6_tune 16 = .ok (.goto 4, 3) := by decide +kernel
theorem dX6_tune_19 : decode cX6_tune 19 = .ok (.iconst 0, 1) := by decide +kernel
theorem dX6_tune_20 : decode cX6_tune 20 = .ok (.iload_n 1, 1) := by decide +kernel
theorem dX6_tune_21 : decode cX6_tune 21 = .ok (.iload_n 2, 1) := by decide +kernel
theorem dX6_tune_22 : decode cX6_tune 22 = .ok (.if_icmp .eq 7, 3) := by decide +kernel
theorem dX6_tune_25 : decode cX6_tune 25 = .ok (.iconst 1, 1) := by decide +kernel
theorem dX6_tune_26 : decode cX6_tune 26 = .ok (.goto 4, 3) := by decide +kernel
theorem dX6_tune_29 : decode cX6_tune 29 = .ok (.iconst 0, 1) := by decide +kernel
theorem dX6_tune_30 : decode cX6_tune 30 = .ok (.iconst 1, 1) := by decide +kernel
theorem dX6_tune_31 : decode cX6_tune 31 = .ok (.invokevirtual 71, 3) := by decide +kernel
theorem dX6_tune_34 : decode cX6_tune 34 = .ok (.ifCond .ne 5, 3) := by decide +kernel
theorem dX6_tune_37 : decode cX6_tune 37 = .ok (.iconst 0, 1) := by decide +kernel
theorem dX6_tune_38 : decode cX6_tune 38 = .ok (.ireturn, 1) := by decide +kernel
theorem dX6_tune_39 : decode cX6_tune 39 = .ok (.aload_n 0, 1) := by decide +kernel
theorem dX6_tune_40 : decode cX6_tune 40 = .ok (.getfield 30, 3) := by decide +kernel
theorem dX6_tune_43 : decode cX6_tune 43 = .ok (.bipush 8, 2) := by decide +kernel
theorem dX6_tune_45 : decode cX6_tune 45 = .ok (.iload_n 1, 1) := by decide +kernel
theorem dX6_tune_46 : decode cX6_tune 46 = .ok (.imul, 1) := by decide +kernel
theorem dX6_tune_47 : decode cX6_tune 47 = .ok (.iconst 1, 1) := by decide +kernel
theorem dX6_tune_48 : decode cX6_tune 48 = .ok (.iadd, 1) := by decide +kernel
theorem dX6_tune_49 : decode cX6_tune 49 = .ok (.iaload, 1) := by decide +kernel
theorem dX6_tune_50 : decode cX6_tune 50 = .ok (.i2l, 1) := by decide +kernel
theorem dX6_tune_51 : decode cX6_tune 51 = .ok (.lstore_n 3, 1) := by decide +kernel
theorem dX6_tune_52 : decode cX6_tune 52 = .ok (.aload_n 0, 1) := by decide +kernel
theorem dX6_tune_53 : decode cX6_tune 53 = .ok (.getfield 30, 3) := by decide +kernel
theorem dX6_tune_56 : decode cX6_tune 56 = .ok (.bipush 8, 2) := by decide +kernel
theorem dX6_tune_58 : decode cX6_tune 58 = .ok (.iload_n 2, 1) := by decide +kernel
theorem dX6_tune_59 : decode cX6_tune 59 = .ok (.imul, 1) := by decide +kernel
theorem dX6_tune_60 : decode cX6_tune 60 = .ok (.iconst 1, 1) := by decide +kernel
theorem dX6_tune_61 : decode cX6_tune 61 = .ok (.iadd, 1) := by decide +kernel
theorem dX6_tune_62 : decode cX6_tune 62 = .ok (.iaload, 1) := by decide +kernel
theorem dX6_tune_63 : decode cX6_tune 63 = .ok (.i2l, 1) := by decide +kernel
theorem dX6_tune_64 : decode cX6_tune 64 = .ok (.lstore 5, 2) := by decide +kernel
theorem dX6_tune_66 : decode cX6_tune 66 = .ok (.iconst 1, 1) := by decide +kernel
theorem dX6_tune_67 : decode cX6_tune 67 = .ok (.istore 7, 2) := by decide +kernel
theorem dX6_tune_69 : decode cX6_tune 69 = .ok (.iload 7, 2) := by decide +kernel
theorem dX6_tune_71 : decode cX6_tune 71 = .ok (.bipush 7, 2) := by decide +kernel
theorem dX6_tune_73 : decode cX6_tune 73 = .ok (.if_icmp .gt 73, 3) := by decide +kernel
theorem dX6_tune_76 : decode cX6_tune 76 = .ok (.aload_n 0, 1) := by decide +kernel
theorem dX6_tune_77 : decode cX6_tune 77 = .ok (.getfield 30, 3) := by decide +kernel
theorem dX6_tune_80 : decode cX6_tune 80 = .ok (.bipush 8, 2) := by decide +kernel
theorem dX6_tune_82 : decode cX6_tune 82 = .ok (.iload_n 1, 1) := by decide +kernel
theorem dX6_tune_83 : decode cX6_tune 83 = .ok (.imul, 1) := by decide +kernel
theorem dX6_tune_84 : decode cX6_tune 84 = .ok (.iload 7, 2) := by decide +kernel
theorem dX6_tune_86 : decode cX6_tune 86 = .ok (.iadd, 1) := by decide +kernel
theorem dX6_tune_87 : decode cX6_tune 87 = .ok (.iaload, 1) := by decide +kernel
theorem dX6_tune_88 : decode cX6_tune 88 = .ok (.i2l, 1) := by decide +kernel
theorem dX6_tune_89 : decode cX6_tune 89 = .ok (.lload 5, 2) := by decide +kernel
theorem dX6_tune_91 : decode cX6_tune 91 = .ok (.lmul, 1) := by decide +kernel
theorem dX6_tune_92 : decode cX6_tune 92 = .ok (.lload_n 3, 1) := by decide +kernel
theorem dX6_tune_93 : decode cX6_tune 93 = .ok (.ldiv, 1) := by decide +kernel
theorem dX6_tune_94 : decode cX6_tune 94 = .ok (.lstore 8, 2) := by decide +kernel
theorem dX6_tune_96 : decode cX6_tune 96 = .ok (.aload_n 0, 1) := by decide +kernel
theorem dX6_tune_97 : decode cX6_tune 97 = .ok (.getfield 30, 3) := by decide +kernel
theorem dX6_tune_100 : decode cX6_tune 100 = .ok (.bipush 8, 2) := by decide +kernel
theorem dX6_tune_102 : decode cX6_tune 102 = .ok (.iload_n 1, 1) := by decide +kernel
theorem dX6_tune_103 : decode cX6_tune 103 = .ok (.imul, 1) := by decide +kernel
theorem dX6_tune_104 : decode cX6_tune 104 = .ok (.iload 7, 2) := by decide +kernel
theorem dX6_tune_106 : decode cX6_tune 106 = .ok (.iadd, 1) := by decide +kernel
theorem dX6_tune_107 : decode cX6_tune 107 = .ok (.lload 8, 2) := by decide +kernel
theorem dX6_tune_109 : decode cX6_tune 109 = .ok (.ldc2_w 144, 3) := by decide +kernel
theorem dX6_tune_112 : decode cX6_tune 112 = .ok (.lcmp, 1) := by decide +kernel
theorem dX6_tune_113 : decode cX6_tune 113 = .ok (.ifCond .ge 9, 3) := by decide +kernel
theorem dX6_tune_116 : decode cX6_tune 116 = .ok (.sipush 5000, 3) := by decide +kernel
theorem dX6_tune_119 : decode cX6_tune 119 = .ok (.goto 20, 3) := by decide +kernel
theorem dX6_tune_122 : decode cX6_tune 122 = .ok (.lload 8, 2) := by decide +kernel
theorem dX6_tune_124 : decode cX6_tune 124 = .ok (.ldc2_w 146, 3) := by decide +kernel
theorem dX6_tune_127 : decode cX6_tune 127 = .ok (.lcmp, 1) := by decide +kernel
theorem dX6_tune_128 : decode cX6_tune 128 = .ok (.ifCond .le 8, 3) := by decide +kernel
theorem dX6_tune_131 : decode cX6_tune 131 = .ok (.ldc 140, 2) := by decide +kernel
theorem dX6_tune_133 : decode cX6_tune 133 = .ok (.goto 6, 3) := by decide +kernel
theorem dX6_tune_136 : decode cX6_tune 136 = .ok (.lload 8, 2) := by decide +kernel
theorem dX6_tune_138 : decode cX6_tune 138 = .ok (.l2i, 1) := by decide +kernel
theorem dX6_tune_139 : decode cX6_tune 139 = .ok (.iastore, 1) := by decide +kernel
theorem dX6_tune_140 : decode cX6_tune 140 = .ok (.iinc 7 1, 3) := by decide +kernel
theorem dX6_tune_143 : decode cX6_tune 143 = .ok (.goto (-74), 3) := by decide +kernel
theorem dX6_tune_146 : decode cX6_tune 146 = .ok (.aload_n 0, 1) := by decide +kernel
theorem dX6_tune_147 : decode cX6_tune 147 = .ok (.getfield 30, 3) := by decide +kernel
theorem dX6_tune_150 : decode cX6_tune 150 = .ok (.bipush 8, 2) := by decide +kernel
theorem dX6_tune_152 : decode cX6_tune 152 = .ok (.iload_n 1, 1) := by decide +kernel
theorem dX6_tune_153 : decode cX6_tune 153 = .ok (.imul, 1) := by decide +kernel
theorem dX6_tune_154 : decode cX6_tune 154 = .ok (.iconst 1, 1) := by decide +kernel
theorem dX6_tune_155 : decode cX6_tune 155 = .ok (.iadd, 1) := by decide +kernel
theorem dX6_tune_156 : decode cX6_tune 156 = .ok (.iaload, 1) := by decide +kernel
theorem dX6_tune_157 : decode cX6_tune 157 = .ok (.ireturn, 1) := by decide +kernel
theorem dX6_beat_0 : decode cX6_beat 0 = .ok (.aload_n 0, 1) := by decide +kernel
theorem dX6_beat_1 : decode cX6_beat 1 = .ok (.iload_n 1, 1) := by decide +kernel
theorem dX6_beat_2 : decode cX6_beat 2 = .ok (.invokestatic 137, 3) := by decide +kernel
theorem dX6_beat_5 : decode cX6_beat 5 = .ok (.ifCond .eq 24, 3) := by decide +kernel
theorem dX6_beat_8 : decode cX6_beat 8 = .ok (.iload_n 2, 1) := by decide +kernel
theorem dX6_beat_9 : decode cX6_beat 9 = .ok (.invokestatic 137, 3) := by decide +kernel
theorem dX6_beat_12 : decode cX6_beat 12 = .ok (.ifCond .eq 17, 3) := by decide +kernel
theorem dX6_beat_15 : decode cX6_beat 15 = .ok (.iload_n 3, 1) := by decide +kernel
theorem dX6_beat_16 : decode cX6_beat 16 = .ok (.iconst 1, 1) := by decide +kernel
theorem dX6_beat_17 : decode cX6_beat 17 = .ok (.bipush 7, 2) := by decide +kernel
theorem dX6_beat_19 : decode cX6_beat 19 = .ok (.invokestatic 53, 3) := by decide +kernel
theorem dX6_beat_22 : decode cX6_beat 22 = .ok (.ifCond .eq 7, 3) := by decide +kernel
theorem dX6_beat_25 : decode cX6_beat 25 = .ok (.iconst 1, 1) := by decide +kernel
theorem dX6_beat_26 : decode cX6_beat 26 = .ok (.goto 4, 3) := by decide +kernel
theorem dX6_beat_29 : decode cX6_beat 29 = .ok (.iconst 0, 1) := by decide +kernel
theorem dX6_beat_30 : decode cX6_beat 30 = .ok (.iconst 1, 1) := by decide +kernel
theorem dX6_beat_31 : decode cX6_beat 31 = .ok (.iconst 1, 1) := by decide +kernel
theorem dX6_beat_32 : decode cX6_beat 32 = .ok (.invokevirtual 71, 3) := by decide +kernel
theorem dX6_beat_35 : decode cX6_beat 35 = .ok (.ifCond .ne 5, 3) := by decide +kernel
theorem dX6_beat_38 : decode cX6_beat 38 = .ok (.iconst 0, 1) := by decide +kernel
theorem dX6_beat_39 : decode cX6_beat 39 = .ok (.ireturn, 1) := by decide +kernel
theorem dX6_beat_40 : decode cX6_beat 40 = .ok (.aload_n 0, 1) := by decide +kernel
theorem dX6_beat_41 : decode cX6_beat 41 = .ok (.getfield 30, 3) := by decide +kernel
theorem dX6_beat_44 : decode cX6_beat 44 = .ok (.bipush 8, 2) := by decide +kernel
theorem dX6_beat_46 : decode cX6_beat 46 = .ok (.iload_n 1, 1) := by decide +kernel
theorem dX6_beat_47 : decode cX6_beat 47 = .ok (.imul, 1) := by decide +kernel
theorem dX6_beat_48 : decode cX6_beat 48 = .ok (.iload_n 3, 1) := by decide +kernel
theorem dX6_beat_49 : decode cX6_beat 49 = .ok (.iadd, 1) := by decide +kernel
theorem dX6_beat_50 : decode cX6_beat 50 = .ok (.iaload, 1) := by decide +kernel
theorem dX6_beat_51 : decode cX6_beat 51 = .ok (.aload_n 0, 1) := by decide +kernel
theorem dX6_beat_52 : decode cX6_beat 52 = .ok (.getfield 30, 3) := by decide +kernel
theorem dX6_beat_55 : decode cX6_beat 55 = .ok (.bipush 8, 2) := by decide +kernel
theorem dX6_beat_57 : decode cX6_beat 57 = .ok (.iload_n 2, 1) := by decide +kernel
theorem dX6_beat_58 : decode cX6_beat 58 = .ok (.imul, 1) := by decide +kernel
theorem dX6_beat_59 : decode cX6_beat 59 = .ok (.iload_n 3, 1) := by decide +kernel
theorem dX6_beat_60 : decode cX6_beat 60 = .ok (.iadd, 1) := by decide +kernel
theorem dX6_beat_61 : decode cX6_beat 61 = .ok (.iaload, 1) := by decide +kernel
theorem dX6_beat_62 : decode cX6_beat 62 = .ok (.isub, 1) := by decide +kernel
theorem dX6_beat_63 : decode cX6_beat 63 = .ok (.istore 4, 2) := by decide +kernel
theorem dX6_beat_65 : decode cX6_beat 65 = .ok (.iload 4, 2) := by decide +kernel
theorem dX6_beat_67 : decode cX6_beat 67 = .ok (.ifCond .ge 9, 3) := by decide +kernel
theorem dX6_beat_70 : decode cX6_beat 70 = .ok (.iload 4, 2) := by decide +kernel
theorem dX6_beat_72 : decode cX6_beat 72 = .ok (.ineg, 1) := by decide +kernel
theorem dX6_beat_73 : decode cX6_beat 73 = .ok (.goto 5, 3) := by decide +kernel
theorem dX6_beat_76 : decode cX6_beat 76 = .ok (.iload 4, 2) := by decide +kernel
theorem dX6_beat_78 : decode cX6_beat 78 = .ok (.ireturn, 1) := by decide +kernel
theorem dX6_player_0 : decode cX6_player 0 = .ok (.aload_n 0, 1) := by decide +kernel
theorem dX6_player_1 : decode cX6_player 1 = .ok (.iload_n 1, 1) := by decide +kernel
theorem dX6_player_2 : decode cX6_player 2 = .ok (.iconst 0, 1) := by decide +kernel
theorem dX6_player_3 : decode cX6_player 3 = .ok (.bipush 15, 2) := by decide +kernel
theorem dX6_player_5 : decode cX6_player 5 = .ok (.invokestatic 53, 3) := by decide +kernel
theorem dX6_player_8 : decode cX6_player 8 = .ok (.aload_n 0, 1) := by decide +kernel
theorem dX6_player_9 : decode cX6_player 9 = .ok (.getfield 68, 3) := by decide +kernel
theorem dX6_player_12 : decode cX6_player 12 = .ok (.bipush 8, 2) := by decide +kernel
theorem dX6_player_14 : decode cX6_player 14 = .ok (.if_icmp .ge 7, 3) := by decide +kernel
theorem dX6_player_17 : decode cX6_player 17 = .ok (.iconst 1, 1) := by decide +kernel
theorem dX6_player_18 : decode cX6_player 18 = .ok (.goto 4, 3) := by decide +kernel
theorem dX6_player_21 : decode cX6_player 21 = .ok (.iconst 0, 1) := by decide +kernel
theorem dX6_player_22 : decode cX6_player 22 = .ok (.iconst 1, 1) := by decide +kernel
theorem dX6_player_23 : decode cX6_player 23 = .ok (.invokevirtual 71, 3) := by decide +kernel
theorem dX6_player_26 : decode cX6_player 26 = .ok (.ifCond .ne 5, 3) := by decide +kernel
theorem dX6_player_29 : decode cX6_player 29 = .ok (.iconst 0, 1) := by decide +kernel
theorem dX6_player_30 : decode cX6_player 30 = .ok (.ireturn, 1) := by decide +kernel
theorem dX6_player_31 : decode cX6_player 31 = .ok (.aload_n 0, 1) := by decide +kernel
theorem dX6_player_32 : decode cX6_player 32 = .ok (.getfield 36, 3) := by decide +kernel
theorem dX6_player_35 : decode cX6_player 35 = .ok (.aload_n 0, 1) := by decide +kernel
theorem dX6_player_36 : decode cX6_player 36 = .ok (.getfield 68, 3) := by decide +kernel
theorem dX6_player_39 : decode cX6_player 39 = .ok (.iload_n 1, 1) := by decide +kernel
theorem dX6_player_40 : decode cX6_player 40 = .ok (.iastore, 1) := by decide +kernel
theorem dX6_player_41 : decode cX6_player 41 = .ok (.aload_n 0, 1) := by decide +kernel
theorem dX6_player_42 : decode cX6_player 42 = .ok (.dup, 1) := by decide +kernel
theorem dX6_player_43 : decode cX6_player 43 = .ok (.getfield 68, 3) := by decide +kernel
theorem dX6_player_46 : decode cX6_player 46 = .ok (.iconst 1, 1) := by decide +kernel
theorem dX6_player_47 : decode cX6_player 47 = .ok (.iadd, 1) := by decide +kernel
theorem dX6_player_48 : decode cX6_player 48 = .ok (.putfield 68, 3) := by decide +kernel
theorem dX6_player_51 : decode cX6_player 51 = .ok (.aload_n 0, 1) := by decide +kernel
theorem dX6_player_52 : decode cX6_player 52 = .ok (.getfield 68, 3) := by decide +kernel
theorem dX6_player_55 : decode cX6_player 55 = .ok (.iconst 1, 1) := by decide +kernel
theorem dX6_player_56 : decode cX6_player 56 = .ok (.isub, 1) := by decide +kernel
theorem dX6_player_57 : decode cX6_player 57 = .ok (.ireturn, 1) := by decide +kernel
theorem dX6_knowsIt_0 : decode cX6_knowsIt 0 = .ok (.iload_n 1, 1) := by decide +kernel
theorem dX6_knowsIt_1 : decode cX6_knowsIt 1 = .ok (.iconst (-1), 1) := by decide +kernel
theorem dX6_knowsIt_2 : decode cX6_knowsIt 2 = .ok (.if_icmp .eq 17, 3) := by decide +kernel
theorem dX6_knowsIt_5 : decode cX6_knowsIt 5 = .ok (.aload_n 0, 1) := by decide +kernel
theorem dX6_knowsIt_6 : decode cX6_knowsIt 6 = .ok (.getfield 39, 3) := by decide +kernel
theorem dX6_knowsIt_9 : decode cX6_knowsIt 9 = .ok (.bipush 6, 2) := by decide +kernel
theorem dX6_knowsIt_11 : decode cX6_knowsIt 11 = .ok (.iload_n 1, 1) := by decide +kernel
theorem dX6_knowsIt_12 : decode cX6_knowsIt 12 = .ok (.imul, 1) := by decide +kernel
theorem dX6_knowsIt_13 : decode cX6_knowsIt 13 = .ok (.iload_n 2, 1) := by decide +kernel
theorem dX6_knowsIt_14 : decode cX6_knowsIt 14 = .ok (.iadd, 1) := by decide +kernel
theorem dX6_knowsIt_15 : decode cX6_knowsIt 15 = .ok (.baload, 1) := by decide +kernel
theorem dX6_knowsIt_16 : decode cX6_knowsIt 16 = .ok (.ifCond .eq 7, 3) := by decide +kernel
theorem dX6_knowsIt_19 : decode cX6_knowsIt 19 = .ok (.iconst 1, 1) := by decide +kernel
theorem dX6_knowsIt_20 : decode cX6_knowsIt 20 = .ok (.goto 4, 3) := by decide +kernel
theorem dX6_knowsIt_23 : decode cX6_knowsIt 23 = .ok (.iconst 0, 1) := by decide +kernel
theorem dX6_knowsIt_24 : decode cX6_knowsIt 24 = .ok (.ireturn, 1) := by decide +kernel
theorem dX6_toneOf_0 : decode cX6_toneOf 0 = .ok (.iload_n 1, 1) := by decide +kernel
theorem dX6_toneOf_1 : decode cX6_toneOf 1 = .ok (.iconst (-1), 1) := by decide +kernel
theorem dX6_toneOf_2 : decode cX6_toneOf 2 = .ok (.if_icmp .ne 17, 3) := by decide +kernel
theorem dX6_toneOf_5 : decode cX6_toneOf 5 = .ok (.aload_n 0, 1) := by decide +kernel
theorem dX6_toneOf_6 : decode cX6_toneOf 6 = .ok (.getfield 19, 3) := by decide +kernel
theorem dX6_toneOf_9 : decode cX6_toneOf 9 = .ok (.bipush 65, 2) := by decide +kernel
theorem dX6_toneOf_11 : decode cX6_toneOf 11 = .ok (.iload_n 2, 1) := by decide +kernel
theorem dX6_toneOf_12 : decode cX6_toneOf 12 = .ok (.imul, 1) := by decide +kernel
theorem dX6_toneOf_13 : decode cX6_toneOf 13 = .ok (.iload_n 3, 1) := by decide +kernel
theorem dX6_toneOf_14 : decode cX6_toneOf 14 = .ok (.iadd, 1) := by decide +kernel
theorem dX6_toneOf_15 : decode cX6_toneOf 15 = .ok (.iaload, 1) := by decide +kernel
theorem dX6_toneOf_16 : decode cX6_toneOf 16 = .ok (.goto 19, 3) := by decide +kernel
theorem dX6_toneOf_19 : decode cX6_toneOf 19 = .ok (.aload_n 0, 1) := by decide +kernel
theorem dX6_toneOf_20 : decode cX6_toneOf 20 = .ok (.getfield 43, 3) := by decide +kernel
theorem dX6_toneOf_23 : decode cX6_toneOf 23 = .ok (.bipush 65, 2) := by decide +kernel
theorem dX6_toneOf_25 : decode cX6_toneOf 25 = .ok (.bipush 6, 2) := by decide +kernel
theorem dX6_toneOf_27 : decode cX6_toneOf 27 = .ok (.iload_n 1, 1) := by decide +kernel
theorem dX6_toneOf_28 : decode cX6_toneOf 28 = .ok (.imul, 1) := by decide +kernel
theorem dX6_toneOf_29 : decode cX6_toneOf 29 = .ok (.iload_n 2, 1) := by decide +kernel
theorem dX6_toneOf_30 : decode cX6_toneOf 30 = .ok (.iadd, 1) := by decide +kernel
theorem dX6_toneOf_31 : decode cX6_toneOf 31 = .ok (.imul, 1) := by decide +kernel
theorem dX6_toneOf_32 : decode cX6_toneOf 32 = .ok (.iload_n 3, 1) := by decide +kernel
theorem dX6_toneOf_33 : decode cX6_toneOf 33 = .ok (.iadd, 1) := by decide +kernel
theorem dX6_toneOf_34 : decode cX6_toneOf 34 = .ok (.iaload, 1) := by decide +kernel
theorem dX6_toneOf_35 : decode cX6_toneOf 35 = .ok (.ireturn, 1) := by decide +kernel
theorem dX6_learn_0 : decode cX6_learn 0 = .ok (.aload_n 0, 1) := by decide +kernel
theorem dX6_learn_1 : decode cX6_learn 1 = .ok (.iload_n 1, 1) := by decide +kernel
theorem dX6_learn_2 : decode cX6_learn 2 = .ok (.invokevirtual 148, 3) := by decide +kernel
theorem dX6_learn_5 : decode cX6_learn 5 = .ok (.ifCond .eq 28, 3) := by decide +kernel
theorem dX6_learn_8 : decode cX6_learn 8 = .ok (.aload_n 0, 1) := by decide +kernel
theorem dX6_learn_9 : decode cX6_learn 9 = .ok (.iload_n 2, 1) := by decide +kernel
theorem dX6_learn_10 : decode cX6_learn 10 = .ok (.invokevirtual 60, 3) := by decide +kernel
theorem dX6_learn_13 : decode cX6_learn 13 = .ok (.ifCond .eq 20, 3) := by decide +kernel
theorem dX6_learn_16 : decode cX6_learn 16 = .ok (.iload_n 3, 1) := by decide +kernel
theorem dX6_learn_17 : decode cX6_learn 17 = .ok (.iconst (-1), 1) := by decide +kernel
theorem dX6_learn_18 : decode cX6_learn 18 = .ok (.if_icmp .eq 11, 3) := by decide +kernel
theorem dX6_learn_21 : decode cX6_learn 21 = .ok (.aload_n 0, 1) := by decide +kernel
theorem dX6_learn_22 : decode cX6_learn 22 = .ok (.iload_n 3, 1) := by decide +kernel
theorem dX6_learn_23 : decode cX6_learn 23 = .ok (.invokevirtual 148, 3) := by decide +kernel
theorem dX6_learn_26 : decode cX6_learn 26 = .ok (.ifCond .eq 7, 3) := by decide +kernel
theorem dX6_learn_29 : decode cX6_learn 29 = .ok (.iconst 1, 1) := by decide +kernel
theorem dX6_learn_30 : decode cX6_learn 30 = .ok (.goto 4, 3) := by decide +kernel
theorem dX6_learn_33 : decode cX6_learn 33 = .ok (.iconst 0, 1) := by decide +kernel
theorem dX6_learn_34 : decode cX6_learn 34 = .ok (.istore 4, 2) := by decide +kernel
theorem dX6_learn_36 : decode cX6_learn 36 = .ok (.aload_n 0, 1) := by decide +kernel
theorem dX6_learn_37 : decode cX6_learn 37 = .ok (.iload 4, 2) := by decide +kernel
theorem dX6_learn_39 : decode cX6_learn 39 = .ok (.iload_n 3, 1) := by decide +kernel
theorem dX6_learn_40 : decode cX6_learn 40 = .ok (.iload_n 1, 1) := by decide +kernel
theorem dX6_learn_41 : decode cX6_learn 41 = .ok (.if_icmp .eq 7, 3) := by decide +kernel
theorem dX6_learn_44 : decode cX6_learn 44 = .ok (.iconst 1, 1) := by decide +kernel
theorem dX6_learn_45 : decode cX6_learn 45 = .ok (.goto 4, 3) := by decide +kernel
theorem dX6_learn_48 : decode cX6_learn 48 = .ok (.iconst 0, 1) := by decide +kernel
theorem dX6_learn_49 : decode cX6_learn 49 = .ok (.iload 4, 2) := by decide +kernel
theorem dX6_learn_51 : decode cX6_learn 51 = .ok (.ifCond .eq 16, 3) := by decide +kernel
theorem dX6_learn_54 : decode cX6_learn 54 = .ok (.aload_n 0, 1) := by decide +kernel
theorem dX6_learn_55 : decode cX6_learn 55 = .ok (.iload_n 3, 1) := by decide +kernel
theorem dX6_learn_56 : decode cX6_learn 56 = .ok (.iload_n 2, 1) := by decide +kernel
theorem dX6_learn_57 : decode cX6_learn 57 = .ok (.invokevirtual 151, 3) := by decide +kernel
theorem dX6_learn_60 : decode cX6_learn 60 = .ok (.ifCond .eq 7, 3) := by decide +kernel
theorem dX6_learn_63 : decode cX6_learn 63 = .ok (.iconst 1, 1) := by decide +kernel
theorem dX6_learn_64 : decode cX6_learn 64 = .ok (.goto 4, 3) := by decide +kernel
theorem dX6_learn_67 : decode cX6_learn 67 = .ok (.iconst 0, 1) := by decide +kernel
theorem dX6_learn_68 : decode cX6_learn 68 = .ok (.invokevirtual 71, 3) := by decide +kernel
theorem dX6_learn_71 : decode cX6_learn 71 = .ok (.ifCond .ne 5, 3) := by decide +kernel
theorem dX6_learn_74 : decode cX6_learn 74 = .ok (.iconst 0, 1) := by decide +kernel
theorem dX6_learn_75 : decode cX6_learn 75 = .ok (.ireturn, 1) := by decide +kernel
theorem dX6_learn_76 : decode cX6_learn 76 = .ok (.iconst 1, 1) := by decide +kernel
theorem dX6_learn_77 : decode cX6_learn 77 = .ok (.istore 5, 2) := by decide +kernel
theorem dX6_learn_79 : decode cX6_learn 79 = .ok (.iload 5, 2) := by decide +kernel
theorem dX6_learn_81 : decode cX6_learn 81 = .ok (.aload_n 0, 1) := by decide +kernel
theorem dX6_learn_82 : decode cX6_learn 82 = .ok (.iload_n 2, 1) := by decide +kernel
theorem dX6_learn_83 : decode cX6_learn 83 = .ok (.invokevirtual 64, 3) := by decide +kernel
theorem dX6_learn_86 : decode cX6_learn 86 = .ok (.if_icmp .gt 34, 3) := by decide +kernel
theorem dX6_learn_89 : decode cX6_learn 89 = .ok (.aload_n 0, 1) := by decide +kernel
theorem dX6_learn_90 : decode cX6_learn 90 = .ok (.getfield 43, 3) := by decide +kernel
theorem dX6_learn_93 : decode cX6_learn 93 = .ok (.bipush 65, 2) := by decide +kernel
theorem dX6_learn_95 : decode cX6_learn 95 = .ok (.bipush 6, 2) := by decide +kernel
theorem dX6_learn_97 : decode cX6_learn 97 = .ok (.iload_n 1, 1) := by decide +kernel
theorem dX6_learn_98 : decode cX6_learn 98 = .ok (.imul, 1) := by decide +kernel
theorem dX6_learn_99 : decode cX6_learn 99 = .ok (.iload_n 2, 1) := by decide +kernel
theorem dX6_learn_100 : decode cX6_learn 100 = .ok (.iadd, 1) := by decide +kernel
theorem dX6_learn_101 : decode cX6_learn 101 = .ok (.imul, 1) := by decide +kernel
theorem dX6_learn_102 : decode cX6_learn 102 = .ok (.iload 5, 2) := by decide +kernel
theorem dX6_learn_104 : decode cX6_learn 104 = .ok (.iadd, 1) := by decide +kernel
theorem dX6_learn_105 : decode cX6_learn 105 = .ok (.aload_n 0, 1) := by decide +kernel
theorem dX6_learn_106 : decode cX6_learn 106 = .ok (.iload_n 3, 1) := by decide +kernel
theorem dX6_learn_107 : decode cX6_learn 107 = .ok (.iload_n 2, 1) := by decide +kernel
theorem dX6_learn_108 : decode cX6_learn 108 = .ok (.iload 5, 2) := by decide +kernel
theorem dX6_learn_110 : decode cX6_learn 110 = .ok (.invokevirtual 154, 3) := by decide +kernel
theorem dX6_learn_113 : decode cX6_learn 113 = .ok (.iastore, 1) := by decide +kernel
theorem dX6_learn_114 : decode cX6_learn 114 = .ok (.iinc 5 1, 3) := by decide +kernel
theorem dX6_learn_117 : decode cX6_learn 117 = .ok (.goto (-38), 3) := by decide +kernel
theorem dX6_learn_120 : decode cX6_learn 120 = .ok (.aload_n 0, 1) := by decide +kernel
theorem dX6_learn_121 : decode cX6_learn 121 = .ok (.getfield 39, 3) := by decide +kernel
theorem dX6_learn_124 : decode cX6_learn 124 = .ok (.bipush 6, 2) := by decide +kernel
theorem dX6_learn_126 : decode cX6_learn 126 = .ok (.iload_n 1, 1) := by decide +kernel
theorem dX6_learn_127 : decode cX6_learn 127 = .ok (.imul, 1) := by decide +kernel
theorem dX6_learn_128 : decode cX6_learn 128 = .ok (.iload_n 2, 1) := by decide +kernel
theorem dX6_learn_129 : decode cX6_learn 129 = .ok (.iadd, 1) := by decide +kernel
theorem dX6_learn_130 : decode cX6_learn 130 = .ok (.iconst 1, 1) := by decide +kernel
theorem dX6_learn_131 : decode cX6_learn 131 = .ok (.bastore, 1) := by decide +kernel
theorem dX6_learn_132 : decode cX6_learn 132 = .ok (.iconst 0, 1) := by decide +kernel
theorem dX6_learn_133 : decode cX6_learn 133 = .ok (.istore 5, 2) := by decide +kernel
theorem dX6_learn_135 : decode cX6_learn 135 = .ok (.iconst 0, 1) := by decide +kernel
theorem dX6_learn_136 : decode cX6_learn 136 = .ok (.istore 6, 2) := by decide +kernel
theorem dX6_learn_138 : decode cX6_learn 138 = .ok (.iload 6, 2) := by decide +kernel
theorem dX6_learn_140 : decode cX6_learn 140 = .ok (.aload_n 0, 1) := by decide +kernel
theorem dX6_learn_141 : decode cX6_learn 141 = .ok (.getfield 68, 3) := by decide +kernel
theorem dX6_learn_144 : decode cX6_learn 144 = .ok (.if_icmp .ge 34, 3) := by decide +kernel
theorem dX6_learn_147 : decode cX6_learn 147 = .ok (.iload 5, 2) := by decide +kernel
theorem dX6_learn_149 : decode cX6_learn 149 = .ok (.aload_n 0, 1) := by decide +kernel
theorem dX6_learn_150 : decode cX6_learn 150 = .ok (.getfield 39, 3) := by decide +kernel
theorem dX6_learn_153 : decode cX6_learn 153 = .ok (.bipush 6, 2) := by decide +kernel
theorem dX6_learn_155 : decode cX6_learn 155 = .ok (.iload 6, 2) := by decide +kernel
theorem dX6_learn_157 : decode cX6_learn 157 = .ok (.imul, 1) := by decide +kernel
theorem dX6_learn_158 : decode cX6_learn 158 = .ok (.iload_n 2, 1) := by decide +kernel
theorem dX6_learn_159 : decode cX6_learn 159 = .ok (.iadd, 1) := by decide +kernel
theorem dX6_learn_160 : decode cX6_learn 160 = .ok (.baload, 1) := by decide +kernel
theorem dX6_learn_161 : decode cX6_learn 161 = .ok (.ifCond .eq 7, 3) := by decide +kernel
theorem dX6_learn_164 : decode cX6_learn 164 = .ok (.iconst 1, 1) := by decide +kernel
theorem dX6_learn_165 : decode cX6_learn 165 = .ok (.goto 4, 3) := by decide +kernel
theorem dX6_learn_168 : decode cX6_learn 168 = .ok (.iconst 0, 1) := by decide +kernel
theorem dX6_learn_169 : decode cX6_learn 169 = .ok (.iadd, 1) := by decide +kernel
theorem dX6_learn_170 : decode cX6_learn 170 = .ok (.istore 5, 2) := by decide +kernel
theorem dX6_learn_172 : decode cX6_learn 172 = .ok (.iinc 6 1, 3) := by decide +kernel
theorem dX6_learn_175 : decode cX6_learn 175 = .ok (.goto (-37), 3) := by decide +kernel
theorem dX6_learn_178 : decode cX6_learn 178 = .ok (.iload 5, 2) := by decide +kernel
theorem dX6_learn_180 : decode cX6_learn 180 = .ok (.ireturn, 1) := by decide +kernel
theorem dX6_slip_0 : decode cX6_slip 0 = .ok (.aload_n 0, 1) := by decide +kernel
theorem dX6_slip_1 : decode cX6_slip 1 = .ok (.iload_n 1, 1) := by decide +kernel
theorem dX6_slip_2 : decode cX6_slip 2 = .ok (.invokevirtual 148, 3) := by decide +kernel
theorem dX6_slip_5 : decode cX6_slip 5 = .ok (.ifCond .eq 16, 3) := by decide +kernel
theorem dX6_slip_8 : decode cX6_slip 8 = .ok (.aload_n 0, 1) := by decide +kernel
theorem dX6_slip_9 : decode cX6_slip 9 = .ok (.iload_n 2, 1) := by decide +kernel
theorem dX6_slip_10 : decode cX6_slip 10 = .ok (.iload_n 3, 1) := by decide +kernel
theorem dX6_slip_11 : decode cX6_slip 11 = .ok (.invokevirtual 78, 3) := by decide +kernel
theorem dX6_slip_14 : decode cX6_slip 14 = .ok (.ifCond .eq 7, 3) := by decide +kernel
theorem dX6_slip_17 : decode cX6_slip 17 = .ok (.iconst 1, 1) := by decide +kernel
theorem dX6_slip_18 : decode cX6_slip 18 = .ok (.goto 4, 3) := by decide +kernel
theorem dX6_slip_21 : decode cX6_slip 21 = .ok (.iconst 0, 1) := by decide +kernel
theorem dX6_slip_22 : decode cX6_slip 22 = .ok (.istore 5, 2) := by decide +kernel
theorem dX6_slip_24 : decode cX6_slip 24 = .ok (.aload_n 0, 1) := by decide +kernel
theorem dX6_slip_25 : decode cX6_slip 25 = .ok (.iload 5, 2) := by decide +kernel
theorem dX6_slip_27 : decode cX6_slip 27 = .ok (.iload 4, 2) := by decide +kernel
theorem dX6_slip_29 : decode cX6_slip 29 = .ok (.iconst 0, 1) := by decide +kernel
theorem dX6_slip_30 : decode cX6_slip 30 = .ok (.bipush 7, 2) := by decide +kernel
theorem dX6_slip_32 : decode cX6_slip 32 = .ok (.invokestatic 53, 3) := by decide +kernel
theorem dX6_slip_35 : decode cX6_slip 35 = .ok (.iload 5, 2) := by decide +kernel
theorem dX6_slip_37 : decode cX6_slip 37 = .ok (.ifCond .eq 16, 3) := by decide +kernel
theorem dX6_slip_40 : decode cX6_slip 40 = .ok (.aload_n 0, 1) := by decide +kernel
theorem dX6_slip_41 : decode cX6_slip 41 = .ok (.iload_n 1, 1) := by decide +kernel
theorem dX6_slip_42 : decode cX6_slip 42 = .ok (.iload_n 2, 1) := by decide +kernel
theorem dX6_slip_43 : decode cX6_slip 43 = .ok (.invokevirtual 151, 3) := by decide +kernel
theorem dX6_slip_46 : decode cX6_slip 46 = .ok (.ifCond .eq 7, 3) := by decide +kernel
theorem dX6_slip_49 : decode cX6_slip 49 = .ok (.iconst 1, 1) := by decide +kernel
theorem dX6_slip_50 : decode cX6_slip 50 = .ok (.goto 4, 3) := by decide +kernel
theorem dX6_slip_53 : decode cX6_slip 53 = .ok (.iconst 0, 1) := by decide +kernel
theorem dX6_slip_54 : decode cX6_slip 54 = .ok (.invokevirtual 71, 3) := by decide +kernel
theorem dX6_slip_57 : decode cX6_slip 57 = .ok (.ifCond .ne 5, 3) := by decide +kernel
theorem dX6_slip_60 : decode cX6_slip 60 = .ok (.iconst 0, 1) := by decide +kernel
theorem dX6_slip_61 : decode cX6_slip 61 = .ok (.ireturn, 1) := by decide +kernel
theorem dX6_slip_62 : decode cX6_slip 62 = .ok (.bipush 65, 2) := by decide +kernel
theorem dX6_slip_64 : decode cX6_slip 64 = .ok (.bipush 6, 2) := by decide +kernel
theorem dX6_slip_66 : decode cX6_slip 66 = .ok (.iload_n 1, 1) := by decide +kernel
theorem dX6_slip_67 : decode cX6_slip 67 = .ok (.imul, 1) := by decide +kernel
theorem dX6_slip_68 : decode cX6_slip 68 = .ok (.iload_n 2, 1) := by decide +kernel
theorem dX6_slip_69 : decode cX6_slip 69 = .ok (.iadd, 1) := by decide +kernel
theorem dX6_slip_70 : decode cX6_slip 70 = .ok (.imul, 1) := by decide +kernel
theorem dX6_slip_71 : decode cX6_slip 71 = .ok (.iload_n 3, 1) := by decide +kernel
theorem dX6_slip_72 : decode cX6_slip 72 = .ok (.iadd, 1) := by decide +kernel
theorem dX6_slip_73 : decode cX6_slip 73 = .ok (.istore 6, 2) := by decide +kernel
theorem dX6_slip_75 : decode cX6_slip 75 = .ok (.aload_n 0, 1) := by decide +kernel
theorem dX6_slip_76 : decode cX6_slip 76 = .ok (.getfield 43, 3) := by decide +kernel
theorem dX6_slip_79 : decode cX6_slip 79 = .ok (.iload 6, 2) := by decide +kernel
theorem dX6_slip_81 : decode cX6_slip 81 = .ok (.iaload, 1) := by decide +kernel
theorem dX6_slip_82 : decode cX6_slip 82 = .ok (.istore 7, 2) := by decide +kernel
theorem dX6_slip_84 : decode cX6_slip 84 = .ok (.aload_n 0, 1) := by decide +kernel
theorem dX6_slip_85 : decode cX6_slip 85 = .ok (.getfield 43, 3) := by decide +kernel
theorem dX6_slip_88 : decode cX6_slip 88 = .ok (.iload 6, 2) := by decide +kernel
theorem dX6_slip_90 : decode cX6_slip 90 = .ok (.iload 4, 2) := by decide +kernel
theorem dX6_slip_92 : decode cX6_slip 92 = .ok (.iastore, 1) := by decide +kernel
theorem dX6_slip_93 : decode cX6_slip 93 = .ok (.iload 7, 2) := by decide +kernel
theorem dX6_slip_95 : decode cX6_slip 95 = .ok (.ireturn, 1) := by decide +kernel
theorem dX6_unlike_0 : decode cX6_unlike 0 = .ok (.aload_n 0, 1) := by decide +kernel
theorem dX6_unlike_1 : decode cX6_unlike 1 = .ok (.iload_n 1, 1) := by decide +kernel
theorem dX6_unlike_2 : decode cX6_unlike 2 = .ok (.invokevirtual 148, 3) := by decide +kernel
theorem dX6_unlike_5 : decode cX6_unlike 5 = .ok (.ifCond .eq 28, 3) := by decide +kernel
theorem dX6_unlike_8 : decode cX6_unlike 8 = .ok (.iload_n 2, 1) := by decide +kernel
theorem dX6_unlike_9 : decode cX6_unlike 9 = .ok (.iconst (-1), 1) := by decide +kernel
theorem dX6_unlike_10 : decode cX6_unlike 10 = .ok (.if_icmp .eq 11, 3) := by decide +kernel
theorem dX6_unlike_13 : decode cX6_unlike 13 = .ok (.aload_n 0, 1) := by decide +kernel
theorem dX6_unlike_14 : decode cX6_unlike 14 = .ok (.iload_n 2, 1) := by decide +kernel
theorem dX6_unlike_15 : decode cX6_unlike 15 = .ok (.invokevirtual 148, 3) := by decide +kernel
theorem dX6_unlike_18 : decode cX6_unlike 18 = .ok (.ifCond .eq 15, 3) := by decide +kernel
theorem dX6_unlike_21 : decode cX6_unlike 21 = .ok (.aload_n 0, 1) := by decide +kernel
theorem dX6_unlike_22 : decode cX6_unlike 22 = .ok (.iload_n 3, 1) := by decide +kernel
theorem dX6_unlike_23 : decode cX6_unlike 23 = .ok (.invokevirtual 60, 3) := by decide +kernel
theorem dX6_unlike_26 : decode cX6_unlike 26 = .ok (.ifCond .eq 7, 3) := by decide +kernel
theorem dX6_unlike_29 : decode cX6_unlike 29 = .ok (.iconst 1, 1) := by decide +kernel
theorem dX6_unlike_30 : decode cX6_unlike 30 = .ok (.goto 4, 3) := by decide +kernel
theorem dX6_unlike_33 : decode cX6_unlike 33 = .ok (.iconst 0, 1) := by decide +kernel
theorem dX6_unlike_34 : decode cX6_unlike 34 = .ok (.istore 4, 2) := by decide +kernel
theorem dX6_unlike_36 : decode cX6_unlike 36 = .ok (.aload_n 0, 1) := by decide +kernel
theorem dX6_unlike_37 : decode cX6_unlike 37 = .ok (.iload 4, 2) := by decide +kernel
theorem dX6_unlike_39 : decode cX6_unlike 39 = .ok (.iconst 1, 1) := by decide +kernel
theorem dX6_unlike_40 : decode cX6_unlike 40 = .ok (.iconst 1, 1) := by decide +kernel
theorem dX6_unlike_41 : decode cX6_unlike 41 = .ok (.invokevirtual 71, 3) := by decide +kernel
theorem dX6_unlike_44 : decode cX6_unlike 44 = .ok (.ifCond .ne 5, 3) := by decide +kernel
theorem dX6_unlike_47 : decode cX6_unlike 47 = .ok (.iconst 0, 1) := by decide +kernel
theorem dX6_unlike_48 : decode cX6_unlike 48 = .ok (.ireturn, 1) := by decide +kernel
theorem dX6_unlike_49 : decode cX6_unlike 49 = .ok (.aload_n 0, 1) := by decide +kernel
theorem dX6_unlike_50 : decode cX6_unlike 50 = .ok (.iload_n 1, 1) := by decide +kernel
theorem dX6_unlike_51 : decode cX6_unlike 51 = .ok (.iload_n 3, 1) := by decide +kernel
theorem dX6_unlike_52 : decode cX6_unlike 52 = .ok (.invokevirtual 151, 3) := by decide +kernel
theorem dX6_unlike_55 : decode cX6_unlike 55 = .ok (.ifCond .eq 12, 3) := by decide +kernel
theorem dX6_unlike_58 : decode cX6_unlike 58 = .ok (.aload_n 0, 1) := by decide +kernel
theorem dX6_unlike_59 : decode cX6_unlike 59 = .ok (.iload_n 2, 1) := by decide +kernel
theorem dX6_unlike_60 : decode cX6_unlike 60 = .ok (.iload_n 3, 1) := by decide +kernel
theorem dX6_unlike_61 : decode cX6_unlike 61 = .ok (.invokevirtual 151, 3) := by decide +kernel
theorem dX6_unlike_64 : decode cX6_unlike 64 = .ok (.ifCond .ne 5, 3) := by decide +kernel
theorem dX6_unlike_67 : decode cX6_unlike 67 = .ok (.iconst (-1), 1) := by decide +kernel
theorem dX6_unlike_68 : decode cX6_unlike 68 = .ok (.ireturn, 1) := by decide +kernel
theorem dX6_unlike_69 : decode cX6_unlike 69 = .ok (.iconst 0, 1) := by decide +kernel
theorem dX6_unlike_70 : decode cX6_unlike 70 = .ok (.istore 5, 2) := by decide +kernel
theorem dX6_unlike_72 : decode cX6_unlike 72 = .ok (.iconst 1, 1) := by decide +kernel
theorem dX6_unlike_73 : decode cX6_unlike 73 = .ok (.istore 6, 2) := by decide +kernel
theorem dX6_unlike_75 : decode cX6_unlike 75 = .ok (.iload 6, 2) := by decide +kernel
theorem dX6_unlike_77 : decode cX6_unlike 77 = .ok (.aload_n 0, 1) := by decide +kernel
theorem dX6_unlike_78 : decode cX6_unlike 78 = .ok (.iload_n 3, 1) := by decide +kernel
theorem dX6_unlike_79 : decode cX6_unlike 79 = .ok (.invokevirtual 64, 3) := by decide +kernel
theorem dX6_unlike_82 : decode cX6_unlike 82 = .ok (.if_icmp .gt 38, 3) := by decide +kernel
theorem dX6_unlike_85 : decode cX6_unlike 85 = .ok (.iload 5, 2) := by decide +kernel
theorem dX6_unlike_87 : decode cX6_unlike 87 = .ok (.aload_n 0, 1) := by decide +kernel
theorem dX6_unlike_88 : decode cX6_unlike 88 = .ok (.iload_n 1, 1) := by decide +kernel
theorem dX6_unlike_89 : decode cX6_unlike 89 = .ok (.iload_n 3, 1) := by decide +kernel
theorem dX6_unlike_90 : decode cX6_unlike 90 = .ok (.iload 6, 2) := by decide +kernel
theorem dX6_unlike_92 : decode cX6_unlike 92 = .ok (.invokevirtual 154, 3) := by decide +kernel
theorem dX6_unlike_95 : decode cX6_unlike 95 = .ok (.aload_n 0, 1) := by decide +kernel
theorem dX6_unlike_96 : decode cX6_unlike 96 = .ok (.iload_n 2, 1) := by decide +kernel
theorem dX6_unlike_97 : decode cX6_unlike 97 = .ok (.iload_n 3, 1) := by decide +kernel
theorem dX6_unlike_98 : decode cX6_unlike 98 = .ok (.iload 6, 2) := by decide +kernel
theorem dX6_unlike_100 : decode cX6_unlike 100 = .ok (.invokevirtual 154, 3) := by decide +kernel
theorem dX6_unlike_103 : decode cX6_unlike 103 = .ok (.if_icmp .ne 7, 3) := by decide +kernel
theorem dX6_unlike_106 : decode cX6_unlike 106 = .ok (.iconst 0, 1) := by decide +kernel
theorem dX6_unlike_107 : decode cX6_unlike 107 = .ok (.goto 4, 3) := by decide +kernel
theorem dX6_unlike_110 : decode cX6_unlike 110 = .ok (.iconst 1, 1) := by decide +kernel
theorem dX6_unlike_111 : decode cX6_unlike 111 = .ok (.iadd, 1) := by decide +kernel
theorem dX6_unlike_112 : decode cX6_unlike 112 = .ok (.istore 5, 2) := by decide +kernel
theorem dX6_unlike_114 : decode cX6_unlike 114 = .ok (.iinc 6 1, 3) := by decide +kernel
theorem dX6_unlike_117 : decode cX6_unlike 117 = .ok (.goto (-42), 3) := by decide +kernel
theorem dX6_unlike_120 : decode cX6_unlike 120 = .ok (.iload 5, 2) := by decide +kernel
theorem dX6_unlike_122 : decode cX6_unlike 122 = .ok (.ireturn, 1) := by decide +kernel
theorem dX6_covered_0 : decode cX6_covered 0 = .ok (.aload_n 0, 1) := by decide +kernel
theorem dX6_covered_1 : decode cX6_covered 1 = .ok (.aload_n 0, 1) := by decide +kernel
theorem dX6_covered_2 : decode cX6_covered 2 = .ok (.iload_n 1, 1) := by decide +kernel
theorem dX6_covered_3 : decode cX6_covered 3 = .ok (.invokevirtual 60, 3) := by decide +kernel
theorem dX6_covered_6 : decode cX6_covered 6 = .ok (.iconst 1, 1) := by decide +kernel
theorem dX6_covered_7 : decode cX6_covered 7 = .ok (.iconst 1, 1) := by decide +kernel
theorem dX6_covered_8 : decode cX6_covered 8 = .ok (.invokevirtual 71, 3) := by decide +kernel
theorem dX6_covered_11 : decode cX6_covered 11 = .ok (.ifCond .ne 5, 3) := by decide +kernel
theorem dX6_covered_14 : decode cX6_covered 14 = .ok (.iconst 0, 1) := by decide +kernel
theorem dX6_covered_15 : decode cX6_covered 15 = .ok (.ireturn, 1) := by decide +kernel
theorem dX6_covered_16 : decode cX6_covered 16 = .ok (.iconst 1, 1) := by decide +kernel
theorem dX6_covered_17 : decode cX6_covered 17 = .ok (.istore_n 2, 1) := by decide +kernel
theorem dX6_covered_18 : decode cX6_covered 18 = .ok (.iconst 0, 1) := by decide +kernel
theorem dX6_covered_19 : decode cX6_covered 19 = .ok (.istore_n 3, 1) := by decide +kernel
theorem dX6_covered_20 : decode cX6_covered 20 = .ok (.iload_n 3, 1) := by decide +kernel
theorem dX6_covered_21 : decode cX6_covered 21 = .ok (.aload_n 0, 1) := by decide +kernel
theorem dX6_covered_22 : decode cX6_covered 22 = .ok (.getfield 68, 3) := by decide +kernel
theorem dX6_covered_25 : decode cX6_covered 25 = .ok (.if_icmp .ge 103, 3) := by decide +kernel
theorem dX6_covered_28 : decode cX6_covered 28 = .ok (.iload_n 2, 1) := by decide +kernel
theorem dX6_covered_29 : decode cX6_covered 29 = .ok (.istore 4, 2) := by decide +kernel
theorem dX6_covered_31 : decode cX6_covered 31 = .ok (.iconst 0, 1) := by decide +kernel
theorem dX6_covered_32 : decode cX6_covered 32 = .ok (.istore 5, 2) := by decide +kernel
theorem dX6_covered_34 : decode cX6_covered 34 = .ok (.iload 5, 2) := by decide +kernel
theorem dX6_covered_36 : decode cX6_covered 36 = .ok (.bipush 16, 2) := by decide +kernel
theorem dX6_covered_38 : decode cX6_covered 38 = .ok (.if_icmp .ge 81, 3) := by decide +kernel
theorem dX6_covered_41 : decode cX6_covered 41 = .ok (.aload_n 0, 1) := by decide +kernel
theorem dX6_covered_42 : decode cX6_covered 42 = .ok (.getfield 39, 3) := by decide +kernel
theorem dX6_covered_45 : decode cX6_covered 45 = .ok (.bipush 6, 2) := by decide +kernel
theorem dX6_covered_47 : decode cX6_covered 47 = .ok (.iload_n 3, 1) := by decide +kernel
theorem dX6_covered_48 : decode cX6_covered 48 = .ok (.imul, 1) := by decide +kernel
theorem dX6_covered_49 : decode cX6_covered 49 = .ok (.iload_n 1, 1) := by decide +kernel
theorem dX6_covered_50 : decode cX6_covered 50 = .ok (.iadd, 1) := by decide +kernel
theorem dX6_covered_51 : decode cX6_covered 51 = .ok (.baload, 1) := by decide +kernel
theorem dX6_covered_52 : decode cX6_covered 52 = .ok (.ifCond .eq 67, 3) := by decide +kernel
theorem dX6_covered_55 : decode cX6_covered 55 = .ok (.iconst 0, 1) := by decide +kernel
theorem dX6_covered_56 : decode cX6_covered 56 = .ok (.istore 6, 2) := by decide +kernel
theorem dX6_covered_58 : decode cX6_covered 58 = .ok (.iload 6, 2) := by decide +kernel
theorem dX6_covered_60 : decode cX6_covered 60 = .ok (.iconst 4, 1) := by decide +kernel
theorem dX6_covered_61 : decode cX6_covered 61 = .ok (.if_icmp .ge 52, 3) := by decide +kernel
theorem dX6_covered_64 : decode cX6_covered 64 = .ok (.iload_n 2, 1) := by decide +kernel
theorem dX6_covered_65 : decode cX6_covered 65 = .ok (.iload 5, 2) := by decide +kernel
theorem dX6_covered_67 : decode cX6_covered 67 = .ok (.ishr, 1) := by decide +kernel
theorem dX6_covered_68 : decode cX6_covered 68 = .ok (.iconst 1, 1) := by decide +kernel
theorem dX6_covered_69 : decode cX6_covered 69 = .ok (.iand, 1) := by decide +kernel
theorem dX6_covered_70 : decode cX6_covered 70 = .ok (.iconst 1, 1) := by decide +kernel
theorem dX6_covered_71 : decode cX6_covered 71 = .ok (.if_icmp .ne 42, 3) := by decide +kernel
theorem dX6_covered_74 : decode cX6_covered 74 = .ok (.iload 4, 2) := by decide +kernel
theorem dX6_covered_76 : decode cX6_covered 76 = .ok (.aload_n 0, 1) := by decide +kernel
theorem dX6_covered_77 : decode cX6_covered 77 = .ok (.getfield 36, 3) := by decide +kernel
theorem dX6_covered_80 : decode cX6_covered 80 = .ok (.iload_n 3, 1) := by decide +kernel
theorem dX6_covered_81 : decode cX6_covered 81 = .ok (.iaload, 1) := by decide +kernel
theorem dX6_covered_82 : decode cX6_covered 82 = .ok (.iload 6, 2) := by decide +kernel
theorem dX6_covered_84 : decode cX6_covered 84 = .ok (.ishr, 1) := by decide +kernel
theorem dX6_covered_85 : decode cX6_covered 85 = .ok (.iconst 1, 1) := by decide +kernel
theorem dX6_covered_86 : decode cX6_covered 86 = .ok (.iand, 1) := by decide +kernel
theorem dX6_covered_87 : decode cX6_covered 87 = .ok (.iconst 1, 1) := by decide +kernel
theorem dX6_covered_88 : decode cX6_covered 88 = .ok (.if_icmp .ne 15, 3) := by decide +kernel
theorem dX6_covered_91 : decode cX6_covered 91 = .ok (.iconst 1, 1) := by decide +kernel
theorem dX6_covered_92 : decode cX6_covered 92 = .ok (.iload 5, 2) := by decide +kernel
theorem dX6_covered_94 : decode cX6_covered 94 = .ok (.iconst 1, 1) := by decide +kernel
theorem dX6_covered_95 : decode cX6_covered 95 = .ok (.iload 6, 2) := by decide +kernel
theorem dX6_covered_97 : decode cX6_covered 97 = .ok (.ishl, 1) := by decide +kernel
theorem dX6_covered_98 : decode cX6_covered 98 = .ok (.ior, 1) := by decide +kernel
theorem dX6_covered_99 : decode cX6_covered 99 = .ok (.ishl, 1) := by decide +kernel
theorem dX6_covered_100 : decode cX6_covered 100 = .ok (.goto 4, 3) := by decide +kernel
theorem dX6_covered_103 : decode cX6_covered 103 = .ok (.iconst 0, 1) := by decide +kernel
theorem dX6_covered_104 : decode cX6_covered 104 = .ok (.ior, 1) := by decide +kernel
theorem dX6_covered_105 : decode cX6_covered 105 = .ok (.istore 4, 2) := by decide +kernel
theorem dX6_covered_107 : decode cX6_covered 107 = .ok (.iinc 6 1, 3) := by decide +kernel
theorem dX6_covered_110 : decode cX6_covered 110 = .ok (.goto (-52), 3) := by decide +kernel
theorem dX6_covered_113 : decode cX6_covered 113 = .ok (.iinc 5 1, 3) := by decide +kernel
theorem dX6_covered_116 : decode cX6_covered 116 = .ok (.goto (-82), 3) := by decide +kernel
theorem dX6_covered_119 : decode cX6_covered 119 = .ok (.iload 4, 2) := by decide +kernel
theorem dX6_covered_121 : decode cX6_covered 121 = .ok (.istore_n 2, 1) := by decide +kernel
theorem dX6_covered_122 : decode cX6_covered 122 = .ok (.iinc 3 1, 3) := by decide +kernel
theorem dX6_covered_125 : decode cX6_covered 125 = .ok (.goto (-105), 3) := by decide +kernel
theorem dX6_covered_128 : decode cX6_covered 128 = .ok (.iconst 0, 1) := by decide +kernel
theorem dX6_covered_129 : decode cX6_covered 129 = .ok (.istore_n 3, 1) := by decide +kernel
theorem dX6_covered_130 : decode cX6_covered 130 = .ok (.iconst 0, 1) := by decide +kernel
theorem dX6_covered_131 : decode cX6_covered 131 = .ok (.istore 4, 2) := by decide +kernel
theorem dX6_covered_133 : decode cX6_covered 133 = .ok (.iload 4, 2) := by decide +kernel
theorem dX6_covered_135 : decode cX6_covered 135 = .ok (.bipush 16, 2) := by decide +kernel
theorem dX6_covered_137 : decode cX6_covered 137 = .ok (.if_icmp .ge 59, 3) := by decide +kernel
theorem dX6_covered_140 : decode cX6_covered 140 = .ok (.iload 4, 2) := by decide +kernel
theorem dX6_covered_142 : decode cX6_covered 142 = .ok (.iconst 1, 1) := by decide +kernel
theorem dX6_covered_143 : decode cX6_covered 143 = .ok (.iand, 1) := by decide +kernel
theorem dX6_covered_144 : decode cX6_covered 144 = .ok (.iload 4, 2) := by decide +kernel
theorem dX6_covered_146 : decode cX6_covered 146 = .ok (.iconst 1, 1) := by decide +kernel
theorem dX6_covered_147 : decode cX6_covered 147 = .ok (.ishr, 1) := by decide +kernel
theorem dX6_covered_148 : decode cX6_covered 148 = .ok (.iconst 1, 1) := by decide +kernel
theorem dX6_covered_149 : decode cX6_covered 149 = .ok (.iand, 1) := by decide +kernel
theorem dX6_covered_150 : decode cX6_covered 150 = .ok (.iadd, 1) := by decide +kernel
theorem dX6_covered_151 : decode cX6_covered 151 = .ok (.iload 4, 2) := by decide +kernel
theorem dX6_covered_153 : decode cX6_covered 153 = .ok (.iconst 2, 1) := by decide +kernel
theorem dX6_covered_154 : decode cX6_covered 154 = .ok (.ishr, 1) := by decide +kernel
theorem dX6_covered_155 : decode cX6_covered 155 = .ok (.iconst 1, 1) := by decide +kernel
theorem dX6_covered_156 : decode cX6_covered 156 = .ok (.iand, 1) := by decide +kernel
theorem dX6_covered_157 : decode cX6_covered 157 = .ok (.iadd, 1) := by decide +kernel
theorem dX6_covered_158 : decode cX6_covered 158 = .ok (.iload 4, 2) := by decide +kernel
theorem dX6_covered_160 : decode cX6_covered 160 = .ok (.iconst 3, 1) := by decide +kernel
theorem dX6_covered_161 : decode cX6_covered 161 = .ok (.ishr, 1) := by decide +kernel
theorem dX6_covered_162 : decode cX6_covered 162 = .ok (.iconst 1, 1) := by decide +kernel
theorem dX6_covered_163 : decode cX6_covered 163 = .ok (.iand, 1) := by decide +kernel
theorem dX6_covered_164 : decode cX6_covered 164 = .ok (.iadd, 1) := by decide +kernel
theorem dX6_covered_165 : decode cX6_covered 165 = .ok (.istore 5, 2) := by decide +kernel
theorem dX6_covered_167 : decode cX6_covered 167 = .ok (.iload_n 2, 1) := by decide +kernel
theorem dX6_covered_168 : decode cX6_covered 168 = .ok (.iload 4, 2) := by decide +kernel
theorem dX6_covered_170 : decode cX6_covered 170 = .ok (.ishr, 1) := by decide +kernel
theorem dX6_covered_171 : decode cX6_covered 171 = .ok (.iconst 1, 1) := by decide +kernel
theorem dX6_covered_172 : decode cX6_covered 172 = .ok (.iand, 1) := by decide +kernel
theorem dX6_covered_173 : decode cX6_covered 173 = .ok (.iconst 1, 1) := by decide +kernel
theorem dX6_covered_174 : decode cX6_covered 174 = .ok (.if_icmp .ne 14, 3) := by decide +kernel
theorem dX6_covered_177 : decode cX6_covered 177 = .ok (.iload 5, 2) := by decide +kernel
theorem dX6_covered_179 : decode cX6_covered 179 = .ok (.iload_n 3, 1) := by decide +kernel
theorem dX6_covered_180 : decode cX6_covered 180 = .ok (.if_icmp .le 8, 3) := by decide +kernel
theorem dX6_covered_183 : decode cX6_covered 183 = .ok (.iload 5, 2) := by decide +kernel
theorem dX6_covered_185 : decode cX6_covered 185 = .ok (.goto 4, 3) := by decide +kernel
theorem dX6_covered_188 : decode cX6_covered 188 = .ok (.iload_n 3, 1) := by decide +kernel
theorem dX6_covered_189 : decode cX6_covered 189 = .ok (.istore_n 3, 1) := by decide +kernel
theorem dX6_covered_190 : decode cX6_covered 190 = .ok (.iinc 4 1, 3) := by decide +kernel
theorem dX6_covered_193 : decode cX6_covered 193 = .ok (.goto (-60), 3) := by decide +kernel
theorem dX6_covered_196 : decode cX6_covered 196 = .ok (.iload_n 3, 1) := by decide +kernel
theorem dX6_covered_197 : decode cX6_covered 197 = .ok (.ireturn, 1) := by decide +kernel
end
section
theorem dL_law_0 : decode cL_law 0 = .ok (.new 8, 3) := by decide +kernel
theorem dL_law_3 : decode cL_law 3 = .ok (.dup, 1) := by decide +kernel
theorem dL_law_4 : decode cL_law 4 = .ok (.invokespecial 93, 3) := by decide +kernel
theorem dL_law_7 : decode cL_law 7 = .ok (.astore_n 1, 1) := by decide +kernel
theorem dL_law_8 : decode cL_law 8 = .ok (.new 94, 3) := by decide +kernel
theorem dL_law_11 : decode cL_law 11 = .ok (.dup, 1) := by decide +kernel
theorem dL_law_12 : decode cL_law 12 = .ok (.invokespecial 96, 3) := by decide +kernel
theorem dL_law_15 : decode cL_law 15 = .ok (.astore_n 2, 1) := by decide +kernel
theorem dL_law_16 : decode cL_law 16 = .ok (.iconst 1, 1) := by decide +kernel
theorem dL_law_17 : decode cL_law 17 = .ok (.newarray .long, 2) := by decide +kernel
theorem dL_law_19 : decode cL_law 19 = .ok (.astore_n 3, 1) := by decide +kernel
theorem dL_law_20 : decode cL_law 20 = .ok (.iconst 0, 1) := by decide +kernel
theorem dL_law_21 : decode cL_law 21 = .ok (.istore 4, 2) := by decide +kernel
theorem dL_law_23 : decode cL_law 23 = .ok (.iload 4, 2) := by decide +kernel
theorem dL_law_25 : decode cL_law 25 = .ok (.aload_n 0, 1) := by decide +kernel
theorem dL_law_26 : decode cL_law 26 = .ok (.arraylength, 1) := by decide +kernel
theorem dL_law_27 : decode cL_law 27 = .ok (.bipush 6, 2) := by decide +kernel
theorem dL_law_29 : decode cL_law 29 = .ok (.isub, 1) := by decide +kernel
theorem dL_law_30 : decode cL_law 30 = .ok (.if_icmp .gt 1801, 3) := by decide +kernel
theorem dL_law_33 : decode cL_law 33 = .ok (.aload_n 0, 1) := by decide +kernel
theorem dL_law_34 : decode cL_law 34 = .ok (.iload 4, 2) := by decide +kernel
theorem dL_law_36 : decode cL_law 36 = .ok (.iaload, 1) := by decide +kernel
theorem dL_law_37 : decode cL_law 37 = .ok (.bipush 31, 2) := by decide +kernel
theorem dL_law_39 : decode cL_law 39 = .ok (.iand, 1) := by decide +kernel
theorem dL_law_40 : decode cL_law 40 = .ok (.tableswitch 1785 0 24 #[116, 172, 240, 296, 376, 444, 512, 616, 720, 776, 832, 888, 944, 958, 1013, 1069, 1149, 1217, 1273, 1341, 1421, 1477, 1557, 1649, 1729], 116) := by decide +kernel
theorem dL_law_156 : decode cL_law 156 = .ok (.aload_n 1, 1) := by decide +kernel
theorem dL_law_157 : decode cL_law 157 = .ok (.aload_n 0, 1) := by decide +kernel
theorem dL_law_158 : decode cL_law 158 = .ok (.iload 4, 2) := by decide +kernel
theorem dL_law_160 : decode cL_law 160 = .ok (.iconst 1, 1) := by decide +kernel
theorem dL_law_161 : decode cL_law 161 = .ok (.iadd, 1) := by decide +kernel
theorem dL_law_162 : decode cL_law 162 = .ok (.iaload, 1) := by decide +kernel
theorem dL_law_163 : decode cL_law 163 = .ok (.aload_n 3, 1) := by decide +kernel
theorem dL_law_164 : decode cL_law 164 = .ok (.invokestatic 97, 3) := by decide +kernel
theorem dL_law_167 : decode cL_law 167 = .ok (.istore 5, 2) := by decide +kernel
theorem dL_law_169 : decode cL_law 169 = .ok (.aload_n 2, 1) := by decide +kernel
theorem dL_law_170 : decode cL_law 170 = .ok (.aload_n 0, 1) := by decide +kernel
theorem dL_law_171 : decode cL_law 171 = .ok (.iload 4, 2) := by decide +kernel
theorem dL_law_173 : decode cL_law 173 = .ok (.iconst 1, 1) := by decide +kernel
theorem dL_law_174 : decode cL_law 174 = .ok (.iadd, 1) := by decide +kernel
theorem dL_law_175 : decode cL_law 175 = .ok (.iaload, 1) := by decide +kernel
theorem dL_law_176 : decode cL_law 176 = .ok (.invokevirtual 102, 3) := by decide +kernel
theorem dL_law_179 : decode cL_law 179 = .ok (.istore 6, 2) := by decide +kernel
theorem dL_law_181 : decode cL_law 181 = .ok (.aload_n 2, 1) := by decide +kernel
theorem dL_law_182 : decode cL_law 182 = .ok (.invokevirtual 103, 3) := by decide +kernel
theorem dL_law_185 : decode cL_law 185 = .ok (.iload 5, 2) := by decide +kernel
theorem dL_law_187 : decode cL_law 187 = .ok (.if_icmp .eq 5, 3) := by decide +kernel
theorem dL_law_190 : decode cL_law 190 = .ok (.iconst 0, 1) := by decide +kernel
theorem dL_law_191 : decode cL_law 191 = .ok (.ireturn, 1) := by decide +kernel
theorem dL_law_192 : decode cL_law 192 = .ok (.iload 5, 2) := by decide +kernel
theorem dL_law_194 : decode cL_law 194 = .ok (.ifCond .ne 15, 3) := by decide +kernel
theorem dL_law_197 : decode cL_law 197 = .ok (.aload_n 3, 1) := by decide +kernel
theorem dL_law_198 : decode cL_law 198 = .ok (.iconst 0, 1) := by decide +kernel
theorem dL_law_199 : decode cL_law 199 = .ok (.laload, 1) := by decide +kernel
theorem dL_law_200 : decode cL_law 200 = .ok (.iload 6, 2) := by decide +kernel
theorem dL_law_202 : decode cL_law 202 = .ok (.i2l, 1) := by decide +kernel
theorem dL_law_203 : decode cL_law 203 = .ok (.lcmp, 1) := by decide +kernel
theorem dL_law_204 : decode cL_law 204 = .ok (.ifCond .eq 5, 3) := by decide +kernel
theorem dL_law_207 : decode cL_law 207 = .ok (.iconst 0, 1) := by decide +kernel
theorem dL_law_208 : decode cL_law 208 = .ok (.ireturn, 1) := by decide +kernel
theorem dL_law_209 : decode cL_law 209 = .ok (.goto 1616, 3) := by decide +kernel
theorem dL_law_212 : decode cL_law 212 = .ok (.aload_n 1, 1) := by decide +kernel
theorem dL_law_213 : decode cL_law 213 = .ok (.aload_n 0, 1) := by decide +kernel
theorem dL_law_214 : decode cL_law 214 = .ok (.iload 4, 2) := by decide +kernel
theorem dL_law_216 : decode cL_law 216 = .ok (.iconst 1, 1) := by decide +kernel
theorem dL_law_217 : decode cL_law 217 = .ok (.iadd, 1) := by decide +kernel
theorem dL_law_218 : decode cL_law 218 = .ok (.iaload, 1) := by decide +kernel
theorem dL_law_219 : decode cL_law 219 = .ok (.aload_n 0, 1) := by decide +kernel
theorem dL_law_220 : decode cL_law 220 = .ok (.iload 4, 2) := by decide +kernel
theorem dL_law_222 : decode cL_law 222 = .ok (.iconst 2, 1) := by decide +kernel
theorem dL_law_223 : decode cL_law 223 = .ok (.iadd, 1) := by decide +kernel
theorem dL_law_224 : decode cL_law 224 = .ok (.iaload, 1) := by decide +kernel
theorem dL_law_225 : decode cL_law 225 = .ok (.aload_n 3, 1) := by decide +kernel
theorem dL_law_226 : decode cL_law 226 = .ok (.invokestatic 107, 3) := by decide +kernel
theorem dL_law_229 : decode cL_law 229 = .ok (.istore 5, 2) := by decide +kernel
theorem dL_law_231 : decode cL_law 231 = .ok (.aload_n 2, 1) := by decide +kernel
theorem dL_law_232 : decode cL_law 232 = .ok (.aload_n 0, 1) := by decide +kernel
theorem dL_law_233 : decode cL_law 233 = .ok (.iload 4, 2) := by decide +kernel
theorem dL_law_235 : decode cL_law 235 = .ok (.iconst 1, 1) := by decide +kernel
theorem dL_law_236 : decode cL_law 236 = .ok (.iadd, 1) := by decide +kernel
theorem dL_law_237 : decode cL_law 237 = .ok (.iaload, 1) := by decide +kernel
theorem dL_law_238 : decode cL_law 238 = .ok (.aload_n 0, 1) := by decide +kernel
theorem dL_law_239 : decode cL_law 239 = .ok (.iload 4, 2) := by decide +kernel
theorem dL_law_241 : decode cL_law 241 = .ok (.iconst 2, 1) := by decide +kernel
theorem dL_law_242 : decode cL_law 242 = .ok (.iadd, 1) := by decide +kernel
theorem dL_law_243 : decode cL_law 243 = .ok (.iaload, 1) := by decide +kernel
theorem dL_law_244 : decode cL_law 244 = .ok (.invokevirtual 110, 3) := by decide +kernel
theorem dL_law_247 : decode cL_law 247 = .ok (.istore 6, 2) := by decide +kernel
theorem dL_law_249 : decode cL_law 249 = .ok (.aload_n 2, 1) := by decide +kernel
theorem dL_law_250 : decode cL_law 250 = .ok (.invokevirtual 103, 3) := by decide +kernel
theorem dL_law_253 : decode cL_law 253 = .ok (.iload 5, 2) := by decide +kernel
theorem dL_law_255 : decode cL_law 255 = .ok (.if_icmp .eq 5, 3) := by decide +kernel
theorem dL_law_258 : decode cL_law 258 = .ok (.iconst 0, 1) := by decide +kernel
theorem dL_law_259 : decode cL_law 259 = .ok (.ireturn, 1) := by decide +kernel
theorem dL_law_260 : decode cL_law 260 = .ok (.iload 5, 2) := by decide +kernel
theorem dL_law_262 : decode cL_law 262 = .ok (.ifCond .ne 15, 3) := by decide +kernel
theorem dL_law_265 : decode cL_law 265 = .ok (.aload_n 3, 1) := by decide +kernel
theorem dL_law_266 : decode cL_law 266 = .ok (.iconst 0, 1) := by decide +kernel
theorem dL_law_267 : decode cL_law 267 = .ok (.laload, 1) := by decide +kernel
theorem dL_law_268 : decode cL_law 268 = .ok (.iload 6, 2) := by decide +kernel
theorem dL_law_270 : decode cL_law 270 = .ok (.i2l, 1) := by decide +kernel
theorem dL_law_271 : decode cL_law 271 = .ok (.lcmp, 1) := by decide +kernel
theorem dL_law_272 : decode cL_law 272 = .ok (.ifCond .eq 5, 3) := by decide +kernel
theorem dL_law_275 : decode cL_law 275 = .ok (.iconst 0, 1) := by decide +kernel
theorem dL_law_276 : decode cL_law 276 = .ok (.ireturn, 1) := by decide +kernel
theorem dL_law_277 : decode cL_law 277 = .ok (.goto 1548, 3) := by decide +kernel
theorem dL_law_280 : decode cL_law 280 = .ok (.aload_n 1, 1) := by decide +kernel
theorem dL_law_281 : decode cL_law 281 = .ok (.aload_n 0, 1) := by decide +kernel
theorem dL_law_282 : decode cL_law 282 = .ok (.iload 4, 2) := by decide +kernel
theorem dL_law_284 : decode cL_law 284 = .ok (.iconst 1, 1) := by decide +kernel
theorem dL_law_285 : decode cL_law 285 = .ok (.iadd, 1) := by decide +kernel
theorem dL_law_286 : decode cL_law 286 = .ok (.iaload, 1) := by decide +kernel
theorem dL_law_287 : decode cL_law 287 = .ok (.aload_n 3, 1) := by decide +kernel
theorem dL_law_288 : decode cL_law 288 = .ok (.invokestatic 111, 3) := by decide +kernel
theorem dL_law_291 : decode cL_law 291 = .ok (.istore 5, 2) := by decide +kernel
theorem dL_law_293 : decode cL_law 293 = .ok (.aload_n 2, 1) := by decide +kernel
theorem dL_law_294 : decode cL_law 294 = .ok (.aload_n 0, 1) := by decide +kernel
theorem dL_law_295 : decode cL_law 295 = .ok (.iload 4, 2) := by decide +kernel
theorem dL_law_297 : decode cL_law 297 = .ok (.iconst 1, 1) := by decide +kernel
theorem dL_law_298 : decode cL_law 298 = .ok (.iadd, 1) := by decide +kernel
theorem dL_law_299 : decode cL_law 299 = .ok (.iaload, 1) := by decide +kernel
theorem dL_law_300 : decode cL_law 300 = .ok (.invokevirtual 113, 3) := by decide +kernel
theorem dL_law_303 : decode cL_law 303 = .ok (.istore 6, 2) := by decide +kernel
theorem dL_law_305 : decode cL_law 305 = .ok (.aload_n 2, 1) := by decide +kernel
theorem dL_law_306 : decode cL_law 306 = .ok (.invokevirtual 103, 3) := by decide +kernel
theorem dL_law_309 : decode cL_law 309 = .ok (.iload 5, 2) := by decide +kernel
theorem dL_law_311 : decode cL_law 311 = .ok (.if_icmp .eq 5, 3) := by decide +kernel
theorem dL_law_314 : decode cL_law 314 = .ok (.iconst 0, 1) := by decide +kernel
theorem dL_law_315 : decode cL_law 315 = .ok (.ireturn, 1) := by decide +kernel
theorem dL_law_316 : decode cL_law 316 = .ok (.iload 5, 2) := by decide +kernel
theorem dL_law_318 : decode cL_law 318 = .ok (.ifCond .ne 15, 3) := by decide +kernel
theorem dL_law_321 : decode cL_law 321 = .ok (.aload_n 3, 1) := by decide +kernel
theorem dL_law_322 : decode cL_law 322 = .ok (.iconst 0, 1) := by decide +kernel
theorem dL_law_323 : decode cL_law 323 = .ok (.laload, 1) := by decide +kernel
theorem dL_law_324 : decode cL_law 324 = .ok (.iload 6, 2) := by decide +kernel
theorem dL_law_326 : decode cL_law 326 = .ok (.i2l, 1) := by decide +kernel
theorem dL_law_327 : decode cL_law 327 = .ok (.lcmp, 1) := by decide +kernel
theorem dL_law_328 : decode cL_law 328 = .ok (.ifCond .eq 5, 3) := by decide +kernel
theorem dL_law_331 : decode cL_law 331 = .ok (.iconst 0, 1) := by decide +kernel
theorem dL_law_332 : decode cL_law 332 = .ok (.ireturn, 1) := by decide +kernel
theorem dL_law_333 : decode cL_law 333 = .ok (.goto 1492, 3) := by decide +kernel
theorem dL_law_336 : decode cL_law 336 = .ok (.aload_n 1, 1) := by decide +kernel
theorem dL_law_337 : decode cL_law 337 = .ok (.aload_n 0, 1) := by decide +kernel
theorem dL_law_338 : decode cL_law 338 = .ok (.iload 4, 2) := by decide +kernel
theorem dL_law_340 : decode cL_law 340 = .ok (.iconst 1, 1) := by decide +kernel
theorem dL_law_341 : decode cL_law 341 = .ok (.iadd, 1) := by decide +kernel
theorem dL_law_342 : decode cL_law 342 = .ok (.iaload, 1) := by decide +kernel
theorem dL_law_343 : decode cL_law 343 = .ok (.aload_n 0, 1) := by decide +kernel
theorem dL_law_344 : decode cL_law 344 = .ok (.iload 4, 2) := by decide +kernel
theorem dL_law_346 : decode cL_law 346 = .ok (.iconst 2, 1) := by decide +kernel
theorem dL_law_347 : decode cL_law 347 = .ok (.iadd, 1) := by decide +kernel
theorem dL_law_348 : decode cL_law 348 = .ok (.iaload, 1) := by decide +kernel
theorem dL_law_349 : decode cL_law 349 = .ok (.aload_n 0, 1) := by decide +kernel
theorem dL_law_350 : decode cL_law 350 = .ok (.iload 4, 2) := by decide +kernel
theorem dL_law_352 : decode cL_law 352 = .ok (.iconst 3, 1) := by decide +kernel
theorem dL_law_353 : decode cL_law 353 = .ok (.iadd, 1) := by decide +kernel
theorem dL_law_354 : decode cL_law 354 = .ok (.iaload, 1) := by decide +kernel
theorem dL_law_355 : decode cL_law 355 = .ok (.aload_n 3, 1) := by decide +kernel
theorem dL_law_356 : decode cL_law 356 = .ok (.invokestatic 114, 3) := by decide +kernel
theorem dL_law_359 : decode cL_law 359 = .ok (.istore 5, 2) := by decide +kernel
theorem dL_law_361 : decode cL_law 361 = .ok (.aload_n 2, 1) := by decide +kernel
theorem dL_law_362 : decode cL_law 362 = .ok (.aload_n 0, 1) := by decide +kernel
theorem dL_law_363 : decode cL_law 363 = .ok (.iload 4, 2) := by decide +kernel
theorem dL_law_365 : decode cL_law 365 = .ok (.iconst 1, 1) := by decide +kernel
theorem dL_law_366 : decode cL_law 366 = .ok (.iadd, 1) := by decide +kernel
theorem dL_law_367 : decode cL_law 367 = .ok (.iaload, 1) := by decide +kernel
theorem dL_law_368 : decode cL_law 368 = .ok (.aload_n 0, 1) := by decide +kernel
theorem dL_law_369 : decode cL_law 369 = .ok (.iload 4, 2) := by decide +kernel
theorem dL_law_371 : decode cL_law 371 = .ok (.iconst 2, 1) := by decide +kernel
theorem dL_law_372 : decode cL_law 372 = .ok (.iadd, 1) := by decide +kernel
theorem dL_law_373 : decode cL_law 373 = .ok (.iaload, 1) := by decide +kernel
theorem dL_law_374 : decode cL_law 374 = .ok (.aload_n 0, 1) := by decide +kernel
theorem dL_law_375 : decode cL_law 375 = .ok (.iload 4, 2) := by decide +kernel
theorem dL_law_377 : decode cL_law 377 = .ok (.iconst 3, 1) := by decide +kernel
theorem dL_law_378 : decode cL_law 378 = .ok (.iadd, 1) := by decide +kernel
theorem dL_law_379 : decode cL_law 379 = .ok (.iaload, 1) := by decide +kernel
theorem dL_law_380 : decode cL_law 380 = .ok (.invokevirtual 117, 3) := by decide +kernel
theorem dL_law_383 : decode cL_law 383 = .ok (.istore 6, 2) := by decide +kernel
theorem dL_law_385 : decode cL_law 385 = .ok (.aload_n 2, 1) := by decide +kernel
theorem dL_law_386 : decode cL_law 386 = .ok (.invokevirtual 103, 3) := by decide +kernel
theorem dL_law_389 : decode cL_law 389 = .ok (.iload 5, 2) := by decide +kernel
theorem dL_law_391 : decode cL_law 391 = .ok (.if_icmp .eq 5, 3) := by decide +kernel
theorem dL_law_394 : decode cL_law 394 = .ok (.iconst 0, 1) := by decide +kernel
theorem dL_law_395 : decode cL_law 395 = .ok (.ireturn, 1) := by decide +kernel
theorem dL_law_396 : decode cL_law 396 = .ok (.iload 5, 2) := by decide +kernel
theorem dL_law_398 : decode cL_law 398 = .ok (.ifCond .ne 15, 3) := by decide +kernel
theorem dL_law_401 : decode cL_law 401 = .ok (.aload_n 3, 1) := by decide +kernel
theorem dL_law_402 : decode cL_law 402 = .ok (.iconst 0, 1) := by decide +kernel
theorem dL_law_403 : decode cL_law 403 = .ok (.laload, 1) := by decide +kernel
theorem dL_law_404 : decode cL_law 404 = .ok (.iload 6, 2) := by decide +kernel
theorem dL_law_406 : decode cL_law 406 = .ok (.i2l, 1) := by decide +kernel
theorem dL_law_407 : decode cL_law 407 = .ok (.lcmp, 1) := by decide +kernel
theorem dL_law_408 : decode cL_law 408 = .ok (.ifCond .eq 5, 3) := by decide +kernel
theorem dL_law_411 : decode cL_law 411 = .ok (.iconst 0, 1) := by decide +kernel
theorem dL_law_412 : decode cL_law 412 = .ok (.ireturn, 1) := by decide +kernel
theorem dL_law_413 : decode cL_law 413 = .ok (.goto 1412, 3) := by decide +kernel
theorem dL_law_416 : decode cL_law 416 = .ok (.aload_n 1, 1) := by decide +kernel
theorem dL_law_417 : decode cL_law 417 = .ok (.aload_n 0, 1) := by decide +kernel
theorem dL_law_418 : decode cL_law 418 = .ok (.iload 4, 2) := by decide +kernel
theorem dL_law_420 : decode cL_law 420 = .ok (.iconst 1, 1) := by decide +kernel
theorem dL_law_421 : decode cL_law 421 = .ok (.iadd, 1) := by decide +kernel
theorem dL_law_422 : decode cL_law 422 = .ok (.iaload, 1) := by decide +kernel
theorem dL_law_423 : decode cL_law 423 = .ok (.aload_n 0, 1) := by decide +kernel
theorem dL_law_424 : decode cL_law 424 = .ok (.iload 4, 2) := by decide +kernel
theorem dL_law_426 : decode cL_law 426 = .ok (.iconst 2, 1) := by decide +kernel
theorem dL_law_427 : decode cL_law 427 = .ok (.iadd, 1) := by decide +kernel
theorem dL_law_428 : decode cL_law 428 = .ok (.iaload, 1) := by decide +kernel
theorem dL_law_429 : decode cL_law 429 = .ok (.aload_n 3, 1) := by decide +kernel
theorem dL_law_430 : decode cL_law 430 = .ok (.invokestatic 118, 3) := by decide +kernel
theorem dL_law_433 : decode cL_law 433 = .ok (.istore 5, 2) := by decide +kernel
theorem dL_law_435 : decode cL_law 435 = .ok (.aload_n 2, 1) := by decide +kernel
theorem dL_law_436 : decode cL_law 436 = .ok (.aload_n 0, 1) := by decide +kernel
theorem dL_law_437 : decode cL_law 437 = .ok (.iload 4, 2) := by decide +kernel
theorem dL_law_439 : decode cL_law 439 = .ok (.iconst 1, 1) := by decide +kernel
theorem dL_law_440 : decode cL_law 440 = .ok (.iadd, 1) := by decide +kernel
theorem dL_law_441 : decode cL_law 441 = .ok (.iaload, 1) := by decide +kernel
theorem dL_law_442 : decode cL_law 442 = .ok (.aload_n 0, 1) := by decide +kernel
theorem dL_law_443 : decode cL_law 443 = .ok (.iload 4, 2) := by decide +kernel
theorem dL_law_445 : decode cL_law 445 = .ok (.iconst 2, 1) := by decide +kernel
theorem dL_law_446 : decode cL_law 446 = .ok (.iadd, 1) := by decide +kernel
theorem dL_law_447 : decode cL_law 447 = .ok (.iaload, 1) := by decide +kernel
theorem dL_law_448 : decode cL_law 448 = .ok (.invokevirtual 120, 3) := by decide +kernel
theorem dL_law_451 : decode cL_law 451 = .ok (.istore 6, 2) := by decide +kernel
theorem dL_law_453 : decode cL_law 453 = .ok (.aload_n 2, 1) := by decide +kernel
theorem dL_law_454 : decode cL_law 454 = .ok (.invokevirtual 103, 3) := by decide +kernel
theorem dL_law_457 : decode cL_law 457 = .ok (.iload 5, 2) := by decide +kernel
theorem dL_law_459 : decode cL_law 459 = .ok (.if_icmp .eq 5, 3) := by decide +kernel
theorem dL_law_462 : decode cL_law 462 = .ok (.iconst 0, 1) := by decide +kernel
theorem dL_law_463 : decode cL_law 463 = .ok (.ireturn, 1) := by decide +kernel
theorem dL_law_464 : decode cL_law 464 = .ok (.iload 5, 2) := by decide +kernel
theorem dL_law_466 : decode cL_law 466 = .ok (.ifCond .ne 15, 3) := by decide +kernel
theorem dL_law_469 : decode cL_law 469 = .ok (.aload_n 3, 1) := by decide +kernel
theorem dL_law_470 : decode cL_law 470 = .ok (.iconst 0, 1) := by decide +kernel
theorem dL_law_471 : decode cL_law 471 = .ok (.laload, 1) := by decide +kernel
theorem dL_law_472 : decode cL_law 472 = .ok (.iload 6, 2) := by decide +kernel
theorem dL_law_474 : decode cL_law 474 = .ok (.i2l, 1) := by decide +kernel
theorem dL_law_475 : decode cL_law 475 = .ok (.lcmp, 1) := by decide +kernel
theorem dL_law_476 : decode cL_law 476 = .ok (.ifCond .eq 5, 3) := by decide +kernel
theorem dL_law_479 : decode cL_law 479 = .ok (.iconst 0, 1) := by decide +kernel
theorem dL_law_480 : decode cL_law 480 = .ok (.ireturn, 1) := by decide +kernel
theorem dL_law_481 : decode cL_law 481 = .ok (.goto 1344, 3) := by decide +kernel
theorem dL_law_484 : decode cL_law 484 = .ok (.aload_n 1, 1) := by decide +kernel
theorem dL_law_485 : decode cL_law 485 = .ok (.aload_n 0, 1) := by decide +kernel
theorem dL_law_486 : decode cL_law 486 = .ok (.iload 4, 2) := by decide +kernel
theorem dL_law_488 : decode cL_law 488 = .ok (.iconst 1, 1) := by decide +kernel
theorem dL_law_489 : decode cL_law 489 = .ok (.iadd, 1) := by decide +kernel
theorem dL_law_490 : decode cL_law 490 = .ok (.iaload, 1) := by decide +kernel
theorem dL_law_491 : decode cL_law 491 = .ok (.aload_n 0, 1) := by decide +kernel
theorem dL_law_492 : decode cL_law 492 = .ok (.iload 4, 2) := by decide +kernel
theorem dL_law_494 : decode cL_law 494 = .ok (.iconst 2, 1) := by decide +kernel
theorem dL_law_495 : decode cL_law 495 = .ok (.iadd, 1) := by decide +kernel
theorem dL_law_496 : decode cL_law 496 = .ok (.iaload, 1) := by decide +kernel
theorem dL_law_497 : decode cL_law 497 = .ok (.aload_n 3, 1) := by decide +kernel
theorem dL_law_498 : decode cL_law 498 = .ok (.invokestatic 121, 3) := by decide +kernel
theorem dL_law_501 : decode cL_law 501 = .ok (.istore 5, 2) := by decide +kernel
theorem dL_law_503 : decode cL_law 503 = .ok (.aload_n 2, 1) := by decide +kernel
theorem dL_law_504 : decode cL_law 504 = .ok (.aload_n 0, 1) := by decide +kernel
theorem dL_law_505 : decode cL_law 505 = .ok (.iload 4, 2) := by decide +kernel
theorem dL_law_507 : decode cL_law 507 = .ok (.iconst 1, 1) := by decide +kernel
theorem dL_law_508 : decode cL_law 508 = .ok (.iadd, 1) := by decide +kernel
theorem dL_law_509 : decode cL_law 509 = .ok (.iaload, 1) := by decide +kernel
theorem dL_law_510 : decode cL_law 510 = .ok (.aload_n 0, 1) := by decide +kernel
theorem dL_law_511 : decode cL_law 511 = .ok (.iload 4, 2) := by decide +kernel
theorem dL_law_513 : decode cL_law 513 = .ok (.iconst 2, 1) := by decide +kernel
theorem dL_law_514 : decode cL_law 514 = .ok (.iadd, 1) := by decide +kernel
theorem dL_law_515 : decode cL_law 515 = .ok (.iaload, 1) := by decide +kernel
theorem dL_law_516 : decode cL_law 516 = .ok (.invokevirtual 123, 3) := by decide +kernel
theorem dL_law_519 : decode cL_law 519 = .ok (.istore 6, 2) := by decide +kernel
theorem dL_law_521 : decode cL_law 521 = .ok (.aload_n 2, 1) := by decide +kernel
theorem dL_law_522 : decode cL_law 522 = .ok (.invokevirtual 103, 3) := by decide +kernel
theorem dL_law_525 : decode cL_law 525 = .ok (.iload 5, 2) := by decide +kernel
theorem dL_law_527 : decode cL_law 527 = .ok (.if_icmp .eq 5, 3) := by decide +kernel
theorem dL_law_530 : decode cL_law 530 = .ok (.iconst 0, 1) := by decide +kernel
theorem dL_law_531 : decode cL_law 531 = .ok (.ireturn, 1) := by decide +kernel
theorem dL_law_532 : decode cL_law 532 = .ok (.iload 5, 2) := by decide +kernel
theorem dL_law_534 : decode cL_law 534 = .ok (.ifCond .ne 15, 3) := by decide +kernel
theorem dL_law_537 : decode cL_law 537 = .ok (.aload_n 3, 1) := by decide +kernel
theorem dL_law_538 : decode cL_law 538 = .ok (.iconst 0, 1) := by decide +kernel
theorem dL_law_539 : decode cL_law 539 = .ok (.laload, 1) := by decide +kernel
theorem dL_law_540 : decode cL_law 540 = .ok (.iload 6, 2) := by decide +kernel
theorem dL_law_542 : decode cL_law 542 = .ok (.i2l, 1) := by decide +kernel
theorem dL_law_543 : decode cL_law 543 = .ok (.lcmp, 1) := by decide +kernel
theorem dL_law_544 : decode cL_law 544 = .ok (.ifCond .eq 5, 3) := by decide +kernel
theorem dL_law_547 : decode cL_law 547 = .ok (.iconst 0, 1) := by decide +kernel
theorem dL_law_548 : decode cL_law 548 = .ok (.ireturn, 1) := by decide +kernel
theorem dL_law_549 : decode cL_law 549 = .ok (.goto 1276, 3) := by decide +kernel
theorem dL_law_552 : decode cL_law 552 = .ok (.aload_n 1, 1) := by decide +kernel
theorem dL_law_553 : decode cL_law 553 = .ok (.aload_n 0, 1) := by decide +kernel
theorem dL_law_554 : decode cL_law 554 = .ok (.iload 4, 2) := by decide +kernel
theorem dL_law_556 : decode cL_law 556 = .ok (.iconst 1, 1) := by decide +kernel
theorem dL_law_557 : decode cL_law 557 = .ok (.iadd, 1) := by decide +kernel
theorem dL_law_558 : decode cL_law 558 = .ok (.iaload, 1) := by decide +kernel
theorem dL_law_559 : decode cL_law 559 = .ok (.aload_n 0, 1) := by decide +kernel
theorem dL_law_560 : decode cL_law 560 = .ok (.iload 4, 2) := by decide +kernel
theorem dL_law_562 : decode cL_law 562 = .ok (.iconst 2, 1) := by decide +kernel
theorem dL_law_563 : decode cL_law 563 = .ok (.iadd, 1) := by decide +kernel
theorem dL_law_564 : decode cL_law 564 = .ok (.iaload, 1) := by decide +kernel
theorem dL_law_565 : decode cL_law 565 = .ok (.aload_n 0, 1) := by decide +kernel
theorem dL_law_566 : decode cL_law 566 = .ok (.iload 4, 2) := by decide +kernel
theorem dL_law_568 : decode cL_law 568 = .ok (.iconst 3, 1) := by decide +kernel
theorem dL_law_569 : decode cL_law 569 = .ok (.iadd, 1) := by decide +kernel
theorem dL_law_570 : decode cL_law 570 = .ok (.iaload, 1) := by decide +kernel
theorem dL_law_571 : decode cL_law 571 = .ok (.aload_n 0, 1) := by decide +kernel
theorem dL_law_572 : decode cL_law 572 = .ok (.iload 4, 2) := by decide +kernel
theorem dL_law_574 : decode cL_law 574 = .ok (.iconst 4, 1) := by decide +kernel
theorem dL_law_575 : decode cL_law 575 = .ok (.iadd, 1) := by decide +kernel
theorem dL_law_576 : decode cL_law 576 = .ok (.iaload, 1) := by decide +kernel
theorem dL_law_577 : decode cL_law 577 = .ok (.aload_n 0, 1) := by decide +kernel
theorem dL_law_578 : decode cL_law 578 = .ok (.iload 4, 2) := by decide +kernel
theorem dL_law_580 : decode cL_law 580 = .ok (.iconst 5, 1) := by decide +kernel
theorem dL_law_581 : decode cL_law 581 = .ok (.iadd, 1) := by decide +kernel
theorem dL_law_582 : decode cL_law 582 = .ok (.iaload, 1) := by decide +kernel
theorem dL_law_583 : decode cL_law 583 = .ok (.aload_n 3, 1) := by decide +kernel
theorem dL_law_584 : decode cL_law 584 = .ok (.invokestatic 124, 3) := by decide +kernel
theorem dL_law_587 : decode cL_law 587 = .ok (.istore 5, 2) := by decide +kernel
theorem dL_law_589 : decode cL_law 589 = .ok (.aload_n 2, 1) := by decide +kernel
theorem dL_law_590 : decode cL_law 590 = .ok (.aload_n 0, 1) := by decide +kernel
theorem dL_law_591 : decode cL_law 591 = .ok (.iload 4, 2) := by decide +kernel
theorem dL_law_593 : decode cL_law 593 = .ok (.iconst 1, 1) := by decide +kernel
theorem dL_law_594 : decode cL_law 594 = .ok (.iadd, 1) := by decide +kernel
theorem dL_law_595 : decode cL_law 595 = .ok (.iaload, 1) := by decide +kernel
theorem dL_law_596 : decode cL_law 596 = .ok (.aload_n 0, 1) := by decide +kernel
theorem dL_law_597 : decode cL_law 597 = .ok (.iload 4, 2) := by decide +kernel
theorem dL_law_599 : decode cL_law 599 = .ok (.iconst 2, 1) := by decide +kernel
theorem dL_law_600 : decode cL_law 600 = .ok (.iadd, 1) := by decide +kernel
theorem dL_law_601 : decode cL_law 601 = .ok (.iaload, 1) := by decide +kernel
theorem dL_law_602 : decode cL_law 602 = .ok (.aload_n 0, 1) := by decide +kernel
theorem dL_law_603 : decode cL_law 603 = .ok (.iload 4, 2) := by decide +kernel
theorem dL_law_605 : decode cL_law 605 = .ok (.iconst 3, 1) := by decide +kernel
theorem dL_law_606 : decode cL_law 606 = .ok (.iadd, 1) := by decide +kernel
theorem dL_law_607 : decode cL_law 607 = .ok (.iaload, 1) := by decide +kernel
theorem dL_law_608 : decode cL_law 608 = .ok (.aload_n 0, 1) := by decide +kernel
theorem dL_law_609 : decode cL_law 609 = .ok (.iload 4, 2) := by decide +kernel
theorem dL_law_611 : decode cL_law 611 = .ok (.iconst 4, 1) := by decide +kernel
theorem dL_law_612 : decode cL_law 612 = .ok (.iadd, 1) := by decide +kernel
theorem dL_law_613 : decode cL_law 613 = .ok (.iaload, 1) := by decide +kernel
theorem dL_law_614 : decode cL_law 614 = .ok (.aload_n 0, 1) := by decide +kernel
theorem dL_law_615 : decode cL_law 615 = .ok (.iload 4, 2) := by decide +kernel
theorem dL_law_617 : decode cL_law 617 = .ok (.iconst 5, 1) := by decide +kernel
theorem dL_law_618 : decode cL_law 618 = .ok (.iadd, 1) := by decide +kernel
theorem dL_law_619 : decode cL_law 619 = .ok (.iaload, 1) := by decide +kernel
theorem dL_law_620 : decode cL_law 620 = .ok (.invokevirtual 127, 3) := by decide +kernel
theorem dL_law_623 : decode cL_law 623 = .ok (.istore 6, 2) := by decide +kernel
theorem dL_law_625 : decode cL_law 625 = .ok (.aload_n 2, 1) := by decide +kernel
theorem dL_law_626 : decode cL_law 626 = .ok (.invokevirtual 103, 3) := by decide +kernel
theorem dL_law_629 : decode cL_law 629 = .ok (.iload 5, 2) := by decide +kernel
theorem dL_law_631 : decode cL_law 631 = .ok (.if_icmp .eq 5, 3) := by decide +kernel
theorem dL_law_634 : decode cL_law 634 = .ok (.iconst 0, 1) := by decide +kernel
theorem dL_law_635 : decode cL_law 635 = .ok (.ireturn, 1) := by decide +kernel
theorem dL_law_636 : decode cL_law 636 = .ok (.iload 5, 2) := by decide +kernel
theorem dL_law_638 : decode cL_law 638 = .ok (.ifCond .ne 15, 3) := by decide +kernel
theorem dL_law_641 : decode cL_law 641 = .ok (.aload_n 3, 1) := by decide +kernel
theorem dL_law_642 : decode cL_law 642 = .ok (.iconst 0, 1) := by decide +kernel
theorem dL_law_643 : decode cL_law 643 = .ok (.laload, 1) := by decide +kernel
theorem dL_law_644 : decode cL_law 644 = .ok (.iload 6, 2) := by decide +kernel
theorem dL_law_646 : decode cL_law 646 = .ok (.i2l, 1) := by decide +kernel
theorem dL_law_647 : decode cL_law 647 = .ok (.lcmp, 1) := by decide +kernel
theorem dL_law_648 : decode cL_law 648 = .ok (.ifCond .eq 5, 3) := by decide +kernel
theorem dL_law_651 : decode cL_law 651 = .ok (.iconst 0, 1) := by decide +kernel
theorem dL_law_652 : decode cL_law 652 = .ok (.ireturn, 1) := by decide +kernel
theorem dL_law_653 : decode cL_law 653 = .ok (.goto 1172, 3) := by decide +kernel
theorem dL_law_656 : decode cL_law 656 = .ok (.aload_n 1, 1) := by decide +kernel
theorem dL_law_657 : decode cL_law 657 = .ok (.aload_n 0, 1) := by decide +kernel
theorem dL_law_658 : decode cL_law 658 = .ok (.iload 4, 2) := by decide +kernel
theorem dL_law_660 : decode cL_law 660 = .ok (.iconst 1, 1) := by decide +kernel
theorem dL_law_661 : decode cL_law 661 = .ok (.iadd, 1) := by decide +kernel
theorem dL_law_662 : decode cL_law 662 = .ok (.iaload, 1) := by decide +kernel
theorem dL_law_663 : decode cL_law 663 = .ok (.aload_n 0, 1) := by decide +kernel
theorem dL_law_664 : decode cL_law 664 = .ok (.iload 4, 2) := by decide +kernel
theorem dL_law_666 : decode cL_law 666 = .ok (.iconst 2, 1) := by decide +kernel
theorem dL_law_667 : decode cL_law 667 = .ok (.iadd, 1) := by decide +kernel
theorem dL_law_668 : decode cL_law 668 = .ok (.iaload, 1) := by decide +kernel
theorem dL_law_669 : decode cL_law 669 = .ok (.aload_n 0, 1) := by decide +kernel
theorem dL_law_670 : decode cL_law 670 = .ok (.iload 4, 2) := by decide +kernel
theorem dL_law_672 : decode cL_law 672 = .ok (.iconst 3, 1) := by decide +kernel
theorem dL_law_673 : decode cL_law 673 = .ok (.iadd, 1) := by decide +kernel
theorem dL_law_674 : decode cL_law 674 = .ok (.iaload, 1) := by decide +kernel
theorem dL_law_675 : decode cL_law 675 = .ok (.aload_n 0, 1) := by decide +kernel
theorem dL_law_676 : decode cL_law 676 = .ok (.iload 4, 2) := by decide +kernel
theorem dL_law_678 : decode cL_law 678 = .ok (.iconst 4, 1) := by decide +kernel
theorem dL_law_679 : decode cL_law 679 = .ok (.iadd, 1) := by decide +kernel
theorem dL_law_680 : decode cL_law 680 = .ok (.iaload, 1) := by decide +kernel
theorem dL_law_681 : decode cL_law 681 = .ok (.aload_n 0, 1) := by decide +kernel
theorem dL_law_682 : decode cL_law 682 = .ok (.iload 4, 2) := by decide +kernel
theorem dL_law_684 : decode cL_law 684 = .ok (.iconst 5, 1) := by decide +kernel
theorem dL_law_685 : decode cL_law 685 = .ok (.iadd, 1) := by decide +kernel
theorem dL_law_686 : decode cL_law 686 = .ok (.iaload, 1) := by decide +kernel
theorem dL_law_687 : decode cL_law 687 = .ok (.aload_n 3, 1) := by decide +kernel
theorem dL_law_688 : decode cL_law 688 = .ok (.invokestatic 128, 3) := by decide +kernel
theorem dL_law_691 : decode cL_law 691 = .ok (.istore 5, 2) := by decide +kernel
theorem dL_law_693 : decode cL_law 693 = .ok (.aload_n 2, 1) := by decide +kernel
theorem dL_law_694 : decode cL_law 694 = .ok (.aload_n 0, 1) := by decide +kernel
theorem dL_law_695 : decode cL_law 695 = .ok (.iload 4, 2) := by decide +kernel
theorem dL_law_697 : decode cL_law 697 = .ok (.iconst 1, 1) := by decide +kernel
theorem dL_law_698 : decode cL_law 698 = .ok (.iadd, 1) := by decide +kernel
theorem dL_law_699 : decode cL_law 699 = .ok (.iaload, 1) := by decide +kernel
theorem dL_law_700 : decode cL_law 700 = .ok (.aload_n 0, 1) := by decide +kernel
theorem dL_law_701 : decode cL_law 701 = .ok (.iload 4, 2) := by decide +kernel
theorem dL_law_703 : decode cL_law 703 = .ok (.iconst 2, 1) := by decide +kernel
theorem dL_law_704 : decode cL_law 704 = .ok (.iadd, 1) := by decide +kernel
theorem dL_law_705 : decode cL_law 705 = .ok (.iaload, 1) := by decide +kernel
theorem dL_law_706 : decode cL_law 706 = .ok (.aload_n 0, 1) := by decide +kernel
theorem dL_law_707 : decode cL_law 707 = .ok (.iload 4, 2) := by decide +kernel
theorem dL_law_709 : decode cL_law 709 = .ok (.iconst 3, 1) := by decide +kernel
theorem dL_law_710 : decode cL_law 710 = .ok (.iadd, 1) := by decide +kernel
theorem dL_law_711 : decode cL_law 711 = .ok (.iaload, 1) := by decide +kernel
theorem dL_law_712 : decode cL_law 712 = .ok (.aload_n 0, 1) := by decide +kernel
theorem dL_law_713 : decode cL_law 713 = .ok (.iload 4, 2) := by decide +kernel
theorem dL_law_715 : decode cL_law 715 = .ok (.iconst 4, 1) := by decide +kernel
theorem dL_law_716 : decode cL_law 716 = .ok (.iadd, 1) := by decide +kernel
theorem dL_law_717 : decode cL_law 717 = .ok (.iaload, 1) := by decide +kernel
theorem dL_law_718 : decode cL_law 718 = .ok (.aload_n 0, 1) := by decide +kernel
theorem dL_law_719 : decode cL_law 719 = .ok (.iload 4, 2) := by decide +kernel
theorem dL_law_721 : decode cL_law 721 = .ok (.iconst 5, 1) := by decide +kernel
theorem dL_law_722 : decode cL_law 722 = .ok (.iadd, 1) := by decide +kernel
theorem dL_law_723 : decode cL_law 723 = .ok (.iaload, 1) := by decide +kernel
theorem dL_law_724 : decode cL_law 724 = .ok (.invokevirtual 130, 3) := by decide +kernel
theorem dL_law_727 : decode cL_law 727 = .ok (.istore 6, 2) := by decide +kernel
theorem dL_law_729 : decode cL_law 729 = .ok (.aload_n 2, 1) := by decide +kernel
theorem dL_law_730 : decode cL_law 730 = .ok (.invokevirtual 103, 3) := by decide +kernel
theorem dL_law_733 : decode cL_law 733 = .ok (.iload 5, 2) := by decide +kernel
theorem dL_law_735 : decode cL_law 735 = .ok (.if_icmp .eq 5, 3) := by decide +kernel
theorem dL_law_738 : decode cL_law 738 = .ok (.iconst 0, 1) := by decide +kernel
theorem dL_law_739 : decode cL_law 739 = .ok (.ireturn, 1) := by decide +kernel
theorem dL_law_740 : decode cL_law 740 = .ok (.iload 5, 2) := by decide +kernel
theorem dL_law_742 : decode cL_law 742 = .ok (.ifCond .ne 15, 3) := by decide +kernel
theorem dL_law_745 : decode cL_law 745 = .ok (.aload_n 3, 1) := by decide +kernel
theorem dL_law_746 : decode cL_law 746 = .ok (.iconst 0, 1) := by decide +kernel
theorem dL_law_747 : decode cL_law 747 = .ok (.laload, 1) := by decide +kernel
theorem dL_law_748 : decode cL_law 748 = .ok (.iload 6, 2) := by decide +kernel
theorem dL_law_750 : decode cL_law 750 = .ok (.i2l, 1) := by decide +kernel
theorem dL_law_751 : decode cL_law 751 = .ok (.lcmp, 1) := by decide +kernel
theorem dL_law_752 : decode cL_law 752 = .ok (.ifCond .eq 5, 3) := by decide +kernel
theorem dL_law_755 : decode cL_law 755 = .ok (.iconst 0, 1) := by decide +kernel
theorem dL_law_756 : decode cL_law 756 = .ok (.ireturn, 1) := by decide +kernel
theorem dL_law_757 : decode cL_law 757 = .ok (.goto 1068, 3) := by decide +kernel
theorem dL_law_760 : decode cL_law 760 = .ok (.aload_n 1, 1) := by decide +kernel
theorem dL_law_761 : decode cL_law 761 = .ok (.aload_n 0, 1) := by decide +kernel
theorem dL_law_762 : decode cL_law 762 = .ok (.iload 4, 2) := by decide +kernel
theorem dL_law_764 : decode cL_law 764 = .ok (.iconst 1, 1) := by decide +kernel
theorem dL_law_765 : decode cL_law 765 = .ok (.iadd, 1) := by decide +kernel
theorem dL_law_766 : decode cL_law 766 = .ok (.iaload, 1) := by decide +kernel
theorem dL_law_767 : decode cL_law 767 = .ok (.aload_n 3, 1) := by decide +kernel
theorem dL_law_768 : decode cL_law 768 = .ok (.invokestatic 131, 3) := by decide +kernel
theorem dL_law_771 : decode cL_law 771 = .ok (.istore 5, 2) := by decide +kernel
theorem dL_law_773 : decode cL_law 773 = .ok (.aload_n 2, 1) := by decide +kernel
theorem dL_law_774 : decode cL_law 774 = .ok (.aload_n 0, 1) := by decide +kernel
theorem dL_law_775 : decode cL_law 775 = .ok (.iload 4, 2) := by decide +kernel
theorem dL_law_777 : decode cL_law 777 = .ok (.iconst 1, 1) := by decide +kernel
theorem dL_law_778 : decode cL_law 778 = .ok (.iadd, 1) := by decide +kernel
theorem dL_law_779 : decode cL_law 779 = .ok (.iaload, 1) := by decide +kernel
theorem dL_law_780 : decode cL_law 780 = .ok (.invokevirtual 133, 3) := by decide +kernel
theorem dL_law_783 : decode cL_law 783 = .ok (.istore 6, 2) := by decide +kernel
theorem dL_law_785 : decode cL_law 785 = .ok (.aload_n 2, 1) := by decide +kernel
theorem dL_law_786 : decode cL_law 786 = .ok (.invokevirtual 103, 3) := by decide +kernel
theorem dL_law_789 : decode cL_law 789 = .ok (.iload 5, 2) := by decide +kernel
theorem dL_law_791 : decode cL_law 791 = .ok (.if_icmp .eq 5, 3) := by decide +kernel
theorem dL_law_794 : decode cL_law 794 = .ok (.iconst 0, 1) := by decide +kernel
theorem dL_law_795 : decode cL_law 795 = .ok (.ireturn, 1) := by decide +kernel
theorem dL_law_796 : decode cL_law 796 = .ok (.iload 5, 2) := by decide +kernel
theorem dL_law_798 : decode cL_law 798 = .ok (.ifCond .ne 15, 3) := by decide +kernel
theorem dL_law_801 : decode cL_law 801 = .ok (.aload_n 3, 1) := by decide +kernel
theorem dL_law_802 : decode cL_law 802 = .ok (.iconst 0, 1) := by decide +kernel
theorem dL_law_803 : decode cL_law 803 = .ok (.laload, 1) := by decide +kernel
theorem dL_law_804 : decode cL_law 804 = .ok (.iload 6, 2) := by decide +kernel
theorem dL_law_806 : decode cL_law 806 = .ok (.i2l, 1) := by decide +kernel
theorem dL_law_807 : decode cL_law 807 = .ok (.lcmp, 1) := by decide +kernel
theorem dL_law_808 : decode cL_law 808 = .ok (.ifCond .eq 5, 3) := by decide +kernel
theorem dL_law_811 : decode cL_law 811 = .ok (.iconst 0, 1) := by decide +kernel
theorem dL_law_812 : decode cL_law 812 = .ok (.ireturn, 1) := by decide +kernel
theorem dL_law_813 : decode cL_law 813 = .ok (.goto 1012, 3) := by decide +kernel
theorem dL_law_816 : decode cL_law 816 = .ok (.aload_n 1, 1) := by decide +kernel
theorem dL_law_817 : decode cL_law 817 = .ok (.aload_n 0, 1) := by decide +kernel
theorem dL_law_818 : decode cL_law 818 = .ok (.iload 4, 2) := by decide +kernel
theorem dL_law_820 : decode cL_law 820 = .ok (.iconst 1, 1) := by decide +kernel
theorem dL_law_821 : decode cL_law 821 = .ok (.iadd, 1) := by decide +kernel
theorem dL_law_822 : decode cL_law 822 = .ok (.iaload, 1) := by decide +kernel
theorem dL_law_823 : decode cL_law 823 = .ok (.aload_n 3, 1) := by decide +kernel
theorem dL_law_824 : decode cL_law 824 = .ok (.invokestatic 134, 3) := by decide +kernel
theorem dL_law_827 : decode cL_law 827 = .ok (.istore 5, 2) := by decide +kernel
theorem dL_law_829 : decode cL_law 829 = .ok (.aload_n 2, 1) := by decide +kernel
theorem dL_law_830 : decode cL_law 830 = .ok (.aload_n 0, 1) := by decide +kernel
theorem dL_law_831 : decode cL_law 831 = .ok (.iload 4, 2) := by decide +kernel
theorem dL_law_833 : decode cL_law 833 = .ok (.iconst 1, 1) := by decide +kernel
theorem dL_law_834 : decode cL_law 834 = .ok (.iadd, 1) := by decide +kernel
theorem dL_law_835 : decode cL_law 835 = .ok (.iaload, 1) := by decide +kernel
theorem dL_law_836 : decode cL_law 836 = .ok (.invokevirtual 136, 3) := by decide +kernel
theorem dL_law_839 : decode cL_law 839 = .ok (.istore 6, 2) := by decide +kernel
theorem dL_law_841 : decode cL_law 841 = .ok (.aload_n 2, 1) := by decide +kernel
theorem dL_law_842 : decode cL_law 842 = .ok (.invokevirtual 103, 3) := by decide +kernel
theorem dL_law_845 : decode cL_law 845 = .ok (.iload 5, 2) := by decide +kernel
theorem dL_law_847 : decode cL_law 847 = .ok (.if_icmp .eq 5, 3) := by decide +kernel
theorem dL_law_850 : decode cL_law 850 = .ok (.iconst 0, 1) := by decide +kernel
theorem dL_law_851 : decode cL_law 851 = .ok (.ireturn, 1) := by decide +kernel
theorem dL_law_852 : decode cL_law 852 = .ok (.iload 5, 2) := by decide +kernel
theorem dL_law_854 : decode cL_law 854 = .ok (.ifCond .ne 15, 3) := by decide +kernel
theorem dL_law_857 : decode cL_law 857 = .ok (.aload_n 3, 1) := by decide +kernel
theorem dL_law_858 : decode cL_law 858 = .ok (.iconst 0, 1) := by decide +kernel
theorem dL_law_859 : decode cL_law 859 = .ok (.laload, 1) := by decide +kernel
theorem dL_law_860 : decode cL_law 860 = .ok (.iload 6, 2) := by decide +kernel
theorem dL_law_862 : decode cL_law 862 = .ok (.i2l, 1) := by decide +kernel
theorem dL_law_863 : decode cL_law 863 = .ok (.lcmp, 1) := by decide +kernel
theorem dL_law_864 : decode cL_law 864 = .ok (.ifCond .eq 5, 3) := by decide +kernel
theorem dL_law_867 : decode cL_law 867 = .ok (.iconst 0, 1) := by decide +kernel
theorem dL_law_868 : decode cL_law 868 = .ok (.ireturn, 1) := by decide +kernel
theorem dL_law_869 : decode cL_law 869 = .ok (.goto 956, 3) := by decide +kernel
theorem dL_law_872 : decode cL_law 872 = .ok (.aload_n 1, 1) := by decide +kernel
theorem dL_law_873 : decode cL_law 873 = .ok (.aload_n 0, 1) := by decide +kernel
theorem dL_law_874 : decode cL_law 874 = .ok (.iload 4, 2) := by decide +kernel
theorem dL_law_876 : decode cL_law 876 = .ok (.iconst 1, 1) := by decide +kernel
theorem dL_law_877 : decode cL_law 877 = .ok (.iadd, 1) := by decide +kernel
theorem dL_law_878 : decode cL_law 878 = .ok (.iaload, 1) := by decide +kernel
theorem dL_law_879 : decode cL_law 879 = .ok (.aload_n 3, 1) := by decide +kernel
theorem dL_law_880 : decode cL_law 880 = .ok (.invokestatic 137, 3) := by decide +kernel
theorem dL_law_883 : decode cL_law 883 = .ok (.istore 5, 2) := by decide +kernel
theorem dL_law_885 : decode cL_law 885 = .ok (.aload_n 2, 1) := by decide +kernel
theorem dL_law_886 : decode cL_law 886 = .ok (.aload_n 0, 1) := by decide +kernel
theorem dL_law_887 : decode cL_law 887 = .ok (.iload 4, 2) := by decide +kernel
theorem dL_law_889 : decode cL_law 889 = .ok (.iconst 1, 1) := by decide +kernel
theorem dL_law_890 : decode cL_law 890 = .ok (.iadd, 1) := by decide +kernel
theorem dL_law_891 : decode cL_law 891 = .ok (.iaload, 1) := by decide +kernel
theorem dL_law_892 : decode cL_law 892 = .ok (.invokevirtual 139, 3) := by decide +kernel
theorem dL_law_895 : decode cL_law 895 = .ok (.istore 6, 2) := by decide +kernel
theorem dL_law_897 : decode cL_law 897 = .ok (.aload_n 2, 1) := by decide +kernel
theorem dL_law_898 : decode cL_law 898 = .ok (.invokevirtual 103, 3) := by decide +kernel
theorem dL_law_901 : decode cL_law 901 = .ok (.iload 5, 2) := by decide +kernel
theorem dL_law_903 : decode cL_law 903 = .ok (.if_icmp .eq 5, 3) := by decide +kernel
theorem dL_law_906 : decode cL_law 906 = .ok (.iconst 0, 1) := by decide +kernel
theorem dL_law_907 : decode cL_law 907 = .ok (.ireturn, 1) := by decide +kernel
theorem dL_law_908 : decode cL_law 908 = .ok (.iload 5, 2) := by decide +kernel
theorem dL_law_910 : decode cL_law 910 = .ok (.ifCond .ne 15, 3) := by decide +kernel
theorem dL_law_913 : decode cL_law 913 = .ok (.aload_n 3, 1) := by decide +kernel
theorem dL_law_914 : decode cL_law 914 = .ok (.iconst 0, 1) := by decide +kernel
theorem dL_law_915 : decode cL_law 915 = .ok (.laload, 1) := by decide +kernel
theorem dL_law_916 : decode cL_law 916 = .ok (.iload 6, 2) := by decide +kernel
theorem dL_law_918 : decode cL_law 918 = .ok (.i2l, 1) := by decide +kernel
theorem dL_law_919 : decode cL_law 919 = .ok (.lcmp, 1) := by decide +kernel
theorem dL_law_920 : decode cL_law 920 = .ok (.ifCond .eq 5, 3) := by decide +kernel
theorem dL_law_923 : decode cL_law 923 = .ok (.iconst 0, 1) := by decide +kernel
theorem dL_law_924 : decode cL_law 924 = .ok (.ireturn, 1) := by decide +kernel
theorem dL_law_925 : decode cL_law 925 = .ok (.goto 900, 3) := by decide +kernel
theorem dL_law_928 : decode cL_law 928 = .ok (.aload_n 1, 1) := by decide +kernel
theorem dL_law_929 : decode cL_law 929 = .ok (.aload_n 0, 1) := by decide +kernel
theorem dL_law_930 : decode cL_law 930 = .ok (.iload 4, 2) := by decide +kernel
theorem dL_law_932 : decode cL_law 932 = .ok (.iconst 1, 1) := by decide +kernel
theorem dL_law_933 : decode cL_law 933 = .ok (.iadd, 1) := by decide +kernel
theorem dL_law_934 : decode cL_law 934 = .ok (.iaload, 1) := by decide +kernel
theorem dL_law_935 : decode cL_law 935 = .ok (.aload_n 3, 1) := by decide +kernel
theorem dL_law_936 : decode cL_law 936 = .ok (.invokestatic 140, 3) := by decide +kernel
theorem dL_law_939 : decode cL_law 939 = .ok (.istore 5, 2) := by decide +kernel
theorem dL_law_941 : decode cL_law 941 = .ok (.aload_n 2, 1) := by decide +kernel
theorem dL_law_942 : decode cL_law 942 = .ok (.aload_n 0, 1) := by decide +kernel
theorem dL_law_943 : decode cL_law 943 = .ok (.iload 4, 2) := by decide +kernel
theorem dL_law_945 : decode cL_law 945 = .ok (.iconst 1, 1) := by decide +kernel
theorem dL_law_946 : decode cL_law 946 = .ok (.iadd, 1) := by decide +kernel
theorem dL_law_947 : decode cL_law 947 = .ok (.iaload, 1) := by decide +kernel
theorem dL_law_948 : decode cL_law 948 = .ok (.invokevirtual 142, 3) := by decide +kernel
theorem dL_law_951 : decode cL_law 951 = .ok (.istore 6, 2) := by decide +kernel
theorem dL_law_953 : decode cL_law 953 = .ok (.aload_n 2, 1) := by decide +kernel
theorem dL_law_954 : decode cL_law 954 = .ok (.invokevirtual 103, 3) := by decide +kernel
theorem dL_law_957 : decode cL_law 957 = .ok (.iload 5, 2) := by decide +kernel
theorem dL_law_959 : decode cL_law 959 = .ok (.if_icmp .eq 5, 3) := by decide +kernel
theorem dL_law_962 : decode cL_law 962 = .ok (.iconst 0, 1) := by decide +kernel
theorem dL_law_963 : decode cL_law 963 = .ok (.ireturn, 1) := by decide +kernel
theorem dL_law_964 : decode cL_law 964 = .ok (.iload 5, 2) := by decide +kernel
theorem dL_law_966 : decode cL_law 966 = .ok (.ifCond .ne 15, 3) := by decide +kernel
theorem dL_law_969 : decode cL_law 969 = .ok (.aload_n 3, 1) := by decide +kernel
theorem dL_law_970 : decode cL_law 970 = .ok (.iconst 0, 1) := by decide +kernel
theorem dL_law_971 : decode cL_law 971 = .ok (.laload, 1) := by decide +kernel
theorem dL_law_972 : decode cL_law 972 = .ok (.iload 6, 2) := by decide +kernel
theorem dL_law_974 : decode cL_law 974 = .ok (.i2l, 1) := by decide +kernel
theorem dL_law_975 : decode cL_law 975 = .ok (.lcmp, 1) := by decide +kernel
theorem dL_law_976 : decode cL_law 976 = .ok (.ifCond .eq 5, 3) := by decide +kernel
theorem dL_law_979 : decode cL_law 979 = .ok (.iconst 0, 1) := by decide +kernel
theorem dL_law_980 : decode cL_law 980 = .ok (.ireturn, 1) := by decide +kernel
theorem dL_law_981 : decode cL_law 981 = .ok (.goto 844, 3) := by decide +kernel
theorem dL_law_984 : decode cL_law 984 = .ok (.aload_n 1, 1) := by decide +kernel
theorem dL_law_985 : decode cL_law 985 = .ok (.invokevirtual 143, 3) := by decide +kernel
theorem dL_law_988 : decode cL_law 988 = .ok (.aload_n 2, 1) := by decide +kernel
theorem dL_law_989 : decode cL_law 989 = .ok (.invokevirtual 147, 3) := by decide +kernel
theorem dL_law_992 : decode cL_law 992 = .ok (.lcmp, 1) := by decide +kernel
theorem dL_law_993 : decode cL_law 993 = .ok (.ifCond .eq 832, 3) := by decide +kernel
theorem dL_law_996 : decode cL_law 996 = .ok (.iconst 0, 1) := by decide +kernel
theorem dL_law_997 : decode cL_law 997 = .ok (.ireturn, 1) := by decide +kernel
theorem dL_law_998 : decode cL_law 998 = .ok (.aload_n 1, 1) := by decide +kernel
theorem dL_law_999 : decode cL_law 999 = .ok (.aload_n 0, 1) := by decide +kernel
theorem dL_law_1000 : decode cL_law 1000 = .ok (.iload 4, 2) := by decide +kernel
theorem dL_law_1002 : decode cL_law 1002 = .ok (.iconst 1, 1) := by decide +kernel
theorem dL_law_1003 : decode cL_law 1003 = .ok (.iadd, 1) := by decide +kernel
theorem dL_law_1004 : decode cL_law 1004 = .ok (.iaload, 1) := by decide +kernel
theorem dL_law_1005 : decode cL_law 1005 = .ok (.aload_n 3, 1) := by decide +kernel
theorem dL_law_1006 : decode cL_law 1006 = .ok (.invokestatic 148, 3) := by decide +kernel
theorem dL_law_1009 : decode cL_law 1009 = .ok (.istore 5, 2) := by decide +kernel
theorem dL_law_1011 : decode cL_law 1011 = .ok (.aload_n 2, 1) := by decide +kernel
theorem dL_law_1012 : decode cL_law 1012 = .ok (.aload_n 0, 1) := by decide +kernel
theorem dL_law_1013 : decode cL_law 1013 = .ok (.iload 4, 2) := by decide +kernel
theorem dL_law_1015 : decode cL_law 1015 = .ok (.iconst 1, 1) := by decide +kernel
theorem dL_law_1016 : decode cL_law 1016 = .ok (.iadd, 1) := by decide +kernel
theorem dL_law_1017 : decode cL_law 1017 = .ok (.iaload, 1) := by decide +kernel
theorem dL_law_1018 : decode cL_law 1018 = .ok (.invokevirtual 150, 3) := by decide +kernel
theorem dL_law_1021 : decode cL_law 1021 = .ok (.lstore 6, 2) := by decide +kernel
theorem dL_law_1023 : decode cL_law 1023 = .ok (.aload_n 2, 1) := by decide +kernel
theorem dL_law_1024 : decode cL_law 1024 = .ok (.invokevirtual 103, 3) := by decide +kernel
theorem dL_law_1027 : decode cL_law 1027 = .ok (.iload 5, 2) := by decide +kernel
theorem dL_law_1029 : decode cL_law 1029 = .ok (.if_icmp .eq 5, 3) := by decide +kernel
theorem dL_law_1032 : decode cL_law 1032 = .ok (.iconst 0, 1) := by decide +kernel
theorem dL_law_1033 : decode cL_law 1033 = .ok (.ireturn, 1) := by decide +kernel
theorem dL_law_1034 : decode cL_law 1034 = .ok (.iload 5, 2) := by decide +kernel
theorem dL_law_1036 : decode cL_law 1036 = .ok (.ifCond .ne 14, 3) := by decide +kernel
theorem dL_law_1039 : decode cL_law 1039 = .ok (.aload_n 3, 1) := by decide +kernel
theorem dL_law_1040 : decode cL_law 1040 = .ok (.iconst 0, 1) := by decide +kernel
theorem dL_law_1041 : decode cL_law 1041 = .ok (.laload, 1) := by decide +kernel
theorem dL_law_1042 : decode cL_law 1042 = .ok (.lload 6, 2) := by decide +kernel
theorem dL_law_1044 : decode cL_law 1044 = .ok (.lcmp, 1) := by decide +kernel
theorem dL_law_1045 : decode cL_law 1045 = .ok (.ifCond .eq 5, 3) := by decide +kernel
theorem dL_law_1048 : decode cL_law 1048 = .ok (.iconst 0, 1) := by decide +kernel
theorem dL_law_1049 : decode cL_law 1049 = .ok (.ireturn, 1) := by decide +kernel
theorem dL_law_1050 : decode cL_law 1050 = .ok (.goto 775, 3) := by decide +kernel
theorem dL_law_1053 : decode cL_law 1053 = .ok (.aload_n 1, 1) := by decide +kernel
theorem dL_law_1054 : decode cL_law 1054 = .ok (.aload_n 0, 1) := by decide +kernel
theorem dL_law_1055 : decode cL_law 1055 = .ok (.iload 4, 2) := by decide +kernel
theorem dL_law_1057 : decode cL_law 1057 = .ok (.iconst 1, 1) := by decide +kernel
theorem dL_law_1058 : decode cL_law 1058 = .ok (.iadd, 1) := by decide +kernel
theorem dL_law_1059 : decode cL_law 1059 = .ok (.iaload, 1) := by decide +kernel
theorem dL_law_1060 : decode cL_law 1060 = .ok (.aload_n 3, 1) := by decide +kernel
theorem dL_law_1061 : decode cL_law 1061 = .ok (.invokestatic 151, 3) := by decide +kernel
theorem dL_law_1064 : decode cL_law 1064 = .ok (.istore 5, 2) := by decide +kernel
theorem dL_law_1066 : decode cL_law 1066 = .ok (.aload_n 2, 1) := by decide +kernel
theorem dL_law_1067 : decode cL_law 1067 = .ok (.aload_n 0, 1) := by decide +kernel
theorem dL_law_1068 : decode cL_law 1068 = .ok (.iload 4, 2) := by decide +kernel
theorem dL_law_1070 : decode cL_law 1070 = .ok (.iconst 1, 1) := by decide +kernel
theorem dL_law_1071 : decode cL_law 1071 = .ok (.iadd, 1) := by decide +kernel
theorem dL_law_1072 : decode cL_law 1072 = .ok (.iaload, 1) := by decide +kernel
theorem dL_law_1073 : decode cL_law 1073 = .ok (.invokevirtual 153, 3) := by decide +kernel
theorem dL_law_1076 : decode cL_law 1076 = .ok (.istore 6, 2) := by decide +kernel
theorem dL_law_1078 : decode cL_law 1078 = .ok (.aload_n 2, 1) := by decide +kernel
theorem dL_law_1079 : decode cL_law 1079 = .ok (.invokevirtual 103, 3) := by decide +kernel
theorem dL_law_1082 : decode cL_law 1082 = .ok (.iload 5, 2) := by decide +kernel
theorem dL_law_1084 : decode cL_law 1084 = .ok (.if_icmp .eq 5, 3) := by decide +kernel
theorem dL_law_1087 : decode cL_law 1087 = .ok (.iconst 0, 1) := by decide +kernel
theorem dL_law_1088 : decode cL_law 1088 = .ok (.ireturn, 1) := by decide +kernel
theorem dL_law_1089 : decode cL_law 1089 = .ok (.iload 5, 2) := by decide +kernel
theorem dL_law_1091 : decode cL_law 1091 = .ok (.ifCond .ne 15, 3) := by decide +kernel
theorem dL_law_1094 : decode cL_law 1094 = .ok (.aload_n 3, 1) := by decide +kernel
theorem dL_law_1095 : decode cL_law 1095 = .ok (.iconst 0, 1) := by decide +kernel
theorem dL_law_1096 : decode cL_law 1096 = .ok (.laload, 1) := by decide +kernel
theorem dL_law_1097 : decode cL_law 1097 = .ok (.iload 6, 2) := by decide +kernel
theorem dL_law_1099 : decode cL_law 1099 = .ok (.i2l, 1) := by decide +kernel
theorem dL_law_1100 : decode cL_law 1100 = .ok (.lcmp, 1) := by decide +kernel
theorem dL_law_1101 : decode cL_law 1101 = .ok (.ifCond .eq 5, 3) := by decide +kernel
theorem dL_law_1104 : decode cL_law 1104 = .ok (.iconst 0, 1) := by decide +kernel
theorem dL_law_1105 : decode cL_law 1105 = .ok (.ireturn, 1) := by decide +kernel
theorem dL_law_1106 : decode cL_law 1106 = .ok (.goto 719, 3) := by decide +kernel
theorem dL_law_1109 : decode cL_law 1109 = .ok (.aload_n 1, 1) := by decide +kernel
theorem dL_law_1110 : decode cL_law 1110 = .ok (.aload_n 0, 1) := by decide +kernel
theorem dL_law_1111 : decode cL_law 1111 = .ok (.iload 4, 2) := by decide +kernel
theorem dL_law_1113 : decode cL_law 1113 = .ok (.iconst 1, 1) := by decide +kernel
theorem dL_law_1114 : decode cL_law 1114 = .ok (.iadd, 1) := by decide +kernel
theorem dL_law_1115 : decode cL_law 1115 = .ok (.iaload, 1) := by decide +kernel
theorem dL_law_1116 : decode cL_law 1116 = .ok (.aload_n 0, 1) := by decide +kernel
theorem dL_law_1117 : decode cL_law 1117 = .ok (.iload 4, 2) := by decide +kernel
theorem dL_law_1119 : decode cL_law 1119 = .ok (.iconst 2, 1) := by decide +kernel
theorem dL_law_1120 : decode cL_law 1120 = .ok (.iadd, 1) := by decide +kernel
theorem dL_law_1121 : decode cL_law 1121 = .ok (.iaload, 1) := by decide +kernel
theorem dL_law_1122 : decode cL_law 1122 = .ok (.aload_n 0, 1) := by decide +kernel
theorem dL_law_1123 : decode cL_law 1123 = .ok (.iload 4, 2) := by decide +kernel
theorem dL_law_1125 : decode cL_law 1125 = .ok (.iconst 3, 1) := by decide +kernel
theorem dL_law_1126 : decode cL_law 1126 = .ok (.iadd, 1) := by decide +kernel
theorem dL_law_1127 : decode cL_law 1127 = .ok (.iaload, 1) := by decide +kernel
theorem dL_law_1128 : decode cL_law 1128 = .ok (.aload_n 3, 1) := by decide +kernel
theorem dL_law_1129 : decode cL_law 1129 = .ok (.invokestatic 154, 3) := by decide +kernel
theorem dL_law_1132 : decode cL_law 1132 = .ok (.istore 5, 2) := by decide +kernel
theorem dL_law_1134 : decode cL_law 1134 = .ok (.aload_n 2, 1) := by decide +kernel
theorem dL_law_1135 : decode cL_law 1135 = .ok (.aload_n 0, 1) := by decide +kernel
theorem dL_law_1136 : decode cL_law 1136 = .ok (.iload 4, 2) := by decide +kernel
theorem dL_law_1138 : decode cL_law 1138 = .ok (.iconst 1, 1) := by decide +kernel
theorem dL_law_1139 : decode cL_law 1139 = .ok (.iadd, 1) := by decide +kernel
theorem dL_law_1140 : decode cL_law 1140 = .ok (.iaload, 1) := by decide +kernel
theorem dL_law_1141 : decode cL_law 1141 = .ok (.aload_n 0, 1) := by decide +kernel
theorem dL_law_1142 : decode cL_law 1142 = .ok (.iload 4, 2) := by decide +kernel
theorem dL_law_1144 : decode cL_law 1144 = .ok (.iconst 2, 1) := by decide +kernel
theorem dL_law_1145 : decode cL_law 1145 = .ok (.iadd, 1) := by decide +kernel
theorem dL_law_1146 : decode cL_law 1146 = .ok (.iaload, 1) := by decide +kernel
theorem dL_law_1147 : decode cL_law 1147 = .ok (.aload_n 0, 1) := by decide +kernel
theorem dL_law_1148 : decode cL_law 1148 = .ok (.iload 4, 2) := by decide +kernel
theorem dL_law_1150 : decode cL_law 1150 = .ok (.iconst 3, 1) := by decide +kernel
theorem dL_law_1151 : decode cL_law 1151 = .ok (.iadd, 1) := by decide +kernel
theorem dL_law_1152 : decode cL_law 1152 = .ok (.iaload, 1) := by decide +kernel
theorem dL_law_1153 : decode cL_law 1153 = .ok (.invokevirtual 156, 3) := by decide +kernel
theorem dL_law_1156 : decode cL_law 1156 = .ok (.istore 6, 2) := by decide +kernel
theorem dL_law_1158 : decode cL_law 1158 = .ok (.aload_n 2, 1) := by decide +kernel
theorem dL_law_1159 : decode cL_law 1159 = .ok (.invokevirtual 103, 3) := by decide +kernel
theorem dL_law_1162 : decode cL_law 1162 = .ok (.iload 5, 2) := by decide +kernel
theorem dL_law_1164 : decode cL_law 1164 = .ok (.if_icmp .eq 5, 3) := by decide +kernel
theorem dL_law_1167 : decode cL_law 1167 = .ok (.iconst 0, 1) := by decide +kernel
theorem dL_law_1168 : decode cL_law 1168 = .ok (.ireturn, 1) := by decide +kernel
theorem dL_law_1169 : decode cL_law 1169 = .ok (.iload 5, 2) := by decide +kernel
theorem dL_law_1171 : decode cL_law 1171 = .ok (.ifCond .ne 15, 3) := by decide +kernel
theorem dL_law_1174 : decode cL_law 1174 = .ok (.aload_n 3, 1) := by decide +kernel
theorem dL_law_1175 : decode cL_law 1175 = .ok (.iconst 0, 1) := by decide +kernel
theorem dL_law_1176 : decode cL_law 1176 = .ok (.laload, 1) := by decide +kernel
theorem dL_law_1177 : decode cL_law 1177 = .ok (.iload 6, 2) := by decide +kernel
theorem dL_law_1179 : decode cL_law 1179 = .ok (.i2l, 1) := by decide +kernel
theorem dL_law_1180 : decode cL_law 1180 = .ok (.lcmp, 1) := by decide +kernel
theorem dL_law_1181 : decode cL_law 1181 = .ok (.ifCond .eq 5, 3) := by decide +kernel
theorem dL_law_1184 : decode cL_law 1184 = .ok (.iconst 0, 1) := by decide +kernel
theorem dL_law_1185 : decode cL_law 1185 = .ok (.ireturn, 1) := by decide +kernel
theorem dL_law_1186 : decode cL_law 1186 = .ok (.goto 639, 3) := by decide +kernel
theorem dL_law_1189 : decode cL_law 1189 = .ok (.aload_n 1, 1) := by decide +kernel
theorem dL_law_1190 : decode cL_law 1190 = .ok (.aload_n 0, 1) := by decide +kernel
theorem dL_law_1191 : decode cL_law 1191 = .ok (.iload 4, 2) := by decide +kernel
theorem dL_law_1193 : decode cL_law 1193 = .ok (.iconst 1, 1) := by decide +kernel
theorem dL_law_1194 : decode cL_law 1194 = .ok (.iadd, 1) := by decide +kernel
theorem dL_law_1195 : decode cL_law 1195 = .ok (.iaload, 1) := by decide +kernel
theorem dL_law_1196 : decode cL_law 1196 = .ok (.aload_n 0, 1) := by decide +kernel
theorem dL_law_1197 : decode cL_law 1197 = .ok (.iload 4, 2) := by decide +kernel
theorem dL_law_1199 : decode cL_law 1199 = .ok (.iconst 2, 1) := by decide +kernel
theorem dL_law_1200 : decode cL_law 1200 = .ok (.iadd, 1) := by decide +kernel
theorem dL_law_1201 : decode cL_law 1201 = .ok (.iaload, 1) := by decide +kernel
theorem dL_law_1202 : decode cL_law 1202 = .ok (.aload_n 3, 1) := by decide +kernel
theorem dL_law_1203 : decode cL_law 1203 = .ok (.invokestatic 157, 3) := by decide +kernel
theorem dL_law_1206 : decode cL_law 1206 = .ok (.istore 5, 2) := by decide +kernel
theorem dL_law_1208 : decode cL_law 1208 = .ok (.aload_n 2, 1) := by decide +kernel
theorem dL_law_1209 : decode cL_law 1209 = .ok (.aload_n 0, 1) := by decide +kernel
theorem dL_law_1210 : decode cL_law 1210 = .ok (.iload 4, 2) := by decide +kernel
theorem dL_law_1212 : decode cL_law 1212 = .ok (.iconst 1, 1) := by decide +kernel
theorem dL_law_1213 : decode cL_law 1213 = .ok (.iadd, 1) := by decide +kernel
theorem dL_law_1214 : decode cL_law 1214 = .ok (.iaload, 1) := by decide +kernel
theorem dL_law_1215 : decode cL_law 1215 = .ok (.aload_n 0, 1) := by decide +kernel
theorem dL_law_1216 : decode cL_law 1216 = .ok (.iload 4, 2) := by decide +kernel
theorem dL_law_1218 : decode cL_law 1218 = .ok (.iconst 2, 1) := by decide +kernel
theorem dL_law_1219 : decode cL_law 1219 = .ok (.iadd, 1) := by decide +kernel
theorem dL_law_1220 : decode cL_law 1220 = .ok (.iaload, 1) := by decide +kernel
theorem dL_law_1221 : decode cL_law 1221 = .ok (.invokevirtual 159, 3) := by decide +kernel
theorem dL_law_1224 : decode cL_law 1224 = .ok (.istore 6, 2) := by decide +kernel
theorem dL_law_1226 : decode cL_law 1226 = .ok (.aload_n 2, 1) := by decide +kernel
theorem dL_law_1227 : decode cL_law 1227 = .ok (.invokevirtual 103, 3) := by decide +kernel
theorem dL_law_1230 : decode cL_law 1230 = .ok (.iload 5, 2) := by decide +kernel
theorem dL_law_1232 : decode cL_law 1232 = .ok (.if_icmp .eq 5, 3) := by decide +kernel
theorem dL_law_1235 : decode cL_law 1235 = .ok (.iconst 0, 1) := by decide +kernel
theorem dL_law_1236 : decode cL_law 1236 = .ok (.ireturn, 1) := by decide +kernel
theorem dL_law_1237 : decode cL_law 1237 = .ok (.iload 5, 2) := by decide +kernel
theorem dL_law_1239 : decode cL_law 1239 = .ok (.ifCond .ne 15, 3) := by decide +kernel
theorem dL_law_1242 : decode cL_law 1242 = .ok (.aload_n 3, 1) := by decide +kernel
theorem dL_law_1243 : decode cL_law 1243 = .ok (.iconst 0, 1) := by decide +kernel
theorem dL_law_1244 : decode cL_law 1244 = .ok (.laload, 1) := by decide +kernel
theorem dL_law_1245 : decode cL_law 1245 = .ok (.iload 6, 2) := by decide +kernel
theorem dL_law_1247 : decode cL_law 1247 = .ok (.i2l, 1) := by decide +kernel
theorem dL_law_1248 : decode cL_law 1248 = .ok (.lcmp, 1) := by decide +kernel
theorem dL_law_1249 : decode cL_law 1249 = .ok (.ifCond .eq 5, 3) := by decide +kernel
theorem dL_law_1252 : decode cL_law 1252 = .ok (.iconst 0, 1) := by decide +kernel
theorem dL_law_1253 : decode cL_law 1253 = .ok (.ireturn, 1) := by decide +kernel
theorem dL_law_1254 : decode cL_law 1254 = .ok (.goto 571, 3) := by decide +kernel
theorem dL_law_1257 : decode cL_law 1257 = .ok (.aload_n 1, 1) := by decide +kernel
theorem dL_law_1258 : decode cL_law 1258 = .ok (.aload_n 0, 1) := by decide +kernel
theorem dL_law_1259 : decode cL_law 1259 = .ok (.iload 4, 2) := by decide +kernel
theorem dL_law_1261 : decode cL_law 1261 = .ok (.iconst 1, 1) := by decide +kernel
theorem dL_law_1262 : decode cL_law 1262 = .ok (.iadd, 1) := by decide +kernel
theorem dL_law_1263 : decode cL_law 1263 = .ok (.iaload, 1) := by decide +kernel
theorem dL_law_1264 : decode cL_law 1264 = .ok (.aload_n 3, 1) := by decide +kernel
theorem dL_law_1265 : decode cL_law 1265 = .ok (.invokestatic 160, 3) := by decide +kernel
theorem dL_law_1268 : decode cL_law 1268 = .ok (.istore 5, 2) := by decide +kernel
theorem dL_law_1270 : decode cL_law 1270 = .ok (.aload_n 2, 1) := by decide +kernel
theorem dL_law_1271 : decode cL_law 1271 = .ok (.aload_n 0, 1) := by decide +kernel
theorem dL_law_1272 : decode cL_law 1272 = .ok (.iload 4, 2) := by decide +kernel
theorem dL_law_1274 : decode cL_law 1274 = .ok (.iconst 1, 1) := by decide +kernel
theorem dL_law_1275 : decode cL_law 1275 = .ok (.iadd, 1) := by decide +kernel
theorem dL_law_1276 : decode cL_law 1276 = .ok (.iaload, 1) := by decide +kernel
theorem dL_law_1277 : decode cL_law 1277 = .ok (.invokevirtual 162, 3) := by decide +kernel
theorem dL_law_1280 : decode cL_law 1280 = .ok (.istore 6, 2) := by decide +kernel
theorem dL_law_1282 : decode cL_law 1282 = .ok (.aload_n 2, 1) := by decide +kernel
theorem dL_law_1283 : decode cL_law 1283 = .ok (.invokevirtual 103, 3) := by decide +kernel
theorem dL_law_1286 : decode cL_law 1286 = .ok (.iload 5, 2) := by decide +kernel
theorem dL_law_1288 : decode cL_law 1288 = .ok (.if_icmp .eq 5, 3) := by decide +kernel
theorem dL_law_1291 : decode cL_law 1291 = .ok (.iconst 0, 1) := by decide +kernel
theorem dL_law_1292 : decode cL_law 1292 = .ok (.ireturn, 1) := by decide +kernel
theorem dL_law_1293 : decode cL_law 1293 = .ok (.iload 5, 2) := by decide +kernel
theorem dL_law_1295 : decode cL_law 1295 = .ok (.ifCond .ne 15, 3) := by decide +kernel
theorem dL_law_1298 : decode cL_law 1298 = .ok (.aload_n 3, 1) := by decide +kernel
theorem dL_law_1299 : decode cL_law 1299 = .ok (.iconst 0, 1) := by decide +kernel
theorem dL_law_1300 : decode cL_law 1300 = .ok (.laload, 1) := by decide +kernel
theorem dL_law_1301 : decode cL_law 1301 = .ok (.iload 6, 2) := by decide +kernel
theorem dL_law_1303 : decode cL_law 1303 = .ok (.i2l, 1) := by decide +kernel
theorem dL_law_1304 : decode cL_law 1304 = .ok (.lcmp, 1) := by decide +kernel
theorem dL_law_1305 : decode cL_law 1305 = .ok (.ifCond .eq 5, 3) := by decide +kernel
theorem dL_law_1308 : decode cL_law 1308 = .ok (.iconst 0, 1) := by decide +kernel
theorem dL_law_1309 : decode cL_law 1309 = .ok (.ireturn, 1) := by decide +kernel
theorem dL_law_1310 : decode cL_law 1310 = .ok (.goto 515, 3) := by decide +kernel
theorem dL_law_1313 : decode cL_law 1313 = .ok (.aload_n 1, 1) := by decide +kernel
theorem dL_law_1314 : decode cL_law 1314 = .ok (.aload_n 0, 1) := by decide +kernel
theorem dL_law_1315 : decode cL_law 1315 = .ok (.iload 4, 2) := by decide +kernel
theorem dL_law_1317 : decode cL_law 1317 = .ok (.iconst 1, 1) := by decide +kernel
theorem dL_law_1318 : decode cL_law 1318 = .ok (.iadd, 1) := by decide +kernel
theorem dL_law_1319 : decode cL_law 1319 = .ok (.iaload, 1) := by decide +kernel
theorem dL_law_1320 : decode cL_law 1320 = .ok (.aload_n 0, 1) := by decide +kernel
theorem dL_law_1321 : decode cL_law 1321 = .ok (.iload 4, 2) := by decide +kernel
theorem dL_law_1323 : decode cL_law 1323 = .ok (.iconst 2, 1) := by decide +kernel
theorem dL_law_1324 : decode cL_law 1324 = .ok (.iadd, 1) := by decide +kernel
theorem dL_law_1325 : decode cL_law 1325 = .ok (.iaload, 1) := by decide +kernel
theorem dL_law_1326 : decode cL_law 1326 = .ok (.aload_n 3, 1) := by decide +kernel
theorem dL_law_1327 : decode cL_law 1327 = .ok (.invokestatic 163, 3) := by decide +kernel
theorem dL_law_1330 : decode cL_law 1330 = .ok (.istore 5, 2) := by decide +kernel
theorem dL_law_1332 : decode cL_law 1332 = .ok (.aload_n 2, 1) := by decide +kernel
theorem dL_law_1333 : decode cL_law 1333 = .ok (.aload_n 0, 1) := by decide +kernel
theorem dL_law_1334 : decode cL_law 1334 = .ok (.iload 4, 2) := by decide +kernel
theorem dL_law_1336 : decode cL_law 1336 = .ok (.iconst 1, 1) := by decide +kernel
theorem dL_law_1337 : decode cL_law 1337 = .ok (.iadd, 1) := by decide +kernel
theorem dL_law_1338 : decode cL_law 1338 = .ok (.iaload, 1) := by decide +kernel
theorem dL_law_1339 : decode cL_law 1339 = .ok (.aload_n 0, 1) := by decide +kernel
theorem dL_law_1340 : decode cL_law 1340 = .ok (.iload 4, 2) := by decide +kernel
theorem dL_law_1342 : decode cL_law 1342 = .ok (.iconst 2, 1) := by decide +kernel
theorem dL_law_1343 : decode cL_law 1343 = .ok (.iadd, 1) := by decide +kernel
theorem dL_law_1344 : decode cL_law 1344 = .ok (.iaload, 1) := by decide +kernel
theorem dL_law_1345 : decode cL_law 1345 = .ok (.invokevirtual 165, 3) := by decide +kernel
theorem dL_law_1348 : decode cL_law 1348 = .ok (.istore 6, 2) := by decide +kernel
theorem dL_law_1350 : decode cL_law 1350 = .ok (.aload_n 2, 1) := by decide +kernel
theorem dL_law_1351 : decode cL_law 1351 = .ok (.invokevirtual 103, 3) := by decide +kernel
theorem dL_law_1354 : decode cL_law 1354 = .ok (.iload 5, 2) := by decide +kernel
theorem dL_law_1356 : decode cL_law 1356 = .ok (.if_icmp .eq 5, 3) := by decide +kernel
theorem dL_law_1359 : decode cL_law 1359 = .ok (.iconst 0, 1) := by decide +kernel
theorem dL_law_1360 : decode cL_law 1360 = .ok (.ireturn, 1) := by decide +kernel
theorem dL_law_1361 : decode cL_law 1361 = .ok (.iload 5, 2) := by decide +kernel
theorem dL_law_1363 : decode cL_law 1363 = .ok (.ifCond .ne 15, 3) := by decide +kernel
theorem dL_law_1366 : decode cL_law 1366 = .ok (.aload_n 3, 1) := by decide +kernel
theorem dL_law_1367 : decode cL_law 1367 = .ok (.iconst 0, 1) := by decide +kernel
theorem dL_law_1368 : decode cL_law 1368 = .ok (.laload, 1) := by decide +kernel
theorem dL_law_1369 : decode cL_law 1369 = .ok (.iload 6, 2) := by decide +kernel
theorem dL_law_1371 : decode cL_law 1371 = .ok (.i2l, 1) := by decide +kernel
theorem dL_law_1372 : decode cL_law 1372 = .ok (.lcmp, 1) := by decide +kernel
theorem dL_law_1373 : decode cL_law 1373 = .ok (.ifCond .eq 5, 3) := by decide +kernel
theorem dL_law_1376 : decode cL_law 1376 = .ok (.iconst 0, 1) := by decide +kernel
theorem dL_law_1377 : decode cL_law 1377 = .ok (.ireturn, 1) := by decide +kernel
theorem dL_law_1378 : decode cL_law 1378 = .ok (.goto 447, 3) := by decide +kernel
theorem dL_law_1381 : decode cL_law 1381 = .ok (.aload_n 1, 1) := by decide +kernel
theorem dL_law_1382 : decode cL_law 1382 = .ok (.aload_n 0, 1) := by decide +kernel
theorem dL_law_1383 : decode cL_law 1383 = .ok (.iload 4, 2) := by decide +kernel
theorem dL_law_1385 : decode cL_law 1385 = .ok (.iconst 1, 1) := by decide +kernel
theorem dL_law_1386 : decode cL_law 1386 = .ok (.iadd, 1) := by decide +kernel
theorem dL_law_1387 : decode cL_law 1387 = .ok (.iaload, 1) := by decide +kernel
theorem dL_law_1388 : decode cL_law 1388 = .ok (.aload_n 0, 1) := by decide +kernel
theorem dL_law_1389 : decode cL_law 1389 = .ok (.iload 4, 2) := by decide +kernel
theorem dL_law_1391 : decode cL_law 1391 = .ok (.iconst 2, 1) := by decide +kernel
theorem dL_law_1392 : decode cL_law 1392 = .ok (.iadd, 1) := by decide +kernel
theorem dL_law_1393 : decode cL_law 1393 = .ok (.iaload, 1) := by decide +kernel
theorem dL_law_1394 : decode cL_law 1394 = .ok (.aload_n 0, 1) := by decide +kernel
theorem dL_law_1395 : decode cL_law 1395 = .ok (.iload 4, 2) := by decide +kernel
theorem dL_law_1397 : decode cL_law 1397 = .ok (.iconst 3, 1) := by decide +kernel
theorem dL_law_1398 : decode cL_law 1398 = .ok (.iadd, 1) := by decide +kernel
theorem dL_law_1399 : decode cL_law 1399 = .ok (.iaload, 1) := by decide +kernel
theorem dL_law_1400 : decode cL_law 1400 = .ok (.aload_n 3, 1) := by decide +kernel
theorem dL_law_1401 : decode cL_law 1401 = .ok (.invokestatic 166, 3) := by decide +kernel
theorem dL_law_1404 : decode cL_law 1404 = .ok (.istore 5, 2) := by decide +kernel
theorem dL_law_1406 : decode cL_law 1406 = .ok (.aload_n 2, 1) := by decide +kernel
theorem dL_law_1407 : decode cL_law 1407 = .ok (.aload_n 0, 1) := by decide +kernel
theorem dL_law_1408 : decode cL_law 1408 = .ok (.iload 4, 2) := by decide +kernel
theorem dL_law_1410 : decode cL_law 1410 = .ok (.iconst 1, 1) := by decide +kernel
theorem dL_law_1411 : decode cL_law 1411 = .ok (.iadd, 1) := by decide +kernel
theorem dL_law_1412 : decode cL_law 1412 = .ok (.iaload, 1) := by decide +kernel
theorem dL_law_1413 : decode cL_law 1413 = .ok (.aload_n 0, 1) := by decide +kernel
theorem dL_law_1414 : decode cL_law 1414 = .ok (.iload 4, 2) := by decide +kernel
theorem dL_law_1416 : decode cL_law 1416 = .ok (.iconst 2, 1) := by decide +kernel
theorem dL_law_1417 : decode cL_law 1417 = .ok (.iadd, 1) := by decide +kernel
theorem dL_law_1418 : decode cL_law 1418 = .ok (.iaload, 1) := by decide +kernel
theorem dL_law_1419 : decode cL_law 1419 = .ok (.aload_n 0, 1) := by decide +kernel
theorem dL_law_1420 : decode cL_law 1420 = .ok (.iload 4, 2) := by decide +kernel
theorem dL_law_1422 : decode cL_law 1422 = .ok (.iconst 3, 1) := by decide +kernel
theorem dL_law_1423 : decode cL_law 1423 = .ok (.iadd, 1) := by decide +kernel
theorem dL_law_1424 : decode cL_law 1424 = .ok (.iaload, 1) := by decide +kernel
theorem dL_law_1425 : decode cL_law 1425 = .ok (.invokevirtual 168, 3) := by decide +kernel
theorem dL_law_1428 : decode cL_law 1428 = .ok (.istore 6, 2) := by decide +kernel
theorem dL_law_1430 : decode cL_law 1430 = .ok (.aload_n 2, 1) := by decide +kernel
theorem dL_law_1431 : decode cL_law 1431 = .ok (.invokevirtual 103, 3) := by decide +kernel
theorem dL_law_1434 : decode cL_law 1434 = .ok (.iload 5, 2) := by decide +kernel
theorem dL_law_1436 : decode cL_law 1436 = .ok (.if_icmp .eq 5, 3) := by decide +kernel
theorem dL_law_1439 : decode cL_law 1439 = .ok (.iconst 0, 1) := by decide +kernel
theorem dL_law_1440 : decode cL_law 1440 = .ok (.ireturn, 1) := by decide +kernel
theorem dL_law_1441 : decode cL_law 1441 = .ok (.iload 5, 2) := by decide +kernel
theorem dL_law_1443 : decode cL_law 1443 = .ok (.ifCond .ne 15, 3) := by decide +kernel
theorem dL_law_1446 : decode cL_law 1446 = .ok (.aload_n 3, 1) := by decide +kernel
theorem dL_law_1447 : decode cL_law 1447 = .ok (.iconst 0, 1) := by decide +kernel
theorem dL_law_1448 : decode cL_law 1448 = .ok (.laload, 1) := by decide +kernel
theorem dL_law_1449 : decode cL_law 1449 = .ok (.iload 6, 2) := by decide +kernel
theorem dL_law_1451 : decode cL_law 1451 = .ok (.i2l, 1) := by decide +kernel
theorem dL_law_1452 : decode cL_law 1452 = .ok (.lcmp, 1) := by decide +kernel
theorem dL_law_1453 : decode cL_law 1453 = .ok (.ifCond .eq 5, 3) := by decide +kernel
theorem dL_law_1456 : decode cL_law 1456 = .ok (.iconst 0, 1) := by decide +kernel
theorem dL_law_1457 : decode cL_law 1457 = .ok (.ireturn, 1) := by decide +kernel
theorem dL_law_1458 : decode cL_law 1458 = .ok (.goto 367, 3) := by decide +kernel
theorem dL_law_1461 : decode cL_law 1461 = .ok (.aload_n 1, 1) := by decide +kernel
theorem dL_law_1462 : decode cL_law 1462 = .ok (.aload_n 0, 1) := by decide +kernel
theorem dL_law_1463 : decode cL_law 1463 = .ok (.iload 4, 2) := by decide +kernel
theorem dL_law_1465 : decode cL_law 1465 = .ok (.iconst 1, 1) := by decide +kernel
theorem dL_law_1466 : decode cL_law 1466 = .ok (.iadd, 1) := by decide +kernel
theorem dL_law_1467 : decode cL_law 1467 = .ok (.iaload, 1) := by decide +kernel
theorem dL_law_1468 : decode cL_law 1468 = .ok (.aload_n 3, 1) := by decide +kernel
theorem dL_law_1469 : decode cL_law 1469 = .ok (.invokestatic 169, 3) := by decide +kernel
theorem dL_law_1472 : decode cL_law 1472 = .ok (.istore 5, 2) := by decide +kernel
theorem dL_law_1474 : decode cL_law 1474 = .ok (.aload_n 2, 1) := by decide +kernel
theorem dL_law_1475 : decode cL_law 1475 = .ok (.aload_n 0, 1) := by decide +kernel
theorem dL_law_1476 : decode cL_law 1476 = .ok (.iload 4, 2) := by decide +kernel
theorem dL_law_1478 : decode cL_law 1478 = .ok (.iconst 1, 1) := by decide +kernel
theorem dL_law_1479 : decode cL_law 1479 = .ok (.iadd, 1) := by decide +kernel
theorem dL_law_1480 : decode cL_law 1480 = .ok (.iaload, 1) := by decide +kernel
theorem dL_law_1481 : decode cL_law 1481 = .ok (.invokevirtual 171, 3) := by decide +kernel
theorem dL_law_1484 : decode cL_law 1484 = .ok (.istore 6, 2) := by decide +kernel
theorem dL_law_1486 : decode cL_law 1486 = .ok (.aload_n 2, 1) := by decide +kernel
theorem dL_law_1487 : decode cL_law 1487 = .ok (.invokevirtual 103, 3) := by decide +kernel
theorem dL_law_1490 : decode cL_law 1490 = .ok (.iload 5, 2) := by decide +kernel
theorem dL_law_1492 : decode cL_law 1492 = .ok (.if_icmp .eq 5, 3) := by decide +kernel
theorem dL_law_1495 : decode cL_law 1495 = .ok (.iconst 0, 1) := by decide +kernel
theorem dL_law_1496 : decode cL_law 1496 = .ok (.ireturn, 1) := by decide +kernel
theorem dL_law_1497 : decode cL_law 1497 = .ok (.iload 5, 2) := by decide +kernel
theorem dL_law_1499 : decode cL_law 1499 = .ok (.ifCond .ne 15, 3) := by decide +kernel
theorem dL_law_1502 : decode cL_law 1502 = .ok (.aload_n 3, 1) := by decide +kernel
theorem dL_law_1503 : decode cL_law 1503 = .ok (.iconst 0, 1) := by decide +kernel
theorem dL_law_1504 : decode cL_law 1504 = .ok (.laload, 1) := by decide +kernel
theorem dL_law_1505 : decode cL_law 1505 = .ok (.iload 6, 2) := by decide +kernel
theorem dL_law_1507 : decode cL_law 1507 = .ok (.i2l, 1) := by decide +kernel
theorem dL_law_1508 : decode cL_law 1508 = .ok (.lcmp, 1) := by decide +kernel
theorem dL_law_1509 : decode cL_law 1509 = .ok (.ifCond .eq 5, 3) := by decide +kernel
theorem dL_law_1512 : decode cL_law 1512 = .ok (.iconst 0, 1) := by decide +kernel
theorem dL_law_1513 : decode cL_law 1513 = .ok (.ireturn, 1) := by decide +kernel
theorem dL_law_1514 : decode cL_law 1514 = .ok (.goto 311, 3) := by decide +kernel
theorem dL_law_1517 : decode cL_law 1517 = .ok (.aload_n 1, 1) := by decide +kernel
theorem dL_law_1518 : decode cL_law 1518 = .ok (.aload_n 0, 1) := by decide +kernel
theorem dL_law_1519 : decode cL_law 1519 = .ok (.iload 4, 2) := by decide +kernel
theorem dL_law_1521 : decode cL_law 1521 = .ok (.iconst 1, 1) := by decide +kernel
theorem dL_law_1522 : decode cL_law 1522 = .ok (.iadd, 1) := by decide +kernel
theorem dL_law_1523 : decode cL_law 1523 = .ok (.iaload, 1) := by decide +kernel
theorem dL_law_1524 : decode cL_law 1524 = .ok (.aload_n 0, 1) := by decide +kernel
theorem dL_law_1525 : decode cL_law 1525 = .ok (.iload 4, 2) := by decide +kernel
theorem dL_law_1527 : decode cL_law 1527 = .ok (.iconst 2, 1) := by decide +kernel
theorem dL_law_1528 : decode cL_law 1528 = .ok (.iadd, 1) := by decide +kernel
theorem dL_law_1529 : decode cL_law 1529 = .ok (.iaload, 1) := by decide +kernel
theorem dL_law_1530 : decode cL_law 1530 = .ok (.aload_n 0, 1) := by decide +kernel
theorem dL_law_1531 : decode cL_law 1531 = .ok (.iload 4, 2) := by decide +kernel
theorem dL_law_1533 : decode cL_law 1533 = .ok (.iconst 3, 1) := by decide +kernel
theorem dL_law_1534 : decode cL_law 1534 = .ok (.iadd, 1) := by decide +kernel
theorem dL_law_1535 : decode cL_law 1535 = .ok (.iaload, 1) := by decide +kernel
theorem dL_law_1536 : decode cL_law 1536 = .ok (.aload_n 3, 1) := by decide +kernel
theorem dL_law_1537 : decode cL_law 1537 = .ok (.invokestatic 172, 3) := by decide +kernel
theorem dL_law_1540 : decode cL_law 1540 = .ok (.istore 5, 2) := by decide +kernel
theorem dL_law_1542 : decode cL_law 1542 = .ok (.aload_n 2, 1) := by decide +kernel
theorem dL_law_1543 : decode cL_law 1543 = .ok (.aload_n 0, 1) := by decide +kernel
theorem dL_law_1544 : decode cL_law 1544 = .ok (.iload 4, 2) := by decide +kernel
theorem dL_law_1546 : decode cL_law 1546 = .ok (.iconst 1, 1) := by decide +kernel
theorem dL_law_1547 : decode cL_law 1547 = .ok (.iadd, 1) := by decide +kernel
theorem dL_law_1548 : decode cL_law 1548 = .ok (.iaload, 1) := by decide +kernel
theorem dL_law_1549 : decode cL_law 1549 = .ok (.aload_n 0, 1) := by decide +kernel
theorem dL_law_1550 : decode cL_law 1550 = .ok (.iload 4, 2) := by decide +kernel
theorem dL_law_1552 : decode cL_law 1552 = .ok (.iconst 2, 1) := by decide +kernel
theorem dL_law_1553 : decode cL_law 1553 = .ok (.iadd, 1) := by decide +kernel
theorem dL_law_1554 : decode cL_law 1554 = .ok (.iaload, 1) := by decide +kernel
theorem dL_law_1555 : decode cL_law 1555 = .ok (.aload_n 0, 1) := by decide +kernel
theorem dL_law_1556 : decode cL_law 1556 = .ok (.iload 4, 2) := by decide +kernel
theorem dL_law_1558 : decode cL_law 1558 = .ok (.iconst 3, 1) := by decide +kernel
theorem dL_law_1559 : decode cL_law 1559 = .ok (.iadd, 1) := by decide +kernel
theorem dL_law_1560 : decode cL_law 1560 = .ok (.iaload, 1) := by decide +kernel
theorem dL_law_1561 : decode cL_law 1561 = .ok (.invokevirtual 174, 3) := by decide +kernel
theorem dL_law_1564 : decode cL_law 1564 = .ok (.istore 6, 2) := by decide +kernel
theorem dL_law_1566 : decode cL_law 1566 = .ok (.aload_n 2, 1) := by decide +kernel
theorem dL_law_1567 : decode cL_law 1567 = .ok (.invokevirtual 103, 3) := by decide +kernel
theorem dL_law_1570 : decode cL_law 1570 = .ok (.iload 5, 2) := by decide +kernel
theorem dL_law_1572 : decode cL_law 1572 = .ok (.if_icmp .eq 5, 3) := by decide +kernel
theorem dL_law_1575 : decode cL_law 1575 = .ok (.iconst 0, 1) := by decide +kernel
theorem dL_law_1576 : decode cL_law 1576 = .ok (.ireturn, 1) := by decide +kernel
theorem dL_law_1577 : decode cL_law 1577 = .ok (.iload 5, 2) := by decide +kernel
theorem dL_law_1579 : decode cL_law 1579 = .ok (.ifCond .ne 15, 3) := by decide +kernel
theorem dL_law_1582 : decode cL_law 1582 = .ok (.aload_n 3, 1) := by decide +kernel
theorem dL_law_1583 : decode cL_law 1583 = .ok (.iconst 0, 1) := by decide +kernel
theorem dL_law_1584 : decode cL_law 1584 = .ok (.laload, 1) := by decide +kernel
theorem dL_law_1585 : decode cL_law 1585 = .ok (.iload 6, 2) := by decide +kernel
theorem dL_law_1587 : decode cL_law 1587 = .ok (.i2l, 1) := by decide +kernel
theorem dL_law_1588 : decode cL_law 1588 = .ok (.lcmp, 1) := by decide +kernel
theorem dL_law_1589 : decode cL_law 1589 = .ok (.ifCond .eq 5, 3) := by decide +kernel
theorem dL_law_1592 : decode cL_law 1592 = .ok (.iconst 0, 1) := by decide +kernel
theorem dL_law_1593 : decode cL_law 1593 = .ok (.ireturn, 1) := by decide +kernel
theorem dL_law_1594 : decode cL_law 1594 = .ok (.goto 231, 3) := by decide +kernel
theorem dL_law_1597 : decode cL_law 1597 = .ok (.aload_n 1, 1) := by decide +kernel
theorem dL_law_1598 : decode cL_law 1598 = .ok (.aload_n 0, 1) := by decide +kernel
theorem dL_law_1599 : decode cL_law 1599 = .ok (.iload 4, 2) := by decide +kernel
theorem dL_law_1601 : decode cL_law 1601 = .ok (.iconst 1, 1) := by decide +kernel
theorem dL_law_1602 : decode cL_law 1602 = .ok (.iadd, 1) := by decide +kernel
theorem dL_law_1603 : decode cL_law 1603 = .ok (.iaload, 1) := by decide +kernel
theorem dL_law_1604 : decode cL_law 1604 = .ok (.aload_n 0, 1) := by decide +kernel
theorem dL_law_1605 : decode cL_law 1605 = .ok (.iload 4, 2) := by decide +kernel
theorem dL_law_1607 : decode cL_law 1607 = .ok (.iconst 2, 1) := by decide +kernel
theorem dL_law_1608 : decode cL_law 1608 = .ok (.iadd, 1) := by decide +kernel
theorem dL_law_1609 : decode cL_law 1609 = .ok (.iaload, 1) := by decide +kernel
theorem dL_law_1610 : decode cL_law 1610 = .ok (.aload_n 0, 1) := by decide +kernel
theorem dL_law_1611 : decode cL_law 1611 = .ok (.iload 4, 2) := by decide +kernel
theorem dL_law_1613 : decode cL_law 1613 = .ok (.iconst 3, 1) := by decide +kernel
theorem dL_law_1614 : decode cL_law 1614 = .ok (.iadd, 1) := by decide +kernel
theorem dL_law_1615 : decode cL_law 1615 = .ok (.iaload, 1) := by decide +kernel
theorem dL_law_1616 : decode cL_law 1616 = .ok (.aload_n 0, 1) := by decide +kernel
theorem dL_law_1617 : decode cL_law 1617 = .ok (.iload 4, 2) := by decide +kernel
theorem dL_law_1619 : decode cL_law 1619 = .ok (.iconst 4, 1) := by decide +kernel
theorem dL_law_1620 : decode cL_law 1620 = .ok (.iadd, 1) := by decide +kernel
theorem dL_law_1621 : decode cL_law 1621 = .ok (.iaload, 1) := by decide +kernel
theorem dL_law_1622 : decode cL_law 1622 = .ok (.aload_n 3, 1) := by decide +kernel
theorem dL_law_1623 : decode cL_law 1623 = .ok (.invokestatic 175, 3) := by decide +kernel
theorem dL_law_1626 : decode cL_law 1626 = .ok (.istore 5, 2) := by decide +kernel
theorem dL_law_1628 : decode cL_law 1628 = .ok (.aload_n 2, 1) := by decide +kernel
theorem dL_law_1629 : decode cL_law 1629 = .ok (.aload_n 0, 1) := by decide +kernel
theorem dL_law_1630 : decode cL_law 1630 = .ok (.iload 4, 2) := by decide +kernel
theorem dL_law_1632 : decode cL_law 1632 = .ok (.iconst 1, 1) := by decide +kernel
theorem dL_law_1633 : decode cL_law 1633 = .ok (.iadd, 1) := by decide +kernel
theorem dL_law_1634 : decode cL_law 1634 = .ok (.iaload, 1) := by decide +kernel
theorem dL_law_1635 : decode cL_law 1635 = .ok (.aload_n 0, 1) := by decide +kernel
theorem dL_law_1636 : decode cL_law 1636 = .ok (.iload 4, 2) := by decide +kernel
theorem dL_law_1638 : decode cL_law 1638 = .ok (.iconst 2, 1) := by decide +kernel
theorem dL_law_1639 : decode cL_law 1639 = .ok (.iadd, 1) := by decide +kernel
theorem dL_law_1640 : decode cL_law 1640 = .ok (.iaload, 1) := by decide +kernel
theorem dL_law_1641 : decode cL_law 1641 = .ok (.aload_n 0, 1) := by decide +kernel
theorem dL_law_1642 : decode cL_law 1642 = .ok (.iload 4, 2) := by decide +kernel
theorem dL_law_1644 : decode cL_law 1644 = .ok (.iconst 3, 1) := by decide +kernel
theorem dL_law_1645 : decode cL_law 1645 = .ok (.iadd, 1) := by decide +kernel
theorem dL_law_1646 : decode cL_law 1646 = .ok (.iaload, 1) := by decide +kernel
theorem dL_law_1647 : decode cL_law 1647 = .ok (.aload_n 0, 1) := by decide +kernel
theorem dL_law_1648 : decode cL_law 1648 = .ok (.iload 4, 2) := by decide +kernel
theorem dL_law_1650 : decode cL_law 1650 = .ok (.iconst 4, 1) := by decide +kernel
theorem dL_law_1651 : decode cL_law 1651 = .ok (.iadd, 1) := by decide +kernel
theorem dL_law_1652 : decode cL_law 1652 = .ok (.iaload, 1) := by decide +kernel
theorem dL_law_1653 : decode cL_law 1653 = .ok (.invokevirtual 178, 3) := by decide +kernel
theorem dL_law_1656 : decode cL_law 1656 = .ok (.istore 6, 2) := by decide +kernel
theorem dL_law_1658 : decode cL_law 1658 = .ok (.aload_n 2, 1) := by decide +kernel
theorem dL_law_1659 : decode cL_law 1659 = .ok (.invokevirtual 103, 3) := by decide +kernel
theorem dL_law_1662 : decode cL_law 1662 = .ok (.iload 5, 2) := by decide +kernel
theorem dL_law_1664 : decode cL_law 1664 = .ok (.if_icmp .eq 5, 3) := by decide +kernel
theorem dL_law_1667 : decode cL_law 1667 = .ok (.iconst 0, 1) := by decide +kernel
theorem dL_law_1668 : decode cL_law 1668 = .ok (.ireturn, 1) := by decide +kernel
theorem dL_law_1669 : decode cL_law 1669 = .ok (.iload 5, 2) := by decide +kernel
theorem dL_law_1671 : decode cL_law 1671 = .ok (.ifCond .ne 15, 3) := by decide +kernel
theorem dL_law_1674 : decode cL_law 1674 = .ok (.aload_n 3, 1) := by decide +kernel
theorem dL_law_1675 : decode cL_law 1675 = .ok (.iconst 0, 1) := by decide +kernel
theorem dL_law_1676 : decode cL_law 1676 = .ok (.laload, 1) := by decide +kernel
theorem dL_law_1677 : decode cL_law 1677 = .ok (.iload 6, 2) := by decide +kernel
theorem dL_law_1679 : decode cL_law 1679 = .ok (.i2l, 1) := by decide +kernel
theorem dL_law_1680 : decode cL_law 1680 = .ok (.lcmp, 1) := by decide +kernel
theorem dL_law_1681 : decode cL_law 1681 = .ok (.ifCond .eq 5, 3) := by decide +kernel
theorem dL_law_1684 : decode cL_law 1684 = .ok (.iconst 0, 1) := by decide +kernel
theorem dL_law_1685 : decode cL_law 1685 = .ok (.ireturn, 1) := by decide +kernel
theorem dL_law_1686 : decode cL_law 1686 = .ok (.goto 139, 3) := by decide +kernel
theorem dL_law_1689 : decode cL_law 1689 = .ok (.aload_n 1, 1) := by decide +kernel
theorem dL_law_1690 : decode cL_law 1690 = .ok (.aload_n 0, 1) := by decide +kernel
theorem dL_law_1691 : decode cL_law 1691 = .ok (.iload 4, 2) := by decide +kernel
theorem dL_law_1693 : decode cL_law 1693 = .ok (.iconst 1, 1) := by decide +kernel
theorem dL_law_1694 : decode cL_law 1694 = .ok (.iadd, 1) := by decide +kernel
theorem dL_law_1695 : decode cL_law 1695 = .ok (.iaload, 1) := by decide +kernel
theorem dL_law_1696 : decode cL_law 1696 = .ok (.aload_n 0, 1) := by decide +kernel
theorem dL_law_1697 : decode cL_law 1697 = .ok (.iload 4, 2) := by decide +kernel
theorem dL_law_1699 : decode cL_law 1699 = .ok (.iconst 2, 1) := by decide +kernel
theorem dL_law_1700 : decode cL_law 1700 = .ok (.iadd, 1) := by decide +kernel
theorem dL_law_1701 : decode cL_law 1701 = .ok (.iaload, 1) := by decide +kernel
theorem dL_law_1702 : decode cL_law 1702 = .ok (.aload_n 0, 1) := by decide +kernel
theorem dL_law_1703 : decode cL_law 1703 = .ok (.iload 4, 2) := by decide +kernel
theorem dL_law_1705 : decode cL_law 1705 = .ok (.iconst 3, 1) := by decide +kernel
theorem dL_law_1706 : decode cL_law 1706 = .ok (.iadd, 1) := by decide +kernel
theorem dL_law_1707 : decode cL_law 1707 = .ok (.iaload, 1) := by decide +kernel
theorem dL_law_1708 : decode cL_law 1708 = .ok (.aload_n 3, 1) := by decide +kernel
theorem dL_law_1709 : decode cL_law 1709 = .ok (.invokestatic 179, 3) := by decide +kernel
theorem dL_law_1712 : decode cL_law 1712 = .ok (.istore 5, 2) := by decide +kernel
theorem dL_law_1714 : decode cL_law 1714 = .ok (.aload_n 2, 1) := by decide +kernel
theorem dL_law_1715 : decode cL_law 1715 = .ok (.aload_n 0, 1) := by decide +kernel
theorem dL_law_1716 : decode cL_law 1716 = .ok (.iload 4, 2) := by decide +kernel
theorem dL_law_1718 : decode cL_law 1718 = .ok (.iconst 1, 1) := by decide +kernel
theorem dL_law_1719 : decode cL_law 1719 = .ok (.iadd, 1) := by decide +kernel
theorem dL_law_1720 : decode cL_law 1720 = .ok (.iaload, 1) := by decide +kernel
theorem dL_law_1721 : decode cL_law 1721 = .ok (.aload_n 0, 1) := by decide +kernel
theorem dL_law_1722 : decode cL_law 1722 = .ok (.iload 4, 2) := by decide +kernel
theorem dL_law_1724 : decode cL_law 1724 = .ok (.iconst 2, 1) := by decide +kernel
theorem dL_law_1725 : decode cL_law 1725 = .ok (.iadd, 1) := by decide +kernel
theorem dL_law_1726 : decode cL_law 1726 = .ok (.iaload, 1) := by decide +kernel
theorem dL_law_1727 : decode cL_law 1727 = .ok (.aload_n 0, 1) := by decide +kernel
theorem dL_law_1728 : decode cL_law 1728 = .ok (.iload 4, 2) := by decide +kernel
theorem dL_law_1730 : decode cL_law 1730 = .ok (.iconst 3, 1) := by decide +kernel
theorem dL_law_1731 : decode cL_law 1731 = .ok (.iadd, 1) := by decide +kernel
theorem dL_law_1732 : decode cL_law 1732 = .ok (.iaload, 1) := by decide +kernel
theorem dL_law_1733 : decode cL_law 1733 = .ok (.invokevirtual 181, 3) := by decide +kernel
theorem dL_law_1736 : decode cL_law 1736 = .ok (.istore 6, 2) := by decide +kernel
theorem dL_law_1738 : decode cL_law 1738 = .ok (.aload_n 2, 1) := by decide +kernel
theorem dL_law_1739 : decode cL_law 1739 = .ok (.invokevirtual 103, 3) := by decide +kernel
theorem dL_law_1742 : decode cL_law 1742 = .ok (.iload 5, 2) := by decide +kernel
theorem dL_law_1744 : decode cL_law 1744 = .ok (.if_icmp .eq 5, 3) := by decide +kernel
theorem dL_law_1747 : decode cL_law 1747 = .ok (.iconst 0, 1) := by decide +kernel
theorem dL_law_1748 : decode cL_law 1748 = .ok (.ireturn, 1) := by decide +kernel
theorem dL_law_1749 : decode cL_law 1749 = .ok (.iload 5, 2) := by decide +kernel
theorem dL_law_1751 : decode cL_law 1751 = .ok (.ifCond .ne 15, 3) := by decide +kernel
theorem dL_law_1754 : decode cL_law 1754 = .ok (.aload_n 3, 1) := by decide +kernel
theorem dL_law_1755 : decode cL_law 1755 = .ok (.iconst 0, 1) := by decide +kernel
theorem dL_law_1756 : decode cL_law 1756 = .ok (.laload, 1) := by decide +kernel
theorem dL_law_1757 : decode cL_law 1757 = .ok (.iload 6, 2) := by decide +kernel
theorem dL_law_1759 : decode cL_law 1759 = .ok (.i2l, 1) := by decide +kernel
theorem dL_law_1760 : decode cL_law 1760 = .ok (.lcmp, 1) := by decide +kernel
theorem dL_law_1761 : decode cL_law 1761 = .ok (.ifCond .eq 5, 3) := by decide +kernel
theorem dL_law_1764 : decode cL_law 1764 = .ok (.iconst 0, 1) := by decide +kernel
theorem dL_law_1765 : decode cL_law 1765 = .ok (.ireturn, 1) := by decide +kernel
theorem dL_law_1766 : decode cL_law 1766 = .ok (.goto 59, 3) := by decide +kernel
theorem dL_law_1769 : decode cL_law 1769 = .ok (.aload_n 1, 1) := by decide +kernel
theorem dL_law_1770 : decode cL_law 1770 = .ok (.aload_n 0, 1) := by decide +kernel
theorem dL_law_1771 : decode cL_law 1771 = .ok (.iload 4, 2) := by decide +kernel
theorem dL_law_1773 : decode cL_law 1773 = .ok (.iconst 1, 1) := by decide +kernel
theorem dL_law_1774 : decode cL_law 1774 = .ok (.iadd, 1) := by decide +kernel
theorem dL_law_1775 : decode cL_law 1775 = .ok (.iaload, 1) := by decide +kernel
theorem dL_law_1776 : decode cL_law 1776 = .ok (.aload_n 3, 1) := by decide +kernel
theorem dL_law_1777 : decode cL_law 1777 = .ok (.invokestatic 182, 3) := by decide +kernel
theorem dL_law_1780 : decode cL_law 1780 = .ok (.istore 5, 2) := by decide +kernel
theorem dL_law_1782 : decode cL_law 1782 = .ok (.aload_n 2, 1) := by decide +kernel
theorem dL_law_1783 : decode cL_law 1783 = .ok (.aload_n 0, 1) := by decide +kernel
theorem dL_law_1784 : decode cL_law 1784 = .ok (.iload 4, 2) := by decide +kernel
theorem dL_law_1786 : decode cL_law 1786 = .ok (.iconst 1, 1) := by decide +kernel
theorem dL_law_1787 : decode cL_law 1787 = .ok (.iadd, 1) := by decide +kernel
theorem dL_law_1788 : decode cL_law 1788 = .ok (.iaload, 1) := by decide +kernel
theorem dL_law_1789 : decode cL_law 1789 = .ok (.invokevirtual 184, 3) := by decide +kernel
theorem dL_law_1792 : decode cL_law 1792 = .ok (.istore 6, 2) := by decide +kernel
theorem dL_law_1794 : decode cL_law 1794 = .ok (.aload_n 2, 1) := by decide +kernel
theorem dL_law_1795 : decode cL_law 1795 = .ok (.invokevirtual 103, 3) := by decide +kernel
theorem dL_law_1798 : decode cL_law 1798 = .ok (.iload 5, 2) := by decide +kernel
theorem dL_law_1800 : decode cL_law 1800 = .ok (.if_icmp .eq 5, 3) := by decide +kernel
theorem dL_law_1803 : decode cL_law 1803 = .ok (.iconst 0, 1) := by decide +kernel
theorem dL_law_1804 : decode cL_law 1804 = .ok (.ireturn, 1) := by decide +kernel
theorem dL_law_1805 : decode cL_law 1805 = .ok (.iload 5, 2) := by decide +kernel
theorem dL_law_1807 : decode cL_law 1807 = .ok (.ifCond .ne 15, 3) := by decide +kernel
theorem dL_law_1810 : decode cL_law 1810 = .ok (.aload_n 3, 1) := by decide +kernel
theorem dL_law_1811 : decode cL_law 1811 = .ok (.iconst 0, 1) := by decide +kernel
theorem dL_law_1812 : decode cL_law 1812 = .ok (.laload, 1) := by decide +kernel
theorem dL_law_1813 : decode cL_law 1813 = .ok (.iload 6, 2) := by decide +kernel
theorem dL_law_1815 : decode cL_law 1815 = .ok (.i2l, 1) := by decide +kernel
theorem dL_law_1816 : decode cL_law 1816 = .ok (.lcmp, 1) := by decide +kernel
theorem dL_law_1817 : decode cL_law 1817 = .ok (.ifCond .eq 5, 3) := by decide +kernel
theorem dL_law_1820 : decode cL_law 1820 = .ok (.iconst 0, 1) := by decide +kernel
theorem dL_law_1821 : decode cL_law 1821 = .ok (.ireturn, 1) := by decide +kernel
theorem dL_law_1822 : decode cL_law 1822 = .ok (.goto 3, 3) := by decide +kernel
theorem dL_law_1825 : decode cL_law 1825 = .ok (.iinc 4 6, 3) := by decide +kernel
theorem dL_law_1828 : decode cL_law 1828 = .ok (.goto (-1805), 3) := by decide +kernel
theorem dL_law_1831 : decode cL_law 1831 = .ok (.iconst 1, 1) := by decide +kernel
theorem dL_law_1832 : decode cL_law 1832 = .ok (.ireturn, 1) := by decide +kernel
end
section
/-- the words that any method may take along: all of the tables that keep -/
def gT : List Cond := lw_tbl.filter goodWord
theorem gT_tbl : ∀ w ∈ gT, w ∈ lw_tbl := fun w h => (List.mem_filter.mp h).1
theorem gGood {ws : List Cond} (h : ∀ w ∈ ws, w ∈ gT) : GoodIn gT ws := fun w hw => ⟨h w hw, good_of_word (List.mem_filter.mp (h w hw)).2⟩
theorem mt1 : ∀ w ∈ tables_1_1, w ∈ lw_tbl := fun _ h => List.mem_append_right _ (List.mem_append_left _ h : _ ∈ tables_1)
theorem mt2 : ∀ w ∈ tables_1_2, w ∈ lw_tbl := fun _ h => List.mem_append_right _ (List.mem_append_right _ (List.mem_append_left _ h) : _ ∈ tables_1)
theorem mt3 : ∀ w ∈ tables_1_3, w ∈ lw_tbl := fun _ h => List.mem_append_right _ (List.mem_append_right _ (List.mem_append_right _ (List.mem_append_left _ h)) : _ ∈ tables_1)
theorem mt4 : ∀ w ∈ tables_1_4, w ∈ lw_tbl := fun _ h => List.mem_append_right _ (List.mem_append_right _ (List.mem_append_right _ (List.mem_append_right _ (h))) : _ ∈ tables_1)
theorem mw1_0 : (Jvm.Cond.initialized "GongCyclesLaw") ∈ gT := List.mem_filter.mpr ⟨mt1 _ (List.mem_of_getElem? (i := 0) rfl), rfl⟩
theorem mw1_1 : (Jvm.Cond.initialized "GongCycles") ∈ gT := List.mem_filter.mpr ⟨mt1 _ (List.mem_of_getElem? (i := 1) rfl), rfl⟩
theorem mw1_2 : (Jvm.Cond.initialized "GongCycles$Playing") ∈ gT := List.mem_filter.mpr ⟨mt1 _ (List.mem_of_getElem? (i := 2) rfl), rfl⟩
theorem mw1_3 : (Jvm.Cond.initialized "GongCycles$BronzeSet") ∈ gT := List.mem_filter.mpr ⟨mt1 _ (List.mem_of_getElem? (i := 3) rfl), rfl⟩
theorem mw1_4 : (Jvm.Cond.initialized "GongCyclesModel") ∈ gT := List.mem_filter.mpr ⟨mt1 _ (List.mem_of_getElem? (i := 4) rfl), rfl⟩
theorem mw1_5 : (Jvm.Cond.initialized "java/lang/Throwable") ∈ gT := List.mem_filter.mpr ⟨mt1 _ (List.mem_of_getElem? (i := 5) rfl), rfl⟩
theorem mw1_6 : (Jvm.Cond.initialized "java/lang/Exception") ∈ gT := List.mem_filter.mpr ⟨mt1 _ (List.mem_of_getElem? (i := 6) rfl), rfl⟩
theorem mw1_7 : (Jvm.Cond.initialized "java/lang/RuntimeException") ∈ gT := List.mem_filter.mpr ⟨mt1 _ (List.mem_of_getElem? (i := 7) rfl), rfl⟩
theorem mw1_8 : (Jvm.Cond.initialized "java/lang/IllegalArgumentException") ∈ gT := List.mem_filter.mpr ⟨mt1 _ (List.mem_of_getElem? (i := 8) rfl), rfl⟩
theorem mw1_9 : (Jvm.Cond.initialized "java/lang/IllegalStateException") ∈ gT := List.mem_filter.mpr ⟨mt1 _ (List.mem_of_getElem? (i := 9) rfl), rfl⟩
theorem mw1_10 : (Jvm.Cond.initialized "java/lang/IndexOutOfBoundsException") ∈ gT := List.mem_filter.mpr ⟨mt1 _ (List.mem_of_getElem? (i := 10) rfl), rfl⟩
theorem mw1_11 : (Jvm.Cond.initialized "GongCycles$Piece") ∈ gT := List.mem_filter.mpr ⟨mt1 _ (List.mem_of_getElem? (i := 11) rfl), rfl⟩
theorem mw1_12 : (Jvm.Cond.initialized "GongCycles$Melody") ∈ gT := List.mem_filter.mpr ⟨mt1 _ (List.mem_of_getElem? (i := 12) rfl), rfl⟩
theorem mw1_13 : (Jvm.Cond.initialized "java/lang/Math") ∈ gT := List.mem_filter.mpr ⟨mt1 _ (List.mem_of_getElem? (i := 13) rfl), rfl⟩
theorem mw1_14 : (Jvm.Cond.initialized "GongCycles$Player") ∈ gT := List.mem_filter.mpr ⟨mt1 _ (List.mem_of_getElem? (i := 14) rfl), rfl⟩
theorem mw1_15 : (Jvm.Cond.initialized "java/lang/Integer") ∈ gT := List.mem_filter.mpr ⟨mt1 _ (List.mem_of_getElem? (i := 15) rfl), rfl⟩
theorem mw1_16 : (Jvm.Cond.classLink "GongCyclesLaw" (8 : Nat) "GongCycles") ∈ gT := List.mem_filter.mpr ⟨mt1 _ (List.mem_of_getElem? (i := 16) rfl), rfl⟩
theorem mw1_17 : (Jvm.Cond.instantiable "GongCycles" (11 : Nat)) ∈ gT := List.mem_filter.mpr ⟨mt1 _ (List.mem_of_getElem? (i := 17) rfl), rfl⟩
theorem mw1_18 : (Jvm.Cond.methodLink "GongCyclesLaw" (93 : Nat) ({ cls := "GongCycles", name := "<init>", desc := "()V" } : Jvm.MethodName)) ∈ gT := List.mem_filter.mpr ⟨mt1 _ (List.mem_of_getElem? (i := 18) rfl), rfl⟩
theorem mw1_19 : (Jvm.Cond.instanceMethod ({ cls := "GongCycles", name := "<init>", desc := "()V" } : Jvm.MethodName)) ∈ gT := List.mem_filter.mpr ⟨mt1 _ (List.mem_of_getElem? (i := 19) rfl), rfl⟩
theorem mw1_20 : (Jvm.Cond.code ({ cls := "GongCycles", name := "<init>", desc := "()V" } : Jvm.MethodName) prog_1_method_1_code (2 : Nat) (Option.none : Option Jvm.ClassFile.FieldType)) ∈ gT := List.mem_filter.mpr ⟨mt1 _ (List.mem_of_getElem? (i := 20) rfl), rfl⟩
theorem mw1_21 : (Jvm.Cond.methodLink "GongCycles" (3 : Nat) ({ cls := "java/lang/Object", name := "<init>", desc := "()V" } : Jvm.MethodName)) ∈ gT := List.mem_filter.mpr ⟨mt1 _ (List.mem_of_getElem? (i := 21) rfl), rfl⟩
theorem mw1_22 : (Jvm.Cond.instanceMethod ({ cls := "java/lang/Object", name := "<init>", desc := "()V" } : Jvm.MethodName)) ∈ gT := List.mem_filter.mpr ⟨mt1 _ (List.mem_of_getElem? (i := 22) rfl), rfl⟩
theorem mw1_23 : (Jvm.Cond.code ({ cls := "java/lang/Object", name := "<init>", desc := "()V" } : Jvm.MethodName) object_method_1_code (1 : Nat) (Option.none : Option Jvm.ClassFile.FieldType)) ∈ gT := List.mem_filter.mpr ⟨mt1 _ (List.mem_of_getElem? (i := 23) rfl), rfl⟩
theorem mw1_24 : (Jvm.Cond.classLink "GongCycles" (17 : Nat) "GongCycles$Piece") ∈ gT := List.mem_filter.mpr ⟨mt1 _ (List.mem_of_getElem? (i := 24) rfl), rfl⟩
theorem mw1_26 : (Jvm.Cond.classLink "GongCycles" (26 : Nat) "GongCycles$Playing") ∈ gT := List.mem_filter.mpr ⟨mt1 _ (List.mem_of_getElem? (i := 26) rfl), rfl⟩
theorem mw1_27 : (Jvm.Cond.instantiable "GongCycles$Playing" (11 : Nat)) ∈ gT := List.mem_filter.mpr ⟨mt1 _ (List.mem_of_getElem? (i := 27) rfl), rfl⟩
theorem mw1_29 : (Jvm.Cond.instanceMethod ({ cls := "GongCycles$Playing", name := "<init>", desc := "()V" } : Jvm.MethodName)) ∈ gT := List.mem_filter.mpr ⟨mt1 _ (List.mem_of_getElem? (i := 29) rfl), rfl⟩
theorem mw1_30 : (Jvm.Cond.code ({ cls := "GongCycles$Playing", name := "<init>", desc := "()V" } : Jvm.MethodName) prog_6_method_1_code (1 : Nat) (Option.none : Option Jvm.ClassFile.FieldType)) ∈ gT := List.mem_filter.mpr ⟨mt1 _ (List.mem_of_getElem? (i := 30) rfl), rfl⟩
theorem mw1_31 : (Jvm.Cond.methodLink "GongCycles$Playing" (3 : Nat) ({ cls := "java/lang/Object", name := "<init>", desc := "()V" } : Jvm.MethodName)) ∈ gT := List.mem_filter.mpr ⟨mt1 _ (List.mem_of_getElem? (i := 31) rfl), rfl⟩
theorem mw1_32 : (Jvm.Cond.fieldLink "GongCycles$Playing" (9 : Nat) "GongCycles$Playing" "pieceNumber" "I") ∈ gT := List.mem_filter.mpr ⟨mt1 _ (List.mem_of_getElem? (i := 32) rfl), rfl⟩
theorem mw1_34 : (Jvm.Cond.fieldLink "GongCycles$Playing" (15 : Nat) "GongCycles$Playing" "cycle" "I") ∈ gT := List.mem_filter.mpr ⟨mt1 _ (List.mem_of_getElem? (i := 34) rfl), rfl⟩
theorem mw1_35 : (Jvm.Cond.fieldLink "GongCycles$Playing" (18 : Nat) "GongCycles$Playing" "place" "I") ∈ gT := List.mem_filter.mpr ⟨mt1 _ (List.mem_of_getElem? (i := 35) rfl), rfl⟩
theorem mw1_37 : (Jvm.Cond.fieldLink "GongCycles$Playing" (21 : Nat) "GongCycles$Playing" "beatLength" "I") ∈ gT := List.mem_filter.mpr ⟨mt1 _ (List.mem_of_getElem? (i := 37) rfl), rfl⟩
theorem mw1_39 : (Jvm.Cond.fieldLink "GongCycles$Playing" (24 : Nat) "GongCycles$Playing" "level" "I") ∈ gT := List.mem_filter.mpr ⟨mt1 _ (List.mem_of_getElem? (i := 39) rfl), rfl⟩
theorem mw1_41 : (Jvm.Cond.fieldLink "GongCycles$Playing" (27 : Nat) "GongCycles$Playing" "gongs" "I") ∈ gT := List.mem_filter.mpr ⟨mt1 _ (List.mem_of_getElem? (i := 41) rfl), rfl⟩
theorem mw1_43 : (Jvm.Cond.fieldLink "GongCycles$Playing" (30 : Nat) "GongCycles$Playing" "tempoTold" "I") ∈ gT := List.mem_filter.mpr ⟨mt1 _ (List.mem_of_getElem? (i := 43) rfl), rfl⟩
theorem mw1_44 : (Jvm.Cond.fieldLink "GongCycles$Playing" (33 : Nat) "GongCycles$Playing" "goesOn" "Z") ∈ gT := List.mem_filter.mpr ⟨mt1 _ (List.mem_of_getElem? (i := 44) rfl), rfl⟩
theorem mw1_46 : (Jvm.Cond.fieldLink "GongCycles$Playing" (37 : Nat) "GongCycles$Playing" "gongsToEnd" "I") ∈ gT := List.mem_filter.mpr ⟨mt1 _ (List.mem_of_getElem? (i := 46) rfl), rfl⟩
theorem mw1_47 : (Jvm.Cond.fieldLink "GongCycles$Playing" (40 : Nat) "GongCycles$Playing" "ticksGone" "J") ∈ gT := List.mem_filter.mpr ⟨mt1 _ (List.mem_of_getElem? (i := 47) rfl), rfl⟩
theorem mw1_49 : (Jvm.Cond.fieldLink "GongCycles$Playing" (44 : Nat) "GongCycles$Playing" "strokesHad" "[J") ∈ gT := List.mem_filter.mpr ⟨mt1 _ (List.mem_of_getElem? (i := 49) rfl), rfl⟩
theorem mw1_50 : (Jvm.Cond.lays "GongCycles$Playing" "GongCycles$Playing" "pieceNumber" "I") ∈ gT := List.mem_filter.mpr ⟨mt1 _ (List.mem_of_getElem? (i := 50) rfl), rfl⟩
theorem mw1_52 : (Jvm.Cond.lays "GongCycles$Playing" "GongCycles$Playing" "cycle" "I") ∈ gT := List.mem_filter.mpr ⟨mt1 _ (List.mem_of_getElem? (i := 52) rfl), rfl⟩
theorem mw1_54 : (Jvm.Cond.lays "GongCycles$Playing" "GongCycles$Playing" "place" "I") ∈ gT := List.mem_filter.mpr ⟨mt1 _ (List.mem_of_getElem? (i := 54) rfl), rfl⟩
theorem mw1_56 : (Jvm.Cond.lays "GongCycles$Playing" "GongCycles$Playing" "beatLength" "I") ∈ gT := List.mem_filter.mpr ⟨mt1 _ (List.mem_of_getElem? (i := 56) rfl), rfl⟩
theorem mw1_58 : (Jvm.Cond.lays "GongCycles$Playing" "GongCycles$Playing" "level" "I") ∈ gT := List.mem_filter.mpr ⟨mt1 _ (List.mem_of_getElem? (i := 58) rfl), rfl⟩
theorem mw1_60 : (Jvm.Cond.lays "GongCycles$Playing" "GongCycles$Playing" "gongs" "I") ∈ gT := List.mem_filter.mpr ⟨mt1 _ (List.mem_of_getElem? (i := 60) rfl), rfl⟩
theorem mw1_62 : (Jvm.Cond.lays "GongCycles$Playing" "GongCycles$Playing" "tempoTold" "I") ∈ gT := List.mem_filter.mpr ⟨mt1 _ (List.mem_of_getElem? (i := 62) rfl), rfl⟩
theorem mw1_64 : (Jvm.Cond.lays "GongCycles$Playing" "GongCycles$Playing" "goesOn" "Z") ∈ gT := List.mem_filter.mpr ⟨mt1 _ (List.mem_of_getElem? (i := 64) rfl), rfl⟩
theorem mw1_66 : (Jvm.Cond.lays "GongCycles$Playing" "GongCycles$Playing" "gongsToEnd" "I") ∈ gT := List.mem_filter.mpr ⟨mt1 _ (List.mem_of_getElem? (i := 66) rfl), rfl⟩
theorem mw1_68 : (Jvm.Cond.lays "GongCycles$Playing" "GongCycles$Playing" "ticksGone" "J") ∈ gT := List.mem_filter.mpr ⟨mt1 _ (List.mem_of_getElem? (i := 68) rfl), rfl⟩
theorem mw1_70 : (Jvm.Cond.laysFinal "GongCycles$Playing" "GongCycles$Playing" "strokesHad" "[J") ∈ gT := List.mem_filter.mpr ⟨mt1 _ (List.mem_of_getElem? (i := 70) rfl), rfl⟩
theorem mw1_73 : (Jvm.Cond.arrayClass Jvm.ClassFile.FieldType.int) ∈ gT := List.mem_filter.mpr ⟨mt1 _ (List.mem_of_getElem? (i := 73) rfl), rfl⟩
theorem mw1_74 : (Jvm.Cond.arrayClass Jvm.ClassFile.FieldType.long) ∈ gT := List.mem_filter.mpr ⟨mt1 _ (List.mem_of_getElem? (i := 74) rfl), rfl⟩
theorem mw1_75 : (Jvm.Cond.classLink "GongCycles" (39 : Nat) "GongCycles$BronzeSet") ∈ gT := List.mem_filter.mpr ⟨mt1 _ (List.mem_of_getElem? (i := 75) rfl), rfl⟩
theorem mw1_77 : (Jvm.Cond.classLink "GongCycles" (48 : Nat) "GongCycles$Player") ∈ gT := List.mem_filter.mpr ⟨mt1 _ (List.mem_of_getElem? (i := 77) rfl), rfl⟩
theorem mw1_79 : (Jvm.Cond.instantiable "GongCycles$BronzeSet" (2 : Nat)) ∈ gT := List.mem_filter.mpr ⟨mt1 _ (List.mem_of_getElem? (i := 79) rfl), rfl⟩
theorem mw1_80 : (Jvm.Cond.methodLink "GongCycles" (57 : Nat) ({ cls := "GongCycles$BronzeSet", name := "<init>", desc := "()V" } : Jvm.MethodName)) ∈ gT := List.mem_filter.mpr ⟨mt1 _ (List.mem_of_getElem? (i := 80) rfl), rfl⟩
theorem mw1_81 : (Jvm.Cond.instanceMethod ({ cls := "GongCycles$BronzeSet", name := "<init>", desc := "()V" } : Jvm.MethodName)) ∈ gT := List.mem_filter.mpr ⟨mt1 _ (List.mem_of_getElem? (i := 81) rfl), rfl⟩
theorem mw1_82 : (Jvm.Cond.code ({ cls := "GongCycles$BronzeSet", name := "<init>", desc := "()V" } : Jvm.MethodName) prog_2_method_1_code (2 : Nat) (Option.none : Option Jvm.ClassFile.FieldType)) ∈ gT := List.mem_filter.mpr ⟨mt1 _ (List.mem_of_getElem? (i := 82) rfl), rfl⟩
theorem mw1_83 : (Jvm.Cond.methodLink "GongCycles$BronzeSet" (3 : Nat) ({ cls := "java/lang/Object", name := "<init>", desc := "()V" } : Jvm.MethodName)) ∈ gT := List.mem_filter.mpr ⟨mt1 _ (List.mem_of_getElem? (i := 83) rfl), rfl⟩
theorem mw1_84 : (Jvm.Cond.constant "GongCycles$BronzeSet" (19 : Nat) (44000 : Int32)) ∈ gT := List.mem_filter.mpr ⟨mt1 _ (List.mem_of_getElem? (i := 84) rfl), rfl⟩
theorem mw1_85 : (Jvm.Cond.fieldLink "GongCycles$BronzeSet" (9 : Nat) "GongCycles$BronzeSet" "pitches" "[I") ∈ gT := List.mem_filter.mpr ⟨mt1 _ (List.mem_of_getElem? (i := 85) rfl), rfl⟩
theorem mw1_86 : (Jvm.Cond.fieldLink "GongCycles$BronzeSet" (15 : Nat) "GongCycles$BronzeSet" "yearlyDrift" "I") ∈ gT := List.mem_filter.mpr ⟨mt1 _ (List.mem_of_getElem? (i := 86) rfl), rfl⟩
theorem mw1_88 : (Jvm.Cond.laysFinal "GongCycles$BronzeSet" "GongCycles$BronzeSet" "pitches" "[I") ∈ gT := List.mem_filter.mpr ⟨mt1 _ (List.mem_of_getElem? (i := 88) rfl), rfl⟩
theorem mw1_90 : (Jvm.Cond.lays "GongCycles$BronzeSet" "GongCycles$BronzeSet" "yearlyDrift" "I") ∈ gT := List.mem_filter.mpr ⟨mt1 _ (List.mem_of_getElem? (i := 90) rfl), rfl⟩
theorem mw1_93 : (Jvm.Cond.fieldLink "GongCycles" (9 : Nat) "GongCycles" "lengths" "[I") ∈ gT := List.mem_filter.mpr ⟨mt1 _ (List.mem_of_getElem? (i := 93) rfl), rfl⟩
theorem mw1_94 : (Jvm.Cond.fieldLink "GongCycles" (13 : Nat) "GongCycles" "formCount" "I") ∈ gT := List.mem_filter.mpr ⟨mt1 _ (List.mem_of_getElem? (i := 94) rfl), rfl⟩
theorem mw1_95 : (Jvm.Cond.fieldLink "GongCycles" (19 : Nat) "GongCycles" "pieces" "[LGongCycles$Piece;") ∈ gT := List.mem_filter.mpr ⟨mt1 _ (List.mem_of_getElem? (i := 95) rfl), rfl⟩
theorem mw1_96 : (Jvm.Cond.fieldLink "GongCycles" (23 : Nat) "GongCycles" "pieceCount" "I") ∈ gT := List.mem_filter.mpr ⟨mt1 _ (List.mem_of_getElem? (i := 96) rfl), rfl⟩
theorem mw1_97 : (Jvm.Cond.fieldLink "GongCycles" (29 : Nat) "GongCycles" "playing" "LGongCycles$Playing;") ∈ gT := List.mem_filter.mpr ⟨mt1 _ (List.mem_of_getElem? (i := 97) rfl), rfl⟩
theorem mw1_98 : (Jvm.Cond.fieldLink "GongCycles" (33 : Nat) "GongCycles" "begun" "I") ∈ gT := List.mem_filter.mpr ⟨mt1 _ (List.mem_of_getElem? (i := 98) rfl), rfl⟩
theorem mw1_99 : (Jvm.Cond.fieldLink "GongCycles" (36 : Nat) "GongCycles" "today" "I") ∈ gT := List.mem_filter.mpr ⟨mt1 _ (List.mem_of_getElem? (i := 99) rfl), rfl⟩
theorem mw1_100 : (Jvm.Cond.fieldLink "GongCycles" (41 : Nat) "GongCycles" "sets" "[LGongCycles$BronzeSet;") ∈ gT := List.mem_filter.mpr ⟨mt1 _ (List.mem_of_getElem? (i := 100) rfl), rfl⟩
theorem mw1_101 : (Jvm.Cond.fieldLink "GongCycles" (45 : Nat) "GongCycles" "yearsGone" "I") ∈ gT := List.mem_filter.mpr ⟨mt1 _ (List.mem_of_getElem? (i := 101) rfl), rfl⟩
theorem mw1_102 : (Jvm.Cond.fieldLink "GongCycles" (50 : Nat) "GongCycles" "players" "[LGongCycles$Player;") ∈ gT := List.mem_filter.mpr ⟨mt1 _ (List.mem_of_getElem? (i := 102) rfl), rfl⟩
theorem mw1_103 : (Jvm.Cond.fieldLink "GongCycles" (54 : Nat) "GongCycles" "playerCount" "I") ∈ gT := List.mem_filter.mpr ⟨mt1 _ (List.mem_of_getElem? (i := 103) rfl), rfl⟩
theorem mw1_104 : (Jvm.Cond.laysFinal "GongCycles" "GongCycles" "lengths" "[I") ∈ gT := List.mem_filter.mpr ⟨mt1 _ (List.mem_of_getElem? (i := 104) rfl), rfl⟩
theorem mw1_106 : (Jvm.Cond.lays "GongCycles" "GongCycles" "formCount" "I") ∈ gT := List.mem_filter.mpr ⟨mt1 _ (List.mem_of_getElem? (i := 106) rfl), rfl⟩
theorem mw1_108 : (Jvm.Cond.laysFinal "GongCycles" "GongCycles" "pieces" "[LGongCycles$Piece;") ∈ gT := List.mem_filter.mpr ⟨mt1 _ (List.mem_of_getElem? (i := 108) rfl), rfl⟩
theorem mw1_110 : (Jvm.Cond.lays "GongCycles" "GongCycles" "pieceCount" "I") ∈ gT := List.mem_filter.mpr ⟨mt1 _ (List.mem_of_getElem? (i := 110) rfl), rfl⟩
theorem mw1_112 : (Jvm.Cond.laysFinal "GongCycles" "GongCycles" "playing" "LGongCycles$Playing;") ∈ gT := List.mem_filter.mpr ⟨mt1 _ (List.mem_of_getElem? (i := 112) rfl), rfl⟩
theorem mw1_114 : (Jvm.Cond.lays "GongCycles" "GongCycles" "begun" "I") ∈ gT := List.mem_filter.mpr ⟨mt1 _ (List.mem_of_getElem? (i := 114) rfl), rfl⟩
theorem mw1_116 : (Jvm.Cond.lays "GongCycles" "GongCycles" "today" "I") ∈ gT := List.mem_filter.mpr ⟨mt1 _ (List.mem_of_getElem? (i := 116) rfl), rfl⟩
theorem mw1_118 : (Jvm.Cond.laysFinal "GongCycles" "GongCycles" "sets" "[LGongCycles$BronzeSet;") ∈ gT := List.mem_filter.mpr ⟨mt1 _ (List.mem_of_getElem? (i := 118) rfl), rfl⟩
theorem mw1_120 : (Jvm.Cond.lays "GongCycles" "GongCycles" "yearsGone" "I") ∈ gT := List.mem_filter.mpr ⟨mt1 _ (List.mem_of_getElem? (i := 120) rfl), rfl⟩
theorem mw1_122 : (Jvm.Cond.laysFinal "GongCycles" "GongCycles" "players" "[LGongCycles$Player;") ∈ gT := List.mem_filter.mpr ⟨mt1 _ (List.mem_of_getElem? (i := 122) rfl), rfl⟩
theorem mw1_124 : (Jvm.Cond.lays "GongCycles" "GongCycles" "playerCount" "I") ∈ gT := List.mem_filter.mpr ⟨mt1 _ (List.mem_of_getElem? (i := 124) rfl), rfl⟩
theorem mw1_127 : (Jvm.Cond.methodLink "GongCyclesLaw" (143 : Nat) ({ cls := "GongCycles", name := "ticks", desc := "()J" } : Jvm.MethodName)) ∈ gT := List.mem_filter.mpr ⟨mt1 _ (List.mem_of_getElem? (i := 127) rfl), rfl⟩
theorem mw1_128 : (Jvm.Cond.instanceMethod ({ cls := "GongCycles", name := "ticks", desc := "()J" } : Jvm.MethodName)) ∈ gT := List.mem_filter.mpr ⟨mt1 _ (List.mem_of_getElem? (i := 128) rfl), rfl⟩
theorem mw1_129 : (Jvm.Cond.selects "GongCycles" ({ cls := "GongCycles", name := "ticks", desc := "()J" } : Jvm.MethodName) ({ cls := "GongCycles", name := "ticks", desc := "()J" } : Jvm.MethodName)) ∈ gT := List.mem_filter.mpr ⟨mt1 _ (List.mem_of_getElem? (i := 129) rfl), rfl⟩
theorem mw1_130 : (Jvm.Cond.code ({ cls := "GongCycles", name := "ticks", desc := "()J" } : Jvm.MethodName) prog_1_method_14_code (1 : Nat) (Option.some Jvm.ClassFile.FieldType.long)) ∈ gT := List.mem_filter.mpr ⟨mt1 _ (List.mem_of_getElem? (i := 130) rfl), rfl⟩
theorem mw1_131 : (Jvm.Cond.methodLink "GongCyclesLaw" (97 : Nat) ({ cls := "GongCyclesLaw", name := "form", desc := "(LGongCycles;I[J)I" } : Jvm.MethodName)) ∈ gT := List.mem_filter.mpr ⟨mt1 _ (List.mem_of_getElem? (i := 131) rfl), rfl⟩
theorem mw1_132 : (Jvm.Cond.static ({ cls := "GongCyclesLaw", name := "form", desc := "(LGongCycles;I[J)I" } : Jvm.MethodName)) ∈ gT := List.mem_filter.mpr ⟨mt1 _ (List.mem_of_getElem? (i := 132) rfl), rfl⟩
theorem mw1_133 : (Jvm.Cond.codeWith ({ cls := "GongCyclesLaw", name := "form", desc := "(LGongCycles;I[J)I" } : Jvm.MethodName) method_3_code (4 : Nat) (Option.some Jvm.ClassFile.FieldType.int) [((0 : Nat), (9 : Nat), (12 : Nat), (13 : Nat)), ((0 : Nat), (9 : Nat), (15 : Nat), (15 : Nat))]) ∈ gT := List.mem_filter.mpr ⟨mt1 _ (List.mem_of_getElem? (i := 133) rfl), rfl⟩
theorem mw1_134 : (Jvm.Cond.classLink "GongCyclesLaw" (13 : Nat) "java/lang/IllegalArgumentException") ∈ gT := List.mem_filter.mpr ⟨mt1 _ (List.mem_of_getElem? (i := 134) rfl), rfl⟩
theorem mw1_135 : (Jvm.Cond.classLink "GongCyclesLaw" (15 : Nat) "java/lang/IllegalStateException") ∈ gT := List.mem_filter.mpr ⟨mt1 _ (List.mem_of_getElem? (i := 135) rfl), rfl⟩
theorem mw1_136 : (Jvm.Cond.methodLink "GongCyclesLaw" (7 : Nat) ({ cls := "GongCycles", name := "form", desc := "(I)I" } : Jvm.MethodName)) ∈ gT := List.mem_filter.mpr ⟨mt1 _ (List.mem_of_getElem? (i := 136) rfl), rfl⟩
theorem mw1_137 : (Jvm.Cond.instanceMethod ({ cls := "GongCycles", name := "form", desc := "(I)I" } : Jvm.MethodName)) ∈ gT := List.mem_filter.mpr ⟨mt1 _ (List.mem_of_getElem? (i := 137) rfl), rfl⟩
theorem mw1_138 : (Jvm.Cond.selects "GongCycles" ({ cls := "GongCycles", name := "form", desc := "(I)I" } : Jvm.MethodName) ({ cls := "GongCycles", name := "form", desc := "(I)I" } : Jvm.MethodName)) ∈ gT := List.mem_filter.mpr ⟨mt1 _ (List.mem_of_getElem? (i := 138) rfl), rfl⟩
theorem mw1_139 : (Jvm.Cond.code ({ cls := "GongCycles", name := "form", desc := "(I)I" } : Jvm.MethodName) prog_1_method_2_code (2 : Nat) (Option.some Jvm.ClassFile.FieldType.int)) ∈ gT := List.mem_filter.mpr ⟨mt1 _ (List.mem_of_getElem? (i := 139) rfl), rfl⟩
theorem mw1_140 : (Jvm.Cond.classLink "GongCycles" (58 : Nat) "java/lang/IllegalArgumentException") ∈ gT := List.mem_filter.mpr ⟨mt1 _ (List.mem_of_getElem? (i := 140) rfl), rfl⟩
theorem mw1_141 : (Jvm.Cond.instantiable "java/lang/IllegalArgumentException" (6 : Nat)) ∈ gT := List.mem_filter.mpr ⟨mt1 _ (List.mem_of_getElem? (i := 141) rfl), rfl⟩
theorem mw1_149 : (Jvm.Cond.selects "java/lang/IllegalArgumentException" ({ cls := "java/lang/Throwable", name := "fillInStackTrace", desc := "(I)Ljava/lang/Throwable;" } : Jvm.MethodName) ({ cls := "java/lang/Throwable", name := "fillInStackTrace", desc := "(I)Ljava/lang/Throwable;" } : Jvm.MethodName)) ∈ gT := List.mem_filter.mpr ⟨mt1 _ (List.mem_of_getElem? (i := 149) rfl), rfl⟩
theorem mw1_150 : (Jvm.Cond.selects "java/lang/IllegalArgumentException" ({ cls := "java/lang/Throwable", name := "fillInStackTrace", desc := "()Ljava/lang/Throwable;" } : Jvm.MethodName) ({ cls := "java/lang/Throwable", name := "fillInStackTrace", desc := "()Ljava/lang/Throwable;" } : Jvm.MethodName)) ∈ gT := List.mem_filter.mpr ⟨mt1 _ (List.mem_of_getElem? (i := 150) rfl), rfl⟩
theorem mw1_151 : (Jvm.Cond.lays "java/lang/IllegalArgumentException" "java/lang/Throwable" "cause" "Ljava/lang/Throwable;") ∈ gT := List.mem_filter.mpr ⟨mt1 _ (List.mem_of_getElem? (i := 151) rfl), rfl⟩
theorem mw1_152 : (Jvm.Cond.lays "java/lang/Throwable" "java/lang/Throwable" "cause" "Ljava/lang/Throwable;") ∈ gT := List.mem_filter.mpr ⟨mt1 _ (List.mem_of_getElem? (i := 152) rfl), rfl⟩
theorem mw1_153 : (Jvm.Cond.lays "java/lang/IllegalArgumentException" "java/lang/Throwable" "stackTrace" "[Ljava/lang/StackTraceElement;") ∈ gT := List.mem_filter.mpr ⟨mt1 _ (List.mem_of_getElem? (i := 153) rfl), rfl⟩
theorem mw1_154 : (Jvm.Cond.lays "java/lang/Throwable" "java/lang/Throwable" "stackTrace" "[Ljava/lang/StackTraceElement;") ∈ gT := List.mem_filter.mpr ⟨mt1 _ (List.mem_of_getElem? (i := 154) rfl), rfl⟩
theorem mw1_155 : (Jvm.Cond.lays "java/lang/IllegalArgumentException" "java/lang/Throwable" "suppressedExceptions" "Ljava/util/List;") ∈ gT := List.mem_filter.mpr ⟨mt1 _ (List.mem_of_getElem? (i := 155) rfl), rfl⟩
theorem mw1_156 : (Jvm.Cond.lays "java/lang/Throwable" "java/lang/Throwable" "suppressedExceptions" "Ljava/util/List;") ∈ gT := List.mem_filter.mpr ⟨mt1 _ (List.mem_of_getElem? (i := 156) rfl), rfl⟩
theorem mw1_157 : (Jvm.Cond.lays "java/lang/IllegalArgumentException" "java/lang/Throwable" "detailMessage" "Ljava/lang/String;") ∈ gT := List.mem_filter.mpr ⟨mt1 _ (List.mem_of_getElem? (i := 157) rfl), rfl⟩
theorem mw1_158 : (Jvm.Cond.lays "java/lang/Throwable" "java/lang/Throwable" "detailMessage" "Ljava/lang/String;") ∈ gT := List.mem_filter.mpr ⟨mt1 _ (List.mem_of_getElem? (i := 158) rfl), rfl⟩
theorem mw1_159 : (Jvm.Cond.lays "java/lang/IllegalArgumentException" "java/lang/Throwable" "backtrace" "Ljava/lang/Object;") ∈ gT := List.mem_filter.mpr ⟨mt1 _ (List.mem_of_getElem? (i := 159) rfl), rfl⟩
theorem mw1_160 : (Jvm.Cond.lays "java/lang/Throwable" "java/lang/Throwable" "backtrace" "Ljava/lang/Object;") ∈ gT := List.mem_filter.mpr ⟨mt1 _ (List.mem_of_getElem? (i := 160) rfl), rfl⟩
theorem mw1_161 : (Jvm.Cond.fieldLink "java/lang/Throwable" (198 : Nat) "java/lang/Throwable" "backtrace" "Ljava/lang/Object;") ∈ gT := List.mem_filter.mpr ⟨mt1 _ (List.mem_of_getElem? (i := 161) rfl), rfl⟩
theorem mw1_163 : (Jvm.Cond.instanceMethod ({ cls := "java/lang/Throwable", name := "<init>", desc := "()V" } : Jvm.MethodName)) ∈ gT := List.mem_filter.mpr ⟨mt1 _ (List.mem_of_getElem? (i := 163) rfl), rfl⟩
theorem mw1_164 : (Jvm.Cond.code ({ cls := "java/lang/Throwable", name := "<init>", desc := "()V" } : Jvm.MethodName) prog_17_method_1_code (1 : Nat) (Option.none : Option Jvm.ClassFile.FieldType)) ∈ gT := List.mem_filter.mpr ⟨mt1 _ (List.mem_of_getElem? (i := 164) rfl), rfl⟩
theorem mw1_165 : (Jvm.Cond.methodLink "java/lang/Throwable" (1 : Nat) ({ cls := "java/lang/Object", name := "<init>", desc := "()V" } : Jvm.MethodName)) ∈ gT := List.mem_filter.mpr ⟨mt1 _ (List.mem_of_getElem? (i := 165) rfl), rfl⟩
theorem mw1_166 : (Jvm.Cond.fieldLink "java/lang/Throwable" (13 : Nat) "java/lang/Throwable" "UNASSIGNED_STACK" "[Ljava/lang/StackTraceElement;") ∈ gT := List.mem_filter.mpr ⟨mt1 _ (List.mem_of_getElem? (i := 166) rfl), rfl⟩
theorem mw1_168 : (Jvm.Cond.fieldLink "java/lang/Throwable" (20 : Nat) "java/lang/Throwable" "SUPPRESSED_SENTINEL" "Ljava/util/List;") ∈ gT := List.mem_filter.mpr ⟨mt1 _ (List.mem_of_getElem? (i := 168) rfl), rfl⟩
theorem mw1_170 : (Jvm.Cond.methodLink "java/lang/Throwable" (27 : Nat) ({ cls := "java/lang/Throwable", name := "fillInStackTrace", desc := "()Ljava/lang/Throwable;" } : Jvm.MethodName)) ∈ gT := List.mem_filter.mpr ⟨mt1 _ (List.mem_of_getElem? (i := 170) rfl), rfl⟩
theorem mw1_171 : (Jvm.Cond.instanceMethod ({ cls := "java/lang/Throwable", name := "fillInStackTrace", desc := "()Ljava/lang/Throwable;" } : Jvm.MethodName)) ∈ gT := List.mem_filter.mpr ⟨mt1 _ (List.mem_of_getElem? (i := 171) rfl), rfl⟩
theorem mw1_173 : (Jvm.Cond.selects "java/lang/IllegalStateException" ({ cls := "java/lang/Throwable", name := "fillInStackTrace", desc := "()Ljava/lang/Throwable;" } : Jvm.MethodName) ({ cls := "java/lang/Throwable", name := "fillInStackTrace", desc := "()Ljava/lang/Throwable;" } : Jvm.MethodName)) ∈ gT := List.mem_filter.mpr ⟨mt1 _ (List.mem_of_getElem? (i := 173) rfl), rfl⟩
theorem mw1_174 : (Jvm.Cond.selects "java/lang/IndexOutOfBoundsException" ({ cls := "java/lang/Throwable", name := "fillInStackTrace", desc := "()Ljava/lang/Throwable;" } : Jvm.MethodName) ({ cls := "java/lang/Throwable", name := "fillInStackTrace", desc := "()Ljava/lang/Throwable;" } : Jvm.MethodName)) ∈ gT := List.mem_filter.mpr ⟨mt1 _ (List.mem_of_getElem? (i := 174) rfl), rfl⟩
theorem mw1_176 : (Jvm.Cond.methodLink "java/lang/Throwable" (202 : Nat) ({ cls := "java/lang/Throwable", name := "fillInStackTrace", desc := "(I)Ljava/lang/Throwable;" } : Jvm.MethodName)) ∈ gT := List.mem_filter.mpr ⟨mt1 _ (List.mem_of_getElem? (i := 176) rfl), rfl⟩
theorem mw1_178 : (Jvm.Cond.instanceMethod ({ cls := "java/lang/Throwable", name := "fillInStackTrace", desc := "(I)Ljava/lang/Throwable;" } : Jvm.MethodName)) ∈ gT := List.mem_filter.mpr ⟨mt1 _ (List.mem_of_getElem? (i := 178) rfl), rfl⟩
theorem mw1_179 : (Jvm.Cond.instantiable "java/lang/Throwable" (6 : Nat)) ∈ gT := List.mem_filter.mpr ⟨mt1 _ (List.mem_of_getElem? (i := 179) rfl), rfl⟩
theorem mw1_182 : (Jvm.Cond.methodLink "GongCycles" (62 : Nat) ({ cls := "java/lang/IllegalArgumentException", name := "<init>", desc := "(Ljava/lang/String;)V" } : Jvm.MethodName)) ∈ gT := List.mem_filter.mpr ⟨mt1 _ (List.mem_of_getElem? (i := 182) rfl), rfl⟩
theorem mw1_183 : (Jvm.Cond.instanceMethod ({ cls := "java/lang/IllegalArgumentException", name := "<init>", desc := "(Ljava/lang/String;)V" } : Jvm.MethodName)) ∈ gT := List.mem_filter.mpr ⟨mt1 _ (List.mem_of_getElem? (i := 183) rfl), rfl⟩
theorem mw1_184 : (Jvm.Cond.code ({ cls := "java/lang/IllegalArgumentException", name := "<init>", desc := "(Ljava/lang/String;)V" } : Jvm.MethodName) prog_10_method_2_code (2 : Nat) (Option.none : Option Jvm.ClassFile.FieldType)) ∈ gT := List.mem_filter.mpr ⟨mt1 _ (List.mem_of_getElem? (i := 184) rfl), rfl⟩
theorem mw1_185 : (Jvm.Cond.methodLink "java/lang/IllegalArgumentException" (7 : Nat) ({ cls := "java/lang/RuntimeException", name := "<init>", desc := "(Ljava/lang/String;)V" } : Jvm.MethodName)) ∈ gT := List.mem_filter.mpr ⟨mt1 _ (List.mem_of_getElem? (i := 185) rfl), rfl⟩
theorem mw1_186 : (Jvm.Cond.instanceMethod ({ cls := "java/lang/RuntimeException", name := "<init>", desc := "(Ljava/lang/String;)V" } : Jvm.MethodName)) ∈ gT := List.mem_filter.mpr ⟨mt1 _ (List.mem_of_getElem? (i := 186) rfl), rfl⟩
theorem mw1_187 : (Jvm.Cond.code ({ cls := "java/lang/RuntimeException", name := "<init>", desc := "(Ljava/lang/String;)V" } : Jvm.MethodName) prog_15_method_2_code (2 : Nat) (Option.none : Option Jvm.ClassFile.FieldType)) ∈ gT := List.mem_filter.mpr ⟨mt1 _ (List.mem_of_getElem? (i := 187) rfl), rfl⟩
theorem mw1_188 : (Jvm.Cond.methodLink "java/lang/RuntimeException" (7 : Nat) ({ cls := "java/lang/Exception", name := "<init>", desc := "(Ljava/lang/String;)V" } : Jvm.MethodName)) ∈ gT := List.mem_filter.mpr ⟨mt1 _ (List.mem_of_getElem? (i := 188) rfl), rfl⟩
theorem mw1_189 : (Jvm.Cond.instanceMethod ({ cls := "java/lang/Exception", name := "<init>", desc := "(Ljava/lang/String;)V" } : Jvm.MethodName)) ∈ gT := List.mem_filter.mpr ⟨mt1 _ (List.mem_of_getElem? (i := 189) rfl), rfl⟩
theorem mw1_190 : (Jvm.Cond.code ({ cls := "java/lang/Exception", name := "<init>", desc := "(Ljava/lang/String;)V" } : Jvm.MethodName) prog_9_method_2_code (2 : Nat) (Option.none : Option Jvm.ClassFile.FieldType)) ∈ gT := List.mem_filter.mpr ⟨mt1 _ (List.mem_of_getElem? (i := 190) rfl), rfl⟩
theorem mw1_191 : (Jvm.Cond.methodLink "java/lang/Exception" (7 : Nat) ({ cls := "java/lang/Throwable", name := "<init>", desc := "(Ljava/lang/String;)V" } : Jvm.MethodName)) ∈ gT := List.mem_filter.mpr ⟨mt1 _ (List.mem_of_getElem? (i := 191) rfl), rfl⟩
theorem mw1_192 : (Jvm.Cond.instanceMethod ({ cls := "java/lang/Throwable", name := "<init>", desc := "(Ljava/lang/String;)V" } : Jvm.MethodName)) ∈ gT := List.mem_filter.mpr ⟨mt1 _ (List.mem_of_getElem? (i := 192) rfl), rfl⟩
theorem mw1_193 : (Jvm.Cond.code ({ cls := "java/lang/Throwable", name := "<init>", desc := "(Ljava/lang/String;)V" } : Jvm.MethodName) prog_17_method_2_code (2 : Nat) (Option.none : Option Jvm.ClassFile.FieldType)) ∈ gT := List.mem_filter.mpr ⟨mt1 _ (List.mem_of_getElem? (i := 193) rfl), rfl⟩
theorem mw1_195 : (Jvm.Cond.fieldLink "java/lang/Throwable" (31 : Nat) "java/lang/Throwable" "detailMessage" "Ljava/lang/String;") ∈ gT := List.mem_filter.mpr ⟨mt1 _ (List.mem_of_getElem? (i := 195) rfl), rfl⟩
theorem mw1_196 : (Jvm.Cond.fieldLink "java/lang/Throwable" (7 : Nat) "java/lang/Throwable" "cause" "Ljava/lang/Throwable;") ∈ gT := List.mem_filter.mpr ⟨mt1 _ (List.mem_of_getElem? (i := 196) rfl), rfl⟩
theorem mw1_197 : (Jvm.Cond.fieldLink "java/lang/Throwable" (17 : Nat) "java/lang/Throwable" "stackTrace" "[Ljava/lang/StackTraceElement;") ∈ gT := List.mem_filter.mpr ⟨mt1 _ (List.mem_of_getElem? (i := 197) rfl), rfl⟩
theorem mw1_198 : (Jvm.Cond.fieldLink "java/lang/Throwable" (24 : Nat) "java/lang/Throwable" "suppressedExceptions" "Ljava/util/List;") ∈ gT := List.mem_filter.mpr ⟨mt1 _ (List.mem_of_getElem? (i := 198) rfl), rfl⟩
theorem mw1_203 : (Jvm.Cond.lays "java/lang/IllegalArgumentException" "java/lang/Throwable" "depth" "I") ∈ gT := List.mem_filter.mpr ⟨mt1 _ (List.mem_of_getElem? (i := 203) rfl), rfl⟩
theorem mw1_207 : (Jvm.Cond.arrayClass Jvm.ClassFile.FieldType.byte) ∈ gT := List.mem_filter.mpr ⟨mt1 _ (List.mem_of_getElem? (i := 207) rfl), rfl⟩
theorem mw1_208 : (Jvm.Cond.classLink "GongCycles" (65 : Nat) "java/lang/IllegalStateException") ∈ gT := List.mem_filter.mpr ⟨mt1 _ (List.mem_of_getElem? (i := 208) rfl), rfl⟩
theorem mw1_209 : (Jvm.Cond.instantiable "java/lang/IllegalStateException" (6 : Nat)) ∈ gT := List.mem_filter.mpr ⟨mt1 _ (List.mem_of_getElem? (i := 209) rfl), rfl⟩
theorem mw1_211 : (Jvm.Cond.selects "java/lang/IllegalStateException" ({ cls := "java/lang/Throwable", name := "fillInStackTrace", desc := "(I)Ljava/lang/Throwable;" } : Jvm.MethodName) ({ cls := "java/lang/Throwable", name := "fillInStackTrace", desc := "(I)Ljava/lang/Throwable;" } : Jvm.MethodName)) ∈ gT := List.mem_filter.mpr ⟨mt1 _ (List.mem_of_getElem? (i := 211) rfl), rfl⟩
theorem mw1_212 : (Jvm.Cond.lays "java/lang/IllegalStateException" "java/lang/Throwable" "cause" "Ljava/lang/Throwable;") ∈ gT := List.mem_filter.mpr ⟨mt1 _ (List.mem_of_getElem? (i := 212) rfl), rfl⟩
theorem mw1_213 : (Jvm.Cond.lays "java/lang/IllegalStateException" "java/lang/Throwable" "stackTrace" "[Ljava/lang/StackTraceElement;") ∈ gT := List.mem_filter.mpr ⟨mt1 _ (List.mem_of_getElem? (i := 213) rfl), rfl⟩
theorem mw1_214 : (Jvm.Cond.lays "java/lang/IllegalStateException" "java/lang/Throwable" "suppressedExceptions" "Ljava/util/List;") ∈ gT := List.mem_filter.mpr ⟨mt1 _ (List.mem_of_getElem? (i := 214) rfl), rfl⟩
theorem mw1_215 : (Jvm.Cond.lays "java/lang/IllegalStateException" "java/lang/Throwable" "detailMessage" "Ljava/lang/String;") ∈ gT := List.mem_filter.mpr ⟨mt1 _ (List.mem_of_getElem? (i := 215) rfl), rfl⟩
theorem mw1_216 : (Jvm.Cond.lays "java/lang/IllegalStateException" "java/lang/Throwable" "backtrace" "Ljava/lang/Object;") ∈ gT := List.mem_filter.mpr ⟨mt1 _ (List.mem_of_getElem? (i := 216) rfl), rfl⟩
theorem mw1_218 : (Jvm.Cond.methodLink "GongCycles" (69 : Nat) ({ cls := "java/lang/IllegalStateException", name := "<init>", desc := "(Ljava/lang/String;)V" } : Jvm.MethodName)) ∈ gT := List.mem_filter.mpr ⟨mt1 _ (List.mem_of_getElem? (i := 218) rfl), rfl⟩
theorem mw1_219 : (Jvm.Cond.instanceMethod ({ cls := "java/lang/IllegalStateException", name := "<init>", desc := "(Ljava/lang/String;)V" } : Jvm.MethodName)) ∈ gT := List.mem_filter.mpr ⟨mt1 _ (List.mem_of_getElem? (i := 219) rfl), rfl⟩
theorem mw1_220 : (Jvm.Cond.code ({ cls := "java/lang/IllegalStateException", name := "<init>", desc := "(Ljava/lang/String;)V" } : Jvm.MethodName) prog_11_method_2_code (2 : Nat) (Option.none : Option Jvm.ClassFile.FieldType)) ∈ gT := List.mem_filter.mpr ⟨mt1 _ (List.mem_of_getElem? (i := 220) rfl), rfl⟩
theorem mw1_221 : (Jvm.Cond.methodLink "java/lang/IllegalStateException" (7 : Nat) ({ cls := "java/lang/RuntimeException", name := "<init>", desc := "(Ljava/lang/String;)V" } : Jvm.MethodName)) ∈ gT := List.mem_filter.mpr ⟨mt1 _ (List.mem_of_getElem? (i := 221) rfl), rfl⟩
theorem mw1_222 : (Jvm.Cond.lays "java/lang/IllegalStateException" "java/lang/Throwable" "depth" "I") ∈ gT := List.mem_filter.mpr ⟨mt1 _ (List.mem_of_getElem? (i := 222) rfl), rfl⟩
theorem mw1_224 : (Jvm.Cond.methodLink "GongCyclesLaw" (107 : Nat) ({ cls := "GongCyclesLaw", name := "depth", desc := "(LGongCycles;II[J)I" } : Jvm.MethodName)) ∈ gT := List.mem_filter.mpr ⟨mt1 _ (List.mem_of_getElem? (i := 224) rfl), rfl⟩
theorem mw1_225 : (Jvm.Cond.static ({ cls := "GongCyclesLaw", name := "depth", desc := "(LGongCycles;II[J)I" } : Jvm.MethodName)) ∈ gT := List.mem_filter.mpr ⟨mt1 _ (List.mem_of_getElem? (i := 225) rfl), rfl⟩
theorem mw1_226 : (Jvm.Cond.codeWith ({ cls := "GongCyclesLaw", name := "depth", desc := "(LGongCycles;II[J)I" } : Jvm.MethodName) method_4_code (5 : Nat) (Option.some Jvm.ClassFile.FieldType.int) [((0 : Nat), (10 : Nat), (13 : Nat), (21 : Nat))]) ∈ gT := List.mem_filter.mpr ⟨mt1 _ (List.mem_of_getElem? (i := 226) rfl), rfl⟩
theorem mw1_227 : (Jvm.Cond.classLink "GongCyclesLaw" (21 : Nat) "java/lang/IndexOutOfBoundsException") ∈ gT := List.mem_filter.mpr ⟨mt1 _ (List.mem_of_getElem? (i := 227) rfl), rfl⟩
theorem mw1_228 : (Jvm.Cond.methodLink "GongCyclesLaw" (17 : Nat) ({ cls := "GongCycles", name := "depth", desc := "(II)I" } : Jvm.MethodName)) ∈ gT := List.mem_filter.mpr ⟨mt1 _ (List.mem_of_getElem? (i := 228) rfl), rfl⟩
theorem mw1_229 : (Jvm.Cond.instanceMethod ({ cls := "GongCycles", name := "depth", desc := "(II)I" } : Jvm.MethodName)) ∈ gT := List.mem_filter.mpr ⟨mt1 _ (List.mem_of_getElem? (i := 229) rfl), rfl⟩
theorem mw1_230 : (Jvm.Cond.selects "GongCycles" ({ cls := "GongCycles", name := "depth", desc := "(II)I" } : Jvm.MethodName) ({ cls := "GongCycles", name := "depth", desc := "(II)I" } : Jvm.MethodName)) ∈ gT := List.mem_filter.mpr ⟨mt1 _ (List.mem_of_getElem? (i := 230) rfl), rfl⟩
theorem mw1_231 : (Jvm.Cond.code ({ cls := "GongCycles", name := "depth", desc := "(II)I" } : Jvm.MethodName) prog_1_method_3_code (6 : Nat) (Option.some Jvm.ClassFile.FieldType.int)) ∈ gT := List.mem_filter.mpr ⟨mt1 _ (List.mem_of_getElem? (i := 231) rfl), rfl⟩
theorem mw1_232 : (Jvm.Cond.methodLink "GongCycles" (70 : Nat) ({ cls := "GongCycles", name := "lengthOfForm", desc := "(I)I" } : Jvm.MethodName)) ∈ gT := List.mem_filter.mpr ⟨mt1 _ (List.mem_of_getElem? (i := 232) rfl), rfl⟩
theorem mw1_234 : (Jvm.Cond.instanceMethod ({ cls := "GongCycles", name := "lengthOfForm", desc := "(I)I" } : Jvm.MethodName)) ∈ gT := List.mem_filter.mpr ⟨mt1 _ (List.mem_of_getElem? (i := 234) rfl), rfl⟩
theorem mw1_235 : (Jvm.Cond.code ({ cls := "GongCycles", name := "lengthOfForm", desc := "(I)I" } : Jvm.MethodName) prog_1_method_27_code (2 : Nat) (Option.some Jvm.ClassFile.FieldType.int)) ∈ gT := List.mem_filter.mpr ⟨mt1 _ (List.mem_of_getElem? (i := 235) rfl), rfl⟩
theorem mw1_236 : (Jvm.Cond.classLink "GongCycles" (74 : Nat) "java/lang/IndexOutOfBoundsException") ∈ gT := List.mem_filter.mpr ⟨mt1 _ (List.mem_of_getElem? (i := 236) rfl), rfl⟩
theorem mw1_237 : (Jvm.Cond.instantiable "java/lang/IndexOutOfBoundsException" (6 : Nat)) ∈ gT := List.mem_filter.mpr ⟨mt1 _ (List.mem_of_getElem? (i := 237) rfl), rfl⟩
theorem mw1_239 : (Jvm.Cond.selects "java/lang/IndexOutOfBoundsException" ({ cls := "java/lang/Throwable", name := "fillInStackTrace", desc := "(I)Ljava/lang/Throwable;" } : Jvm.MethodName) ({ cls := "java/lang/Throwable", name := "fillInStackTrace", desc := "(I)Ljava/lang/Throwable;" } : Jvm.MethodName)) ∈ gT := List.mem_filter.mpr ⟨mt1 _ (List.mem_of_getElem? (i := 239) rfl), rfl⟩
theorem mw2_0 : (Jvm.Cond.lays "java/lang/IndexOutOfBoundsException" "java/lang/Throwable" "cause" "Ljava/lang/Throwable;") ∈ gT := List.mem_filter.mpr ⟨mt2 _ (List.mem_of_getElem? (i := 0) rfl), rfl⟩
theorem mw2_1 : (Jvm.Cond.lays "java/lang/IndexOutOfBoundsException" "java/lang/Throwable" "stackTrace" "[Ljava/lang/StackTraceElement;") ∈ gT := List.mem_filter.mpr ⟨mt2 _ (List.mem_of_getElem? (i := 1) rfl), rfl⟩
theorem mw2_2 : (Jvm.Cond.lays "java/lang/IndexOutOfBoundsException" "java/lang/Throwable" "suppressedExceptions" "Ljava/util/List;") ∈ gT := List.mem_filter.mpr ⟨mt2 _ (List.mem_of_getElem? (i := 2) rfl), rfl⟩
theorem mw2_3 : (Jvm.Cond.lays "java/lang/IndexOutOfBoundsException" "java/lang/Throwable" "detailMessage" "Ljava/lang/String;") ∈ gT := List.mem_filter.mpr ⟨mt2 _ (List.mem_of_getElem? (i := 3) rfl), rfl⟩
theorem mw2_4 : (Jvm.Cond.lays "java/lang/IndexOutOfBoundsException" "java/lang/Throwable" "backtrace" "Ljava/lang/Object;") ∈ gT := List.mem_filter.mpr ⟨mt2 _ (List.mem_of_getElem? (i := 4) rfl), rfl⟩
theorem mw2_6 : (Jvm.Cond.methodLink "GongCycles" (78 : Nat) ({ cls := "java/lang/IndexOutOfBoundsException", name := "<init>", desc := "(Ljava/lang/String;)V" } : Jvm.MethodName)) ∈ gT := List.mem_filter.mpr ⟨mt2 _ (List.mem_of_getElem? (i := 6) rfl), rfl⟩
theorem mw2_7 : (Jvm.Cond.instanceMethod ({ cls := "java/lang/IndexOutOfBoundsException", name := "<init>", desc := "(Ljava/lang/String;)V" } : Jvm.MethodName)) ∈ gT := List.mem_filter.mpr ⟨mt2 _ (List.mem_of_getElem? (i := 7) rfl), rfl⟩
theorem mw2_8 : (Jvm.Cond.code ({ cls := "java/lang/IndexOutOfBoundsException", name := "<init>", desc := "(Ljava/lang/String;)V" } : Jvm.MethodName) prog_12_method_2_code (2 : Nat) (Option.none : Option Jvm.ClassFile.FieldType)) ∈ gT := List.mem_filter.mpr ⟨mt2 _ (List.mem_of_getElem? (i := 8) rfl), rfl⟩
theorem mw2_9 : (Jvm.Cond.methodLink "java/lang/IndexOutOfBoundsException" (7 : Nat) ({ cls := "java/lang/RuntimeException", name := "<init>", desc := "(Ljava/lang/String;)V" } : Jvm.MethodName)) ∈ gT := List.mem_filter.mpr ⟨mt2 _ (List.mem_of_getElem? (i := 9) rfl), rfl⟩
theorem mw2_10 : (Jvm.Cond.lays "java/lang/IndexOutOfBoundsException" "java/lang/Throwable" "depth" "I") ∈ gT := List.mem_filter.mpr ⟨mt2 _ (List.mem_of_getElem? (i := 10) rfl), rfl⟩
theorem mw2_13 : (Jvm.Cond.methodLink "GongCyclesLaw" (111 : Nat) ({ cls := "GongCyclesLaw", name := "piece", desc := "(LGongCycles;I[J)I" } : Jvm.MethodName)) ∈ gT := List.mem_filter.mpr ⟨mt2 _ (List.mem_of_getElem? (i := 13) rfl), rfl⟩
theorem mw2_14 : (Jvm.Cond.static ({ cls := "GongCyclesLaw", name := "piece", desc := "(LGongCycles;I[J)I" } : Jvm.MethodName)) ∈ gT := List.mem_filter.mpr ⟨mt2 _ (List.mem_of_getElem? (i := 14) rfl), rfl⟩
theorem mw2_15 : (Jvm.Cond.codeWith ({ cls := "GongCyclesLaw", name := "piece", desc := "(LGongCycles;I[J)I" } : Jvm.MethodName) method_5_code (4 : Nat) (Option.some Jvm.ClassFile.FieldType.int) [((0 : Nat), (9 : Nat), (12 : Nat), (21 : Nat)), ((0 : Nat), (9 : Nat), (15 : Nat), (15 : Nat))]) ∈ gT := List.mem_filter.mpr ⟨mt2 _ (List.mem_of_getElem? (i := 15) rfl), rfl⟩
theorem mw2_16 : (Jvm.Cond.methodLink "GongCyclesLaw" (23 : Nat) ({ cls := "GongCycles", name := "piece", desc := "(I)I" } : Jvm.MethodName)) ∈ gT := List.mem_filter.mpr ⟨mt2 _ (List.mem_of_getElem? (i := 16) rfl), rfl⟩
theorem mw2_17 : (Jvm.Cond.instanceMethod ({ cls := "GongCycles", name := "piece", desc := "(I)I" } : Jvm.MethodName)) ∈ gT := List.mem_filter.mpr ⟨mt2 _ (List.mem_of_getElem? (i := 17) rfl), rfl⟩
theorem mw2_18 : (Jvm.Cond.selects "GongCycles" ({ cls := "GongCycles", name := "piece", desc := "(I)I" } : Jvm.MethodName) ({ cls := "GongCycles", name := "piece", desc := "(I)I" } : Jvm.MethodName)) ∈ gT := List.mem_filter.mpr ⟨mt2 _ (List.mem_of_getElem? (i := 18) rfl), rfl⟩
theorem mw2_19 : (Jvm.Cond.code ({ cls := "GongCycles", name := "piece", desc := "(I)I" } : Jvm.MethodName) prog_1_method_4_code (3 : Nat) (Option.some Jvm.ClassFile.FieldType.int)) ∈ gT := List.mem_filter.mpr ⟨mt2 _ (List.mem_of_getElem? (i := 19) rfl), rfl⟩
theorem mw2_21 : (Jvm.Cond.instantiable "GongCycles$Piece" (2 : Nat)) ∈ gT := List.mem_filter.mpr ⟨mt2 _ (List.mem_of_getElem? (i := 21) rfl), rfl⟩
theorem mw2_22 : (Jvm.Cond.methodLink "GongCycles" (81 : Nat) ({ cls := "GongCycles$Piece", name := "<init>", desc := "(I)V" } : Jvm.MethodName)) ∈ gT := List.mem_filter.mpr ⟨mt2 _ (List.mem_of_getElem? (i := 22) rfl), rfl⟩
theorem mw2_23 : (Jvm.Cond.instanceMethod ({ cls := "GongCycles$Piece", name := "<init>", desc := "(I)V" } : Jvm.MethodName)) ∈ gT := List.mem_filter.mpr ⟨mt2 _ (List.mem_of_getElem? (i := 23) rfl), rfl⟩
theorem mw2_24 : (Jvm.Cond.code ({ cls := "GongCycles$Piece", name := "<init>", desc := "(I)V" } : Jvm.MethodName) prog_4_method_1_code (2 : Nat) (Option.none : Option Jvm.ClassFile.FieldType)) ∈ gT := List.mem_filter.mpr ⟨mt2 _ (List.mem_of_getElem? (i := 24) rfl), rfl⟩
theorem mw2_25 : (Jvm.Cond.methodLink "GongCycles$Piece" (1 : Nat) ({ cls := "java/lang/Object", name := "<init>", desc := "()V" } : Jvm.MethodName)) ∈ gT := List.mem_filter.mpr ⟨mt2 _ (List.mem_of_getElem? (i := 25) rfl), rfl⟩
theorem mw2_26 : (Jvm.Cond.classLink "GongCycles$Piece" (13 : Nat) "GongCycles$Melody") ∈ gT := List.mem_filter.mpr ⟨mt2 _ (List.mem_of_getElem? (i := 26) rfl), rfl⟩
theorem mw2_27 : (Jvm.Cond.instantiable "GongCycles$Melody" (1 : Nat)) ∈ gT := List.mem_filter.mpr ⟨mt2 _ (List.mem_of_getElem? (i := 27) rfl), rfl⟩
theorem mw2_28 : (Jvm.Cond.methodLink "GongCycles$Piece" (15 : Nat) ({ cls := "GongCycles$Melody", name := "<init>", desc := "(I)V" } : Jvm.MethodName)) ∈ gT := List.mem_filter.mpr ⟨mt2 _ (List.mem_of_getElem? (i := 28) rfl), rfl⟩
theorem mw2_29 : (Jvm.Cond.instanceMethod ({ cls := "GongCycles$Melody", name := "<init>", desc := "(I)V" } : Jvm.MethodName)) ∈ gT := List.mem_filter.mpr ⟨mt2 _ (List.mem_of_getElem? (i := 29) rfl), rfl⟩
theorem mw2_30 : (Jvm.Cond.code ({ cls := "GongCycles$Melody", name := "<init>", desc := "(I)V" } : Jvm.MethodName) prog_3_method_1_code (2 : Nat) (Option.none : Option Jvm.ClassFile.FieldType)) ∈ gT := List.mem_filter.mpr ⟨mt2 _ (List.mem_of_getElem? (i := 30) rfl), rfl⟩
theorem mw2_31 : (Jvm.Cond.methodLink "GongCycles$Melody" (1 : Nat) ({ cls := "java/lang/Object", name := "<init>", desc := "()V" } : Jvm.MethodName)) ∈ gT := List.mem_filter.mpr ⟨mt2 _ (List.mem_of_getElem? (i := 31) rfl), rfl⟩
theorem mw2_32 : (Jvm.Cond.methodLink "GongCycles$Melody" (7 : Nat) ({ cls := "java/lang/Math", name := "max", desc := "(II)I" } : Jvm.MethodName)) ∈ gT := List.mem_filter.mpr ⟨mt2 _ (List.mem_of_getElem? (i := 32) rfl), rfl⟩
theorem mw2_33 : (Jvm.Cond.static ({ cls := "java/lang/Math", name := "max", desc := "(II)I" } : Jvm.MethodName)) ∈ gT := List.mem_filter.mpr ⟨mt2 _ (List.mem_of_getElem? (i := 33) rfl), rfl⟩
theorem mw2_34 : (Jvm.Cond.code ({ cls := "java/lang/Math", name := "max", desc := "(II)I" } : Jvm.MethodName) prog_14_method_65_code (2 : Nat) (Option.some Jvm.ClassFile.FieldType.int)) ∈ gT := List.mem_filter.mpr ⟨mt2 _ (List.mem_of_getElem? (i := 34) rfl), rfl⟩
theorem mw2_35 : (Jvm.Cond.fieldLink "GongCycles$Melody" (13 : Nat) "GongCycles$Melody" "tones" "[I") ∈ gT := List.mem_filter.mpr ⟨mt2 _ (List.mem_of_getElem? (i := 35) rfl), rfl⟩
theorem mw2_36 : (Jvm.Cond.laysFinal "GongCycles$Melody" "GongCycles$Melody" "tones" "[I") ∈ gT := List.mem_filter.mpr ⟨mt2 _ (List.mem_of_getElem? (i := 36) rfl), rfl⟩
theorem mw2_39 : (Jvm.Cond.fieldLink "GongCycles$Piece" (18 : Nat) "GongCycles$Piece" "melody" "LGongCycles$Melody;") ∈ gT := List.mem_filter.mpr ⟨mt2 _ (List.mem_of_getElem? (i := 39) rfl), rfl⟩
theorem mw2_41 : (Jvm.Cond.fieldLink "GongCycles$Piece" (7 : Nat) "GongCycles$Piece" "forbiddenDays" "I") ∈ gT := List.mem_filter.mpr ⟨mt2 _ (List.mem_of_getElem? (i := 41) rfl), rfl⟩
theorem mw2_43 : (Jvm.Cond.laysFinal "GongCycles$Piece" "GongCycles$Piece" "melody" "LGongCycles$Melody;") ∈ gT := List.mem_filter.mpr ⟨mt2 _ (List.mem_of_getElem? (i := 43) rfl), rfl⟩
theorem mw2_45 : (Jvm.Cond.lays "GongCycles$Piece" "GongCycles$Piece" "forbiddenDays" "I") ∈ gT := List.mem_filter.mpr ⟨mt2 _ (List.mem_of_getElem? (i := 45) rfl), rfl⟩
theorem mw2_48 : (Jvm.Cond.methodLink "GongCyclesLaw" (114 : Nat) ({ cls := "GongCyclesLaw", name := "tone", desc := "(LGongCycles;III[J)I" } : Jvm.MethodName)) ∈ gT := List.mem_filter.mpr ⟨mt2 _ (List.mem_of_getElem? (i := 48) rfl), rfl⟩
theorem mw2_49 : (Jvm.Cond.static ({ cls := "GongCyclesLaw", name := "tone", desc := "(LGongCycles;III[J)I" } : Jvm.MethodName)) ∈ gT := List.mem_filter.mpr ⟨mt2 _ (List.mem_of_getElem? (i := 49) rfl), rfl⟩
theorem mw2_50 : (Jvm.Cond.codeWith ({ cls := "GongCyclesLaw", name := "tone", desc := "(LGongCycles;III[J)I" } : Jvm.MethodName) method_6_code (6 : Nat) (Option.some Jvm.ClassFile.FieldType.int) [((0 : Nat), (12 : Nat), (15 : Nat), (21 : Nat)), ((0 : Nat), (12 : Nat), (19 : Nat), (13 : Nat))]) ∈ gT := List.mem_filter.mpr ⟨mt2 _ (List.mem_of_getElem? (i := 50) rfl), rfl⟩
theorem mw2_51 : (Jvm.Cond.methodLink "GongCyclesLaw" (26 : Nat) ({ cls := "GongCycles", name := "tone", desc := "(III)I" } : Jvm.MethodName)) ∈ gT := List.mem_filter.mpr ⟨mt2 _ (List.mem_of_getElem? (i := 51) rfl), rfl⟩
theorem mw2_52 : (Jvm.Cond.instanceMethod ({ cls := "GongCycles", name := "tone", desc := "(III)I" } : Jvm.MethodName)) ∈ gT := List.mem_filter.mpr ⟨mt2 _ (List.mem_of_getElem? (i := 52) rfl), rfl⟩
theorem mw2_53 : (Jvm.Cond.selects "GongCycles" ({ cls := "GongCycles", name := "tone", desc := "(III)I" } : Jvm.MethodName) ({ cls := "GongCycles", name := "tone", desc := "(III)I" } : Jvm.MethodName)) ∈ gT := List.mem_filter.mpr ⟨mt2 _ (List.mem_of_getElem? (i := 53) rfl), rfl⟩
theorem mw2_54 : (Jvm.Cond.code ({ cls := "GongCycles", name := "tone", desc := "(III)I" } : Jvm.MethodName) prog_1_method_5_code (5 : Nat) (Option.some Jvm.ClassFile.FieldType.int)) ∈ gT := List.mem_filter.mpr ⟨mt2 _ (List.mem_of_getElem? (i := 54) rfl), rfl⟩
theorem mw2_55 : (Jvm.Cond.methodLink "GongCycles" (84 : Nat) ({ cls := "GongCycles", name := "pieceAt", desc := "(I)LGongCycles$Piece;" } : Jvm.MethodName)) ∈ gT := List.mem_filter.mpr ⟨mt2 _ (List.mem_of_getElem? (i := 55) rfl), rfl⟩
theorem mw2_57 : (Jvm.Cond.instanceMethod ({ cls := "GongCycles", name := "pieceAt", desc := "(I)LGongCycles$Piece;" } : Jvm.MethodName)) ∈ gT := List.mem_filter.mpr ⟨mt2 _ (List.mem_of_getElem? (i := 57) rfl), rfl⟩
theorem mw2_58 : (Jvm.Cond.code ({ cls := "GongCycles", name := "pieceAt", desc := "(I)LGongCycles$Piece;" } : Jvm.MethodName) prog_1_method_28_code (3 : Nat) (Option.some (Jvm.ClassFile.FieldType.object "GongCycles$Piece"))) ∈ gT := List.mem_filter.mpr ⟨mt2 _ (List.mem_of_getElem? (i := 58) rfl), rfl⟩
theorem mw2_60 : (Jvm.Cond.methodLink "GongCycles" (92 : Nat) ({ cls := "GongCycles", name := "refuseNoPlace", desc := "(LGongCycles$Melody;I)V" } : Jvm.MethodName)) ∈ gT := List.mem_filter.mpr ⟨mt2 _ (List.mem_of_getElem? (i := 60) rfl), rfl⟩
theorem mw2_61 : (Jvm.Cond.static ({ cls := "GongCycles", name := "refuseNoPlace", desc := "(LGongCycles$Melody;I)V" } : Jvm.MethodName)) ∈ gT := List.mem_filter.mpr ⟨mt2 _ (List.mem_of_getElem? (i := 61) rfl), rfl⟩
theorem mw2_62 : (Jvm.Cond.code ({ cls := "GongCycles", name := "refuseNoPlace", desc := "(LGongCycles$Melody;I)V" } : Jvm.MethodName) prog_1_method_33_code (2 : Nat) (Option.none : Option Jvm.ClassFile.FieldType)) ∈ gT := List.mem_filter.mpr ⟨mt2 _ (List.mem_of_getElem? (i := 62) rfl), rfl⟩
theorem mw2_63 : (Jvm.Cond.methodLink "GongCycles" (265 : Nat) ({ cls := "GongCycles$Melody", name := "hasPlace", desc := "(I)Z" } : Jvm.MethodName)) ∈ gT := List.mem_filter.mpr ⟨mt2 _ (List.mem_of_getElem? (i := 63) rfl), rfl⟩
theorem mw2_64 : (Jvm.Cond.instanceMethod ({ cls := "GongCycles$Melody", name := "hasPlace", desc := "(I)Z" } : Jvm.MethodName)) ∈ gT := List.mem_filter.mpr ⟨mt2 _ (List.mem_of_getElem? (i := 64) rfl), rfl⟩
theorem mw2_65 : (Jvm.Cond.selects "GongCycles$Melody" ({ cls := "GongCycles$Melody", name := "hasPlace", desc := "(I)Z" } : Jvm.MethodName) ({ cls := "GongCycles$Melody", name := "hasPlace", desc := "(I)Z" } : Jvm.MethodName)) ∈ gT := List.mem_filter.mpr ⟨mt2 _ (List.mem_of_getElem? (i := 65) rfl), rfl⟩
theorem mw2_66 : (Jvm.Cond.code ({ cls := "GongCycles$Melody", name := "hasPlace", desc := "(I)Z" } : Jvm.MethodName) prog_3_method_3_code (2 : Nat) (Option.some Jvm.ClassFile.FieldType.boolean)) ∈ gT := List.mem_filter.mpr ⟨mt2 _ (List.mem_of_getElem? (i := 66) rfl), rfl⟩
theorem mw2_67 : (Jvm.Cond.methodLink "GongCycles" (96 : Nat) ({ cls := "GongCycles", name := "refuseNoToneOrRest", desc := "(I)V" } : Jvm.MethodName)) ∈ gT := List.mem_filter.mpr ⟨mt2 _ (List.mem_of_getElem? (i := 67) rfl), rfl⟩
theorem mw2_68 : (Jvm.Cond.static ({ cls := "GongCycles", name := "refuseNoToneOrRest", desc := "(I)V" } : Jvm.MethodName)) ∈ gT := List.mem_filter.mpr ⟨mt2 _ (List.mem_of_getElem? (i := 68) rfl), rfl⟩
theorem mw2_69 : (Jvm.Cond.code ({ cls := "GongCycles", name := "refuseNoToneOrRest", desc := "(I)V" } : Jvm.MethodName) prog_1_method_36_code (1 : Nat) (Option.none : Option Jvm.ClassFile.FieldType)) ∈ gT := List.mem_filter.mpr ⟨mt2 _ (List.mem_of_getElem? (i := 69) rfl), rfl⟩
theorem mw2_71 : (Jvm.Cond.methodLink "GongCycles" (99 : Nat) ({ cls := "GongCycles$Melody", name := "put", desc := "(II)I" } : Jvm.MethodName)) ∈ gT := List.mem_filter.mpr ⟨mt2 _ (List.mem_of_getElem? (i := 71) rfl), rfl⟩
theorem mw2_72 : (Jvm.Cond.instanceMethod ({ cls := "GongCycles$Melody", name := "put", desc := "(II)I" } : Jvm.MethodName)) ∈ gT := List.mem_filter.mpr ⟨mt2 _ (List.mem_of_getElem? (i := 72) rfl), rfl⟩
theorem mw2_73 : (Jvm.Cond.selects "GongCycles$Melody" ({ cls := "GongCycles$Melody", name := "put", desc := "(II)I" } : Jvm.MethodName) ({ cls := "GongCycles$Melody", name := "put", desc := "(II)I" } : Jvm.MethodName)) ∈ gT := List.mem_filter.mpr ⟨mt2 _ (List.mem_of_getElem? (i := 73) rfl), rfl⟩
theorem mw2_74 : (Jvm.Cond.code ({ cls := "GongCycles$Melody", name := "put", desc := "(II)I" } : Jvm.MethodName) prog_3_method_5_code (4 : Nat) (Option.some Jvm.ClassFile.FieldType.int)) ∈ gT := List.mem_filter.mpr ⟨mt2 _ (List.mem_of_getElem? (i := 74) rfl), rfl⟩
theorem mw2_75 : (Jvm.Cond.methodLink "GongCycles$Melody" (23 : Nat) ({ cls := "GongCycles$Melody", name := "at", desc := "(I)I" } : Jvm.MethodName)) ∈ gT := List.mem_filter.mpr ⟨mt2 _ (List.mem_of_getElem? (i := 75) rfl), rfl⟩
theorem mw2_76 : (Jvm.Cond.instanceMethod ({ cls := "GongCycles$Melody", name := "at", desc := "(I)I" } : Jvm.MethodName)) ∈ gT := List.mem_filter.mpr ⟨mt2 _ (List.mem_of_getElem? (i := 76) rfl), rfl⟩
theorem mw2_77 : (Jvm.Cond.selects "GongCycles$Melody" ({ cls := "GongCycles$Melody", name := "at", desc := "(I)I" } : Jvm.MethodName) ({ cls := "GongCycles$Melody", name := "at", desc := "(I)I" } : Jvm.MethodName)) ∈ gT := List.mem_filter.mpr ⟨mt2 _ (List.mem_of_getElem? (i := 77) rfl), rfl⟩
theorem mw2_78 : (Jvm.Cond.code ({ cls := "GongCycles$Melody", name := "at", desc := "(I)I" } : Jvm.MethodName) prog_3_method_4_code (2 : Nat) (Option.some Jvm.ClassFile.FieldType.int)) ∈ gT := List.mem_filter.mpr ⟨mt2 _ (List.mem_of_getElem? (i := 78) rfl), rfl⟩
theorem mw2_79 : (Jvm.Cond.methodLink "GongCycles$Melody" (19 : Nat) ({ cls := "GongCycles$Melody", name := "hasPlace", desc := "(I)Z" } : Jvm.MethodName)) ∈ gT := List.mem_filter.mpr ⟨mt2 _ (List.mem_of_getElem? (i := 79) rfl), rfl⟩
theorem mw2_80 : (Jvm.Cond.methodLink "GongCyclesLaw" (118 : Nat) ({ cls := "GongCyclesLaw", name := "forbid", desc := "(LGongCycles;II[J)I" } : Jvm.MethodName)) ∈ gT := List.mem_filter.mpr ⟨mt2 _ (List.mem_of_getElem? (i := 80) rfl), rfl⟩
theorem mw2_81 : (Jvm.Cond.static ({ cls := "GongCyclesLaw", name := "forbid", desc := "(LGongCycles;II[J)I" } : Jvm.MethodName)) ∈ gT := List.mem_filter.mpr ⟨mt2 _ (List.mem_of_getElem? (i := 81) rfl), rfl⟩
theorem mw2_82 : (Jvm.Cond.codeWith ({ cls := "GongCyclesLaw", name := "forbid", desc := "(LGongCycles;II[J)I" } : Jvm.MethodName) method_7_code (5 : Nat) (Option.some Jvm.ClassFile.FieldType.int) [((0 : Nat), (10 : Nat), (13 : Nat), (21 : Nat)), ((0 : Nat), (10 : Nat), (17 : Nat), (13 : Nat))]) ∈ gT := List.mem_filter.mpr ⟨mt2 _ (List.mem_of_getElem? (i := 82) rfl), rfl⟩
theorem mw2_83 : (Jvm.Cond.methodLink "GongCyclesLaw" (30 : Nat) ({ cls := "GongCycles", name := "forbid", desc := "(II)I" } : Jvm.MethodName)) ∈ gT := List.mem_filter.mpr ⟨mt2 _ (List.mem_of_getElem? (i := 83) rfl), rfl⟩
theorem mw2_84 : (Jvm.Cond.instanceMethod ({ cls := "GongCycles", name := "forbid", desc := "(II)I" } : Jvm.MethodName)) ∈ gT := List.mem_filter.mpr ⟨mt2 _ (List.mem_of_getElem? (i := 84) rfl), rfl⟩
theorem mw2_85 : (Jvm.Cond.selects "GongCycles" ({ cls := "GongCycles", name := "forbid", desc := "(II)I" } : Jvm.MethodName) ({ cls := "GongCycles", name := "forbid", desc := "(II)I" } : Jvm.MethodName)) ∈ gT := List.mem_filter.mpr ⟨mt2 _ (List.mem_of_getElem? (i := 85) rfl), rfl⟩
theorem mw2_86 : (Jvm.Cond.code ({ cls := "GongCycles", name := "forbid", desc := "(II)I" } : Jvm.MethodName) prog_1_method_6_code (5 : Nat) (Option.some Jvm.ClassFile.FieldType.int)) ∈ gT := List.mem_filter.mpr ⟨mt2 _ (List.mem_of_getElem? (i := 86) rfl), rfl⟩
theorem mw2_88 : (Jvm.Cond.methodLink "GongCyclesLaw" (121 : Nat) ({ cls := "GongCyclesLaw", name := "sounds", desc := "(LGongCycles;II[J)I" } : Jvm.MethodName)) ∈ gT := List.mem_filter.mpr ⟨mt2 _ (List.mem_of_getElem? (i := 88) rfl), rfl⟩
theorem mw2_89 : (Jvm.Cond.static ({ cls := "GongCyclesLaw", name := "sounds", desc := "(LGongCycles;II[J)I" } : Jvm.MethodName)) ∈ gT := List.mem_filter.mpr ⟨mt2 _ (List.mem_of_getElem? (i := 89) rfl), rfl⟩
theorem mw2_90 : (Jvm.Cond.codeWith ({ cls := "GongCyclesLaw", name := "sounds", desc := "(LGongCycles;II[J)I" } : Jvm.MethodName) method_8_code (5 : Nat) (Option.some Jvm.ClassFile.FieldType.int) [((0 : Nat), (10 : Nat), (13 : Nat), (21 : Nat))]) ∈ gT := List.mem_filter.mpr ⟨mt2 _ (List.mem_of_getElem? (i := 90) rfl), rfl⟩
theorem mw2_91 : (Jvm.Cond.methodLink "GongCyclesLaw" (33 : Nat) ({ cls := "GongCycles", name := "sounds", desc := "(II)I" } : Jvm.MethodName)) ∈ gT := List.mem_filter.mpr ⟨mt2 _ (List.mem_of_getElem? (i := 91) rfl), rfl⟩
theorem mw2_92 : (Jvm.Cond.instanceMethod ({ cls := "GongCycles", name := "sounds", desc := "(II)I" } : Jvm.MethodName)) ∈ gT := List.mem_filter.mpr ⟨mt2 _ (List.mem_of_getElem? (i := 92) rfl), rfl⟩
theorem mw2_93 : (Jvm.Cond.selects "GongCycles" ({ cls := "GongCycles", name := "sounds", desc := "(II)I" } : Jvm.MethodName) ({ cls := "GongCycles", name := "sounds", desc := "(II)I" } : Jvm.MethodName)) ∈ gT := List.mem_filter.mpr ⟨mt2 _ (List.mem_of_getElem? (i := 93) rfl), rfl⟩
theorem mw2_94 : (Jvm.Cond.code ({ cls := "GongCycles", name := "sounds", desc := "(II)I" } : Jvm.MethodName) prog_1_method_7_code (4 : Nat) (Option.some Jvm.ClassFile.FieldType.int)) ∈ gT := List.mem_filter.mpr ⟨mt2 _ (List.mem_of_getElem? (i := 94) rfl), rfl⟩
theorem mw2_95 : (Jvm.Cond.methodLink "GongCycles" (110 : Nat) ({ cls := "GongCycles$Melody", name := "soundAt", desc := "(I)I" } : Jvm.MethodName)) ∈ gT := List.mem_filter.mpr ⟨mt2 _ (List.mem_of_getElem? (i := 95) rfl), rfl⟩
theorem mw2_96 : (Jvm.Cond.instanceMethod ({ cls := "GongCycles$Melody", name := "soundAt", desc := "(I)I" } : Jvm.MethodName)) ∈ gT := List.mem_filter.mpr ⟨mt2 _ (List.mem_of_getElem? (i := 96) rfl), rfl⟩
theorem mw2_97 : (Jvm.Cond.selects "GongCycles$Melody" ({ cls := "GongCycles$Melody", name := "soundAt", desc := "(I)I" } : Jvm.MethodName) ({ cls := "GongCycles$Melody", name := "soundAt", desc := "(I)I" } : Jvm.MethodName)) ∈ gT := List.mem_filter.mpr ⟨mt2 _ (List.mem_of_getElem? (i := 97) rfl), rfl⟩
theorem mw2_98 : (Jvm.Cond.code ({ cls := "GongCycles$Melody", name := "soundAt", desc := "(I)I" } : Jvm.MethodName) prog_3_method_6_code (4 : Nat) (Option.some Jvm.ClassFile.FieldType.int)) ∈ gT := List.mem_filter.mpr ⟨mt2 _ (List.mem_of_getElem? (i := 98) rfl), rfl⟩
theorem mw2_99 : (Jvm.Cond.methodLink "GongCyclesLaw" (124 : Nat) ({ cls := "GongCyclesLaw", name := "stroke", desc := "(LGongCycles;IIIII[J)I" } : Jvm.MethodName)) ∈ gT := List.mem_filter.mpr ⟨mt2 _ (List.mem_of_getElem? (i := 99) rfl), rfl⟩
theorem mw2_100 : (Jvm.Cond.static ({ cls := "GongCyclesLaw", name := "stroke", desc := "(LGongCycles;IIIII[J)I" } : Jvm.MethodName)) ∈ gT := List.mem_filter.mpr ⟨mt2 _ (List.mem_of_getElem? (i := 100) rfl), rfl⟩
theorem mw2_101 : (Jvm.Cond.codeWith ({ cls := "GongCyclesLaw", name := "stroke", desc := "(LGongCycles;IIIII[J)I" } : Jvm.MethodName) method_9_code (8 : Nat) (Option.some Jvm.ClassFile.FieldType.int) [((0 : Nat), (16 : Nat), (19 : Nat), (21 : Nat)), ((0 : Nat), (16 : Nat), (23 : Nat), (13 : Nat))]) ∈ gT := List.mem_filter.mpr ⟨mt2 _ (List.mem_of_getElem? (i := 101) rfl), rfl⟩
theorem mw2_102 : (Jvm.Cond.methodLink "GongCyclesLaw" (36 : Nat) ({ cls := "GongCycles", name := "stroke", desc := "(IIIII)I" } : Jvm.MethodName)) ∈ gT := List.mem_filter.mpr ⟨mt2 _ (List.mem_of_getElem? (i := 102) rfl), rfl⟩
theorem mw2_103 : (Jvm.Cond.instanceMethod ({ cls := "GongCycles", name := "stroke", desc := "(IIIII)I" } : Jvm.MethodName)) ∈ gT := List.mem_filter.mpr ⟨mt2 _ (List.mem_of_getElem? (i := 103) rfl), rfl⟩
theorem mw2_104 : (Jvm.Cond.selects "GongCycles" ({ cls := "GongCycles", name := "stroke", desc := "(IIIII)I" } : Jvm.MethodName) ({ cls := "GongCycles", name := "stroke", desc := "(IIIII)I" } : Jvm.MethodName)) ∈ gT := List.mem_filter.mpr ⟨mt2 _ (List.mem_of_getElem? (i := 104) rfl), rfl⟩
theorem mw2_105 : (Jvm.Cond.code ({ cls := "GongCycles", name := "stroke", desc := "(IIIII)I" } : Jvm.MethodName) prog_1_method_8_code (6 : Nat) (Option.some Jvm.ClassFile.FieldType.int)) ∈ gT := List.mem_filter.mpr ⟨mt2 _ (List.mem_of_getElem? (i := 105) rfl), rfl⟩
theorem mw2_106 : (Jvm.Cond.methodLink "GongCycles" (113 : Nat) ({ cls := "GongCycles", name := "toneOfStroke", desc := "(IIIIIZ)I" } : Jvm.MethodName)) ∈ gT := List.mem_filter.mpr ⟨mt2 _ (List.mem_of_getElem? (i := 106) rfl), rfl⟩
theorem mw2_108 : (Jvm.Cond.instanceMethod ({ cls := "GongCycles", name := "toneOfStroke", desc := "(IIIIIZ)I" } : Jvm.MethodName)) ∈ gT := List.mem_filter.mpr ⟨mt2 _ (List.mem_of_getElem? (i := 108) rfl), rfl⟩
theorem mw2_109 : (Jvm.Cond.code ({ cls := "GongCycles", name := "toneOfStroke", desc := "(IIIIIZ)I" } : Jvm.MethodName) prog_1_method_39_code (13 : Nat) (Option.some Jvm.ClassFile.FieldType.int)) ∈ gT := List.mem_filter.mpr ⟨mt2 _ (List.mem_of_getElem? (i := 109) rfl), rfl⟩
theorem mw2_110 : (Jvm.Cond.methodLink "GongCycles" (284 : Nat) ({ cls := "GongCycles", name := "refuseNoStroke", desc := "(LGongCycles$Melody;IIII)V" } : Jvm.MethodName)) ∈ gT := List.mem_filter.mpr ⟨mt2 _ (List.mem_of_getElem? (i := 110) rfl), rfl⟩
theorem mw2_111 : (Jvm.Cond.static ({ cls := "GongCycles", name := "refuseNoStroke", desc := "(LGongCycles$Melody;IIII)V" } : Jvm.MethodName)) ∈ gT := List.mem_filter.mpr ⟨mt2 _ (List.mem_of_getElem? (i := 111) rfl), rfl⟩
theorem mw2_112 : (Jvm.Cond.code ({ cls := "GongCycles", name := "refuseNoStroke", desc := "(LGongCycles$Melody;IIII)V" } : Jvm.MethodName) prog_1_method_37_code (5 : Nat) (Option.none : Option Jvm.ClassFile.FieldType)) ∈ gT := List.mem_filter.mpr ⟨mt2 _ (List.mem_of_getElem? (i := 112) rfl), rfl⟩
theorem mw2_113 : (Jvm.Cond.methodLink "GongCycles" (167 : Nat) ({ cls := "GongCycles", name := "refuseNoPart", desc := "(I)V" } : Jvm.MethodName)) ∈ gT := List.mem_filter.mpr ⟨mt2 _ (List.mem_of_getElem? (i := 113) rfl), rfl⟩
theorem mw2_114 : (Jvm.Cond.static ({ cls := "GongCycles", name := "refuseNoPart", desc := "(I)V" } : Jvm.MethodName)) ∈ gT := List.mem_filter.mpr ⟨mt2 _ (List.mem_of_getElem? (i := 114) rfl), rfl⟩
theorem mw2_115 : (Jvm.Cond.code ({ cls := "GongCycles", name := "refuseNoPart", desc := "(I)V" } : Jvm.MethodName) prog_1_method_34_code (1 : Nat) (Option.none : Option Jvm.ClassFile.FieldType)) ∈ gT := List.mem_filter.mpr ⟨mt2 _ (List.mem_of_getElem? (i := 115) rfl), rfl⟩
theorem mw2_118 : (Jvm.Cond.methodLink "GongCycles" (277 : Nat) ({ cls := "GongCycles", name := "densityOf", desc := "(II)I" } : Jvm.MethodName)) ∈ gT := List.mem_filter.mpr ⟨mt2 _ (List.mem_of_getElem? (i := 118) rfl), rfl⟩
theorem mw2_119 : (Jvm.Cond.static ({ cls := "GongCycles", name := "densityOf", desc := "(II)I" } : Jvm.MethodName)) ∈ gT := List.mem_filter.mpr ⟨mt2 _ (List.mem_of_getElem? (i := 119) rfl), rfl⟩
theorem mw2_120 : (Jvm.Cond.code ({ cls := "GongCycles", name := "densityOf", desc := "(II)I" } : Jvm.MethodName) prog_1_method_40_code (2 : Nat) (Option.some Jvm.ClassFile.FieldType.int)) ∈ gT := List.mem_filter.mpr ⟨mt2 _ (List.mem_of_getElem? (i := 120) rfl), rfl⟩
theorem mw2_122 : (Jvm.Cond.methodLink "GongCycles" (288 : Nat) ({ cls := "GongCycles", name := "strokeByStroke", desc := "(IIIII)I" } : Jvm.MethodName)) ∈ gT := List.mem_filter.mpr ⟨mt2 _ (List.mem_of_getElem? (i := 122) rfl), rfl⟩
theorem mw2_123 : (Jvm.Cond.static ({ cls := "GongCycles", name := "strokeByStroke", desc := "(IIIII)I" } : Jvm.MethodName)) ∈ gT := List.mem_filter.mpr ⟨mt2 _ (List.mem_of_getElem? (i := 123) rfl), rfl⟩
theorem mw2_124 : (Jvm.Cond.code ({ cls := "GongCycles", name := "strokeByStroke", desc := "(IIIII)I" } : Jvm.MethodName) prog_1_method_44_code (7 : Nat) (Option.some Jvm.ClassFile.FieldType.int)) ∈ gT := List.mem_filter.mpr ⟨mt2 _ (List.mem_of_getElem? (i := 124) rfl), rfl⟩
theorem mw2_125 : (Jvm.Cond.methodLink "GongCycles" (303 : Nat) ({ cls := "GongCycles", name := "strokeBehind", desc := "(IIIIII)I" } : Jvm.MethodName)) ∈ gT := List.mem_filter.mpr ⟨mt2 _ (List.mem_of_getElem? (i := 125) rfl), rfl⟩
theorem mw2_126 : (Jvm.Cond.static ({ cls := "GongCycles", name := "strokeBehind", desc := "(IIIIII)I" } : Jvm.MethodName)) ∈ gT := List.mem_filter.mpr ⟨mt2 _ (List.mem_of_getElem? (i := 126) rfl), rfl⟩
theorem mw2_127 : (Jvm.Cond.code ({ cls := "GongCycles", name := "strokeBehind", desc := "(IIIIII)I" } : Jvm.MethodName) prog_1_method_45_code (7 : Nat) (Option.some Jvm.ClassFile.FieldType.int)) ∈ gT := List.mem_filter.mpr ⟨mt2 _ (List.mem_of_getElem? (i := 127) rfl), rfl⟩
theorem mw2_128 : (Jvm.Cond.methodLink "GongCycles" (307 : Nat) ({ cls := "GongCycles", name := "walkBehind", desc := "(IIII)I" } : Jvm.MethodName)) ∈ gT := List.mem_filter.mpr ⟨mt2 _ (List.mem_of_getElem? (i := 128) rfl), rfl⟩
theorem mw2_129 : (Jvm.Cond.static ({ cls := "GongCycles", name := "walkBehind", desc := "(IIII)I" } : Jvm.MethodName)) ∈ gT := List.mem_filter.mpr ⟨mt2 _ (List.mem_of_getElem? (i := 129) rfl), rfl⟩
theorem mw2_130 : (Jvm.Cond.code ({ cls := "GongCycles", name := "walkBehind", desc := "(IIII)I" } : Jvm.MethodName) prog_1_method_46_code (4 : Nat) (Option.some Jvm.ClassFile.FieldType.int)) ∈ gT := List.mem_filter.mpr ⟨mt2 _ (List.mem_of_getElem? (i := 130) rfl), rfl⟩
theorem mw2_131 : (Jvm.Cond.methodLink "GongCycles" (292 : Nat) ({ cls := "GongCycles", name := "strokeAt", desc := "(IIIII)I" } : Jvm.MethodName)) ∈ gT := List.mem_filter.mpr ⟨mt2 _ (List.mem_of_getElem? (i := 131) rfl), rfl⟩
theorem mw2_132 : (Jvm.Cond.static ({ cls := "GongCycles", name := "strokeAt", desc := "(IIIII)I" } : Jvm.MethodName)) ∈ gT := List.mem_filter.mpr ⟨mt2 _ (List.mem_of_getElem? (i := 132) rfl), rfl⟩
theorem mw2_133 : (Jvm.Cond.code ({ cls := "GongCycles", name := "strokeAt", desc := "(IIIII)I" } : Jvm.MethodName) prog_1_method_41_code (5 : Nat) (Option.some Jvm.ClassFile.FieldType.int)) ∈ gT := List.mem_filter.mpr ⟨mt2 _ (List.mem_of_getElem? (i := 133) rfl), rfl⟩
theorem mw2_134 : (Jvm.Cond.methodLink "GongCycles" (295 : Nat) ({ cls := "GongCycles", name := "turnAt", desc := "(III)I" } : Jvm.MethodName)) ∈ gT := List.mem_filter.mpr ⟨mt2 _ (List.mem_of_getElem? (i := 134) rfl), rfl⟩
theorem mw2_135 : (Jvm.Cond.static ({ cls := "GongCycles", name := "turnAt", desc := "(III)I" } : Jvm.MethodName)) ∈ gT := List.mem_filter.mpr ⟨mt2 _ (List.mem_of_getElem? (i := 135) rfl), rfl⟩
theorem mw2_136 : (Jvm.Cond.code ({ cls := "GongCycles", name := "turnAt", desc := "(III)I" } : Jvm.MethodName) prog_1_method_42_code (3 : Nat) (Option.some Jvm.ClassFile.FieldType.int)) ∈ gT := List.mem_filter.mpr ⟨mt2 _ (List.mem_of_getElem? (i := 136) rfl), rfl⟩
theorem mw2_137 : (Jvm.Cond.methodLink "GongCycles" (299 : Nat) ({ cls := "GongCycles", name := "walkAt", desc := "(IIII)I" } : Jvm.MethodName)) ∈ gT := List.mem_filter.mpr ⟨mt2 _ (List.mem_of_getElem? (i := 137) rfl), rfl⟩
theorem mw2_138 : (Jvm.Cond.static ({ cls := "GongCycles", name := "walkAt", desc := "(IIII)I" } : Jvm.MethodName)) ∈ gT := List.mem_filter.mpr ⟨mt2 _ (List.mem_of_getElem? (i := 138) rfl), rfl⟩
theorem mw2_139 : (Jvm.Cond.code ({ cls := "GongCycles", name := "walkAt", desc := "(IIII)I" } : Jvm.MethodName) prog_1_method_43_code (6 : Nat) (Option.some Jvm.ClassFile.FieldType.int)) ∈ gT := List.mem_filter.mpr ⟨mt2 _ (List.mem_of_getElem? (i := 139) rfl), rfl⟩
theorem mw2_140 : (Jvm.Cond.methodLink "GongCycles" (209 : Nat) ({ cls := "java/lang/Math", name := "abs", desc := "(I)I" } : Jvm.MethodName)) ∈ gT := List.mem_filter.mpr ⟨mt2 _ (List.mem_of_getElem? (i := 140) rfl), rfl⟩
theorem mw2_141 : (Jvm.Cond.static ({ cls := "java/lang/Math", name := "abs", desc := "(I)I" } : Jvm.MethodName)) ∈ gT := List.mem_filter.mpr ⟨mt2 _ (List.mem_of_getElem? (i := 141) rfl), rfl⟩
theorem mw2_142 : (Jvm.Cond.code ({ cls := "java/lang/Math", name := "abs", desc := "(I)I" } : Jvm.MethodName) prog_14_method_59_code (1 : Nat) (Option.some Jvm.ClassFile.FieldType.int)) ∈ gT := List.mem_filter.mpr ⟨mt2 _ (List.mem_of_getElem? (i := 142) rfl), rfl⟩
theorem mw2_143 : (Jvm.Cond.methodLink "GongCyclesLaw" (128 : Nat) ({ cls := "GongCyclesLaw", name := "strokeAnew", desc := "(LGongCycles;IIIII[J)I" } : Jvm.MethodName)) ∈ gT := List.mem_filter.mpr ⟨mt2 _ (List.mem_of_getElem? (i := 143) rfl), rfl⟩
theorem mw2_144 : (Jvm.Cond.static ({ cls := "GongCyclesLaw", name := "strokeAnew", desc := "(LGongCycles;IIIII[J)I" } : Jvm.MethodName)) ∈ gT := List.mem_filter.mpr ⟨mt2 _ (List.mem_of_getElem? (i := 144) rfl), rfl⟩
theorem mw2_145 : (Jvm.Cond.codeWith ({ cls := "GongCyclesLaw", name := "strokeAnew", desc := "(LGongCycles;IIIII[J)I" } : Jvm.MethodName) method_10_code (8 : Nat) (Option.some Jvm.ClassFile.FieldType.int) [((0 : Nat), (16 : Nat), (19 : Nat), (21 : Nat)), ((0 : Nat), (16 : Nat), (23 : Nat), (13 : Nat))]) ∈ gT := List.mem_filter.mpr ⟨mt2 _ (List.mem_of_getElem? (i := 145) rfl), rfl⟩
theorem mw2_146 : (Jvm.Cond.methodLink "GongCyclesLaw" (40 : Nat) ({ cls := "GongCycles", name := "strokeAnew", desc := "(IIIII)I" } : Jvm.MethodName)) ∈ gT := List.mem_filter.mpr ⟨mt2 _ (List.mem_of_getElem? (i := 146) rfl), rfl⟩
theorem mw2_147 : (Jvm.Cond.instanceMethod ({ cls := "GongCycles", name := "strokeAnew", desc := "(IIIII)I" } : Jvm.MethodName)) ∈ gT := List.mem_filter.mpr ⟨mt2 _ (List.mem_of_getElem? (i := 147) rfl), rfl⟩
theorem mw2_148 : (Jvm.Cond.selects "GongCycles" ({ cls := "GongCycles", name := "strokeAnew", desc := "(IIIII)I" } : Jvm.MethodName) ({ cls := "GongCycles", name := "strokeAnew", desc := "(IIIII)I" } : Jvm.MethodName)) ∈ gT := List.mem_filter.mpr ⟨mt2 _ (List.mem_of_getElem? (i := 148) rfl), rfl⟩
theorem mw2_149 : (Jvm.Cond.code ({ cls := "GongCycles", name := "strokeAnew", desc := "(IIIII)I" } : Jvm.MethodName) prog_1_method_9_code (6 : Nat) (Option.some Jvm.ClassFile.FieldType.int)) ∈ gT := List.mem_filter.mpr ⟨mt2 _ (List.mem_of_getElem? (i := 149) rfl), rfl⟩
theorem mw2_150 : (Jvm.Cond.methodLink "GongCyclesLaw" (131 : Nat) ({ cls := "GongCyclesLaw", name := "begin", desc := "(LGongCycles;I[J)I" } : Jvm.MethodName)) ∈ gT := List.mem_filter.mpr ⟨mt2 _ (List.mem_of_getElem? (i := 150) rfl), rfl⟩
theorem mw2_151 : (Jvm.Cond.static ({ cls := "GongCyclesLaw", name := "begin", desc := "(LGongCycles;I[J)I" } : Jvm.MethodName)) ∈ gT := List.mem_filter.mpr ⟨mt2 _ (List.mem_of_getElem? (i := 151) rfl), rfl⟩
theorem mw2_152 : (Jvm.Cond.codeWith ({ cls := "GongCyclesLaw", name := "begin", desc := "(LGongCycles;I[J)I" } : Jvm.MethodName) method_11_code (4 : Nat) (Option.some Jvm.ClassFile.FieldType.int) [((0 : Nat), (9 : Nat), (12 : Nat), (21 : Nat)), ((0 : Nat), (9 : Nat), (15 : Nat), (15 : Nat))]) ∈ gT := List.mem_filter.mpr ⟨mt2 _ (List.mem_of_getElem? (i := 152) rfl), rfl⟩
theorem mw2_153 : (Jvm.Cond.methodLink "GongCyclesLaw" (43 : Nat) ({ cls := "GongCycles", name := "begin", desc := "(I)I" } : Jvm.MethodName)) ∈ gT := List.mem_filter.mpr ⟨mt2 _ (List.mem_of_getElem? (i := 153) rfl), rfl⟩
theorem mw2_154 : (Jvm.Cond.instanceMethod ({ cls := "GongCycles", name := "begin", desc := "(I)I" } : Jvm.MethodName)) ∈ gT := List.mem_filter.mpr ⟨mt2 _ (List.mem_of_getElem? (i := 154) rfl), rfl⟩
theorem mw2_155 : (Jvm.Cond.selects "GongCycles" ({ cls := "GongCycles", name := "begin", desc := "(I)I" } : Jvm.MethodName) ({ cls := "GongCycles", name := "begin", desc := "(I)I" } : Jvm.MethodName)) ∈ gT := List.mem_filter.mpr ⟨mt2 _ (List.mem_of_getElem? (i := 155) rfl), rfl⟩
theorem mw2_156 : (Jvm.Cond.code ({ cls := "GongCycles", name := "begin", desc := "(I)I" } : Jvm.MethodName) prog_1_method_10_code (3 : Nat) (Option.some Jvm.ClassFile.FieldType.int)) ∈ gT := List.mem_filter.mpr ⟨mt2 _ (List.mem_of_getElem? (i := 156) rfl), rfl⟩
theorem mw2_159 : (Jvm.Cond.methodLink "GongCycles" (125 : Nat) ({ cls := "GongCycles$Melody", name := "length", desc := "()I" } : Jvm.MethodName)) ∈ gT := List.mem_filter.mpr ⟨mt2 _ (List.mem_of_getElem? (i := 159) rfl), rfl⟩
theorem mw2_160 : (Jvm.Cond.instanceMethod ({ cls := "GongCycles$Melody", name := "length", desc := "()I" } : Jvm.MethodName)) ∈ gT := List.mem_filter.mpr ⟨mt2 _ (List.mem_of_getElem? (i := 160) rfl), rfl⟩
theorem mw2_161 : (Jvm.Cond.selects "GongCycles$Melody" ({ cls := "GongCycles$Melody", name := "length", desc := "()I" } : Jvm.MethodName) ({ cls := "GongCycles$Melody", name := "length", desc := "()I" } : Jvm.MethodName)) ∈ gT := List.mem_filter.mpr ⟨mt2 _ (List.mem_of_getElem? (i := 161) rfl), rfl⟩
theorem mw2_162 : (Jvm.Cond.code ({ cls := "GongCycles$Melody", name := "length", desc := "()I" } : Jvm.MethodName) prog_3_method_2_code (1 : Nat) (Option.some Jvm.ClassFile.FieldType.int)) ∈ gT := List.mem_filter.mpr ⟨mt2 _ (List.mem_of_getElem? (i := 162) rfl), rfl⟩
theorem mw2_163 : (Jvm.Cond.methodLink "GongCycles" (129 : Nat) ({ cls := "GongCycles$Playing", name := "startPiece", desc := "(II)V" } : Jvm.MethodName)) ∈ gT := List.mem_filter.mpr ⟨mt2 _ (List.mem_of_getElem? (i := 163) rfl), rfl⟩
theorem mw2_164 : (Jvm.Cond.instanceMethod ({ cls := "GongCycles$Playing", name := "startPiece", desc := "(II)V" } : Jvm.MethodName)) ∈ gT := List.mem_filter.mpr ⟨mt2 _ (List.mem_of_getElem? (i := 164) rfl), rfl⟩
theorem mw2_165 : (Jvm.Cond.selects "GongCycles$Playing" ({ cls := "GongCycles$Playing", name := "startPiece", desc := "(II)V" } : Jvm.MethodName) ({ cls := "GongCycles$Playing", name := "startPiece", desc := "(II)V" } : Jvm.MethodName)) ∈ gT := List.mem_filter.mpr ⟨mt2 _ (List.mem_of_getElem? (i := 165) rfl), rfl⟩
theorem mw2_166 : (Jvm.Cond.code ({ cls := "GongCycles$Playing", name := "startPiece", desc := "(II)V" } : Jvm.MethodName) prog_6_method_2_code (3 : Nat) (Option.none : Option Jvm.ClassFile.FieldType)) ∈ gT := List.mem_filter.mpr ⟨mt2 _ (List.mem_of_getElem? (i := 166) rfl), rfl⟩
theorem mw2_167 : (Jvm.Cond.methodLink "GongCyclesLaw" (134 : Nat) ({ cls := "GongCyclesLaw", name := "drum", desc := "(LGongCycles;I[J)I" } : Jvm.MethodName)) ∈ gT := List.mem_filter.mpr ⟨mt2 _ (List.mem_of_getElem? (i := 167) rfl), rfl⟩
theorem mw2_168 : (Jvm.Cond.static ({ cls := "GongCyclesLaw", name := "drum", desc := "(LGongCycles;I[J)I" } : Jvm.MethodName)) ∈ gT := List.mem_filter.mpr ⟨mt2 _ (List.mem_of_getElem? (i := 168) rfl), rfl⟩
theorem mw2_169 : (Jvm.Cond.codeWith ({ cls := "GongCyclesLaw", name := "drum", desc := "(LGongCycles;I[J)I" } : Jvm.MethodName) method_12_code (4 : Nat) (Option.some Jvm.ClassFile.FieldType.int) [((0 : Nat), (9 : Nat), (12 : Nat), (13 : Nat)), ((0 : Nat), (9 : Nat), (15 : Nat), (15 : Nat))]) ∈ gT := List.mem_filter.mpr ⟨mt2 _ (List.mem_of_getElem? (i := 169) rfl), rfl⟩
theorem mw2_170 : (Jvm.Cond.methodLink "GongCyclesLaw" (46 : Nat) ({ cls := "GongCycles", name := "drum", desc := "(I)I" } : Jvm.MethodName)) ∈ gT := List.mem_filter.mpr ⟨mt2 _ (List.mem_of_getElem? (i := 170) rfl), rfl⟩
theorem mw2_171 : (Jvm.Cond.instanceMethod ({ cls := "GongCycles", name := "drum", desc := "(I)I" } : Jvm.MethodName)) ∈ gT := List.mem_filter.mpr ⟨mt2 _ (List.mem_of_getElem? (i := 171) rfl), rfl⟩
theorem mw2_172 : (Jvm.Cond.selects "GongCycles" ({ cls := "GongCycles", name := "drum", desc := "(I)I" } : Jvm.MethodName) ({ cls := "GongCycles", name := "drum", desc := "(I)I" } : Jvm.MethodName)) ∈ gT := List.mem_filter.mpr ⟨mt2 _ (List.mem_of_getElem? (i := 172) rfl), rfl⟩
theorem mw2_173 : (Jvm.Cond.code ({ cls := "GongCycles", name := "drum", desc := "(I)I" } : Jvm.MethodName) prog_1_method_11_code (2 : Nat) (Option.some Jvm.ClassFile.FieldType.int)) ∈ gT := List.mem_filter.mpr ⟨mt2 _ (List.mem_of_getElem? (i := 173) rfl), rfl⟩
theorem mw2_175 : (Jvm.Cond.methodLink "GongCycles" (135 : Nat) ({ cls := "GongCycles", name := "refuseSilence", desc := "()V" } : Jvm.MethodName)) ∈ gT := List.mem_filter.mpr ⟨mt2 _ (List.mem_of_getElem? (i := 175) rfl), rfl⟩
theorem mw2_177 : (Jvm.Cond.instanceMethod ({ cls := "GongCycles", name := "refuseSilence", desc := "()V" } : Jvm.MethodName)) ∈ gT := List.mem_filter.mpr ⟨mt2 _ (List.mem_of_getElem? (i := 177) rfl), rfl⟩
theorem mw2_178 : (Jvm.Cond.code ({ cls := "GongCycles", name := "refuseSilence", desc := "()V" } : Jvm.MethodName) prog_1_method_38_code (1 : Nat) (Option.none : Option Jvm.ClassFile.FieldType)) ∈ gT := List.mem_filter.mpr ⟨mt2 _ (List.mem_of_getElem? (i := 178) rfl), rfl⟩
theorem mw2_180 : (Jvm.Cond.methodLink "GongCycles" (138 : Nat) ({ cls := "GongCycles$Playing", name := "hearDrum", desc := "(I)V" } : Jvm.MethodName)) ∈ gT := List.mem_filter.mpr ⟨mt2 _ (List.mem_of_getElem? (i := 180) rfl), rfl⟩
theorem mw2_181 : (Jvm.Cond.instanceMethod ({ cls := "GongCycles$Playing", name := "hearDrum", desc := "(I)V" } : Jvm.MethodName)) ∈ gT := List.mem_filter.mpr ⟨mt2 _ (List.mem_of_getElem? (i := 181) rfl), rfl⟩
theorem mw2_182 : (Jvm.Cond.selects "GongCycles$Playing" ({ cls := "GongCycles$Playing", name := "hearDrum", desc := "(I)V" } : Jvm.MethodName) ({ cls := "GongCycles$Playing", name := "hearDrum", desc := "(I)V" } : Jvm.MethodName)) ∈ gT := List.mem_filter.mpr ⟨mt2 _ (List.mem_of_getElem? (i := 182) rfl), rfl⟩
theorem mw2_183 : (Jvm.Cond.code ({ cls := "GongCycles$Playing", name := "hearDrum", desc := "(I)V" } : Jvm.MethodName) prog_6_method_3_code (2 : Nat) (Option.none : Option Jvm.ClassFile.FieldType)) ∈ gT := List.mem_filter.mpr ⟨mt2 _ (List.mem_of_getElem? (i := 183) rfl), rfl⟩
theorem mw2_184 : (Jvm.Cond.methodLink "GongCycles$Playing" (48 : Nat) ({ cls := "GongCycles$Playing", name := "hearEnd", desc := "()V" } : Jvm.MethodName)) ∈ gT := List.mem_filter.mpr ⟨mt2 _ (List.mem_of_getElem? (i := 184) rfl), rfl⟩
theorem mw2_186 : (Jvm.Cond.instanceMethod ({ cls := "GongCycles$Playing", name := "hearEnd", desc := "()V" } : Jvm.MethodName)) ∈ gT := List.mem_filter.mpr ⟨mt2 _ (List.mem_of_getElem? (i := 186) rfl), rfl⟩
theorem mw2_187 : (Jvm.Cond.code ({ cls := "GongCycles$Playing", name := "hearEnd", desc := "()V" } : Jvm.MethodName) prog_6_method_4_code (1 : Nat) (Option.none : Option Jvm.ClassFile.FieldType)) ∈ gT := List.mem_filter.mpr ⟨mt2 _ (List.mem_of_getElem? (i := 187) rfl), rfl⟩
theorem mw2_188 : (Jvm.Cond.methodLink "GongCyclesLaw" (137 : Nat) ({ cls := "GongCyclesLaw", name := "beats", desc := "(LGongCycles;I[J)I" } : Jvm.MethodName)) ∈ gT := List.mem_filter.mpr ⟨mt2 _ (List.mem_of_getElem? (i := 188) rfl), rfl⟩
theorem mw2_189 : (Jvm.Cond.static ({ cls := "GongCyclesLaw", name := "beats", desc := "(LGongCycles;I[J)I" } : Jvm.MethodName)) ∈ gT := List.mem_filter.mpr ⟨mt2 _ (List.mem_of_getElem? (i := 189) rfl), rfl⟩
theorem mw2_190 : (Jvm.Cond.codeWith ({ cls := "GongCyclesLaw", name := "beats", desc := "(LGongCycles;I[J)I" } : Jvm.MethodName) method_13_code (4 : Nat) (Option.some Jvm.ClassFile.FieldType.int) [((0 : Nat), (9 : Nat), (12 : Nat), (13 : Nat)), ((0 : Nat), (9 : Nat), (15 : Nat), (15 : Nat))]) ∈ gT := List.mem_filter.mpr ⟨mt2 _ (List.mem_of_getElem? (i := 190) rfl), rfl⟩
theorem mw2_191 : (Jvm.Cond.methodLink "GongCyclesLaw" (49 : Nat) ({ cls := "GongCycles", name := "beats", desc := "(I)I" } : Jvm.MethodName)) ∈ gT := List.mem_filter.mpr ⟨mt2 _ (List.mem_of_getElem? (i := 191) rfl), rfl⟩
theorem mw2_192 : (Jvm.Cond.instanceMethod ({ cls := "GongCycles", name := "beats", desc := "(I)I" } : Jvm.MethodName)) ∈ gT := List.mem_filter.mpr ⟨mt2 _ (List.mem_of_getElem? (i := 192) rfl), rfl⟩
theorem mw2_193 : (Jvm.Cond.selects "GongCycles" ({ cls := "GongCycles", name := "beats", desc := "(I)I" } : Jvm.MethodName) ({ cls := "GongCycles", name := "beats", desc := "(I)I" } : Jvm.MethodName)) ∈ gT := List.mem_filter.mpr ⟨mt2 _ (List.mem_of_getElem? (i := 193) rfl), rfl⟩
theorem mw2_194 : (Jvm.Cond.code ({ cls := "GongCycles", name := "beats", desc := "(I)I" } : Jvm.MethodName) prog_1_method_12_code (3 : Nat) (Option.some Jvm.ClassFile.FieldType.int)) ∈ gT := List.mem_filter.mpr ⟨mt2 _ (List.mem_of_getElem? (i := 194) rfl), rfl⟩
theorem mw2_196 : (Jvm.Cond.methodLink "GongCycles" (146 : Nat) ({ cls := "GongCycles$Playing", name := "playBeat", desc := "()V" } : Jvm.MethodName)) ∈ gT := List.mem_filter.mpr ⟨mt2 _ (List.mem_of_getElem? (i := 196) rfl), rfl⟩
theorem mw2_197 : (Jvm.Cond.instanceMethod ({ cls := "GongCycles$Playing", name := "playBeat", desc := "()V" } : Jvm.MethodName)) ∈ gT := List.mem_filter.mpr ⟨mt2 _ (List.mem_of_getElem? (i := 197) rfl), rfl⟩
theorem mw2_198 : (Jvm.Cond.selects "GongCycles$Playing" ({ cls := "GongCycles$Playing", name := "playBeat", desc := "()V" } : Jvm.MethodName) ({ cls := "GongCycles$Playing", name := "playBeat", desc := "()V" } : Jvm.MethodName)) ∈ gT := List.mem_filter.mpr ⟨mt2 _ (List.mem_of_getElem? (i := 198) rfl), rfl⟩
theorem mw2_199 : (Jvm.Cond.code ({ cls := "GongCycles$Playing", name := "playBeat", desc := "()V" } : Jvm.MethodName) prog_6_method_5_code (2 : Nat) (Option.none : Option Jvm.ClassFile.FieldType)) ∈ gT := List.mem_filter.mpr ⟨mt2 _ (List.mem_of_getElem? (i := 199) rfl), rfl⟩
theorem mw2_201 : (Jvm.Cond.methodLink "GongCycles$Playing" (55 : Nat) ({ cls := "GongCycles$Playing", name := "changeBeatLength", desc := "()V" } : Jvm.MethodName)) ∈ gT := List.mem_filter.mpr ⟨mt2 _ (List.mem_of_getElem? (i := 201) rfl), rfl⟩
theorem mw2_203 : (Jvm.Cond.instanceMethod ({ cls := "GongCycles$Playing", name := "changeBeatLength", desc := "()V" } : Jvm.MethodName)) ∈ gT := List.mem_filter.mpr ⟨mt2 _ (List.mem_of_getElem? (i := 203) rfl), rfl⟩
theorem mw2_204 : (Jvm.Cond.code ({ cls := "GongCycles$Playing", name := "changeBeatLength", desc := "()V" } : Jvm.MethodName) prog_6_method_6_code (1 : Nat) (Option.none : Option Jvm.ClassFile.FieldType)) ∈ gT := List.mem_filter.mpr ⟨mt2 _ (List.mem_of_getElem? (i := 204) rfl), rfl⟩
theorem mw2_205 : (Jvm.Cond.methodLink "GongCycles$Playing" (61 : Nat) ({ cls := "java/lang/Math", name := "min", desc := "(II)I" } : Jvm.MethodName)) ∈ gT := List.mem_filter.mpr ⟨mt2 _ (List.mem_of_getElem? (i := 205) rfl), rfl⟩
theorem mw2_206 : (Jvm.Cond.static ({ cls := "java/lang/Math", name := "min", desc := "(II)I" } : Jvm.MethodName)) ∈ gT := List.mem_filter.mpr ⟨mt2 _ (List.mem_of_getElem? (i := 206) rfl), rfl⟩
theorem mw2_207 : (Jvm.Cond.code ({ cls := "java/lang/Math", name := "min", desc := "(II)I" } : Jvm.MethodName) prog_14_method_69_code (2 : Nat) (Option.some Jvm.ClassFile.FieldType.int)) ∈ gT := List.mem_filter.mpr ⟨mt2 _ (List.mem_of_getElem? (i := 207) rfl), rfl⟩
theorem mw2_208 : (Jvm.Cond.methodLink "GongCycles$Playing" (66 : Nat) ({ cls := "java/lang/Math", name := "max", desc := "(II)I" } : Jvm.MethodName)) ∈ gT := List.mem_filter.mpr ⟨mt2 _ (List.mem_of_getElem? (i := 208) rfl), rfl⟩
theorem mw2_209 : (Jvm.Cond.methodLink "GongCycles$Playing" (58 : Nat) ({ cls := "GongCycles$Playing", name := "playGong", desc := "()V" } : Jvm.MethodName)) ∈ gT := List.mem_filter.mpr ⟨mt2 _ (List.mem_of_getElem? (i := 209) rfl), rfl⟩
theorem mw2_211 : (Jvm.Cond.instanceMethod ({ cls := "GongCycles$Playing", name := "playGong", desc := "()V" } : Jvm.MethodName)) ∈ gT := List.mem_filter.mpr ⟨mt2 _ (List.mem_of_getElem? (i := 211) rfl), rfl⟩
theorem mw2_212 : (Jvm.Cond.code ({ cls := "GongCycles$Playing", name := "playGong", desc := "()V" } : Jvm.MethodName) prog_6_method_7_code (1 : Nat) (Option.none : Option Jvm.ClassFile.FieldType)) ∈ gT := List.mem_filter.mpr ⟨mt2 _ (List.mem_of_getElem? (i := 212) rfl), rfl⟩
theorem mw2_213 : (Jvm.Cond.methodLink "GongCycles$Playing" (69 : Nat) ({ cls := "GongCycles$Playing", name := "levelOf", desc := "(I)I" } : Jvm.MethodName)) ∈ gT := List.mem_filter.mpr ⟨mt2 _ (List.mem_of_getElem? (i := 213) rfl), rfl⟩
theorem mw2_214 : (Jvm.Cond.static ({ cls := "GongCycles$Playing", name := "levelOf", desc := "(I)I" } : Jvm.MethodName)) ∈ gT := List.mem_filter.mpr ⟨mt2 _ (List.mem_of_getElem? (i := 214) rfl), rfl⟩
theorem mw2_215 : (Jvm.Cond.code ({ cls := "GongCycles$Playing", name := "levelOf", desc := "(I)I" } : Jvm.MethodName) prog_6_method_8_code (1 : Nat) (Option.some Jvm.ClassFile.FieldType.int)) ∈ gT := List.mem_filter.mpr ⟨mt2 _ (List.mem_of_getElem? (i := 215) rfl), rfl⟩
theorem mw2_216 : (Jvm.Cond.methodLink "GongCyclesLaw" (140 : Nat) ({ cls := "GongCyclesLaw", name := "now", desc := "(LGongCycles;I[J)I" } : Jvm.MethodName)) ∈ gT := List.mem_filter.mpr ⟨mt2 _ (List.mem_of_getElem? (i := 216) rfl), rfl⟩
theorem mw2_217 : (Jvm.Cond.static ({ cls := "GongCyclesLaw", name := "now", desc := "(LGongCycles;I[J)I" } : Jvm.MethodName)) ∈ gT := List.mem_filter.mpr ⟨mt2 _ (List.mem_of_getElem? (i := 217) rfl), rfl⟩
theorem mw2_218 : (Jvm.Cond.codeWith ({ cls := "GongCyclesLaw", name := "now", desc := "(LGongCycles;I[J)I" } : Jvm.MethodName) method_14_code (4 : Nat) (Option.some Jvm.ClassFile.FieldType.int) [((0 : Nat), (9 : Nat), (12 : Nat), (13 : Nat))]) ∈ gT := List.mem_filter.mpr ⟨mt2 _ (List.mem_of_getElem? (i := 218) rfl), rfl⟩
theorem mw2_219 : (Jvm.Cond.methodLink "GongCyclesLaw" (52 : Nat) ({ cls := "GongCycles", name := "now", desc := "(I)I" } : Jvm.MethodName)) ∈ gT := List.mem_filter.mpr ⟨mt2 _ (List.mem_of_getElem? (i := 219) rfl), rfl⟩
theorem mw2_220 : (Jvm.Cond.instanceMethod ({ cls := "GongCycles", name := "now", desc := "(I)I" } : Jvm.MethodName)) ∈ gT := List.mem_filter.mpr ⟨mt2 _ (List.mem_of_getElem? (i := 220) rfl), rfl⟩
theorem mw2_221 : (Jvm.Cond.selects "GongCycles" ({ cls := "GongCycles", name := "now", desc := "(I)I" } : Jvm.MethodName) ({ cls := "GongCycles", name := "now", desc := "(I)I" } : Jvm.MethodName)) ∈ gT := List.mem_filter.mpr ⟨mt2 _ (List.mem_of_getElem? (i := 221) rfl), rfl⟩
theorem mw2_222 : (Jvm.Cond.code ({ cls := "GongCycles", name := "now", desc := "(I)I" } : Jvm.MethodName) prog_1_method_13_code (2 : Nat) (Option.some Jvm.ClassFile.FieldType.int)) ∈ gT := List.mem_filter.mpr ⟨mt2 _ (List.mem_of_getElem? (i := 222) rfl), rfl⟩
theorem mw2_224 : (Jvm.Cond.methodLink "GongCyclesLaw" (148 : Nat) ({ cls := "GongCyclesLaw", name := "strokes", desc := "(LGongCycles;I[J)I" } : Jvm.MethodName)) ∈ gT := List.mem_filter.mpr ⟨mt2 _ (List.mem_of_getElem? (i := 224) rfl), rfl⟩
theorem mw2_225 : (Jvm.Cond.static ({ cls := "GongCyclesLaw", name := "strokes", desc := "(LGongCycles;I[J)I" } : Jvm.MethodName)) ∈ gT := List.mem_filter.mpr ⟨mt2 _ (List.mem_of_getElem? (i := 225) rfl), rfl⟩
theorem mw2_226 : (Jvm.Cond.codeWith ({ cls := "GongCyclesLaw", name := "strokes", desc := "(LGongCycles;I[J)I" } : Jvm.MethodName) method_15_code (4 : Nat) (Option.some Jvm.ClassFile.FieldType.int) [((0 : Nat), (8 : Nat), (11 : Nat), (21 : Nat))]) ∈ gT := List.mem_filter.mpr ⟨mt2 _ (List.mem_of_getElem? (i := 226) rfl), rfl⟩
theorem mw2_227 : (Jvm.Cond.methodLink "GongCyclesLaw" (55 : Nat) ({ cls := "GongCycles", name := "strokes", desc := "(I)J" } : Jvm.MethodName)) ∈ gT := List.mem_filter.mpr ⟨mt2 _ (List.mem_of_getElem? (i := 227) rfl), rfl⟩
theorem mw2_228 : (Jvm.Cond.instanceMethod ({ cls := "GongCycles", name := "strokes", desc := "(I)J" } : Jvm.MethodName)) ∈ gT := List.mem_filter.mpr ⟨mt2 _ (List.mem_of_getElem? (i := 228) rfl), rfl⟩
theorem mw2_229 : (Jvm.Cond.selects "GongCycles" ({ cls := "GongCycles", name := "strokes", desc := "(I)J" } : Jvm.MethodName) ({ cls := "GongCycles", name := "strokes", desc := "(I)J" } : Jvm.MethodName)) ∈ gT := List.mem_filter.mpr ⟨mt2 _ (List.mem_of_getElem? (i := 229) rfl), rfl⟩
theorem mw2_230 : (Jvm.Cond.code ({ cls := "GongCycles", name := "strokes", desc := "(I)J" } : Jvm.MethodName) prog_1_method_15_code (2 : Nat) (Option.some Jvm.ClassFile.FieldType.long)) ∈ gT := List.mem_filter.mpr ⟨mt2 _ (List.mem_of_getElem? (i := 230) rfl), rfl⟩
theorem mw2_231 : (Jvm.Cond.methodLink "GongCycles" (170 : Nat) ({ cls := "GongCycles$Playing", name := "strokesOf", desc := "(I)J" } : Jvm.MethodName)) ∈ gT := List.mem_filter.mpr ⟨mt2 _ (List.mem_of_getElem? (i := 231) rfl), rfl⟩
theorem mw2_232 : (Jvm.Cond.instanceMethod ({ cls := "GongCycles$Playing", name := "strokesOf", desc := "(I)J" } : Jvm.MethodName)) ∈ gT := List.mem_filter.mpr ⟨mt2 _ (List.mem_of_getElem? (i := 232) rfl), rfl⟩
theorem mw2_233 : (Jvm.Cond.selects "GongCycles$Playing" ({ cls := "GongCycles$Playing", name := "strokesOf", desc := "(I)J" } : Jvm.MethodName) ({ cls := "GongCycles$Playing", name := "strokesOf", desc := "(I)J" } : Jvm.MethodName)) ∈ gT := List.mem_filter.mpr ⟨mt2 _ (List.mem_of_getElem? (i := 233) rfl), rfl⟩
theorem mw2_234 : (Jvm.Cond.code ({ cls := "GongCycles$Playing", name := "strokesOf", desc := "(I)J" } : Jvm.MethodName) prog_6_method_9_code (2 : Nat) (Option.some Jvm.ClassFile.FieldType.long)) ∈ gT := List.mem_filter.mpr ⟨mt2 _ (List.mem_of_getElem? (i := 234) rfl), rfl⟩
theorem mw2_235 : (Jvm.Cond.methodLink "GongCyclesLaw" (151 : Nat) ({ cls := "GongCyclesLaw", name := "days", desc := "(LGongCycles;I[J)I" } : Jvm.MethodName)) ∈ gT := List.mem_filter.mpr ⟨mt2 _ (List.mem_of_getElem? (i := 235) rfl), rfl⟩
theorem mw2_236 : (Jvm.Cond.static ({ cls := "GongCyclesLaw", name := "days", desc := "(LGongCycles;I[J)I" } : Jvm.MethodName)) ∈ gT := List.mem_filter.mpr ⟨mt2 _ (List.mem_of_getElem? (i := 236) rfl), rfl⟩
theorem mw2_237 : (Jvm.Cond.codeWith ({ cls := "GongCyclesLaw", name := "days", desc := "(LGongCycles;I[J)I" } : Jvm.MethodName) method_16_code (4 : Nat) (Option.some Jvm.ClassFile.FieldType.int) [((0 : Nat), (9 : Nat), (12 : Nat), (13 : Nat)), ((0 : Nat), (9 : Nat), (15 : Nat), (15 : Nat))]) ∈ gT := List.mem_filter.mpr ⟨mt2 _ (List.mem_of_getElem? (i := 237) rfl), rfl⟩
theorem mw2_238 : (Jvm.Cond.methodLink "GongCyclesLaw" (59 : Nat) ({ cls := "GongCycles", name := "days", desc := "(I)I" } : Jvm.MethodName)) ∈ gT := List.mem_filter.mpr ⟨mt2 _ (List.mem_of_getElem? (i := 238) rfl), rfl⟩
theorem mw2_239 : (Jvm.Cond.instanceMethod ({ cls := "GongCycles", name := "days", desc := "(I)I" } : Jvm.MethodName)) ∈ gT := List.mem_filter.mpr ⟨mt2 _ (List.mem_of_getElem? (i := 239) rfl), rfl⟩
theorem mw3_0 : (Jvm.Cond.selects "GongCycles" ({ cls := "GongCycles", name := "days", desc := "(I)I" } : Jvm.MethodName) ({ cls := "GongCycles", name := "days", desc := "(I)I" } : Jvm.MethodName)) ∈ gT := List.mem_filter.mpr ⟨mt3 _ (List.mem_of_getElem? (i := 0) rfl), rfl⟩
theorem mw3_1 : (Jvm.Cond.code ({ cls := "GongCycles", name := "days", desc := "(I)I" } : Jvm.MethodName) prog_1_method_16_code (2 : Nat) (Option.some Jvm.ClassFile.FieldType.int)) ∈ gT := List.mem_filter.mpr ⟨mt3 _ (List.mem_of_getElem? (i := 1) rfl), rfl⟩
theorem mw3_3 : (Jvm.Cond.methodLink "GongCyclesLaw" (154 : Nat) ({ cls := "GongCyclesLaw", name := "pitch", desc := "(LGongCycles;III[J)I" } : Jvm.MethodName)) ∈ gT := List.mem_filter.mpr ⟨mt3 _ (List.mem_of_getElem? (i := 3) rfl), rfl⟩
theorem mw3_4 : (Jvm.Cond.static ({ cls := "GongCyclesLaw", name := "pitch", desc := "(LGongCycles;III[J)I" } : Jvm.MethodName)) ∈ gT := List.mem_filter.mpr ⟨mt3 _ (List.mem_of_getElem? (i := 4) rfl), rfl⟩
theorem mw3_5 : (Jvm.Cond.codeWith ({ cls := "GongCyclesLaw", name := "pitch", desc := "(LGongCycles;III[J)I" } : Jvm.MethodName) method_17_code (6 : Nat) (Option.some Jvm.ClassFile.FieldType.int) [((0 : Nat), (12 : Nat), (15 : Nat), (21 : Nat)), ((0 : Nat), (12 : Nat), (19 : Nat), (13 : Nat))]) ∈ gT := List.mem_filter.mpr ⟨mt3 _ (List.mem_of_getElem? (i := 5) rfl), rfl⟩
theorem mw3_6 : (Jvm.Cond.methodLink "GongCyclesLaw" (62 : Nat) ({ cls := "GongCycles", name := "pitch", desc := "(III)I" } : Jvm.MethodName)) ∈ gT := List.mem_filter.mpr ⟨mt3 _ (List.mem_of_getElem? (i := 6) rfl), rfl⟩
theorem mw3_7 : (Jvm.Cond.instanceMethod ({ cls := "GongCycles", name := "pitch", desc := "(III)I" } : Jvm.MethodName)) ∈ gT := List.mem_filter.mpr ⟨mt3 _ (List.mem_of_getElem? (i := 7) rfl), rfl⟩
theorem mw3_8 : (Jvm.Cond.selects "GongCycles" ({ cls := "GongCycles", name := "pitch", desc := "(III)I" } : Jvm.MethodName) ({ cls := "GongCycles", name := "pitch", desc := "(III)I" } : Jvm.MethodName)) ∈ gT := List.mem_filter.mpr ⟨mt3 _ (List.mem_of_getElem? (i := 8) rfl), rfl⟩
theorem mw3_9 : (Jvm.Cond.code ({ cls := "GongCycles", name := "pitch", desc := "(III)I" } : Jvm.MethodName) prog_1_method_17_code (5 : Nat) (Option.some Jvm.ClassFile.FieldType.int)) ∈ gT := List.mem_filter.mpr ⟨mt3 _ (List.mem_of_getElem? (i := 9) rfl), rfl⟩
theorem mw3_10 : (Jvm.Cond.methodLink "GongCycles" (176 : Nat) ({ cls := "GongCycles", name := "setAt", desc := "(I)LGongCycles$BronzeSet;" } : Jvm.MethodName)) ∈ gT := List.mem_filter.mpr ⟨mt3 _ (List.mem_of_getElem? (i := 10) rfl), rfl⟩
theorem mw3_12 : (Jvm.Cond.instanceMethod ({ cls := "GongCycles", name := "setAt", desc := "(I)LGongCycles$BronzeSet;" } : Jvm.MethodName)) ∈ gT := List.mem_filter.mpr ⟨mt3 _ (List.mem_of_getElem? (i := 12) rfl), rfl⟩
theorem mw3_13 : (Jvm.Cond.code ({ cls := "GongCycles", name := "setAt", desc := "(I)LGongCycles$BronzeSet;" } : Jvm.MethodName) prog_1_method_29_code (3 : Nat) (Option.some (Jvm.ClassFile.FieldType.object "GongCycles$BronzeSet"))) ∈ gT := List.mem_filter.mpr ⟨mt3 _ (List.mem_of_getElem? (i := 13) rfl), rfl⟩
theorem mw3_15 : (Jvm.Cond.methodLink "GongCycles" (180 : Nat) ({ cls := "GongCycles", name := "refuseNoTone", desc := "(I)V" } : Jvm.MethodName)) ∈ gT := List.mem_filter.mpr ⟨mt3 _ (List.mem_of_getElem? (i := 15) rfl), rfl⟩
theorem mw3_16 : (Jvm.Cond.static ({ cls := "GongCycles", name := "refuseNoTone", desc := "(I)V" } : Jvm.MethodName)) ∈ gT := List.mem_filter.mpr ⟨mt3 _ (List.mem_of_getElem? (i := 16) rfl), rfl⟩
theorem mw3_17 : (Jvm.Cond.code ({ cls := "GongCycles", name := "refuseNoTone", desc := "(I)V" } : Jvm.MethodName) prog_1_method_35_code (1 : Nat) (Option.none : Option Jvm.ClassFile.FieldType)) ∈ gT := List.mem_filter.mpr ⟨mt3 _ (List.mem_of_getElem? (i := 17) rfl), rfl⟩
theorem mw3_19 : (Jvm.Cond.constant "GongCycles" (183 : Nat) (200000 : Int32)) ∈ gT := List.mem_filter.mpr ⟨mt3 _ (List.mem_of_getElem? (i := 19) rfl), rfl⟩
theorem mw3_21 : (Jvm.Cond.methodLink "GongCycles" (186 : Nat) ({ cls := "GongCycles$BronzeSet", name := "putPitch", desc := "(II)I" } : Jvm.MethodName)) ∈ gT := List.mem_filter.mpr ⟨mt3 _ (List.mem_of_getElem? (i := 21) rfl), rfl⟩
theorem mw3_22 : (Jvm.Cond.instanceMethod ({ cls := "GongCycles$BronzeSet", name := "putPitch", desc := "(II)I" } : Jvm.MethodName)) ∈ gT := List.mem_filter.mpr ⟨mt3 _ (List.mem_of_getElem? (i := 22) rfl), rfl⟩
theorem mw3_23 : (Jvm.Cond.selects "GongCycles$BronzeSet" ({ cls := "GongCycles$BronzeSet", name := "putPitch", desc := "(II)I" } : Jvm.MethodName) ({ cls := "GongCycles$BronzeSet", name := "putPitch", desc := "(II)I" } : Jvm.MethodName)) ∈ gT := List.mem_filter.mpr ⟨mt3 _ (List.mem_of_getElem? (i := 23) rfl), rfl⟩
theorem mw3_24 : (Jvm.Cond.code ({ cls := "GongCycles$BronzeSet", name := "putPitch", desc := "(II)I" } : Jvm.MethodName) prog_2_method_3_code (4 : Nat) (Option.some Jvm.ClassFile.FieldType.int)) ∈ gT := List.mem_filter.mpr ⟨mt3 _ (List.mem_of_getElem? (i := 24) rfl), rfl⟩
theorem mw3_25 : (Jvm.Cond.methodLink "GongCycles$BronzeSet" (20 : Nat) ({ cls := "GongCycles$BronzeSet", name := "pitchOf", desc := "(I)I" } : Jvm.MethodName)) ∈ gT := List.mem_filter.mpr ⟨mt3 _ (List.mem_of_getElem? (i := 25) rfl), rfl⟩
theorem mw3_26 : (Jvm.Cond.instanceMethod ({ cls := "GongCycles$BronzeSet", name := "pitchOf", desc := "(I)I" } : Jvm.MethodName)) ∈ gT := List.mem_filter.mpr ⟨mt3 _ (List.mem_of_getElem? (i := 26) rfl), rfl⟩
theorem mw3_27 : (Jvm.Cond.selects "GongCycles$BronzeSet" ({ cls := "GongCycles$BronzeSet", name := "pitchOf", desc := "(I)I" } : Jvm.MethodName) ({ cls := "GongCycles$BronzeSet", name := "pitchOf", desc := "(I)I" } : Jvm.MethodName)) ∈ gT := List.mem_filter.mpr ⟨mt3 _ (List.mem_of_getElem? (i := 27) rfl), rfl⟩
theorem mw3_28 : (Jvm.Cond.code ({ cls := "GongCycles$BronzeSet", name := "pitchOf", desc := "(I)I" } : Jvm.MethodName) prog_2_method_2_code (2 : Nat) (Option.some Jvm.ClassFile.FieldType.int)) ∈ gT := List.mem_filter.mpr ⟨mt3 _ (List.mem_of_getElem? (i := 28) rfl), rfl⟩
theorem mw3_29 : (Jvm.Cond.methodLink "GongCyclesLaw" (157 : Nat) ({ cls := "GongCyclesLaw", name := "drift", desc := "(LGongCycles;II[J)I" } : Jvm.MethodName)) ∈ gT := List.mem_filter.mpr ⟨mt3 _ (List.mem_of_getElem? (i := 29) rfl), rfl⟩
theorem mw3_30 : (Jvm.Cond.static ({ cls := "GongCyclesLaw", name := "drift", desc := "(LGongCycles;II[J)I" } : Jvm.MethodName)) ∈ gT := List.mem_filter.mpr ⟨mt3 _ (List.mem_of_getElem? (i := 30) rfl), rfl⟩
theorem mw3_31 : (Jvm.Cond.codeWith ({ cls := "GongCyclesLaw", name := "drift", desc := "(LGongCycles;II[J)I" } : Jvm.MethodName) method_18_code (5 : Nat) (Option.some Jvm.ClassFile.FieldType.int) [((0 : Nat), (10 : Nat), (13 : Nat), (21 : Nat)), ((0 : Nat), (10 : Nat), (17 : Nat), (13 : Nat))]) ∈ gT := List.mem_filter.mpr ⟨mt3 _ (List.mem_of_getElem? (i := 31) rfl), rfl⟩
theorem mw3_32 : (Jvm.Cond.methodLink "GongCyclesLaw" (65 : Nat) ({ cls := "GongCycles", name := "drift", desc := "(II)I" } : Jvm.MethodName)) ∈ gT := List.mem_filter.mpr ⟨mt3 _ (List.mem_of_getElem? (i := 32) rfl), rfl⟩
theorem mw3_33 : (Jvm.Cond.instanceMethod ({ cls := "GongCycles", name := "drift", desc := "(II)I" } : Jvm.MethodName)) ∈ gT := List.mem_filter.mpr ⟨mt3 _ (List.mem_of_getElem? (i := 33) rfl), rfl⟩
theorem mw3_34 : (Jvm.Cond.selects "GongCycles" ({ cls := "GongCycles", name := "drift", desc := "(II)I" } : Jvm.MethodName) ({ cls := "GongCycles", name := "drift", desc := "(II)I" } : Jvm.MethodName)) ∈ gT := List.mem_filter.mpr ⟨mt3 _ (List.mem_of_getElem? (i := 34) rfl), rfl⟩
theorem mw3_35 : (Jvm.Cond.code ({ cls := "GongCycles", name := "drift", desc := "(II)I" } : Jvm.MethodName) prog_1_method_18_code (5 : Nat) (Option.some Jvm.ClassFile.FieldType.int)) ∈ gT := List.mem_filter.mpr ⟨mt3 _ (List.mem_of_getElem? (i := 35) rfl), rfl⟩
theorem mw3_37 : (Jvm.Cond.methodLink "GongCyclesLaw" (160 : Nat) ({ cls := "GongCyclesLaw", name := "years", desc := "(LGongCycles;I[J)I" } : Jvm.MethodName)) ∈ gT := List.mem_filter.mpr ⟨mt3 _ (List.mem_of_getElem? (i := 37) rfl), rfl⟩
theorem mw3_38 : (Jvm.Cond.static ({ cls := "GongCyclesLaw", name := "years", desc := "(LGongCycles;I[J)I" } : Jvm.MethodName)) ∈ gT := List.mem_filter.mpr ⟨mt3 _ (List.mem_of_getElem? (i := 38) rfl), rfl⟩
theorem mw3_39 : (Jvm.Cond.codeWith ({ cls := "GongCyclesLaw", name := "years", desc := "(LGongCycles;I[J)I" } : Jvm.MethodName) method_19_code (4 : Nat) (Option.some Jvm.ClassFile.FieldType.int) [((0 : Nat), (9 : Nat), (12 : Nat), (13 : Nat)), ((0 : Nat), (9 : Nat), (15 : Nat), (15 : Nat))]) ∈ gT := List.mem_filter.mpr ⟨mt3 _ (List.mem_of_getElem? (i := 39) rfl), rfl⟩
theorem mw3_40 : (Jvm.Cond.methodLink "GongCyclesLaw" (68 : Nat) ({ cls := "GongCycles", name := "years", desc := "(I)I" } : Jvm.MethodName)) ∈ gT := List.mem_filter.mpr ⟨mt3 _ (List.mem_of_getElem? (i := 40) rfl), rfl⟩
theorem mw3_41 : (Jvm.Cond.instanceMethod ({ cls := "GongCycles", name := "years", desc := "(I)I" } : Jvm.MethodName)) ∈ gT := List.mem_filter.mpr ⟨mt3 _ (List.mem_of_getElem? (i := 41) rfl), rfl⟩
theorem mw3_42 : (Jvm.Cond.selects "GongCycles" ({ cls := "GongCycles", name := "years", desc := "(I)I" } : Jvm.MethodName) ({ cls := "GongCycles", name := "years", desc := "(I)I" } : Jvm.MethodName)) ∈ gT := List.mem_filter.mpr ⟨mt3 _ (List.mem_of_getElem? (i := 42) rfl), rfl⟩
theorem mw3_43 : (Jvm.Cond.code ({ cls := "GongCycles", name := "years", desc := "(I)I" } : Jvm.MethodName) prog_1_method_19_code (3 : Nat) (Option.some Jvm.ClassFile.FieldType.int)) ∈ gT := List.mem_filter.mpr ⟨mt3 _ (List.mem_of_getElem? (i := 43) rfl), rfl⟩
theorem mw3_46 : (Jvm.Cond.methodLink "GongCycles" (198 : Nat) ({ cls := "GongCycles$BronzeSet", name := "ageBy", desc := "(I)V" } : Jvm.MethodName)) ∈ gT := List.mem_filter.mpr ⟨mt3 _ (List.mem_of_getElem? (i := 46) rfl), rfl⟩
theorem mw3_47 : (Jvm.Cond.instanceMethod ({ cls := "GongCycles$BronzeSet", name := "ageBy", desc := "(I)V" } : Jvm.MethodName)) ∈ gT := List.mem_filter.mpr ⟨mt3 _ (List.mem_of_getElem? (i := 47) rfl), rfl⟩
theorem mw3_48 : (Jvm.Cond.selects "GongCycles$BronzeSet" ({ cls := "GongCycles$BronzeSet", name := "ageBy", desc := "(I)V" } : Jvm.MethodName) ({ cls := "GongCycles$BronzeSet", name := "ageBy", desc := "(I)V" } : Jvm.MethodName)) ∈ gT := List.mem_filter.mpr ⟨mt3 _ (List.mem_of_getElem? (i := 48) rfl), rfl⟩
theorem mw3_49 : (Jvm.Cond.code ({ cls := "GongCycles$BronzeSet", name := "ageBy", desc := "(I)V" } : Jvm.MethodName) prog_2_method_4_code (5 : Nat) (Option.none : Option Jvm.ClassFile.FieldType)) ∈ gT := List.mem_filter.mpr ⟨mt3 _ (List.mem_of_getElem? (i := 49) rfl), rfl⟩
theorem mw3_50 : (Jvm.Cond.methodLink "GongCycles$BronzeSet" (24 : Nat) ({ cls := "java/lang/Math", name := "max", desc := "(II)I" } : Jvm.MethodName)) ∈ gT := List.mem_filter.mpr ⟨mt3 _ (List.mem_of_getElem? (i := 50) rfl), rfl⟩
theorem mw3_51 : (Jvm.Cond.methodLink "GongCyclesLaw" (163 : Nat) ({ cls := "GongCyclesLaw", name := "tune", desc := "(LGongCycles;II[J)I" } : Jvm.MethodName)) ∈ gT := List.mem_filter.mpr ⟨mt3 _ (List.mem_of_getElem? (i := 51) rfl), rfl⟩
theorem mw3_52 : (Jvm.Cond.static ({ cls := "GongCyclesLaw", name := "tune", desc := "(LGongCycles;II[J)I" } : Jvm.MethodName)) ∈ gT := List.mem_filter.mpr ⟨mt3 _ (List.mem_of_getElem? (i := 52) rfl), rfl⟩
theorem mw3_53 : (Jvm.Cond.codeWith ({ cls := "GongCyclesLaw", name := "tune", desc := "(LGongCycles;II[J)I" } : Jvm.MethodName) method_20_code (5 : Nat) (Option.some Jvm.ClassFile.FieldType.int) [((0 : Nat), (10 : Nat), (13 : Nat), (21 : Nat)), ((0 : Nat), (10 : Nat), (17 : Nat), (13 : Nat))]) ∈ gT := List.mem_filter.mpr ⟨mt3 _ (List.mem_of_getElem? (i := 53) rfl), rfl⟩
theorem mw3_54 : (Jvm.Cond.methodLink "GongCyclesLaw" (71 : Nat) ({ cls := "GongCycles", name := "tune", desc := "(II)I" } : Jvm.MethodName)) ∈ gT := List.mem_filter.mpr ⟨mt3 _ (List.mem_of_getElem? (i := 54) rfl), rfl⟩
theorem mw3_55 : (Jvm.Cond.instanceMethod ({ cls := "GongCycles", name := "tune", desc := "(II)I" } : Jvm.MethodName)) ∈ gT := List.mem_filter.mpr ⟨mt3 _ (List.mem_of_getElem? (i := 55) rfl), rfl⟩
theorem mw3_56 : (Jvm.Cond.selects "GongCycles" ({ cls := "GongCycles", name := "tune", desc := "(II)I" } : Jvm.MethodName) ({ cls := "GongCycles", name := "tune", desc := "(II)I" } : Jvm.MethodName)) ∈ gT := List.mem_filter.mpr ⟨mt3 _ (List.mem_of_getElem? (i := 56) rfl), rfl⟩
theorem mw3_57 : (Jvm.Cond.code ({ cls := "GongCycles", name := "tune", desc := "(II)I" } : Jvm.MethodName) prog_1_method_20_code (5 : Nat) (Option.some Jvm.ClassFile.FieldType.int)) ∈ gT := List.mem_filter.mpr ⟨mt3 _ (List.mem_of_getElem? (i := 57) rfl), rfl⟩
theorem mw3_59 : (Jvm.Cond.methodLink "GongCycles" (203 : Nat) ({ cls := "GongCycles$BronzeSet", name := "pitchOf", desc := "(I)I" } : Jvm.MethodName)) ∈ gT := List.mem_filter.mpr ⟨mt3 _ (List.mem_of_getElem? (i := 59) rfl), rfl⟩
theorem mw3_60 : (Jvm.Cond.methodLink "GongCycles" (206 : Nat) ({ cls := "GongCycles$BronzeSet", name := "tuneTo", desc := "(I)V" } : Jvm.MethodName)) ∈ gT := List.mem_filter.mpr ⟨mt3 _ (List.mem_of_getElem? (i := 60) rfl), rfl⟩
theorem mw3_61 : (Jvm.Cond.instanceMethod ({ cls := "GongCycles$BronzeSet", name := "tuneTo", desc := "(I)V" } : Jvm.MethodName)) ∈ gT := List.mem_filter.mpr ⟨mt3 _ (List.mem_of_getElem? (i := 61) rfl), rfl⟩
theorem mw3_62 : (Jvm.Cond.selects "GongCycles$BronzeSet" ({ cls := "GongCycles$BronzeSet", name := "tuneTo", desc := "(I)V" } : Jvm.MethodName) ({ cls := "GongCycles$BronzeSet", name := "tuneTo", desc := "(I)V" } : Jvm.MethodName)) ∈ gT := List.mem_filter.mpr ⟨mt3 _ (List.mem_of_getElem? (i := 62) rfl), rfl⟩
theorem mw3_63 : (Jvm.Cond.code ({ cls := "GongCycles$BronzeSet", name := "tuneTo", desc := "(I)V" } : Jvm.MethodName) prog_2_method_5_code (7 : Nat) (Option.none : Option Jvm.ClassFile.FieldType)) ∈ gT := List.mem_filter.mpr ⟨mt3 _ (List.mem_of_getElem? (i := 63) rfl), rfl⟩
theorem mw3_64 : (Jvm.Cond.constantLong "GongCycles$BronzeSet" (30 : Nat) (5000 : Int64)) ∈ gT := List.mem_filter.mpr ⟨mt3 _ (List.mem_of_getElem? (i := 64) rfl), rfl⟩
theorem mw3_65 : (Jvm.Cond.constantLong "GongCycles$BronzeSet" (32 : Nat) (200000 : Int64)) ∈ gT := List.mem_filter.mpr ⟨mt3 _ (List.mem_of_getElem? (i := 65) rfl), rfl⟩
theorem mw3_66 : (Jvm.Cond.methodLink "GongCycles$BronzeSet" (34 : Nat) ({ cls := "java/lang/Math", name := "min", desc := "(JJ)J" } : Jvm.MethodName)) ∈ gT := List.mem_filter.mpr ⟨mt3 _ (List.mem_of_getElem? (i := 66) rfl), rfl⟩
theorem mw3_67 : (Jvm.Cond.static ({ cls := "java/lang/Math", name := "min", desc := "(JJ)J" } : Jvm.MethodName)) ∈ gT := List.mem_filter.mpr ⟨mt3 _ (List.mem_of_getElem? (i := 67) rfl), rfl⟩
theorem mw3_68 : (Jvm.Cond.code ({ cls := "java/lang/Math", name := "min", desc := "(JJ)J" } : Jvm.MethodName) prog_14_method_70_code (4 : Nat) (Option.some Jvm.ClassFile.FieldType.long)) ∈ gT := List.mem_filter.mpr ⟨mt3 _ (List.mem_of_getElem? (i := 68) rfl), rfl⟩
theorem mw3_69 : (Jvm.Cond.methodLink "GongCycles$BronzeSet" (38 : Nat) ({ cls := "java/lang/Math", name := "max", desc := "(JJ)J" } : Jvm.MethodName)) ∈ gT := List.mem_filter.mpr ⟨mt3 _ (List.mem_of_getElem? (i := 69) rfl), rfl⟩
theorem mw3_70 : (Jvm.Cond.static ({ cls := "java/lang/Math", name := "max", desc := "(JJ)J" } : Jvm.MethodName)) ∈ gT := List.mem_filter.mpr ⟨mt3 _ (List.mem_of_getElem? (i := 70) rfl), rfl⟩
theorem mw3_71 : (Jvm.Cond.code ({ cls := "java/lang/Math", name := "max", desc := "(JJ)J" } : Jvm.MethodName) prog_14_method_66_code (4 : Nat) (Option.some Jvm.ClassFile.FieldType.long)) ∈ gT := List.mem_filter.mpr ⟨mt3 _ (List.mem_of_getElem? (i := 71) rfl), rfl⟩
theorem mw3_72 : (Jvm.Cond.methodLink "GongCyclesLaw" (166 : Nat) ({ cls := "GongCyclesLaw", name := "beat", desc := "(LGongCycles;III[J)I" } : Jvm.MethodName)) ∈ gT := List.mem_filter.mpr ⟨mt3 _ (List.mem_of_getElem? (i := 72) rfl), rfl⟩
theorem mw3_73 : (Jvm.Cond.static ({ cls := "GongCyclesLaw", name := "beat", desc := "(LGongCycles;III[J)I" } : Jvm.MethodName)) ∈ gT := List.mem_filter.mpr ⟨mt3 _ (List.mem_of_getElem? (i := 73) rfl), rfl⟩
theorem mw3_74 : (Jvm.Cond.codeWith ({ cls := "GongCyclesLaw", name := "beat", desc := "(LGongCycles;III[J)I" } : Jvm.MethodName) method_21_code (6 : Nat) (Option.some Jvm.ClassFile.FieldType.int) [((0 : Nat), (12 : Nat), (15 : Nat), (21 : Nat))]) ∈ gT := List.mem_filter.mpr ⟨mt3 _ (List.mem_of_getElem? (i := 74) rfl), rfl⟩
theorem mw3_75 : (Jvm.Cond.methodLink "GongCyclesLaw" (74 : Nat) ({ cls := "GongCycles", name := "beat", desc := "(III)I" } : Jvm.MethodName)) ∈ gT := List.mem_filter.mpr ⟨mt3 _ (List.mem_of_getElem? (i := 75) rfl), rfl⟩
theorem mw3_76 : (Jvm.Cond.instanceMethod ({ cls := "GongCycles", name := "beat", desc := "(III)I" } : Jvm.MethodName)) ∈ gT := List.mem_filter.mpr ⟨mt3 _ (List.mem_of_getElem? (i := 76) rfl), rfl⟩
theorem mw3_77 : (Jvm.Cond.selects "GongCycles" ({ cls := "GongCycles", name := "beat", desc := "(III)I" } : Jvm.MethodName) ({ cls := "GongCycles", name := "beat", desc := "(III)I" } : Jvm.MethodName)) ∈ gT := List.mem_filter.mpr ⟨mt3 _ (List.mem_of_getElem? (i := 77) rfl), rfl⟩
theorem mw3_78 : (Jvm.Cond.code ({ cls := "GongCycles", name := "beat", desc := "(III)I" } : Jvm.MethodName) prog_1_method_21_code (6 : Nat) (Option.some Jvm.ClassFile.FieldType.int)) ∈ gT := List.mem_filter.mpr ⟨mt3 _ (List.mem_of_getElem? (i := 78) rfl), rfl⟩
theorem mw3_79 : (Jvm.Cond.methodLink "GongCyclesLaw" (169 : Nat) ({ cls := "GongCyclesLaw", name := "player", desc := "(LGongCycles;I[J)I" } : Jvm.MethodName)) ∈ gT := List.mem_filter.mpr ⟨mt3 _ (List.mem_of_getElem? (i := 79) rfl), rfl⟩
theorem mw3_80 : (Jvm.Cond.static ({ cls := "GongCyclesLaw", name := "player", desc := "(LGongCycles;I[J)I" } : Jvm.MethodName)) ∈ gT := List.mem_filter.mpr ⟨mt3 _ (List.mem_of_getElem? (i := 80) rfl), rfl⟩
theorem mw3_81 : (Jvm.Cond.codeWith ({ cls := "GongCyclesLaw", name := "player", desc := "(LGongCycles;I[J)I" } : Jvm.MethodName) method_22_code (4 : Nat) (Option.some Jvm.ClassFile.FieldType.int) [((0 : Nat), (9 : Nat), (12 : Nat), (13 : Nat)), ((0 : Nat), (9 : Nat), (15 : Nat), (15 : Nat))]) ∈ gT := List.mem_filter.mpr ⟨mt3 _ (List.mem_of_getElem? (i := 81) rfl), rfl⟩
theorem mw3_82 : (Jvm.Cond.methodLink "GongCyclesLaw" (77 : Nat) ({ cls := "GongCycles", name := "player", desc := "(I)I" } : Jvm.MethodName)) ∈ gT := List.mem_filter.mpr ⟨mt3 _ (List.mem_of_getElem? (i := 82) rfl), rfl⟩
theorem mw3_83 : (Jvm.Cond.instanceMethod ({ cls := "GongCycles", name := "player", desc := "(I)I" } : Jvm.MethodName)) ∈ gT := List.mem_filter.mpr ⟨mt3 _ (List.mem_of_getElem? (i := 83) rfl), rfl⟩
theorem mw3_84 : (Jvm.Cond.selects "GongCycles" ({ cls := "GongCycles", name := "player", desc := "(I)I" } : Jvm.MethodName) ({ cls := "GongCycles", name := "player", desc := "(I)I" } : Jvm.MethodName)) ∈ gT := List.mem_filter.mpr ⟨mt3 _ (List.mem_of_getElem? (i := 84) rfl), rfl⟩
theorem mw3_85 : (Jvm.Cond.code ({ cls := "GongCycles", name := "player", desc := "(I)I" } : Jvm.MethodName) prog_1_method_22_code (2 : Nat) (Option.some Jvm.ClassFile.FieldType.int)) ∈ gT := List.mem_filter.mpr ⟨mt3 _ (List.mem_of_getElem? (i := 85) rfl), rfl⟩
theorem mw3_88 : (Jvm.Cond.instantiable "GongCycles$Player" (2 : Nat)) ∈ gT := List.mem_filter.mpr ⟨mt3 _ (List.mem_of_getElem? (i := 88) rfl), rfl⟩
theorem mw3_89 : (Jvm.Cond.methodLink "GongCycles" (218 : Nat) ({ cls := "GongCycles$Player", name := "<init>", desc := "(I)V" } : Jvm.MethodName)) ∈ gT := List.mem_filter.mpr ⟨mt3 _ (List.mem_of_getElem? (i := 89) rfl), rfl⟩
theorem mw3_90 : (Jvm.Cond.instanceMethod ({ cls := "GongCycles$Player", name := "<init>", desc := "(I)V" } : Jvm.MethodName)) ∈ gT := List.mem_filter.mpr ⟨mt3 _ (List.mem_of_getElem? (i := 90) rfl), rfl⟩
theorem mw3_91 : (Jvm.Cond.code ({ cls := "GongCycles$Player", name := "<init>", desc := "(I)V" } : Jvm.MethodName) prog_5_method_1_code (2 : Nat) (Option.none : Option Jvm.ClassFile.FieldType)) ∈ gT := List.mem_filter.mpr ⟨mt3 _ (List.mem_of_getElem? (i := 91) rfl), rfl⟩
theorem mw3_92 : (Jvm.Cond.methodLink "GongCycles$Player" (3 : Nat) ({ cls := "java/lang/Object", name := "<init>", desc := "()V" } : Jvm.MethodName)) ∈ gT := List.mem_filter.mpr ⟨mt3 _ (List.mem_of_getElem? (i := 92) rfl), rfl⟩
theorem mw3_93 : (Jvm.Cond.classLink "GongCycles$Player" (9 : Nat) "GongCycles$Melody") ∈ gT := List.mem_filter.mpr ⟨mt3 _ (List.mem_of_getElem? (i := 93) rfl), rfl⟩
theorem mw3_95 : (Jvm.Cond.fieldLink "GongCycles$Player" (17 : Nat) "GongCycles$Player" "ableParts" "I") ∈ gT := List.mem_filter.mpr ⟨mt3 _ (List.mem_of_getElem? (i := 95) rfl), rfl⟩
theorem mw3_97 : (Jvm.Cond.fieldLink "GongCycles$Player" (11 : Nat) "GongCycles$Player" "versions" "[LGongCycles$Melody;") ∈ gT := List.mem_filter.mpr ⟨mt3 _ (List.mem_of_getElem? (i := 97) rfl), rfl⟩
theorem mw3_98 : (Jvm.Cond.laysFinal "GongCycles$Player" "GongCycles$Player" "ableParts" "I") ∈ gT := List.mem_filter.mpr ⟨mt3 _ (List.mem_of_getElem? (i := 98) rfl), rfl⟩
theorem mw3_100 : (Jvm.Cond.laysFinal "GongCycles$Player" "GongCycles$Player" "versions" "[LGongCycles$Melody;") ∈ gT := List.mem_filter.mpr ⟨mt3 _ (List.mem_of_getElem? (i := 100) rfl), rfl⟩
theorem mw3_103 : (Jvm.Cond.methodLink "GongCyclesLaw" (172 : Nat) ({ cls := "GongCyclesLaw", name := "learn", desc := "(LGongCycles;III[J)I" } : Jvm.MethodName)) ∈ gT := List.mem_filter.mpr ⟨mt3 _ (List.mem_of_getElem? (i := 103) rfl), rfl⟩
theorem mw3_104 : (Jvm.Cond.static ({ cls := "GongCyclesLaw", name := "learn", desc := "(LGongCycles;III[J)I" } : Jvm.MethodName)) ∈ gT := List.mem_filter.mpr ⟨mt3 _ (List.mem_of_getElem? (i := 104) rfl), rfl⟩
theorem mw3_105 : (Jvm.Cond.codeWith ({ cls := "GongCyclesLaw", name := "learn", desc := "(LGongCycles;III[J)I" } : Jvm.MethodName) method_23_code (6 : Nat) (Option.some Jvm.ClassFile.FieldType.int) [((0 : Nat), (12 : Nat), (15 : Nat), (21 : Nat)), ((0 : Nat), (12 : Nat), (19 : Nat), (13 : Nat)), ((0 : Nat), (12 : Nat), (23 : Nat), (15 : Nat))]) ∈ gT := List.mem_filter.mpr ⟨mt3 _ (List.mem_of_getElem? (i := 105) rfl), rfl⟩
theorem mw3_106 : (Jvm.Cond.methodLink "GongCyclesLaw" (80 : Nat) ({ cls := "GongCycles", name := "learn", desc := "(III)I" } : Jvm.MethodName)) ∈ gT := List.mem_filter.mpr ⟨mt3 _ (List.mem_of_getElem? (i := 106) rfl), rfl⟩
theorem mw3_107 : (Jvm.Cond.instanceMethod ({ cls := "GongCycles", name := "learn", desc := "(III)I" } : Jvm.MethodName)) ∈ gT := List.mem_filter.mpr ⟨mt3 _ (List.mem_of_getElem? (i := 107) rfl), rfl⟩
theorem mw3_108 : (Jvm.Cond.selects "GongCycles" ({ cls := "GongCycles", name := "learn", desc := "(III)I" } : Jvm.MethodName) ({ cls := "GongCycles", name := "learn", desc := "(III)I" } : Jvm.MethodName)) ∈ gT := List.mem_filter.mpr ⟨mt3 _ (List.mem_of_getElem? (i := 108) rfl), rfl⟩
theorem mw3_109 : (Jvm.Cond.code ({ cls := "GongCycles", name := "learn", desc := "(III)I" } : Jvm.MethodName) prog_1_method_23_code (6 : Nat) (Option.some Jvm.ClassFile.FieldType.int)) ∈ gT := List.mem_filter.mpr ⟨mt3 _ (List.mem_of_getElem? (i := 109) rfl), rfl⟩
theorem mw3_110 : (Jvm.Cond.methodLink "GongCycles" (219 : Nat) ({ cls := "GongCycles", name := "playerAt", desc := "(I)LGongCycles$Player;" } : Jvm.MethodName)) ∈ gT := List.mem_filter.mpr ⟨mt3 _ (List.mem_of_getElem? (i := 110) rfl), rfl⟩
theorem mw3_112 : (Jvm.Cond.instanceMethod ({ cls := "GongCycles", name := "playerAt", desc := "(I)LGongCycles$Player;" } : Jvm.MethodName)) ∈ gT := List.mem_filter.mpr ⟨mt3 _ (List.mem_of_getElem? (i := 112) rfl), rfl⟩
theorem mw3_113 : (Jvm.Cond.code ({ cls := "GongCycles", name := "playerAt", desc := "(I)LGongCycles$Player;" } : Jvm.MethodName) prog_1_method_30_code (3 : Nat) (Option.some (Jvm.ClassFile.FieldType.object "GongCycles$Player"))) ∈ gT := List.mem_filter.mpr ⟨mt3 _ (List.mem_of_getElem? (i := 113) rfl), rfl⟩
theorem mw3_115 : (Jvm.Cond.methodLink "GongCycles" (223 : Nat) ({ cls := "GongCycles", name := "melodyOf", desc := "(II)LGongCycles$Melody;" } : Jvm.MethodName)) ∈ gT := List.mem_filter.mpr ⟨mt3 _ (List.mem_of_getElem? (i := 115) rfl), rfl⟩
theorem mw3_117 : (Jvm.Cond.instanceMethod ({ cls := "GongCycles", name := "melodyOf", desc := "(II)LGongCycles$Melody;" } : Jvm.MethodName)) ∈ gT := List.mem_filter.mpr ⟨mt3 _ (List.mem_of_getElem? (i := 117) rfl), rfl⟩
theorem mw3_118 : (Jvm.Cond.code ({ cls := "GongCycles", name := "melodyOf", desc := "(II)LGongCycles$Melody;" } : Jvm.MethodName) prog_1_method_31_code (4 : Nat) (Option.some (Jvm.ClassFile.FieldType.object "GongCycles$Melody"))) ∈ gT := List.mem_filter.mpr ⟨mt3 _ (List.mem_of_getElem? (i := 118) rfl), rfl⟩
theorem mw3_119 : (Jvm.Cond.methodLink "GongCycles" (238 : Nat) ({ cls := "GongCycles$Player", name := "versionOf", desc := "(I)LGongCycles$Melody;" } : Jvm.MethodName)) ∈ gT := List.mem_filter.mpr ⟨mt3 _ (List.mem_of_getElem? (i := 119) rfl), rfl⟩
theorem mw3_120 : (Jvm.Cond.instanceMethod ({ cls := "GongCycles$Player", name := "versionOf", desc := "(I)LGongCycles$Melody;" } : Jvm.MethodName)) ∈ gT := List.mem_filter.mpr ⟨mt3 _ (List.mem_of_getElem? (i := 120) rfl), rfl⟩
theorem mw3_121 : (Jvm.Cond.selects "GongCycles$Player" ({ cls := "GongCycles$Player", name := "versionOf", desc := "(I)LGongCycles$Melody;" } : Jvm.MethodName) ({ cls := "GongCycles$Player", name := "versionOf", desc := "(I)LGongCycles$Melody;" } : Jvm.MethodName)) ∈ gT := List.mem_filter.mpr ⟨mt3 _ (List.mem_of_getElem? (i := 121) rfl), rfl⟩
theorem mw3_122 : (Jvm.Cond.code ({ cls := "GongCycles$Player", name := "versionOf", desc := "(I)LGongCycles$Melody;" } : Jvm.MethodName) prog_5_method_2_code (2 : Nat) (Option.some (Jvm.ClassFile.FieldType.object "GongCycles$Melody"))) ∈ gT := List.mem_filter.mpr ⟨mt3 _ (List.mem_of_getElem? (i := 122) rfl), rfl⟩
theorem mw3_125 : (Jvm.Cond.methodLink "GongCycles" (231 : Nat) ({ cls := "GongCycles$Player", name := "takeVersion", desc := "(ILGongCycles$Melody;)V" } : Jvm.MethodName)) ∈ gT := List.mem_filter.mpr ⟨mt3 _ (List.mem_of_getElem? (i := 125) rfl), rfl⟩
theorem mw3_126 : (Jvm.Cond.instanceMethod ({ cls := "GongCycles$Player", name := "takeVersion", desc := "(ILGongCycles$Melody;)V" } : Jvm.MethodName)) ∈ gT := List.mem_filter.mpr ⟨mt3 _ (List.mem_of_getElem? (i := 126) rfl), rfl⟩
theorem mw3_127 : (Jvm.Cond.selects "GongCycles$Player" ({ cls := "GongCycles$Player", name := "takeVersion", desc := "(ILGongCycles$Melody;)V" } : Jvm.MethodName) ({ cls := "GongCycles$Player", name := "takeVersion", desc := "(ILGongCycles$Melody;)V" } : Jvm.MethodName)) ∈ gT := List.mem_filter.mpr ⟨mt3 _ (List.mem_of_getElem? (i := 127) rfl), rfl⟩
theorem mw3_128 : (Jvm.Cond.code ({ cls := "GongCycles$Player", name := "takeVersion", desc := "(ILGongCycles$Melody;)V" } : Jvm.MethodName) prog_5_method_3_code (4 : Nat) (Option.none : Option Jvm.ClassFile.FieldType)) ∈ gT := List.mem_filter.mpr ⟨mt3 _ (List.mem_of_getElem? (i := 128) rfl), rfl⟩
theorem mw3_129 : (Jvm.Cond.methodLink "GongCycles$Player" (21 : Nat) ({ cls := "GongCycles$Player", name := "versionOf", desc := "(I)LGongCycles$Melody;" } : Jvm.MethodName)) ∈ gT := List.mem_filter.mpr ⟨mt3 _ (List.mem_of_getElem? (i := 129) rfl), rfl⟩
theorem mw3_130 : (Jvm.Cond.methodLink "GongCycles$Player" (25 : Nat) ({ cls := "GongCycles$Melody", name := "length", desc := "()I" } : Jvm.MethodName)) ∈ gT := List.mem_filter.mpr ⟨mt3 _ (List.mem_of_getElem? (i := 130) rfl), rfl⟩
theorem mw3_131 : (Jvm.Cond.methodLink "GongCycles$Player" (29 : Nat) ({ cls := "GongCycles$Melody", name := "<init>", desc := "(I)V" } : Jvm.MethodName)) ∈ gT := List.mem_filter.mpr ⟨mt3 _ (List.mem_of_getElem? (i := 131) rfl), rfl⟩
theorem mw3_132 : (Jvm.Cond.methodLink "GongCycles$Player" (32 : Nat) ({ cls := "GongCycles$Melody", name := "takeFrom", desc := "(LGongCycles$Melody;)V" } : Jvm.MethodName)) ∈ gT := List.mem_filter.mpr ⟨mt3 _ (List.mem_of_getElem? (i := 132) rfl), rfl⟩
theorem mw3_133 : (Jvm.Cond.instanceMethod ({ cls := "GongCycles$Melody", name := "takeFrom", desc := "(LGongCycles$Melody;)V" } : Jvm.MethodName)) ∈ gT := List.mem_filter.mpr ⟨mt3 _ (List.mem_of_getElem? (i := 133) rfl), rfl⟩
theorem mw3_134 : (Jvm.Cond.selects "GongCycles$Melody" ({ cls := "GongCycles$Melody", name := "takeFrom", desc := "(LGongCycles$Melody;)V" } : Jvm.MethodName) ({ cls := "GongCycles$Melody", name := "takeFrom", desc := "(LGongCycles$Melody;)V" } : Jvm.MethodName)) ∈ gT := List.mem_filter.mpr ⟨mt3 _ (List.mem_of_getElem? (i := 134) rfl), rfl⟩
theorem mw3_135 : (Jvm.Cond.code ({ cls := "GongCycles$Melody", name := "takeFrom", desc := "(LGongCycles$Melody;)V" } : Jvm.MethodName) prog_3_method_7_code (3 : Nat) (Option.none : Option Jvm.ClassFile.FieldType)) ∈ gT := List.mem_filter.mpr ⟨mt3 _ (List.mem_of_getElem? (i := 135) rfl), rfl⟩
theorem mw3_136 : (Jvm.Cond.methodLink "GongCycles$Melody" (27 : Nat) ({ cls := "GongCycles$Melody", name := "put", desc := "(II)I" } : Jvm.MethodName)) ∈ gT := List.mem_filter.mpr ⟨mt3 _ (List.mem_of_getElem? (i := 136) rfl), rfl⟩
theorem mw3_137 : (Jvm.Cond.methodLink "GongCycles" (235 : Nat) ({ cls := "GongCycles", name := "knowersOf", desc := "(I)I" } : Jvm.MethodName)) ∈ gT := List.mem_filter.mpr ⟨mt3 _ (List.mem_of_getElem? (i := 137) rfl), rfl⟩
theorem mw3_139 : (Jvm.Cond.instanceMethod ({ cls := "GongCycles", name := "knowersOf", desc := "(I)I" } : Jvm.MethodName)) ∈ gT := List.mem_filter.mpr ⟨mt3 _ (List.mem_of_getElem? (i := 139) rfl), rfl⟩
theorem mw3_140 : (Jvm.Cond.code ({ cls := "GongCycles", name := "knowersOf", desc := "(I)I" } : Jvm.MethodName) prog_1_method_32_code (4 : Nat) (Option.some Jvm.ClassFile.FieldType.int)) ∈ gT := List.mem_filter.mpr ⟨mt3 _ (List.mem_of_getElem? (i := 140) rfl), rfl⟩
theorem mw3_141 : (Jvm.Cond.methodLink "GongCyclesLaw" (175 : Nat) ({ cls := "GongCyclesLaw", name := "slip", desc := "(LGongCycles;IIII[J)I" } : Jvm.MethodName)) ∈ gT := List.mem_filter.mpr ⟨mt3 _ (List.mem_of_getElem? (i := 141) rfl), rfl⟩
theorem mw3_142 : (Jvm.Cond.static ({ cls := "GongCyclesLaw", name := "slip", desc := "(LGongCycles;IIII[J)I" } : Jvm.MethodName)) ∈ gT := List.mem_filter.mpr ⟨mt3 _ (List.mem_of_getElem? (i := 142) rfl), rfl⟩
theorem mw3_143 : (Jvm.Cond.codeWith ({ cls := "GongCyclesLaw", name := "slip", desc := "(LGongCycles;IIII[J)I" } : Jvm.MethodName) method_24_code (7 : Nat) (Option.some Jvm.ClassFile.FieldType.int) [((0 : Nat), (14 : Nat), (17 : Nat), (21 : Nat)), ((0 : Nat), (14 : Nat), (21 : Nat), (13 : Nat)), ((0 : Nat), (14 : Nat), (25 : Nat), (15 : Nat))]) ∈ gT := List.mem_filter.mpr ⟨mt3 _ (List.mem_of_getElem? (i := 143) rfl), rfl⟩
theorem mw3_144 : (Jvm.Cond.methodLink "GongCyclesLaw" (83 : Nat) ({ cls := "GongCycles", name := "slip", desc := "(IIII)I" } : Jvm.MethodName)) ∈ gT := List.mem_filter.mpr ⟨mt3 _ (List.mem_of_getElem? (i := 144) rfl), rfl⟩
theorem mw3_145 : (Jvm.Cond.instanceMethod ({ cls := "GongCycles", name := "slip", desc := "(IIII)I" } : Jvm.MethodName)) ∈ gT := List.mem_filter.mpr ⟨mt3 _ (List.mem_of_getElem? (i := 145) rfl), rfl⟩
theorem mw3_146 : (Jvm.Cond.selects "GongCycles" ({ cls := "GongCycles", name := "slip", desc := "(IIII)I" } : Jvm.MethodName) ({ cls := "GongCycles", name := "slip", desc := "(IIII)I" } : Jvm.MethodName)) ∈ gT := List.mem_filter.mpr ⟨mt3 _ (List.mem_of_getElem? (i := 146) rfl), rfl⟩
theorem mw3_147 : (Jvm.Cond.code ({ cls := "GongCycles", name := "slip", desc := "(IIII)I" } : Jvm.MethodName) prog_1_method_24_code (7 : Nat) (Option.some Jvm.ClassFile.FieldType.int)) ∈ gT := List.mem_filter.mpr ⟨mt3 _ (List.mem_of_getElem? (i := 147) rfl), rfl⟩
theorem mw3_149 : (Jvm.Cond.methodLink "GongCyclesLaw" (179 : Nat) ({ cls := "GongCyclesLaw", name := "unlike", desc := "(LGongCycles;III[J)I" } : Jvm.MethodName)) ∈ gT := List.mem_filter.mpr ⟨mt3 _ (List.mem_of_getElem? (i := 149) rfl), rfl⟩
theorem mw3_150 : (Jvm.Cond.static ({ cls := "GongCyclesLaw", name := "unlike", desc := "(LGongCycles;III[J)I" } : Jvm.MethodName)) ∈ gT := List.mem_filter.mpr ⟨mt3 _ (List.mem_of_getElem? (i := 150) rfl), rfl⟩
theorem mw3_151 : (Jvm.Cond.codeWith ({ cls := "GongCyclesLaw", name := "unlike", desc := "(LGongCycles;III[J)I" } : Jvm.MethodName) method_25_code (6 : Nat) (Option.some Jvm.ClassFile.FieldType.int) [((0 : Nat), (12 : Nat), (15 : Nat), (21 : Nat))]) ∈ gT := List.mem_filter.mpr ⟨mt3 _ (List.mem_of_getElem? (i := 151) rfl), rfl⟩
theorem mw3_152 : (Jvm.Cond.methodLink "GongCyclesLaw" (87 : Nat) ({ cls := "GongCycles", name := "unlike", desc := "(III)I" } : Jvm.MethodName)) ∈ gT := List.mem_filter.mpr ⟨mt3 _ (List.mem_of_getElem? (i := 152) rfl), rfl⟩
theorem mw3_153 : (Jvm.Cond.instanceMethod ({ cls := "GongCycles", name := "unlike", desc := "(III)I" } : Jvm.MethodName)) ∈ gT := List.mem_filter.mpr ⟨mt3 _ (List.mem_of_getElem? (i := 153) rfl), rfl⟩
theorem mw3_154 : (Jvm.Cond.selects "GongCycles" ({ cls := "GongCycles", name := "unlike", desc := "(III)I" } : Jvm.MethodName) ({ cls := "GongCycles", name := "unlike", desc := "(III)I" } : Jvm.MethodName)) ∈ gT := List.mem_filter.mpr ⟨mt3 _ (List.mem_of_getElem? (i := 154) rfl), rfl⟩
theorem mw3_155 : (Jvm.Cond.code ({ cls := "GongCycles", name := "unlike", desc := "(III)I" } : Jvm.MethodName) prog_1_method_25_code (7 : Nat) (Option.some Jvm.ClassFile.FieldType.int)) ∈ gT := List.mem_filter.mpr ⟨mt3 _ (List.mem_of_getElem? (i := 155) rfl), rfl⟩
theorem mw3_156 : (Jvm.Cond.methodLink "GongCycles" (244 : Nat) ({ cls := "GongCycles$Melody", name := "placesUnlike", desc := "(LGongCycles$Melody;)I" } : Jvm.MethodName)) ∈ gT := List.mem_filter.mpr ⟨mt3 _ (List.mem_of_getElem? (i := 156) rfl), rfl⟩
theorem mw3_157 : (Jvm.Cond.instanceMethod ({ cls := "GongCycles$Melody", name := "placesUnlike", desc := "(LGongCycles$Melody;)I" } : Jvm.MethodName)) ∈ gT := List.mem_filter.mpr ⟨mt3 _ (List.mem_of_getElem? (i := 157) rfl), rfl⟩
theorem mw3_158 : (Jvm.Cond.selects "GongCycles$Melody" ({ cls := "GongCycles$Melody", name := "placesUnlike", desc := "(LGongCycles$Melody;)I" } : Jvm.MethodName) ({ cls := "GongCycles$Melody", name := "placesUnlike", desc := "(LGongCycles$Melody;)I" } : Jvm.MethodName)) ∈ gT := List.mem_filter.mpr ⟨mt3 _ (List.mem_of_getElem? (i := 158) rfl), rfl⟩
theorem mw3_159 : (Jvm.Cond.code ({ cls := "GongCycles$Melody", name := "placesUnlike", desc := "(LGongCycles$Melody;)I" } : Jvm.MethodName) prog_3_method_8_code (4 : Nat) (Option.some Jvm.ClassFile.FieldType.int)) ∈ gT := List.mem_filter.mpr ⟨mt3 _ (List.mem_of_getElem? (i := 159) rfl), rfl⟩
theorem mw3_160 : (Jvm.Cond.methodLink "GongCyclesLaw" (182 : Nat) ({ cls := "GongCyclesLaw", name := "covered", desc := "(LGongCycles;I[J)I" } : Jvm.MethodName)) ∈ gT := List.mem_filter.mpr ⟨mt3 _ (List.mem_of_getElem? (i := 160) rfl), rfl⟩
theorem mw3_161 : (Jvm.Cond.static ({ cls := "GongCyclesLaw", name := "covered", desc := "(LGongCycles;I[J)I" } : Jvm.MethodName)) ∈ gT := List.mem_filter.mpr ⟨mt3 _ (List.mem_of_getElem? (i := 161) rfl), rfl⟩
theorem mw3_162 : (Jvm.Cond.codeWith ({ cls := "GongCyclesLaw", name := "covered", desc := "(LGongCycles;I[J)I" } : Jvm.MethodName) method_26_code (4 : Nat) (Option.some Jvm.ClassFile.FieldType.int) [((0 : Nat), (9 : Nat), (12 : Nat), (21 : Nat))]) ∈ gT := List.mem_filter.mpr ⟨mt3 _ (List.mem_of_getElem? (i := 162) rfl), rfl⟩
theorem mw3_163 : (Jvm.Cond.methodLink "GongCyclesLaw" (90 : Nat) ({ cls := "GongCycles", name := "covered", desc := "(I)I" } : Jvm.MethodName)) ∈ gT := List.mem_filter.mpr ⟨mt3 _ (List.mem_of_getElem? (i := 163) rfl), rfl⟩
theorem mw3_164 : (Jvm.Cond.instanceMethod ({ cls := "GongCycles", name := "covered", desc := "(I)I" } : Jvm.MethodName)) ∈ gT := List.mem_filter.mpr ⟨mt3 _ (List.mem_of_getElem? (i := 164) rfl), rfl⟩
theorem mw3_165 : (Jvm.Cond.selects "GongCycles" ({ cls := "GongCycles", name := "covered", desc := "(I)I" } : Jvm.MethodName) ({ cls := "GongCycles", name := "covered", desc := "(I)I" } : Jvm.MethodName)) ∈ gT := List.mem_filter.mpr ⟨mt3 _ (List.mem_of_getElem? (i := 165) rfl), rfl⟩
theorem mw3_166 : (Jvm.Cond.code ({ cls := "GongCycles", name := "covered", desc := "(I)I" } : Jvm.MethodName) prog_1_method_26_code (5 : Nat) (Option.some Jvm.ClassFile.FieldType.int)) ∈ gT := List.mem_filter.mpr ⟨mt3 _ (List.mem_of_getElem? (i := 166) rfl), rfl⟩
theorem mw3_167 : (Jvm.Cond.methodLink "GongCycles" (251 : Nat) ({ cls := "GongCycles", name := "withOnePlayerMore", desc := "(II)I" } : Jvm.MethodName)) ∈ gT := List.mem_filter.mpr ⟨mt3 _ (List.mem_of_getElem? (i := 167) rfl), rfl⟩
theorem mw3_168 : (Jvm.Cond.static ({ cls := "GongCycles", name := "withOnePlayerMore", desc := "(II)I" } : Jvm.MethodName)) ∈ gT := List.mem_filter.mpr ⟨mt3 _ (List.mem_of_getElem? (i := 168) rfl), rfl⟩
theorem mw3_169 : (Jvm.Cond.code ({ cls := "GongCycles", name := "withOnePlayerMore", desc := "(II)I" } : Jvm.MethodName) prog_1_method_47_code (5 : Nat) (Option.some Jvm.ClassFile.FieldType.int)) ∈ gT := List.mem_filter.mpr ⟨mt3 _ (List.mem_of_getElem? (i := 169) rfl), rfl⟩
theorem mw3_170 : (Jvm.Cond.methodLink "GongCycles" (254 : Nat) ({ cls := "GongCycles", name := "mostParts", desc := "(I)I" } : Jvm.MethodName)) ∈ gT := List.mem_filter.mpr ⟨mt3 _ (List.mem_of_getElem? (i := 170) rfl), rfl⟩
theorem mw3_171 : (Jvm.Cond.static ({ cls := "GongCycles", name := "mostParts", desc := "(I)I" } : Jvm.MethodName)) ∈ gT := List.mem_filter.mpr ⟨mt3 _ (List.mem_of_getElem? (i := 171) rfl), rfl⟩
theorem mw3_172 : (Jvm.Cond.code ({ cls := "GongCycles", name := "mostParts", desc := "(I)I" } : Jvm.MethodName) prog_1_method_48_code (3 : Nat) (Option.some Jvm.ClassFile.FieldType.int)) ∈ gT := List.mem_filter.mpr ⟨mt3 _ (List.mem_of_getElem? (i := 172) rfl), rfl⟩
theorem mw3_173 : (Jvm.Cond.methodLink "GongCycles" (310 : Nat) ({ cls := "java/lang/Integer", name := "bitCount", desc := "(I)I" } : Jvm.MethodName)) ∈ gT := List.mem_filter.mpr ⟨mt3 _ (List.mem_of_getElem? (i := 173) rfl), rfl⟩
theorem mw3_174 : (Jvm.Cond.static ({ cls := "java/lang/Integer", name := "bitCount", desc := "(I)I" } : Jvm.MethodName)) ∈ gT := List.mem_filter.mpr ⟨mt3 _ (List.mem_of_getElem? (i := 174) rfl), rfl⟩
theorem mw3_175 : (Jvm.Cond.code ({ cls := "java/lang/Integer", name := "bitCount", desc := "(I)I" } : Jvm.MethodName) prog_13_method_49_code (1 : Nat) (Option.some Jvm.ClassFile.FieldType.int)) ∈ gT := List.mem_filter.mpr ⟨mt3 _ (List.mem_of_getElem? (i := 175) rfl), rfl⟩
theorem mw3_176 : (Jvm.Cond.constant "java/lang/Integer" (265 : Nat) (1431655765 : Int32)) ∈ gT := List.mem_filter.mpr ⟨mt3 _ (List.mem_of_getElem? (i := 176) rfl), rfl⟩
theorem mw3_177 : (Jvm.Cond.constant "java/lang/Integer" (266 : Nat) (858993459 : Int32)) ∈ gT := List.mem_filter.mpr ⟨mt3 _ (List.mem_of_getElem? (i := 177) rfl), rfl⟩
theorem mw3_178 : (Jvm.Cond.constant "java/lang/Integer" (267 : Nat) (252645135 : Int32)) ∈ gT := List.mem_filter.mpr ⟨mt3 _ (List.mem_of_getElem? (i := 178) rfl), rfl⟩
theorem mw3_179 : (Jvm.Cond.methodLink "GongCycles" (315 : Nat) ({ cls := "java/lang/Math", name := "max", desc := "(II)I" } : Jvm.MethodName)) ∈ gT := List.mem_filter.mpr ⟨mt3 _ (List.mem_of_getElem? (i := 179) rfl), rfl⟩
theorem mw3_180 : (Jvm.Cond.classLink "GongCyclesLaw" (94 : Nat) "GongCyclesModel") ∈ gT := List.mem_filter.mpr ⟨mt3 _ (List.mem_of_getElem? (i := 180) rfl), rfl⟩
theorem mw3_181 : (Jvm.Cond.instantiable "GongCyclesModel" (26 : Nat)) ∈ gT := List.mem_filter.mpr ⟨mt3 _ (List.mem_of_getElem? (i := 181) rfl), rfl⟩
theorem mw3_182 : (Jvm.Cond.methodLink "GongCyclesLaw" (96 : Nat) ({ cls := "GongCyclesModel", name := "<init>", desc := "()V" } : Jvm.MethodName)) ∈ gT := List.mem_filter.mpr ⟨mt3 _ (List.mem_of_getElem? (i := 182) rfl), rfl⟩
theorem mw3_183 : (Jvm.Cond.instanceMethod ({ cls := "GongCyclesModel", name := "<init>", desc := "()V" } : Jvm.MethodName)) ∈ gT := List.mem_filter.mpr ⟨mt3 _ (List.mem_of_getElem? (i := 183) rfl), rfl⟩
theorem mw3_184 : (Jvm.Cond.code ({ cls := "GongCyclesModel", name := "<init>", desc := "()V" } : Jvm.MethodName) prog_8_method_1_code (2 : Nat) (Option.none : Option Jvm.ClassFile.FieldType)) ∈ gT := List.mem_filter.mpr ⟨mt3 _ (List.mem_of_getElem? (i := 184) rfl), rfl⟩
theorem mw3_185 : (Jvm.Cond.methodLink "GongCyclesModel" (1 : Nat) ({ cls := "java/lang/Object", name := "<init>", desc := "()V" } : Jvm.MethodName)) ∈ gT := List.mem_filter.mpr ⟨mt3 _ (List.mem_of_getElem? (i := 185) rfl), rfl⟩
theorem mw3_186 : (Jvm.Cond.constant "GongCyclesModel" (46 : Nat) (44000 : Int32)) ∈ gT := List.mem_filter.mpr ⟨mt3 _ (List.mem_of_getElem? (i := 186) rfl), rfl⟩
theorem mw3_187 : (Jvm.Cond.fieldLink "GongCyclesModel" (7 : Nat) "GongCyclesModel" "lengths" "[I") ∈ gT := List.mem_filter.mpr ⟨mt3 _ (List.mem_of_getElem? (i := 187) rfl), rfl⟩
theorem mw3_188 : (Jvm.Cond.fieldLink "GongCyclesModel" (50 : Nat) "GongCyclesModel" "forms" "I") ∈ gT := List.mem_filter.mpr ⟨mt3 _ (List.mem_of_getElem? (i := 188) rfl), rfl⟩
theorem mw3_189 : (Jvm.Cond.fieldLink "GongCyclesModel" (13 : Nat) "GongCyclesModel" "formOf" "[I") ∈ gT := List.mem_filter.mpr ⟨mt3 _ (List.mem_of_getElem? (i := 189) rfl), rfl⟩
theorem mw3_190 : (Jvm.Cond.fieldLink "GongCyclesModel" (16 : Nat) "GongCyclesModel" "forbidden" "[I") ∈ gT := List.mem_filter.mpr ⟨mt3 _ (List.mem_of_getElem? (i := 190) rfl), rfl⟩
theorem mw3_191 : (Jvm.Cond.fieldLink "GongCyclesModel" (19 : Nat) "GongCyclesModel" "tones" "[I") ∈ gT := List.mem_filter.mpr ⟨mt3 _ (List.mem_of_getElem? (i := 191) rfl), rfl⟩
theorem mw3_192 : (Jvm.Cond.fieldLink "GongCyclesModel" (57 : Nat) "GongCyclesModel" "pieces" "I") ∈ gT := List.mem_filter.mpr ⟨mt3 _ (List.mem_of_getElem? (i := 192) rfl), rfl⟩
theorem mw3_193 : (Jvm.Cond.fieldLink "GongCyclesModel" (102 : Nat) "GongCyclesModel" "isPlayed" "Z") ∈ gT := List.mem_filter.mpr ⟨mt3 _ (List.mem_of_getElem? (i := 193) rfl), rfl⟩
theorem mw3_194 : (Jvm.Cond.fieldLink "GongCyclesModel" (22 : Nat) "GongCyclesModel" "current" "I") ∈ gT := List.mem_filter.mpr ⟨mt3 _ (List.mem_of_getElem? (i := 194) rfl), rfl⟩
theorem mw3_195 : (Jvm.Cond.fieldLink "GongCyclesModel" (109 : Nat) "GongCyclesModel" "place" "I") ∈ gT := List.mem_filter.mpr ⟨mt3 _ (List.mem_of_getElem? (i := 195) rfl), rfl⟩
theorem mw3_196 : (Jvm.Cond.fieldLink "GongCyclesModel" (112 : Nat) "GongCyclesModel" "beat" "I") ∈ gT := List.mem_filter.mpr ⟨mt3 _ (List.mem_of_getElem? (i := 196) rfl), rfl⟩
theorem mw3_197 : (Jvm.Cond.fieldLink "GongCyclesModel" (115 : Nat) "GongCyclesModel" "level" "I") ∈ gT := List.mem_filter.mpr ⟨mt3 _ (List.mem_of_getElem? (i := 197) rfl), rfl⟩
theorem mw3_198 : (Jvm.Cond.fieldLink "GongCyclesModel" (118 : Nat) "GongCyclesModel" "gongs" "I") ∈ gT := List.mem_filter.mpr ⟨mt3 _ (List.mem_of_getElem? (i := 198) rfl), rfl⟩
theorem mw3_199 : (Jvm.Cond.fieldLink "GongCyclesModel" (121 : Nat) "GongCyclesModel" "drums" "I") ∈ gT := List.mem_filter.mpr ⟨mt3 _ (List.mem_of_getElem? (i := 199) rfl), rfl⟩
theorem mw3_200 : (Jvm.Cond.fieldLink "GongCyclesModel" (124 : Nat) "GongCyclesModel" "ends" "I") ∈ gT := List.mem_filter.mpr ⟨mt3 _ (List.mem_of_getElem? (i := 200) rfl), rfl⟩
theorem mw3_201 : (Jvm.Cond.fieldLink "GongCyclesModel" (130 : Nat) "GongCyclesModel" "ticks" "J") ∈ gT := List.mem_filter.mpr ⟨mt3 _ (List.mem_of_getElem? (i := 201) rfl), rfl⟩
theorem mw3_202 : (Jvm.Cond.fieldLink "GongCyclesModel" (26 : Nat) "GongCyclesModel" "strokes" "[J") ∈ gT := List.mem_filter.mpr ⟨mt3 _ (List.mem_of_getElem? (i := 202) rfl), rfl⟩
theorem mw3_203 : (Jvm.Cond.fieldLink "GongCyclesModel" (127 : Nat) "GongCyclesModel" "begun" "I") ∈ gT := List.mem_filter.mpr ⟨mt3 _ (List.mem_of_getElem? (i := 203) rfl), rfl⟩
theorem mw3_204 : (Jvm.Cond.fieldLink "GongCyclesModel" (106 : Nat) "GongCyclesModel" "day" "I") ∈ gT := List.mem_filter.mpr ⟨mt3 _ (List.mem_of_getElem? (i := 204) rfl), rfl⟩
theorem mw3_205 : (Jvm.Cond.fieldLink "GongCyclesModel" (30 : Nat) "GongCyclesModel" "pitches" "[I") ∈ gT := List.mem_filter.mpr ⟨mt3 _ (List.mem_of_getElem? (i := 205) rfl), rfl⟩
theorem mw3_206 : (Jvm.Cond.fieldLink "GongCyclesModel" (33 : Nat) "GongCyclesModel" "drifts" "[I") ∈ gT := List.mem_filter.mpr ⟨mt3 _ (List.mem_of_getElem? (i := 206) rfl), rfl⟩
theorem mw3_207 : (Jvm.Cond.fieldLink "GongCyclesModel" (141 : Nat) "GongCyclesModel" "years" "I") ∈ gT := List.mem_filter.mpr ⟨mt3 _ (List.mem_of_getElem? (i := 207) rfl), rfl⟩
theorem mw3_208 : (Jvm.Cond.fieldLink "GongCyclesModel" (36 : Nat) "GongCyclesModel" "able" "[I") ∈ gT := List.mem_filter.mpr ⟨mt3 _ (List.mem_of_getElem? (i := 208) rfl), rfl⟩
theorem mw3_209 : (Jvm.Cond.fieldLink "GongCyclesModel" (39 : Nat) "GongCyclesModel" "knows" "[Z") ∈ gT := List.mem_filter.mpr ⟨mt3 _ (List.mem_of_getElem? (i := 209) rfl), rfl⟩
theorem mw3_210 : (Jvm.Cond.fieldLink "GongCyclesModel" (43 : Nat) "GongCyclesModel" "versions" "[I") ∈ gT := List.mem_filter.mpr ⟨mt3 _ (List.mem_of_getElem? (i := 210) rfl), rfl⟩
theorem mw3_211 : (Jvm.Cond.fieldLink "GongCyclesModel" (68 : Nat) "GongCyclesModel" "players" "I") ∈ gT := List.mem_filter.mpr ⟨mt3 _ (List.mem_of_getElem? (i := 211) rfl), rfl⟩
theorem mw3_212 : (Jvm.Cond.fieldLink "GongCyclesModel" (47 : Nat) "GongCyclesModel" "last" "I") ∈ gT := List.mem_filter.mpr ⟨mt3 _ (List.mem_of_getElem? (i := 212) rfl), rfl⟩
theorem mw3_213 : (Jvm.Cond.laysFinal "GongCyclesModel" "GongCyclesModel" "lengths" "[I") ∈ gT := List.mem_filter.mpr ⟨mt3 _ (List.mem_of_getElem? (i := 213) rfl), rfl⟩
theorem mw3_215 : (Jvm.Cond.lays "GongCyclesModel" "GongCyclesModel" "forms" "I") ∈ gT := List.mem_filter.mpr ⟨mt3 _ (List.mem_of_getElem? (i := 215) rfl), rfl⟩
theorem mw3_217 : (Jvm.Cond.laysFinal "GongCyclesModel" "GongCyclesModel" "formOf" "[I") ∈ gT := List.mem_filter.mpr ⟨mt3 _ (List.mem_of_getElem? (i := 217) rfl), rfl⟩
theorem mw3_219 : (Jvm.Cond.laysFinal "GongCyclesModel" "GongCyclesModel" "forbidden" "[I") ∈ gT := List.mem_filter.mpr ⟨mt3 _ (List.mem_of_getElem? (i := 219) rfl), rfl⟩
theorem mw3_221 : (Jvm.Cond.laysFinal "GongCyclesModel" "GongCyclesModel" "tones" "[I") ∈ gT := List.mem_filter.mpr ⟨mt3 _ (List.mem_of_getElem? (i := 221) rfl), rfl⟩
theorem mw3_223 : (Jvm.Cond.lays "GongCyclesModel" "GongCyclesModel" "pieces" "I") ∈ gT := List.mem_filter.mpr ⟨mt3 _ (List.mem_of_getElem? (i := 223) rfl), rfl⟩
theorem mw3_225 : (Jvm.Cond.lays "GongCyclesModel" "GongCyclesModel" "isPlayed" "Z") ∈ gT := List.mem_filter.mpr ⟨mt3 _ (List.mem_of_getElem? (i := 225) rfl), rfl⟩
theorem mw3_227 : (Jvm.Cond.lays "GongCyclesModel" "GongCyclesModel" "current" "I") ∈ gT := List.mem_filter.mpr ⟨mt3 _ (List.mem_of_getElem? (i := 227) rfl), rfl⟩
theorem mw3_229 : (Jvm.Cond.lays "GongCyclesModel" "GongCyclesModel" "place" "I") ∈ gT := List.mem_filter.mpr ⟨mt3 _ (List.mem_of_getElem? (i := 229) rfl), rfl⟩
theorem mw3_231 : (Jvm.Cond.lays "GongCyclesModel" "GongCyclesModel" "beat" "I") ∈ gT := List.mem_filter.mpr ⟨mt3 _ (List.mem_of_getElem? (i := 231) rfl), rfl⟩
theorem mw3_233 : (Jvm.Cond.lays "GongCyclesModel" "GongCyclesModel" "level" "I") ∈ gT := List.mem_filter.mpr ⟨mt3 _ (List.mem_of_getElem? (i := 233) rfl), rfl⟩
theorem mw3_235 : (Jvm.Cond.lays "GongCyclesModel" "GongCyclesModel" "gongs" "I") ∈ gT := List.mem_filter.mpr ⟨mt3 _ (List.mem_of_getElem? (i := 235) rfl), rfl⟩
theorem mw3_237 : (Jvm.Cond.lays "GongCyclesModel" "GongCyclesModel" "drums" "I") ∈ gT := List.mem_filter.mpr ⟨mt3 _ (List.mem_of_getElem? (i := 237) rfl), rfl⟩
theorem mw3_239 : (Jvm.Cond.lays "GongCyclesModel" "GongCyclesModel" "ends" "I") ∈ gT := List.mem_filter.mpr ⟨mt3 _ (List.mem_of_getElem? (i := 239) rfl), rfl⟩
theorem mw4_1 : (Jvm.Cond.lays "GongCyclesModel" "GongCyclesModel" "ticks" "J") ∈ gT := List.mem_filter.mpr ⟨mt4 _ (List.mem_of_getElem? (i := 1) rfl), rfl⟩
theorem mw4_3 : (Jvm.Cond.laysFinal "GongCyclesModel" "GongCyclesModel" "strokes" "[J") ∈ gT := List.mem_filter.mpr ⟨mt4 _ (List.mem_of_getElem? (i := 3) rfl), rfl⟩
theorem mw4_5 : (Jvm.Cond.lays "GongCyclesModel" "GongCyclesModel" "begun" "I") ∈ gT := List.mem_filter.mpr ⟨mt4 _ (List.mem_of_getElem? (i := 5) rfl), rfl⟩
theorem mw4_7 : (Jvm.Cond.lays "GongCyclesModel" "GongCyclesModel" "day" "I") ∈ gT := List.mem_filter.mpr ⟨mt4 _ (List.mem_of_getElem? (i := 7) rfl), rfl⟩
theorem mw4_9 : (Jvm.Cond.laysFinal "GongCyclesModel" "GongCyclesModel" "pitches" "[I") ∈ gT := List.mem_filter.mpr ⟨mt4 _ (List.mem_of_getElem? (i := 9) rfl), rfl⟩
theorem mw4_11 : (Jvm.Cond.laysFinal "GongCyclesModel" "GongCyclesModel" "drifts" "[I") ∈ gT := List.mem_filter.mpr ⟨mt4 _ (List.mem_of_getElem? (i := 11) rfl), rfl⟩
theorem mw4_13 : (Jvm.Cond.lays "GongCyclesModel" "GongCyclesModel" "years" "I") ∈ gT := List.mem_filter.mpr ⟨mt4 _ (List.mem_of_getElem? (i := 13) rfl), rfl⟩
theorem mw4_15 : (Jvm.Cond.laysFinal "GongCyclesModel" "GongCyclesModel" "able" "[I") ∈ gT := List.mem_filter.mpr ⟨mt4 _ (List.mem_of_getElem? (i := 15) rfl), rfl⟩
theorem mw4_17 : (Jvm.Cond.laysFinal "GongCyclesModel" "GongCyclesModel" "knows" "[Z") ∈ gT := List.mem_filter.mpr ⟨mt4 _ (List.mem_of_getElem? (i := 17) rfl), rfl⟩
theorem mw4_19 : (Jvm.Cond.laysFinal "GongCyclesModel" "GongCyclesModel" "versions" "[I") ∈ gT := List.mem_filter.mpr ⟨mt4 _ (List.mem_of_getElem? (i := 19) rfl), rfl⟩
theorem mw4_21 : (Jvm.Cond.lays "GongCyclesModel" "GongCyclesModel" "players" "I") ∈ gT := List.mem_filter.mpr ⟨mt4 _ (List.mem_of_getElem? (i := 21) rfl), rfl⟩
theorem mw4_23 : (Jvm.Cond.lays "GongCyclesModel" "GongCyclesModel" "last" "I") ∈ gT := List.mem_filter.mpr ⟨mt4 _ (List.mem_of_getElem? (i := 23) rfl), rfl⟩
theorem mw4_26 : (Jvm.Cond.arrayClass Jvm.ClassFile.FieldType.boolean) ∈ gT := List.mem_filter.mpr ⟨mt4 _ (List.mem_of_getElem? (i := 26) rfl), rfl⟩
theorem mw4_27 : (Jvm.Cond.methodLink "GongCyclesLaw" (103 : Nat) ({ cls := "GongCyclesModel", name := "thrown", desc := "()I" } : Jvm.MethodName)) ∈ gT := List.mem_filter.mpr ⟨mt4 _ (List.mem_of_getElem? (i := 27) rfl), rfl⟩
theorem mw4_28 : (Jvm.Cond.instanceMethod ({ cls := "GongCyclesModel", name := "thrown", desc := "()I" } : Jvm.MethodName)) ∈ gT := List.mem_filter.mpr ⟨mt4 _ (List.mem_of_getElem? (i := 28) rfl), rfl⟩
theorem mw4_29 : (Jvm.Cond.selects "GongCyclesModel" ({ cls := "GongCyclesModel", name := "thrown", desc := "()I" } : Jvm.MethodName) ({ cls := "GongCyclesModel", name := "thrown", desc := "()I" } : Jvm.MethodName)) ∈ gT := List.mem_filter.mpr ⟨mt4 _ (List.mem_of_getElem? (i := 29) rfl), rfl⟩
theorem mw4_30 : (Jvm.Cond.code ({ cls := "GongCyclesModel", name := "thrown", desc := "()I" } : Jvm.MethodName) prog_8_method_2_code (1 : Nat) (Option.some Jvm.ClassFile.FieldType.int)) ∈ gT := List.mem_filter.mpr ⟨mt4 _ (List.mem_of_getElem? (i := 30) rfl), rfl⟩
theorem mw4_31 : (Jvm.Cond.methodLink "GongCyclesLaw" (102 : Nat) ({ cls := "GongCyclesModel", name := "form", desc := "(I)I" } : Jvm.MethodName)) ∈ gT := List.mem_filter.mpr ⟨mt4 _ (List.mem_of_getElem? (i := 31) rfl), rfl⟩
theorem mw4_32 : (Jvm.Cond.instanceMethod ({ cls := "GongCyclesModel", name := "form", desc := "(I)I" } : Jvm.MethodName)) ∈ gT := List.mem_filter.mpr ⟨mt4 _ (List.mem_of_getElem? (i := 32) rfl), rfl⟩
theorem mw4_33 : (Jvm.Cond.selects "GongCyclesModel" ({ cls := "GongCyclesModel", name := "form", desc := "(I)I" } : Jvm.MethodName) ({ cls := "GongCyclesModel", name := "form", desc := "(I)I" } : Jvm.MethodName)) ∈ gT := List.mem_filter.mpr ⟨mt4 _ (List.mem_of_getElem? (i := 33) rfl), rfl⟩
theorem mw4_34 : (Jvm.Cond.code ({ cls := "GongCyclesModel", name := "form", desc := "(I)I" } : Jvm.MethodName) prog_8_method_12_code (2 : Nat) (Option.some Jvm.ClassFile.FieldType.int)) ∈ gT := List.mem_filter.mpr ⟨mt4 _ (List.mem_of_getElem? (i := 34) rfl), rfl⟩
theorem mw4_35 : (Jvm.Cond.methodLink "GongCyclesModel" (53 : Nat) ({ cls := "GongCyclesModel", name := "in", desc := "(III)Z" } : Jvm.MethodName)) ∈ gT := List.mem_filter.mpr ⟨mt4 _ (List.mem_of_getElem? (i := 35) rfl), rfl⟩
theorem mw4_36 : (Jvm.Cond.static ({ cls := "GongCyclesModel", name := "in", desc := "(III)Z" } : Jvm.MethodName)) ∈ gT := List.mem_filter.mpr ⟨mt4 _ (List.mem_of_getElem? (i := 36) rfl), rfl⟩
theorem mw4_37 : (Jvm.Cond.code ({ cls := "GongCyclesModel", name := "in", desc := "(III)Z" } : Jvm.MethodName) prog_8_method_3_code (3 : Nat) (Option.some Jvm.ClassFile.FieldType.boolean)) ∈ gT := List.mem_filter.mpr ⟨mt4 _ (List.mem_of_getElem? (i := 37) rfl), rfl⟩
theorem mw4_38 : (Jvm.Cond.methodLink "GongCyclesModel" (71 : Nat) ({ cls := "GongCyclesModel", name := "goes", desc := "(ZZZ)Z" } : Jvm.MethodName)) ∈ gT := List.mem_filter.mpr ⟨mt4 _ (List.mem_of_getElem? (i := 38) rfl), rfl⟩
theorem mw4_40 : (Jvm.Cond.instanceMethod ({ cls := "GongCyclesModel", name := "goes", desc := "(ZZZ)Z" } : Jvm.MethodName)) ∈ gT := List.mem_filter.mpr ⟨mt4 _ (List.mem_of_getElem? (i := 40) rfl), rfl⟩
theorem mw4_41 : (Jvm.Cond.code ({ cls := "GongCyclesModel", name := "goes", desc := "(ZZZ)Z" } : Jvm.MethodName) prog_8_method_4_code (4 : Nat) (Option.some Jvm.ClassFile.FieldType.boolean)) ∈ gT := List.mem_filter.mpr ⟨mt4 _ (List.mem_of_getElem? (i := 41) rfl), rfl⟩
theorem mw4_42 : (Jvm.Cond.methodLink "GongCyclesLaw" (110 : Nat) ({ cls := "GongCyclesModel", name := "depth", desc := "(II)I" } : Jvm.MethodName)) ∈ gT := List.mem_filter.mpr ⟨mt4 _ (List.mem_of_getElem? (i := 42) rfl), rfl⟩
theorem mw4_43 : (Jvm.Cond.instanceMethod ({ cls := "GongCyclesModel", name := "depth", desc := "(II)I" } : Jvm.MethodName)) ∈ gT := List.mem_filter.mpr ⟨mt4 _ (List.mem_of_getElem? (i := 43) rfl), rfl⟩
theorem mw4_44 : (Jvm.Cond.selects "GongCyclesModel" ({ cls := "GongCyclesModel", name := "depth", desc := "(II)I" } : Jvm.MethodName) ({ cls := "GongCyclesModel", name := "depth", desc := "(II)I" } : Jvm.MethodName)) ∈ gT := List.mem_filter.mpr ⟨mt4 _ (List.mem_of_getElem? (i := 44) rfl), rfl⟩
theorem mw4_45 : (Jvm.Cond.code ({ cls := "GongCyclesModel", name := "depth", desc := "(II)I" } : Jvm.MethodName) prog_8_method_13_code (5 : Nat) (Option.some Jvm.ClassFile.FieldType.int)) ∈ gT := List.mem_filter.mpr ⟨mt4 _ (List.mem_of_getElem? (i := 45) rfl), rfl⟩
theorem mw4_46 : (Jvm.Cond.methodLink "GongCyclesModel" (75 : Nat) ({ cls := "GongCyclesModel", name := "isForm", desc := "(I)Z" } : Jvm.MethodName)) ∈ gT := List.mem_filter.mpr ⟨mt4 _ (List.mem_of_getElem? (i := 46) rfl), rfl⟩
theorem mw4_48 : (Jvm.Cond.instanceMethod ({ cls := "GongCyclesModel", name := "isForm", desc := "(I)Z" } : Jvm.MethodName)) ∈ gT := List.mem_filter.mpr ⟨mt4 _ (List.mem_of_getElem? (i := 48) rfl), rfl⟩
theorem mw4_49 : (Jvm.Cond.code ({ cls := "GongCyclesModel", name := "isForm", desc := "(I)Z" } : Jvm.MethodName) prog_8_method_5_code (2 : Nat) (Option.some Jvm.ClassFile.FieldType.boolean)) ∈ gT := List.mem_filter.mpr ⟨mt4 _ (List.mem_of_getElem? (i := 49) rfl), rfl⟩
theorem mw4_50 : (Jvm.Cond.methodLink "GongCyclesLaw" (113 : Nat) ({ cls := "GongCyclesModel", name := "piece", desc := "(I)I" } : Jvm.MethodName)) ∈ gT := List.mem_filter.mpr ⟨mt4 _ (List.mem_of_getElem? (i := 50) rfl), rfl⟩
theorem mw4_51 : (Jvm.Cond.instanceMethod ({ cls := "GongCyclesModel", name := "piece", desc := "(I)I" } : Jvm.MethodName)) ∈ gT := List.mem_filter.mpr ⟨mt4 _ (List.mem_of_getElem? (i := 51) rfl), rfl⟩
theorem mw4_52 : (Jvm.Cond.selects "GongCyclesModel" ({ cls := "GongCyclesModel", name := "piece", desc := "(I)I" } : Jvm.MethodName) ({ cls := "GongCyclesModel", name := "piece", desc := "(I)I" } : Jvm.MethodName)) ∈ gT := List.mem_filter.mpr ⟨mt4 _ (List.mem_of_getElem? (i := 52) rfl), rfl⟩
theorem mw4_53 : (Jvm.Cond.code ({ cls := "GongCyclesModel", name := "piece", desc := "(I)I" } : Jvm.MethodName) prog_8_method_14_code (2 : Nat) (Option.some Jvm.ClassFile.FieldType.int)) ∈ gT := List.mem_filter.mpr ⟨mt4 _ (List.mem_of_getElem? (i := 53) rfl), rfl⟩
theorem mw4_54 : (Jvm.Cond.methodLink "GongCyclesLaw" (117 : Nat) ({ cls := "GongCyclesModel", name := "tone", desc := "(III)I" } : Jvm.MethodName)) ∈ gT := List.mem_filter.mpr ⟨mt4 _ (List.mem_of_getElem? (i := 54) rfl), rfl⟩
theorem mw4_55 : (Jvm.Cond.instanceMethod ({ cls := "GongCyclesModel", name := "tone", desc := "(III)I" } : Jvm.MethodName)) ∈ gT := List.mem_filter.mpr ⟨mt4 _ (List.mem_of_getElem? (i := 55) rfl), rfl⟩
theorem mw4_56 : (Jvm.Cond.selects "GongCyclesModel" ({ cls := "GongCyclesModel", name := "tone", desc := "(III)I" } : Jvm.MethodName) ({ cls := "GongCyclesModel", name := "tone", desc := "(III)I" } : Jvm.MethodName)) ∈ gT := List.mem_filter.mpr ⟨mt4 _ (List.mem_of_getElem? (i := 56) rfl), rfl⟩
theorem mw4_57 : (Jvm.Cond.code ({ cls := "GongCyclesModel", name := "tone", desc := "(III)I" } : Jvm.MethodName) prog_8_method_15_code (5 : Nat) (Option.some Jvm.ClassFile.FieldType.int)) ∈ gT := List.mem_filter.mpr ⟨mt4 _ (List.mem_of_getElem? (i := 57) rfl), rfl⟩
theorem mw4_58 : (Jvm.Cond.methodLink "GongCyclesModel" (78 : Nat) ({ cls := "GongCyclesModel", name := "isPlace", desc := "(II)Z" } : Jvm.MethodName)) ∈ gT := List.mem_filter.mpr ⟨mt4 _ (List.mem_of_getElem? (i := 58) rfl), rfl⟩
theorem mw4_60 : (Jvm.Cond.instanceMethod ({ cls := "GongCyclesModel", name := "isPlace", desc := "(II)Z" } : Jvm.MethodName)) ∈ gT := List.mem_filter.mpr ⟨mt4 _ (List.mem_of_getElem? (i := 60) rfl), rfl⟩
theorem mw4_61 : (Jvm.Cond.code ({ cls := "GongCyclesModel", name := "isPlace", desc := "(II)Z" } : Jvm.MethodName) prog_8_method_8_code (3 : Nat) (Option.some Jvm.ClassFile.FieldType.boolean)) ∈ gT := List.mem_filter.mpr ⟨mt4 _ (List.mem_of_getElem? (i := 61) rfl), rfl⟩
theorem mw4_62 : (Jvm.Cond.methodLink "GongCyclesModel" (60 : Nat) ({ cls := "GongCyclesModel", name := "isPiece", desc := "(I)Z" } : Jvm.MethodName)) ∈ gT := List.mem_filter.mpr ⟨mt4 _ (List.mem_of_getElem? (i := 62) rfl), rfl⟩
theorem mw4_64 : (Jvm.Cond.instanceMethod ({ cls := "GongCyclesModel", name := "isPiece", desc := "(I)Z" } : Jvm.MethodName)) ∈ gT := List.mem_filter.mpr ⟨mt4 _ (List.mem_of_getElem? (i := 64) rfl), rfl⟩
theorem mw4_65 : (Jvm.Cond.code ({ cls := "GongCyclesModel", name := "isPiece", desc := "(I)Z" } : Jvm.MethodName) prog_8_method_6_code (2 : Nat) (Option.some Jvm.ClassFile.FieldType.boolean)) ∈ gT := List.mem_filter.mpr ⟨mt4 _ (List.mem_of_getElem? (i := 65) rfl), rfl⟩
theorem mw4_66 : (Jvm.Cond.methodLink "GongCyclesModel" (64 : Nat) ({ cls := "GongCyclesModel", name := "lengthOf", desc := "(I)I" } : Jvm.MethodName)) ∈ gT := List.mem_filter.mpr ⟨mt4 _ (List.mem_of_getElem? (i := 66) rfl), rfl⟩
theorem mw4_68 : (Jvm.Cond.instanceMethod ({ cls := "GongCyclesModel", name := "lengthOf", desc := "(I)I" } : Jvm.MethodName)) ∈ gT := List.mem_filter.mpr ⟨mt4 _ (List.mem_of_getElem? (i := 68) rfl), rfl⟩
theorem mw4_69 : (Jvm.Cond.code ({ cls := "GongCyclesModel", name := "lengthOf", desc := "(I)I" } : Jvm.MethodName) prog_8_method_7_code (2 : Nat) (Option.some Jvm.ClassFile.FieldType.int)) ∈ gT := List.mem_filter.mpr ⟨mt4 _ (List.mem_of_getElem? (i := 69) rfl), rfl⟩
theorem mw4_70 : (Jvm.Cond.methodLink "GongCyclesLaw" (120 : Nat) ({ cls := "GongCyclesModel", name := "forbid", desc := "(II)I" } : Jvm.MethodName)) ∈ gT := List.mem_filter.mpr ⟨mt4 _ (List.mem_of_getElem? (i := 70) rfl), rfl⟩
theorem mw4_71 : (Jvm.Cond.instanceMethod ({ cls := "GongCyclesModel", name := "forbid", desc := "(II)I" } : Jvm.MethodName)) ∈ gT := List.mem_filter.mpr ⟨mt4 _ (List.mem_of_getElem? (i := 71) rfl), rfl⟩
theorem mw4_72 : (Jvm.Cond.selects "GongCyclesModel" ({ cls := "GongCyclesModel", name := "forbid", desc := "(II)I" } : Jvm.MethodName) ({ cls := "GongCyclesModel", name := "forbid", desc := "(II)I" } : Jvm.MethodName)) ∈ gT := List.mem_filter.mpr ⟨mt4 _ (List.mem_of_getElem? (i := 72) rfl), rfl⟩
theorem mw4_73 : (Jvm.Cond.code ({ cls := "GongCyclesModel", name := "forbid", desc := "(II)I" } : Jvm.MethodName) prog_8_method_16_code (4 : Nat) (Option.some Jvm.ClassFile.FieldType.int)) ∈ gT := List.mem_filter.mpr ⟨mt4 _ (List.mem_of_getElem? (i := 73) rfl), rfl⟩
theorem mw4_74 : (Jvm.Cond.methodLink "GongCyclesLaw" (123 : Nat) ({ cls := "GongCyclesModel", name := "sounds", desc := "(II)I" } : Jvm.MethodName)) ∈ gT := List.mem_filter.mpr ⟨mt4 _ (List.mem_of_getElem? (i := 74) rfl), rfl⟩
theorem mw4_75 : (Jvm.Cond.instanceMethod ({ cls := "GongCyclesModel", name := "sounds", desc := "(II)I" } : Jvm.MethodName)) ∈ gT := List.mem_filter.mpr ⟨mt4 _ (List.mem_of_getElem? (i := 75) rfl), rfl⟩
theorem mw4_76 : (Jvm.Cond.selects "GongCyclesModel" ({ cls := "GongCyclesModel", name := "sounds", desc := "(II)I" } : Jvm.MethodName) ({ cls := "GongCyclesModel", name := "sounds", desc := "(II)I" } : Jvm.MethodName)) ∈ gT := List.mem_filter.mpr ⟨mt4 _ (List.mem_of_getElem? (i := 76) rfl), rfl⟩
theorem mw4_77 : (Jvm.Cond.code ({ cls := "GongCyclesModel", name := "sounds", desc := "(II)I" } : Jvm.MethodName) prog_8_method_18_code (3 : Nat) (Option.some Jvm.ClassFile.FieldType.int)) ∈ gT := List.mem_filter.mpr ⟨mt4 _ (List.mem_of_getElem? (i := 77) rfl), rfl⟩
theorem mw4_78 : (Jvm.Cond.methodLink "GongCyclesModel" (82 : Nat) ({ cls := "GongCyclesModel", name := "soundOf", desc := "(II)I" } : Jvm.MethodName)) ∈ gT := List.mem_filter.mpr ⟨mt4 _ (List.mem_of_getElem? (i := 78) rfl), rfl⟩
theorem mw4_80 : (Jvm.Cond.instanceMethod ({ cls := "GongCyclesModel", name := "soundOf", desc := "(II)I" } : Jvm.MethodName)) ∈ gT := List.mem_filter.mpr ⟨mt4 _ (List.mem_of_getElem? (i := 80) rfl), rfl⟩
theorem mw4_81 : (Jvm.Cond.code ({ cls := "GongCyclesModel", name := "soundOf", desc := "(II)I" } : Jvm.MethodName) prog_8_method_17_code (5 : Nat) (Option.some Jvm.ClassFile.FieldType.int)) ∈ gT := List.mem_filter.mpr ⟨mt4 _ (List.mem_of_getElem? (i := 81) rfl), rfl⟩
theorem mw4_82 : (Jvm.Cond.methodLink "GongCyclesLaw" (127 : Nat) ({ cls := "GongCyclesModel", name := "stroke", desc := "(IIIII)I" } : Jvm.MethodName)) ∈ gT := List.mem_filter.mpr ⟨mt4 _ (List.mem_of_getElem? (i := 82) rfl), rfl⟩
theorem mw4_83 : (Jvm.Cond.instanceMethod ({ cls := "GongCyclesModel", name := "stroke", desc := "(IIIII)I" } : Jvm.MethodName)) ∈ gT := List.mem_filter.mpr ⟨mt4 _ (List.mem_of_getElem? (i := 83) rfl), rfl⟩
theorem mw4_84 : (Jvm.Cond.selects "GongCyclesModel" ({ cls := "GongCyclesModel", name := "stroke", desc := "(IIIII)I" } : Jvm.MethodName) ({ cls := "GongCyclesModel", name := "stroke", desc := "(IIIII)I" } : Jvm.MethodName)) ∈ gT := List.mem_filter.mpr ⟨mt4 _ (List.mem_of_getElem? (i := 84) rfl), rfl⟩
theorem mw4_85 : (Jvm.Cond.code ({ cls := "GongCyclesModel", name := "stroke", desc := "(IIIII)I" } : Jvm.MethodName) prog_8_method_21_code (12 : Nat) (Option.some Jvm.ClassFile.FieldType.int)) ∈ gT := List.mem_filter.mpr ⟨mt4 _ (List.mem_of_getElem? (i := 85) rfl), rfl⟩
theorem mw4_86 : (Jvm.Cond.methodLink "GongCyclesModel" (89 : Nat) ({ cls := "GongCyclesModel", name := "isPart", desc := "(I)Z" } : Jvm.MethodName)) ∈ gT := List.mem_filter.mpr ⟨mt4 _ (List.mem_of_getElem? (i := 86) rfl), rfl⟩
theorem mw4_87 : (Jvm.Cond.static ({ cls := "GongCyclesModel", name := "isPart", desc := "(I)Z" } : Jvm.MethodName)) ∈ gT := List.mem_filter.mpr ⟨mt4 _ (List.mem_of_getElem? (i := 87) rfl), rfl⟩
theorem mw4_88 : (Jvm.Cond.code ({ cls := "GongCyclesModel", name := "isPart", desc := "(I)Z" } : Jvm.MethodName) prog_8_method_9_code (1 : Nat) (Option.some Jvm.ClassFile.FieldType.boolean)) ∈ gT := List.mem_filter.mpr ⟨mt4 _ (List.mem_of_getElem? (i := 88) rfl), rfl⟩
theorem mw4_89 : (Jvm.Cond.methodLink "GongCyclesModel" (92 : Nat) ({ cls := "GongCyclesModel", name := "density", desc := "(II)I" } : Jvm.MethodName)) ∈ gT := List.mem_filter.mpr ⟨mt4 _ (List.mem_of_getElem? (i := 89) rfl), rfl⟩
theorem mw4_90 : (Jvm.Cond.static ({ cls := "GongCyclesModel", name := "density", desc := "(II)I" } : Jvm.MethodName)) ∈ gT := List.mem_filter.mpr ⟨mt4 _ (List.mem_of_getElem? (i := 90) rfl), rfl⟩
theorem mw4_91 : (Jvm.Cond.code ({ cls := "GongCyclesModel", name := "density", desc := "(II)I" } : Jvm.MethodName) prog_8_method_19_code (2 : Nat) (Option.some Jvm.ClassFile.FieldType.int)) ∈ gT := List.mem_filter.mpr ⟨mt4 _ (List.mem_of_getElem? (i := 91) rfl), rfl⟩
theorem mw4_92 : (Jvm.Cond.methodLink "GongCyclesModel" (95 : Nat) ({ cls := "GongCyclesModel", name := "strikes", desc := "(IIIII)I" } : Jvm.MethodName)) ∈ gT := List.mem_filter.mpr ⟨mt4 _ (List.mem_of_getElem? (i := 92) rfl), rfl⟩
theorem mw4_93 : (Jvm.Cond.static ({ cls := "GongCyclesModel", name := "strikes", desc := "(IIIII)I" } : Jvm.MethodName)) ∈ gT := List.mem_filter.mpr ⟨mt4 _ (List.mem_of_getElem? (i := 93) rfl), rfl⟩
theorem mw4_94 : (Jvm.Cond.code ({ cls := "GongCyclesModel", name := "strikes", desc := "(IIIII)I" } : Jvm.MethodName) prog_8_method_20_code (5 : Nat) (Option.some Jvm.ClassFile.FieldType.int)) ∈ gT := List.mem_filter.mpr ⟨mt4 _ (List.mem_of_getElem? (i := 94) rfl), rfl⟩
theorem mw4_95 : (Jvm.Cond.methodLink "GongCyclesModel" (86 : Nat) ({ cls := "GongCyclesModel", name := "lesser", desc := "(II)I" } : Jvm.MethodName)) ∈ gT := List.mem_filter.mpr ⟨mt4 _ (List.mem_of_getElem? (i := 95) rfl), rfl⟩
theorem mw4_96 : (Jvm.Cond.static ({ cls := "GongCyclesModel", name := "lesser", desc := "(II)I" } : Jvm.MethodName)) ∈ gT := List.mem_filter.mpr ⟨mt4 _ (List.mem_of_getElem? (i := 96) rfl), rfl⟩
theorem mw4_97 : (Jvm.Cond.code ({ cls := "GongCyclesModel", name := "lesser", desc := "(II)I" } : Jvm.MethodName) prog_8_method_11_code (2 : Nat) (Option.some Jvm.ClassFile.FieldType.int)) ∈ gT := List.mem_filter.mpr ⟨mt4 _ (List.mem_of_getElem? (i := 97) rfl), rfl⟩
theorem mw4_98 : (Jvm.Cond.methodLink "GongCyclesLaw" (130 : Nat) ({ cls := "GongCyclesModel", name := "strokeAnew", desc := "(IIIII)I" } : Jvm.MethodName)) ∈ gT := List.mem_filter.mpr ⟨mt4 _ (List.mem_of_getElem? (i := 98) rfl), rfl⟩
theorem mw4_99 : (Jvm.Cond.instanceMethod ({ cls := "GongCyclesModel", name := "strokeAnew", desc := "(IIIII)I" } : Jvm.MethodName)) ∈ gT := List.mem_filter.mpr ⟨mt4 _ (List.mem_of_getElem? (i := 99) rfl), rfl⟩
theorem mw4_100 : (Jvm.Cond.selects "GongCyclesModel" ({ cls := "GongCyclesModel", name := "strokeAnew", desc := "(IIIII)I" } : Jvm.MethodName) ({ cls := "GongCyclesModel", name := "strokeAnew", desc := "(IIIII)I" } : Jvm.MethodName)) ∈ gT := List.mem_filter.mpr ⟨mt4 _ (List.mem_of_getElem? (i := 100) rfl), rfl⟩
theorem mw4_101 : (Jvm.Cond.code ({ cls := "GongCyclesModel", name := "strokeAnew", desc := "(IIIII)I" } : Jvm.MethodName) prog_8_method_22_code (6 : Nat) (Option.some Jvm.ClassFile.FieldType.int)) ∈ gT := List.mem_filter.mpr ⟨mt4 _ (List.mem_of_getElem? (i := 101) rfl), rfl⟩
theorem mw4_102 : (Jvm.Cond.methodLink "GongCyclesModel" (99 : Nat) ({ cls := "GongCyclesModel", name := "stroke", desc := "(IIIII)I" } : Jvm.MethodName)) ∈ gT := List.mem_filter.mpr ⟨mt4 _ (List.mem_of_getElem? (i := 102) rfl), rfl⟩
theorem mw4_103 : (Jvm.Cond.methodLink "GongCyclesLaw" (133 : Nat) ({ cls := "GongCyclesModel", name := "begin", desc := "(I)I" } : Jvm.MethodName)) ∈ gT := List.mem_filter.mpr ⟨mt4 _ (List.mem_of_getElem? (i := 103) rfl), rfl⟩
theorem mw4_104 : (Jvm.Cond.instanceMethod ({ cls := "GongCyclesModel", name := "begin", desc := "(I)I" } : Jvm.MethodName)) ∈ gT := List.mem_filter.mpr ⟨mt4 _ (List.mem_of_getElem? (i := 104) rfl), rfl⟩
theorem mw4_105 : (Jvm.Cond.selects "GongCyclesModel" ({ cls := "GongCyclesModel", name := "begin", desc := "(I)I" } : Jvm.MethodName) ({ cls := "GongCyclesModel", name := "begin", desc := "(I)I" } : Jvm.MethodName)) ∈ gT := List.mem_filter.mpr ⟨mt4 _ (List.mem_of_getElem? (i := 105) rfl), rfl⟩
theorem mw4_106 : (Jvm.Cond.code ({ cls := "GongCyclesModel", name := "begin", desc := "(I)I" } : Jvm.MethodName) prog_8_method_23_code (3 : Nat) (Option.some Jvm.ClassFile.FieldType.int)) ∈ gT := List.mem_filter.mpr ⟨mt4 _ (List.mem_of_getElem? (i := 106) rfl), rfl⟩
theorem mw4_107 : (Jvm.Cond.methodLink "GongCyclesLaw" (136 : Nat) ({ cls := "GongCyclesModel", name := "drum", desc := "(I)I" } : Jvm.MethodName)) ∈ gT := List.mem_filter.mpr ⟨mt4 _ (List.mem_of_getElem? (i := 107) rfl), rfl⟩
theorem mw4_108 : (Jvm.Cond.instanceMethod ({ cls := "GongCyclesModel", name := "drum", desc := "(I)I" } : Jvm.MethodName)) ∈ gT := List.mem_filter.mpr ⟨mt4 _ (List.mem_of_getElem? (i := 108) rfl), rfl⟩
theorem mw4_109 : (Jvm.Cond.selects "GongCyclesModel" ({ cls := "GongCyclesModel", name := "drum", desc := "(I)I" } : Jvm.MethodName) ({ cls := "GongCyclesModel", name := "drum", desc := "(I)I" } : Jvm.MethodName)) ∈ gT := List.mem_filter.mpr ⟨mt4 _ (List.mem_of_getElem? (i := 109) rfl), rfl⟩
theorem mw4_110 : (Jvm.Cond.code ({ cls := "GongCyclesModel", name := "drum", desc := "(I)I" } : Jvm.MethodName) prog_8_method_24_code (2 : Nat) (Option.some Jvm.ClassFile.FieldType.int)) ∈ gT := List.mem_filter.mpr ⟨mt4 _ (List.mem_of_getElem? (i := 110) rfl), rfl⟩
theorem mw4_111 : (Jvm.Cond.methodLink "GongCyclesLaw" (139 : Nat) ({ cls := "GongCyclesModel", name := "beats", desc := "(I)I" } : Jvm.MethodName)) ∈ gT := List.mem_filter.mpr ⟨mt4 _ (List.mem_of_getElem? (i := 111) rfl), rfl⟩
theorem mw4_112 : (Jvm.Cond.instanceMethod ({ cls := "GongCyclesModel", name := "beats", desc := "(I)I" } : Jvm.MethodName)) ∈ gT := List.mem_filter.mpr ⟨mt4 _ (List.mem_of_getElem? (i := 112) rfl), rfl⟩
theorem mw4_113 : (Jvm.Cond.selects "GongCyclesModel" ({ cls := "GongCyclesModel", name := "beats", desc := "(I)I" } : Jvm.MethodName) ({ cls := "GongCyclesModel", name := "beats", desc := "(I)I" } : Jvm.MethodName)) ∈ gT := List.mem_filter.mpr ⟨mt4 _ (List.mem_of_getElem? (i := 113) rfl), rfl⟩
theorem mw4_114 : (Jvm.Cond.code ({ cls := "GongCyclesModel", name := "beats", desc := "(I)I" } : Jvm.MethodName) prog_8_method_26_code (3 : Nat) (Option.some Jvm.ClassFile.FieldType.int)) ∈ gT := List.mem_filter.mpr ⟨mt4 _ (List.mem_of_getElem? (i := 114) rfl), rfl⟩
theorem mw4_115 : (Jvm.Cond.methodLink "GongCyclesModel" (134 : Nat) ({ cls := "GongCyclesModel", name := "playsBeat", desc := "()V" } : Jvm.MethodName)) ∈ gT := List.mem_filter.mpr ⟨mt4 _ (List.mem_of_getElem? (i := 115) rfl), rfl⟩
theorem mw4_117 : (Jvm.Cond.instanceMethod ({ cls := "GongCyclesModel", name := "playsBeat", desc := "()V" } : Jvm.MethodName)) ∈ gT := List.mem_filter.mpr ⟨mt4 _ (List.mem_of_getElem? (i := 117) rfl), rfl⟩
theorem mw4_118 : (Jvm.Cond.code ({ cls := "GongCyclesModel", name := "playsBeat", desc := "()V" } : Jvm.MethodName) prog_8_method_25_code (2 : Nat) (Option.none : Option Jvm.ClassFile.FieldType)) ∈ gT := List.mem_filter.mpr ⟨mt4 _ (List.mem_of_getElem? (i := 118) rfl), rfl⟩
theorem mw4_119 : (Jvm.Cond.methodLink "GongCyclesLaw" (142 : Nat) ({ cls := "GongCyclesModel", name := "now", desc := "(I)I" } : Jvm.MethodName)) ∈ gT := List.mem_filter.mpr ⟨mt4 _ (List.mem_of_getElem? (i := 119) rfl), rfl⟩
theorem mw4_120 : (Jvm.Cond.instanceMethod ({ cls := "GongCyclesModel", name := "now", desc := "(I)I" } : Jvm.MethodName)) ∈ gT := List.mem_filter.mpr ⟨mt4 _ (List.mem_of_getElem? (i := 120) rfl), rfl⟩
theorem mw4_121 : (Jvm.Cond.selects "GongCyclesModel" ({ cls := "GongCyclesModel", name := "now", desc := "(I)I" } : Jvm.MethodName) ({ cls := "GongCyclesModel", name := "now", desc := "(I)I" } : Jvm.MethodName)) ∈ gT := List.mem_filter.mpr ⟨mt4 _ (List.mem_of_getElem? (i := 121) rfl), rfl⟩
theorem mw4_122 : (Jvm.Cond.code ({ cls := "GongCyclesModel", name := "now", desc := "(I)I" } : Jvm.MethodName) prog_8_method_27_code (2 : Nat) (Option.some Jvm.ClassFile.FieldType.int)) ∈ gT := List.mem_filter.mpr ⟨mt4 _ (List.mem_of_getElem? (i := 122) rfl), rfl⟩
theorem mw4_123 : (Jvm.Cond.methodLink "GongCyclesLaw" (147 : Nat) ({ cls := "GongCyclesModel", name := "ticks", desc := "()J" } : Jvm.MethodName)) ∈ gT := List.mem_filter.mpr ⟨mt4 _ (List.mem_of_getElem? (i := 123) rfl), rfl⟩
theorem mw4_124 : (Jvm.Cond.instanceMethod ({ cls := "GongCyclesModel", name := "ticks", desc := "()J" } : Jvm.MethodName)) ∈ gT := List.mem_filter.mpr ⟨mt4 _ (List.mem_of_getElem? (i := 124) rfl), rfl⟩
theorem mw4_125 : (Jvm.Cond.selects "GongCyclesModel" ({ cls := "GongCyclesModel", name := "ticks", desc := "()J" } : Jvm.MethodName) ({ cls := "GongCyclesModel", name := "ticks", desc := "()J" } : Jvm.MethodName)) ∈ gT := List.mem_filter.mpr ⟨mt4 _ (List.mem_of_getElem? (i := 125) rfl), rfl⟩
theorem mw4_126 : (Jvm.Cond.code ({ cls := "GongCyclesModel", name := "ticks", desc := "()J" } : Jvm.MethodName) prog_8_method_28_code (1 : Nat) (Option.some Jvm.ClassFile.FieldType.long)) ∈ gT := List.mem_filter.mpr ⟨mt4 _ (List.mem_of_getElem? (i := 126) rfl), rfl⟩
theorem mw4_127 : (Jvm.Cond.methodLink "GongCyclesLaw" (150 : Nat) ({ cls := "GongCyclesModel", name := "strokes", desc := "(I)J" } : Jvm.MethodName)) ∈ gT := List.mem_filter.mpr ⟨mt4 _ (List.mem_of_getElem? (i := 127) rfl), rfl⟩
theorem mw4_128 : (Jvm.Cond.instanceMethod ({ cls := "GongCyclesModel", name := "strokes", desc := "(I)J" } : Jvm.MethodName)) ∈ gT := List.mem_filter.mpr ⟨mt4 _ (List.mem_of_getElem? (i := 128) rfl), rfl⟩
theorem mw4_129 : (Jvm.Cond.selects "GongCyclesModel" ({ cls := "GongCyclesModel", name := "strokes", desc := "(I)J" } : Jvm.MethodName) ({ cls := "GongCyclesModel", name := "strokes", desc := "(I)J" } : Jvm.MethodName)) ∈ gT := List.mem_filter.mpr ⟨mt4 _ (List.mem_of_getElem? (i := 129) rfl), rfl⟩
theorem mw4_130 : (Jvm.Cond.code ({ cls := "GongCyclesModel", name := "strokes", desc := "(I)J" } : Jvm.MethodName) prog_8_method_29_code (2 : Nat) (Option.some Jvm.ClassFile.FieldType.long)) ∈ gT := List.mem_filter.mpr ⟨mt4 _ (List.mem_of_getElem? (i := 130) rfl), rfl⟩
theorem mw4_131 : (Jvm.Cond.methodLink "GongCyclesLaw" (153 : Nat) ({ cls := "GongCyclesModel", name := "days", desc := "(I)I" } : Jvm.MethodName)) ∈ gT := List.mem_filter.mpr ⟨mt4 _ (List.mem_of_getElem? (i := 131) rfl), rfl⟩
theorem mw4_132 : (Jvm.Cond.instanceMethod ({ cls := "GongCyclesModel", name := "days", desc := "(I)I" } : Jvm.MethodName)) ∈ gT := List.mem_filter.mpr ⟨mt4 _ (List.mem_of_getElem? (i := 132) rfl), rfl⟩
theorem mw4_133 : (Jvm.Cond.selects "GongCyclesModel" ({ cls := "GongCyclesModel", name := "days", desc := "(I)I" } : Jvm.MethodName) ({ cls := "GongCyclesModel", name := "days", desc := "(I)I" } : Jvm.MethodName)) ∈ gT := List.mem_filter.mpr ⟨mt4 _ (List.mem_of_getElem? (i := 133) rfl), rfl⟩
theorem mw4_134 : (Jvm.Cond.code ({ cls := "GongCyclesModel", name := "days", desc := "(I)I" } : Jvm.MethodName) prog_8_method_30_code (2 : Nat) (Option.some Jvm.ClassFile.FieldType.int)) ∈ gT := List.mem_filter.mpr ⟨mt4 _ (List.mem_of_getElem? (i := 134) rfl), rfl⟩
theorem mw4_135 : (Jvm.Cond.methodLink "GongCyclesLaw" (156 : Nat) ({ cls := "GongCyclesModel", name := "pitch", desc := "(III)I" } : Jvm.MethodName)) ∈ gT := List.mem_filter.mpr ⟨mt4 _ (List.mem_of_getElem? (i := 135) rfl), rfl⟩
theorem mw4_136 : (Jvm.Cond.instanceMethod ({ cls := "GongCyclesModel", name := "pitch", desc := "(III)I" } : Jvm.MethodName)) ∈ gT := List.mem_filter.mpr ⟨mt4 _ (List.mem_of_getElem? (i := 136) rfl), rfl⟩
theorem mw4_137 : (Jvm.Cond.selects "GongCyclesModel" ({ cls := "GongCyclesModel", name := "pitch", desc := "(III)I" } : Jvm.MethodName) ({ cls := "GongCyclesModel", name := "pitch", desc := "(III)I" } : Jvm.MethodName)) ∈ gT := List.mem_filter.mpr ⟨mt4 _ (List.mem_of_getElem? (i := 137) rfl), rfl⟩
theorem mw4_138 : (Jvm.Cond.code ({ cls := "GongCyclesModel", name := "pitch", desc := "(III)I" } : Jvm.MethodName) prog_8_method_32_code (5 : Nat) (Option.some Jvm.ClassFile.FieldType.int)) ∈ gT := List.mem_filter.mpr ⟨mt4 _ (List.mem_of_getElem? (i := 138) rfl), rfl⟩
theorem mw4_139 : (Jvm.Cond.methodLink "GongCyclesModel" (137 : Nat) ({ cls := "GongCyclesModel", name := "isSet", desc := "(I)Z" } : Jvm.MethodName)) ∈ gT := List.mem_filter.mpr ⟨mt4 _ (List.mem_of_getElem? (i := 139) rfl), rfl⟩
theorem mw4_140 : (Jvm.Cond.static ({ cls := "GongCyclesModel", name := "isSet", desc := "(I)Z" } : Jvm.MethodName)) ∈ gT := List.mem_filter.mpr ⟨mt4 _ (List.mem_of_getElem? (i := 140) rfl), rfl⟩
theorem mw4_141 : (Jvm.Cond.code ({ cls := "GongCyclesModel", name := "isSet", desc := "(I)Z" } : Jvm.MethodName) prog_8_method_31_code (1 : Nat) (Option.some Jvm.ClassFile.FieldType.boolean)) ∈ gT := List.mem_filter.mpr ⟨mt4 _ (List.mem_of_getElem? (i := 141) rfl), rfl⟩
theorem mw4_142 : (Jvm.Cond.constant "GongCyclesModel" (140 : Nat) (200000 : Int32)) ∈ gT := List.mem_filter.mpr ⟨mt4 _ (List.mem_of_getElem? (i := 142) rfl), rfl⟩
theorem mw4_143 : (Jvm.Cond.methodLink "GongCyclesLaw" (159 : Nat) ({ cls := "GongCyclesModel", name := "drift", desc := "(II)I" } : Jvm.MethodName)) ∈ gT := List.mem_filter.mpr ⟨mt4 _ (List.mem_of_getElem? (i := 143) rfl), rfl⟩
theorem mw4_144 : (Jvm.Cond.instanceMethod ({ cls := "GongCyclesModel", name := "drift", desc := "(II)I" } : Jvm.MethodName)) ∈ gT := List.mem_filter.mpr ⟨mt4 _ (List.mem_of_getElem? (i := 144) rfl), rfl⟩
theorem mw4_145 : (Jvm.Cond.selects "GongCyclesModel" ({ cls := "GongCyclesModel", name := "drift", desc := "(II)I" } : Jvm.MethodName) ({ cls := "GongCyclesModel", name := "drift", desc := "(II)I" } : Jvm.MethodName)) ∈ gT := List.mem_filter.mpr ⟨mt4 _ (List.mem_of_getElem? (i := 145) rfl), rfl⟩
theorem mw4_146 : (Jvm.Cond.code ({ cls := "GongCyclesModel", name := "drift", desc := "(II)I" } : Jvm.MethodName) prog_8_method_33_code (4 : Nat) (Option.some Jvm.ClassFile.FieldType.int)) ∈ gT := List.mem_filter.mpr ⟨mt4 _ (List.mem_of_getElem? (i := 146) rfl), rfl⟩
theorem mw4_147 : (Jvm.Cond.methodLink "GongCyclesLaw" (162 : Nat) ({ cls := "GongCyclesModel", name := "years", desc := "(I)I" } : Jvm.MethodName)) ∈ gT := List.mem_filter.mpr ⟨mt4 _ (List.mem_of_getElem? (i := 147) rfl), rfl⟩
theorem mw4_148 : (Jvm.Cond.instanceMethod ({ cls := "GongCyclesModel", name := "years", desc := "(I)I" } : Jvm.MethodName)) ∈ gT := List.mem_filter.mpr ⟨mt4 _ (List.mem_of_getElem? (i := 148) rfl), rfl⟩
theorem mw4_149 : (Jvm.Cond.selects "GongCyclesModel" ({ cls := "GongCyclesModel", name := "years", desc := "(I)I" } : Jvm.MethodName) ({ cls := "GongCyclesModel", name := "years", desc := "(I)I" } : Jvm.MethodName)) ∈ gT := List.mem_filter.mpr ⟨mt4 _ (List.mem_of_getElem? (i := 149) rfl), rfl⟩
theorem mw4_150 : (Jvm.Cond.code ({ cls := "GongCyclesModel", name := "years", desc := "(I)I" } : Jvm.MethodName) prog_8_method_34_code (6 : Nat) (Option.some Jvm.ClassFile.FieldType.int)) ∈ gT := List.mem_filter.mpr ⟨mt4 _ (List.mem_of_getElem? (i := 150) rfl), rfl⟩
theorem mw4_151 : (Jvm.Cond.methodLink "GongCyclesLaw" (165 : Nat) ({ cls := "GongCyclesModel", name := "tune", desc := "(II)I" } : Jvm.MethodName)) ∈ gT := List.mem_filter.mpr ⟨mt4 _ (List.mem_of_getElem? (i := 151) rfl), rfl⟩
theorem mw4_152 : (Jvm.Cond.instanceMethod ({ cls := "GongCyclesModel", name := "tune", desc := "(II)I" } : Jvm.MethodName)) ∈ gT := List.mem_filter.mpr ⟨mt4 _ (List.mem_of_getElem? (i := 152) rfl), rfl⟩
theorem mw4_153 : (Jvm.Cond.selects "GongCyclesModel" ({ cls := "GongCyclesModel", name := "tune", desc := "(II)I" } : Jvm.MethodName) ({ cls := "GongCyclesModel", name := "tune", desc := "(II)I" } : Jvm.MethodName)) ∈ gT := List.mem_filter.mpr ⟨mt4 _ (List.mem_of_getElem? (i := 153) rfl), rfl⟩
theorem mw4_154 : (Jvm.Cond.code ({ cls := "GongCyclesModel", name := "tune", desc := "(II)I" } : Jvm.MethodName) prog_8_method_35_code (10 : Nat) (Option.some Jvm.ClassFile.FieldType.int)) ∈ gT := List.mem_filter.mpr ⟨mt4 _ (List.mem_of_getElem? (i := 154) rfl), rfl⟩
theorem mw4_155 : (Jvm.Cond.constantLong "GongCyclesModel" (144 : Nat) (5000 : Int64)) ∈ gT := List.mem_filter.mpr ⟨mt4 _ (List.mem_of_getElem? (i := 155) rfl), rfl⟩
theorem mw4_156 : (Jvm.Cond.constantLong "GongCyclesModel" (146 : Nat) (200000 : Int64)) ∈ gT := List.mem_filter.mpr ⟨mt4 _ (List.mem_of_getElem? (i := 156) rfl), rfl⟩
theorem mw4_157 : (Jvm.Cond.methodLink "GongCyclesLaw" (168 : Nat) ({ cls := "GongCyclesModel", name := "beat", desc := "(III)I" } : Jvm.MethodName)) ∈ gT := List.mem_filter.mpr ⟨mt4 _ (List.mem_of_getElem? (i := 157) rfl), rfl⟩
theorem mw4_158 : (Jvm.Cond.instanceMethod ({ cls := "GongCyclesModel", name := "beat", desc := "(III)I" } : Jvm.MethodName)) ∈ gT := List.mem_filter.mpr ⟨mt4 _ (List.mem_of_getElem? (i := 158) rfl), rfl⟩
theorem mw4_159 : (Jvm.Cond.selects "GongCyclesModel" ({ cls := "GongCyclesModel", name := "beat", desc := "(III)I" } : Jvm.MethodName) ({ cls := "GongCyclesModel", name := "beat", desc := "(III)I" } : Jvm.MethodName)) ∈ gT := List.mem_filter.mpr ⟨mt4 _ (List.mem_of_getElem? (i := 159) rfl), rfl⟩
theorem mw4_160 : (Jvm.Cond.code ({ cls := "GongCyclesModel", name := "beat", desc := "(III)I" } : Jvm.MethodName) prog_8_method_36_code (5 : Nat) (Option.some Jvm.ClassFile.FieldType.int)) ∈ gT := List.mem_filter.mpr ⟨mt4 _ (List.mem_of_getElem? (i := 160) rfl), rfl⟩
theorem mw4_161 : (Jvm.Cond.methodLink "GongCyclesLaw" (171 : Nat) ({ cls := "GongCyclesModel", name := "player", desc := "(I)I" } : Jvm.MethodName)) ∈ gT := List.mem_filter.mpr ⟨mt4 _ (List.mem_of_getElem? (i := 161) rfl), rfl⟩
theorem mw4_162 : (Jvm.Cond.instanceMethod ({ cls := "GongCyclesModel", name := "player", desc := "(I)I" } : Jvm.MethodName)) ∈ gT := List.mem_filter.mpr ⟨mt4 _ (List.mem_of_getElem? (i := 162) rfl), rfl⟩
theorem mw4_163 : (Jvm.Cond.selects "GongCyclesModel" ({ cls := "GongCyclesModel", name := "player", desc := "(I)I" } : Jvm.MethodName) ({ cls := "GongCyclesModel", name := "player", desc := "(I)I" } : Jvm.MethodName)) ∈ gT := List.mem_filter.mpr ⟨mt4 _ (List.mem_of_getElem? (i := 163) rfl), rfl⟩
theorem mw4_164 : (Jvm.Cond.code ({ cls := "GongCyclesModel", name := "player", desc := "(I)I" } : Jvm.MethodName) prog_8_method_37_code (2 : Nat) (Option.some Jvm.ClassFile.FieldType.int)) ∈ gT := List.mem_filter.mpr ⟨mt4 _ (List.mem_of_getElem? (i := 164) rfl), rfl⟩
theorem mw4_165 : (Jvm.Cond.methodLink "GongCyclesLaw" (174 : Nat) ({ cls := "GongCyclesModel", name := "learn", desc := "(III)I" } : Jvm.MethodName)) ∈ gT := List.mem_filter.mpr ⟨mt4 _ (List.mem_of_getElem? (i := 165) rfl), rfl⟩
theorem mw4_166 : (Jvm.Cond.instanceMethod ({ cls := "GongCyclesModel", name := "learn", desc := "(III)I" } : Jvm.MethodName)) ∈ gT := List.mem_filter.mpr ⟨mt4 _ (List.mem_of_getElem? (i := 166) rfl), rfl⟩
theorem mw4_167 : (Jvm.Cond.selects "GongCyclesModel" ({ cls := "GongCyclesModel", name := "learn", desc := "(III)I" } : Jvm.MethodName) ({ cls := "GongCyclesModel", name := "learn", desc := "(III)I" } : Jvm.MethodName)) ∈ gT := List.mem_filter.mpr ⟨mt4 _ (List.mem_of_getElem? (i := 167) rfl), rfl⟩
theorem mw4_168 : (Jvm.Cond.code ({ cls := "GongCyclesModel", name := "learn", desc := "(III)I" } : Jvm.MethodName) prog_8_method_40_code (7 : Nat) (Option.some Jvm.ClassFile.FieldType.int)) ∈ gT := List.mem_filter.mpr ⟨mt4 _ (List.mem_of_getElem? (i := 168) rfl), rfl⟩
theorem mw4_169 : (Jvm.Cond.methodLink "GongCyclesModel" (148 : Nat) ({ cls := "GongCyclesModel", name := "isPlayer", desc := "(I)Z" } : Jvm.MethodName)) ∈ gT := List.mem_filter.mpr ⟨mt4 _ (List.mem_of_getElem? (i := 169) rfl), rfl⟩
theorem mw4_171 : (Jvm.Cond.instanceMethod ({ cls := "GongCyclesModel", name := "isPlayer", desc := "(I)Z" } : Jvm.MethodName)) ∈ gT := List.mem_filter.mpr ⟨mt4 _ (List.mem_of_getElem? (i := 171) rfl), rfl⟩
theorem mw4_172 : (Jvm.Cond.code ({ cls := "GongCyclesModel", name := "isPlayer", desc := "(I)Z" } : Jvm.MethodName) prog_8_method_10_code (2 : Nat) (Option.some Jvm.ClassFile.FieldType.boolean)) ∈ gT := List.mem_filter.mpr ⟨mt4 _ (List.mem_of_getElem? (i := 172) rfl), rfl⟩
theorem mw4_173 : (Jvm.Cond.methodLink "GongCyclesModel" (151 : Nat) ({ cls := "GongCyclesModel", name := "knowsIt", desc := "(II)Z" } : Jvm.MethodName)) ∈ gT := List.mem_filter.mpr ⟨mt4 _ (List.mem_of_getElem? (i := 173) rfl), rfl⟩
theorem mw4_175 : (Jvm.Cond.instanceMethod ({ cls := "GongCyclesModel", name := "knowsIt", desc := "(II)Z" } : Jvm.MethodName)) ∈ gT := List.mem_filter.mpr ⟨mt4 _ (List.mem_of_getElem? (i := 175) rfl), rfl⟩
theorem mw4_176 : (Jvm.Cond.code ({ cls := "GongCyclesModel", name := "knowsIt", desc := "(II)Z" } : Jvm.MethodName) prog_8_method_38_code (3 : Nat) (Option.some Jvm.ClassFile.FieldType.boolean)) ∈ gT := List.mem_filter.mpr ⟨mt4 _ (List.mem_of_getElem? (i := 176) rfl), rfl⟩
theorem mw4_177 : (Jvm.Cond.methodLink "GongCyclesModel" (154 : Nat) ({ cls := "GongCyclesModel", name := "toneOf", desc := "(III)I" } : Jvm.MethodName)) ∈ gT := List.mem_filter.mpr ⟨mt4 _ (List.mem_of_getElem? (i := 177) rfl), rfl⟩
theorem mw4_179 : (Jvm.Cond.instanceMethod ({ cls := "GongCyclesModel", name := "toneOf", desc := "(III)I" } : Jvm.MethodName)) ∈ gT := List.mem_filter.mpr ⟨mt4 _ (List.mem_of_getElem? (i := 179) rfl), rfl⟩
theorem mw4_180 : (Jvm.Cond.code ({ cls := "GongCyclesModel", name := "toneOf", desc := "(III)I" } : Jvm.MethodName) prog_8_method_39_code (4 : Nat) (Option.some Jvm.ClassFile.FieldType.int)) ∈ gT := List.mem_filter.mpr ⟨mt4 _ (List.mem_of_getElem? (i := 180) rfl), rfl⟩
theorem mw4_181 : (Jvm.Cond.methodLink "GongCyclesLaw" (178 : Nat) ({ cls := "GongCyclesModel", name := "slip", desc := "(IIII)I" } : Jvm.MethodName)) ∈ gT := List.mem_filter.mpr ⟨mt4 _ (List.mem_of_getElem? (i := 181) rfl), rfl⟩
theorem mw4_182 : (Jvm.Cond.instanceMethod ({ cls := "GongCyclesModel", name := "slip", desc := "(IIII)I" } : Jvm.MethodName)) ∈ gT := List.mem_filter.mpr ⟨mt4 _ (List.mem_of_getElem? (i := 182) rfl), rfl⟩
theorem mw4_183 : (Jvm.Cond.selects "GongCyclesModel" ({ cls := "GongCyclesModel", name := "slip", desc := "(IIII)I" } : Jvm.MethodName) ({ cls := "GongCyclesModel", name := "slip", desc := "(IIII)I" } : Jvm.MethodName)) ∈ gT := List.mem_filter.mpr ⟨mt4 _ (List.mem_of_getElem? (i := 183) rfl), rfl⟩
theorem mw4_184 : (Jvm.Cond.code ({ cls := "GongCyclesModel", name := "slip", desc := "(IIII)I" } : Jvm.MethodName) prog_8_method_41_code (8 : Nat) (Option.some Jvm.ClassFile.FieldType.int)) ∈ gT := List.mem_filter.mpr ⟨mt4 _ (List.mem_of_getElem? (i := 184) rfl), rfl⟩
theorem mw4_185 : (Jvm.Cond.methodLink "GongCyclesLaw" (181 : Nat) ({ cls := "GongCyclesModel", name := "unlike", desc := "(III)I" } : Jvm.MethodName)) ∈ gT := List.mem_filter.mpr ⟨mt4 _ (List.mem_of_getElem? (i := 185) rfl), rfl⟩
theorem mw4_186 : (Jvm.Cond.instanceMethod ({ cls := "GongCyclesModel", name := "unlike", desc := "(III)I" } : Jvm.MethodName)) ∈ gT := List.mem_filter.mpr ⟨mt4 _ (List.mem_of_getElem? (i := 186) rfl), rfl⟩
theorem mw4_187 : (Jvm.Cond.selects "GongCyclesModel" ({ cls := "GongCyclesModel", name := "unlike", desc := "(III)I" } : Jvm.MethodName) ({ cls := "GongCyclesModel", name := "unlike", desc := "(III)I" } : Jvm.MethodName)) ∈ gT := List.mem_filter.mpr ⟨mt4 _ (List.mem_of_getElem? (i := 187) rfl), rfl⟩
theorem mw4_188 : (Jvm.Cond.code ({ cls := "GongCyclesModel", name := "unlike", desc := "(III)I" } : Jvm.MethodName) prog_8_method_42_code (7 : Nat) (Option.some Jvm.ClassFile.FieldType.int)) ∈ gT := List.mem_filter.mpr ⟨mt4 _ (List.mem_of_getElem? (i := 188) rfl), rfl⟩
theorem mw4_189 : (Jvm.Cond.methodLink "GongCyclesLaw" (184 : Nat) ({ cls := "GongCyclesModel", name := "covered", desc := "(I)I" } : Jvm.MethodName)) ∈ gT := List.mem_filter.mpr ⟨mt4 _ (List.mem_of_getElem? (i := 189) rfl), rfl⟩
theorem mw4_190 : (Jvm.Cond.instanceMethod ({ cls := "GongCyclesModel", name := "covered", desc := "(I)I" } : Jvm.MethodName)) ∈ gT := List.mem_filter.mpr ⟨mt4 _ (List.mem_of_getElem? (i := 190) rfl), rfl⟩
theorem mw4_191 : (Jvm.Cond.selects "GongCyclesModel" ({ cls := "GongCyclesModel", name := "covered", desc := "(I)I" } : Jvm.MethodName) ({ cls := "GongCyclesModel", name := "covered", desc := "(I)I" } : Jvm.MethodName)) ∈ gT := List.mem_filter.mpr ⟨mt4 _ (List.mem_of_getElem? (i := 191) rfl), rfl⟩
theorem mw4_192 : (Jvm.Cond.code ({ cls := "GongCyclesModel", name := "covered", desc := "(I)I" } : Jvm.MethodName) prog_8_method_43_code (7 : Nat) (Option.some Jvm.ClassFile.FieldType.int)) ∈ gT := List.mem_filter.mpr ⟨mt4 _ (List.mem_of_getElem? (i := 192) rfl), rfl⟩
theorem mws_0 : Cond.selects "java/lang/Throwable" ⟨"java/lang/Throwable", "fillInStackTrace", "(I)Ljava/lang/Throwable;"⟩ ⟨"java/lang/Throwable", "fillInStackTrace", "(I)Ljava/lang/Throwable;"⟩ ∈ gT := List.mem_filter.mpr ⟨List.mem_append_left _ (List.mem_of_getElem? (l := k2_sels lw_privs) (i := 0) rfl), rfl⟩
theorem mws_1 : Cond.selects "GongCycles" ⟨"GongCycles", "lengthOfForm", "(I)I"⟩ ⟨"GongCycles", "lengthOfForm", "(I)I"⟩ ∈ gT := List.mem_filter.mpr ⟨List.mem_append_left _ (List.mem_of_getElem? (l := k2_sels lw_privs) (i := 1) rfl), rfl⟩
theorem mws_2 : Cond.selects "GongCycles" ⟨"GongCycles", "pieceAt", "(I)LGongCycles$Piece;"⟩ ⟨"GongCycles", "pieceAt", "(I)LGongCycles$Piece;"⟩ ∈ gT := List.mem_filter.mpr ⟨List.mem_append_left _ (List.mem_of_getElem? (l := k2_sels lw_privs) (i := 2) rfl), rfl⟩
theorem mws_3 : Cond.selects "GongCycles" ⟨"GongCycles", "toneOfStroke", "(IIIIIZ)I"⟩ ⟨"GongCycles", "toneOfStroke", "(IIIIIZ)I"⟩ ∈ gT := List.mem_filter.mpr ⟨List.mem_append_left _ (List.mem_of_getElem? (l := k2_sels lw_privs) (i := 3) rfl), rfl⟩
theorem mws_4 : Cond.selects "GongCycles" ⟨"GongCycles", "refuseSilence", "()V"⟩ ⟨"GongCycles", "refuseSilence", "()V"⟩ ∈ gT := List.mem_filter.mpr ⟨List.mem_append_left _ (List.mem_of_getElem? (l := k2_sels lw_privs) (i := 4) rfl), rfl⟩
theorem mws_5 : Cond.selects "GongCycles$Playing" ⟨"GongCycles$Playing", "hearEnd", "()V"⟩ ⟨"GongCycles$Playing", "hearEnd", "()V"⟩ ∈ gT := List.mem_filter.mpr ⟨List.mem_append_left _ (List.mem_of_getElem? (l := k2_sels lw_privs) (i := 5) rfl), rfl⟩
theorem mws_6 : Cond.selects "GongCycles$Playing" ⟨"GongCycles$Playing", "changeBeatLength", "()V"⟩ ⟨"GongCycles$Playing", "changeBeatLength", "()V"⟩ ∈ gT := List.mem_filter.mpr ⟨List.mem_append_left _ (List.mem_of_getElem? (l := k2_sels lw_privs) (i := 6) rfl), rfl⟩
theorem mws_7 : Cond.selects "GongCycles$Playing" ⟨"GongCycles$Playing", "playGong", "()V"⟩ ⟨"GongCycles$Playing", "playGong", "()V"⟩ ∈ gT := List.mem_filter.mpr ⟨List.mem_append_left _ (List.mem_of_getElem? (l := k2_sels lw_privs) (i := 7) rfl), rfl⟩
theorem mws_8 : Cond.selects "GongCycles" ⟨"GongCycles", "setAt", "(I)LGongCycles$BronzeSet;"⟩ ⟨"GongCycles", "setAt", "(I)LGongCycles$BronzeSet;"⟩ ∈ gT := List.mem_filter.mpr ⟨List.mem_append_left _ (List.mem_of_getElem? (l := k2_sels lw_privs) (i := 8) rfl), rfl⟩
theorem mws_9 : Cond.selects "GongCycles" ⟨"GongCycles", "playerAt", "(I)LGongCycles$Player;"⟩ ⟨"GongCycles", "playerAt", "(I)LGongCycles$Player;"⟩ ∈ gT := List.mem_filter.mpr ⟨List.mem_append_left _ (List.mem_of_getElem? (l := k2_sels lw_privs) (i := 9) rfl), rfl⟩
theorem mws_10 : Cond.selects "GongCycles" ⟨"GongCycles", "melodyOf", "(II)LGongCycles$Melody;"⟩ ⟨"GongCycles", "melodyOf", "(II)LGongCycles$Melody;"⟩ ∈ gT := List.mem_filter.mpr ⟨List.mem_append_left _ (List.mem_of_getElem? (l := k2_sels lw_privs) (i := 10) rfl), rfl⟩
theorem mws_11 : Cond.selects "GongCycles" ⟨"GongCycles", "knowersOf", "(I)I"⟩ ⟨"GongCycles", "knowersOf", "(I)I"⟩ ∈ gT := List.mem_filter.mpr ⟨List.mem_append_left _ (List.mem_of_getElem? (l := k2_sels lw_privs) (i := 11) rfl), rfl⟩
theorem mws_12 : Cond.selects "GongCyclesModel" ⟨"GongCyclesModel", "goes", "(ZZZ)Z"⟩ ⟨"GongCyclesModel", "goes", "(ZZZ)Z"⟩ ∈ gT := List.mem_filter.mpr ⟨List.mem_append_left _ (List.mem_of_getElem? (l := k2_sels lw_privs) (i := 12) rfl), rfl⟩
theorem mws_13 : Cond.selects "GongCyclesModel" ⟨"GongCyclesModel", "isForm", "(I)Z"⟩ ⟨"GongCyclesModel", "isForm", "(I)Z"⟩ ∈ gT := List.mem_filter.mpr ⟨List.mem_append_left _ (List.mem_of_getElem? (l := k2_sels lw_privs) (i := 13) rfl), rfl⟩
theorem mws_14 : Cond.selects "GongCyclesModel" ⟨"GongCyclesModel", "isPlace", "(II)Z"⟩ ⟨"GongCyclesModel", "isPlace", "(II)Z"⟩ ∈ gT := List.mem_filter.mpr ⟨List.mem_append_left _ (List.mem_of_getElem? (l := k2_sels lw_privs) (i := 14) rfl), rfl⟩
theorem mws_15 : Cond.selects "GongCyclesModel" ⟨"GongCyclesModel", "isPiece", "(I)Z"⟩ ⟨"GongCyclesModel", "isPiece", "(I)Z"⟩ ∈ gT := List.mem_filter.mpr ⟨List.mem_append_left _ (List.mem_of_getElem? (l := k2_sels lw_privs) (i := 15) rfl), rfl⟩
theorem mws_16 : Cond.selects "GongCyclesModel" ⟨"GongCyclesModel", "lengthOf", "(I)I"⟩ ⟨"GongCyclesModel", "lengthOf", "(I)I"⟩ ∈ gT := List.mem_filter.mpr ⟨List.mem_append_left _ (List.mem_of_getElem? (l := k2_sels lw_privs) (i := 16) rfl), rfl⟩
theorem mws_17 : Cond.selects "GongCyclesModel" ⟨"GongCyclesModel", "soundOf", "(II)I"⟩ ⟨"GongCyclesModel", "soundOf", "(II)I"⟩ ∈ gT := List.mem_filter.mpr ⟨List.mem_append_left _ (List.mem_of_getElem? (l := k2_sels lw_privs) (i := 17) rfl), rfl⟩
theorem mws_18 : Cond.selects "GongCyclesModel" ⟨"GongCyclesModel", "playsBeat", "()V"⟩ ⟨"GongCyclesModel", "playsBeat", "()V"⟩ ∈ gT := List.mem_filter.mpr ⟨List.mem_append_left _ (List.mem_of_getElem? (l := k2_sels lw_privs) (i := 18) rfl), rfl⟩
theorem mws_19 : Cond.selects "GongCyclesModel" ⟨"GongCyclesModel", "isPlayer", "(I)Z"⟩ ⟨"GongCyclesModel", "isPlayer", "(I)Z"⟩ ∈ gT := List.mem_filter.mpr ⟨List.mem_append_left _ (List.mem_of_getElem? (l := k2_sels lw_privs) (i := 19) rfl), rfl⟩
theorem mws_20 : Cond.selects "GongCyclesModel" ⟨"GongCyclesModel", "knowsIt", "(II)Z"⟩ ⟨"GongCyclesModel", "knowsIt", "(II)Z"⟩ ∈ gT := List.mem_filter.mpr ⟨List.mem_append_left _ (List.mem_of_getElem? (l := k2_sels lw_privs) (i := 20) rfl), rfl⟩
theorem mws_21 : Cond.selects "GongCyclesModel" ⟨"GongCyclesModel", "toneOf", "(III)I"⟩ ⟨"GongCyclesModel", "toneOf", "(III)I"⟩ ∈ gT := List.mem_filter.mpr ⟨List.mem_append_left _ (List.mem_of_getElem? (l := k2_sels lw_privs) (i := 21) rfl), rfl⟩
theorem inG0 : ∀ w ∈ u_ws RX0 TX0 2, w ∈ gT := List.forall_mem_cons.mpr ⟨mw1_88, List.forall_mem_cons.mpr ⟨mw1_90, fun _ h => absurd h List.not_mem_nil⟩⟩
theorem inG1 : ∀ w ∈ u_ws RX1 TX1 1, w ∈ gT := List.forall_mem_cons.mpr ⟨mw2_36, fun _ h => absurd h List.not_mem_nil⟩
theorem inG2 : ∀ w ∈ u_ws RX2 TX2 2, w ∈ gT := List.forall_mem_cons.mpr ⟨mw2_43, List.forall_mem_cons.mpr ⟨mw2_45, fun _ h => absurd h List.not_mem_nil⟩⟩
theorem inG3 : ∀ w ∈ u_ws RX3 TX3 2, w ∈ gT := List.forall_mem_cons.mpr ⟨mw3_98, List.forall_mem_cons.mpr ⟨mw3_100, fun _ h => absurd h List.not_mem_nil⟩⟩
theorem inG4 : ∀ w ∈ u_ws RX4 TX4 11, w ∈ gT := List.forall_mem_cons.mpr ⟨mw1_50, List.forall_mem_cons.mpr ⟨mw1_52, List.forall_mem_cons.mpr ⟨mw1_54, List.forall_mem_cons.mpr ⟨mw1_56, List.forall_mem_cons.mpr ⟨mw1_58, List.forall_mem_cons.mpr ⟨mw1_60, List.forall_mem_cons.mpr ⟨mw1_62, List.forall_mem_cons.mpr ⟨mw1_64, List.forall_mem_cons.mpr ⟨mw1_66, List.forall_mem_cons.mpr ⟨mw1_68, List.forall_mem_cons.mpr ⟨mw1_70, fun _ h => absurd h List.not_mem_nil⟩⟩⟩⟩⟩⟩⟩⟩⟩⟩⟩
theorem inG5 : ∀ w ∈ u_ws RX5 TX5 11, w ∈ gT := List.forall_mem_cons.mpr ⟨mw1_104, List.forall_mem_cons.mpr ⟨mw1_106, List.forall_mem_cons.mpr ⟨mw1_108, List.forall_mem_cons.mpr ⟨mw1_110, List.forall_mem_cons.mpr ⟨mw1_112, List.forall_mem_cons.mpr ⟨mw1_114, List.forall_mem_cons.mpr ⟨mw1_116, List.forall_mem_cons.mpr ⟨mw1_118, List.forall_mem_cons.mpr ⟨mw1_120, List.forall_mem_cons.mpr ⟨mw1_122, List.forall_mem_cons.mpr ⟨mw1_124, fun _ h => absurd h List.not_mem_nil⟩⟩⟩⟩⟩⟩⟩⟩⟩⟩⟩
theorem inG6 : ∀ w ∈ u_ws RX6 TX6 26, w ∈ gT := List.forall_mem_cons.mpr ⟨mw3_213, List.forall_mem_cons.mpr ⟨mw3_215, List.forall_mem_cons.mpr ⟨mw3_217, List.forall_mem_cons.mpr ⟨mw3_219, List.forall_mem_cons.mpr ⟨mw3_221, List.forall_mem_cons.mpr ⟨mw3_223, List.forall_mem_cons.mpr ⟨mw3_225, List.forall_mem_cons.mpr ⟨mw3_227, List.forall_mem_cons.mpr ⟨mw3_229, List.forall_mem_cons.mpr ⟨mw3_231, List.forall_mem_cons.mpr ⟨mw3_233, List.forall_mem_cons.mpr ⟨mw3_235, List.forall_mem_cons.mpr ⟨mw3_237, List.forall_mem_cons.mpr ⟨mw3_239, List.forall_mem_cons.mpr ⟨mw4_1, List.forall_mem_cons.mpr ⟨mw4_3, List.forall_mem_cons.mpr ⟨mw4_5, List.forall_mem_cons.mpr ⟨mw4_7, List.forall_mem_cons.mpr ⟨mw4_9, List.forall_mem_cons.mpr ⟨mw4_11, List.forall_mem_cons.mpr ⟨mw4_13, List.forall_mem_cons.mpr ⟨mw4_15, List.forall_mem_cons.mpr ⟨mw4_17, List.forall_mem_cons.mpr ⟨mw4_19, List.forall_mem_cons.mpr ⟨mw4_21, List.forall_mem_cons.mpr ⟨mw4_23, fun _ h => absurd h List.not_mem_nil⟩⟩⟩⟩⟩⟩⟩⟩⟩⟩⟩⟩⟩⟩⟩⟩⟩⟩⟩⟩⟩⟩⟩⟩⟩⟩
end
section
/-! THE WORLD: cells by keys of our own choice. -/
abbrev gCl : List vw_C := [(RX0, TX0, 2), (RX1, TX1, 1), (RX2, TX2, 2), (RX3, TX3, 2), (RX4, TX4, 11), (RX5, TX5, 11), (RX6, TX6, 26)]
abbrev gTy (tc : Nat → ClassId) : List (ClassId × FieldType) := [(tc 0, .int), (tc 1, .long), (tc 2, .boolean), (tc 3, .object RX2), (tc 4, .object RX0), (tc 5, .object RX3), (tc 6, .object RX1)]
abbrev gW : Type := Nat → Option (Nat × va_E)
def gU (w : gW) (k : Nat) (x : Nat × va_E) : gW := fun j => if j = k then some x else w j
theorem gU_s {w w1 : gW} {k : Nat} {x : Nat × va_E} (e : w1 = gU w k x) : w1 k = some x := by rw [e]; exact if_pos rfl
theorem gU_n {w w1 : gW} {k j : Nat} {x : Nat × va_E} {y : Option (Nat × va_E)} (e : w1 = gU w k x) (h : j ≠ k) (hy : w j = y) : w1 j = y := by rw [e]; exact (if_neg h).trans hy
theorem gU_k {w : gW} {k j : Nat} {x y : Nat × va_E} (hx : w k = some x) (hy : w j = some y) (h : x.2 ≠ y.2) : j ≠ k := fun e => h (by subst e; exact congrArg Prod.snd (Option.some.inj (hx.symm.trans hy)))
theorem gU_f {w : gW} {k j : Nat} {y : Nat × va_E} (hx : w k = none) (hy : w j = some y) : j ≠ k := fun e => by subst e; rw [hx] at hy; cases hy
theorem gU_same (w : gW) (k : Nat) (x : Nat × va_E) : gU w k x k = some x := if_pos rfl
theorem gU_ne (w : gW) {k j : Nat} (x : Nat × va_E) (h : j ≠ k) : gU w k x j = w j := if_neg h
def gAt (D : va_G) (w : gW) (H : Heap) : Prop := ∀ (k : Nat) (x : Nat × va_E), w k = some x → va_at D gCl x H
def gDj (A : Nat → Prop) (w : gW) : Prop := (∀ (k j : Nat) (x y : Nat × va_E), w k = some x → w j = some y → x.1 = y.1 → k = j) ∧ ∀ (k : Nat) (x : Nat × va_E), w k = some x → A x.1
def gS (D : va_G) (A : Nat → Prop) (H0 : Heap) (w : gW) (H : Heap) (locs : List Loc) : Prop := gAt D w H ∧ gDj A w ∧ va_S A H0 H locs
theorem gAt_one {D : va_G} {w : gW} {H : Heap} {k : Nat} {x : Nat × va_E} (h : gAt D w H) (hk : w k = some x) : va_P D gCl [x] H := by
  intro j q hj
  have hz : j < 1 := (List.getElem?_eq_some_iff.mp hj).1
  rw [show j = 0 by omega] at hj
  cases hj
  exact h k x hk
theorem gS.set {D : va_G} {A : Nat → Prop} {H0 H H1 : Heap} {w : gW} {locs : List Loc} {k a j : Nat} {e0 e : va_E} (h : gS D A H0 w H locs) (hk : w k = some (a, e0)) (he : va_at D gCl (a, e) H1) (hz : H1.size = H.size) (ho : ∀ q : Nat, q ≠ a → H1[q]? = H[q]?) : gS D A H0 (gU w k (a, e)) H1 (locs ++ [⟨a, j⟩]) := by
  obtain ⟨h1, h2, h3⟩ := h
  refine ⟨?_, ⟨?_, ?_⟩, h3.put hz ho (h2.2 k _ hk)⟩
  · intro i x hx
    by_cases hi : i = k
    · subst hi
      rw [gU_same] at hx
      cases hx
      exact he
    · rw [gU_ne _ _ hi] at hx
      exact (h1 i x hx).kept (ho x.1 (fun e9 => hi (h2.1 i k x _ hx hk e9)))
  · intro i j x y hx hy hxy
    by_cases hi : i = k
    · by_cases hj : j = k
      · rw [hi, hj]
      · subst hi
        rw [gU_same] at hx
        rw [gU_ne _ _ hj] at hy
        cases hx
        exact h2.1 _ j _ y hk hy hxy
    · by_cases hj : j = k
      · subst hj
        rw [gU_same] at hy
        rw [gU_ne _ _ hi] at hx
        cases hy
        exact h2.1 i _ x _ hx hk hxy
      · rw [gU_ne _ _ hi] at hx
        rw [gU_ne _ _ hj] at hy
        exact h2.1 i j x y hx hy hxy
  · intro i x hx
    by_cases hi : i = k
    · subst hi
      rw [gU_same] at hx
      cases hx
      exact (h2.2 _ _ hk : A a)
    · rw [gU_ne _ _ hi] at hx
      exact h2.2 i x hx
theorem gS.push {D : va_G} {A : Nat → Prop} {H0 H H1 : Heap} {w : gW} {locs : List Loc} {k : Nat} {e : va_E} (h : gS D A H0 w H locs) (hk : w k = none) (hA : ∀ q, H0.size ≤ q → A q) (he : va_at D gCl (H.size, e) H1) (hz : H1.size = H.size + 1) (ho : ∀ q : Nat, q < H.size → H1[q]? = H[q]?) : gS D A H0 (gU w k (H.size, e)) H1 locs := by
  obtain ⟨h1, h2, h3⟩ := h
  have hlt : ∀ (i : Nat) (x : Nat × va_E), w i = some x → x.1 < H.size := fun i x hx => (h1 i x hx).lt
  refine ⟨?_, ⟨?_, ?_⟩, ⟨Nat.le_trans h3.1 (by omega), fun x g1 g2 => (ho x (Nat.lt_of_lt_of_le g1 h3.1)).trans (h3.2.1 x g1 g2), h3.2.2⟩⟩
  · intro i x hx
    by_cases hi : i = k
    · subst hi
      rw [gU_same] at hx
      cases hx
      exact he
    · rw [gU_ne _ _ hi] at hx
      exact (h1 i x hx).kept (ho x.1 (hlt i x hx))
  · intro i j x y hx hy hxy
    by_cases hi : i = k
    · by_cases hj : j = k
      · rw [hi, hj]
      · subst hi
        rw [gU_same] at hx
        rw [gU_ne _ _ hj] at hy
        cases hx
        have := hlt j y hy
        have e9 : H.size = y.1 := hxy
        omega
    · by_cases hj : j = k
      · subst hj
        rw [gU_same] at hy
        rw [gU_ne _ _ hi] at hx
        cases hy
        have := hlt i x hx
        have e9 : x.1 = H.size := hxy
        omega
      · rw [gU_ne _ _ hi] at hx
        rw [gU_ne _ _ hj] at hy
        exact h2.1 i j x y hx hy hxy
  · intro i x hx
    by_cases hi : i = k
    · subst hi
      rw [gU_same] at hx
      cases hx
      exact hA _ h3.1
    · rw [gU_ne _ _ hi] at hx
      exact h2.2 i x hx
/-! WHAT EVERY METHOD KNOWS -/
def gStr (L : List (Nat × String)) (U : State) : Prop := ∀ q ∈ L, ∃ sa : Nat, vk_R RX5 q.1 q.2 sa U
def gSs : List (Nat × String) := [(60, "a length is 4 to 64, a multiple of 4"), (67, "there are 4 forms"), (76, "no such place"), (79, "there are 6 pieces"), (105, "a set of days is 0 to 31"), (121, "a piece is played"), (123, "the piece is forbidden today"), (133, "the drum tells HOLD to CUT"), (144, "beats are 1 to 100"), (161, "it is told of 0 to 5"), (174, "days are 1 to 100"), (184, "a pitch is 5000 to 200000"), (189, "a drift is 0 to 50"), (194, "years are 1 to 30"), (196, "it would be above 300 years"), (201, "a set is tuned by another one"), (214, "a set of parts is 0 to 15"), (216, "there are 8 players"), (227, "nobody learns of oneself"), (229, "the other one does not know it"), (242, "the player does not know it"), (257, "no such form"), (259, "no such piece"), (261, "no such set"), (263, "no such player"), (269, "no such part"), (271, "no such tone"), (273, "a tone is 1 to 7, a rest 0"), (275, "a level is 0 to 3"), (280, "a stroke is 0 to the density less 1"), (282, "nothing is played")]
abbrev gIA : String := "java/lang/IllegalArgumentException"
abbrev gIS : String := "java/lang/IllegalStateException"
abbrev gIO : String := "java/lang/IndexOutOfBoundsException"
def gRs : List String := [RX2, RX0, RX3, RX1]
def gNs : List (String × String) := [(gIA, gIS), (gIA, gIO), (gIS, gIA), (gIS, gIO), (gIO, gIA), (gIO, gIS)]
def gEs : List String := [gIA, gIS, gIO]
def gFn : List (Nat × String × String × String) := [(158, RX4, "pieceNumber", "I"), (141, RX4, "place", "I"), (149, RX4, "beatLength", "I"), (152, RX4, "level", "I"), (155, RX4, "gongs", "I"), (117, RX4, "goesOn", "Z"), (163, RX4, "ticksGone", "J"), (191, RX0, "yearlyDrift", "I"), (88, RX2, "melody", "LGongCycles$Melody;"), (107, RX2, "forbiddenDays", "I"), (248, RX3, "ableParts", "I")]
def gMn : List (String × Nat × MethodName) := [(RX5, 28, yX4_init), (RX4, 51, yX5_densityOf)]
def gDs : List MethodName := [⟨"java/lang/Exception", "<init>", "()V"⟩, ⟨"java/lang/Exception", "<init>", "(Ljava/lang/String;)V"⟩, ⟨"java/lang/RuntimeException", "<init>", "()V"⟩, ⟨"java/lang/RuntimeException", "<init>", "(Ljava/lang/String;)V"⟩, ⟨"java/lang/Throwable", "<init>", "()V"⟩, ⟨"java/lang/Throwable", "<init>", "(Ljava/lang/String;)V"⟩]
def gX (A : Nat → Prop) (U : State) (H : Heap) : Prop := vx_Zq Bundle.tN "UNASSIGNED_STACK" Bundle.steD A U H ∧ vx_Zq Bundle.tN "SUPPRESSED_SENTINEL" Bundle.listD A U H ∧ gStr gSs U ∧ (∀ C ∈ gRs, va_AO C U) ∧ (∀ q ∈ gNs, va_Nc q.1 q.2 U) ∧ (∀ E ∈ gEs, va_Nw (.castable E E) U) ∧ (∀ q ∈ gFn, va_Nw (.fieldLinkNest RX5 q.1 q.2.1 q.2.2.1 q.2.2.2 RX5) U) ∧ (∀ q ∈ gMn, va_Nw (.methodLinkNest q.1 q.2.1 q.2.2 RX5) U) ∧ (∀ x ∈ gDs, va_Nw (.declares x) U)
theorem gX_blind {A : Nat → Prop} {U : State} {g : JFrame} {mk : MethodId} {a : Array Value} {H : Heap} (h : gX A U H) : gX A (U.calling g mk a) H := by
  obtain ⟨h5, h6, h7, h8, h9, h10, h11, h12, h13⟩ := h
  exact ⟨vx_Zq.moved (u := U) (U := U.calling g mk a) (Vm.Alike.refl U.vm) h5, vx_Zq.moved (u := U) (U := U.calling g mk a) (Vm.Alike.refl U.vm) h6, fun q hq => by obtain ⟨sa, h⟩ := h7 q hq; exact ⟨sa, vk_R.same (u := U) (U := U.calling g mk a) rfl h⟩,
    fun C hC => va_AO.moved (u := U) (U := U.calling g mk a) (Vm.Alike.refl U.vm) (h8 C hC), fun q hq => va_Nc.moved (u := U) (U := U.calling g mk a) (Vm.Alike.refl U.vm) (h9 q hq), fun E hE => va_Nw.warmC (s := U) (U := U.calling g mk a) (State.WarmedH.refl U) (h10 E hE),
    fun q hq => va_Nw.warmF (s := U) (U := U.calling g mk a) (State.WarmedH.refl U) (h11 q hq), fun q hq => va_Nw.warmM (s := U) (U := U.calling g mk a) (State.WarmedH.refl U) (h12 q hq), fun x hx => va_Nw.warmD (s := U) (U := U.calling g mk a) (State.WarmedH.refl U) (h13 x hx)⟩
def gB (D : va_G) (tc : Nat → ClassId) (A : Nat → Prop) (w : gW) (U : State) : Prop := gAt D w U.heap ∧ gDj A w ∧ (∀ q, U.heap.size ≤ q → A q) ∧ va_K D gCl (gTy tc) U ∧ gX A U U.heap
def gQ (D : va_G) (A : Nat → Prop) (post : Option Value → gW → Prop) : Array Value → State → Outcome → State → Prop := fun _ st oc t => (∃ (v : Option Value) (w : gW), oc = .returned v ∧ post v w ∧ gAt D w t.heap ∧ gDj A w) ∧ va_F A st t
def gXC (D : va_G) (A : Nat → Prop) (w : gW) (thr : String → Prop) : String → State → State → Prop := fun E st t => thr E ∧ gAt D w t.heap ∧ va_F A st t
def gM (l : Launch) (y : MethodName) (cc : ByteArray) (nL : Nat) (rt : Option FieldType) (rm : Room) (D : va_G) (tc : Nat → ClassId) (A : Nat → Prop) (args : List Value) (w : gW) (post : Option Value → gW → Prop) (thr : String → Prop) : Prop :=
  vx_Met l y (Cond.code y cc nL rt :: gT) rm (va_Pc args (gB D tc A w)) (gQ D A post) (gXC D A w thr) rm.cells rm.slots A
def gMH (l : Launch) (y : MethodName) (cc : ByteArray) (nL : Nat) (rt : Option FieldType) (hh : List (Nat × Nat × Nat × Nat)) (rm : Room) (D : va_G) (tc : Nat → ClassId) (A : Nat → Prop) (args : List Value) (w : gW) (post : Option Value → gW → Prop) (thr : String → Prop) : Prop :=
  vx_Met l y (Cond.codeWith y cc nL rt hh :: gT) rm (va_Pc args (gB D tc A w)) (gQ D A post) (gXC D A w thr) rm.cells rm.slots A
theorem gMet_of {l : Launch} {y : MethodName} {ws : List Cond} {rm : Room} {Pc : Array Value → State → Prop} {Qc : Array Value → State → Outcome → State → Prop} {XC : String → State → State → Prop} {mc ms : Nat} {free : Addr → Prop} (hX : ∀ E st t, ¬ XC E st t) (h : vx_Met l y ws rm Pc Qc XC mc ms free) : Met l y ws rm Pc Qc mc ms free := by
  intro p e ha hc hk s m args below hf happ hP hT
  obtain ⟨t, o, h1, h2, h3, h4⟩ := h p e ha hc hk s m args below hf happ hP hT
  refine ⟨t, o, h1, h2, h3, ?_⟩
  rcases h4 with h4 | ⟨q, -, E, ce, L, hx, -⟩
  · exact h4
  · exact absurd hx (hX _ _ _)
theorem gB_blind {D : va_G} {tc : Nat → ClassId} {A : Nat → Prop} {args : List Value} {w : gW} : FrameBlind (va_Pc args (gB D tc A w)) := by
  intro a U g mk h
  obtain ⟨h0, h1, h2, h3, h4, h5⟩ := h
  exact ⟨h0, h1, h2, h3, va_K.moved (u := U) (U := U.calling g mk a) (Vm.Alike.refl U.vm) h4, gX_blind h5⟩
section GROWS
variable {p : Program} {l : Launch} {e : Env} {R : Room} {s : State} {m : MethodId} {args : Array Value} {below : List Frame} {meth : Method} {c : Code} {H : Heap} {locs : List Loc} {cells slots : Nat} {Q : State → Prop}
variable {cc : ByteArray} {nL pc : Nat} {own : String} {ls : Array Slot} {rest : List Value} {D : va_G} {tc : Nat → ClassId} {A : Nat → Prop} {a : Nat} {w : gW}
/-- what stands at a method's entry, and through its walk -/
def gE (p : Program) (l : Launch) (s : State) (m : MethodId) (args : Array Value) (meth : Method) (c : Code) (cc : ByteArray) (nL : Nat) (own : String) (D : va_G) (tc : Nat → ClassId) (A : Nat → Prop) : Prop :=
  p.tables.exec = Jvm.exec ∧ c.code = cc ∧ c.maxLocals = nL ∧ s.vm.findClass own = some m.cls ∧ (∀ w ∈ gT, w.before args s = true) ∧ va_K D gCl (gTy tc) s ∧ gX A s s.heap ∧ (∀ q, s.heap.size ≤ q → A q) ∧ meth.locks = false
theorem gX_warm {H1 : Heap} {U : State} (h : gX A s s.heap) (hS : va_S A s.heap H1 locs) (hU : U.heap = H1) (hW : s.WarmedH U.vm) : gX A U U.heap := by
  obtain ⟨h5, h6, h7, h8, h9, h10, h11, h12, h13⟩ := h
  have hk : ∀ q : Nat, q < s.heap.size → ¬ A q → U.heap[q]? = s.heap[q]? := by rw [hU]; exact hS.2.1
  exact ⟨vx_Zq.moved hW.alike (vx_Zq.kept h5 hk), vx_Zq.moved hW.alike (vx_Zq.kept h6 hk), fun q hq => by obtain ⟨sa, h⟩ := h7 q hq; exact ⟨sa, vk_R.warm hW h⟩,
    fun C hC => va_AO.moved hW.alike (h8 C hC), fun q hq => va_Nc.moved hW.alike (h9 q hq), fun E hE => va_Nw.warmC hW (h10 E hE), fun q hq => va_Nw.warmF hW (h11 q hq), fun q hq => va_Nw.warmM hW (h12 q hq), fun x hx => va_Nw.warmD hW (h13 x hx)⟩
theorem gB_at (hE : gE p l s m args meth c cc nL own D tc A) (hG : gS D A s.heap w H locs) : ∀ U : State, U.heap = H → s.WarmedH U.vm → gB D tc A w U := by
  intro U hU hW
  obtain ⟨-, -, -, -, -, hK, hX, hA, -⟩ := hE
  obtain ⟨h1, h2, h3⟩ := hG
  exact ⟨by rw [hU]; exact h1, h2, fun q hq => hA q (Nat.le_trans h3.1 (by rw [hU] at hq; exact hq)), va_K.moved hW.alike hK, gX_warm hX h3 hU hW⟩
/-! fields -/
theorem g_get (hE : gE p l s m args meth c cc nL own D tc A) (hG : gS D A s.heap w H locs) {k0 ci : Nat} {fs : List Value} (he : w k0 = some (a, .inr (ci, fs))) {C : String} {T : u_T} {N index : Nat} (hc : gCl[ci]? = some (C, T, N)) (hin : ∀ w ∈ u_ws C T N, w ∈ gT) (k : Nat) (hk : k < N) (hlink : Cond.fieldLink own index (T k).1 (T k).2.1 (T k).2.2.1 ∈ gT) {v : Value} (hv : fs[k]? = some v) (hdg : decode cc pc = .ok (.getfield index, 3))
    (kk : W p l e R s m args below meth c H locs cells slots Q (F0 m (pc + 3) ls (v :: rest))) : W p l e R s m args below meth c H locs cells slots Q (F0 m pc ls (.ref a :: rest)) :=
  va_get hE.1 hE.2.1 hE.2.2.2.2.1 hin hE.2.2.2.1 hE.2.2.2.2.2.1 (gAt_one hG.1 he) 0 rfl hc k hk (hE.2.2.2.2.1 _ hlink) (fun _ h => h) hv hdg kk
theorem g_getN (hE : gE p l s m args meth c cc nL RX5 D tc A) (hG : gS D A s.heap w H locs) {k0 ci : Nat} {fs : List Value} (he : w k0 = some (a, .inr (ci, fs))) {C : String} {T : u_T} {N index : Nat} (hc : gCl[ci]? = some (C, T, N)) (hin : ∀ w ∈ u_ws C T N, w ∈ gT) (k : Nat) (hk : k < N) (hlink : (index, (T k).1, (T k).2.1, (T k).2.2.1) ∈ gFn) {v : Value} (hv : fs[k]? = some v) (hdg : decode cc pc = .ok (.getfield index, 3))
    (kk : W p l e R s m args below meth c H locs cells slots Q (F0 m (pc + 3) ls (v :: rest))) : W p l e R s m args below meth c H locs cells slots Q (F0 m pc ls (.ref a :: rest)) :=
  va_getN hE.1 hE.2.1 hE.2.2.2.2.1 hin hE.2.2.2.1 hE.2.2.2.2.2.1 (gAt_one hG.1 he) 0 rfl hc k hk (va_Nw.use (A := args) rfl (hE.2.2.2.2.2.2.1.2.2.2.2.2.2.1 _ hlink)) (fun _ h => h) hv hdg kk
theorem g_put (hE : gE p l s m args meth c cc nL own D tc A) (hG : gS D A s.heap w H locs) {k0 ci : Nat} {fs : List Value} (he : w k0 = some (a, .inr (ci, fs))) {C : String} {T : u_T} {N index : Nat} (hc : gCl[ci]? = some (C, T, N)) (hin : ∀ w ∈ u_ws C T N, w ∈ gT) (ty0 : Nat → FieldType) (hty : ∀ k, k < N → parseFieldDescriptor (T k).2.2.1 = some (ty0 k)) (hnm : ∀ a, a < N → ∀ b, b < N → a ≠ b → (T a).2.1 ≠ (T b).2.1)
    (k : Nat) (hk : k < N) (hlink : Cond.fieldLink own index (T k).1 (T k).2.1 (T k).2.2.1 ∈ gT) (hfin : (T k).2.2.2 = false) {v : Value} (hn : narrow (ty0 k) v = v) (hfit : fits (ty0 k) v = true) (hl : k < fs.length) (hdg : decode cc pc = .ok (.putfield index, 3))
    (kk : ∀ (H1 : Heap) (locs1 : List Loc) (w1 : gW), w1 = gU w k0 (a, .inr (ci, fs.set k v)) → gS D A s.heap w1 H1 locs1 → W p l e R s m args below meth c H1 locs1 cells slots Q (F0 m (pc + 3) ls rest)) : W p l e R s m args below meth c H locs cells slots Q (F0 m pc ls (v :: .ref a :: rest)) := by
  obtain ⟨hexec, hb, -, hown, hts, hK, -, -, -⟩ := hE
  have hap := va_apart (own := own) hts hin ty0 hty hnm hK hc
  obtain ⟨r, h1, cell, q1, q2, q3, q4⟩ := hG.1 k0 _ he
  have hr : r = (C, T, N) := Option.some.inj (h1.symm.trans hc)
  subst hr
  obtain ⟨hS, hfc, kC, hkC, hkind⟩ := hK.1 ci _ hc
  obtain ⟨cf, kf, fi, f, hi, hsl⟩ := hS k hk
  have hlay := hts _ (hin _ (u_in_lay hk))
  unfold u_lay at hlay
  rw [if_neg (by rw [hfin]; decide)] at hlay
  have hst := (u_facts hfc hkC (u_lays hts hin hk) hi).1
  have h6 := u_store hfc hkC hkind hlay hi (hty k hk) hn hfit
  refine W.putK hexec hb (f := f) ⟨hown, hts _ hlink, ⟨_, _, _, hi⟩, hst⟩ (by rw [q2]; exact h6) q1 q3 (by rw [hsl]; exact k2_hasslot (q4 k hk)) rfl rfl hdg fun H' e1 e2 e3 => ?_
  rw [hsl] at e1 ⊢
  exact kk H' _ _ rfl (hG.set he ⟨_, hc, t_OB.to (V := updV (vp_V fs) k v) ⟨_, e1, q2, q3, t_set q4 hap hk v⟩ (fun j _ => vp_updV_set hl v j)⟩ e2 e3)
theorem g_putN (hE : gE p l s m args meth c cc nL RX5 D tc A) (hG : gS D A s.heap w H locs) {k0 ci : Nat} {fs : List Value} (he : w k0 = some (a, .inr (ci, fs))) {C : String} {T : u_T} {N index : Nat} (hc : gCl[ci]? = some (C, T, N)) (hin : ∀ w ∈ u_ws C T N, w ∈ gT) (ty0 : Nat → FieldType) (hty : ∀ k, k < N → parseFieldDescriptor (T k).2.2.1 = some (ty0 k)) (hnm : ∀ a, a < N → ∀ b, b < N → a ≠ b → (T a).2.1 ≠ (T b).2.1)
    (k : Nat) (hk : k < N) (hlink : (index, (T k).1, (T k).2.1, (T k).2.2.1) ∈ gFn) (hfin : (T k).2.2.2 = false) {v : Value} (hn : narrow (ty0 k) v = v) (hfit : fits (ty0 k) v = true) (hl : k < fs.length) (hdg : decode cc pc = .ok (.putfield index, 3))
    (kk : ∀ (H1 : Heap) (locs1 : List Loc) (w1 : gW), w1 = gU w k0 (a, .inr (ci, fs.set k v)) → gS D A s.heap w1 H1 locs1 → W p l e R s m args below meth c H1 locs1 cells slots Q (F0 m (pc + 3) ls rest)) : W p l e R s m args below meth c H locs cells slots Q (F0 m pc ls (v :: .ref a :: rest)) := by
  obtain ⟨hexec, hb, -, hown, hts, hK, hX, -, -⟩ := hE
  have hap := va_apart (own := RX5) hts hin ty0 hty hnm hK hc
  obtain ⟨r, h1, cell, q1, q2, q3, q4⟩ := hG.1 k0 _ he
  have hr : r = (C, T, N) := Option.some.inj (h1.symm.trans hc)
  subst hr
  obtain ⟨hS, hfc, kC, hkC, hkind⟩ := hK.1 ci _ hc
  obtain ⟨cf, kf, fi, f, hi, hsl⟩ := hS k hk
  have hlay := hts _ (hin _ (u_in_lay hk))
  unfold u_lay at hlay
  rw [if_neg (by rw [hfin]; decide)] at hlay
  have hst := (u_facts hfc hkC (u_lays hts hin hk) hi).1
  have h6 := u_store hfc hkC hkind hlay hi (hty k hk) hn hfit
  refine va_WputK hexec hb (f := f) hown (va_Nw.use (A := args) rfl (hX.2.2.2.2.2.2.1 _ hlink)) hi hst (by rw [q2]; exact h6) q1 q3 (by rw [hsl]; exact k2_hasslot (q4 k hk)) rfl rfl hdg fun H' e1 e2 e3 => ?_
  rw [hsl] at e1 ⊢
  exact kk H' _ _ rfl (hG.set he ⟨_, hc, t_OB.to (V := updV (vp_V fs) k v) ⟨_, e1, q2, q3, t_set q4 hap hk v⟩ (fun j _ => vp_updV_set hl v j)⟩ e2 e3)
theorem g_putF (hE : gE p l s m args meth c cc nL own D tc A) (hG : gS D A s.heap w H locs) {k0 ci : Nat} {fs : List Value} (he : w k0 = some (a, .inr (ci, fs))) {C : String} {T : u_T} {N index : Nat} (hc : gCl[ci]? = some (C, T, N)) (hin : ∀ w ∈ u_ws C T N, w ∈ gT) (ty0 : Nat → FieldType) (hty : ∀ k, k < N → parseFieldDescriptor (T k).2.2.1 = some (ty0 k)) (hnm : ∀ a, a < N → ∀ b, b < N → a ≠ b → (T a).2.1 ≠ (T b).2.1)
    (k : Nat) (hk : k < N) (hlink : Cond.fieldLink own index (T k).1 (T k).2.1 (T k).2.2.1 ∈ gT) (hfin : (T k).2.2.2 = true) (hin2 : meth.name = "<init>") (hdecl : (T k).1 = own) {v : Value} (hn : narrow (ty0 k) v = v) (hfit : fits (ty0 k) v = true) (hl : k < fs.length) (hdg : decode cc pc = .ok (.putfield index, 3))
    (kk : ∀ (H1 : Heap) (locs1 : List Loc) (w1 : gW), w1 = gU w k0 (a, .inr (ci, fs.set k v)) → gS D A s.heap w1 H1 locs1 → W p l e R s m args below meth c H1 locs1 cells slots Q (F0 m (pc + 3) ls rest)) : W p l e R s m args below meth c H locs cells slots Q (F0 m pc ls (v :: .ref a :: rest)) := by
  obtain ⟨hexec, hb, -, hown, hts, hK, -, -, -⟩ := hE
  have hap := va_apart (own := own) hts hin ty0 hty hnm hK hc
  obtain ⟨r, h1, cell, q1, q2, q3, q4⟩ := hG.1 k0 _ he
  have hr : r = (C, T, N) := Option.some.inj (h1.symm.trans hc)
  subst hr
  obtain ⟨hS, hfc, kC, hkC, hkind⟩ := hK.1 ci _ hc
  obtain ⟨cf, kf, fi, f, hi, hsl⟩ := hS k hk
  have hlay := hts _ (hin _ (u_in_lay hk))
  unfold u_lay at hlay
  rw [if_pos hfin] at hlay
  have hst := (u_facts hfc hkC (u_lays hts hin hk) hi).1
  have hcf : m.cls = cf := by
    obtain ⟨_, _, c', _, _, _, -, -, hf', -, -, -, hown2, -⟩ := Cond.laysFinal_spec hlay
    have e1 : c' = cf := by have := hi.symm.trans hf'; simp at this; exact this.1.symm
    rw [hdecl] at hown2
    rw [← e1]; exact Option.some.inj (hown.symm.trans hown2)
  have h6 := u_fits hfc hkC hkind (Or.inr hlay) hi (hty k hk) hn hfit
  refine W.putFinK hexec hb hown (hts _ hlink) hi hst hcf hin2 (by rw [q2]; exact h6) q1 q3 (by rw [hsl]; exact k2_hasslot (q4 k hk)) rfl rfl hdg fun H' e1 e2 e3 => ?_
  rw [hsl] at e1 ⊢
  exact kk H' _ _ rfl (hG.set he ⟨_, hc, t_OB.to (V := updV (vp_V fs) k v) ⟨_, e1, q2, q3, t_set q4 hap hk v⟩ (fun j _ => vp_updV_set hl v j)⟩ e2 e3)
/-! arrays -/
theorem g_iald (hE : gE p l s m args meth c cc nL own D tc A) (hG : gS D A s.heap w H locs) {k0 n : Nat} {f : Nat → Int32} (he : w k0 = some (a, .inl (tc 0, n, .inl f))) {i : Int32} (hin : vp_in i n) (hdg : decode cc pc = .ok (.iaload, 1))
    (kk : W p l e R s m args below meth c H locs cells slots Q (F0 m (pc + 1) ls (.int (f i.toNatClampNeg) :: rest))) : W p l e R s m args below meth c H locs cells slots Q (F0 m pc ls (.int i :: .ref a :: rest)) :=
  va_iald hE.1 hE.2.1 hE.2.2.2.2.2.1 (gAt_one hG.1 he) 0 0 rfl rfl hin hdg kk
theorem g_zald (hE : gE p l s m args meth c cc nL own D tc A) (hG : gS D A s.heap w H locs) {k0 n : Nat} {f : Nat → Int32} (he : w k0 = some (a, .inl (tc 2, n, .inl f))) {i : Int32} (hin : vp_in i n) (hdg : decode cc pc = .ok (.baload, 1))
    (kk : W p l e R s m args below meth c H locs cells slots Q (F0 m (pc + 1) ls (.int (f i.toNatClampNeg) :: rest))) : W p l e R s m args below meth c H locs cells slots Q (F0 m pc ls (.int i :: .ref a :: rest)) :=
  va_zald hE.1 hE.2.1 hE.2.2.2.2.2.1 (gAt_one hG.1 he) 0 2 rfl rfl hin hdg kk
theorem g_lald (hE : gE p l s m args meth c cc nL own D tc A) (hG : gS D A s.heap w H locs) {k0 n : Nat} {f : Nat → Int64} (he : w k0 = some (a, .inl (tc 1, n, .inr (.inl f)))) {i : Int32} (hin : vp_in i n) (hdg : decode cc pc = .ok (.laload, 1))
    (kk : W p l e R s m args below meth c H locs cells slots Q (F0 m (pc + 1) ls (.long (f i.toNatClampNeg) :: rest))) : W p l e R s m args below meth c H locs cells slots Q (F0 m pc ls (.int i :: .ref a :: rest)) :=
  va_lald hE.1 hE.2.1 hE.2.2.2.2.2.1 (gAt_one hG.1 he) 0 1 rfl rfl hin hdg kk
theorem g_aald (hE : gE p l s m args meth c cc nL own D tc A) (hG : gS D A s.heap w H locs) {k0 n t0 : Nat} {cA : ClassId} {C : String} {f : Nat → Option Nat} (he : w k0 = some (a, .inl (cA, n, .inr (.inr (.inr (.inr f)))))) (ht : (gTy tc)[t0]? = some (cA, .object C)) {i : Int32} (hin : vp_in i n) (hdg : decode cc pc = .ok (.aaload, 1))
    (kk : W p l e R s m args below meth c H locs cells slots Q (F0 m (pc + 1) ls (va_rf (f i.toNatClampNeg) :: rest))) : W p l e R s m args below meth c H locs cells slots Q (F0 m pc ls (.int i :: .ref a :: rest)) :=
  va_aldq hE.1 hE.2.1 hE.2.2.2.2.2.1 (gAt_one hG.1 he) 0 t0 rfl ht hin hdg kk
theorem g_alen (hE : gE p l s m args meth c cc nL own D tc A) (hG : gS D A s.heap w H locs) {k0 t0 : Nat} {cA : ClassId} {x : vp_A} (he : w k0 = some (a, .inl (cA, x))) {ty : FieldType} (ht : (gTy tc)[t0]? = some (cA, ty)) {v : Int32} (hv : Int32.ofNat x.1 = v) (hdg : decode cc pc = .ok (.arraylength, 1))
    (kk : W p l e R s m args below meth c H locs cells slots Q (F0 m (pc + 1) ls (.int v :: rest))) : W p l e R s m args below meth c H locs cells slots Q (F0 m pc ls (.ref a :: rest)) :=
  va_alen hE.1 hE.2.1 hE.2.2.2.2.2.1 (gAt_one hG.1 he) 0 t0 rfl ht hv hdg kk
theorem g_iast (hE : gE p l s m args meth c cc nL own D tc A) (hG : gS D A s.heap w H locs) {k0 n : Nat} {f : Nat → Int32} (he : w k0 = some (a, .inl (tc 0, n, .inl f))) {i x : Int32} (hin : vp_in i n) (hdg : decode cc pc = .ok (.iastore, 1))
    (kk : ∀ (H1 : Heap) (locs1 : List Loc) (w1 : gW), w1 = gU w k0 (a, .inl (tc 0, n, .inl (upd f i.toNatClampNeg x))) → gS D A s.heap w1 H1 locs1 → W p l e R s m args below meth c H1 locs1 cells slots Q (F0 m (pc + 1) ls rest)) : W p l e R s m args below meth c H locs cells slots Q (F0 m pc ls (.int x :: .int i :: .ref a :: rest)) := by
  obtain ⟨hexec, hb, -, hown, hts, hK, -, -, -⟩ := hE
  refine W.iast hexec hb (hG.1 k0 _ he) ((hK.2 0 _ rfl).1 n (fun j => .int (f j))) (fun q => by cases q) (by show ¬ (i < 0 ∨ (arrV _ _ _).slots.size ≤ _); rw [arrV_size]; exact hin) rfl rfl hdg fun H1 e z oq => ?_
  refine kk H1 _ _ rfl (hG.set he ?_ z oq)
  show H1[a]? = some (vp_cell _ _)
  rw [e]
  rw [vp_cell_i, vp_cell_i, arrV_store]
  congr 2
  funext q
  by_cases hq : q = i.toNatClampNeg
  · subst hq
    simp [updV, upd]
  · simp [updV, upd, hq]
theorem g_last (hE : gE p l s m args meth c cc nL own D tc A) (hG : gS D A s.heap w H locs) {k0 n : Nat} {f : Nat → Int64} (he : w k0 = some (a, .inl (tc 1, n, .inr (.inl f)))) {i : Int32} {x : Int64} (hin : vp_in i n) (hdg : decode cc pc = .ok (.lastore, 1))
    (kk : ∀ (H1 : Heap) (locs1 : List Loc) (w1 : gW), w1 = gU w k0 (a, .inl (tc 1, n, .inr (.inl (vp_updL f i.toNatClampNeg x)))) → gS D A s.heap w1 H1 locs1 → W p l e R s m args below meth c H1 locs1 cells slots Q (F0 m (pc + 1) ls rest)) : W p l e R s m args below meth c H locs cells slots Q (F0 m pc ls (.long x :: .int i :: .ref a :: rest)) := by
  obtain ⟨hexec, hb, -, hown, hts, hK, -, -, -⟩ := hE
  refine W.last hexec hb (hG.1 k0 _ he) ((hK.2 1 _ rfl).1 n (fun j => .long (f j))) (fun q => by cases q) (by show ¬ (i < 0 ∨ (arrV _ _ _).slots.size ≤ _); rw [arrV_size]; exact hin) rfl rfl hdg fun H1 e z oq => ?_
  refine kk H1 _ _ rfl (hG.set he ?_ z oq)
  show H1[a]? = some (vp_cell _ _)
  rw [e]
  rw [vp_cell_l, vp_cell_l, arrV_store]
  congr 2
  funext q
  by_cases hq : q = i.toNatClampNeg
  · subst hq
    simp [updV, vp_updL]
  · simp [updV, vp_updL, hq]
theorem g_zast (hE : gE p l s m args meth c cc nL own D tc A) (hG : gS D A s.heap w H locs) {k0 n : Nat} {f : Nat → Int32} (he : w k0 = some (a, .inl (tc 2, n, .inl f))) {i x : Int32} (hx : narrow .boolean (.int x) = .int x) (hin : vp_in i n) (hdg : decode cc pc = .ok (.bastore, 1))
    (kk : ∀ (H1 : Heap) (locs1 : List Loc) (w1 : gW), w1 = gU w k0 (a, .inl (tc 2, n, .inl (upd f i.toNatClampNeg x))) → gS D A s.heap w1 H1 locs1 → W p l e R s m args below meth c H1 locs1 cells slots Q (F0 m (pc + 1) ls rest)) : W p l e R s m args below meth c H locs cells slots Q (F0 m pc ls (.int x :: .int i :: .ref a :: rest)) := by
  obtain ⟨hexec, hb, -, hown, hts, hK, -, -, -⟩ := hE
  refine W.zast hexec hb (hG.1 k0 _ he) ((hK.2 2 _ rfl).1 n (fun j => .int (f j))) (fun q => by cases q) (by show ¬ (i < 0 ∨ (arrV _ _ _).slots.size ≤ _); rw [arrV_size]; exact hin) rfl rfl hdg fun H1 e z oq => ?_
  refine kk H1 _ _ rfl (hG.set he ?_ z oq)
  show H1[a]? = some (vp_cell _ _)
  rw [e, hx]
  rw [vp_cell_i, vp_cell_i, arrV_store]
  congr 2
  funext q
  by_cases hq : q = i.toNatClampNeg
  · subst hq
    simp [updV, upd]
  · simp [updV, upd, hq]
theorem g_aast (hE : gE p l s m args meth c cc nL own D tc A) (hG : gS D A s.heap w H locs) {k0 k1 n t0 v ci : Nat} {cA : ClassId} {r : vw_C} {vs : List Value} {f : Nat → Option Nat} (he : w k0 = some (a, .inl (cA, n, .inr (.inr (.inr (.inr f)))))) (ht : (gTy tc)[t0]? = some (cA, .object r.1)) (hv : w k1 = some (v, .inr (ci, vs))) (hc : gCl[ci]? = some r) {i : Int32} (hin : vp_in i n) (hdg : decode cc pc = .ok (.aastore, 1))
    (kk : ∀ (H1 : Heap) (locs1 : List Loc) (w1 : gW), w1 = gU w k0 (a, .inl (cA, n, .inr (.inr (.inr (.inr (va_up f i.toNatClampNeg (some v))))))) → gS D A s.heap w1 H1 locs1 → W p l e R s m args below meth c H1 locs1 cells slots Q (F0 m (pc + 1) ls rest)) : W p l e R s m args below meth c H locs cells slots Q (F0 m pc ls (.ref v :: .int i :: .ref a :: rest)) := by
  obtain ⟨hexec, hb, -, hown, hts, hK, -, -, -⟩ := hE
  have hlt : i.toNatClampNeg < n := Nat.not_le.mp fun q => hin (Or.inr q)
  have h0 : ¬ i < 0 := fun q => hin (Or.inl q)
  obtain ⟨r', hr', cellV, g1, g2, g3, -⟩ := hG.1 k1 _ hv
  have hcls := (hK.1 ci r hc).2
  obtain ⟨kA, comp, j1, j2, j3, -⟩ := (hK.2 t0 _ ht).2
  have hcomp : comp = D.1 ci := Option.some.inj (j3.symm.trans hcls.1)
  subst hcomp
  obtain ⟨kC, hkC, -⟩ := hcls.2
  refine W.aast hexec hb (hG.1 k0 _ he) (fun q h => by cases h) (fun h => by cases h) j1 j2 rfl hkC ⟨h0, by show _ < (arrV _ _ _).slots.size; rw [arrV_size]; exact hlt⟩ g1 (fun q h => by rw [g3] at h; cases h) (by rw [g2]; exact hkC) (by rw [g2]; exact va_assign hcls) rfl rfl hdg fun H1 e z oq => ?_
  refine kk H1 _ _ rfl (hG.set he ?_ z oq)
  show H1[a]? = some (vp_cell _ _)
  rw [e]
  rw [vp_cell_q, vp_cell_q, arrV_store]
  congr 2
  funext q
  by_cases hq : q = i.toNatClampNeg
  · subst hq
    simp [updV, va_up, va_rf]
  · simp [updV, va_up, hq]
/-! new things -/
theorem g_new (hE : gE p l s m args meth c cc nL own D tc A) (hG : gS D A s.heap w H locs) {ci : Nat} {C : String} {T : u_T} {N index : Nat} (hc : gCl[ci]? = some (C, T, N)) (hin : ∀ w ∈ u_ws C T N, w ∈ gT) (ty0 : Nat → FieldType) (hty : ∀ k, k < N → parseFieldDescriptor (T k).2.2.1 = some (ty0 k)) (hcl : Cond.classLink own index C ∈ gT) (hinst : Cond.instantiable C N ∈ gT) (hini : Cond.initialized C ∈ gT) {fs : List Value} (hfs : ∀ j, j < N → defaultValue (ty0 j) = vp_V fs j) (hcells : cells + 1 ≤ R.cells) (hslots : slots + N ≤ R.slots) (k0 : Nat) (hk0 : w k0 = none) (hdg : decode cc pc = .ok (.new index, 3))
    (kk : ∀ (q : Nat) (H1 : Heap) (w1 : gW), w1 = gU w k0 (q, .inr (ci, fs)) → gS D A s.heap w1 H1 locs → W p l e R s m args below meth c H1 locs (cells + 1) (slots + N) Q (F0 m (pc + 3) ls (.ref q :: rest))) : W p l e R s m args below meth c H locs cells slots Q (F0 m pc ls rest) := by
  obtain ⟨hexec, hb, -, hown, hts, hK, -, hA, -⟩ := hE
  have hKn := hK.1 ci _ hc
  refine W.newcK hexec hb hown (hts _ hcl) (hts _ hinst) (hts _ hini) rfl hdg hcells hslots hKn.2.1 rfl fun H1 kC hkC e1 z1 o1 => ?_
  exact kk H.size H1 _ rfl (hG.push hk0 hA ⟨_, hc, (u_born ty0 hts hin hKn hkC e1 hty).to hfs⟩ z1 o1)
theorem g_newi (hE : gE p l s m args meth c cc nL own D tc A) (hG : gS D A s.heap w H locs) {atype : ArrayType} {t0 : Nat} {ty : FieldType} {a0 : vp_A} (harr : Cond.arrayClass (newarray.typeOf atype) ∈ gT) (hty : newarray.typeOf atype = ty) (ht : (gTy tc)[t0]? = some (tc t0, ty)) (hra : ∀ U cA, va_RA U cA ty → U.vm.findClass ("[" ++ ty.toString) = some cA) {n : Int32} {N' : Nat} (ha : ∀ cA : ClassId, vp_cell cA a0 = arrV cA N' (fun _ => defaultValue ty)) (hn : ¬ n < 0) (hN : n.toNatClampNeg = N') (hbytes : N' * componentBytes ty ≤ 536870912) (hcells : cells + 1 ≤ R.cells) (hslots : slots + N' ≤ R.slots) (k0 : Nat) (hk0 : w k0 = none) (hdg : decode cc pc = .ok (.newarray atype, 2))
    (kk : ∀ (q : Nat) (H1 : Heap) (w1 : gW), w1 = gU w k0 (q, .inl (tc t0, a0)) → gS D A s.heap w1 H1 locs → W p l e R s m args below meth c H1 locs (cells + 1) (slots + N') Q (F0 m (pc + 2) ls (.ref q :: rest))) : W p l e R s m args below meth c H locs cells slots Q (F0 m pc ls (.int n :: rest)) := by
  obtain ⟨hexec, hb, -, hown, hts, hK, -, hA, -⟩ := hE
  subst hty
  refine va_newaK hexec hb (hts _ harr) rfl hdg rfl hn hN hbytes hcells hslots rfl fun H1 cA e1 z1 o1 hAr hNm => ?_
  have hc : cA = tc t0 := Option.some.inj (hNm.symm.trans (hra s _ (hK.2 t0 _ ht).2))
  subst hc
  refine kk H.size H1 _ rfl (hG.push hk0 hA ?_ z1 o1)
  show H1[H.size]? = some (vp_cell _ _)
  rw [ha]
  exact e1
theorem g_newq (hE : gE p l s m args meth c cc nL own D tc A) (hG : gS D A s.heap w H locs) {C : String} {index t0 : Nat} (hcl : Cond.classLink own index C ∈ gT) (hr : C ∈ gRs) (ht : (gTy tc)[t0]? = some (tc t0, .object C)) {n : Int32} {N' : Nat} (hn : ¬ n < 0) (hN : n.toNatClampNeg = N') (hbytes : N' * 4 ≤ 536870912) (hcells : cells + 1 ≤ R.cells) (hslots : slots + N' ≤ R.slots) (k0 : Nat) (hk0 : w k0 = none) (hdg : decode cc pc = .ok (.anewarray index, 3))
    (kk : ∀ (q : Nat) (H1 : Heap) (w1 : gW), w1 = gU w k0 (q, .inl (tc t0, N', .inr (.inr (.inr (.inr (fun _ => none)))))) → gS D A s.heap w1 H1 locs → W p l e R s m args below meth c H1 locs (cells + 1) (slots + N') Q (F0 m (pc + 3) ls (.ref q :: rest))) : W p l e R s m args below meth c H locs cells slots Q (F0 m pc ls (.int n :: rest)) := by
  obtain ⟨hexec, hb, -, hown, hts, hK, hX, hA, -⟩ := hE
  subst hN
  refine W.anew hexec hb hown (hts _ hcl) (va_AO.use (hX.2.2.2.1 C hr)) rfl hdg rfl hn hbytes hcells hslots fun cA kA comp f1 f2 f3 f4 => ?_
  generalize hH1 : H.push ({ cls := cA, slots := Array.replicate n.toNatClampNeg .null, vm := .none } : Cell) = H1
  have z1 : H1.size = H.size + 1 := by rw [← hH1, Array.size_push]
  have e1 : H1[H.size]? = some (arrV cA n.toNatClampNeg (fun _ => .null)) := by rw [← hH1, Array.getElem?_push_size, ← arrV_new]
  have o1 : ∀ q : Nat, q < H.size → H1[q]? = H[q]? := fun q hq => by rw [← hH1, Array.getElem?_push, if_neg (Nat.ne_of_lt hq)]
  obtain ⟨kA2, comp2, g1, g2, g3, g4⟩ := (hK.2 t0 _ ht).2
  have hc : cA = tc t0 := Option.some.inj (f1.symm.trans g4)
  subst hc
  refine kk H.size H1 _ rfl (hG.push hk0 hA ?_ z1 o1)
  show H1[H.size]? = some (vp_cell _ _)
  rw [vp_cell_q]
  exact e1
/-! ends -/
theorem gQ_at {post : Option Value → gW → Prop} {v : Option Value} (hG : gS D A s.heap w H locs) (hp : post v w) {ar : Array Value} : ∀ t : State, t.heap = H → s.WarmedH t.vm → gQ D A post ar s (.returned v) t := fun t ht _ => ⟨⟨v, w, rfl, hp, by rw [ht]; exact hG.1, hG.2.1⟩, hG.2.2.F ht⟩
theorem g_iret {post : Option Value → gW → Prop} {XC : String → State → State → Prop} {mc ms : Nat} {v : Int32} (hE : gE p l s m args meth c cc nL own D tc A) (hG : gS D A s.heap w H locs) (hr : meth.sig.returnType = some .int) (hc : cells ≤ mc) (hs : slots ≤ ms) (hdg : decode cc pc = .ok (.ireturn, 1)) (hp : post (some (.int v)) w) : W p l e R s m args below meth c H locs cells slots (vx_MQ below (gQ D A post) XC args s mc ms A) (F0 m pc ls [.int v]) :=
  vx_ret (W.widen hc hs (W.iret hE.1 hE.2.1 hr (gQ_at hG hp) hG.2.2.2.2 hdg hE.2.2.2.2.2.2.2.2))
theorem g_zret {post : Option Value → gW → Prop} {XC : String → State → State → Prop} {mc ms : Nat} {v : Int32} (hE : gE p l s m args meth c cc nL own D tc A) (hG : gS D A s.heap w H locs) (hr : meth.sig.returnType = some .boolean) (hn : narrow .boolean (.int v) = .int v) (hc : cells ≤ mc) (hs : slots ≤ ms) (hdg : decode cc pc = .ok (.ireturn, 1)) (hp : post (some (.int v)) w) : W p l e R s m args below meth c H locs cells slots (vx_MQ below (gQ D A post) XC args s mc ms A) (F0 m pc ls [.int v]) :=
  vx_ret (W.widen hc hs (W.zret hE.1 hE.2.1 hr hn (gQ_at hG hp) hG.2.2.2.2 hdg hE.2.2.2.2.2.2.2.2))
theorem g_lret {post : Option Value → gW → Prop} {XC : String → State → State → Prop} {mc ms : Nat} {v : Int64} (hE : gE p l s m args meth c cc nL own D tc A) (hG : gS D A s.heap w H locs) (hr : meth.sig.returnType = some .long) (hc : cells ≤ mc) (hs : slots ≤ ms) (hdg : decode cc pc = .ok (.lreturn, 1)) (hp : post (some (.long v)) w) : W p l e R s m args below meth c H locs cells slots (vx_MQ below (gQ D A post) XC args s mc ms A) (F0 m pc ls [.long v]) :=
  vx_ret (W.widen hc hs (W.lret hE.1 hE.2.1 hr (gQ_at hG hp) hG.2.2.2.2 hdg hE.2.2.2.2.2.2.2.2))
theorem g_vret {post : Option Value → gW → Prop} {XC : String → State → State → Prop} {mc ms : Nat} (hE : gE p l s m args meth c cc nL own D tc A) (hG : gS D A s.heap w H locs) (hr : meth.sig.returnType = none) (hc : cells ≤ mc) (hs : slots ≤ ms) (hdg : decode cc pc = .ok (.return_, 1)) (hp : post none w) : W p l e R s m args below meth c H locs cells slots (vx_MQ below (gQ D A post) XC args s mc ms A) (F0 m pc ls []) :=
  vx_ret (W.widen hc hs (W.vret hE.1 hE.2.1 hr (gQ_at hG hp) hG.2.2.2.2 hdg hE.2.2.2.2.2.2.2.2))
theorem g_aret {post : Option Value → gW → Prop} {XC : String → State → State → Prop} {mc ms : Nat} {v : Value} {C : String} (hE : gE p l s m args meth c cc nL own D tc A) (hG : gS D A s.heap w H locs) (hr : meth.sig.returnType = some (.object C)) (hv : v = .null ∨ ∃ a, v = .ref a) (hc : cells ≤ mc) (hs : slots ≤ ms) (hdg : decode cc pc = .ok (.areturn, 1)) (hp : post (some v) w) : W p l e R s m args below meth c H locs cells slots (vx_MQ below (gQ D A post) XC args s mc ms A) (F0 m pc ls [v]) :=
  vx_ret (W.widen hc hs (W.aret hE.1 hE.2.1 hr (Or.inl ⟨_, rfl⟩) hv (gQ_at hG hp) hG.2.2.2.2 hdg hE.2.2.2.2.2.2.2.2))
/-! calls -/
/-- behind a call of ours that may throw -/
theorem g_back {post : Option Value → gW → Prop} {thr : String → Prop} {mc ms : Nat} {st0 : List Value} {ar : Array Value} (hr : vx_Run p l e R s m args below meth c H locs cells slots mc ms (F0 m pc ls st0) rest (gQ D A post ar) (gXC D A w thr) A) (hG : gS D A s.heap w H locs)
    (kx : ∀ (E : String) (ce : Cell) (q9 : Addr) (H1 : Heap) (locs1 : List Loc), thr E → gS D A s.heap w H1 locs1 → H1[q9]? = some ce → ce.vm = .none → s.vm.findClass E = some ce.cls → vx_W p l e R s m args below meth c H1 locs1 (cells + mc) (slots + ms) Q (F0 m pc ls rest) q9)
    (kk : ∀ (v : Option Value) (w1 : gW) (H1 : Heap) (locs1 : List Loc), post v w1 → gS D A s.heap w1 H1 locs1 → W p l e R s m args below meth c H1 locs1 (cells + mc) (slots + ms) Q (F0 m (pc + 3) ls (v.toList ++ rest))) : W p l e R s m args below meth c H locs cells slots Q (F0 m pc ls st0) := by
  intro T hT X
  rcases hr T hT X with ⟨v, st₀, t, T', L, h0, X', hL, e1, e2, ⟨⟨v2, w1, hv, hp, hat, hdj⟩, hF⟩, st⟩ | ⟨q, st₀, t, T', L, E, ce, h0, X', hL, e1, e2, ⟨hp, hat, hF⟩, hce, hcv, hcl, st⟩
  · cases hv
    obtain ⟨k1, k2, k3⟩ := vx_keep h0 e1 hG.2.2 (fun _ _ h => h) (fun _ h => h) hL hF
    obtain ⟨t2, a1, b1⟩ := kk v w1 T'.heap (locs ++ L) hp ⟨by rw [e1]; exact hat, hdj, k3⟩ T' rfl X'
    exact ⟨t2, st t2 a1, b1⟩
  · obtain ⟨k1, k2, k3⟩ := vx_keep h0 e1 hG.2.2 (fun _ _ h => h) (fun _ h => h) hL hF
    obtain ⟨t2, a1, b1⟩ := kx E ce q T'.heap (locs ++ L) hp ⟨by rw [e1]; exact hat, hG.2.1, k3⟩ (by rw [e1]; exact hce) hcv hcl T' rfl X'
    exact ⟨t2, st.trans a1, b1⟩
theorem g_backN {post : Option Value → gW → Prop} {mc ms : Nat} {st0 : List Value} {ar : Array Value} (hr : va_Run p l e R s m args below meth c H locs cells slots mc ms (F0 m pc ls st0) rest (gQ D A post ar) A) (hG : gS D A s.heap w H locs)
    (kk : ∀ (v : Option Value) (w1 : gW) (H1 : Heap) (locs1 : List Loc), post v w1 → gS D A s.heap w1 H1 locs1 → W p l e R s m args below meth c H1 locs1 (cells + mc) (slots + ms) Q (F0 m (pc + 3) ls (v.toList ++ rest))) : W p l e R s m args below meth c H locs cells slots Q (F0 m pc ls st0) := by
  intro T hT X
  obtain ⟨v, st₀, t, T', L, h0, X', hL, e1, e2, ⟨⟨v2, w1, hv, hp, hat, hdj⟩, hF⟩, st⟩ := hr T hT X
  cases hv
  obtain ⟨k1, k2, k3⟩ := vx_keep h0 e1 hG.2.2 (fun _ _ h => h) (fun _ h => h) hL hF
  obtain ⟨t2, a1, b1⟩ := kk v w1 T'.heap (locs ++ L) hp ⟨by rw [e1]; exact hat, hdj, k3⟩ T' rfl X'
  exact ⟨t2, st t2 a1, b1⟩
theorem gFix (hE : gE p l s m args meth c cc nL own D tc A) : CallFix p m c cc nL s args gT own := ⟨hE.1, hE.2.1, hE.2.2.1, hE.2.2.2.1, hE.2.2.2.2.1⟩
theorem gPreS (hE : gE p l s m args meth c cc nL own D tc A) (hG : gS D A s.heap w H locs) {As : List Value} : PreS s H (va_Pc As (gB D tc A w)) As := ⟨gB_blind, fun U hU hW => ⟨rfl, gB_at hE hG U hU hW⟩⟩
theorem gPreV (hE : gE p l s m args meth c cc nL own D tc A) (hG : gS D A s.heap w H locs) {As : List Value} {b k0 ci N : Nat} {fs : List Value} {C : String} {T : u_T} (he : w k0 = some (b, .inr (ci, fs))) (hc : gCl[ci]? = some (C, T, N)) : PreV s H C b (va_Pc (.ref b :: As) (gB D tc A w)) As :=
  ⟨gB_blind, va_recv (q0 := 0) hE.2.2.2.2.2.1 (gAt_one hG.1 he) hc rfl, fun U hU hW => ⟨rfl, gB_at hE hG U hU hW⟩⟩
theorem gW_V {C : String} {index : Nat} {y : MethodName} {bytes : ByteArray} {nM : Nat} {ret : Option FieldType} (m1 : Cond.methodLink own index y ∈ gT) (m2 : Cond.instanceMethod y ∈ gT) (m3 : Cond.selects C y y ∈ gT) (m4 : Cond.initialized C ∈ gT) (m5 : Cond.code y bytes nM ret ∈ gT) : GoodIn gT (wsV own index C y (Cond.code y bytes nM ret :: gT)) :=
  gGood (List.forall_mem_cons.mpr ⟨m1, List.forall_mem_cons.mpr ⟨m2, List.forall_mem_cons.mpr ⟨m3, List.forall_mem_cons.mpr ⟨m4, List.forall_mem_cons.mpr ⟨m5, fun _ h => h⟩⟩⟩⟩⟩)
theorem gW_S {index : Nat} {y : MethodName} {bytes : ByteArray} {nM : Nat} {ret : Option FieldType} (m1 : Cond.methodLink own index y ∈ gT) (m2 : Cond.static y ∈ gT) (m4 : Cond.initialized y.cls ∈ gT) (m5 : Cond.code y bytes nM ret ∈ gT) : GoodIn gT (va_wsS own index y (Cond.code y bytes nM ret :: gT)) :=
  gGood (List.forall_mem_cons.mpr ⟨m1, List.forall_mem_cons.mpr ⟨m2, List.forall_mem_cons.mpr ⟨m4, List.forall_mem_cons.mpr ⟨m5, fun _ h => h⟩⟩⟩⟩)
theorem gW_I {y : MethodName} {bytes : ByteArray} {nM : Nat} {ret : Option FieldType} (m5 : Cond.code y bytes nM ret ∈ gT) : GoodIn gT (Cond.code y bytes nM ret :: gT) := gGood (List.forall_mem_cons.mpr ⟨m5, fun _ h => h⟩)
/-- what the name and the room of a callee owe -/
def gNm (y : MethodName) (n : Nat) : Prop := y.cls ≠ "java/lang/invoke/MethodHandle" ∧ y.cls ≠ "java/lang/invoke/VarHandle" ∧ (parseMethodDescriptor y.desc).map (fun d => d.parameters.length) = some n
def gRm (rm R : Room) (nM cells slots : Nat) : Prop := (rm.frames + 1 ≤ R.frames ∧ 8 + (nM + 11) + rm.locals ≤ R.locals) ∧ cells + rm.cells ≤ R.cells ∧ slots + rm.slots ≤ R.slots
theorem g_callV (hE : gE p l s m args meth c cc nL own D tc A) (hG : gS D A s.heap w H locs) (hsz : ls.size = nL) {C : String} {T : u_T} {index N n nM k0 ci b : Nat} {fs As : List Value} {y : MethodName} {bytes : ByteArray} {ret : Option FieldType} {rm : Room} {post : Option Value → gW → Prop} {thr : String → Prop} (hM : gM l y bytes nM ret rm D tc A (.ref b :: As) w post thr)
    (he : w k0 = some (b, .inr (ci, fs))) (hc : gCl[ci]? = some (C, T, N)) (m1 : Cond.methodLink own index y ∈ gT) (m2 : Cond.instanceMethod y ∈ gT) (m3 : Cond.selects C y y ∈ gT) (m4 : Cond.initialized C ∈ gT) (m5 : Cond.code y bytes nM ret ∈ gT) (hy : y.cls = C) (hn : gNm y n) (hR : gRm rm R nM cells slots) (hA : As.length = n) {st0 : List Value} (hst : st0 = As.reverse ++ .ref b :: rest) (hW : (rest.map fun v => v.category).sum ≤ 8) (hdg : decode cc pc = .ok (.invokevirtual index, 3))
    (kx : ∀ (E : String) (ce : Cell) (q9 : Addr) (H1 : Heap) (locs1 : List Loc), thr E → gS D A s.heap w H1 locs1 → H1[q9]? = some ce → ce.vm = .none → s.vm.findClass E = some ce.cls → vx_W p l e R s m args below meth c H1 locs1 (cells + rm.cells) (slots + rm.slots) Q (F0 m pc ls rest) q9)
    (kk : ∀ (v : Option Value) (w1 : gW) (H1 : Heap) (locs1 : List Loc), post v w1 → gS D A s.heap w1 H1 locs1 → W p l e R s m args below meth c H1 locs1 (cells + rm.cells) (slots + rm.slots) Q (F0 m (pc + 3) ls (v.toList ++ rest))) : W p l e R s m args below meth c H locs cells slots Q (F0 m pc ls st0) := by
  subst hst
  exact g_back (vx_runV (g := F0 m pc ls (As.reverse ++ .ref b :: rest)) (gFix hE) hM (cwV n hE.2.2.2.2.1 (gW_V m1 m2 m3 m4 m5) rfl rfl rfl ⟨hy, hn⟩ hR.1) (gPreV hE hG he hc) rfl hA hsz rfl (by show 2 * 0 + _ ≤ 8; omega) hdg hR.2) hG kx kk
theorem g_callS (hE : gE p l s m args meth c cc nL own D tc A) (hG : gS D A s.heap w H locs) (hsz : ls.size = nL) {index n nM : Nat} {As : List Value} {y : MethodName} {bytes : ByteArray} {ret : Option FieldType} {rm : Room} {post : Option Value → gW → Prop} {thr : String → Prop} (hM : gM l y bytes nM ret rm D tc A As w post thr)
    (m1 : Cond.methodLink own index y ∈ gT) (m2 : Cond.static y ∈ gT) (m4 : Cond.initialized y.cls ∈ gT) (m5 : Cond.code y bytes nM ret ∈ gT) (hn : gNm y n) (hR : gRm rm R nM cells slots) (hA : As.length = n) {st0 : List Value} (hst : st0 = As.reverse ++ rest) (hW : (rest.map fun v => v.category).sum ≤ 8) (hdg : decode cc pc = .ok (.invokestatic index, 3))
    (kx : ∀ (E : String) (ce : Cell) (q9 : Addr) (H1 : Heap) (locs1 : List Loc), thr E → gS D A s.heap w H1 locs1 → H1[q9]? = some ce → ce.vm = .none → s.vm.findClass E = some ce.cls → vx_W p l e R s m args below meth c H1 locs1 (cells + rm.cells) (slots + rm.slots) Q (F0 m pc ls rest) q9)
    (kk : ∀ (v : Option Value) (w1 : gW) (H1 : Heap) (locs1 : List Loc), post v w1 → gS D A s.heap w1 H1 locs1 → W p l e R s m args below meth c H1 locs1 (cells + rm.cells) (slots + rm.slots) Q (F0 m (pc + 3) ls (v.toList ++ rest))) : W p l e R s m args below meth c H locs cells slots Q (F0 m pc ls st0) := by
  subst hst
  exact g_back (vx_runS (g := F0 m pc ls (As.reverse ++ rest)) (gFix hE) hM (va_cwS n hE.2.2.2.2.1 (gW_S m1 m2 m4 m5) rfl rfl rfl hn hR.1) (gPreS hE hG) rfl hA hsz rfl (by show 2 * 0 + _ ≤ 8; omega) hdg hR.2) hG kx kk
theorem gM_not {y : MethodName} {bytes : ByteArray} {nM : Nat} {ret : Option FieldType} {rm : Room} {As : List Value} {post : Option Value → gW → Prop} (hM : gM l y bytes nM ret rm D tc A As w post (fun _ => False)) : Met l y (Cond.code y bytes nM ret :: gT) rm (va_Pc As (gB D tc A w)) (gQ D A post) rm.cells rm.slots A := gMet_of (fun _ _ _ h => h.1) hM
theorem g_callI (hE : gE p l s m args meth c cc nL own D tc A) (hG : gS D A s.heap w H locs) (hsz : ls.size = nL) {index n nM b : Nat} {As : List Value} {y : MethodName} {bytes : ByteArray} {rm : Room} {post : Option Value → gW → Prop} (hM : gM l y bytes nM none rm D tc A (.ref b :: As) w post (fun _ => False))
    (m1 : Cond.methodLink own index y ∈ gT) (m2 : Cond.instanceMethod y ∈ gT) (m4 : Cond.initialized y.cls ∈ gT) (m5 : Cond.code y bytes nM none ∈ gT) (hy : y.name = "<init>") (hn : gNm y n) (hR : gRm rm R nM cells slots) (hA : As.length = n) {st0 : List Value} (hst : st0 = As.reverse ++ .ref b :: rest) (hW : (rest.map fun v => v.category).sum ≤ 8) (hdg : decode cc pc = .ok (.invokespecial index, 3))
    (kk : ∀ (v : Option Value) (w1 : gW) (H1 : Heap) (locs1 : List Loc), post v w1 → gS D A s.heap w1 H1 locs1 → W p l e R s m args below meth c H1 locs1 (cells + rm.cells) (slots + rm.slots) Q (F0 m (pc + 3) ls (v.toList ++ rest))) : W p l e R s m args below meth c H locs cells slots Q (F0 m pc ls st0) := by
  subst hst
  have hts := hE.2.2.2.2.1
  exact g_backN (va_runI (g := F0 m pc ls (As.reverse ++ .ref b :: rest)) (gFix hE) (gM_not hM) (cwI n hts (gW_I m5) rfl rfl rfl (hts _ m4) (hts _ m1) (hts _ m2) hy hn hR.1) (gPreS hE hG) rfl hA hsz rfl (by show 2 * 0 + _ ≤ 8; omega) hdg hR.2) hG kk
theorem g_callIN (hE : gE p l s m args meth c cc nL own D tc A) (hG : gS D A s.heap w H locs) (hsz : ls.size = nL) {index n nM b : Nat} {As : List Value} {y : MethodName} {bytes : ByteArray} {rm : Room} {post : Option Value → gW → Prop} (hM : gM l y bytes nM none rm D tc A (.ref b :: As) w post (fun _ => False))
    (m1 : (own, index, y) ∈ gMn) (m2 : Cond.instanceMethod y ∈ gT) (m4 : Cond.initialized y.cls ∈ gT) (m5 : Cond.code y bytes nM none ∈ gT) (hy : y.name = "<init>") (hn : gNm y n) (hR : gRm rm R nM cells slots) (hA : As.length = n) {st0 : List Value} (hst : st0 = As.reverse ++ .ref b :: rest) (hW : (rest.map fun v => v.category).sum ≤ 8) (hdg : decode cc pc = .ok (.invokespecial index, 3))
    (kk : ∀ (v : Option Value) (w1 : gW) (H1 : Heap) (locs1 : List Loc), post v w1 → gS D A s.heap w1 H1 locs1 → W p l e R s m args below meth c H1 locs1 (cells + rm.cells) (slots + rm.slots) Q (F0 m (pc + 3) ls (v.toList ++ rest))) : W p l e R s m args below meth c H locs cells slots Q (F0 m pc ls st0) := by
  subst hst
  have hts := hE.2.2.2.2.1
  exact g_backN (va_runIN (g := F0 m pc ls (As.reverse ++ .ref b :: rest)) (gFix hE) (gM_not hM) ⟨va_cnB n hts (gW_I m5) rfl rfl rfl (hE.2.2.2.2.2.2.1.2.2.2.2.2.2.2.1 _ m1) (hts _ m4) hn hR.1, hy, hts _ m2⟩ (gPreS hE hG) rfl hA hsz rfl (by show 2 * 0 + _ ≤ 8; omega) hdg hR.2) hG kk
theorem g_callSN (hE : gE p l s m args meth c cc nL own D tc A) (hG : gS D A s.heap w H locs) (hsz : ls.size = nL) {index n nM : Nat} {As : List Value} {y : MethodName} {bytes : ByteArray} {ret : Option FieldType} {rm : Room} {post : Option Value → gW → Prop} (hM : gM l y bytes nM ret rm D tc A As w post (fun _ => False))
    (m1 : (own, index, y) ∈ gMn) (m2 : Cond.static y ∈ gT) (m4 : Cond.initialized y.cls ∈ gT) (m5 : Cond.code y bytes nM ret ∈ gT) (hn : gNm y n) (hR : gRm rm R nM cells slots) (hA : As.length = n) {st0 : List Value} (hst : st0 = As.reverse ++ rest) (hW : (rest.map fun v => v.category).sum ≤ 8) (hdg : decode cc pc = .ok (.invokestatic index, 3))
    (kk : ∀ (v : Option Value) (w1 : gW) (H1 : Heap) (locs1 : List Loc), post v w1 → gS D A s.heap w1 H1 locs1 → W p l e R s m args below meth c H1 locs1 (cells + rm.cells) (slots + rm.slots) Q (F0 m (pc + 3) ls (v.toList ++ rest))) : W p l e R s m args below meth c H locs cells slots Q (F0 m pc ls st0) := by
  subst hst
  have hts := hE.2.2.2.2.1
  exact g_backN (va_runSN (g := F0 m pc ls (As.reverse ++ rest)) (gFix hE) (gM_not hM) ⟨va_cnB n hts (gW_I m5) rfl rfl rfl (hE.2.2.2.2.2.2.1.2.2.2.2.2.2.2.1 _ m1) (hts _ m4) hn hR.1, hts _ m2, trivial⟩ (gPreS hE hG) rfl hA hsz rfl (by show 2 * 0 + _ ≤ 8; omega) hdg hR.2) hG kk
end GROWS
end
section
def gBs : List Cond := gDs.map Cond.declares ++ gEs.map (fun E => Cond.castable E E)
abbrev gSup : List String := ["java/lang/RuntimeException", "java/lang/Exception"]
section GTHR
variable {p : Program} {l : Launch} {e : Env} {R : Room} {s : State} {m : MethodId} {args : Array Value} {below : List Frame} {meth : Method} {c : Code} {H : Heap} {locs : List Loc} {cells slots : Nat} {Q : State → Prop}
variable {cc : ByteArray} {nL pc : Nat} {own : String} {ls : Array Slot} {rest : List Value} {D : va_G} {tc : Nat → ClassId} {A : Nat → Prop} {a : Nat} {w : gW}
theorem gBs_at (hE : gE p l s m args meth c cc nL own D tc A) : ∀ w ∈ gBs, w.before args s = true := by
  intro w hw
  have hX := hE.2.2.2.2.2.2.1
  rcases List.mem_append.mp hw with h | h
  · obtain ⟨x, hx, rfl⟩ := List.mem_map.mp h
    exact va_Nw.use rfl (hX.2.2.2.2.2.2.2.2 x hx)
  · obtain ⟨x, hx, rfl⟩ := List.mem_map.mp h
    exact va_Nw.use rfl (hX.2.2.2.2.2.1 x hx)
theorem gAt_words (hE : gE p l s m args meth c cc nL own D tc A) {L : List Cond} (h1 : ∀ w ∈ L.filter goodWord, w ∈ lw_tbl) (h2 : ∀ w ∈ L.filter (fun w => !goodWord w), w ∈ gBs) : ∀ w ∈ L, w.before args s = true :=
  vx_hat (B := gBs) (fun w hw => hE.2.2.2.2.1 w (List.mem_filter.mpr ⟨h1 w hw, (List.mem_filter.mp hw).2⟩)) h2 (gBs_at hE)
theorem gat1_IA : ∀ w ∈ (vx_atS RX5 62 gIA gSup).filter goodWord, w ∈ lw_tbl := by decide +kernel
theorem gat2_IA : ∀ w ∈ (vx_atS RX5 62 gIA gSup).filter (fun w => !goodWord w), w ∈ gBs := by decide +kernel
theorem gat3_IA : ∀ w ∈ Cond.classLink RX5 58 gIA :: Cond.initialized gIA :: vx_atS RX5 62 gIA gSup, vx_ot w = true := by decide +kernel
theorem gat1_IS : ∀ w ∈ (vx_atS RX5 69 gIS gSup).filter goodWord, w ∈ lw_tbl := by decide +kernel
theorem gat2_IS : ∀ w ∈ (vx_atS RX5 69 gIS gSup).filter (fun w => !goodWord w), w ∈ gBs := by decide +kernel
theorem gat3_IS : ∀ w ∈ Cond.classLink RX5 65 gIS :: Cond.initialized gIS :: vx_atS RX5 69 gIS gSup, vx_ot w = true := by decide +kernel
theorem gat1_IO : ∀ w ∈ (vx_atS RX5 78 gIO gSup).filter goodWord, w ∈ lw_tbl := by decide +kernel
theorem gat2_IO : ∀ w ∈ (vx_atS RX5 78 gIO gSup).filter (fun w => !goodWord w), w ∈ gBs := by decide +kernel
theorem gat3_IO : ∀ w ∈ Cond.classLink RX5 74 gIO :: Cond.initialized gIO :: vx_atS RX5 78 gIO gSup, vx_ot w = true := by decide +kernel
theorem gfit_IA : Bundle.fit gIA = true := by decide +kernel
theorem gfit_IS : Bundle.fit gIS = true := by decide +kernel
theorem gfit_IO : Bundle.fit gIO = true := by decide +kernel
theorem gfit_sup : ∀ n ∈ gSup, Bundle.fit n = true := by decide +kernel
/-- what a throw's class needs: the entry of its name and of its constructor -/
def gThr (E : String) (ik ic : Nat) : Prop := Bundle.fit E = true ∧ Cond.classLink RX5 ik E ∈ gT ∧ Cond.initialized E ∈ gT ∧ (∀ w ∈ (vx_atS RX5 ic E gSup).filter goodWord, w ∈ lw_tbl) ∧ (∀ w ∈ (vx_atS RX5 ic E gSup).filter (fun w => !goodWord w), w ∈ gBs) ∧ ∀ w ∈ Cond.classLink RX5 ik E :: Cond.initialized E :: vx_atS RX5 ic E gSup, vx_ot w = true
theorem gX_out {w0 : gW} {thr : String → Prop} {E : String} (hG : gS D A s.heap w H locs) (hw : w = w0) (hp : thr E) : ∀ t : State, s.vm.Alike t.vm → H.size ≤ t.heap.size → (∀ q : Nat, q < H.size → t.heap[q]? = H[q]?) → gXC D A w0 thr E s t := by
  subst hw
  intro t _ h1 h2
  refine ⟨hp, fun k x hx => (hG.1 k x hx).kept (h2 _ (hG.1 k x hx).lt), Nat.le_trans hG.2.2.1 h1, fun q g1 g2 => (h2 q (Nat.lt_of_lt_of_le g1 hG.2.2.1)).trans (hG.2.2.2.1 q g1 g2)⟩
theorem g_thr {w0 : gW} {thr : String → Prop} {Qc : Array Value → State → Outcome → State → Prop} {mc ms : Nat} {E text : String} {ik is ic : Nat} (hl : l.stackTraces = false) (hE : gE p l s m args meth c cc nL RX5 D tc A) (hG : gS D A s.heap w H locs) (hsz : ls.size = nL) (hnt : ∀ x ∈ c.exceptionTable.toList, False) (hT : gThr E ik ic) (hstr : (is, text) ∈ gSs)
    (d0 : decode cc pc = .ok (.new ik, 3)) (d3 : decode cc (pc + 3) = .ok (.dup, 1)) (d4 : decode cc (pc + 4) = .ok (.ldc is, 2)) (d6 : decode cc (pc + 6) = .ok (.invokespecial ic, 3)) (d9 : decode cc (pc + 9) = .ok (.athrow, 1))
    (hR : 5 < R.frames ∧ (rest.map fun v => v.category).sum + 82 ≤ R.locals ∧ cells + 1 ≤ R.cells ∧ slots + 6 ≤ R.slots ∧ cells + 1 ≤ mc ∧ slots + 6 ≤ ms) (hw : w = w0) (hp : thr E) :
    W p l e R s m args below meth c H locs cells slots (vx_MQ below Qc (gXC D A w0 thr) args s mc ms A) (F0 m pc ls rest) := by
  obtain ⟨t1, t2, t3, t4, t5, t6⟩ := hT
  obtain ⟨hexec, hb, hml, hown, hts, hK, hX, hA, hlk⟩ := id hE
  obtain ⟨sa, hsa⟩ := hX.2.2.1 _ hstr
  exact vx_throwS (names := gSup) hexec hb hl hown t1 gfit_sup (hts _ t2) (hts _ t3) hsa (gAt_words hE t4 t5) t6 hX.1 hX.2.1 hG.2.2 (hsz.trans hml.symm) d0 d3 d4 d6 d9 (fun x hx => (hnt x hx).elim) hR.1 hR.2.1 hR.2.2.1 hR.2.2.2.1 hlk (gX_out hG hw hp) hG.2.2.2.2 hR.2.2.2.2.1 hR.2.2.2.2.2
theorem g_thrW {w0 : gW} {thr : String → Prop} {Qc : Array Value → State → Outcome → State → Prop} {mc ms : Nat} {E text : String} {ik is ic : Nat} (hl : l.stackTraces = false) (hE : gE p l s m args meth c cc nL RX5 D tc A) (hG : gS D A s.heap w H locs) (hsz : ls.size = nL) (hnt : ∀ x ∈ c.exceptionTable.toList, False) (hT : gThr E ik ic) (hstr : (is, text) ∈ gSs)
    (d0 : decode cc pc = .ok (.new ik, 3)) (d3 : decode cc (pc + 3) = .ok (.dup, 1)) (d4 : decode cc (pc + 4) = .ok (.ldc_w is, 3)) (d7 : decode cc (pc + 7) = .ok (.invokespecial ic, 3)) (d10 : decode cc (pc + 10) = .ok (.athrow, 1))
    (hR : 5 < R.frames ∧ (rest.map fun v => v.category).sum + 82 ≤ R.locals ∧ cells + 1 ≤ R.cells ∧ slots + 6 ≤ R.slots ∧ cells + 1 ≤ mc ∧ slots + 6 ≤ ms) (hw : w = w0) (hp : thr E) :
    W p l e R s m args below meth c H locs cells slots (vx_MQ below Qc (gXC D A w0 thr) args s mc ms A) (F0 m pc ls rest) := by
  obtain ⟨t1, t2, t3, t4, t5, t6⟩ := hT
  obtain ⟨hexec, hb, hml, hown, hts, hK, hX, hA, hlk⟩ := id hE
  obtain ⟨sa, hsa⟩ := hX.2.2.1 _ hstr
  exact vx_throwSW (names := gSup) hexec hb hl hown t1 gfit_sup (hts _ t2) (hts _ t3) hsa (gAt_words hE t4 t5) t6 hX.1 hX.2.1 hG.2.2 (hsz.trans hml.symm) d0 d3 d4 d7 d10 (fun x hx => (hnt x hx).elim) hR.1 hR.2.1 hR.2.2.1 hR.2.2.2.1 hlk (gX_out hG hw hp) hG.2.2.2.2 hR.2.2.2.2.1 hR.2.2.2.2.2
/-- it goes on to the caller -/
theorem g_out {w0 : gW} {thr thr' : String → Prop} {Qc : Array Value → State → Outcome → State → Prop} {mc ms c1 s1 : Nat} (hE : gE p l s m args meth c cc nL own D tc A) (hnt : ∀ x ∈ c.exceptionTable.toList, False) (hw : w = w0) (ht : ∀ E, thr E → thr' E) (hc : c1 ≤ mc) (hs : s1 ≤ ms) :
    ∀ (E : String) (ce : Cell) (q9 : Addr) (H1 : Heap) (locs1 : List Loc), thr E → gS D A s.heap w H1 locs1 → H1[q9]? = some ce → ce.vm = .none → s.vm.findClass E = some ce.cls → vx_W p l e R s m args below meth c H1 locs1 c1 s1 (vx_MQ below Qc (gXC D A w0 thr') args s mc ms A) (F0 m pc ls rest) q9 := by
  intro E ce q9 H1 locs1 hp hG h1 h2 h3
  refine vx_out (fun x hx => (hnt x hx).elim) hE.2.2.2.2.2.2.2.2 h1 h2 h3 (fun t ht' hal => ?_) hG.2.2.2.2 hc hs
  exact gX_out hG hw (ht E hp) t hal (by rw [ht']; exact Nat.le_refl _) (fun q _ => by rw [ht'])
/-- it can't be -/
theorem g_no {c1 s1 : Nat} : ∀ (E : String) (ce : Cell) (q9 : Addr) (H1 : Heap) (locs1 : List Loc), False → gS D A s.heap w H1 locs1 → H1[q9]? = some ce → ce.vm = .none → s.vm.findClass E = some ce.cls → vx_W p l e R s m args below meth c H1 locs1 c1 s1 Q (F0 m pc ls rest) q9 := fun _ _ _ _ _ h => h.elim
end GTHR
/-- a body, from its entry -/
theorem gM_of {l : Launch} {y : MethodName} {cc : ByteArray} {nL : Nat} {rt : Option FieldType} {rm : Room} {D : va_G} {tc : Nat → ClassId} {A : Nat → Prop} {av : List Value} {w : gW} {post : Option Value → gW → Prop} {thr : String → Prop} (hy : plainName y.cls = true) (hn : nL ≥ (lg_sl av).length)
    (body : ∀ (p : Program) (e : Env) (s : State) (m : MethodId) (args : Array Value) (below : List Frame) (meth : Method) (c : Code) (ls : Array Slot) (Q : State → Prop), Q = vx_MQ below (gQ D A post) (gXC D A w thr) args s rm.cells rm.slots A → gE p l s m args meth c cc nL y.cls D tc A → gS D A s.heap w s.heap [] → meth.sig.returnType = rt → (∀ x ∈ c.exceptionTable.toList, False) → (∀ m9, meth.name = m9 ↔ y.name = m9) → lv_has ls nL (lv_args 0 av) →
      W p l e rm s m args below meth c s.heap [] 0 0 Q (F0 m 0 ls [])) : gM l y cc nL rt rm D tc A av w post thr := by
  refine vx_ofW (cc := cc) (maxL := nL) (ret := rt) (ws' := gT) hy rfl ?_
  intro p e s m args below meth c s₁ B hml hnt hv
  obtain ⟨rfl, h1, h2, h3, h4, h5⟩ := hv
  have hts0 := atoms_spec (ws := Cond.code y cc nL rt :: gT) B.pre
  have hts : ∀ w ∈ gT, w.before av.toArray s = true := fun w hw => hts0 w (List.mem_cons_of_mem _ hw)
  have hown : s.vm.findClass y.cls = some m.cls := findClass_of_methodNamed B.named
  have hname := (name_of_methodNamed B.named B.method).1
  have hl := lv_entry av (n := nL) hn
  rw [lg_entry_eq]
  generalize (lg_sl av ++ List.replicate (nL - (lg_sl av).length) Slot.unset).toArray = ls at hl ⊢
  exact body p e s m av.toArray below meth c ls _ rfl ⟨B.exec, B.bytes, hml, hown, hts, h4, h5, h3, B.notSynchronized⟩ ⟨h1, h2, va_S.rf⟩ B.returns hnt (fun m9 => by rw [hname]) hl
theorem gTgIA : gThr gIA 58 62 := ⟨gfit_IA, mw1_140, mw1_8, gat1_IA, gat2_IA, gat3_IA⟩
theorem gTgIS : gThr gIS 65 69 := ⟨gfit_IS, mw1_208, mw1_9, gat1_IS, gat2_IS, gat3_IS⟩
theorem gTgIO : gThr gIO 74 78 := ⟨gfit_IO, mw1_236, mw1_10, gat1_IO, gat2_IO, gat3_IO⟩
end
section
/-! Melody: an object with a row of tones -/
theorem mel_in {n : Nat} {x : Int32} (hn : n < 2 ^ 30) (h1 : ¬ x < 1) (h2 : ¬ nI n < x) : vp_in (x - 1) n := by
  have hN := nI_toInt (n := n) (by omega)
  rw [Int32.lt_iff_toInt_lt] at h1 h2
  rw [hN] at h2
  have e1 : (1 : Int32).toInt = 1 := by decide
  rw [e1] at h1
  rw [vp_in_iff, Int32.toInt_sub, e1, Int.bmod_eq_of_le (by omega) (by omega)]
  omega
abbrev rm_X1_length : Room := { frames := 1, cells := 0, slots := 0, locals := 50 }
theorem nm_X1_length : gNm yX1_length 0 := ⟨by decide +kernel, by decide +kernel, by decide +kernel⟩
set_option maxHeartbeats 4000000 in
set_option maxRecDepth 100000 in
theorem c_X1_length (l : Launch) (hfl : l.stackTraces = false) (D : va_G) (tc : Nat → ClassId) (A : Nat → Prop) (w : gW) (k0 : Nat) (k1 : Nat) (h0 : Nat) (t : Nat) (n : Nat) (f : Nat → Int32) (h1 : w k0 = some (h0, .inr (1, [.ref t]))) (h2 : w k1 = some (t, .inl (tc 0, n, .inl f))) : gM l yX1_length cX1_length 1 (some .int) rm_X1_length D tc A [.ref h0] w (fun v w' => v = some (.int (nI n)) ∧ w' = w) (fun _ => False) := by
  refine gM_of (by decide +kernel) (Nat.le_of_ble_eq_true rfl) ?_
  intro p e s m args below meth c ls Q hQ hE hG hr hnt hnm hl
  have hx := hE.1
  have hb := hE.2.1
  have hl : lv_has ls 1 [(0, .ref h0)] := hl
  refine lv_aload_n hx hb dX1_length_0 rfl (lv_at hl 0 rfl) ?_
  refine g_get hE hG h1 rfl inG1 0 (by decide) mw2_35 rfl dX1_length_1 ?_
  refine g_alen (t0 := 0) (v := (nI n)) hE hG h2 rfl rfl dX1_length_4 ?_
  subst hQ
  exact g_iret hE hG hr (Nat.le_of_ble_eq_true rfl) (Nat.le_of_ble_eq_true rfl) dX1_length_5 ⟨rfl, rfl⟩
def f_has (n : Nat) (x : Int32) : Int32 := (if x < 1 then 0 else (if (nI n) < x then 0 else 1))
abbrev rm_X1_hasPlace : Room := { frames := 1, cells := 0, slots := 0, locals := 50 }
theorem nm_X1_hasPlace : gNm yX1_hasPlace 1 := ⟨by decide +kernel, by decide +kernel, by decide +kernel⟩
set_option maxHeartbeats 4000000 in
set_option maxRecDepth 100000 in
theorem c_X1_hasPlace (l : Launch) (hfl : l.stackTraces = false) (D : va_G) (tc : Nat → ClassId) (A : Nat → Prop) (w : gW) (k0 : Nat) (k1 : Nat) (h0 : Nat) (t : Nat) (n : Nat) (f : Nat → Int32) (x : Int32) (h1 : w k0 = some (h0, .inr (1, [.ref t]))) (h2 : w k1 = some (t, .inl (tc 0, n, .inl f))) : gM l yX1_hasPlace cX1_hasPlace 2 (some .boolean) rm_X1_hasPlace D tc A [.ref h0, .int x] w (fun v w' => v = some (.int (f_has n x)) ∧ w' = w) (fun _ => False) := by
  refine gM_of (by decide +kernel) (Nat.le_of_ble_eq_true rfl) ?_
  intro p e s m args below meth c ls Q hQ hE hG hr hnt hnm hl
  have hx := hE.1
  have hb := hE.2.1
  have hl : lv_has ls 2 [(0, .ref h0), (1, .int x)] := hl
  refine lv_iload_n hx hb dX1_hasPlace_0 rfl (lv_at hl 1 rfl) ?_
  refine lv_iconst (v := 1) hx hb dX1_hasPlace_1 (by decide) ?_
  refine lv_icmp_lt (tgt := 18) hx hb dX1_hasPlace_2 (by decide) (fun c_1 => ?_) (fun c_1 => ?_)
  · skip
    refine lv_iconst (v := 0) hx hb dX1_hasPlace_18 (by decide) ?_
    subst hQ
    exact g_zret hE hG hr (by decide) (Nat.le_of_ble_eq_true rfl) (Nat.le_of_ble_eq_true rfl) dX1_hasPlace_19 ⟨by unfold f_has; rw [if_pos c_1], rfl⟩
  · skip
    refine lv_iload_n hx hb dX1_hasPlace_5 rfl (lv_at hl 1 rfl) ?_
    refine lv_aload_n hx hb dX1_hasPlace_6 rfl (lv_at hl 0 rfl) ?_
    refine g_get hE hG h1 rfl inG1 0 (by decide) mw2_35 rfl dX1_hasPlace_7 ?_
    refine g_alen (t0 := 0) (v := (nI n)) hE hG h2 rfl rfl dX1_hasPlace_10 ?_
    refine lv_icmp_gt (tgt := 18) hx hb dX1_hasPlace_11 (by decide) (fun c_2 => ?_) (fun c_2 => ?_)
    · skip
      refine lv_iconst (v := 0) hx hb dX1_hasPlace_18 (by decide) ?_
      subst hQ
      exact g_zret hE hG hr (by decide) (Nat.le_of_ble_eq_true rfl) (Nat.le_of_ble_eq_true rfl) dX1_hasPlace_19 ⟨by unfold f_has; rw [if_neg c_1, if_pos c_2], rfl⟩
    · skip
      refine lv_iconst (v := 1) hx hb dX1_hasPlace_14 (by decide) ?_
      refine lv_goto (tgt := 19) hx hb dX1_hasPlace_15 (by decide) ?_
      subst hQ
      exact g_zret hE hG hr (by decide) (Nat.le_of_ble_eq_true rfl) (Nat.le_of_ble_eq_true rfl) dX1_hasPlace_19 ⟨by unfold f_has; rw [if_neg c_1, if_neg c_2], rfl⟩
theorem f_has_ne {n : Nat} {x : Int32} (h : ¬ f_has n x = 0) : ¬ x < 1 ∧ ¬ nI n < x := by
  unfold f_has at h
  by_cases h1 : x < 1
  · rw [if_pos h1] at h; exact absurd rfl h
  · rw [if_neg h1] at h
    by_cases h2 : nI n < x
    · rw [if_pos h2] at h; exact absurd rfl h
    · exact ⟨h1, h2⟩
def f_at (n : Nat) (f : Nat → Int32) (x : Int32) : Int32 := (if (f_has n x) = 0 then 0 else (f (x - 1).toNatClampNeg))
abbrev rm_X1_at : Room := { frames := 2, cells := 0, slots := 0, locals := 86 }
theorem nm_X1_at : gNm yX1_at 1 := ⟨by decide +kernel, by decide +kernel, by decide +kernel⟩
set_option maxHeartbeats 4000000 in
set_option maxRecDepth 100000 in
theorem c_X1_at (l : Launch) (hfl : l.stackTraces = false) (D : va_G) (tc : Nat → ClassId) (A : Nat → Prop) (w : gW) (k0 : Nat) (k1 : Nat) (h0 : Nat) (t : Nat) (n : Nat) (f : Nat → Int32) (x : Int32) (h1 : w k0 = some (h0, .inr (1, [.ref t]))) (h2 : w k1 = some (t, .inl (tc 0, n, .inl f))) (hn : n < 2 ^ 30) : gM l yX1_at cX1_at 2 (some .int) rm_X1_at D tc A [.ref h0, .int x] w (fun v w' => v = some (.int (f_at n f x)) ∧ w' = w) (fun _ => False) := by
  refine gM_of (by decide +kernel) (Nat.le_of_ble_eq_true rfl) ?_
  intro p e s m args below meth c ls Q hQ hE hG hr hnt hnm hl
  have hx := hE.1
  have hb := hE.2.1
  have hl : lv_has ls 2 [(0, .ref h0), (1, .int x)] := hl
  refine lv_aload_n hx hb dX1_at_0 rfl (lv_at hl 0 rfl) ?_
  refine lv_iload_n hx hb dX1_at_1 rfl (lv_at hl 1 rfl) ?_
  refine g_callV (rest := []) (As := [.int x]) hE hG hl.1 (c_X1_hasPlace l hfl D tc A w k0 k1 h0 t n f x h1 h2 ) h1 rfl mw2_79 mw2_64 mw2_65 mw1_12 mw2_66 rfl nm_X1_hasPlace ⟨⟨Nat.le_of_ble_eq_true rfl, Nat.le_of_ble_eq_true rfl⟩, Nat.le_of_ble_eq_true rfl, Nat.le_of_ble_eq_true rfl⟩ rfl rfl (Nat.le_of_ble_eq_true rfl) dX1_at_2 (g_no) ?_
  intro v9 w9 H locs h9 hG
  obtain ⟨e9, f9⟩ := h9
  rw [f9] at hG; rw [e9]; clear e9 f9
  show W p l e _ s m args below meth c H locs _ _ _ (F0 m 5 ls [.int (f_has n x)])
  refine lv_if_eq (tgt := 19) hx hb dX1_at_5 (by decide) (fun c_1 => ?_) (fun c_1 => ?_)
  · skip
    refine lv_iconst (v := 0) hx hb dX1_at_19 (by decide) ?_
    subst hQ
    exact g_iret hE hG hr (Nat.le_of_ble_eq_true rfl) (Nat.le_of_ble_eq_true rfl) dX1_at_20 ⟨by unfold f_at; rw [if_pos c_1], rfl⟩
  · skip
    refine lv_aload_n hx hb dX1_at_8 rfl (lv_at hl 0 rfl) ?_
    refine g_get hE hG h1 rfl inG1 0 (by decide) mw2_35 rfl dX1_at_9 ?_
    refine lv_iload_n hx hb dX1_at_12 rfl (lv_at hl 1 rfl) ?_
    refine lv_iconst (v := 1) hx hb dX1_at_13 (by decide) ?_
    refine lv_isub hx hb dX1_at_14 ?_
    refine g_iald hE hG h2 (mel_in hn (f_has_ne c_1).1 (f_has_ne c_1).2) dX1_at_15 ?_
    refine lv_goto (tgt := 20) hx hb dX1_at_16 (by decide) ?_
    subst hQ
    exact g_iret hE hG hr (Nat.le_of_ble_eq_true rfl) (Nat.le_of_ble_eq_true rfl) dX1_at_20 ⟨by unfold f_at; rw [if_neg c_1], rfl⟩
def f_snd (n : Nat) (f : Nat → Int32) : Nat → Int32 → Int32
  | 0, _ => 0
  | k + 1, y => if f_at n f y = 0 then f_snd n f k (if y ≤ 1 then nI n else y - 1) else f_at n f y
theorem gU_self {w : gW} {k : Nat} {x : Nat × va_E} (h : w k = some x) : gU w k x = w := by
  funext j
  by_cases hj : j = k
  · subst hj; rw [gU_same, h]
  · rw [gU_ne _ _ hj]
theorem gU_gU (w : gW) (k : Nat) (x y : Nat × va_E) : gU (gU w k x) k y = gU w k y := by
  funext j
  by_cases hj : j = k
  · subst hj; rw [gU_same, gU_same]
  · rw [gU_ne _ _ hj, gU_ne _ _ hj, gU_ne _ _ hj]
theorem gU_sw {w : gW} {a b : Nat} {x y z : Nat × va_E} (h : a ≠ b) : gU (gU (gU w a x) b y) a z = gU (gU w a z) b y := by
  funext j
  by_cases ha : j = a
  · subst ha; rw [gU_same, gU_ne _ _ h, gU_same]
  · by_cases hb : j = b
    · subst hb; rw [gU_ne _ _ ha, gU_same, gU_same]
    · rw [gU_ne _ _ ha, gU_ne _ _ hb, gU_ne _ _ ha, gU_ne _ _ hb, gU_ne _ _ ha]
theorem gU_cm {w : gW} {a b : Nat} {x y : Nat × va_E} (h : a ≠ b) : gU (gU w a x) b y = gU (gU w b y) a x := by
  funext j
  by_cases ha : j = a
  · subst ha; rw [gU_ne _ _ h, gU_same, gU_same]
  · by_cases hb : j = b
    · subst hb; rw [gU_same, gU_ne _ _ ha, gU_same]
    · rw [gU_ne _ _ hb, gU_ne _ _ ha, gU_ne _ _ ha, gU_ne _ _ hb]
abbrev rm_X1_soundAt : Room := { frames := 3, cells := 0, slots := 0, locals := 122 }
theorem nm_X1_soundAt : gNm yX1_soundAt 1 := ⟨by decide +kernel, by decide +kernel, by decide +kernel⟩
set_option maxHeartbeats 4000000 in
set_option maxRecDepth 100000 in
theorem c_X1_soundAt (l : Launch) (hfl : l.stackTraces = false) (D : va_G) (tc : Nat → ClassId) (A : Nat → Prop) (w : gW) (k0 : Nat) (k1 : Nat) (h0 : Nat) (t : Nat) (n : Nat) (f : Nat → Int32) (x : Int32) (h1 : w k0 = some (h0, .inr (1, [.ref t]))) (h2 : w k1 = some (t, .inl (tc 0, n, .inl f))) (hn : n < 2 ^ 30) : gM l yX1_soundAt cX1_soundAt 4 (some .int) rm_X1_soundAt D tc A [.ref h0, .int x] w (fun v w' => v = some (.int (f_snd n f n x)) ∧ w' = w) (fun _ => False) := by
  refine gM_of (by decide +kernel) (Nat.le_of_ble_eq_true rfl) ?_
  intro p e s m args below meth c ls Q hQ hE hG hr hnt hnm hl
  have hx := hE.1
  have hb := hE.2.1
  have hl : lv_has ls 4 [(0, .ref h0), (1, .int x)] := hl
  refine lv_iload_n hx hb dX1_soundAt_0 rfl (lv_at hl 1 rfl) ?_
  refine lv_istore_n (lv' := [(2, .int x), (0, .ref h0), (1, .int x)]) hx hb dX1_soundAt_1 rfl hl (by decide) rfl (fun ls hl => ?_)
  refine lv_aload_n hx hb dX1_soundAt_2 rfl (lv_at hl 1 rfl) ?_
  refine g_get hE hG h1 rfl inG1 0 (by decide) mw2_35 rfl dX1_soundAt_3 ?_
  refine g_alen (t0 := 0) (v := (nI n)) hE hG h2 rfl rfl dX1_soundAt_6 ?_
  refine lv_istore_n (lv' := [(3, .int (nI n)), (2, .int x), (0, .ref h0), (1, .int x)]) hx hb dX1_soundAt_7 rfl hl (by decide) rfl (fun ls hl => ?_)
  have hloop_1 : ∀ (k : Nat) (y : Int32) (H : Heap) (locs : List Loc) (ls : Array Slot), k ≤ n → f_snd n f k y = f_snd n f n x → gS D A s.heap w H locs → lv_has ls 4 [(3, .int (nI k)), (2, .int y), (0, .ref h0), (1, .int x)] → W p l e rm_X1_soundAt s m args below meth c H locs 0 0 Q (F0 m 8 ls []) := by
    intro k
    induction k with
    | zero =>
      intro y H locs ls hk hy hG hl
      refine lv_iload_n hx hb dX1_soundAt_8 rfl (lv_at hl 0 rfl) ?_
      refine lv_if_le (tgt := 49) hx hb dX1_soundAt_9 (by decide) (fun c9 => ?_) (fun c9 => (c9 (by decide)).elim)
      refine lv_iconst (v := 0) hx hb dX1_soundAt_49 (by decide) ?_
      subst hQ
      exact g_iret hE hG hr (Nat.le_of_ble_eq_true rfl) (Nat.le_of_ble_eq_true rfl) dX1_soundAt_50 ⟨by rw [← hy]; rfl, rfl⟩
    | succ k ih =>
      intro y H locs ls hk hy hG hl
      refine lv_iload_n hx hb dX1_soundAt_8 rfl (lv_at hl 0 rfl) ?_
      refine lv_if_le (tgt := 49) hx hb dX1_soundAt_9 (by decide) (fun c9 => absurd c9 (nI_nle (Nat.succ_pos k) (by omega))) (fun c9 => ?_)
      refine lv_aload_n hx hb dX1_soundAt_12 rfl (lv_at hl 2 rfl) ?_
      refine lv_iload_n hx hb dX1_soundAt_13 rfl (lv_at hl 1 rfl) ?_
      refine g_callV (rest := []) (As := [.int y]) hE hG hl.1 (c_X1_at l hfl D tc A w k0 k1 h0 t n f y h1 h2 hn) h1 rfl mw2_75 mw2_76 mw2_77 mw1_12 mw2_78 rfl nm_X1_at ⟨⟨Nat.le_of_ble_eq_true rfl, Nat.le_of_ble_eq_true rfl⟩, Nat.le_of_ble_eq_true rfl, Nat.le_of_ble_eq_true rfl⟩ rfl rfl (Nat.le_of_ble_eq_true rfl) dX1_soundAt_14 (g_no) ?_
      intro v9 w9 H locs h9 hG
      obtain ⟨e9, f9⟩ := h9
      rw [f9] at hG; rw [e9]; clear e9 f9
      show W p l e _ s m args below meth c H locs _ _ _ (F0 m 17 ls [.int (f_at n f y)])
      refine lv_if_eq (tgt := 26) hx hb dX1_soundAt_17 (by decide) (fun c_2 => ?_) (fun c_2 => ?_)
      · skip
        refine lv_iload_n hx hb dX1_soundAt_26 rfl (lv_at hl 1 rfl) ?_
        refine lv_iconst (v := 1) hx hb dX1_soundAt_27 (by decide) ?_
        refine lv_icmp_le (tgt := 37) hx hb dX1_soundAt_28 (by decide) (fun c_3 => ?_) (fun c_3 => ?_)
        · skip
          refine lv_aload_n hx hb dX1_soundAt_37 rfl (lv_at hl 2 rfl) ?_
          refine g_get hE hG h1 rfl inG1 0 (by decide) mw2_35 rfl dX1_soundAt_38 ?_
          refine g_alen (t0 := 0) (v := (nI n)) hE hG h2 rfl rfl dX1_soundAt_41 ?_
          refine lv_istore_n (lv' := [(2, .int (nI n)), (3, .int (nI (k + 1))), (0, .ref h0), (1, .int x)]) hx hb dX1_soundAt_42 rfl hl (by decide) rfl (fun ls hl => ?_)
          refine lv_iinc (v := (nI k)) (lv' := [(3, .int (nI k)), (2, .int (nI n)), (0, .ref h0), (1, .int x)]) hx hb dX1_soundAt_43 hl (k := 1) rfl (pk_m1 k) (by decide) rfl (fun ls hl => ?_)
          refine lv_goto (tgt := 8) hx hb dX1_soundAt_46 (by decide) ?_
          exact ih (nI n) _ _ _ (by omega) (by rw [← hy]; show _ = (if _ then _ else _); rw [if_pos c_2, if_pos c_3]) hG (lv_sub hl [0, 1, 2, 3] rfl)
        · skip
          refine lv_iload_n hx hb dX1_soundAt_31 rfl (lv_at hl 1 rfl) ?_
          refine lv_iconst (v := 1) hx hb dX1_soundAt_32 (by decide) ?_
          refine lv_isub hx hb dX1_soundAt_33 ?_
          refine lv_goto (tgt := 42) hx hb dX1_soundAt_34 (by decide) ?_
          refine lv_istore_n (lv' := [(2, .int (y - 1)), (3, .int (nI (k + 1))), (0, .ref h0), (1, .int x)]) hx hb dX1_soundAt_42 rfl hl (by decide) rfl (fun ls hl => ?_)
          refine lv_iinc (v := (nI k)) (lv' := [(3, .int (nI k)), (2, .int (y - 1)), (0, .ref h0), (1, .int x)]) hx hb dX1_soundAt_43 hl (k := 1) rfl (pk_m1 k) (by decide) rfl (fun ls hl => ?_)
          refine lv_goto (tgt := 8) hx hb dX1_soundAt_46 (by decide) ?_
          exact ih (y - 1) _ _ _ (by omega) (by rw [← hy]; show _ = (if _ then _ else _); rw [if_pos c_2, if_neg c_3]) hG (lv_sub hl [0, 1, 2, 3] rfl)
      · skip
        refine lv_aload_n hx hb dX1_soundAt_20 rfl (lv_at hl 2 rfl) ?_
        refine lv_iload_n hx hb dX1_soundAt_21 rfl (lv_at hl 1 rfl) ?_
        refine g_callV (rest := []) (As := [.int y]) hE hG hl.1 (c_X1_at l hfl D tc A w k0 k1 h0 t n f y h1 h2 hn) h1 rfl mw2_75 mw2_76 mw2_77 mw1_12 mw2_78 rfl nm_X1_at ⟨⟨Nat.le_of_ble_eq_true rfl, Nat.le_of_ble_eq_true rfl⟩, Nat.le_of_ble_eq_true rfl, Nat.le_of_ble_eq_true rfl⟩ rfl rfl (Nat.le_of_ble_eq_true rfl) dX1_soundAt_22 (g_no) ?_
        intro v9 w9 H locs h9 hG
        obtain ⟨e9, f9⟩ := h9
        rw [f9] at hG; rw [e9]; clear e9 f9
        show W p l e _ s m args below meth c H locs _ _ _ (F0 m 25 ls [.int (f_at n f y)])
        subst hQ
        exact g_iret hE hG hr (Nat.le_of_ble_eq_true rfl) (Nat.le_of_ble_eq_true rfl) dX1_soundAt_25 ⟨by rw [← hy]; show _ = some (Value.int (if _ then _ else _)); rw [if_neg c_2], rfl⟩
  exact hloop_1 n x _ _ _ (Nat.le_refl n) rfl hG (lv_sub hl [0, 1, 2, 3] rfl)
def f_put (n : Nat) (f : Nat → Int32) (x v : Int32) : Nat → Int32 := if f_has n x = 0 then f else upd f (x - 1).toNatClampNeg v
abbrev rm_X1_put : Room := { frames := 3, cells := 0, slots := 0, locals := 122 }
theorem nm_X1_put : gNm yX1_put 2 := ⟨by decide +kernel, by decide +kernel, by decide +kernel⟩
set_option maxHeartbeats 4000000 in
set_option maxRecDepth 100000 in
theorem c_X1_put (l : Launch) (hfl : l.stackTraces = false) (D : va_G) (tc : Nat → ClassId) (A : Nat → Prop) (w : gW) (k0 : Nat) (k1 : Nat) (h0 : Nat) (t : Nat) (n : Nat) (f : Nat → Int32) (x : Int32) (y : Int32) (h1 : w k0 = some (h0, .inr (1, [.ref t]))) (h2 : w k1 = some (t, .inl (tc 0, n, .inl f))) (hn : n < 2 ^ 30) : gM l yX1_put cX1_put 4 (some .int) rm_X1_put D tc A [.ref h0, .int x, .int y] w (fun v w' => v = some (.int (f_at n f x)) ∧ w' = gU w k1 (t, .inl (tc 0, n, .inl (f_put n f x y)))) (fun _ => False) := by
  refine gM_of (by decide +kernel) (Nat.le_of_ble_eq_true rfl) ?_
  intro p e s m args below meth c ls Q hQ hE hG hr hnt hnm hl
  have hx := hE.1
  have hb := hE.2.1
  have hl : lv_has ls 4 [(0, .ref h0), (1, .int x), (2, .int y)] := hl
  refine lv_aload_n hx hb dX1_put_0 rfl (lv_at hl 0 rfl) ?_
  refine lv_iload_n hx hb dX1_put_1 rfl (lv_at hl 1 rfl) ?_
  refine g_callV (rest := []) (As := [.int x]) hE hG hl.1 (c_X1_at l hfl D tc A w k0 k1 h0 t n f x h1 h2 hn) h1 rfl mw2_75 mw2_76 mw2_77 mw1_12 mw2_78 rfl nm_X1_at ⟨⟨Nat.le_of_ble_eq_true rfl, Nat.le_of_ble_eq_true rfl⟩, Nat.le_of_ble_eq_true rfl, Nat.le_of_ble_eq_true rfl⟩ rfl rfl (Nat.le_of_ble_eq_true rfl) dX1_put_2 (g_no) ?_
  intro v9 w9 H locs h9 hG
  obtain ⟨e9, f9⟩ := h9
  rw [f9] at hG; rw [e9]; clear e9 f9
  show W p l e _ s m args below meth c H locs _ _ _ (F0 m 5 ls [.int (f_at n f x)])
  refine lv_istore_n (lv' := [(3, .int (f_at n f x)), (0, .ref h0), (1, .int x), (2, .int y)]) hx hb dX1_put_5 rfl hl (by decide) rfl (fun ls hl => ?_)
  refine lv_aload_n hx hb dX1_put_6 rfl (lv_at hl 1 rfl) ?_
  refine lv_iload_n hx hb dX1_put_7 rfl (lv_at hl 2 rfl) ?_
  refine g_callV (rest := []) (As := [.int x]) hE hG hl.1 (c_X1_hasPlace l hfl D tc A w k0 k1 h0 t n f x h1 h2 ) h1 rfl mw2_79 mw2_64 mw2_65 mw1_12 mw2_66 rfl nm_X1_hasPlace ⟨⟨Nat.le_of_ble_eq_true rfl, Nat.le_of_ble_eq_true rfl⟩, Nat.le_of_ble_eq_true rfl, Nat.le_of_ble_eq_true rfl⟩ rfl rfl (Nat.le_of_ble_eq_true rfl) dX1_put_8 (g_no) ?_
  intro v9 w9 H locs h9 hG
  obtain ⟨e9, f9⟩ := h9
  rw [f9] at hG; rw [e9]; clear e9 f9
  show W p l e _ s m args below meth c H locs _ _ _ (F0 m 11 ls [.int (f_has n x)])
  refine lv_if_eq (tgt := 23) hx hb dX1_put_11 (by decide) (fun c_1 => ?_) (fun c_1 => ?_)
  · skip
    refine lv_iload_n hx hb dX1_put_23 rfl (lv_at hl 0 rfl) ?_
    subst hQ
    exact g_iret hE hG hr (Nat.le_of_ble_eq_true rfl) (Nat.le_of_ble_eq_true rfl) dX1_put_24 ⟨rfl, by unfold f_put; rw [if_pos c_1]; exact (gU_self h2).symm⟩
  · skip
    refine lv_aload_n hx hb dX1_put_14 rfl (lv_at hl 1 rfl) ?_
    refine g_get hE hG h1 rfl inG1 0 (by decide) mw2_35 rfl dX1_put_15 ?_
    refine lv_iload_n hx hb dX1_put_18 rfl (lv_at hl 2 rfl) ?_
    refine lv_iconst (v := 1) hx hb dX1_put_19 (by decide) ?_
    refine lv_isub hx hb dX1_put_20 ?_
    refine lv_iload_n hx hb dX1_put_21 rfl (lv_at hl 3 rfl) ?_
    refine g_iast hE hG h2 (mel_in hn (f_has_ne c_1).1 (f_has_ne c_1).2) dX1_put_22 (fun H locs w_2 ew_2 hG => ?_)
    have h_3 : w_2 k0 = some (h0, .inr (1, [.ref t])) := gU_n ew_2 (gU_k h2 h1 (by first | (intro h9; cases h9; done) | simp)) h1
    have h_4 : w_2 k1 = some (t, .inl (tc 0, n, .inl (upd f (x - 1).toNatClampNeg y))) := gU_s ew_2
    refine lv_iload_n hx hb dX1_put_23 rfl (lv_at hl 0 rfl) ?_
    subst hQ
    exact g_iret hE hG hr (Nat.le_of_ble_eq_true rfl) (Nat.le_of_ble_eq_true rfl) dX1_put_24 ⟨rfl, by unfold f_put; rw [if_neg c_1, ew_2]⟩
def f_cp (i : Nat) (f g : Nat → Int32) : Nat → Int32 := fun j => if j < i then g j else f j
theorem f_has_in {n i : Nat} (hn : n < 2 ^ 30) (h : i < n) : f_has n (nI (i + 1)) = 1 := by
  unfold f_has
  rw [if_neg, if_neg]
  · rw [nI_ltI (by omega) (by omega)]; omega
  · rw [show (1 : Int32) = nI 1 from rfl, nI_ltI (by omega) (by omega)]; omega
theorem f_at_in {n i : Nat} {f : Nat → Int32} (hn : n < 2 ^ 30) (h : i < n) : f_at n f (nI (i + 1)) = f i := by
  unfold f_at
  rw [f_has_in hn h, if_neg (by decide), nI_pred, nI_clamp (by omega)]
theorem f_put_in {n i : Nat} {f : Nat → Int32} {v : Int32} (hn : n < 2 ^ 30) (h : i < n) : f_put n f (nI (i + 1)) v = upd f i v := by
  unfold f_put
  rw [f_has_in hn h, if_neg (by decide), nI_pred, nI_clamp (by omega)]
theorem f_cp_0 (f g : Nat → Int32) : f_cp 0 f g = f := by funext j; simp [f_cp]
theorem f_cp_s (i : Nat) (f g : Nat → Int32) : upd (f_cp i f g) i (g i) = f_cp (i + 1) f g := by
  funext j
  unfold f_cp
  by_cases h : j = i
  · subst h; simp [upd]
  · by_cases h2 : j < i
    · simp [upd, h, h2, show j < i + 1 by omega]
    · simp [upd, h, h2, show ¬ j < i + 1 by omega]
abbrev rm_X1_takeFrom : Room := { frames := 4, cells := 0, slots := 0, locals := 158 }
theorem nm_X1_takeFrom : gNm yX1_takeFrom 1 := ⟨by decide +kernel, by decide +kernel, by decide +kernel⟩
set_option maxHeartbeats 4000000 in
set_option maxRecDepth 100000 in
theorem c_X1_takeFrom (l : Launch) (hfl : l.stackTraces = false) (D : va_G) (tc : Nat → ClassId) (A : Nat → Prop) (w : gW) (k0 : Nat) (k1 : Nat) (h0 : Nat) (t : Nat) (n : Nat) (f : Nat → Int32) (k2 : Nat) (k3 : Nat) (g0 : Nat) (t2 : Nat) (g : Nat → Int32) (h1 : w k0 = some (h0, .inr (1, [.ref t]))) (h2 : w k1 = some (t, .inl (tc 0, n, .inl f))) (h3 : w k2 = some (g0, .inr (1, [.ref t2]))) (h4 : w k3 = some (t2, .inl (tc 0, n, .inl g))) (hn : n < 2 ^ 30) (hk : k3 ≠ k1) : gM l yX1_takeFrom cX1_takeFrom 3 none rm_X1_takeFrom D tc A [.ref h0, .ref g0] w (fun v w' => v = none ∧ w' = gU w k1 (t, .inl (tc 0, n, .inl (f_cp n f g)))) (fun _ => False) := by
  refine gM_of (by decide +kernel) (Nat.le_of_ble_eq_true rfl) ?_
  intro p e s m args below meth c ls Q hQ hE hG hr hnt hnm hl
  have hx := hE.1
  have hb := hE.2.1
  have hl : lv_has ls 3 [(0, .ref h0), (1, .ref g0)] := hl
  refine lv_iconst (v := 1) hx hb dX1_takeFrom_0 (by decide) ?_
  refine lv_istore_n (lv' := [(2, .int 1), (0, .ref h0), (1, .ref g0)]) hx hb dX1_takeFrom_1 rfl hl (by decide) rfl (fun ls hl => ?_)
  have hw0 : w = gU w k1 (t, .inl (tc 0, n, .inl (f_cp (n - n) f g))) := by rw [Nat.sub_self, f_cp_0]; exact (gU_self h2).symm
  have hl : lv_has ls 3 [(2, .int (nI (n - n + 1))), (0, .ref h0), (1, .ref g0)] := by rw [Nat.sub_self]; exact hl
  have hloop_1 : ∀ (k : Nat) (w8 : gW) (H : Heap) (locs : List Loc) (ls : Array Slot), k ≤ n → w8 = gU w k1 (t, .inl (tc 0, n, .inl (f_cp (n - k) f g))) → gS D A s.heap w8 H locs → lv_has ls 3 [(2, .int (nI (n - k + 1))), (0, .ref h0), (1, .ref g0)] → W p l e rm_X1_takeFrom s m args below meth c H locs 0 0 Q (F0 m 2 ls []) := by
    intro k
    induction k with
    | zero =>
      intro w8 H locs ls hk9 hw8 hG hl
      have g2 : w8 k1 = some (t, .inl (tc 0, n, .inl (f_cp (n - 0) f g))) := gU_s hw8
      have g1 : w8 k0 = some (h0, .inr (1, [.ref t])) := gU_n hw8 (gU_k h2 h1 (by intro h9; cases h9)) h1
      have g3 : w8 k2 = some (g0, .inr (1, [.ref t2])) := gU_n hw8 (gU_k h2 h3 (by intro h9; cases h9)) h3
      have g4 : w8 k3 = some (t2, .inl (tc 0, n, .inl g)) := gU_n hw8 hk h4
      refine lv_iload_n hx hb dX1_takeFrom_2 rfl (lv_at hl 0 rfl) ?_
      refine lv_aload_n hx hb dX1_takeFrom_3 rfl (lv_at hl 1 rfl) ?_
      refine g_get hE hG g1 rfl inG1 0 (by decide) mw2_35 rfl dX1_takeFrom_4 ?_
      refine g_alen (t0 := 0) (v := (nI n)) hE hG g2 rfl rfl dX1_takeFrom_7 ?_
      refine lv_icmp_gt (tgt := 28) hx hb dX1_takeFrom_8 (by decide) (fun c9 => ?_) (fun c9 => (c9 (nI_lt (by omega) (by omega))).elim)
      subst hQ
      exact g_vret hE hG hr (Nat.le_of_ble_eq_true rfl) (Nat.le_of_ble_eq_true rfl) dX1_takeFrom_28 ⟨rfl, by rw [hw8]; rfl⟩
    | succ k ih =>
      intro w8 H locs ls hk9 hw8 hG hl
      have g2 : w8 k1 = some (t, .inl (tc 0, n, .inl (f_cp (n - (k + 1)) f g))) := gU_s hw8
      have g1 : w8 k0 = some (h0, .inr (1, [.ref t])) := gU_n hw8 (gU_k h2 h1 (by intro h9; cases h9)) h1
      have g3 : w8 k2 = some (g0, .inr (1, [.ref t2])) := gU_n hw8 (gU_k h2 h3 (by intro h9; cases h9)) h3
      have g4 : w8 k3 = some (t2, .inl (tc 0, n, .inl g)) := gU_n hw8 hk h4
      refine lv_iload_n hx hb dX1_takeFrom_2 rfl (lv_at hl 0 rfl) ?_
      refine lv_aload_n hx hb dX1_takeFrom_3 rfl (lv_at hl 1 rfl) ?_
      refine g_get hE hG g1 rfl inG1 0 (by decide) mw2_35 rfl dX1_takeFrom_4 ?_
      refine g_alen (t0 := 0) (v := (nI n)) hE hG g2 rfl rfl dX1_takeFrom_7 ?_
      refine lv_icmp_gt (tgt := 28) hx hb dX1_takeFrom_8 (by decide) (fun c9 => absurd c9 (nI_nlt (by omega) (by omega))) (fun c9 => ?_)
      refine lv_aload_n hx hb dX1_takeFrom_11 rfl (lv_at hl 1 rfl) ?_
      refine lv_iload_n hx hb dX1_takeFrom_12 rfl (lv_at hl 0 rfl) ?_
      refine lv_aload_n hx hb dX1_takeFrom_13 rfl (lv_at hl 2 rfl) ?_
      refine lv_iload_n hx hb dX1_takeFrom_14 rfl (lv_at hl 0 rfl) ?_
      refine g_callV (rest := [.int (nI (n - (k + 1) + 1)), .ref h0]) (As := [.int (nI (n - (k + 1) + 1))]) hE hG hl.1 (c_X1_at l hfl D tc A w8 k2 k3 g0 t2 n g (nI (n - (k + 1) + 1)) g3 g4 hn) g3 rfl mw2_75 mw2_76 mw2_77 mw1_12 mw2_78 rfl nm_X1_at ⟨⟨Nat.le_of_ble_eq_true rfl, Nat.le_of_ble_eq_true rfl⟩, Nat.le_of_ble_eq_true rfl, Nat.le_of_ble_eq_true rfl⟩ rfl rfl (Nat.le_of_ble_eq_true rfl) dX1_takeFrom_15 (g_no) ?_
      intro v9 w9 H locs h9 hG
      obtain ⟨e9, f9⟩ := h9
      rw [f9] at hG; rw [e9]; clear e9 f9
      show W p l e _ s m args below meth c H locs _ _ _ (F0 m 18 ls [.int (f_at n g (nI (n - (k + 1) + 1))), .int (nI (n - (k + 1) + 1)), .ref h0])
      refine g_callV (rest := []) (As := [.int (nI (n - (k + 1) + 1)), .int (f_at n g (nI (n - (k + 1) + 1)))]) hE hG hl.1 (c_X1_put l hfl D tc A w8 k0 k1 h0 t n (f_cp (n - (k + 1)) f g) (nI (n - (k + 1) + 1)) (f_at n g (nI (n - (k + 1) + 1))) g1 g2 hn) g1 rfl mw3_136 mw2_72 mw2_73 mw1_12 mw2_74 rfl nm_X1_put ⟨⟨Nat.le_of_ble_eq_true rfl, Nat.le_of_ble_eq_true rfl⟩, Nat.le_of_ble_eq_true rfl, Nat.le_of_ble_eq_true rfl⟩ rfl rfl (Nat.le_of_ble_eq_true rfl) dX1_takeFrom_18 (g_no) ?_
      intro v9 w9 H locs h9 hG
      obtain ⟨e9, ew_2⟩ := h9
      rw [e9]; clear e9; revert w9; intro w_2 hG ew_2
      show W p l e _ s m args below meth c H locs _ _ _ (F0 m 21 ls [.int (f_at n (f_cp (n - (k + 1)) f g) (nI (n - (k + 1) + 1)))])
      have h_3 : w_2 k0 = some (h0, .inr (1, [.ref t])) := gU_n ew_2 (gU_k g2 g1 (by first | (intro h9; cases h9; done) | simp)) g1
      have h_4 : w_2 k2 = some (g0, .inr (1, [.ref t2])) := gU_n ew_2 (gU_k g2 g3 (by first | (intro h9; cases h9; done) | simp)) g3
      have h_5 : w_2 k3 = some (t2, .inl (tc 0, n, .inl g)) := gU_n ew_2 hk g4
      have h_6 : w_2 k1 = some (t, .inl (tc 0, n, .inl (f_put n (f_cp (n - (k + 1)) f g) (nI (n - (k + 1) + 1)) (f_at n g (nI (n - (k + 1) + 1)))))) := gU_s ew_2
      refine lv_pop hx hb dX1_takeFrom_21 rfl ?_
      refine lv_iinc (v := (nI (n - k + 1))) (lv' := [(2, .int (nI (n - k + 1))), (0, .ref h0), (1, .ref g0)]) hx hb dX1_takeFrom_22 hl (k := 0) rfl (by rw [show n - k + 1 = (n - (k + 1) + 1) + 1 by omega]; exact nI_1 _) (by decide) rfl (fun ls hl => ?_)
      refine lv_goto (tgt := 2) hx hb dX1_takeFrom_25 (by decide) ?_
      exact ih w_2 _ _ _ (by omega) (by rw [ew_2, hw8, gU_gU, f_put_in hn (by omega), f_at_in hn (by omega), show n - k = n - (k + 1) + 1 by omega, f_cp_s]) hG (lv_sub hl [0, 1, 2] rfl)
  exact hloop_1 n w _ _ _ (Nat.le_refl n) hw0 hG (lv_sub hl [0, 1, 2] rfl)
def f_unl (f g : Nat → Int32) : Nat → Nat
  | 0 => 0
  | k + 1 => if f k = g k then f_unl f g k else f_unl f g k + 1
theorem f_unl_le (f g : Nat → Int32) : ∀ k, f_unl f g k ≤ k := by
  intro k
  induction k with
  | zero => exact Nat.le_refl _
  | succ k ih => unfold f_unl; split <;> omega
abbrev rm_X1_placesUnlike : Room := { frames := 3, cells := 0, slots := 0, locals := 122 }
theorem nm_X1_placesUnlike : gNm yX1_placesUnlike 1 := ⟨by decide +kernel, by decide +kernel, by decide +kernel⟩
set_option maxHeartbeats 4000000 in
set_option maxRecDepth 100000 in
theorem c_X1_placesUnlike (l : Launch) (hfl : l.stackTraces = false) (D : va_G) (tc : Nat → ClassId) (A : Nat → Prop) (w : gW) (k0 : Nat) (k1 : Nat) (h0 : Nat) (t : Nat) (n : Nat) (f : Nat → Int32) (k2 : Nat) (k3 : Nat) (g0 : Nat) (t2 : Nat) (g : Nat → Int32) (h1 : w k0 = some (h0, .inr (1, [.ref t]))) (h2 : w k1 = some (t, .inl (tc 0, n, .inl f))) (h3 : w k2 = some (g0, .inr (1, [.ref t2]))) (h4 : w k3 = some (t2, .inl (tc 0, n, .inl g))) (hn : n < 2 ^ 30) : gM l yX1_placesUnlike cX1_placesUnlike 4 (some .int) rm_X1_placesUnlike D tc A [.ref h0, .ref g0] w (fun v w' => v = some (.int (nI (f_unl f g n))) ∧ w' = w) (fun _ => False) := by
  refine gM_of (by decide +kernel) (Nat.le_of_ble_eq_true rfl) ?_
  intro p e s m args below meth c ls Q hQ hE hG hr hnt hnm hl
  have hx := hE.1
  have hb := hE.2.1
  have hl : lv_has ls 4 [(0, .ref h0), (1, .ref g0)] := hl
  refine lv_iconst (v := 0) hx hb dX1_placesUnlike_0 (by decide) ?_
  refine lv_istore_n (lv' := [(2, .int 0), (0, .ref h0), (1, .ref g0)]) hx hb dX1_placesUnlike_1 rfl hl (by decide) rfl (fun ls hl => ?_)
  refine lv_iconst (v := 1) hx hb dX1_placesUnlike_2 (by decide) ?_
  refine lv_istore_n (lv' := [(3, .int 1), (2, .int 0), (0, .ref h0), (1, .ref g0)]) hx hb dX1_placesUnlike_3 rfl hl (by decide) rfl (fun ls hl => ?_)
  have hl : lv_has ls 4 [(3, .int (nI (n - n + 1))), (2, .int (nI (f_unl f g (n - n)))), (0, .ref h0), (1, .ref g0)] := by rw [Nat.sub_self]; exact hl
  have hloop_1 : ∀ (k : Nat)  (H : Heap) (locs : List Loc) (ls : Array Slot), k ≤ n → gS D A s.heap w H locs → lv_has ls 4 [(3, .int (nI (n - k + 1))), (2, .int (nI (f_unl f g (n - k)))), (0, .ref h0), (1, .ref g0)] → W p l e rm_X1_placesUnlike s m args below meth c H locs 0 0 Q (F0 m 4 ls []) := by
    intro k
    induction k with
    | zero =>
      intro  H locs ls hk9 hG hl
      refine lv_iload_n hx hb dX1_placesUnlike_4 rfl (lv_at hl 0 rfl) ?_
      refine lv_aload_n hx hb dX1_placesUnlike_5 rfl (lv_at hl 2 rfl) ?_
      refine g_get hE hG h1 rfl inG1 0 (by decide) mw2_35 rfl dX1_placesUnlike_6 ?_
      refine g_alen (t0 := 0) (v := (nI n)) hE hG h2 rfl rfl dX1_placesUnlike_9 ?_
      refine lv_icmp_gt (tgt := 35) hx hb dX1_placesUnlike_10 (by decide) (fun c9 => ?_) (fun c9 => (c9 (nI_lt (by omega) (by omega))).elim)
      refine lv_iload_n hx hb dX1_placesUnlike_35 rfl (lv_at hl 1 rfl) ?_
      subst hQ
      exact g_iret hE hG hr (Nat.le_of_ble_eq_true rfl) (Nat.le_of_ble_eq_true rfl) dX1_placesUnlike_36 ⟨rfl, rfl⟩
    | succ k ih =>
      intro  H locs ls hk9 hG hl
      have hu : n - k = n - (k + 1) + 1 := by omega
      refine lv_iload_n hx hb dX1_placesUnlike_4 rfl (lv_at hl 0 rfl) ?_
      refine lv_aload_n hx hb dX1_placesUnlike_5 rfl (lv_at hl 2 rfl) ?_
      refine g_get hE hG h1 rfl inG1 0 (by decide) mw2_35 rfl dX1_placesUnlike_6 ?_
      refine g_alen (t0 := 0) (v := (nI n)) hE hG h2 rfl rfl dX1_placesUnlike_9 ?_
      refine lv_icmp_gt (tgt := 35) hx hb dX1_placesUnlike_10 (by decide) (fun c9 => absurd c9 (nI_nlt (by omega) (by omega))) (fun c9 => ?_)
      refine lv_aload_n hx hb dX1_placesUnlike_13 rfl (lv_at hl 2 rfl) ?_
      refine lv_iload_n hx hb dX1_placesUnlike_14 rfl (lv_at hl 0 rfl) ?_
      refine g_callV (rest := []) (As := [.int (nI (n - (k + 1) + 1))]) hE hG hl.1 (c_X1_at l hfl D tc A w k0 k1 h0 t n f (nI (n - (k + 1) + 1)) h1 h2 hn) h1 rfl mw2_75 mw2_76 mw2_77 mw1_12 mw2_78 rfl nm_X1_at ⟨⟨Nat.le_of_ble_eq_true rfl, Nat.le_of_ble_eq_true rfl⟩, Nat.le_of_ble_eq_true rfl, Nat.le_of_ble_eq_true rfl⟩ rfl rfl (Nat.le_of_ble_eq_true rfl) dX1_placesUnlike_15 (g_no) ?_
      intro v9 w9 H locs h9 hG
      obtain ⟨e9, f9⟩ := h9
      rw [f9] at hG; rw [e9]; clear e9 f9
      show W p l e _ s m args below meth c H locs _ _ _ (F0 m 18 ls [.int (f_at n f (nI (n - (k + 1) + 1)))])
      refine lv_aload_n hx hb dX1_placesUnlike_18 rfl (lv_at hl 3 rfl) ?_
      refine lv_iload_n hx hb dX1_placesUnlike_19 rfl (lv_at hl 0 rfl) ?_
      refine g_callV (rest := [.int (f_at n f (nI (n - (k + 1) + 1)))]) (As := [.int (nI (n - (k + 1) + 1))]) hE hG hl.1 (c_X1_at l hfl D tc A w k2 k3 g0 t2 n g (nI (n - (k + 1) + 1)) h3 h4 hn) h3 rfl mw2_75 mw2_76 mw2_77 mw1_12 mw2_78 rfl nm_X1_at ⟨⟨Nat.le_of_ble_eq_true rfl, Nat.le_of_ble_eq_true rfl⟩, Nat.le_of_ble_eq_true rfl, Nat.le_of_ble_eq_true rfl⟩ rfl rfl (Nat.le_of_ble_eq_true rfl) dX1_placesUnlike_20 (g_no) ?_
      intro v9 w9 H locs h9 hG
      obtain ⟨e9, f9⟩ := h9
      rw [f9] at hG; rw [e9]; clear e9 f9
      show W p l e _ s m args below meth c H locs _ _ _ (F0 m 23 ls [.int (f_at n g (nI (n - (k + 1) + 1))), .int (f_at n f (nI (n - (k + 1) + 1)))])
      refine lv_icmp_eq (tgt := 29) hx hb dX1_placesUnlike_23 (by decide) (fun c_2 => ?_) (fun c_2 => ?_)
      · skip
        have hc9 : nI (f_unl f g (n - (k + 1))) = nI (f_unl f g (n - k)) := by rw [f_at_in hn (by omega), f_at_in hn (by omega)] at c_2; rw [hu]; show _ = nI (if _ then _ else _); rw [if_pos c_2]
        rw [hc9] at hl
        refine lv_iinc (v := (nI (n - k + 1))) (lv' := [(3, .int (nI (n - k + 1))), (2, .int (nI (f_unl f g (n - k)))), (0, .ref h0), (1, .ref g0)]) hx hb dX1_placesUnlike_29 hl (k := 0) rfl (by rw [show n - k + 1 = (n - (k + 1) + 1) + 1 by omega]; exact nI_1 _) (by decide) rfl (fun ls hl => ?_)
        refine lv_goto (tgt := 4) hx hb dX1_placesUnlike_32 (by decide) ?_
        exact ih  _ _ _ (by omega) hG (lv_sub hl [0, 1, 2, 3] rfl)
      · skip
        refine lv_iinc (v := (nI (f_unl f g (n - k)))) (lv' := [(2, .int (nI (f_unl f g (n - k)))), (3, .int (nI (n - (k + 1) + 1))), (0, .ref h0), (1, .ref g0)]) hx hb dX1_placesUnlike_26 hl (k := 1) rfl (by rw [f_at_in hn (by omega), f_at_in hn (by omega)] at c_2; rw [hu]; show _ = nI (if _ then _ else _); rw [if_neg c_2]; exact nI_1 _) (by decide) rfl (fun ls hl => ?_)
        refine lv_iinc (v := (nI (n - k + 1))) (lv' := [(3, .int (nI (n - k + 1))), (2, .int (nI (f_unl f g (n - k)))), (0, .ref h0), (1, .ref g0)]) hx hb dX1_placesUnlike_29 hl (k := 1) rfl (by rw [show n - k + 1 = (n - (k + 1) + 1) + 1 by omega]; exact nI_1 _) (by decide) rfl (fun ls hl => ?_)
        refine lv_goto (tgt := 4) hx hb dX1_placesUnlike_32 (by decide) ?_
        exact ih  _ _ _ (by omega) hG (lv_sub hl [0, 1, 2, 3] rfl)
  exact hloop_1 n  _ _ _ (Nat.le_refl n) hG (lv_sub hl [0, 1, 2, 3] rfl)
end
section
/-! functions of numbers alone -/
theorem nz_b {v : Int32} (h : v = 0 ∨ v = 1) : narrow .boolean (.int v) = .int v := by rcases h with rfl | rfl <;> decide
theorem i32_tab {x : Int32} {lo hi : Int} (h : ∀ n : Int, lo ≤ n → n ≤ hi → x ≠ Int32.ofInt n) (_ : -2147483648 ≤ lo) (_ : hi < 2147483648) : x.toInt < lo ∨ hi < x.toInt := by
  rcases Int.lt_or_le x.toInt lo with h1 | h1
  · exact Or.inl h1
  · rcases Int.lt_or_le hi x.toInt with h2 | h2
    · exact Or.inr h2
    · exact absurd (Int32.ofInt_toInt x).symm (h x.toInt h1 h2)
def f_den (a b : Int32) : Int32 := (if a = 1 then (2 <<< (b &&& 31)) else (if a = 2 then (1 <<< (b &&& 31)) else (if a = 3 then (2 <<< (b &&& 31)) else 1)))
abbrev rm_X5_densityOf : Room := { frames := 1, cells := 0, slots := 0, locals := 50 }
theorem nm_X5_densityOf : gNm yX5_densityOf 2 := ⟨by decide +kernel, by decide +kernel, by decide +kernel⟩
set_option maxHeartbeats 4000000 in
set_option maxRecDepth 100000 in
theorem c_X5_densityOf (l : Launch) (hfl : l.stackTraces = false) (D : va_G) (tc : Nat → ClassId) (A : Nat → Prop) (w : gW) (a : Int32) (b : Int32) : gM l yX5_densityOf cX5_densityOf 2 (some .int) rm_X5_densityOf D tc A [.int a, .int b] w (fun v w' => v = some (.int (f_den a b)) ∧ w' = w) (fun _ => False) := by
  refine gM_of (by decide +kernel) (Nat.le_of_ble_eq_true rfl) ?_
  intro p e s m args below meth c ls Q hQ hE hG hr hnt hnm hl
  have hx := hE.1
  have hb := hE.2.1
  have hl : lv_has ls 2 [(0, .int a), (1, .int b)] := hl
  refine lv_iload_n hx hb dX5_densityOf_0 rfl (lv_at hl 0 rfl) ?_
  by_cases c_1 : a = 1
  · skip
    refine lv_tableIn (off := 27) (tgt := 28) hx hb dX5_densityOf_1 (by rw [c_1]; decide) (by rw [c_1]; decide) (by rw [c_1]; rfl) (by decide) ?_
    refine lv_iconst (v := 2) hx hb dX5_densityOf_28 (by decide) ?_
    refine lv_iload_n hx hb dX5_densityOf_29 rfl (lv_at hl 1 rfl) ?_
    refine lv_ishl hx hb dX5_densityOf_30 ?_
    subst hQ
    exact g_iret hE hG hr (Nat.le_of_ble_eq_true rfl) (Nat.le_of_ble_eq_true rfl) dX5_densityOf_31 ⟨by unfold f_den; rw [if_pos c_1], rfl⟩
  by_cases c_2 : a = 2
  · skip
    refine lv_tableIn (off := 31) (tgt := 32) hx hb dX5_densityOf_1 (by rw [c_2]; decide) (by rw [c_2]; decide) (by rw [c_2]; rfl) (by decide) ?_
    refine lv_iconst (v := 1) hx hb dX5_densityOf_32 (by decide) ?_
    refine lv_iload_n hx hb dX5_densityOf_33 rfl (lv_at hl 1 rfl) ?_
    refine lv_ishl hx hb dX5_densityOf_34 ?_
    subst hQ
    exact g_iret hE hG hr (Nat.le_of_ble_eq_true rfl) (Nat.le_of_ble_eq_true rfl) dX5_densityOf_35 ⟨by unfold f_den; rw [if_neg c_1, if_pos c_2], rfl⟩
  by_cases c_3 : a = 3
  · skip
    refine lv_tableIn (off := 27) (tgt := 28) hx hb dX5_densityOf_1 (by rw [c_3]; decide) (by rw [c_3]; decide) (by rw [c_3]; rfl) (by decide) ?_
    refine lv_iconst (v := 2) hx hb dX5_densityOf_28 (by decide) ?_
    refine lv_iload_n hx hb dX5_densityOf_29 rfl (lv_at hl 1 rfl) ?_
    refine lv_ishl hx hb dX5_densityOf_30 ?_
    subst hQ
    exact g_iret hE hG hr (Nat.le_of_ble_eq_true rfl) (Nat.le_of_ble_eq_true rfl) dX5_densityOf_31 ⟨by unfold f_den; rw [if_neg c_1, if_neg c_2, if_pos c_3], rfl⟩
  refine lv_tableOut (tgt := 36) hx hb dX5_densityOf_1 (i32_tab (fun n9 h1 h2 h3 => by rcases (show n9 = 1 ∨ n9 = 2 ∨ n9 = 3 by omega) with rfl | rfl | rfl <;> first | exact c_1 (h3.trans (by decide)) | exact c_2 (h3.trans (by decide)) | exact c_3 (h3.trans (by decide))) (by decide) (by decide)) (by decide) ?_
  refine lv_iconst (v := 1) hx hb dX5_densityOf_36 (by decide) ?_
  subst hQ
  exact g_iret hE hG hr (Nat.le_of_ble_eq_true rfl) (Nat.le_of_ble_eq_true rfl) dX5_densityOf_37 ⟨by unfold f_den; rw [if_neg c_1, if_neg c_2, if_neg c_3], rfl⟩
def f_lev (a : Int32) : Int32 := (if a < 160 then (if a < 80 then (if a < 40 then 0 else 1) else 2) else 3)
abbrev rm_X4_levelOf : Room := { frames := 1, cells := 0, slots := 0, locals := 50 }
theorem nm_X4_levelOf : gNm yX4_levelOf 1 := ⟨by decide +kernel, by decide +kernel, by decide +kernel⟩
set_option maxHeartbeats 4000000 in
set_option maxRecDepth 100000 in
theorem c_X4_levelOf (l : Launch) (hfl : l.stackTraces = false) (D : va_G) (tc : Nat → ClassId) (A : Nat → Prop) (w : gW) (a : Int32) : gM l yX4_levelOf cX4_levelOf 1 (some .int) rm_X4_levelOf D tc A [.int a] w (fun v w' => v = some (.int (f_lev a)) ∧ w' = w) (fun _ => False) := by
  refine gM_of (by decide +kernel) (Nat.le_of_ble_eq_true rfl) ?_
  intro p e s m args below meth c ls Q hQ hE hG hr hnt hnm hl
  have hx := hE.1
  have hb := hE.2.1
  have hl : lv_has ls 1 [(0, .int a)] := hl
  refine lv_iload_n hx hb dX4_levelOf_0 rfl (lv_at hl 0 rfl) ?_
  refine lv_sipush (v := 160) hx hb dX4_levelOf_1 (by decide) ?_
  refine lv_icmp_lt (tgt := 9) hx hb dX4_levelOf_4 (by decide) (fun c_1 => ?_) (fun c_1 => ?_)
  · skip
    refine lv_iload_n hx hb dX4_levelOf_9 rfl (lv_at hl 0 rfl) ?_
    refine lv_bipush (v := 80) hx hb dX4_levelOf_10 (by decide) ?_
    refine lv_icmp_lt (tgt := 17) hx hb dX4_levelOf_12 (by decide) (fun c_2 => ?_) (fun c_2 => ?_)
    · skip
      refine lv_iload_n hx hb dX4_levelOf_17 rfl (lv_at hl 0 rfl) ?_
      refine lv_bipush (v := 40) hx hb dX4_levelOf_18 (by decide) ?_
      refine lv_icmp_lt (tgt := 27) hx hb dX4_levelOf_20 (by decide) (fun c_3 => ?_) (fun c_3 => ?_)
      · skip
        refine lv_iconst (v := 0) hx hb dX4_levelOf_27 (by decide) ?_
        subst hQ
        exact g_iret hE hG hr (Nat.le_of_ble_eq_true rfl) (Nat.le_of_ble_eq_true rfl) dX4_levelOf_28 ⟨by unfold f_lev; rw [if_pos c_1, if_pos c_2, if_pos c_3], rfl⟩
      · skip
        refine lv_iconst (v := 1) hx hb dX4_levelOf_23 (by decide) ?_
        refine lv_goto (tgt := 28) hx hb dX4_levelOf_24 (by decide) ?_
        subst hQ
        exact g_iret hE hG hr (Nat.le_of_ble_eq_true rfl) (Nat.le_of_ble_eq_true rfl) dX4_levelOf_28 ⟨by unfold f_lev; rw [if_pos c_1, if_pos c_2, if_neg c_3], rfl⟩
    · skip
      refine lv_iconst (v := 2) hx hb dX4_levelOf_15 (by decide) ?_
      subst hQ
      exact g_iret hE hG hr (Nat.le_of_ble_eq_true rfl) (Nat.le_of_ble_eq_true rfl) dX4_levelOf_16 ⟨by unfold f_lev; rw [if_pos c_1, if_neg c_2], rfl⟩
  · skip
    refine lv_iconst (v := 3) hx hb dX4_levelOf_7 (by decide) ?_
    subst hQ
    exact g_iret hE hG hr (Nat.le_of_ble_eq_true rfl) (Nat.le_of_ble_eq_true rfl) dX4_levelOf_8 ⟨by unfold f_lev; rw [if_neg c_1], rfl⟩
def f_turn (a b d : Int32) : Int32 := (if (a - a / 2 * 2) = 0 then b else d)
abbrev rm_X5_turnAt : Room := { frames := 1, cells := 0, slots := 0, locals := 50 }
theorem nm_X5_turnAt : gNm yX5_turnAt 3 := ⟨by decide +kernel, by decide +kernel, by decide +kernel⟩
set_option maxHeartbeats 4000000 in
set_option maxRecDepth 100000 in
theorem c_X5_turnAt (l : Launch) (hfl : l.stackTraces = false) (D : va_G) (tc : Nat → ClassId) (A : Nat → Prop) (w : gW) (a : Int32) (b : Int32) (d : Int32) : gM l yX5_turnAt cX5_turnAt 3 (some .int) rm_X5_turnAt D tc A [.int a, .int b, .int d] w (fun v w' => v = some (.int (f_turn a b d)) ∧ w' = w) (fun _ => False) := by
  refine gM_of (by decide +kernel) (Nat.le_of_ble_eq_true rfl) ?_
  intro p e s m args below meth c ls Q hQ hE hG hr hnt hnm hl
  have hx := hE.1
  have hb := hE.2.1
  have hl : lv_has ls 3 [(0, .int a), (1, .int b), (2, .int d)] := hl
  refine lv_iload_n hx hb dX5_turnAt_0 rfl (lv_at hl 0 rfl) ?_
  refine lv_iconst (v := 2) hx hb dX5_turnAt_1 (by decide) ?_
  refine lv_irem hx hb dX5_turnAt_2 (by decide) ?_
  refine lv_if_ne (tgt := 10) hx hb dX5_turnAt_3 (by decide) (fun c_1 => ?_) (fun c_1 => ?_)
  · skip
    refine lv_iload_n hx hb dX5_turnAt_10 rfl (lv_at hl 2 rfl) ?_
    subst hQ
    exact g_iret hE hG hr (Nat.le_of_ble_eq_true rfl) (Nat.le_of_ble_eq_true rfl) dX5_turnAt_11 ⟨by unfold f_turn; rw [if_neg c_1], rfl⟩
  · skip
    refine lv_iload_n hx hb dX5_turnAt_6 rfl (lv_at hl 1 rfl) ?_
    refine lv_goto (tgt := 11) hx hb dX5_turnAt_7 (by decide) ?_
    subst hQ
    exact g_iret hE hG hr (Nat.le_of_ble_eq_true rfl) (Nat.le_of_ble_eq_true rfl) dX5_turnAt_11 ⟨by unfold f_turn; rw [if_pos c_1], rfl⟩
def f_walk (a b d g : Int32) : Int32 := (if b < (if 0 ≤ (g - d) then (g - d) else 0 - (g - d)) then (if b = ((2 * a) - 1) then g else (if g ≤ d then (d - b) else (d + b))) else (if b = ((2 * a) - 1) then g else g))
abbrev rm_X5_walkAt : Room := { frames := 1, cells := 0, slots := 0, locals := 50 }
theorem nm_X5_walkAt : gNm yX5_walkAt 4 := ⟨by decide +kernel, by decide +kernel, by decide +kernel⟩
set_option maxHeartbeats 4000000 in
set_option maxRecDepth 100000 in
theorem c_X5_walkAt (l : Launch) (hfl : l.stackTraces = false) (D : va_G) (tc : Nat → ClassId) (A : Nat → Prop) (w : gW) (a : Int32) (b : Int32) (d : Int32) (g : Int32) : gM l yX5_walkAt cX5_walkAt 6 (some .int) rm_X5_walkAt D tc A [.int a, .int b, .int d, .int g] w (fun v w' => v = some (.int (f_walk a b d g)) ∧ w' = w) (fun _ => False) := by
  refine gM_of (by decide +kernel) (Nat.le_of_ble_eq_true rfl) ?_
  intro p e s m args below meth c ls Q hQ hE hG hr hnt hnm hl
  have hx := hE.1
  have hb := hE.2.1
  have hl : lv_has ls 6 [(0, .int a), (1, .int b), (2, .int d), (3, .int g)] := hl
  refine lv_iload_n hx hb dX5_walkAt_0 rfl (lv_at hl 1 rfl) ?_
  refine lv_iload_n hx hb dX5_walkAt_1 rfl (lv_at hl 3 rfl) ?_
  refine lv_iload_n hx hb dX5_walkAt_2 rfl (lv_at hl 2 rfl) ?_
  refine lv_isub hx hb dX5_walkAt_3 ?_
  refine va_mabs hx hb (hE.2.2.1.trans hl.1.symm) hE.2.2.2.1 (hE.2.2.2.2.1 _ mw2_140) (hE.2.2.2.2.1 _ mw2_141) (hE.2.2.2.2.1 _ mw1_13) (hE.2.2.2.2.1 _ mw2_142) (Nat.le_of_ble_eq_true rfl) (Nat.le_of_ble_eq_true rfl) (Nat.le_of_ble_eq_true rfl) (Nat.le_of_ble_eq_true rfl) dX5_walkAt_4 ?_
  refine lv_icmp_lt (tgt := 14) hx hb dX5_walkAt_7 (by decide) (fun c_1 => ?_) (fun c_1 => ?_)
  · skip
    refine lv_iconst (v := 0) hx hb dX5_walkAt_14 (by decide) ?_
    refine lv_istore (lv' := [(4, .int 0), (0, .int a), (1, .int b), (2, .int d), (3, .int g)]) hx hb dX5_walkAt_15 hl (by decide) rfl (fun ls hl => ?_)
    refine lv_iload_n hx hb dX5_walkAt_17 rfl (lv_at hl 2 rfl) ?_
    refine lv_iconst (v := 2) hx hb dX5_walkAt_18 (by decide) ?_
    refine lv_iload_n hx hb dX5_walkAt_19 rfl (lv_at hl 1 rfl) ?_
    refine lv_imul hx hb dX5_walkAt_20 ?_
    refine lv_iconst (v := 1) hx hb dX5_walkAt_21 (by decide) ?_
    refine lv_isub hx hb dX5_walkAt_22 ?_
    refine lv_icmp_ne (tgt := 30) hx hb dX5_walkAt_23 (by decide) (fun c_2 => ?_) (fun c_2 => ?_)
    · skip
      refine lv_iconst (v := 0) hx hb dX5_walkAt_30 (by decide) ?_
      refine lv_istore (lv' := [(5, .int 0), (4, .int 0), (0, .int a), (1, .int b), (2, .int d), (3, .int g)]) hx hb dX5_walkAt_31 hl (by decide) rfl (fun ls hl => ?_)
      refine lv_iload hx hb dX5_walkAt_33 (lv_at hl 1 rfl) ?_
      refine lv_if_ne (tgt := 43) hx hb dX5_walkAt_35 (by decide) (fun c9 => (c9 (by decide)).elim) (fun _ => ?_)
      refine lv_iload hx hb dX5_walkAt_38 (lv_at hl 0 rfl) ?_
      refine lv_if_eq (tgt := 45) hx hb dX5_walkAt_40 (by decide) (fun _ => ?_) (fun c9 => (c9 (by decide)).elim)
      refine lv_iload_n hx hb dX5_walkAt_45 rfl (lv_at hl 4 rfl) ?_
      refine lv_iload_n hx hb dX5_walkAt_46 rfl (lv_at hl 5 rfl) ?_
      refine lv_icmp_ge (tgt := 56) hx hb dX5_walkAt_47 (by decide) (fun c_3 => ?_) (fun c_3 => ?_)
      · skip
        refine lv_iload_n hx hb dX5_walkAt_56 rfl (lv_at hl 4 rfl) ?_
        refine lv_iload_n hx hb dX5_walkAt_57 rfl (lv_at hl 3 rfl) ?_
        refine lv_isub hx hb dX5_walkAt_58 ?_
        subst hQ
        exact g_iret hE hG hr (Nat.le_of_ble_eq_true rfl) (Nat.le_of_ble_eq_true rfl) dX5_walkAt_59 ⟨by unfold f_walk; rw [if_pos c_1, if_neg c_2, if_pos c_3], rfl⟩
      · skip
        refine lv_iload_n hx hb dX5_walkAt_50 rfl (lv_at hl 4 rfl) ?_
        refine lv_iload_n hx hb dX5_walkAt_51 rfl (lv_at hl 3 rfl) ?_
        refine lv_iadd hx hb dX5_walkAt_52 ?_
        refine lv_goto (tgt := 59) hx hb dX5_walkAt_53 (by decide) ?_
        subst hQ
        exact g_iret hE hG hr (Nat.le_of_ble_eq_true rfl) (Nat.le_of_ble_eq_true rfl) dX5_walkAt_59 ⟨by unfold f_walk; rw [if_pos c_1, if_neg c_2, if_neg c_3], rfl⟩
    · skip
      refine lv_iconst (v := 1) hx hb dX5_walkAt_26 (by decide) ?_
      refine lv_goto (tgt := 31) hx hb dX5_walkAt_27 (by decide) ?_
      refine lv_istore (lv' := [(5, .int 1), (4, .int 0), (0, .int a), (1, .int b), (2, .int d), (3, .int g)]) hx hb dX5_walkAt_31 hl (by decide) rfl (fun ls hl => ?_)
      refine lv_iload hx hb dX5_walkAt_33 (lv_at hl 1 rfl) ?_
      refine lv_if_ne (tgt := 43) hx hb dX5_walkAt_35 (by decide) (fun c9 => (c9 (by decide)).elim) (fun _ => ?_)
      refine lv_iload hx hb dX5_walkAt_38 (lv_at hl 0 rfl) ?_
      refine lv_if_eq (tgt := 45) hx hb dX5_walkAt_40 (by decide) (fun c9 => absurd c9 (by decide)) (fun _ => ?_)
      refine lv_iload_n hx hb dX5_walkAt_43 rfl (lv_at hl 5 rfl) ?_
      subst hQ
      exact g_iret hE hG hr (Nat.le_of_ble_eq_true rfl) (Nat.le_of_ble_eq_true rfl) dX5_walkAt_44 ⟨by unfold f_walk; rw [if_pos c_1, if_pos c_2], rfl⟩
  · skip
    refine lv_iconst (v := 1) hx hb dX5_walkAt_10 (by decide) ?_
    refine lv_goto (tgt := 15) hx hb dX5_walkAt_11 (by decide) ?_
    refine lv_istore (lv' := [(4, .int 1), (0, .int a), (1, .int b), (2, .int d), (3, .int g)]) hx hb dX5_walkAt_15 hl (by decide) rfl (fun ls hl => ?_)
    refine lv_iload_n hx hb dX5_walkAt_17 rfl (lv_at hl 2 rfl) ?_
    refine lv_iconst (v := 2) hx hb dX5_walkAt_18 (by decide) ?_
    refine lv_iload_n hx hb dX5_walkAt_19 rfl (lv_at hl 1 rfl) ?_
    refine lv_imul hx hb dX5_walkAt_20 ?_
    refine lv_iconst (v := 1) hx hb dX5_walkAt_21 (by decide) ?_
    refine lv_isub hx hb dX5_walkAt_22 ?_
    refine lv_icmp_ne (tgt := 30) hx hb dX5_walkAt_23 (by decide) (fun c_4 => ?_) (fun c_4 => ?_)
    · skip
      refine lv_iconst (v := 0) hx hb dX5_walkAt_30 (by decide) ?_
      refine lv_istore (lv' := [(5, .int 0), (4, .int 1), (0, .int a), (1, .int b), (2, .int d), (3, .int g)]) hx hb dX5_walkAt_31 hl (by decide) rfl (fun ls hl => ?_)
      refine lv_iload hx hb dX5_walkAt_33 (lv_at hl 1 rfl) ?_
      refine lv_if_ne (tgt := 43) hx hb dX5_walkAt_35 (by decide) (fun _ => ?_) (fun c9 => absurd c9 (by decide))
      refine lv_iload_n hx hb dX5_walkAt_43 rfl (lv_at hl 5 rfl) ?_
      subst hQ
      exact g_iret hE hG hr (Nat.le_of_ble_eq_true rfl) (Nat.le_of_ble_eq_true rfl) dX5_walkAt_44 ⟨by unfold f_walk; rw [if_neg c_1, if_neg c_4], rfl⟩
    · skip
      refine lv_iconst (v := 1) hx hb dX5_walkAt_26 (by decide) ?_
      refine lv_goto (tgt := 31) hx hb dX5_walkAt_27 (by decide) ?_
      refine lv_istore (lv' := [(5, .int 1), (4, .int 1), (0, .int a), (1, .int b), (2, .int d), (3, .int g)]) hx hb dX5_walkAt_31 hl (by decide) rfl (fun ls hl => ?_)
      refine lv_iload hx hb dX5_walkAt_33 (lv_at hl 1 rfl) ?_
      refine lv_if_ne (tgt := 43) hx hb dX5_walkAt_35 (by decide) (fun _ => ?_) (fun c9 => absurd c9 (by decide))
      refine lv_iload_n hx hb dX5_walkAt_43 rfl (lv_at hl 5 rfl) ?_
      subst hQ
      exact g_iret hE hG hr (Nat.le_of_ble_eq_true rfl) (Nat.le_of_ble_eq_true rfl) dX5_walkAt_44 ⟨by unfold f_walk; rw [if_neg c_1, if_pos c_4], rfl⟩
def f_strokeAt (a b d g h : Int32) : Int32 := (if a = 1 then (if 2 ≤ (d - d / 4 * 4) then h else g) else (if a = 3 then (if g = 0 then (f_turn d g h) else (if h = 0 then (f_turn d g h) else (f_walk b d g h))) else (f_turn d g h)))
abbrev rm_X5_strokeAt : Room := { frames := 2, cells := 0, slots := 0, locals := 86 }
theorem nm_X5_strokeAt : gNm yX5_strokeAt 5 := ⟨by decide +kernel, by decide +kernel, by decide +kernel⟩
set_option maxHeartbeats 4000000 in
set_option maxRecDepth 100000 in
theorem c_X5_strokeAt (l : Launch) (hfl : l.stackTraces = false) (D : va_G) (tc : Nat → ClassId) (A : Nat → Prop) (w : gW) (a : Int32) (b : Int32) (d : Int32) (g : Int32) (h : Int32) : gM l yX5_strokeAt cX5_strokeAt 5 (some .int) rm_X5_strokeAt D tc A [.int a, .int b, .int d, .int g, .int h] w (fun v w' => v = some (.int (f_strokeAt a b d g h)) ∧ w' = w) (fun _ => False) := by
  refine gM_of (by decide +kernel) (Nat.le_of_ble_eq_true rfl) ?_
  intro p e s m args below meth c ls Q hQ hE hG hr hnt hnm hl
  have hx := hE.1
  have hb := hE.2.1
  have hl : lv_has ls 5 [(0, .int a), (1, .int b), (2, .int d), (3, .int g), (4, .int h)] := hl
  refine lv_iload_n hx hb dX5_strokeAt_0 rfl (lv_at hl 0 rfl) ?_
  by_cases c_1 : a = 1
  · skip
    refine lv_lookup (off := 27) (tgt := 28) hx hb dX5_strokeAt_1 (by decide) (by rw [c_1]; decide) (by decide) ?_
    refine lv_iload_n hx hb dX5_strokeAt_28 rfl (lv_at hl 2 rfl) ?_
    refine lv_iconst (v := 4) hx hb dX5_strokeAt_29 (by decide) ?_
    refine lv_irem hx hb dX5_strokeAt_30 (by decide) ?_
    refine lv_iconst (v := 2) hx hb dX5_strokeAt_31 (by decide) ?_
    refine lv_icmp_ge (tgt := 39) hx hb dX5_strokeAt_32 (by decide) (fun c_2 => ?_) (fun c_2 => ?_)
    · skip
      refine lv_iload hx hb dX5_strokeAt_39 (lv_at hl 4 rfl) ?_
      subst hQ
      exact g_iret hE hG hr (Nat.le_of_ble_eq_true rfl) (Nat.le_of_ble_eq_true rfl) dX5_strokeAt_41 ⟨by unfold f_strokeAt; rw [if_pos c_1, if_pos c_2], rfl⟩
    · skip
      refine lv_iload_n hx hb dX5_strokeAt_35 rfl (lv_at hl 3 rfl) ?_
      refine lv_goto (tgt := 41) hx hb dX5_strokeAt_36 (by decide) ?_
      subst hQ
      exact g_iret hE hG hr (Nat.le_of_ble_eq_true rfl) (Nat.le_of_ble_eq_true rfl) dX5_strokeAt_41 ⟨by unfold f_strokeAt; rw [if_pos c_1, if_neg c_2], rfl⟩
  by_cases c_3 : a = 3
  · skip
    refine lv_lookup (off := 41) (tgt := 42) hx hb dX5_strokeAt_1 (by decide) (by rw [c_3]; decide) (by decide) ?_
    refine lv_iload_n hx hb dX5_strokeAt_42 rfl (lv_at hl 3 rfl) ?_
    refine lv_if_eq (tgt := 51) hx hb dX5_strokeAt_43 (by decide) (fun c_4 => ?_) (fun c_4 => ?_)
    · skip
      refine lv_iload_n hx hb dX5_strokeAt_51 rfl (lv_at hl 2 rfl) ?_
      refine lv_iload_n hx hb dX5_strokeAt_52 rfl (lv_at hl 3 rfl) ?_
      refine lv_iload hx hb dX5_strokeAt_53 (lv_at hl 4 rfl) ?_
      refine g_callS (rest := []) (As := [.int d, .int g, .int h]) hE hG hl.1 (c_X5_turnAt l hfl D tc A w d g h ) mw2_134 mw2_135 mw1_1 mw2_136 nm_X5_turnAt ⟨⟨Nat.le_of_ble_eq_true rfl, Nat.le_of_ble_eq_true rfl⟩, Nat.le_of_ble_eq_true rfl, Nat.le_of_ble_eq_true rfl⟩ rfl rfl (Nat.le_of_ble_eq_true rfl) dX5_strokeAt_55 (g_no) ?_
      intro v9 w9 H locs h9 hG
      obtain ⟨e9, f9⟩ := h9
      rw [f9] at hG; rw [e9]; clear e9 f9
      show W p l e _ s m args below meth c H locs _ _ _ (F0 m 58 ls [.int (f_turn d g h)])
      refine lv_goto (tgt := 69) hx hb dX5_strokeAt_58 (by decide) ?_
      subst hQ
      exact g_iret hE hG hr (Nat.le_of_ble_eq_true rfl) (Nat.le_of_ble_eq_true rfl) dX5_strokeAt_69 ⟨by unfold f_strokeAt; rw [if_neg c_1, if_pos c_3, if_pos c_4], rfl⟩
    · skip
      refine lv_iload hx hb dX5_strokeAt_46 (lv_at hl 4 rfl) ?_
      refine lv_if_ne (tgt := 61) hx hb dX5_strokeAt_48 (by decide) (fun c_5 => ?_) (fun c_5 => ?_)
      · skip
        refine lv_iload_n hx hb dX5_strokeAt_61 rfl (lv_at hl 1 rfl) ?_
        refine lv_iload_n hx hb dX5_strokeAt_62 rfl (lv_at hl 2 rfl) ?_
        refine lv_iload_n hx hb dX5_strokeAt_63 rfl (lv_at hl 3 rfl) ?_
        refine lv_iload hx hb dX5_strokeAt_64 (lv_at hl 4 rfl) ?_
        refine g_callS (rest := []) (As := [.int b, .int d, .int g, .int h]) hE hG hl.1 (c_X5_walkAt l hfl D tc A w b d g h ) mw2_137 mw2_138 mw1_1 mw2_139 nm_X5_walkAt ⟨⟨Nat.le_of_ble_eq_true rfl, Nat.le_of_ble_eq_true rfl⟩, Nat.le_of_ble_eq_true rfl, Nat.le_of_ble_eq_true rfl⟩ rfl rfl (Nat.le_of_ble_eq_true rfl) dX5_strokeAt_66 (g_no) ?_
        intro v9 w9 H locs h9 hG
        obtain ⟨e9, f9⟩ := h9
        rw [f9] at hG; rw [e9]; clear e9 f9
        show W p l e _ s m args below meth c H locs _ _ _ (F0 m 69 ls [.int (f_walk b d g h)])
        subst hQ
        exact g_iret hE hG hr (Nat.le_of_ble_eq_true rfl) (Nat.le_of_ble_eq_true rfl) dX5_strokeAt_69 ⟨by unfold f_strokeAt; rw [if_neg c_1, if_pos c_3, if_neg c_4, if_neg c_5], rfl⟩
      · skip
        refine lv_iload_n hx hb dX5_strokeAt_51 rfl (lv_at hl 2 rfl) ?_
        refine lv_iload_n hx hb dX5_strokeAt_52 rfl (lv_at hl 3 rfl) ?_
        refine lv_iload hx hb dX5_strokeAt_53 (lv_at hl 4 rfl) ?_
        refine g_callS (rest := []) (As := [.int d, .int g, .int h]) hE hG hl.1 (c_X5_turnAt l hfl D tc A w d g h ) mw2_134 mw2_135 mw1_1 mw2_136 nm_X5_turnAt ⟨⟨Nat.le_of_ble_eq_true rfl, Nat.le_of_ble_eq_true rfl⟩, Nat.le_of_ble_eq_true rfl, Nat.le_of_ble_eq_true rfl⟩ rfl rfl (Nat.le_of_ble_eq_true rfl) dX5_strokeAt_55 (g_no) ?_
        intro v9 w9 H locs h9 hG
        obtain ⟨e9, f9⟩ := h9
        rw [f9] at hG; rw [e9]; clear e9 f9
        show W p l e _ s m args below meth c H locs _ _ _ (F0 m 58 ls [.int (f_turn d g h)])
        refine lv_goto (tgt := 69) hx hb dX5_strokeAt_58 (by decide) ?_
        subst hQ
        exact g_iret hE hG hr (Nat.le_of_ble_eq_true rfl) (Nat.le_of_ble_eq_true rfl) dX5_strokeAt_69 ⟨by unfold f_strokeAt; rw [if_neg c_1, if_pos c_3, if_neg c_4, if_pos c_5], rfl⟩
  refine lv_lookup (off := 69) (tgt := 70) hx hb dX5_strokeAt_1 (by decide) (by show Op.lookupswitch.offset [(1, 27), (3, 41)] 69 _ = _; rw [lv_osw c_1 (by decide), lv_osw c_3 (by decide)]; rfl) (by decide) ?_
  refine lv_iload_n hx hb dX5_strokeAt_70 rfl (lv_at hl 2 rfl) ?_
  refine lv_iload_n hx hb dX5_strokeAt_71 rfl (lv_at hl 3 rfl) ?_
  refine lv_iload hx hb dX5_strokeAt_72 (lv_at hl 4 rfl) ?_
  refine g_callS (rest := []) (As := [.int d, .int g, .int h]) hE hG hl.1 (c_X5_turnAt l hfl D tc A w d g h ) mw2_134 mw2_135 mw1_1 mw2_136 nm_X5_turnAt ⟨⟨Nat.le_of_ble_eq_true rfl, Nat.le_of_ble_eq_true rfl⟩, Nat.le_of_ble_eq_true rfl, Nat.le_of_ble_eq_true rfl⟩ rfl rfl (Nat.le_of_ble_eq_true rfl) dX5_strokeAt_74 (g_no) ?_
  intro v9 w9 H locs h9 hG
  obtain ⟨e9, f9⟩ := h9
  rw [f9] at hG; rw [e9]; clear e9 f9
  show W p l e _ s m args below meth c H locs _ _ _ (F0 m 77 ls [.int (f_turn d g h)])
  subst hQ
  exact g_iret hE hG hr (Nat.le_of_ble_eq_true rfl) (Nat.le_of_ble_eq_true rfl) dX5_strokeAt_77 ⟨by unfold f_strokeAt; rw [if_neg c_1, if_neg c_3], rfl⟩
def f_walkB (a b d g : Int32) : Int32 := (if a = g then g else (if d = ((2 * b) - 1) then g else (if g ≤ a then (a - 1) else (a + 1))))
abbrev rm_X5_walkBehind : Room := { frames := 1, cells := 0, slots := 0, locals := 50 }
theorem nm_X5_walkBehind : gNm yX5_walkBehind 4 := ⟨by decide +kernel, by decide +kernel, by decide +kernel⟩
set_option maxHeartbeats 4000000 in
set_option maxRecDepth 100000 in
theorem c_X5_walkBehind (l : Launch) (hfl : l.stackTraces = false) (D : va_G) (tc : Nat → ClassId) (A : Nat → Prop) (w : gW) (a : Int32) (b : Int32) (d : Int32) (g : Int32) : gM l yX5_walkBehind cX5_walkBehind 4 (some .int) rm_X5_walkBehind D tc A [.int a, .int b, .int d, .int g] w (fun v w' => v = some (.int (f_walkB a b d g)) ∧ w' = w) (fun _ => False) := by
  refine gM_of (by decide +kernel) (Nat.le_of_ble_eq_true rfl) ?_
  intro p e s m args below meth c ls Q hQ hE hG hr hnt hnm hl
  have hx := hE.1
  have hb := hE.2.1
  have hl : lv_has ls 4 [(0, .int a), (1, .int b), (2, .int d), (3, .int g)] := hl
  refine lv_iload_n hx hb dX5_walkBehind_0 rfl (lv_at hl 0 rfl) ?_
  refine lv_iload_n hx hb dX5_walkBehind_1 rfl (lv_at hl 3 rfl) ?_
  refine lv_icmp_eq (tgt := 14) hx hb dX5_walkBehind_2 (by decide) (fun c_1 => ?_) (fun c_1 => ?_)
  · skip
    refine lv_iload_n hx hb dX5_walkBehind_14 rfl (lv_at hl 3 rfl) ?_
    subst hQ
    exact g_iret hE hG hr (Nat.le_of_ble_eq_true rfl) (Nat.le_of_ble_eq_true rfl) dX5_walkBehind_15 ⟨by unfold f_walkB; rw [if_pos c_1], rfl⟩
  · skip
    refine lv_iload_n hx hb dX5_walkBehind_5 rfl (lv_at hl 2 rfl) ?_
    refine lv_iconst (v := 2) hx hb dX5_walkBehind_6 (by decide) ?_
    refine lv_iload_n hx hb dX5_walkBehind_7 rfl (lv_at hl 1 rfl) ?_
    refine lv_imul hx hb dX5_walkBehind_8 ?_
    refine lv_iconst (v := 1) hx hb dX5_walkBehind_9 (by decide) ?_
    refine lv_isub hx hb dX5_walkBehind_10 ?_
    refine lv_icmp_ne (tgt := 16) hx hb dX5_walkBehind_11 (by decide) (fun c_2 => ?_) (fun c_2 => ?_)
    · skip
      refine lv_iload_n hx hb dX5_walkBehind_16 rfl (lv_at hl 0 rfl) ?_
      refine lv_iload_n hx hb dX5_walkBehind_17 rfl (lv_at hl 3 rfl) ?_
      refine lv_icmp_ge (tgt := 27) hx hb dX5_walkBehind_18 (by decide) (fun c_3 => ?_) (fun c_3 => ?_)
      · skip
        refine lv_iload_n hx hb dX5_walkBehind_27 rfl (lv_at hl 0 rfl) ?_
        refine lv_iconst (v := 1) hx hb dX5_walkBehind_28 (by decide) ?_
        refine lv_isub hx hb dX5_walkBehind_29 ?_
        subst hQ
        exact g_iret hE hG hr (Nat.le_of_ble_eq_true rfl) (Nat.le_of_ble_eq_true rfl) dX5_walkBehind_30 ⟨by unfold f_walkB; rw [if_neg c_1, if_neg c_2, if_pos c_3], rfl⟩
      · skip
        refine lv_iload_n hx hb dX5_walkBehind_21 rfl (lv_at hl 0 rfl) ?_
        refine lv_iconst (v := 1) hx hb dX5_walkBehind_22 (by decide) ?_
        refine lv_iadd hx hb dX5_walkBehind_23 ?_
        refine lv_goto (tgt := 30) hx hb dX5_walkBehind_24 (by decide) ?_
        subst hQ
        exact g_iret hE hG hr (Nat.le_of_ble_eq_true rfl) (Nat.le_of_ble_eq_true rfl) dX5_walkBehind_30 ⟨by unfold f_walkB; rw [if_neg c_1, if_neg c_2, if_neg c_3], rfl⟩
    · skip
      refine lv_iload_n hx hb dX5_walkBehind_14 rfl (lv_at hl 3 rfl) ?_
      subst hQ
      exact g_iret hE hG hr (Nat.le_of_ble_eq_true rfl) (Nat.le_of_ble_eq_true rfl) dX5_walkBehind_15 ⟨by unfold f_walkB; rw [if_neg c_1, if_pos c_2], rfl⟩
def f_strokeB (a b d g h j : Int32) : Int32 := (if b = 1 then (if (g - g / 2 * 2) = 0 then ((h + j) - a) else a) else (if b = 3 then (if h = 0 then ((h + j) - a) else (if j = 0 then ((h + j) - a) else (f_walkB a d g j))) else ((h + j) - a)))
abbrev rm_X5_strokeBehind : Room := { frames := 2, cells := 0, slots := 0, locals := 86 }
theorem nm_X5_strokeBehind : gNm yX5_strokeBehind 6 := ⟨by decide +kernel, by decide +kernel, by decide +kernel⟩
set_option maxHeartbeats 4000000 in
set_option maxRecDepth 100000 in
theorem c_X5_strokeBehind (l : Launch) (hfl : l.stackTraces = false) (D : va_G) (tc : Nat → ClassId) (A : Nat → Prop) (w : gW) (a : Int32) (b : Int32) (d : Int32) (g : Int32) (h : Int32) (j : Int32) : gM l yX5_strokeBehind cX5_strokeBehind 7 (some .int) rm_X5_strokeBehind D tc A [.int a, .int b, .int d, .int g, .int h, .int j] w (fun v w' => v = some (.int (f_strokeB a b d g h j)) ∧ w' = w) (fun _ => False) := by
  refine gM_of (by decide +kernel) (Nat.le_of_ble_eq_true rfl) ?_
  intro p e s m args below meth c ls Q hQ hE hG hr hnt hnm hl
  have hx := hE.1
  have hb := hE.2.1
  have hl : lv_has ls 7 [(0, .int a), (1, .int b), (2, .int d), (3, .int g), (4, .int h), (5, .int j)] := hl
  refine lv_iload hx hb dX5_strokeBehind_0 (lv_at hl 4 rfl) ?_
  refine lv_iload hx hb dX5_strokeBehind_2 (lv_at hl 5 rfl) ?_
  refine lv_iadd hx hb dX5_strokeBehind_4 ?_
  refine lv_iload_n hx hb dX5_strokeBehind_5 rfl (lv_at hl 0 rfl) ?_
  refine lv_isub hx hb dX5_strokeBehind_6 ?_
  refine lv_istore (lv' := [(6, .int ((h + j) - a)), (0, .int a), (1, .int b), (2, .int d), (3, .int g), (4, .int h), (5, .int j)]) hx hb dX5_strokeBehind_7 hl (by decide) rfl (fun ls hl => ?_)
  refine lv_iload_n hx hb dX5_strokeBehind_9 rfl (lv_at hl 2 rfl) ?_
  by_cases c_1 : b = 1
  · skip
    refine lv_lookup (off := 26) (tgt := 36) hx hb dX5_strokeBehind_10 (by decide) (by rw [c_1]; decide) (by decide) ?_
    refine lv_iload_n hx hb dX5_strokeBehind_36 rfl (lv_at hl 4 rfl) ?_
    refine lv_iconst (v := 2) hx hb dX5_strokeBehind_37 (by decide) ?_
    refine lv_irem hx hb dX5_strokeBehind_38 (by decide) ?_
    refine lv_if_ne (tgt := 47) hx hb dX5_strokeBehind_39 (by decide) (fun c_2 => ?_) (fun c_2 => ?_)
    · skip
      refine lv_iload_n hx hb dX5_strokeBehind_47 rfl (lv_at hl 1 rfl) ?_
      subst hQ
      exact g_iret hE hG hr (Nat.le_of_ble_eq_true rfl) (Nat.le_of_ble_eq_true rfl) dX5_strokeBehind_48 ⟨by unfold f_strokeB; rw [if_pos c_1, if_neg c_2], rfl⟩
    · skip
      refine lv_iload hx hb dX5_strokeBehind_42 (lv_at hl 0 rfl) ?_
      refine lv_goto (tgt := 48) hx hb dX5_strokeBehind_44 (by decide) ?_
      subst hQ
      exact g_iret hE hG hr (Nat.le_of_ble_eq_true rfl) (Nat.le_of_ble_eq_true rfl) dX5_strokeBehind_48 ⟨by unfold f_strokeB; rw [if_pos c_1, if_pos c_2], rfl⟩
  by_cases c_3 : b = 3
  · skip
    refine lv_lookup (off := 39) (tgt := 49) hx hb dX5_strokeBehind_10 (by decide) (by rw [c_3]; decide) (by decide) ?_
    refine lv_iload hx hb dX5_strokeBehind_49 (lv_at hl 5 rfl) ?_
    refine lv_if_eq (tgt := 59) hx hb dX5_strokeBehind_51 (by decide) (fun c_4 => ?_) (fun c_4 => ?_)
    · skip
      refine lv_iload hx hb dX5_strokeBehind_59 (lv_at hl 0 rfl) ?_
      refine lv_goto (tgt := 72) hx hb dX5_strokeBehind_61 (by decide) ?_
      subst hQ
      exact g_iret hE hG hr (Nat.le_of_ble_eq_true rfl) (Nat.le_of_ble_eq_true rfl) dX5_strokeBehind_72 ⟨by unfold f_strokeB; rw [if_neg c_1, if_pos c_3, if_pos c_4], rfl⟩
    · skip
      refine lv_iload hx hb dX5_strokeBehind_54 (lv_at hl 6 rfl) ?_
      refine lv_if_ne (tgt := 64) hx hb dX5_strokeBehind_56 (by decide) (fun c_5 => ?_) (fun c_5 => ?_)
      · skip
        refine lv_iload_n hx hb dX5_strokeBehind_64 rfl (lv_at hl 1 rfl) ?_
        refine lv_iload_n hx hb dX5_strokeBehind_65 rfl (lv_at hl 3 rfl) ?_
        refine lv_iload_n hx hb dX5_strokeBehind_66 rfl (lv_at hl 4 rfl) ?_
        refine lv_iload hx hb dX5_strokeBehind_67 (lv_at hl 6 rfl) ?_
        refine g_callS (rest := []) (As := [.int a, .int d, .int g, .int j]) hE hG hl.1 (c_X5_walkBehind l hfl D tc A w a d g j ) mw2_128 mw2_129 mw1_1 mw2_130 nm_X5_walkBehind ⟨⟨Nat.le_of_ble_eq_true rfl, Nat.le_of_ble_eq_true rfl⟩, Nat.le_of_ble_eq_true rfl, Nat.le_of_ble_eq_true rfl⟩ rfl rfl (Nat.le_of_ble_eq_true rfl) dX5_strokeBehind_69 (g_no) ?_
        intro v9 w9 H locs h9 hG
        obtain ⟨e9, f9⟩ := h9
        rw [f9] at hG; rw [e9]; clear e9 f9
        show W p l e _ s m args below meth c H locs _ _ _ (F0 m 72 ls [.int (f_walkB a d g j)])
        subst hQ
        exact g_iret hE hG hr (Nat.le_of_ble_eq_true rfl) (Nat.le_of_ble_eq_true rfl) dX5_strokeBehind_72 ⟨by unfold f_strokeB; rw [if_neg c_1, if_pos c_3, if_neg c_4, if_neg c_5], rfl⟩
      · skip
        refine lv_iload hx hb dX5_strokeBehind_59 (lv_at hl 0 rfl) ?_
        refine lv_goto (tgt := 72) hx hb dX5_strokeBehind_61 (by decide) ?_
        subst hQ
        exact g_iret hE hG hr (Nat.le_of_ble_eq_true rfl) (Nat.le_of_ble_eq_true rfl) dX5_strokeBehind_72 ⟨by unfold f_strokeB; rw [if_neg c_1, if_pos c_3, if_neg c_4, if_pos c_5], rfl⟩
  refine lv_lookup (off := 63) (tgt := 73) hx hb dX5_strokeBehind_10 (by decide) (by show Op.lookupswitch.offset [(1, 26), (3, 39)] 63 _ = _; rw [lv_osw c_1 (by decide), lv_osw c_3 (by decide)]; rfl) (by decide) ?_
  refine lv_iload hx hb dX5_strokeBehind_73 (lv_at hl 0 rfl) ?_
  subst hQ
  exact g_iret hE hG hr (Nat.le_of_ble_eq_true rfl) (Nat.le_of_ble_eq_true rfl) dX5_strokeBehind_75 ⟨by unfold f_strokeB; rw [if_neg c_1, if_neg c_3], rfl⟩
def f_in (a b d : Int32) : Int32 := (if a < b then 0 else (if d < a then 0 else 1))
theorem f_in_b (a b d : Int32) : f_in a b d = 0 ∨ f_in a b d = 1 := by
  unfold f_in
  repeat' split
  all_goals first | exact Or.inl rfl | exact Or.inr rfl
abbrev rm_X6_in : Room := { frames := 1, cells := 0, slots := 0, locals := 50 }
theorem nm_X6_in : gNm yX6_in 3 := ⟨by decide +kernel, by decide +kernel, by decide +kernel⟩
set_option maxHeartbeats 4000000 in
set_option maxRecDepth 100000 in
theorem c_X6_in (l : Launch) (hfl : l.stackTraces = false) (D : va_G) (tc : Nat → ClassId) (A : Nat → Prop) (w : gW) (a : Int32) (b : Int32) (d : Int32) : gM l yX6_in cX6_in 3 (some .boolean) rm_X6_in D tc A [.int a, .int b, .int d] w (fun v w' => v = some (.int (f_in a b d)) ∧ w' = w) (fun _ => False) := by
  refine gM_of (by decide +kernel) (Nat.le_of_ble_eq_true rfl) ?_
  intro p e s m args below meth c ls Q hQ hE hG hr hnt hnm hl
  have hx := hE.1
  have hb := hE.2.1
  have hl : lv_has ls 3 [(0, .int a), (1, .int b), (2, .int d)] := hl
  refine lv_iload_n hx hb dX6_in_0 rfl (lv_at hl 0 rfl) ?_
  refine lv_iload_n hx hb dX6_in_1 rfl (lv_at hl 1 rfl) ?_
  refine lv_icmp_lt (tgt := 14) hx hb dX6_in_2 (by decide) (fun c_1 => ?_) (fun c_1 => ?_)
  · skip
    refine lv_iconst (v := 0) hx hb dX6_in_14 (by decide) ?_
    subst hQ
    exact g_zret hE hG hr (by decide) (Nat.le_of_ble_eq_true rfl) (Nat.le_of_ble_eq_true rfl) dX6_in_15 ⟨by unfold f_in; rw [if_pos c_1], rfl⟩
  · skip
    refine lv_iload_n hx hb dX6_in_5 rfl (lv_at hl 0 rfl) ?_
    refine lv_iload_n hx hb dX6_in_6 rfl (lv_at hl 2 rfl) ?_
    refine lv_icmp_gt (tgt := 14) hx hb dX6_in_7 (by decide) (fun c_2 => ?_) (fun c_2 => ?_)
    · skip
      refine lv_iconst (v := 0) hx hb dX6_in_14 (by decide) ?_
      subst hQ
      exact g_zret hE hG hr (by decide) (Nat.le_of_ble_eq_true rfl) (Nat.le_of_ble_eq_true rfl) dX6_in_15 ⟨by unfold f_in; rw [if_neg c_1, if_pos c_2], rfl⟩
    · skip
      refine lv_iconst (v := 1) hx hb dX6_in_10 (by decide) ?_
      refine lv_goto (tgt := 15) hx hb dX6_in_11 (by decide) ?_
      subst hQ
      exact g_zret hE hG hr (by decide) (Nat.le_of_ble_eq_true rfl) (Nat.le_of_ble_eq_true rfl) dX6_in_15 ⟨by unfold f_in; rw [if_neg c_1, if_neg c_2], rfl⟩
def m_den (a b : Int32) : Int32 := (if a = 0 then 1 else (if a = 2 then (1 <<< (b &&& 31)) else (2 <<< (b &&& 31))))
abbrev rm_X6_density : Room := { frames := 1, cells := 0, slots := 0, locals := 50 }
theorem nm_X6_density : gNm yX6_density 2 := ⟨by decide +kernel, by decide +kernel, by decide +kernel⟩
set_option maxHeartbeats 4000000 in
set_option maxRecDepth 100000 in
theorem c_X6_density (l : Launch) (hfl : l.stackTraces = false) (D : va_G) (tc : Nat → ClassId) (A : Nat → Prop) (w : gW) (a : Int32) (b : Int32) : gM l yX6_density cX6_density 2 (some .int) rm_X6_density D tc A [.int a, .int b] w (fun v w' => v = some (.int (m_den a b)) ∧ w' = w) (fun _ => False) := by
  refine gM_of (by decide +kernel) (Nat.le_of_ble_eq_true rfl) ?_
  intro p e s m args below meth c ls Q hQ hE hG hr hnt hnm hl
  have hx := hE.1
  have hb := hE.2.1
  have hl : lv_has ls 2 [(0, .int a), (1, .int b)] := hl
  refine lv_iload_n hx hb dX6_density_0 rfl (lv_at hl 0 rfl) ?_
  refine lv_if_ne (tgt := 8) hx hb dX6_density_1 (by decide) (fun c_1 => ?_) (fun c_1 => ?_)
  · skip
    refine lv_iload_n hx hb dX6_density_8 rfl (lv_at hl 0 rfl) ?_
    refine lv_iconst (v := 2) hx hb dX6_density_9 (by decide) ?_
    refine lv_icmp_ne (tgt := 19) hx hb dX6_density_10 (by decide) (fun c_2 => ?_) (fun c_2 => ?_)
    · skip
      refine lv_iconst (v := 2) hx hb dX6_density_19 (by decide) ?_
      refine lv_iload_n hx hb dX6_density_20 rfl (lv_at hl 1 rfl) ?_
      refine lv_ishl hx hb dX6_density_21 ?_
      subst hQ
      exact g_iret hE hG hr (Nat.le_of_ble_eq_true rfl) (Nat.le_of_ble_eq_true rfl) dX6_density_22 ⟨by unfold m_den; rw [if_neg c_1, if_neg c_2], rfl⟩
    · skip
      refine lv_iconst (v := 1) hx hb dX6_density_13 (by decide) ?_
      refine lv_iload_n hx hb dX6_density_14 rfl (lv_at hl 1 rfl) ?_
      refine lv_ishl hx hb dX6_density_15 ?_
      refine lv_goto (tgt := 22) hx hb dX6_density_16 (by decide) ?_
      subst hQ
      exact g_iret hE hG hr (Nat.le_of_ble_eq_true rfl) (Nat.le_of_ble_eq_true rfl) dX6_density_22 ⟨by unfold m_den; rw [if_neg c_1, if_pos c_2], rfl⟩
  · skip
    refine lv_iconst (v := 1) hx hb dX6_density_4 (by decide) ?_
    refine lv_goto (tgt := 22) hx hb dX6_density_5 (by decide) ?_
    subst hQ
    exact g_iret hE hG hr (Nat.le_of_ble_eq_true rfl) (Nat.le_of_ble_eq_true rfl) dX6_density_22 ⟨by unfold m_den; rw [if_pos c_1], rfl⟩
def f_less (a b : Int32) : Int32 := (if b ≤ a then b else a)
abbrev rm_X6_lesser : Room := { frames := 1, cells := 0, slots := 0, locals := 50 }
theorem nm_X6_lesser : gNm yX6_lesser 2 := ⟨by decide +kernel, by decide +kernel, by decide +kernel⟩
set_option maxHeartbeats 4000000 in
set_option maxRecDepth 100000 in
theorem c_X6_lesser (l : Launch) (hfl : l.stackTraces = false) (D : va_G) (tc : Nat → ClassId) (A : Nat → Prop) (w : gW) (a : Int32) (b : Int32) : gM l yX6_lesser cX6_lesser 2 (some .int) rm_X6_lesser D tc A [.int a, .int b] w (fun v w' => v = some (.int (f_less a b)) ∧ w' = w) (fun _ => False) := by
  refine gM_of (by decide +kernel) (Nat.le_of_ble_eq_true rfl) ?_
  intro p e s m args below meth c ls Q hQ hE hG hr hnt hnm hl
  have hx := hE.1
  have hb := hE.2.1
  have hl : lv_has ls 2 [(0, .int a), (1, .int b)] := hl
  refine lv_iload_n hx hb dX6_lesser_0 rfl (lv_at hl 0 rfl) ?_
  refine lv_iload_n hx hb dX6_lesser_1 rfl (lv_at hl 1 rfl) ?_
  refine lv_icmp_ge (tgt := 9) hx hb dX6_lesser_2 (by decide) (fun c_1 => ?_) (fun c_1 => ?_)
  · skip
    refine lv_iload_n hx hb dX6_lesser_9 rfl (lv_at hl 1 rfl) ?_
    subst hQ
    exact g_iret hE hG hr (Nat.le_of_ble_eq_true rfl) (Nat.le_of_ble_eq_true rfl) dX6_lesser_10 ⟨by unfold f_less; rw [if_pos c_1], rfl⟩
  · skip
    refine lv_iload_n hx hb dX6_lesser_5 rfl (lv_at hl 0 rfl) ?_
    refine lv_goto (tgt := 10) hx hb dX6_lesser_6 (by decide) ?_
    subst hQ
    exact g_iret hE hG hr (Nat.le_of_ble_eq_true rfl) (Nat.le_of_ble_eq_true rfl) dX6_lesser_10 ⟨by unfold f_less; rw [if_neg c_1], rfl⟩
def m_str (a b d g h : Int32) : Int32 := (if a = 0 then (if d = 0 then g else h) else (if a = 1 then (if 2 ≤ (d - d / 4 * 4) then h else g) else (if a = 2 then (if (d - d / 2 * 2) = 0 then g else h) else (if g = 0 then (if (d - d / 2 * 2) = 0 then g else h) else (if h = 0 then (if (d - d / 2 * 2) = 0 then g else h) else (if d = ((2 * b) - 1) then h else (if h ≤ g then (if h ≤ (g - d) then (g - d) else h) else (f_less (g + d) h))))))))
abbrev rm_X6_strikes : Room := { frames := 2, cells := 0, slots := 0, locals := 86 }
theorem nm_X6_strikes : gNm yX6_strikes 5 := ⟨by decide +kernel, by decide +kernel, by decide +kernel⟩
set_option maxHeartbeats 4000000 in
set_option maxRecDepth 100000 in
theorem c_X6_strikes (l : Launch) (hfl : l.stackTraces = false) (D : va_G) (tc : Nat → ClassId) (A : Nat → Prop) (w : gW) (a : Int32) (b : Int32) (d : Int32) (g : Int32) (h : Int32) : gM l yX6_strikes cX6_strikes 5 (some .int) rm_X6_strikes D tc A [.int a, .int b, .int d, .int g, .int h] w (fun v w' => v = some (.int (m_str a b d g h)) ∧ w' = w) (fun _ => False) := by
  refine gM_of (by decide +kernel) (Nat.le_of_ble_eq_true rfl) ?_
  intro p e s m args below meth c ls Q hQ hE hG hr hnt hnm hl
  have hx := hE.1
  have hb := hE.2.1
  have hl : lv_has ls 5 [(0, .int a), (1, .int b), (2, .int d), (3, .int g), (4, .int h)] := hl
  refine lv_iload_n hx hb dX6_strikes_0 rfl (lv_at hl 0 rfl) ?_
  refine lv_if_ne (tgt := 15) hx hb dX6_strikes_1 (by decide) (fun c_1 => ?_) (fun c_1 => ?_)
  · skip
    refine lv_iload_n hx hb dX6_strikes_15 rfl (lv_at hl 0 rfl) ?_
    refine lv_iconst (v := 1) hx hb dX6_strikes_16 (by decide) ?_
    refine lv_icmp_ne (tgt := 34) hx hb dX6_strikes_17 (by decide) (fun c_2 => ?_) (fun c_2 => ?_)
    · skip
      refine lv_iload_n hx hb dX6_strikes_34 rfl (lv_at hl 0 rfl) ?_
      refine lv_iconst (v := 2) hx hb dX6_strikes_35 (by decide) ?_
      refine lv_icmp_eq (tgt := 48) hx hb dX6_strikes_36 (by decide) (fun c_3 => ?_) (fun c_3 => ?_)
      · skip
        refine lv_iload_n hx hb dX6_strikes_48 rfl (lv_at hl 2 rfl) ?_
        refine lv_iconst (v := 2) hx hb dX6_strikes_49 (by decide) ?_
        refine lv_irem hx hb dX6_strikes_50 (by decide) ?_
        refine lv_if_ne (tgt := 58) hx hb dX6_strikes_51 (by decide) (fun c_4 => ?_) (fun c_4 => ?_)
        · skip
          refine lv_iload hx hb dX6_strikes_58 (lv_at hl 4 rfl) ?_
          subst hQ
          exact g_iret hE hG hr (Nat.le_of_ble_eq_true rfl) (Nat.le_of_ble_eq_true rfl) dX6_strikes_60 ⟨by unfold m_str; rw [if_neg c_1, if_neg c_2, if_pos c_3, if_neg c_4], rfl⟩
        · skip
          refine lv_iload_n hx hb dX6_strikes_54 rfl (lv_at hl 3 rfl) ?_
          refine lv_goto (tgt := 60) hx hb dX6_strikes_55 (by decide) ?_
          subst hQ
          exact g_iret hE hG hr (Nat.le_of_ble_eq_true rfl) (Nat.le_of_ble_eq_true rfl) dX6_strikes_60 ⟨by unfold m_str; rw [if_neg c_1, if_neg c_2, if_pos c_3, if_pos c_4], rfl⟩
      · skip
        refine lv_iload_n hx hb dX6_strikes_39 rfl (lv_at hl 3 rfl) ?_
        refine lv_if_eq (tgt := 48) hx hb dX6_strikes_40 (by decide) (fun c_5 => ?_) (fun c_5 => ?_)
        · skip
          refine lv_iload_n hx hb dX6_strikes_48 rfl (lv_at hl 2 rfl) ?_
          refine lv_iconst (v := 2) hx hb dX6_strikes_49 (by decide) ?_
          refine lv_irem hx hb dX6_strikes_50 (by decide) ?_
          refine lv_if_ne (tgt := 58) hx hb dX6_strikes_51 (by decide) (fun c_6 => ?_) (fun c_6 => ?_)
          · skip
            refine lv_iload hx hb dX6_strikes_58 (lv_at hl 4 rfl) ?_
            subst hQ
            exact g_iret hE hG hr (Nat.le_of_ble_eq_true rfl) (Nat.le_of_ble_eq_true rfl) dX6_strikes_60 ⟨by unfold m_str; rw [if_neg c_1, if_neg c_2, if_neg c_3, if_pos c_5, if_neg c_6], rfl⟩
          · skip
            refine lv_iload_n hx hb dX6_strikes_54 rfl (lv_at hl 3 rfl) ?_
            refine lv_goto (tgt := 60) hx hb dX6_strikes_55 (by decide) ?_
            subst hQ
            exact g_iret hE hG hr (Nat.le_of_ble_eq_true rfl) (Nat.le_of_ble_eq_true rfl) dX6_strikes_60 ⟨by unfold m_str; rw [if_neg c_1, if_neg c_2, if_neg c_3, if_pos c_5, if_pos c_6], rfl⟩
        · skip
          refine lv_iload hx hb dX6_strikes_43 (lv_at hl 4 rfl) ?_
          refine lv_if_ne (tgt := 61) hx hb dX6_strikes_45 (by decide) (fun c_7 => ?_) (fun c_7 => ?_)
          · skip
            refine lv_iload_n hx hb dX6_strikes_61 rfl (lv_at hl 2 rfl) ?_
            refine lv_iconst (v := 2) hx hb dX6_strikes_62 (by decide) ?_
            refine lv_iload_n hx hb dX6_strikes_63 rfl (lv_at hl 1 rfl) ?_
            refine lv_imul hx hb dX6_strikes_64 ?_
            refine lv_iconst (v := 1) hx hb dX6_strikes_65 (by decide) ?_
            refine lv_isub hx hb dX6_strikes_66 ?_
            refine lv_icmp_ne (tgt := 73) hx hb dX6_strikes_67 (by decide) (fun c_8 => ?_) (fun c_8 => ?_)
            · skip
              refine lv_iload_n hx hb dX6_strikes_73 rfl (lv_at hl 3 rfl) ?_
              refine lv_iload hx hb dX6_strikes_74 (lv_at hl 4 rfl) ?_
              refine lv_icmp_ge (tgt := 90) hx hb dX6_strikes_76 (by decide) (fun c_9 => ?_) (fun c_9 => ?_)
              · skip
                refine lv_iload hx hb dX6_strikes_90 (lv_at hl 4 rfl) ?_
                refine lv_iload_n hx hb dX6_strikes_92 rfl (lv_at hl 3 rfl) ?_
                refine lv_iload_n hx hb dX6_strikes_93 rfl (lv_at hl 2 rfl) ?_
                refine lv_isub hx hb dX6_strikes_94 ?_
                refine lv_icmp_le (tgt := 103) hx hb dX6_strikes_95 (by decide) (fun c_10 => ?_) (fun c_10 => ?_)
                · skip
                  refine lv_iload_n hx hb dX6_strikes_103 rfl (lv_at hl 3 rfl) ?_
                  refine lv_iload_n hx hb dX6_strikes_104 rfl (lv_at hl 2 rfl) ?_
                  refine lv_isub hx hb dX6_strikes_105 ?_
                  subst hQ
                  exact g_iret hE hG hr (Nat.le_of_ble_eq_true rfl) (Nat.le_of_ble_eq_true rfl) dX6_strikes_106 ⟨by unfold m_str; rw [if_neg c_1, if_neg c_2, if_neg c_3, if_neg c_5, if_neg c_7, if_neg c_8, if_pos c_9, if_pos c_10], rfl⟩
                · skip
                  refine lv_iload hx hb dX6_strikes_98 (lv_at hl 4 rfl) ?_
                  refine lv_goto (tgt := 106) hx hb dX6_strikes_100 (by decide) ?_
                  subst hQ
                  exact g_iret hE hG hr (Nat.le_of_ble_eq_true rfl) (Nat.le_of_ble_eq_true rfl) dX6_strikes_106 ⟨by unfold m_str; rw [if_neg c_1, if_neg c_2, if_neg c_3, if_neg c_5, if_neg c_7, if_neg c_8, if_pos c_9, if_neg c_10], rfl⟩
              · skip
                refine lv_iload_n hx hb dX6_strikes_79 rfl (lv_at hl 3 rfl) ?_
                refine lv_iload_n hx hb dX6_strikes_80 rfl (lv_at hl 2 rfl) ?_
                refine lv_iadd hx hb dX6_strikes_81 ?_
                refine lv_iload hx hb dX6_strikes_82 (lv_at hl 4 rfl) ?_
                refine g_callS (rest := []) (As := [.int (g + d), .int h]) hE hG hl.1 (c_X6_lesser l hfl D tc A w (g + d) h ) mw4_95 mw4_96 mw1_4 mw4_97 nm_X6_lesser ⟨⟨Nat.le_of_ble_eq_true rfl, Nat.le_of_ble_eq_true rfl⟩, Nat.le_of_ble_eq_true rfl, Nat.le_of_ble_eq_true rfl⟩ rfl rfl (Nat.le_of_ble_eq_true rfl) dX6_strikes_84 (g_no) ?_
                intro v9 w9 H locs h9 hG
                obtain ⟨e9, f9⟩ := h9
                rw [f9] at hG; rw [e9]; clear e9 f9
                show W p l e _ s m args below meth c H locs _ _ _ (F0 m 87 ls [.int (f_less (g + d) h)])
                refine lv_goto (tgt := 106) hx hb dX6_strikes_87 (by decide) ?_
                subst hQ
                exact g_iret hE hG hr (Nat.le_of_ble_eq_true rfl) (Nat.le_of_ble_eq_true rfl) dX6_strikes_106 ⟨by unfold m_str; rw [if_neg c_1, if_neg c_2, if_neg c_3, if_neg c_5, if_neg c_7, if_neg c_8, if_neg c_9], rfl⟩
            · skip
              refine lv_iload hx hb dX6_strikes_70 (lv_at hl 4 rfl) ?_
              subst hQ
              exact g_iret hE hG hr (Nat.le_of_ble_eq_true rfl) (Nat.le_of_ble_eq_true rfl) dX6_strikes_72 ⟨by unfold m_str; rw [if_neg c_1, if_neg c_2, if_neg c_3, if_neg c_5, if_neg c_7, if_pos c_8], rfl⟩
          · skip
            refine lv_iload_n hx hb dX6_strikes_48 rfl (lv_at hl 2 rfl) ?_
            refine lv_iconst (v := 2) hx hb dX6_strikes_49 (by decide) ?_
            refine lv_irem hx hb dX6_strikes_50 (by decide) ?_
            refine lv_if_ne (tgt := 58) hx hb dX6_strikes_51 (by decide) (fun c_11 => ?_) (fun c_11 => ?_)
            · skip
              refine lv_iload hx hb dX6_strikes_58 (lv_at hl 4 rfl) ?_
              subst hQ
              exact g_iret hE hG hr (Nat.le_of_ble_eq_true rfl) (Nat.le_of_ble_eq_true rfl) dX6_strikes_60 ⟨by unfold m_str; rw [if_neg c_1, if_neg c_2, if_neg c_3, if_neg c_5, if_pos c_7, if_neg c_11], rfl⟩
            · skip
              refine lv_iload_n hx hb dX6_strikes_54 rfl (lv_at hl 3 rfl) ?_
              refine lv_goto (tgt := 60) hx hb dX6_strikes_55 (by decide) ?_
              subst hQ
              exact g_iret hE hG hr (Nat.le_of_ble_eq_true rfl) (Nat.le_of_ble_eq_true rfl) dX6_strikes_60 ⟨by unfold m_str; rw [if_neg c_1, if_neg c_2, if_neg c_3, if_neg c_5, if_pos c_7, if_pos c_11], rfl⟩
    · skip
      refine lv_iload_n hx hb dX6_strikes_20 rfl (lv_at hl 2 rfl) ?_
      refine lv_iconst (v := 4) hx hb dX6_strikes_21 (by decide) ?_
      refine lv_irem hx hb dX6_strikes_22 (by decide) ?_
      refine lv_iconst (v := 2) hx hb dX6_strikes_23 (by decide) ?_
      refine lv_icmp_ge (tgt := 31) hx hb dX6_strikes_24 (by decide) (fun c_12 => ?_) (fun c_12 => ?_)
      · skip
        refine lv_iload hx hb dX6_strikes_31 (lv_at hl 4 rfl) ?_
        subst hQ
        exact g_iret hE hG hr (Nat.le_of_ble_eq_true rfl) (Nat.le_of_ble_eq_true rfl) dX6_strikes_33 ⟨by unfold m_str; rw [if_neg c_1, if_pos c_2, if_pos c_12], rfl⟩
      · skip
        refine lv_iload_n hx hb dX6_strikes_27 rfl (lv_at hl 3 rfl) ?_
        refine lv_goto (tgt := 33) hx hb dX6_strikes_28 (by decide) ?_
        subst hQ
        exact g_iret hE hG hr (Nat.le_of_ble_eq_true rfl) (Nat.le_of_ble_eq_true rfl) dX6_strikes_33 ⟨by unfold m_str; rw [if_neg c_1, if_pos c_2, if_neg c_12], rfl⟩
  · skip
    refine lv_iload_n hx hb dX6_strikes_4 rfl (lv_at hl 2 rfl) ?_
    refine lv_if_ne (tgt := 12) hx hb dX6_strikes_5 (by decide) (fun c_13 => ?_) (fun c_13 => ?_)
    · skip
      refine lv_iload hx hb dX6_strikes_12 (lv_at hl 4 rfl) ?_
      subst hQ
      exact g_iret hE hG hr (Nat.le_of_ble_eq_true rfl) (Nat.le_of_ble_eq_true rfl) dX6_strikes_14 ⟨by unfold m_str; rw [if_pos c_1, if_neg c_13], rfl⟩
    · skip
      refine lv_iload_n hx hb dX6_strikes_8 rfl (lv_at hl 3 rfl) ?_
      refine lv_goto (tgt := 14) hx hb dX6_strikes_9 (by decide) ?_
      subst hQ
      exact g_iret hE hG hr (Nat.le_of_ble_eq_true rfl) (Nat.le_of_ble_eq_true rfl) dX6_strikes_14 ⟨by unfold m_str; rw [if_pos c_1, if_pos c_13], rfl⟩
def m_isPart (a : Int32) : Int32 := (f_in a 0 3)
theorem m_isPart_b (a : Int32) : m_isPart a = 0 ∨ m_isPart a = 1 := by
  unfold m_isPart
  repeat' split
  all_goals first | exact Or.inl rfl | exact Or.inr rfl | apply f_in_b
abbrev rm_X6_isPart : Room := { frames := 2, cells := 0, slots := 0, locals := 86 }
theorem nm_X6_isPart : gNm yX6_isPart 1 := ⟨by decide +kernel, by decide +kernel, by decide +kernel⟩
set_option maxHeartbeats 4000000 in
set_option maxRecDepth 100000 in
theorem c_X6_isPart (l : Launch) (hfl : l.stackTraces = false) (D : va_G) (tc : Nat → ClassId) (A : Nat → Prop) (w : gW) (a : Int32) : gM l yX6_isPart cX6_isPart 1 (some .boolean) rm_X6_isPart D tc A [.int a] w (fun v w' => v = some (.int (m_isPart a)) ∧ w' = w) (fun _ => False) := by
  refine gM_of (by decide +kernel) (Nat.le_of_ble_eq_true rfl) ?_
  intro p e s m args below meth c ls Q hQ hE hG hr hnt hnm hl
  have hx := hE.1
  have hb := hE.2.1
  have hl : lv_has ls 1 [(0, .int a)] := hl
  refine lv_iload_n hx hb dX6_isPart_0 rfl (lv_at hl 0 rfl) ?_
  refine lv_iconst (v := 0) hx hb dX6_isPart_1 (by decide) ?_
  refine lv_iconst (v := 3) hx hb dX6_isPart_2 (by decide) ?_
  refine g_callS (rest := []) (As := [.int a, .int 0, .int 3]) hE hG hl.1 (c_X6_in l hfl D tc A w a 0 3 ) mw4_35 mw4_36 mw1_4 mw4_37 nm_X6_in ⟨⟨Nat.le_of_ble_eq_true rfl, Nat.le_of_ble_eq_true rfl⟩, Nat.le_of_ble_eq_true rfl, Nat.le_of_ble_eq_true rfl⟩ rfl rfl (Nat.le_of_ble_eq_true rfl) dX6_isPart_3 (g_no) ?_
  intro v9 w9 H locs h9 hG
  obtain ⟨e9, f9⟩ := h9
  rw [f9] at hG; rw [e9]; clear e9 f9
  show W p l e _ s m args below meth c H locs _ _ _ (F0 m 6 ls [.int (f_in a 0 3)])
  subst hQ
  exact g_zret hE hG hr (nz_b (by apply f_in_b)) (Nat.le_of_ble_eq_true rfl) (Nat.le_of_ble_eq_true rfl) dX6_isPart_6 ⟨by unfold m_isPart; rw [], rfl⟩
def m_isSet (a : Int32) : Int32 := (f_in a 0 3)
theorem m_isSet_b (a : Int32) : m_isSet a = 0 ∨ m_isSet a = 1 := by
  unfold m_isSet
  repeat' split
  all_goals first | exact Or.inl rfl | exact Or.inr rfl | apply f_in_b
abbrev rm_X6_isSet : Room := { frames := 2, cells := 0, slots := 0, locals := 86 }
theorem nm_X6_isSet : gNm yX6_isSet 1 := ⟨by decide +kernel, by decide +kernel, by decide +kernel⟩
set_option maxHeartbeats 4000000 in
set_option maxRecDepth 100000 in
theorem c_X6_isSet (l : Launch) (hfl : l.stackTraces = false) (D : va_G) (tc : Nat → ClassId) (A : Nat → Prop) (w : gW) (a : Int32) : gM l yX6_isSet cX6_isSet 1 (some .boolean) rm_X6_isSet D tc A [.int a] w (fun v w' => v = some (.int (m_isSet a)) ∧ w' = w) (fun _ => False) := by
  refine gM_of (by decide +kernel) (Nat.le_of_ble_eq_true rfl) ?_
  intro p e s m args below meth c ls Q hQ hE hG hr hnt hnm hl
  have hx := hE.1
  have hb := hE.2.1
  have hl : lv_has ls 1 [(0, .int a)] := hl
  refine lv_iload_n hx hb dX6_isSet_0 rfl (lv_at hl 0 rfl) ?_
  refine lv_iconst (v := 0) hx hb dX6_isSet_1 (by decide) ?_
  refine lv_iconst (v := 3) hx hb dX6_isSet_2 (by decide) ?_
  refine g_callS (rest := []) (As := [.int a, .int 0, .int 3]) hE hG hl.1 (c_X6_in l hfl D tc A w a 0 3 ) mw4_35 mw4_36 mw1_4 mw4_37 nm_X6_in ⟨⟨Nat.le_of_ble_eq_true rfl, Nat.le_of_ble_eq_true rfl⟩, Nat.le_of_ble_eq_true rfl, Nat.le_of_ble_eq_true rfl⟩ rfl rfl (Nat.le_of_ble_eq_true rfl) dX6_isSet_3 (g_no) ?_
  intro v9 w9 H locs h9 hG
  obtain ⟨e9, f9⟩ := h9
  rw [f9] at hG; rw [e9]; clear e9 f9
  show W p l e _ s m args below meth c H locs _ _ _ (F0 m 6 ls [.int (f_in a 0 3)])
  subst hQ
  exact g_zret hE hG hr (nz_b (by apply f_in_b)) (Nat.le_of_ble_eq_true rfl) (Nat.le_of_ble_eq_true rfl) dX6_isSet_6 ⟨by unfold m_isSet; rw [], rfl⟩
end
section
/-! BronzeSet -/
theorem pit_in {x : Int32} (h1 : ¬ x < 1) (h2 : ¬ 7 < x) : vp_in (x - 1) 7 := mel_in (n := 7) (by decide) h1 h2
theorem f_cp_cp (i : Nat) (f g : Nat → Int32) (h : ∀ j, j < i → g j = f j) : f_cp i f g = f := by
  funext j
  unfold f_cp
  by_cases hj : j < i
  · rw [if_pos hj, h j hj]
  · rw [if_neg hj]
def f_pit (f : Nat → Int32) (x : Int32) : Int32 := (if x < 1 then 0 else (if 7 < x then 0 else (f (x - 1).toNatClampNeg)))
abbrev rm_X0_pitchOf : Room := { frames := 1, cells := 0, slots := 0, locals := 50 }
theorem nm_X0_pitchOf : gNm yX0_pitchOf 1 := ⟨by decide +kernel, by decide +kernel, by decide +kernel⟩
set_option maxHeartbeats 4000000 in
set_option maxRecDepth 100000 in
theorem c_X0_pitchOf (l : Launch) (hfl : l.stackTraces = false) (D : va_G) (tc : Nat → ClassId) (A : Nat → Prop) (w : gW) (k0 : Nat) (k1 : Nat) (h0 : Nat) (t : Nat) (r : Int32) (f : Nat → Int32) (x : Int32) (h1 : w k0 = some (h0, .inr (0, [.ref t, .int r]))) (h2 : w k1 = some (t, .inl (tc 0, 7, .inl f))) : gM l yX0_pitchOf cX0_pitchOf 2 (some .int) rm_X0_pitchOf D tc A [.ref h0, .int x] w (fun v w' => v = some (.int (f_pit f x)) ∧ w' = w) (fun _ => False) := by
  refine gM_of (by decide +kernel) (Nat.le_of_ble_eq_true rfl) ?_
  intro p e s m args below meth c ls Q hQ hE hG hr hnt hnm hl
  have hx := hE.1
  have hb := hE.2.1
  have hl : lv_has ls 2 [(0, .ref h0), (1, .int x)] := hl
  refine lv_iload_n hx hb dX0_pitchOf_0 rfl (lv_at hl 1 rfl) ?_
  refine lv_iconst (v := 1) hx hb dX0_pitchOf_1 (by decide) ?_
  refine lv_icmp_lt (tgt := 25) hx hb dX0_pitchOf_2 (by decide) (fun c_1 => ?_) (fun c_1 => ?_)
  · skip
    refine lv_iconst (v := 0) hx hb dX0_pitchOf_25 (by decide) ?_
    subst hQ
    exact g_iret hE hG hr (Nat.le_of_ble_eq_true rfl) (Nat.le_of_ble_eq_true rfl) dX0_pitchOf_26 ⟨by unfold f_pit; rw [if_pos c_1], rfl⟩
  · skip
    refine lv_iload_n hx hb dX0_pitchOf_5 rfl (lv_at hl 1 rfl) ?_
    refine lv_aload_n hx hb dX0_pitchOf_6 rfl (lv_at hl 0 rfl) ?_
    refine g_get hE hG h1 rfl inG0 0 (by decide) mw1_85 rfl dX0_pitchOf_7 ?_
    refine g_alen (t0 := 0) (v := 7) hE hG h2 rfl rfl dX0_pitchOf_10 ?_
    refine lv_icmp_gt (tgt := 25) hx hb dX0_pitchOf_11 (by decide) (fun c_2 => ?_) (fun c_2 => ?_)
    · skip
      refine lv_iconst (v := 0) hx hb dX0_pitchOf_25 (by decide) ?_
      subst hQ
      exact g_iret hE hG hr (Nat.le_of_ble_eq_true rfl) (Nat.le_of_ble_eq_true rfl) dX0_pitchOf_26 ⟨by unfold f_pit; rw [if_neg c_1, if_pos c_2], rfl⟩
    · skip
      refine lv_aload_n hx hb dX0_pitchOf_14 rfl (lv_at hl 0 rfl) ?_
      refine g_get hE hG h1 rfl inG0 0 (by decide) mw1_85 rfl dX0_pitchOf_15 ?_
      refine lv_iload_n hx hb dX0_pitchOf_18 rfl (lv_at hl 1 rfl) ?_
      refine lv_iconst (v := 1) hx hb dX0_pitchOf_19 (by decide) ?_
      refine lv_isub hx hb dX0_pitchOf_20 ?_
      refine g_iald hE hG h2 (pit_in c_1 c_2) dX0_pitchOf_21 ?_
      refine lv_goto (tgt := 26) hx hb dX0_pitchOf_22 (by decide) ?_
      subst hQ
      exact g_iret hE hG hr (Nat.le_of_ble_eq_true rfl) (Nat.le_of_ble_eq_true rfl) dX0_pitchOf_26 ⟨by unfold f_pit; rw [if_neg c_1, if_neg c_2], rfl⟩
def f_pput (f : Nat → Int32) (x v : Int32) : Nat → Int32 := if x < 1 then f else if 7 < x then f else upd f (x - 1).toNatClampNeg v
abbrev rm_X0_putPitch : Room := { frames := 2, cells := 0, slots := 0, locals := 86 }
theorem nm_X0_putPitch : gNm yX0_putPitch 2 := ⟨by decide +kernel, by decide +kernel, by decide +kernel⟩
set_option maxHeartbeats 4000000 in
set_option maxRecDepth 100000 in
theorem c_X0_putPitch (l : Launch) (hfl : l.stackTraces = false) (D : va_G) (tc : Nat → ClassId) (A : Nat → Prop) (w : gW) (k0 : Nat) (k1 : Nat) (h0 : Nat) (t : Nat) (r : Int32) (f : Nat → Int32) (x : Int32) (y : Int32) (h1 : w k0 = some (h0, .inr (0, [.ref t, .int r]))) (h2 : w k1 = some (t, .inl (tc 0, 7, .inl f))) : gM l yX0_putPitch cX0_putPitch 4 (some .int) rm_X0_putPitch D tc A [.ref h0, .int x, .int y] w (fun v w' => v = some (.int (f_pit f x)) ∧ w' = gU w k1 (t, .inl (tc 0, 7, .inl (f_pput f x y)))) (fun _ => False) := by
  refine gM_of (by decide +kernel) (Nat.le_of_ble_eq_true rfl) ?_
  intro p e s m args below meth c ls Q hQ hE hG hr hnt hnm hl
  have hx := hE.1
  have hb := hE.2.1
  have hl : lv_has ls 4 [(0, .ref h0), (1, .int x), (2, .int y)] := hl
  refine lv_aload_n hx hb dX0_putPitch_0 rfl (lv_at hl 0 rfl) ?_
  refine lv_iload_n hx hb dX0_putPitch_1 rfl (lv_at hl 1 rfl) ?_
  refine g_callV (rest := []) (As := [.int x]) hE hG hl.1 (c_X0_pitchOf l hfl D tc A w k0 k1 h0 t r f x h1 h2 ) h1 rfl mw3_25 mw3_26 mw3_27 mw1_3 mw3_28 rfl nm_X0_pitchOf ⟨⟨Nat.le_of_ble_eq_true rfl, Nat.le_of_ble_eq_true rfl⟩, Nat.le_of_ble_eq_true rfl, Nat.le_of_ble_eq_true rfl⟩ rfl rfl (Nat.le_of_ble_eq_true rfl) dX0_putPitch_2 (g_no) ?_
  intro v9 w9 H locs h9 hG
  obtain ⟨e9, f9⟩ := h9
  rw [f9] at hG; rw [e9]; clear e9 f9
  show W p l e _ s m args below meth c H locs _ _ _ (F0 m 5 ls [.int (f_pit f x)])
  refine lv_istore_n (lv' := [(3, .int (f_pit f x)), (0, .ref h0), (1, .int x), (2, .int y)]) hx hb dX0_putPitch_5 rfl hl (by decide) rfl (fun ls hl => ?_)
  refine lv_iload_n hx hb dX0_putPitch_6 rfl (lv_at hl 2 rfl) ?_
  refine lv_iconst (v := 1) hx hb dX0_putPitch_7 (by decide) ?_
  refine lv_icmp_lt (tgt := 29) hx hb dX0_putPitch_8 (by decide) (fun c_1 => ?_) (fun c_1 => ?_)
  · skip
    refine lv_iload_n hx hb dX0_putPitch_29 rfl (lv_at hl 0 rfl) ?_
    subst hQ
    exact g_iret hE hG hr (Nat.le_of_ble_eq_true rfl) (Nat.le_of_ble_eq_true rfl) dX0_putPitch_30 ⟨rfl, by unfold f_pput; rw [if_pos c_1]; exact (gU_self h2).symm⟩
  · skip
    refine lv_iload_n hx hb dX0_putPitch_11 rfl (lv_at hl 2 rfl) ?_
    refine lv_aload_n hx hb dX0_putPitch_12 rfl (lv_at hl 1 rfl) ?_
    refine g_get hE hG h1 rfl inG0 0 (by decide) mw1_85 rfl dX0_putPitch_13 ?_
    refine g_alen (t0 := 0) (v := 7) hE hG h2 rfl rfl dX0_putPitch_16 ?_
    refine lv_icmp_gt (tgt := 29) hx hb dX0_putPitch_17 (by decide) (fun c_2 => ?_) (fun c_2 => ?_)
    · skip
      refine lv_iload_n hx hb dX0_putPitch_29 rfl (lv_at hl 0 rfl) ?_
      subst hQ
      exact g_iret hE hG hr (Nat.le_of_ble_eq_true rfl) (Nat.le_of_ble_eq_true rfl) dX0_putPitch_30 ⟨rfl, by unfold f_pput; rw [if_neg c_1, if_pos c_2]; exact (gU_self h2).symm⟩
    · skip
      refine lv_aload_n hx hb dX0_putPitch_20 rfl (lv_at hl 1 rfl) ?_
      refine g_get hE hG h1 rfl inG0 0 (by decide) mw1_85 rfl dX0_putPitch_21 ?_
      refine lv_iload_n hx hb dX0_putPitch_24 rfl (lv_at hl 2 rfl) ?_
      refine lv_iconst (v := 1) hx hb dX0_putPitch_25 (by decide) ?_
      refine lv_isub hx hb dX0_putPitch_26 ?_
      refine lv_iload_n hx hb dX0_putPitch_27 rfl (lv_at hl 3 rfl) ?_
      refine g_iast hE hG h2 (pit_in c_1 c_2) dX0_putPitch_28 (fun H locs w_3 ew_3 hG => ?_)
      have h_4 : w_3 k0 = some (h0, .inr (0, [.ref t, .int r])) := gU_n ew_3 (gU_k h2 h1 (by first | (intro h9; cases h9; done) | simp)) h1
      have h_5 : w_3 k1 = some (t, .inl (tc 0, 7, .inl (upd f (x - 1).toNatClampNeg y))) := gU_s ew_3
      refine lv_iload_n hx hb dX0_putPitch_29 rfl (lv_at hl 0 rfl) ?_
      subst hQ
      exact g_iret hE hG hr (Nat.le_of_ble_eq_true rfl) (Nat.le_of_ble_eq_true rfl) dX0_putPitch_30 ⟨rfl, by unfold f_pput; rw [if_neg c_1, if_neg c_2, ew_3]⟩
def f_ag1 (r p : Int32) : Int32 := if p - p * r / 10000 < 5000 then 5000 else p - p * r / 10000
def f_ags (r : Int32) : Nat → Int32 → Int32
  | 0, p => p
  | k + 1, p => f_ags r k (f_ag1 r p)
theorem f_ags_s (r : Int32) : ∀ (k : Nat) (p : Int32), f_ags r (k + 1) p = f_ag1 r (f_ags r k p) := by
  intro k
  induction k with
  | zero => intro p; rfl
  | succ k ih => intro p; exact ih (f_ag1 r p)
theorem f_cp_idem {i : Nat} (f : Nat → Int32) (a b : Nat → Int32) : f_cp i (f_cp i f a) b = f_cp i f b := by
  funext j
  unfold f_cp
  by_cases hj : j < i <;> simp [hj]
theorem ag_step {i n : Nat} {r : Int32} {f g h : Nat → Int32} (hi : i < 7) (hn : i < n) : upd (f_cp i (f_cp n f g) h) ((nI i)).toNatClampNeg (if (f_cp i (f_cp n f g) h ((nI i)).toNatClampNeg) - (f_cp i (f_cp n f g) h ((nI i)).toNatClampNeg) * r / 10000 < 5000 then 5000 else (f_cp i (f_cp n f g) h ((nI i)).toNatClampNeg) - (f_cp i (f_cp n f g) h ((nI i)).toNatClampNeg) * r / 10000) = upd (f_cp i (f_cp n f g) h) i (f_ag1 r (g i)) := by
  rw [nI_clamp (by omega)]
  have e : f_cp i (f_cp n f g) h i = g i := by simp [f_cp, hn]
  rw [e]
  rfl
abbrev rm_X0_ageBy : Room := { frames := 2, cells := 0, slots := 0, locals := 86 }
theorem nm_X0_ageBy : gNm yX0_ageBy 1 := ⟨by decide +kernel, by decide +kernel, by decide +kernel⟩
set_option maxHeartbeats 4000000 in
set_option maxRecDepth 100000 in
theorem c_X0_ageBy (l : Launch) (hfl : l.stackTraces = false) (D : va_G) (tc : Nat → ClassId) (A : Nat → Prop) (w : gW) (k0 : Nat) (k1 : Nat) (h0 : Nat) (t : Nat) (r : Int32) (f : Nat → Int32) (y : Nat) (h1 : w k0 = some (h0, .inr (0, [.ref t, .int r]))) (h2 : w k1 = some (t, .inl (tc 0, 7, .inl f))) (hy : y ≤ 30) : gM l yX0_ageBy cX0_ageBy 5 none rm_X0_ageBy D tc A [.ref h0, .int (nI y)] w (fun v w' => v = none ∧ w' = gU w k1 (t, .inl (tc 0, 7, .inl (f_cp 7 f (fun j => f_ags r y (f j)))))) (fun _ => False) := by
  refine gM_of (by decide +kernel) (Nat.le_of_ble_eq_true rfl) ?_
  intro p e s m args below meth c ls Q hQ hE hG hr hnt hnm hl
  have hx := hE.1
  have hb := hE.2.1
  have hl : lv_has ls 5 [(0, .ref h0), (1, .int (nI y))] := hl
  refine lv_iconst (v := 0) hx hb dX0_ageBy_0 (by decide) ?_
  refine lv_istore_n (lv' := [(2, .int 0), (0, .ref h0), (1, .int (nI y))]) hx hb dX0_ageBy_1 rfl hl (by decide) rfl (fun ls hl => ?_)
  have hw0 : w = gU w k1 (t, .inl (tc 0, 7, .inl (f_cp 7 f (fun j => f_ags r (y - y) (f j))))) := by rw [Nat.sub_self, f_cp_cp]; exact (gU_self h2).symm; intro j _; rfl
  have hl : lv_has ls 5 [(2, .int (nI (y - y))), (0, .ref h0), (1, .int (nI y))] := by rw [Nat.sub_self]; exact hl
  have hout : ∀ (k : Nat) (w8 : gW) (H : Heap) (locs : List Loc) (ls : Array Slot), k ≤ y → w8 = gU w k1 (t, .inl (tc 0, 7, .inl (f_cp 7 f (fun j => f_ags r (y - k) (f j))))) → gS D A s.heap w8 H locs → lv_has ls 5 [(2, .int (nI (y - k))), (0, .ref h0), (1, .int (nI y))] → W p l e rm_X0_ageBy s m args below meth c H locs 0 0 Q (F0 m 2 ls []) := by
    intro k
    induction k with
    | zero =>
      intro w8 H locs ls hk8 hw8 hG hl
      have g2 : w8 k1 = some (t, .inl (tc 0, 7, .inl (f_cp 7 f (fun j => f_ags r (y - 0) (f j))))) := gU_s hw8
      have g1 : w8 k0 = some (h0, .inr (0, [.ref t, .int r])) := gU_n hw8 (gU_k h2 h1 (by intro h9; cases h9)) h1
      refine lv_iload_n hx hb dX0_ageBy_2 rfl (lv_at hl 0 rfl) ?_
      refine lv_iload_n hx hb dX0_ageBy_3 rfl (lv_at hl 2 rfl) ?_
      refine lv_icmp_ge (tgt := 68) hx hb dX0_ageBy_4 (by decide) (fun c9 => ?_) (fun c9 => (c9 (nI_le (by omega) (by omega))).elim)
      subst hQ
      exact g_vret hE hG hr (Nat.le_of_ble_eq_true rfl) (Nat.le_of_ble_eq_true rfl) dX0_ageBy_68 ⟨rfl, by rw [hw8]; rfl⟩
    | succ k ih =>
      intro w8 H locs ls hk8 hw8 hG hl
      have g2 : w8 k1 = some (t, .inl (tc 0, 7, .inl (f_cp 7 f (fun j => f_ags r (y - (k + 1)) (f j))))) := gU_s hw8
      have g1 : w8 k0 = some (h0, .inr (0, [.ref t, .int r])) := gU_n hw8 (gU_k h2 h1 (by intro h9; cases h9)) h1
      refine lv_iload_n hx hb dX0_ageBy_2 rfl (lv_at hl 0 rfl) ?_
      refine lv_iload_n hx hb dX0_ageBy_3 rfl (lv_at hl 2 rfl) ?_
      refine lv_icmp_ge (tgt := 68) hx hb dX0_ageBy_4 (by decide) (fun c9 => absurd c9 (nI_ge (by omega) (by omega))) (fun c9 => ?_)
      refine lv_iconst (v := 0) hx hb dX0_ageBy_7 (by decide) ?_
      refine lv_istore_n (lv' := [(3, .int 0), (2, .int (nI (y - (k + 1)))), (0, .ref h0), (1, .int (nI y))]) hx hb dX0_ageBy_8 rfl hl (by decide) rfl (fun ls hl => ?_)
      have hl : lv_has ls 5 [(3, .int (nI (7 - 7))), (2, .int (nI (y - (k + 1)))), (0, .ref h0), (1, .int (nI y))] := hl
      have hw_30 : w8 = gU w8 k1 (t, .inl (tc 0, 7, .inl (f_cp (7 - 7) (f_cp 7 f (fun j => f_ags r (y - (k + 1)) (f j))) (fun j => f_ag1 r (f_ags r (y - (k + 1)) (f j)))))) := by rw [Nat.sub_self, f_cp_0]; exact (gU_self g2).symm
      have hloop_5 : ∀ (k_1 : Nat) (w_2 : gW) (H : Heap) (locs : List Loc) (ls : Array Slot), k_1 ≤ 7 → w_2 = gU w8 k1 (t, .inl (tc 0, 7, .inl (f_cp (7 - k_1) (f_cp 7 f (fun j => f_ags r (y - (k + 1)) (f j))) (fun j => f_ag1 r (f_ags r (y - (k + 1)) (f j)))))) → gS D A s.heap w_2 H locs → lv_has ls 5 [(3, .int (nI (7 - k_1))), (2, .int (nI (y - (k + 1)))), (0, .ref h0), (1, .int (nI y))] → W p l e rm_X0_ageBy s m args below meth c H locs 0 0 Q (F0 m 9 ls []) := by
        intro k_1
        induction k_1 with
        | zero =>
          intro w_2 H locs ls hk_4 hw_3 hG hl
          have h_6 : w_2 k0 = some (h0, .inr (0, [.ref t, .int r])) := gU_n hw_3 (gU_k g2 g1 (by first | (intro h9; cases h9; done) | simp)) g1
          have h_7 : w_2 k1 = some (t, .inl (tc 0, 7, .inl (f_cp (7 - 0) (f_cp 7 f (fun j => f_ags r (y - (k + 1)) (f j))) (fun j => f_ag1 r (f_ags r (y - (k + 1)) (f j)))))) := gU_s hw_3
          refine lv_iload_n hx hb dX0_ageBy_9 rfl (lv_at hl 0 rfl) ?_
          have hw_3z : w_2 = gU w8 k1 (t, .inl (tc 0, 7, .inl (f_cp 7 (f_cp 7 f (fun j => f_ags r (y - (k + 1)) (f j))) (fun j => f_ag1 r (f_ags r (y - (k + 1)) (f j)))))) := hw_3
          have h_7z : w_2 k1 = some (t, .inl (tc 0, 7, .inl (f_cp 7 (f_cp 7 f (fun j => f_ags r (y - (k + 1)) (f j))) (fun j => f_ag1 r (f_ags r (y - (k + 1)) (f j)))))) := h_7
          refine lv_aload_n hx hb dX0_ageBy_10 rfl (lv_at hl 2 rfl) ?_
          refine g_get hE hG h_6 rfl inG0 0 (by decide) mw1_85 rfl dX0_ageBy_11 ?_
          refine g_alen (t0 := 0) (v := 7) hE hG h_7z rfl rfl dX0_ageBy_14 ?_
          refine lv_icmp_ge (tgt := 62) hx hb dX0_ageBy_15 (by decide) (fun c9 => ?_) (fun c9 => (c9 (nI_le (a := 7) (by omega) (by omega))).elim)
          refine lv_iinc (v := (nI (y - k))) (lv' := [(2, .int (nI (y - k))), (3, .int (nI (7 - 0))), (0, .ref h0), (1, .int (nI y))]) hx hb dX0_ageBy_62 hl (k := 1) rfl (by rw [show y - k = (y - (k + 1)) + 1 by omega]; exact nI_1 _) (by decide) rfl (fun ls hl => ?_)
          refine lv_goto (tgt := 2) hx hb dX0_ageBy_65 (by decide) ?_
          exact ih w_2 _ _ _ (by omega) (by rw [hw_3z, hw8, gU_gU, f_cp_idem, show y - k = (y - (k + 1)) + 1 by omega]; simp only [f_ags_s]) hG (lv_sub hl [0, 2, 3] rfl)
        | succ k_1 ihk_1 =>
          intro w_2 H locs ls hk_4 hw_3 hG hl
          have h_8 : w_2 k0 = some (h0, .inr (0, [.ref t, .int r])) := gU_n hw_3 (gU_k g2 g1 (by first | (intro h9; cases h9; done) | simp)) g1
          have h_9 : w_2 k1 = some (t, .inl (tc 0, 7, .inl (f_cp (7 - (k_1 + 1)) (f_cp 7 f (fun j => f_ags r (y - (k + 1)) (f j))) (fun j => f_ag1 r (f_ags r (y - (k + 1)) (f j)))))) := gU_s hw_3
          refine lv_iload_n hx hb dX0_ageBy_9 rfl (lv_at hl 0 rfl) ?_
          refine lv_aload_n hx hb dX0_ageBy_10 rfl (lv_at hl 2 rfl) ?_
          refine g_get hE hG h_8 rfl inG0 0 (by decide) mw1_85 rfl dX0_ageBy_11 ?_
          refine g_alen (t0 := 0) (v := 7) hE hG h_9 rfl rfl dX0_ageBy_14 ?_
          refine lv_icmp_ge (tgt := 62) hx hb dX0_ageBy_15 (by decide) (fun c9 => absurd c9 (nI_ge (b := 7) (by omega) (by omega))) (fun c9 => ?_)
          refine lv_aload_n hx hb dX0_ageBy_18 rfl (lv_at hl 2 rfl) ?_
          refine g_get hE hG h_8 rfl inG0 0 (by decide) mw1_85 rfl dX0_ageBy_19 ?_
          refine lv_iload_n hx hb dX0_ageBy_22 rfl (lv_at hl 0 rfl) ?_
          refine g_iald hE hG h_9 (vp_in_nI (by omega) (by decide)) dX0_ageBy_23 ?_
          refine lv_aload_n hx hb dX0_ageBy_24 rfl (lv_at hl 2 rfl) ?_
          refine g_get hE hG h_8 rfl inG0 1 (by decide) mw1_86 rfl dX0_ageBy_25 ?_
          refine lv_imul hx hb dX0_ageBy_28 ?_
          refine lv_sipush (v := 10000) hx hb dX0_ageBy_29 (by decide) ?_
          refine lv_idiv hx hb dX0_ageBy_32 (by decide) ?_
          refine lv_istore (lv' := [(4, .int ((((f_cp (7 - (k_1 + 1)) (f_cp 7 f (fun j => f_ags r (y - (k + 1)) (f j))) (fun j => f_ag1 r (f_ags r (y - (k + 1)) (f j)))) (nI (7 - (k_1 + 1))).toNatClampNeg) * r) / 10000)), (3, .int (nI (7 - (k_1 + 1)))), (2, .int (nI (y - (k + 1)))), (0, .ref h0), (1, .int (nI y))]) hx hb dX0_ageBy_33 hl (by decide) rfl (fun ls hl => ?_)
          refine lv_aload_n hx hb dX0_ageBy_35 rfl (lv_at hl 3 rfl) ?_
          refine g_get hE hG h_8 rfl inG0 0 (by decide) mw1_85 rfl dX0_ageBy_36 ?_
          refine lv_iload_n hx hb dX0_ageBy_39 rfl (lv_at hl 1 rfl) ?_
          refine lv_aload_n hx hb dX0_ageBy_40 rfl (lv_at hl 3 rfl) ?_
          refine g_get hE hG h_8 rfl inG0 0 (by decide) mw1_85 rfl dX0_ageBy_41 ?_
          refine lv_iload_n hx hb dX0_ageBy_44 rfl (lv_at hl 1 rfl) ?_
          refine g_iald hE hG h_9 (vp_in_nI (by omega) (by decide)) dX0_ageBy_45 ?_
          refine lv_iload hx hb dX0_ageBy_46 (lv_at hl 0 rfl) ?_
          refine lv_isub hx hb dX0_ageBy_48 ?_
          refine lv_sipush (v := 5000) hx hb dX0_ageBy_49 (by decide) ?_
          refine va_mmax hx hb (hE.2.2.1.trans hl.1.symm) hE.2.2.2.1 (hE.2.2.2.2.1 _ mw3_50) (hE.2.2.2.2.1 _ mw2_33) (hE.2.2.2.2.1 _ mw1_13) (hE.2.2.2.2.1 _ mw2_34) (Nat.le_of_ble_eq_true rfl) (Nat.le_of_ble_eq_true rfl) (Nat.le_of_ble_eq_true rfl) (Nat.le_of_ble_eq_true rfl) dX0_ageBy_52 ?_
          refine g_iast hE hG h_9 (vp_in_nI (by omega) (by decide)) dX0_ageBy_55 (fun H locs w_10 ew_10 hG => ?_)
          have h_11 : w_10 k0 = some (h0, .inr (0, [.ref t, .int r])) := gU_n ew_10 (gU_k h_9 h_8 (by first | (intro h9; cases h9; done) | simp)) h_8
          have h_12 : w_10 k1 = some (t, .inl (tc 0, 7, .inl (upd (f_cp (7 - (k_1 + 1)) (f_cp 7 f (fun j => f_ags r (y - (k + 1)) (f j))) (fun j => f_ag1 r (f_ags r (y - (k + 1)) (f j)))) (nI (7 - (k_1 + 1))).toNatClampNeg (if (((f_cp (7 - (k_1 + 1)) (f_cp 7 f (fun j => f_ags r (y - (k + 1)) (f j))) (fun j => f_ag1 r (f_ags r (y - (k + 1)) (f j)))) (nI (7 - (k_1 + 1))).toNatClampNeg) - ((((f_cp (7 - (k_1 + 1)) (f_cp 7 f (fun j => f_ags r (y - (k + 1)) (f j))) (fun j => f_ag1 r (f_ags r (y - (k + 1)) (f j)))) (nI (7 - (k_1 + 1))).toNatClampNeg) * r) / 10000)) < 5000 then 5000 else (((f_cp (7 - (k_1 + 1)) (f_cp 7 f (fun j => f_ags r (y - (k + 1)) (f j))) (fun j => f_ag1 r (f_ags r (y - (k + 1)) (f j)))) (nI (7 - (k_1 + 1))).toNatClampNeg) - ((((f_cp (7 - (k_1 + 1)) (f_cp 7 f (fun j => f_ags r (y - (k + 1)) (f j))) (fun j => f_ag1 r (f_ags r (y - (k + 1)) (f j)))) (nI (7 - (k_1 + 1))).toNatClampNeg) * r) / 10000)))))) := gU_s ew_10
          refine lv_iinc (v := (nI (7 - k_1))) (lv' := [(3, .int (nI (7 - k_1))), (4, .int ((((f_cp (7 - (k_1 + 1)) (f_cp 7 f (fun j => f_ags r (y - (k + 1)) (f j))) (fun j => f_ag1 r (f_ags r (y - (k + 1)) (f j)))) (nI (7 - (k_1 + 1))).toNatClampNeg) * r) / 10000)), (2, .int (nI (y - (k + 1)))), (0, .ref h0), (1, .int (nI y))]) hx hb dX0_ageBy_56 hl (k := 1) rfl (by rw [show 7 - k_1 = (7 - (k_1 + 1)) + 1 by omega]; exact nI_1 _) (by decide) rfl (fun ls hl => ?_)
          refine lv_goto (tgt := 9) hx hb dX0_ageBy_59 (by decide) ?_
          exact ihk_1 w_10 _ _ _ (by omega) (by rw [ew_10, hw_3, gU_gU, ag_step (by omega) (by omega), f_cp_s (7 - (k_1 + 1)) _ (fun j => f_ag1 r (f_ags r (y - (k + 1)) (f j))), show 7 - k_1 = (7 - (k_1 + 1)) + 1 by omega]) hG (lv_sub hl [0, 2, 3, 4] rfl)
      exact hloop_5 7 w8 _ _ _ (Nat.le_refl _) hw_30 hG (lv_sub hl [0, 1, 2, 3] rfl)
  exact hout y w _ _ _ (Nat.le_refl _) hw0 hG (lv_sub hl [0, 1, 2] rfl)
def f_tun (q : Int32) (o : Int64) (p : Int32) : Int32 := (if (if 200000 < p.toInt64 * q.toInt64 / o then 200000 else p.toInt64 * q.toInt64 / o) < 5000 then 5000 else (if 200000 < p.toInt64 * q.toInt64 / o then 200000 else p.toInt64 * q.toInt64 / o)).toInt32
theorem tun_step {i : Nat} {y : Int32} {o : Int64} {f h : Nat → Int32} (hi : i < 7) : upd (f_cp i f h) ((nI i)).toNatClampNeg (if (if 200000 < (f_cp i f h ((nI i)).toNatClampNeg).toInt64 * y.toInt64 / o then 200000 else (f_cp i f h ((nI i)).toNatClampNeg).toInt64 * y.toInt64 / o) < 5000 then 5000 else (if 200000 < (f_cp i f h ((nI i)).toNatClampNeg).toInt64 * y.toInt64 / o then 200000 else (f_cp i f h ((nI i)).toNatClampNeg).toInt64 * y.toInt64 / o)).toInt32 = upd (f_cp i f h) i (f_tun y o (f i)) := by
  rw [nI_clamp (by omega)]
  have e : f_cp i f h i = f i := by simp [f_cp]
  rw [e]
  rfl
abbrev rm_X0_tuneTo : Room := { frames := 2, cells := 0, slots := 0, locals := 86 }
theorem nm_X0_tuneTo : gNm yX0_tuneTo 1 := ⟨by decide +kernel, by decide +kernel, by decide +kernel⟩
set_option maxHeartbeats 4000000 in
set_option maxRecDepth 100000 in
theorem c_X0_tuneTo (l : Launch) (hfl : l.stackTraces = false) (D : va_G) (tc : Nat → ClassId) (A : Nat → Prop) (w : gW) (k0 : Nat) (k1 : Nat) (h0 : Nat) (t : Nat) (r : Int32) (f : Nat → Int32) (y : Int32) (h1 : w k0 = some (h0, .inr (0, [.ref t, .int r]))) (h2 : w k1 = some (t, .inl (tc 0, 7, .inl f))) (hp : ¬ lg_cmp (f_pit f 1).toInt64 0 ≤ 0) (hz : ¬ (f_pit f 1).toInt64 = 0) : gM l yX0_tuneTo cX0_tuneTo 7 none rm_X0_tuneTo D tc A [.ref h0, .int y] w (fun v w' => v = none ∧ w' = gU w k1 (t, .inl (tc 0, 7, .inl (f_cp 7 f (fun j => f_tun y (f_pit f 1).toInt64 (f j)))))) (fun _ => False) := by
  refine gM_of (by decide +kernel) (Nat.le_of_ble_eq_true rfl) ?_
  intro p e s m args below meth c ls Q hQ hE hG hr hnt hnm hl
  have hx := hE.1
  have hb := hE.2.1
  have hl : lv_has ls 7 [(0, .ref h0), (1, .int y)] := hl
  refine lv_aload_n hx hb dX0_tuneTo_0 rfl (lv_at hl 0 rfl) ?_
  refine lv_iconst (v := 1) hx hb dX0_tuneTo_1 (by decide) ?_
  refine g_callV (rest := []) (As := [.int 1]) hE hG hl.1 (c_X0_pitchOf l hfl D tc A w k0 k1 h0 t r f 1 h1 h2 ) h1 rfl mw3_25 mw3_26 mw3_27 mw1_3 mw3_28 rfl nm_X0_pitchOf ⟨⟨Nat.le_of_ble_eq_true rfl, Nat.le_of_ble_eq_true rfl⟩, Nat.le_of_ble_eq_true rfl, Nat.le_of_ble_eq_true rfl⟩ rfl rfl (Nat.le_of_ble_eq_true rfl) dX0_tuneTo_2 (g_no) ?_
  intro v9 w9 H locs h9 hG
  obtain ⟨e9, f9⟩ := h9
  rw [f9] at hG; rw [e9]; clear e9 f9
  show W p l e _ s m args below meth c H locs _ _ _ (F0 m 5 ls [.int (f_pit f 1)])
  refine lv_i2l (v := (f_pit f 1).toInt64) hx hb dX0_tuneTo_5 rfl ?_
  refine lv_lstore_n (lv' := [(2, .long ((f_pit f 1).toInt64)), (0, .ref h0), (1, .int y)]) hx hb dX0_tuneTo_6 rfl hl (by decide) rfl (fun ls hl => ?_)
  refine lv_lload_n hx hb dX0_tuneTo_7 rfl (lv_at hl 0 rfl) ?_
  refine lv_lconst (v := 0) hx hb dX0_tuneTo_8 (by decide) ?_
  refine W.lcmp hx hb dX0_tuneTo_9 ?_
  refine lv_if_le (tgt := 69) hx hb dX0_tuneTo_10 (by decide) (fun c9 => absurd c9 hp) (fun c9 => ?_)
  refine lv_iconst (v := 0) hx hb dX0_tuneTo_13 (by decide) ?_
  refine lv_istore (lv' := [(4, .int 0), (2, .long ((f_pit f 1).toInt64)), (0, .ref h0), (1, .int y)]) hx hb dX0_tuneTo_14 hl (by decide) rfl (fun ls hl => ?_)
  have hl : lv_has ls 7 [(4, .int (nI (7 - 7))), (2, .long ((f_pit f 1).toInt64)), (0, .ref h0), (1, .int y)] := hl
  have hw_30 : w = gU w k1 (t, .inl (tc 0, 7, .inl (f_cp (7 - 7) f (fun j => f_tun y (f_pit f 1).toInt64 (f j))))) := by rw [Nat.sub_self, f_cp_0]; exact (gU_self h2).symm
  have hloop_5 : ∀ (k_1 : Nat) (w_2 : gW) (H : Heap) (locs : List Loc) (ls : Array Slot), k_1 ≤ 7 → w_2 = gU w k1 (t, .inl (tc 0, 7, .inl (f_cp (7 - k_1) f (fun j => f_tun y (f_pit f 1).toInt64 (f j))))) → gS D A s.heap w_2 H locs → lv_has ls 7 [(4, .int (nI (7 - k_1))), (2, .long ((f_pit f 1).toInt64)), (0, .ref h0), (1, .int y)] → W p l e rm_X0_tuneTo s m args below meth c H locs (0 + rm_X0_pitchOf.cells) (0 + rm_X0_pitchOf.slots) Q (F0 m 16 ls []) := by
    intro k_1
    induction k_1 with
    | zero =>
      intro w_2 H locs ls hk_4 hw_3 hG hl
      have h_6 : w_2 k0 = some (h0, .inr (0, [.ref t, .int r])) := gU_n hw_3 (gU_k h2 h1 (by first | (intro h9; cases h9; done) | simp)) h1
      have h_7 : w_2 k1 = some (t, .inl (tc 0, 7, .inl (f_cp (7 - 0) f (fun j => f_tun y (f_pit f 1).toInt64 (f j))))) := gU_s hw_3
      refine lv_iload hx hb dX0_tuneTo_16 (lv_at hl 0 rfl) ?_
      refine lv_aload_n hx hb dX0_tuneTo_18 rfl (lv_at hl 2 rfl) ?_
      refine g_get hE hG h_6 rfl inG0 0 (by decide) mw1_85 rfl dX0_tuneTo_19 ?_
      refine g_alen (t0 := 0) (v := 7) hE hG h_7 rfl rfl dX0_tuneTo_22 ?_
      refine lv_icmp_ge (tgt := 69) hx hb dX0_tuneTo_23 (by decide) (fun c9 => ?_) (fun c9 => (c9 (nI_le (a := 7) (by omega) (by omega))).elim)
      subst hQ
      exact g_vret hE hG hr (Nat.le_of_ble_eq_true rfl) (Nat.le_of_ble_eq_true rfl) dX0_tuneTo_69 ⟨rfl, hw_3⟩
    | succ k_1 ihk_1 =>
      intro w_2 H locs ls hk_4 hw_3 hG hl
      have h_8 : w_2 k0 = some (h0, .inr (0, [.ref t, .int r])) := gU_n hw_3 (gU_k h2 h1 (by first | (intro h9; cases h9; done) | simp)) h1
      have h_9 : w_2 k1 = some (t, .inl (tc 0, 7, .inl (f_cp (7 - (k_1 + 1)) f (fun j => f_tun y (f_pit f 1).toInt64 (f j))))) := gU_s hw_3
      refine lv_iload hx hb dX0_tuneTo_16 (lv_at hl 0 rfl) ?_
      refine lv_aload_n hx hb dX0_tuneTo_18 rfl (lv_at hl 2 rfl) ?_
      refine g_get hE hG h_8 rfl inG0 0 (by decide) mw1_85 rfl dX0_tuneTo_19 ?_
      refine g_alen (t0 := 0) (v := 7) hE hG h_9 rfl rfl dX0_tuneTo_22 ?_
      refine lv_icmp_ge (tgt := 69) hx hb dX0_tuneTo_23 (by decide) (fun c9 => absurd c9 (nI_ge (b := 7) (by omega) (by omega))) (fun c9 => ?_)
      refine lv_aload_n hx hb dX0_tuneTo_26 rfl (lv_at hl 2 rfl) ?_
      refine g_get hE hG h_8 rfl inG0 0 (by decide) mw1_85 rfl dX0_tuneTo_27 ?_
      refine lv_iload hx hb dX0_tuneTo_30 (lv_at hl 0 rfl) ?_
      refine g_iald hE hG h_9 (vp_in_nI (by omega) (by decide)) dX0_tuneTo_32 ?_
      refine lv_i2l (v := ((f_cp (7 - (k_1 + 1)) f (fun j => f_tun y (f_pit f 1).toInt64 (f j))) (nI (7 - (k_1 + 1))).toNatClampNeg).toInt64) hx hb dX0_tuneTo_33 rfl ?_
      refine lv_iload_n hx hb dX0_tuneTo_34 rfl (lv_at hl 3 rfl) ?_
      refine lv_i2l (v := y.toInt64) hx hb dX0_tuneTo_35 rfl ?_
      refine lv_lmul hx hb dX0_tuneTo_36 ?_
      refine lv_lload_n hx hb dX0_tuneTo_37 rfl (lv_at hl 1 rfl) ?_
      refine lv_ldiv hx hb dX0_tuneTo_38 hz ?_
      refine lv_lstore (lv' := [(5, .long (((((f_cp (7 - (k_1 + 1)) f (fun j => f_tun y (f_pit f 1).toInt64 (f j))) (nI (7 - (k_1 + 1))).toNatClampNeg).toInt64) * y.toInt64) / ((f_pit f 1).toInt64))), (4, .int (nI (7 - (k_1 + 1)))), (2, .long ((f_pit f 1).toInt64)), (0, .ref h0), (1, .int y)]) hx hb dX0_tuneTo_39 hl (by decide) rfl (fun ls hl => ?_)
      refine lv_aload_n hx hb dX0_tuneTo_41 rfl (lv_at hl 3 rfl) ?_
      refine g_get hE hG h_8 rfl inG0 0 (by decide) mw1_85 rfl dX0_tuneTo_42 ?_
      refine lv_iload hx hb dX0_tuneTo_45 (lv_at hl 1 rfl) ?_
      refine lv_ldc2 (v := 5000) hx hb hE.2.2.2.1 (hE.2.2.2.2.1 _ mw3_64) dX0_tuneTo_47 ?_
      refine lv_lload hx hb dX0_tuneTo_50 (lv_at hl 0 rfl) ?_
      refine lv_ldc2 (v := 200000) hx hb hE.2.2.2.1 (hE.2.2.2.2.1 _ mw3_65) dX0_tuneTo_52 ?_
      refine va_mmin_long hx hb (hE.2.2.1.trans hl.1.symm) hE.2.2.2.1 (hE.2.2.2.2.1 _ mw3_66) (hE.2.2.2.2.1 _ mw3_67) (hE.2.2.2.2.1 _ mw1_13) (hE.2.2.2.2.1 _ mw3_68) (Nat.le_of_ble_eq_true rfl) (Nat.le_of_ble_eq_true rfl) (Nat.le_of_ble_eq_true rfl) (Nat.le_of_ble_eq_true rfl) dX0_tuneTo_55 ?_
      refine va_mmax_long hx hb (hE.2.2.1.trans hl.1.symm) hE.2.2.2.1 (hE.2.2.2.2.1 _ mw3_69) (hE.2.2.2.2.1 _ mw3_70) (hE.2.2.2.2.1 _ mw1_13) (hE.2.2.2.2.1 _ mw3_71) (Nat.le_of_ble_eq_true rfl) (Nat.le_of_ble_eq_true rfl) (Nat.le_of_ble_eq_true rfl) (Nat.le_of_ble_eq_true rfl) dX0_tuneTo_58 ?_
      refine lv_l2i (v := (if (if 200000 < (((((f_cp (7 - (k_1 + 1)) f (fun j => f_tun y (f_pit f 1).toInt64 (f j))) (nI (7 - (k_1 + 1))).toNatClampNeg).toInt64) * y.toInt64) / ((f_pit f 1).toInt64)) then 200000 else (((((f_cp (7 - (k_1 + 1)) f (fun j => f_tun y (f_pit f 1).toInt64 (f j))) (nI (7 - (k_1 + 1))).toNatClampNeg).toInt64) * y.toInt64) / ((f_pit f 1).toInt64))) < 5000 then 5000 else (if 200000 < (((((f_cp (7 - (k_1 + 1)) f (fun j => f_tun y (f_pit f 1).toInt64 (f j))) (nI (7 - (k_1 + 1))).toNatClampNeg).toInt64) * y.toInt64) / ((f_pit f 1).toInt64)) then 200000 else (((((f_cp (7 - (k_1 + 1)) f (fun j => f_tun y (f_pit f 1).toInt64 (f j))) (nI (7 - (k_1 + 1))).toNatClampNeg).toInt64) * y.toInt64) / ((f_pit f 1).toInt64)))).toInt32) hx hb dX0_tuneTo_61 rfl ?_
      refine g_iast hE hG h_9 (vp_in_nI (by omega) (by decide)) dX0_tuneTo_62 (fun H locs w_10 ew_10 hG => ?_)
      have h_11 : w_10 k0 = some (h0, .inr (0, [.ref t, .int r])) := gU_n ew_10 (gU_k h_9 h_8 (by first | (intro h9; cases h9; done) | simp)) h_8
      have h_12 : w_10 k1 = some (t, .inl (tc 0, 7, .inl (upd (f_cp (7 - (k_1 + 1)) f (fun j => f_tun y (f_pit f 1).toInt64 (f j))) (nI (7 - (k_1 + 1))).toNatClampNeg ((if (if 200000 < (((((f_cp (7 - (k_1 + 1)) f (fun j => f_tun y (f_pit f 1).toInt64 (f j))) (nI (7 - (k_1 + 1))).toNatClampNeg).toInt64) * y.toInt64) / ((f_pit f 1).toInt64)) then 200000 else (((((f_cp (7 - (k_1 + 1)) f (fun j => f_tun y (f_pit f 1).toInt64 (f j))) (nI (7 - (k_1 + 1))).toNatClampNeg).toInt64) * y.toInt64) / ((f_pit f 1).toInt64))) < 5000 then 5000 else (if 200000 < (((((f_cp (7 - (k_1 + 1)) f (fun j => f_tun y (f_pit f 1).toInt64 (f j))) (nI (7 - (k_1 + 1))).toNatClampNeg).toInt64) * y.toInt64) / ((f_pit f 1).toInt64)) then 200000 else (((((f_cp (7 - (k_1 + 1)) f (fun j => f_tun y (f_pit f 1).toInt64 (f j))) (nI (7 - (k_1 + 1))).toNatClampNeg).toInt64) * y.toInt64) / ((f_pit f 1).toInt64)))).toInt32)))) := gU_s ew_10
      refine lv_iinc (v := (nI (7 - k_1))) (lv' := [(4, .int (nI (7 - k_1))), (5, .long (((((f_cp (7 - (k_1 + 1)) f (fun j => f_tun y (f_pit f 1).toInt64 (f j))) (nI (7 - (k_1 + 1))).toNatClampNeg).toInt64) * y.toInt64) / ((f_pit f 1).toInt64))), (2, .long ((f_pit f 1).toInt64)), (0, .ref h0), (1, .int y)]) hx hb dX0_tuneTo_63 hl (k := 1) rfl (by rw [show 7 - k_1 = (7 - (k_1 + 1)) + 1 by omega]; exact nI_1 _) (by decide) rfl (fun ls hl => ?_)
      refine lv_goto (tgt := 16) hx hb dX0_tuneTo_66 (by decide) ?_
      exact ihk_1 w_10 _ _ _ (by omega) (by rw [ew_10, hw_3, gU_gU, tun_step (by omega), f_cp_s (7 - (k_1 + 1)) _ (fun j => f_tun y (f_pit f 1).toInt64 (f j)), show 7 - k_1 = (7 - (k_1 + 1)) + 1 by omega]) hG (lv_sub hl [0, 2, 3, 4] rfl)
  exact hloop_5 7 w _ _ _ (Nat.le_refl _) hw_30 hG (lv_sub hl [0, 1, 2, 3] rfl)
abbrev rm_X0_init : Room := { frames := 2, cells := 1, slots := 7, locals := 86 }
theorem nm_X0_init : gNm yX0_init 0 := ⟨by decide +kernel, by decide +kernel, by decide +kernel⟩
set_option maxHeartbeats 4000000 in
set_option maxRecDepth 100000 in
theorem c_X0_init (l : Launch) (hfl : l.stackTraces = false) (D : va_G) (tc : Nat → ClassId) (A : Nat → Prop) (w : gW) (k0 : Nat) (k1 : Nat) (h0 : Nat) (h1 : w k0 = some (h0, .inr (0, [.null, .int 0]))) (hf : w k1 = none) : gM l yX0_init cX0_init 2 none rm_X0_init D tc A [.ref h0] w (fun v w' => v = none ∧ ∃ t : Nat, w' = gU (gU w k1 (t, .inl (tc 0, 7, .inl (f_cp 7 (fun _ => 0) (fun _ => 44000))))) k0 (h0, .inr (0, [.ref t, .int 0]))) (fun _ => False) := by
  refine gM_of (by decide +kernel) (Nat.le_of_ble_eq_true rfl) ?_
  intro p e s m args below meth c ls Q hQ hE hG hr hnt hnm hl
  have hx := hE.1
  have hb := hE.2.1
  have hl : lv_has ls 2 [(0, .ref h0)] := hl
  refine lv_aload_n hx hb dX0_init_0 rfl (lv_at hl 0 rfl) ?_
  refine W.objInit hx hb hE.2.2.2.1 (hE.2.2.2.2.1 _ mw1_83) (hE.2.2.2.2.1 _ mw1_22) (hE.2.2.2.2.1 _ mw1_23) rfl (by rw [hE.2.2.1]; exact hl.1) rfl dX0_init_1 (Nat.le_of_ble_eq_true rfl) (Nat.le_of_ble_eq_true rfl) ?_
  refine W.eq (g2 := F0 m 4 ls []) rfl ?_
  refine lv_aload_n hx hb dX0_init_4 rfl (lv_at hl 0 rfl) ?_
  refine lv_bipush (v := 7) hx hb dX0_init_5 (by decide) ?_
  refine g_newi (atype := .int) (t0 := 0) (ty := .int) (a0 := (7, .inl (fun _ => 0))) (N' := 7) hE hG mw1_73 rfl rfl (fun _ _ h => h) (fun _ => by first | rfl | simp [vp_cell_i, vp_cell_l, defaultValue]) (by decide) (by decide) (by decide) (Nat.le_of_ble_eq_true rfl) (Nat.le_of_ble_eq_true rfl) k1 hf dX0_init_7 (fun q_1 H w_2 ew_2 hG => ?_)
  have h_3 : w_2 k0 = some (h0, .inr (0, [.null, .int 0])) := gU_n ew_2 (gU_f hf h1) h1
  have h_4 : w_2 k1 = some (q_1, .inl (tc 0, 7, .inl (fun _ => 0))) := gU_s ew_2
  refine g_putF hE hG h_3 rfl inG0 tyX0 tyX0_ok nmX0 0 (by decide) mw1_85 rfl ((hnm _).mpr rfl) rfl rfl rfl (Nat.le_of_ble_eq_true rfl) dX0_init_9 (fun H locs w_5 ew_5 hG => ?_)
  have h_6 : w_5 k1 = some (q_1, .inl (tc 0, 7, .inl (fun _ => 0))) := gU_n ew_5 (gU_k h_3 h_4 (by first | (intro h9; cases h9; done) | simp)) h_4
  have h_7 : w_5 k0 = some (h0, .inr (0, [.ref q_1, .int 0])) := gU_s ew_5
  refine lv_aload_n hx hb dX0_init_12 rfl (lv_at hl 0 rfl) ?_
  refine lv_iconst (v := 0) hx hb dX0_init_13 (by decide) ?_
  refine g_put hE hG h_7 rfl inG0 tyX0 tyX0_ok nmX0 1 (by decide) mw1_86 rfl rfl rfl (Nat.le_of_ble_eq_true rfl) dX0_init_14 (fun H locs w_8 ew_8 hG => ?_)
  have h_9 : w_8 k1 = some (q_1, .inl (tc 0, 7, .inl (fun _ => 0))) := gU_n ew_8 (gU_k h_7 h_6 (by first | (intro h9; cases h9; done) | simp)) h_6
  have h_10 : w_8 k0 = some (h0, .inr (0, [.ref q_1, .int 0])) := gU_s ew_8
  refine lv_iconst (v := 0) hx hb dX0_init_17 (by decide) ?_
  refine lv_istore_n (lv' := [(1, .int 0), (0, .ref h0)]) hx hb dX0_init_18 rfl hl (by decide) rfl (fun ls hl => ?_)
  have hl : lv_has ls 2 [(1, .int (nI (7 - 7))), (0, .ref h0)] := hl
  have hw_130 : w_8 = gU w_8 k1 (q_1, .inl (tc 0, 7, .inl (f_cp (7 - 7) (fun _ => 0) (fun _ => 44000)))) := by rw [Nat.sub_self, f_cp_0]; exact (gU_self h_9).symm
  have hloop_15 : ∀ (k_11 : Nat) (w_12 : gW) (H : Heap) (locs : List Loc) (ls : Array Slot), k_11 ≤ 7 → w_12 = gU w_8 k1 (q_1, .inl (tc 0, 7, .inl (f_cp (7 - k_11) (fun _ => 0) (fun _ => 44000)))) → gS D A s.heap w_12 H locs → lv_has ls 2 [(1, .int (nI (7 - k_11))), (0, .ref h0)] → W p l e rm_X0_init s m args below meth c H locs (0 + 1) (0 + 7) Q (F0 m 19 ls []) := by
    intro k_11
    induction k_11 with
    | zero =>
      intro w_12 H locs ls hk_14 hw_13 hG hl
      have h_16 : w_12 k0 = some (h0, .inr (0, [.ref q_1, .int 0])) := gU_n hw_13 (gU_k h_9 h_10 (by first | (intro h9; cases h9; done) | simp)) h_10
      have h_17 : w_12 k1 = some (q_1, .inl (tc 0, 7, .inl (f_cp (7 - 0) (fun _ => 0) (fun _ => 44000)))) := gU_s hw_13
      refine lv_iload_n hx hb dX0_init_19 rfl (lv_at hl 0 rfl) ?_
      refine lv_aload_n hx hb dX0_init_20 rfl (lv_at hl 1 rfl) ?_
      refine g_get hE hG h_16 rfl inG0 0 (by decide) mw1_85 rfl dX0_init_21 ?_
      refine g_alen (t0 := 0) (v := 7) hE hG h_17 rfl rfl dX0_init_24 ?_
      refine lv_icmp_ge (tgt := 42) hx hb dX0_init_25 (by decide) (fun c9 => ?_) (fun c9 => (c9 (nI_le (a := 7) (by omega) (by omega))).elim)
      subst hQ
      exact g_vret hE hG hr (Nat.le_of_ble_eq_true rfl) (Nat.le_of_ble_eq_true rfl) dX0_init_42 ⟨rfl, q_1, by rw [hw_13, ew_8, ew_5, ew_2, gU_gU, gU_sw (Ne.symm (gU_f hf h1))] <;> rfl⟩
    | succ k_11 ihk_11 =>
      intro w_12 H locs ls hk_14 hw_13 hG hl
      have h_18 : w_12 k0 = some (h0, .inr (0, [.ref q_1, .int 0])) := gU_n hw_13 (gU_k h_9 h_10 (by first | (intro h9; cases h9; done) | simp)) h_10
      have h_19 : w_12 k1 = some (q_1, .inl (tc 0, 7, .inl (f_cp (7 - (k_11 + 1)) (fun _ => 0) (fun _ => 44000)))) := gU_s hw_13
      refine lv_iload_n hx hb dX0_init_19 rfl (lv_at hl 0 rfl) ?_
      refine lv_aload_n hx hb dX0_init_20 rfl (lv_at hl 1 rfl) ?_
      refine g_get hE hG h_18 rfl inG0 0 (by decide) mw1_85 rfl dX0_init_21 ?_
      refine g_alen (t0 := 0) (v := 7) hE hG h_19 rfl rfl dX0_init_24 ?_
      refine lv_icmp_ge (tgt := 42) hx hb dX0_init_25 (by decide) (fun c9 => absurd c9 (nI_ge (b := 7) (by omega) (by omega))) (fun c9 => ?_)
      refine lv_aload_n hx hb dX0_init_28 rfl (lv_at hl 1 rfl) ?_
      refine g_get hE hG h_18 rfl inG0 0 (by decide) mw1_85 rfl dX0_init_29 ?_
      refine lv_iload_n hx hb dX0_init_32 rfl (lv_at hl 0 rfl) ?_
      refine lv_ldc (v := 44000) hx hb hE.2.2.2.1 (hE.2.2.2.2.1 _ mw1_84) dX0_init_33 ?_
      refine g_iast hE hG h_19 (vp_in_nI (by omega) (by decide)) dX0_init_35 (fun H locs w_20 ew_20 hG => ?_)
      have h_21 : w_20 k0 = some (h0, .inr (0, [.ref q_1, .int 0])) := gU_n ew_20 (gU_k h_19 h_18 (by first | (intro h9; cases h9; done) | simp)) h_18
      have h_22 : w_20 k1 = some (q_1, .inl (tc 0, 7, .inl (upd (f_cp (7 - (k_11 + 1)) (fun _ => 0) (fun _ => 44000)) (nI (7 - (k_11 + 1))).toNatClampNeg 44000))) := gU_s ew_20
      refine lv_iinc (v := (nI (7 - k_11))) (lv' := [(1, .int (nI (7 - k_11))), (0, .ref h0)]) hx hb dX0_init_36 hl (k := 0) rfl (by rw [show 7 - k_11 = (7 - (k_11 + 1)) + 1 by omega]; exact nI_1 _) (by decide) rfl (fun ls hl => ?_)
      refine lv_goto (tgt := 19) hx hb dX0_init_39 (by decide) ?_
      exact ihk_11 w_20 _ _ _ (by omega) (by rw [ew_20, hw_13, gU_gU, nI_clamp (by omega), f_cp_s (7 - (k_11 + 1)) _ (fun _ => 44000), show 7 - k_11 = (7 - (k_11 + 1)) + 1 by omega]) hG (lv_sub hl [0, 1] rfl)
  exact hloop_15 7 w_8 _ _ _ (Nat.le_refl _) hw_130 hG (lv_sub hl [0, 1] rfl)
end
section
/-! Melody(), Piece, Player -/
abbrev rm_X1_init : Room := { frames := 2, cells := 1, slots := 64, locals := 86 }
theorem nm_X1_init : gNm yX1_init 1 := ⟨by decide +kernel, by decide +kernel, by decide +kernel⟩
set_option maxHeartbeats 4000000 in
set_option maxRecDepth 100000 in
theorem c_X1_init (l : Launch) (hfl : l.stackTraces = false) (D : va_G) (tc : Nat → ClassId) (A : Nat → Prop) (w : gW) (k0 : Nat) (k1 : Nat) (h0 : Nat) (n : Nat) (h1 : w k0 = some (h0, .inr (1, [.null]))) (hf : w k1 = none) (hn : n ≤ 64) : gM l yX1_init cX1_init 2 none rm_X1_init D tc A [.ref h0, .int (nI n)] w (fun v w' => v = none ∧ ∃ t : Nat, w' = gU (gU w k1 (t, .inl (tc 0, n, .inl (fun _ => 0)))) k0 (h0, .inr (1, [.ref t]))) (fun _ => False) := by
  refine gM_of (by decide +kernel) (Nat.le_of_ble_eq_true rfl) ?_
  intro p e s m args below meth c ls Q hQ hE hG hr hnt hnm hl
  have hx := hE.1
  have hb := hE.2.1
  have hl : lv_has ls 2 [(0, .ref h0), (1, .int (nI n))] := hl
  refine lv_aload_n hx hb dX1_init_0 rfl (lv_at hl 0 rfl) ?_
  refine W.objInit hx hb hE.2.2.2.1 (hE.2.2.2.2.1 _ mw2_31) (hE.2.2.2.2.1 _ mw1_22) (hE.2.2.2.2.1 _ mw1_23) rfl (by rw [hE.2.2.1]; exact hl.1) rfl dX1_init_1 (Nat.le_of_ble_eq_true rfl) (Nat.le_of_ble_eq_true rfl) ?_
  refine W.eq (g2 := F0 m 4 ls []) rfl ?_
  refine lv_aload_n hx hb dX1_init_4 rfl (lv_at hl 0 rfl) ?_
  refine lv_iload_n hx hb dX1_init_5 rfl (lv_at hl 1 rfl) ?_
  refine lv_iconst (v := 0) hx hb dX1_init_6 (by decide) ?_
  refine va_mmax hx hb (hE.2.2.1.trans hl.1.symm) hE.2.2.2.1 (hE.2.2.2.2.1 _ mw2_32) (hE.2.2.2.2.1 _ mw2_33) (hE.2.2.2.2.1 _ mw1_13) (hE.2.2.2.2.1 _ mw2_34) (Nat.le_of_ble_eq_true rfl) (Nat.le_of_ble_eq_true rfl) (Nat.le_of_ble_eq_true rfl) (Nat.le_of_ble_eq_true rfl) dX1_init_7 ?_
  rw [if_neg (nI_pos (by omega))]
  refine g_newi (atype := .int) (t0 := 0) (ty := .int) (a0 := (n, .inl (fun _ => 0))) (N' := n) hE hG mw1_73 rfl rfl (fun _ _ h => h) (fun _ => by first | rfl | simp [vp_cell_i, vp_cell_l, defaultValue]) (nI_pos (by omega)) (nI_clamp (by omega)) (by show n * 4 ≤ _; omega) (Nat.le_of_ble_eq_true rfl) (by show 0 + n ≤ 64; omega) k1 hf dX1_init_10 (fun q_1 H w_2 ew_2 hG => ?_)
  have h_3 : w_2 k0 = some (h0, .inr (1, [.null])) := gU_n ew_2 (gU_f hf h1) h1
  have h_4 : w_2 k1 = some (q_1, .inl (tc 0, n, .inl (fun _ => 0))) := gU_s ew_2
  refine W.widen (k := 1) (n := 64) (by decide) (by omega) ?_
  refine g_putF hE hG h_3 rfl inG1 tyX1 tyX1_ok nmX1 0 (by decide) mw2_35 rfl ((hnm _).mpr rfl) rfl rfl rfl (Nat.le_of_ble_eq_true rfl) dX1_init_12 (fun H locs w_5 ew_5 hG => ?_)
  have h_6 : w_5 k1 = some (q_1, .inl (tc 0, n, .inl (fun _ => 0))) := gU_n ew_5 (gU_k h_3 h_4 (by first | (intro h9; cases h9; done) | simp)) h_4
  have h_7 : w_5 k0 = some (h0, .inr (1, [.ref q_1])) := gU_s ew_5
  subst hQ
  exact g_vret hE hG hr (Nat.le_of_ble_eq_true rfl) (Nat.le_of_ble_eq_true rfl) dX1_init_15 ⟨rfl, q_1, by rw [ew_5, ew_2] <;> rfl⟩
theorem pc_w {w : gW} {k0 k1 k2 : Nat} {x0 x1 x2 y0 y1 : Nat × va_E} (h12 : k1 ≠ k2) (h01 : k0 ≠ k1) (h02 : k0 ≠ k2) : gU (gU (gU (gU (gU w k0 x0) k1 x1) k2 x2) k1 y1) k0 y0 = gU (gU (gU w k2 x2) k1 y1) k0 y0 := by
  funext j
  by_cases a0 : j = k0
  · subst a0; rw [gU_same, gU_same]
  · by_cases a1 : j = k1
    · subst a1; rw [gU_ne _ _ a0, gU_same, gU_ne _ _ a0, gU_same]
    · by_cases a2 : j = k2
      · subst a2; rw [gU_ne _ _ a0, gU_ne _ _ a1, gU_same, gU_ne _ _ a0, gU_ne _ _ a1, gU_same]
      · rw [gU_ne _ _ a0, gU_ne _ _ a1, gU_ne _ _ a2, gU_ne _ _ a1, gU_ne _ _ a0, gU_ne _ _ a0, gU_ne _ _ a1, gU_ne _ _ a2]
abbrev rm_X2_init : Room := { frames := 3, cells := 2, slots := 65, locals := 122 }
theorem nm_X2_init : gNm yX2_init 1 := ⟨by decide +kernel, by decide +kernel, by decide +kernel⟩
set_option maxHeartbeats 4000000 in
set_option maxRecDepth 100000 in
theorem c_X2_init (l : Launch) (hfl : l.stackTraces = false) (D : va_G) (tc : Nat → ClassId) (A : Nat → Prop) (w : gW) (k0 : Nat) (k1 : Nat) (k2 : Nat) (h0 : Nat) (n : Nat) (h1 : w k0 = some (h0, .inr (2, [.null, .int 0]))) (hf : w k1 = none) (hf2 : w k2 = none) (hkk : k1 ≠ k2) (hn : n ≤ 64) : gM l yX2_init cX2_init 2 none rm_X2_init D tc A [.ref h0, .int (nI n)] w (fun v w' => v = none ∧ ∃ a t : Nat, w' = gU (gU (gU w k2 (t, .inl (tc 0, n, .inl (fun _ => 0)))) k1 (a, .inr (1, [.ref t]))) k0 (h0, .inr (2, [.ref a, .int 0]))) (fun _ => False) := by
  refine gM_of (by decide +kernel) (Nat.le_of_ble_eq_true rfl) ?_
  intro p e s m args below meth c ls Q hQ hE hG hr hnt hnm hl
  have hx := hE.1
  have hb := hE.2.1
  have hl : lv_has ls 2 [(0, .ref h0), (1, .int (nI n))] := hl
  refine lv_aload_n hx hb dX2_init_0 rfl (lv_at hl 0 rfl) ?_
  refine W.objInit hx hb hE.2.2.2.1 (hE.2.2.2.2.1 _ mw2_25) (hE.2.2.2.2.1 _ mw1_22) (hE.2.2.2.2.1 _ mw1_23) rfl (by rw [hE.2.2.1]; exact hl.1) rfl dX2_init_1 (Nat.le_of_ble_eq_true rfl) (Nat.le_of_ble_eq_true rfl) ?_
  refine W.eq (g2 := F0 m 4 ls []) rfl ?_
  refine lv_aload_n hx hb dX2_init_4 rfl (lv_at hl 0 rfl) ?_
  refine lv_iconst (v := 0) hx hb dX2_init_5 (by decide) ?_
  refine g_put hE hG h1 rfl inG2 tyX2 tyX2_ok nmX2 1 (by decide) mw2_41 rfl rfl rfl (Nat.le_of_ble_eq_true rfl) dX2_init_6 (fun H locs w_1 ew_1 hG => ?_)
  have g_2 : w_1 k1 = none := gU_n ew_1 (Ne.symm (gU_f hf h1)) hf
  have g_3 : w_1 k2 = none := gU_n ew_1 (Ne.symm (gU_f hf2 h1)) hf2
  have h_4 : w_1 k0 = some (h0, .inr (2, [.null, .int 0])) := gU_s ew_1
  refine lv_aload_n hx hb dX2_init_9 rfl (lv_at hl 0 rfl) ?_
  refine g_new (ci := 1) (fs := [.null]) hE hG rfl inG1 tyX1 tyX1_ok mw2_26 mw2_27 mw1_12 (by intro j hj; match j, hj with | 0, _ => rfl) (Nat.le_of_ble_eq_true rfl) (Nat.le_of_ble_eq_true rfl) k1 g_2 dX2_init_10 (fun q_5 H w_6 ew_6 hG => ?_)
  have g_7 : w_6 k2 = none := gU_n ew_6 (Ne.symm hkk) g_3
  have h_8 : w_6 k0 = some (h0, .inr (2, [.null, .int 0])) := gU_n ew_6 (gU_f g_2 h_4) h_4
  have h_9 : w_6 k1 = some (q_5, .inr (1, [.null])) := gU_s ew_6
  refine lv_dup hx hb dX2_init_13 rfl ?_
  refine lv_iload_n hx hb dX2_init_14 rfl (lv_at hl 1 rfl) ?_
  refine g_callI (rest := [.ref q_5, .ref h0]) (As := [.int (nI n)]) hE hG hl.1 (c_X1_init l hfl D tc A w_6 k1 k2 q_5 n h_9 g_7 hn) mw2_28 mw2_29 mw1_12 mw2_30 rfl nm_X1_init ⟨⟨Nat.le_of_ble_eq_true rfl, Nat.le_of_ble_eq_true rfl⟩, Nat.le_of_ble_eq_true rfl, Nat.le_of_ble_eq_true rfl⟩ rfl rfl (Nat.le_of_ble_eq_true rfl) dX2_init_15 ?_
  intro v9 w_10 H locs h9 hG
  obtain ⟨e9, q_11, ew_10⟩ := h9
  rw [e9]; clear e9
  show W p l e _ s m args below meth c H locs _ _ _ (F0 m 18 ls [.ref q_5, .ref h0])
  have h_12 : w_10 k0 = some (h0, .inr (2, [.null, .int 0])) := by rw [ew_10, gU_ne _ _ (gU_k h_9 h_8 (by first | (intro h9; cases h9; done) | simp)), gU_ne _ _ (gU_f g_7 h_8)]; exact h_8
  have h_13 : w_10 k2 = some (q_11, .inl (tc 0, n, .inl (fun _ => 0))) := by rw [ew_10, gU_ne _ _ (Ne.symm hkk), gU_same]
  have h_14 : w_10 k1 = some (q_5, .inr (1, [.ref q_11])) := by rw [ew_10, gU_same]
  refine g_putF hE hG h_12 rfl inG2 tyX2 tyX2_ok nmX2 0 (by decide) mw2_39 rfl ((hnm _).mpr rfl) rfl rfl rfl (Nat.le_of_ble_eq_true rfl) dX2_init_18 (fun H locs w_15 ew_15 hG => ?_)
  have h_16 : w_15 k2 = some (q_11, .inl (tc 0, n, .inl (fun _ => 0))) := gU_n ew_15 (gU_k h_12 h_13 (by first | (intro h9; cases h9; done) | simp)) h_13
  have h_17 : w_15 k1 = some (q_5, .inr (1, [.ref q_11])) := gU_n ew_15 (gU_k h_12 h_14 (by first | (intro h9; cases h9; done) | simp)) h_14
  have h_18 : w_15 k0 = some (h0, .inr (2, [.ref q_5, .int 0])) := gU_s ew_15
  subst hQ
  exact g_vret hE hG hr (Nat.le_of_ble_eq_true rfl) (Nat.le_of_ble_eq_true rfl) dX2_init_21 ⟨rfl, q_5, q_11, by rw [ew_15, ew_10, ew_6, ew_1]; exact pc_w hkk (gU_f hf h1) (gU_f hf2 h1)⟩
abbrev rm_X3_init : Room := { frames := 2, cells := 1, slots := 6, locals := 86 }
theorem nm_X3_init : gNm yX3_init 1 := ⟨by decide +kernel, by decide +kernel, by decide +kernel⟩
set_option maxHeartbeats 4000000 in
set_option maxRecDepth 100000 in
theorem c_X3_init (l : Launch) (hfl : l.stackTraces = false) (D : va_G) (tc : Nat → ClassId) (A : Nat → Prop) (w : gW) (k0 : Nat) (k1 : Nat) (h0 : Nat) (y : Int32) (h1 : w k0 = some (h0, .inr (3, [.int 0, .null]))) (hf : w k1 = none) : gM l yX3_init cX3_init 2 none rm_X3_init D tc A [.ref h0, .int y] w (fun v w' => v = none ∧ ∃ t : Nat, w' = gU (gU w k1 (t, .inl (tc 6, 6, .inr (.inr (.inr (.inr (fun _ => none))))))) k0 (h0, .inr (3, [.int y, .ref t]))) (fun _ => False) := by
  refine gM_of (by decide +kernel) (Nat.le_of_ble_eq_true rfl) ?_
  intro p e s m args below meth c ls Q hQ hE hG hr hnt hnm hl
  have hx := hE.1
  have hb := hE.2.1
  have hl : lv_has ls 2 [(0, .ref h0), (1, .int y)] := hl
  refine lv_aload_n hx hb dX3_init_0 rfl (lv_at hl 0 rfl) ?_
  refine W.objInit hx hb hE.2.2.2.1 (hE.2.2.2.2.1 _ mw3_92) (hE.2.2.2.2.1 _ mw1_22) (hE.2.2.2.2.1 _ mw1_23) rfl (by rw [hE.2.2.1]; exact hl.1) rfl dX3_init_1 (Nat.le_of_ble_eq_true rfl) (Nat.le_of_ble_eq_true rfl) ?_
  refine W.eq (g2 := F0 m 4 ls []) rfl ?_
  refine lv_aload_n hx hb dX3_init_4 rfl (lv_at hl 0 rfl) ?_
  refine lv_bipush (v := 6) hx hb dX3_init_5 (by decide) ?_
  refine g_newq (t0 := 6) (N' := 6) hE hG mw3_93 (List.mem_of_getElem? (i := 3) rfl) rfl (by decide) (by decide) (by decide) (Nat.le_of_ble_eq_true rfl) (Nat.le_of_ble_eq_true rfl) k1 hf dX3_init_7 (fun q_1 H w_2 ew_2 hG => ?_)
  have h_3 : w_2 k0 = some (h0, .inr (3, [.int 0, .null])) := gU_n ew_2 (gU_f hf h1) h1
  have h_4 : w_2 k1 = some (q_1, .inl (tc 6, 6, .inr (.inr (.inr (.inr (fun _ => none)))))) := gU_s ew_2
  refine g_putF hE hG h_3 rfl inG3 tyX3 tyX3_ok nmX3 1 (by decide) mw3_97 rfl ((hnm _).mpr rfl) rfl rfl rfl (Nat.le_of_ble_eq_true rfl) dX3_init_10 (fun H locs w_5 ew_5 hG => ?_)
  have h_6 : w_5 k1 = some (q_1, .inl (tc 6, 6, .inr (.inr (.inr (.inr (fun _ => none)))))) := gU_n ew_5 (gU_k h_3 h_4 (by first | (intro h9; cases h9; done) | simp)) h_4
  have h_7 : w_5 k0 = some (h0, .inr (3, [.int 0, .ref q_1])) := gU_s ew_5
  refine lv_aload_n hx hb dX3_init_13 rfl (lv_at hl 0 rfl) ?_
  refine lv_iload_n hx hb dX3_init_14 rfl (lv_at hl 1 rfl) ?_
  refine g_putF hE hG h_7 rfl inG3 tyX3 tyX3_ok nmX3 0 (by decide) mw3_95 rfl ((hnm _).mpr rfl) rfl rfl rfl (Nat.le_of_ble_eq_true rfl) dX3_init_15 (fun H locs w_8 ew_8 hG => ?_)
  have h_9 : w_8 k1 = some (q_1, .inl (tc 6, 6, .inr (.inr (.inr (.inr (fun _ => none)))))) := gU_n ew_8 (gU_k h_7 h_6 (by first | (intro h9; cases h9; done) | simp)) h_6
  have h_10 : w_8 k0 = some (h0, .inr (3, [.int y, .ref q_1])) := gU_s ew_8
  subst hQ
  exact g_vret hE hG hr (Nat.le_of_ble_eq_true rfl) (Nat.le_of_ble_eq_true rfl) dX3_init_18 ⟨rfl, q_1, by rw [ew_8, ew_5, ew_2]; first | rfl | (rw [gU_gU]; rfl) | (rw [gU_cm (gU_f hf h1), gU_gU] <;> rfl)⟩
theorem ver_in {x : Int32} (h1 : ¬ x < 0) (h2 : ¬ 6 ≤ x) : vp_in x 6 := by
  rw [Int32.lt_iff_toInt_lt] at h1
  rw [Int32.le_iff_toInt_le] at h2
  have e0 : (0 : Int32).toInt = 0 := by decide
  have e6 : (6 : Int32).toInt = 6 := by decide
  rw [e0] at h1
  rw [e6] at h2
  rw [vp_in_iff]
  omega
def f_ver (f : Nat → Option Nat) (x : Int32) : Option Nat := (if x < 0 then none else (if 6 ≤ x then none else (f x.toNatClampNeg)))
abbrev rm_X3_versionOf : Room := { frames := 1, cells := 0, slots := 0, locals := 50 }
theorem nm_X3_versionOf : gNm yX3_versionOf 1 := ⟨by decide +kernel, by decide +kernel, by decide +kernel⟩
set_option maxHeartbeats 4000000 in
set_option maxRecDepth 100000 in
theorem c_X3_versionOf (l : Launch) (hfl : l.stackTraces = false) (D : va_G) (tc : Nat → ClassId) (A : Nat → Prop) (w : gW) (k0 : Nat) (k1 : Nat) (h0 : Nat) (t : Nat) (y : Int32) (f : Nat → Option Nat) (x : Int32) (h1 : w k0 = some (h0, .inr (3, [.int y, .ref t]))) (h2 : w k1 = some (t, .inl (tc 6, 6, .inr (.inr (.inr (.inr f)))))) : gM l yX3_versionOf cX3_versionOf 2 (some (.object "GongCycles$Melody")) rm_X3_versionOf D tc A [.ref h0, .int x] w (fun v w' => v = some (va_rf (f_ver f x)) ∧ w' = w) (fun _ => False) := by
  refine gM_of (by decide +kernel) (Nat.le_of_ble_eq_true rfl) ?_
  intro p e s m args below meth c ls Q hQ hE hG hr hnt hnm hl
  have hx := hE.1
  have hb := hE.2.1
  have hl : lv_has ls 2 [(0, .ref h0), (1, .int x)] := hl
  refine lv_iload_n hx hb dX3_versionOf_0 rfl (lv_at hl 1 rfl) ?_
  refine lv_if_lt (tgt := 22) hx hb dX3_versionOf_1 (by decide) (fun c_1 => ?_) (fun c_1 => ?_)
  · skip
    refine lv_null hx hb dX3_versionOf_22 ?_
    subst hQ
    exact g_aret hE hG hr (Or.inl rfl) (Nat.le_of_ble_eq_true rfl) (Nat.le_of_ble_eq_true rfl) dX3_versionOf_23 ⟨by unfold f_ver; rw [if_pos c_1] <;> rfl, rfl⟩
  · skip
    refine lv_iload_n hx hb dX3_versionOf_4 rfl (lv_at hl 1 rfl) ?_
    refine lv_aload_n hx hb dX3_versionOf_5 rfl (lv_at hl 0 rfl) ?_
    refine g_get hE hG h1 rfl inG3 1 (by decide) mw3_97 rfl dX3_versionOf_6 ?_
    refine g_alen (t0 := 6) (v := 6) hE hG h2 rfl rfl dX3_versionOf_9 ?_
    refine lv_icmp_ge (tgt := 22) hx hb dX3_versionOf_10 (by decide) (fun c_2 => ?_) (fun c_2 => ?_)
    · skip
      refine lv_null hx hb dX3_versionOf_22 ?_
      subst hQ
      exact g_aret hE hG hr (Or.inl rfl) (Nat.le_of_ble_eq_true rfl) (Nat.le_of_ble_eq_true rfl) dX3_versionOf_23 ⟨by unfold f_ver; rw [if_neg c_1, if_pos c_2] <;> rfl, rfl⟩
    · skip
      refine lv_aload_n hx hb dX3_versionOf_13 rfl (lv_at hl 0 rfl) ?_
      refine g_get hE hG h1 rfl inG3 1 (by decide) mw3_97 rfl dX3_versionOf_14 ?_
      refine lv_iload_n hx hb dX3_versionOf_17 rfl (lv_at hl 1 rfl) ?_
      refine g_aald (t0 := 6) hE hG h2 rfl (ver_in c_1 c_2) dX3_versionOf_18 ?_
      refine lv_goto (tgt := 23) hx hb dX3_versionOf_19 (by decide) ?_
      subst hQ
      exact g_aret hE hG hr (va_rf_or _) (Nat.le_of_ble_eq_true rfl) (Nat.le_of_ble_eq_true rfl) dX3_versionOf_23 ⟨by unfold f_ver; rw [if_neg c_1, if_neg c_2] <;> rfl, rfl⟩
theorem f_ver_in {f : Nat → Option Nat} {i : Nat} (h : i < 6) : f_ver f (nI i) = f i := by
  unfold f_ver
  rw [if_neg (nI_pos (by omega)), if_neg (by rw [show (6 : Int32) = nI 6 from rfl, nI_leI (by omega) (by omega)]; omega), nI_clamp (by omega)]
abbrev rm_X3_takeVersion_o : Room := { frames := 5, cells := 0, slots := 0, locals := 194 }
theorem nm_X3_takeVersion : gNm yX3_takeVersion 2 := ⟨by decide +kernel, by decide +kernel, by decide +kernel⟩
set_option maxHeartbeats 4000000 in
set_option maxRecDepth 100000 in
theorem c_X3_takeVersion_o (l : Launch) (hfl : l.stackTraces = false) (D : va_G) (tc : Nat → ClassId) (A : Nat → Prop) (w : gW) (k0 : Nat) (k1 : Nat) (h0 : Nat) (t : Nat) (y : Int32) (f : Nat → Option Nat) (i : Nat) (k2 : Nat) (k3 : Nat) (g0 : Nat) (t2 : Nat) (n : Nat) (g : Nat → Int32) (k4 : Nat) (k5 : Nat) (o0 : Nat) (t3 : Nat) (f3 : Nat → Int32) (h1 : w k0 = some (h0, .inr (3, [.int y, .ref t]))) (h2 : w k1 = some (t, .inl (tc 6, 6, .inr (.inr (.inr (.inr f)))))) (h3 : w k2 = some (g0, .inr (1, [.ref t2]))) (h4 : w k3 = some (t2, .inl (tc 0, n, .inl g))) (h5 : w k4 = some (o0, .inr (1, [.ref t3]))) (h6 : w k5 = some (t3, .inl (tc 0, n, .inl f3))) (hi : i < 6) (hq : f i = some o0) (hn : n < 2 ^ 30) (hk : k3 ≠ k5) : gM l yX3_takeVersion cX3_takeVersion 4 none rm_X3_takeVersion_o D tc A [.ref h0, .int (nI i), .ref g0] w (fun v w' => v = none ∧ w' = gU w k5 (t3, .inl (tc 0, n, .inl (f_cp n f3 g)))) (fun _ => False) := by
  refine gM_of (by decide +kernel) (Nat.le_of_ble_eq_true rfl) ?_
  intro p e s m args below meth c ls Q hQ hE hG hr hnt hnm hl
  have hx := hE.1
  have hb := hE.2.1
  have hl : lv_has ls 4 [(0, .ref h0), (1, .int (nI i)), (2, .ref g0)] := hl
  refine lv_aload_n hx hb dX3_takeVersion_0 rfl (lv_at hl 0 rfl) ?_
  refine lv_iload_n hx hb dX3_takeVersion_1 rfl (lv_at hl 1 rfl) ?_
  refine g_callV (rest := []) (As := [.int (nI i)]) hE hG hl.1 (c_X3_versionOf l hfl D tc A w k0 k1 h0 t y f (nI i) h1 h2 ) h1 rfl mw3_129 mw3_120 mw3_121 mw1_14 mw3_122 rfl nm_X3_versionOf ⟨⟨Nat.le_of_ble_eq_true rfl, Nat.le_of_ble_eq_true rfl⟩, Nat.le_of_ble_eq_true rfl, Nat.le_of_ble_eq_true rfl⟩ rfl rfl (Nat.le_of_ble_eq_true rfl) dX3_takeVersion_2 (g_no) ?_
  intro v9 w9 H locs h9 hG
  obtain ⟨e9, f9⟩ := h9
  rw [f9] at hG; rw [e9]; clear e9 f9
  show W p l e _ s m args below meth c H locs _ _ _ (F0 m 5 ls [va_rf (f_ver f (nI i))])
  rw [f_ver_in hi, hq]
  show W p l e _ s m args below meth c H locs _ _ _ (F0 m 5 ls [.ref o0])
  refine lv_astore_n (lv' := [(3, .ref o0), (0, .ref h0), (1, .int (nI i)), (2, .ref g0)]) hx hb dX3_takeVersion_5 rfl hl (by decide) rfl (fun ls hl => ?_)
  refine lv_aload_n hx hb dX3_takeVersion_6 rfl (lv_at hl 0 rfl) ?_
  refine lv_ifnonnull (tgt := 42) hx hb dX3_takeVersion_7 (by decide) ?_
  refine lv_aload_n hx hb dX3_takeVersion_42 rfl (lv_at hl 0 rfl) ?_
  refine lv_ifnull hx hb dX3_takeVersion_43 ?_
  refine lv_aload_n hx hb dX3_takeVersion_46 rfl (lv_at hl 0 rfl) ?_
  refine lv_aload_n hx hb dX3_takeVersion_47 rfl (lv_at hl 3 rfl) ?_
  refine g_callV (rest := []) (As := [.ref g0]) hE hG hl.1 (c_X1_takeFrom l hfl D tc A w k4 k5 o0 t3 n f3 k2 k3 g0 t2 g h5 h6 h3 h4 hn hk) h5 rfl mw3_132 mw3_133 mw3_134 mw1_12 mw3_135 rfl nm_X1_takeFrom ⟨⟨Nat.le_of_ble_eq_true rfl, Nat.le_of_ble_eq_true rfl⟩, Nat.le_of_ble_eq_true rfl, Nat.le_of_ble_eq_true rfl⟩ rfl rfl (Nat.le_of_ble_eq_true rfl) dX3_takeVersion_48 (g_no) ?_
  intro v9 w9 H locs h9 hG
  obtain ⟨e9, ew_1⟩ := h9
  rw [e9]; clear e9; revert w9; intro w_1 hG ew_1
  show W p l e _ s m args below meth c H locs _ _ _ (F0 m 51 ls [])
  have h_2 : w_1 k0 = some (h0, .inr (3, [.int y, .ref t])) := gU_n ew_1 (gU_k h6 h1 (by first | (intro h9; cases h9; done) | simp)) h1
  have h_3 : w_1 k1 = some (t, .inl (tc 6, 6, .inr (.inr (.inr (.inr f))))) := gU_n ew_1 (gU_k h6 h2 (by first | (intro h9; cases h9; done) | simp)) h2
  have h_4 : w_1 k2 = some (g0, .inr (1, [.ref t2])) := gU_n ew_1 (gU_k h6 h3 (by first | (intro h9; cases h9; done) | simp)) h3
  have h_5 : w_1 k3 = some (t2, .inl (tc 0, n, .inl g)) := gU_n ew_1 hk h4
  have h_6 : w_1 k4 = some (o0, .inr (1, [.ref t3])) := gU_n ew_1 (gU_k h6 h5 (by first | (intro h9; cases h9; done) | simp)) h5
  have h_7 : w_1 k5 = some (t3, .inl (tc 0, n, .inl (f_cp n f3 g))) := gU_s ew_1
  subst hQ
  exact g_vret hE hG hr (Nat.le_of_ble_eq_true rfl) (Nat.le_of_ble_eq_true rfl) dX3_takeVersion_51 ⟨rfl, ew_1⟩
theorem tv_w {w : gW} {k0 k1 k2 : Nat} {x1 x2 y0 y1 y2 : Nat × va_E} (h12 : k1 ≠ k2) (h01 : k0 ≠ k1) (h02 : k0 ≠ k2) : gU (gU (gU (gU (gU w k1 x1) k2 x2) k1 y1) k0 y0) k2 y2 = gU (gU (gU w k2 y2) k1 y1) k0 y0 := by
  funext j
  by_cases a0 : j = k0
  · subst a0; rw [gU_ne _ _ h02, gU_same, gU_same]
  · by_cases a1 : j = k1
    · subst a1; rw [gU_ne _ _ h12, gU_ne _ _ a0, gU_same, gU_ne _ _ a0, gU_same]
    · by_cases a2 : j = k2
      · subst a2; rw [gU_same, gU_ne _ _ a0, gU_ne _ _ a1, gU_same]
      · rw [gU_ne _ _ a2, gU_ne _ _ a0, gU_ne _ _ a1, gU_ne _ _ a2, gU_ne _ _ a1, gU_ne _ _ a0, gU_ne _ _ a1, gU_ne _ _ a2]
abbrev rm_X3_takeVersion_n : Room := { frames := 5, cells := 2, slots := 65, locals := 194 }
set_option maxHeartbeats 4000000 in
set_option maxRecDepth 100000 in
theorem c_X3_takeVersion_n (l : Launch) (hfl : l.stackTraces = false) (D : va_G) (tc : Nat → ClassId) (A : Nat → Prop) (w : gW) (k0 : Nat) (k1 : Nat) (h0 : Nat) (t : Nat) (y : Int32) (f : Nat → Option Nat) (i : Nat) (k2 : Nat) (k3 : Nat) (g0 : Nat) (t2 : Nat) (n : Nat) (g : Nat → Int32) (k4 : Nat) (k5 : Nat) (h1 : w k0 = some (h0, .inr (3, [.int y, .ref t]))) (h2 : w k1 = some (t, .inl (tc 6, 6, .inr (.inr (.inr (.inr f)))))) (h3 : w k2 = some (g0, .inr (1, [.ref t2]))) (h4 : w k3 = some (t2, .inl (tc 0, n, .inl g))) (hi : i < 6) (hq : f i = none) (hn : n ≤ 64) (hf : w k4 = none) (hf2 : w k5 = none) (hkk : k4 ≠ k5) : gM l yX3_takeVersion cX3_takeVersion 4 none rm_X3_takeVersion_n D tc A [.ref h0, .int (nI i), .ref g0] w (fun v w' => v = none ∧ ∃ a q : Nat, w' = gU (gU (gU w k5 (q, .inl (tc 0, n, .inl (f_cp n (fun _ => 0) g)))) k4 (a, .inr (1, [.ref q]))) k1 (t, .inl (tc 6, 6, .inr (.inr (.inr (.inr (va_up f i (some a)))))))) (fun _ => False) := by
  refine gM_of (by decide +kernel) (Nat.le_of_ble_eq_true rfl) ?_
  intro p e s m args below meth c ls Q hQ hE hG hr hnt hnm hl
  have hx := hE.1
  have hb := hE.2.1
  have hl : lv_has ls 4 [(0, .ref h0), (1, .int (nI i)), (2, .ref g0)] := hl
  refine lv_aload_n hx hb dX3_takeVersion_0 rfl (lv_at hl 0 rfl) ?_
  refine lv_iload_n hx hb dX3_takeVersion_1 rfl (lv_at hl 1 rfl) ?_
  refine g_callV (rest := []) (As := [.int (nI i)]) hE hG hl.1 (c_X3_versionOf l hfl D tc A w k0 k1 h0 t y f (nI i) h1 h2 ) h1 rfl mw3_129 mw3_120 mw3_121 mw1_14 mw3_122 rfl nm_X3_versionOf ⟨⟨Nat.le_of_ble_eq_true rfl, Nat.le_of_ble_eq_true rfl⟩, Nat.le_of_ble_eq_true rfl, Nat.le_of_ble_eq_true rfl⟩ rfl rfl (Nat.le_of_ble_eq_true rfl) dX3_takeVersion_2 (g_no) ?_
  intro v9 w9 H locs h9 hG
  obtain ⟨e9, f9⟩ := h9
  rw [f9] at hG; rw [e9]; clear e9 f9
  show W p l e _ s m args below meth c H locs _ _ _ (F0 m 5 ls [va_rf (f_ver f (nI i))])
  rw [f_ver_in hi, hq]
  show W p l e _ s m args below meth c H locs _ _ _ (F0 m 5 ls [.null])
  refine lv_astore_nN (lv' := [(3, .null), (0, .ref h0), (1, .int (nI i)), (2, .ref g0)]) hx hb dX3_takeVersion_5 rfl hl (by decide) rfl (fun ls hl => ?_)
  refine lv_aload_nN hx hb dX3_takeVersion_6 rfl (lv_at hl 0 rfl) ?_
  refine lv_ifnonnullN hx hb dX3_takeVersion_7 ?_
  refine lv_iload_n hx hb dX3_takeVersion_10 rfl (lv_at hl 2 rfl) ?_
  refine lv_if_lt (tgt := 42) hx hb dX3_takeVersion_11 (by decide) (fun c9 => absurd c9 (nI_pos (by omega))) (fun c9 => ?_)
  refine lv_iload_n hx hb dX3_takeVersion_14 rfl (lv_at hl 2 rfl) ?_
  refine lv_aload_n hx hb dX3_takeVersion_15 rfl (lv_at hl 1 rfl) ?_
  refine g_get hE hG h1 rfl inG3 1 (by decide) mw3_97 rfl dX3_takeVersion_16 ?_
  refine g_alen (t0 := 6) (v := 6) hE hG h2 rfl rfl dX3_takeVersion_19 ?_
  refine lv_icmp_ge (tgt := 42) hx hb dX3_takeVersion_20 (by decide) (fun c9 => absurd c9 (by rw [show (6 : Int32) = nI 6 from rfl, nI_leI (by omega) (by omega)]; omega)) (fun c9 => ?_)
  refine g_new (ci := 1) (fs := [.null]) hE hG rfl inG1 tyX1 tyX1_ok mw3_93 mw2_27 mw1_12 (by intro j hj; match j, hj with | 0, _ => rfl) (Nat.le_of_ble_eq_true rfl) (Nat.le_of_ble_eq_true rfl) k4 hf dX3_takeVersion_23 (fun q_1 H w_2 ew_2 hG => ?_)
  have g_3 : w_2 k5 = none := gU_n ew_2 (Ne.symm hkk) hf2
  have h_4 : w_2 k0 = some (h0, .inr (3, [.int y, .ref t])) := gU_n ew_2 (gU_f hf h1) h1
  have h_5 : w_2 k1 = some (t, .inl (tc 6, 6, .inr (.inr (.inr (.inr f))))) := gU_n ew_2 (gU_f hf h2) h2
  have h_6 : w_2 k2 = some (g0, .inr (1, [.ref t2])) := gU_n ew_2 (gU_f hf h3) h3
  have h_7 : w_2 k3 = some (t2, .inl (tc 0, n, .inl g)) := gU_n ew_2 (gU_f hf h4) h4
  have h_8 : w_2 k4 = some (q_1, .inr (1, [.null])) := gU_s ew_2
  refine lv_dup hx hb dX3_takeVersion_26 rfl ?_
  refine lv_aload_n hx hb dX3_takeVersion_27 rfl (lv_at hl 3 rfl) ?_
  refine g_callV (rest := [.ref q_1, .ref q_1]) (As := []) hE hG hl.1 (c_X1_length l hfl D tc A w_2 k2 k3 g0 t2 n g h_6 h_7 ) h_6 rfl mw3_130 mw2_160 mw2_161 mw1_12 mw2_162 rfl nm_X1_length ⟨⟨Nat.le_of_ble_eq_true rfl, Nat.le_of_ble_eq_true rfl⟩, Nat.le_of_ble_eq_true rfl, Nat.le_of_ble_eq_true rfl⟩ rfl rfl (Nat.le_of_ble_eq_true rfl) dX3_takeVersion_28 (g_no) ?_
  intro v9 w9 H locs h9 hG
  obtain ⟨e9, f9⟩ := h9
  rw [f9] at hG; rw [e9]; clear e9 f9
  show W p l e _ s m args below meth c H locs _ _ _ (F0 m 31 ls [.int (nI n), .ref q_1, .ref q_1])
  refine g_callI (rest := [.ref q_1]) (As := [.int (nI n)]) hE hG hl.1 (c_X1_init l hfl D tc A w_2 k4 k5 q_1 n h_8 g_3 hn) mw3_131 mw2_29 mw1_12 mw2_30 rfl nm_X1_init ⟨⟨Nat.le_of_ble_eq_true rfl, Nat.le_of_ble_eq_true rfl⟩, Nat.le_of_ble_eq_true rfl, Nat.le_of_ble_eq_true rfl⟩ rfl rfl (Nat.le_of_ble_eq_true rfl) dX3_takeVersion_31 ?_
  intro v9 w_9 H locs h9 hG
  obtain ⟨e9, q_10, ew_9⟩ := h9
  rw [e9]; clear e9
  show W p l e _ s m args below meth c H locs _ _ _ (F0 m 34 ls [.ref q_1])
  have h_11 : w_9 k0 = some (h0, .inr (3, [.int y, .ref t])) := by rw [ew_9, gU_ne _ _ (gU_k h_8 h_4 (by first | (intro h9; cases h9; done) | simp)), gU_ne _ _ (gU_f g_3 h_4)]; exact h_4
  have h_12 : w_9 k1 = some (t, .inl (tc 6, 6, .inr (.inr (.inr (.inr f))))) := by rw [ew_9, gU_ne _ _ (gU_k h_8 h_5 (by first | (intro h9; cases h9; done) | simp)), gU_ne _ _ (gU_f g_3 h_5)]; exact h_5
  have h_13 : w_9 k2 = some (g0, .inr (1, [.ref t2])) := by rw [ew_9, gU_ne _ _ (gU_k h_8 h_6 (by first | (intro h9; cases h9; done) | simp)), gU_ne _ _ (gU_f g_3 h_6)]; exact h_6
  have h_14 : w_9 k3 = some (t2, .inl (tc 0, n, .inl g)) := by rw [ew_9, gU_ne _ _ (gU_k h_8 h_7 (by first | (intro h9; cases h9; done) | simp)), gU_ne _ _ (gU_f g_3 h_7)]; exact h_7
  have h_15 : w_9 k5 = some (q_10, .inl (tc 0, n, .inl (fun _ => 0))) := by rw [ew_9, gU_ne _ _ (Ne.symm hkk), gU_same]
  have h_16 : w_9 k4 = some (q_1, .inr (1, [.ref q_10])) := by rw [ew_9, gU_same]
  refine lv_astore_n (lv' := [(3, .ref q_1), (0, .ref h0), (1, .int (nI i)), (2, .ref g0)]) hx hb dX3_takeVersion_34 rfl hl (by decide) rfl (fun ls hl => ?_)
  refine lv_aload_n hx hb dX3_takeVersion_35 rfl (lv_at hl 1 rfl) ?_
  refine g_get hE hG h_11 rfl inG3 1 (by decide) mw3_97 rfl dX3_takeVersion_36 ?_
  refine lv_iload_n hx hb dX3_takeVersion_39 rfl (lv_at hl 2 rfl) ?_
  refine lv_aload_n hx hb dX3_takeVersion_40 rfl (lv_at hl 0 rfl) ?_
  refine g_aast (t0 := 6) (ci := 1) hE hG h_12 rfl h_16 rfl (vp_in_nI (by omega) (by decide)) dX3_takeVersion_41 (fun H locs w_17 ew_17 hG => ?_)
  have h_18 : w_17 k0 = some (h0, .inr (3, [.int y, .ref t])) := gU_n ew_17 (gU_k h_12 h_11 (by first | (intro h9; cases h9; done) | simp)) h_11
  have h_19 : w_17 k2 = some (g0, .inr (1, [.ref t2])) := gU_n ew_17 (gU_k h_12 h_13 (by first | (intro h9; cases h9; done) | simp)) h_13
  have h_20 : w_17 k3 = some (t2, .inl (tc 0, n, .inl g)) := gU_n ew_17 (gU_k h_12 h_14 (by first | (intro h9; cases h9; done) | simp)) h_14
  have h_21 : w_17 k5 = some (q_10, .inl (tc 0, n, .inl (fun _ => 0))) := gU_n ew_17 (gU_k h_12 h_15 (by first | (intro h9; cases h9; done) | simp)) h_15
  have h_22 : w_17 k4 = some (q_1, .inr (1, [.ref q_10])) := gU_n ew_17 (gU_k h_12 h_16 (by first | (intro h9; cases h9; done) | simp)) h_16
  have h_23 : w_17 k1 = some (t, .inl (tc 6, 6, .inr (.inr (.inr (.inr (va_up f (nI i).toNatClampNeg (some q_1))))))) := gU_s ew_17
  refine lv_aload_n hx hb dX3_takeVersion_42 rfl (lv_at hl 0 rfl) ?_
  refine lv_ifnull hx hb dX3_takeVersion_43 ?_
  refine lv_aload_n hx hb dX3_takeVersion_46 rfl (lv_at hl 0 rfl) ?_
  refine lv_aload_n hx hb dX3_takeVersion_47 rfl (lv_at hl 3 rfl) ?_
  refine g_callV (rest := []) (As := [.ref g0]) hE hG hl.1 (c_X1_takeFrom l hfl D tc A w_17 k4 k5 q_1 q_10 n (fun _ => 0) k2 k3 g0 t2 g h_22 h_21 h_19 h_20 (by omega) (gU_f hf2 h4)) h_22 rfl mw3_132 mw3_133 mw3_134 mw1_12 mw3_135 rfl nm_X1_takeFrom ⟨⟨Nat.le_of_ble_eq_true rfl, Nat.le_of_ble_eq_true rfl⟩, Nat.le_of_ble_eq_true rfl, Nat.le_of_ble_eq_true rfl⟩ rfl rfl (Nat.le_of_ble_eq_true rfl) dX3_takeVersion_48 (g_no) ?_
  intro v9 w9 H locs h9 hG
  obtain ⟨e9, ew_24⟩ := h9
  rw [e9]; clear e9; revert w9; intro w_24 hG ew_24
  show W p l e _ s m args below meth c H locs _ _ _ (F0 m 51 ls [])
  have h_25 : w_24 k0 = some (h0, .inr (3, [.int y, .ref t])) := gU_n ew_24 (gU_k h_21 h_18 (by first | (intro h9; cases h9; done) | simp)) h_18
  have h_26 : w_24 k2 = some (g0, .inr (1, [.ref t2])) := gU_n ew_24 (gU_k h_21 h_19 (by first | (intro h9; cases h9; done) | simp)) h_19
  have h_27 : w_24 k3 = some (t2, .inl (tc 0, n, .inl g)) := gU_n ew_24 (gU_f hf2 h4) h_20
  have h_28 : w_24 k4 = some (q_1, .inr (1, [.ref q_10])) := gU_n ew_24 hkk h_22
  have h_29 : w_24 k1 = some (t, .inl (tc 6, 6, .inr (.inr (.inr (.inr (va_up f (nI i).toNatClampNeg (some q_1))))))) := gU_n ew_24 (gU_k h_21 h_23 (by first | (intro h9; cases h9; done) | simp)) h_23
  have h_30 : w_24 k5 = some (q_10, .inl (tc 0, n, .inl (f_cp n (fun _ => 0) g))) := gU_s ew_24
  subst hQ
  exact g_vret hE hG hr (Nat.le_of_ble_eq_true rfl) (Nat.le_of_ble_eq_true rfl) dX3_takeVersion_51 ⟨rfl, q_1, q_10, by rw [ew_24, ew_17, ew_9, ew_2, nI_clamp (by omega)]; exact tv_w hkk (gU_f hf h2) (gU_f hf2 h2)⟩
end
