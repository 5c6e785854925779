section
/-- a private method of a class that the tables say can be made, by its rows of tables_1 -/
def lw_okq (q : MethodName × Nat) : Prop := (q.1.cls ≠ "java/lang/invoke/MethodHandle" ∧ q.1.cls ≠ "java/lang/invoke/VarHandle") ∧ Cond.instantiable q.1.cls q.2 ∈ tables_1 ∧ Cond.privateMethod q.1 ∈ tables_1 ∧ Cond.instanceMethod q.1 ∈ tables_1
theorem lw_p0 : lw_okq (⟨"java/lang/Throwable", "fillInStackTrace", "(I)Ljava/lang/Throwable;"⟩, 6) := ⟨⟨by decide +kernel, by decide +kernel⟩, List.mem_of_getElem? (i := 179) (by decide +kernel), List.mem_of_getElem? (i := 177) (by decide +kernel), List.mem_of_getElem? (i := 178) (by decide +kernel)⟩
theorem lw_p1 : lw_okq (⟨"GongCycles", "lengthOfForm", "(I)I"⟩, 11) := ⟨⟨by decide +kernel, by decide +kernel⟩, List.mem_of_getElem? (i := 17) (by decide +kernel), List.mem_of_getElem? (i := 233) (by decide +kernel), List.mem_of_getElem? (i := 234) (by decide +kernel)⟩
theorem lw_p2 : lw_okq (⟨"GongCycles", "pieceAt", "(I)LGongCycles$Piece;"⟩, 11) := ⟨⟨by decide +kernel, by decide +kernel⟩, List.mem_of_getElem? (i := 17) (by decide +kernel), List.mem_of_getElem? (i := 296) (by decide +kernel), List.mem_of_getElem? (i := 297) (by decide +kernel)⟩
theorem lw_p3 : lw_okq (⟨"GongCycles", "toneOfStroke", "(IIIIIZ)I"⟩, 11) := ⟨⟨by decide +kernel, by decide +kernel⟩, List.mem_of_getElem? (i := 17) (by decide +kernel), List.mem_of_getElem? (i := 347) (by decide +kernel), List.mem_of_getElem? (i := 348) (by decide +kernel)⟩
theorem lw_p4 : lw_okq (⟨"GongCycles", "refuseSilence", "()V"⟩, 11) := ⟨⟨by decide +kernel, by decide +kernel⟩, List.mem_of_getElem? (i := 17) (by decide +kernel), List.mem_of_getElem? (i := 416) (by decide +kernel), List.mem_of_getElem? (i := 417) (by decide +kernel)⟩
theorem lw_p5 : lw_okq (⟨"GongCycles$Playing", "hearEnd", "()V"⟩, 11) := ⟨⟨by decide +kernel, by decide +kernel⟩, List.mem_of_getElem? (i := 27) (by decide +kernel), List.mem_of_getElem? (i := 425) (by decide +kernel), List.mem_of_getElem? (i := 426) (by decide +kernel)⟩
theorem lw_p6 : lw_okq (⟨"GongCycles$Playing", "changeBeatLength", "()V"⟩, 11) := ⟨⟨by decide +kernel, by decide +kernel⟩, List.mem_of_getElem? (i := 27) (by decide +kernel), List.mem_of_getElem? (i := 442) (by decide +kernel), List.mem_of_getElem? (i := 443) (by decide +kernel)⟩
theorem lw_p7 : lw_okq (⟨"GongCycles$Playing", "playGong", "()V"⟩, 11) := ⟨⟨by decide +kernel, by decide +kernel⟩, List.mem_of_getElem? (i := 27) (by decide +kernel), List.mem_of_getElem? (i := 450) (by decide +kernel), List.mem_of_getElem? (i := 451) (by decide +kernel)⟩
theorem lw_p8 : lw_okq (⟨"GongCycles", "setAt", "(I)LGongCycles$BronzeSet;"⟩, 11) := ⟨⟨by decide +kernel, by decide +kernel⟩, List.mem_of_getElem? (i := 17) (by decide +kernel), List.mem_of_getElem? (i := 491) (by decide +kernel), List.mem_of_getElem? (i := 492) (by decide +kernel)⟩
theorem lw_p9 : lw_okq (⟨"GongCycles", "playerAt", "(I)LGongCycles$Player;"⟩, 11) := ⟨⟨by decide +kernel, by decide +kernel⟩, List.mem_of_getElem? (i := 17) (by decide +kernel), List.mem_of_getElem? (i := 591) (by decide +kernel), List.mem_of_getElem? (i := 592) (by decide +kernel)⟩
theorem lw_p10 : lw_okq (⟨"GongCycles", "melodyOf", "(II)LGongCycles$Melody;"⟩, 11) := ⟨⟨by decide +kernel, by decide +kernel⟩, List.mem_of_getElem? (i := 17) (by decide +kernel), List.mem_of_getElem? (i := 596) (by decide +kernel), List.mem_of_getElem? (i := 597) (by decide +kernel)⟩
theorem lw_p11 : lw_okq (⟨"GongCycles", "knowersOf", "(I)I"⟩, 11) := ⟨⟨by decide +kernel, by decide +kernel⟩, List.mem_of_getElem? (i := 17) (by decide +kernel), List.mem_of_getElem? (i := 618) (by decide +kernel), List.mem_of_getElem? (i := 619) (by decide +kernel)⟩
theorem lw_p12 : lw_okq (⟨"GongCyclesModel", "goes", "(ZZZ)Z"⟩, 26) := ⟨⟨by decide +kernel, by decide +kernel⟩, List.mem_of_getElem? (i := 661) (by decide +kernel), List.mem_of_getElem? (i := 759) (by decide +kernel), List.mem_of_getElem? (i := 760) (by decide +kernel)⟩
theorem lw_p13 : lw_okq (⟨"GongCyclesModel", "isForm", "(I)Z"⟩, 26) := ⟨⟨by decide +kernel, by decide +kernel⟩, List.mem_of_getElem? (i := 661) (by decide +kernel), List.mem_of_getElem? (i := 767) (by decide +kernel), List.mem_of_getElem? (i := 768) (by decide +kernel)⟩
theorem lw_p14 : lw_okq (⟨"GongCyclesModel", "isPlace", "(II)Z"⟩, 26) := ⟨⟨by decide +kernel, by decide +kernel⟩, List.mem_of_getElem? (i := 661) (by decide +kernel), List.mem_of_getElem? (i := 779) (by decide +kernel), List.mem_of_getElem? (i := 780) (by decide +kernel)⟩
theorem lw_p15 : lw_okq (⟨"GongCyclesModel", "isPiece", "(I)Z"⟩, 26) := ⟨⟨by decide +kernel, by decide +kernel⟩, List.mem_of_getElem? (i := 661) (by decide +kernel), List.mem_of_getElem? (i := 783) (by decide +kernel), List.mem_of_getElem? (i := 784) (by decide +kernel)⟩
def lw_privs_1 : List (MethodName × Nat) := [(⟨"java/lang/Throwable", "fillInStackTrace", "(I)Ljava/lang/Throwable;"⟩, 6), (⟨"GongCycles", "lengthOfForm", "(I)I"⟩, 11), (⟨"GongCycles", "pieceAt", "(I)LGongCycles$Piece;"⟩, 11), (⟨"GongCycles", "toneOfStroke", "(IIIIIZ)I"⟩, 11), (⟨"GongCycles", "refuseSilence", "()V"⟩, 11), (⟨"GongCycles$Playing", "hearEnd", "()V"⟩, 11), (⟨"GongCycles$Playing", "changeBeatLength", "()V"⟩, 11), (⟨"GongCycles$Playing", "playGong", "()V"⟩, 11), (⟨"GongCycles", "setAt", "(I)LGongCycles$BronzeSet;"⟩, 11), (⟨"GongCycles", "playerAt", "(I)LGongCycles$Player;"⟩, 11), (⟨"GongCycles", "melodyOf", "(II)LGongCycles$Melody;"⟩, 11), (⟨"GongCycles", "knowersOf", "(I)I"⟩, 11), (⟨"GongCyclesModel", "goes", "(ZZZ)Z"⟩, 26), (⟨"GongCyclesModel", "isForm", "(I)Z"⟩, 26), (⟨"GongCyclesModel", "isPlace", "(II)Z"⟩, 26), (⟨"GongCyclesModel", "isPiece", "(I)Z"⟩, 26)]
theorem lw_r1 : ∀ q ∈ lw_privs_1, lw_okq q := List.forall_mem_cons.mpr ⟨lw_p0, List.forall_mem_cons.mpr ⟨lw_p1, List.forall_mem_cons.mpr ⟨lw_p2, List.forall_mem_cons.mpr ⟨lw_p3, List.forall_mem_cons.mpr ⟨lw_p4, List.forall_mem_cons.mpr ⟨lw_p5, List.forall_mem_cons.mpr ⟨lw_p6, List.forall_mem_cons.mpr ⟨lw_p7, List.forall_mem_cons.mpr ⟨lw_p8, List.forall_mem_cons.mpr ⟨lw_p9, List.forall_mem_cons.mpr ⟨lw_p10, List.forall_mem_cons.mpr ⟨lw_p11, List.forall_mem_cons.mpr ⟨lw_p12, List.forall_mem_cons.mpr ⟨lw_p13, List.forall_mem_cons.mpr ⟨lw_p14, List.forall_mem_cons.mpr ⟨lw_p15, fun _ h => absurd h List.not_mem_nil⟩⟩⟩⟩⟩⟩⟩⟩⟩⟩⟩⟩⟩⟩⟩⟩
theorem lw_p16 : lw_okq (⟨"GongCyclesModel", "lengthOf", "(I)I"⟩, 26) := ⟨⟨by decide +kernel, by decide +kernel⟩, List.mem_of_getElem? (i := 661) (by decide +kernel), List.mem_of_getElem? (i := 787) (by decide +kernel), List.mem_of_getElem? (i := 788) (by decide +kernel)⟩
theorem lw_p17 : lw_okq (⟨"GongCyclesModel", "soundOf", "(II)I"⟩, 26) := ⟨⟨by decide +kernel, by decide +kernel⟩, List.mem_of_getElem? (i := 661) (by decide +kernel), List.mem_of_getElem? (i := 799) (by decide +kernel), List.mem_of_getElem? (i := 800) (by decide +kernel)⟩
theorem lw_p18 : lw_okq (⟨"GongCyclesModel", "playsBeat", "()V"⟩, 26) := ⟨⟨by decide +kernel, by decide +kernel⟩, List.mem_of_getElem? (i := 661) (by decide +kernel), List.mem_of_getElem? (i := 836) (by decide +kernel), List.mem_of_getElem? (i := 837) (by decide +kernel)⟩
theorem lw_p19 : lw_okq (⟨"GongCyclesModel", "isPlayer", "(I)Z"⟩, 26) := ⟨⟨by decide +kernel, by decide +kernel⟩, List.mem_of_getElem? (i := 661) (by decide +kernel), List.mem_of_getElem? (i := 890) (by decide +kernel), List.mem_of_getElem? (i := 891) (by decide +kernel)⟩
theorem lw_p20 : lw_okq (⟨"GongCyclesModel", "knowsIt", "(II)Z"⟩, 26) := ⟨⟨by decide +kernel, by decide +kernel⟩, List.mem_of_getElem? (i := 661) (by decide +kernel), List.mem_of_getElem? (i := 894) (by decide +kernel), List.mem_of_getElem? (i := 895) (by decide +kernel)⟩
theorem lw_p21 : lw_okq (⟨"GongCyclesModel", "toneOf", "(III)I"⟩, 26) := ⟨⟨by decide +kernel, by decide +kernel⟩, List.mem_of_getElem? (i := 661) (by decide +kernel), List.mem_of_getElem? (i := 898) (by decide +kernel), List.mem_of_getElem? (i := 899) (by decide +kernel)⟩
def lw_privs_2 : List (MethodName × Nat) := [(⟨"GongCyclesModel", "lengthOf", "(I)I"⟩, 26), (⟨"GongCyclesModel", "soundOf", "(II)I"⟩, 26), (⟨"GongCyclesModel", "playsBeat", "()V"⟩, 26), (⟨"GongCyclesModel", "isPlayer", "(I)Z"⟩, 26), (⟨"GongCyclesModel", "knowsIt", "(II)Z"⟩, 26), (⟨"GongCyclesModel", "toneOf", "(III)I"⟩, 26)]
theorem lw_r2 : ∀ q ∈ lw_privs_2, lw_okq q := List.forall_mem_cons.mpr ⟨lw_p16, List.forall_mem_cons.mpr ⟨lw_p17, List.forall_mem_cons.mpr ⟨lw_p18, List.forall_mem_cons.mpr ⟨lw_p19, List.forall_mem_cons.mpr ⟨lw_p20, List.forall_mem_cons.mpr ⟨lw_p21, fun _ h => absurd h List.not_mem_nil⟩⟩⟩⟩⟩⟩
def lw_privs : List (MethodName × Nat) := lw_privs_1 ++ (lw_privs_2)
def lw_tbl : List Cond := k2_sels lw_privs ++ tables_1
theorem lw_privs_ok : ∀ q ∈ lw_privs, lw_okq q := by
  show ∀ q ∈ lw_privs_1 ++ (lw_privs_2), lw_okq q
  exact List.forall_mem_append.mpr ⟨lw_r1, lw_r2⟩
end
section
/-! ===== BEGIN words of one list among another's, by their places ===== -/
theorem goodIn_r {big : List Cond} (ws : List Cond) (ps : List Nat) (hp : ws = ps.filterMap (fun i => big[i]?)) (h : ws.all goodWord = true) : GoodIn big ws := by
  intro w hw
  have h1 := List.all_eq_true.mp h w hw
  rw [hp] at hw
  obtain ⟨i, -, hi⟩ := List.mem_filterMap.mp hw
  have hm : w ∈ big := by first | exact List.mem_of_getElem? hi | exact List.getElem?_mem hi
  exact ⟨hm, good_of_word h1⟩
theorem goodIn_app {big a b : List Cond} (ha : GoodIn big a) (hb : GoodIn big b) : GoodIn big (a ++ b) := fun w h => (List.mem_append.mp h).elim (ha w) (hb w)
theorem goodIn_ca {big a b : List Cond} {c : Cond} (ha : GoodIn big (c :: a)) (hb : GoodIn big b) : GoodIn big (c :: (a ++ b)) := fun w h => (List.mem_cons.mp h).elim (fun e => ha w (List.mem_cons.mpr (Or.inl e))) (fun h => (List.mem_append.mp h).elim (fun h => ha w (List.mem_cons.mpr (Or.inr h))) (hb w))
theorem goodIn_sub {big ws : List Cond} (hm : ∀ w ∈ ws, w ∈ big) (h : ws.all goodWord = true) : GoodIn big ws := fun w hw => ⟨hm w hw, good_of_word (List.all_eq_true.mp h w hw)⟩
/-! ===== END ===== -/

/-! ===== BEGIN exceptions that leave a method, and their catching by the caller (launches without stack traces) ===== -/
section VXA
/-! The laws vx_back, vx_callV, vx_callS, vx_callSW, vx_throw0, vx_throwS follow proofs of the library, with one case more: JvmDerived/Free/Laws.lean (Back.of_free), Shelf42/LK1.lean (callV, callS), Shelf/KitTraced.lean (throwNew0V, throwNewS). -/
/-- where a method has thrown q: the class by its name, the cell, what was written, the world -/
def vx_T (XC : String → State → State → Prop) (st : State) (q : Addr) (t : State) (mc ms : Nat) (free : Addr → Prop) : Prop :=
  ∃ (E : String) (ce : Cell) (L : List Loc), XC E st t ∧ t.heap[q]? = some ce ∧ ce.vm = .none ∧ st.vm.findClass E = some ce.cls ∧ st.WarmedH t.vm ∧ st.sameButNew ({ t with vm := st.vm } : State) L mc ms ∧ ∀ z ∈ L, free z.base
def vx_Q (Qc : Array Value → State → Outcome → State → Prop) (XC : String → State → State → Prop) (mc ms : Nat) (free : Addr → Prop) : Array Value → State → Outcome → State → Prop := fun a st o t =>
  (Qc a st o t ∧ ∃ L, FrameEnd st o t L mc ms ∧ ∀ q ∈ L, free q.base) ∨ ∃ q, o = .threw q ∧ vx_T XC st q t mc ms free
/-- a callee that returns or throws -/
def vx_Met (l : Launch) (y : MethodName) (ws : List Cond) (rm : Room) (Pc : Array Value → State → Prop) (Qc : Array Value → State → Outcome → State → Prop) (XC : String → State → State → Prop) (mc ms : Nat) (free : Addr → Prop) : Prop :=
  MetFree l y (headSpec ws rm) Pc (fun _ _ _ _ _ => True) (vx_Q Qc XC mc ms free)
def vx_Post (XC : String → State → State → Prop) (mc ms : Nat) (free : Addr → Prop) : Pt → Array Value → Addr → Pt → Prop := fun A a q B =>
  ∃ (g : JFrame) (mk : MethodId) (t : State) (L : List Loc) (E : String) (ce : Cell), B.U.heap = t.heap ∧ B.U.vm = t.vm ∧ XC E (A.U.calling g mk a) t ∧ t.heap[q]? = some ce ∧ ce.vm = .none ∧ A.U.vm.findClass E = some ce.cls ∧ B.locs = A.locs ++ L ∧ (∀ z ∈ L, free z.base) ∧ B.cells = A.cells + mc ∧ B.slots = A.slots + ms
def vx_Back (l : Launch) (R : Room) (p : Program) (e : Env) (below : List Frame) (s : State) (sargs : Array Value) (y : MethodName) (len W9 : Nat)
    (Pre : Pt → Array Value → Prop) (Post : Pt → Array Value → Option Value → Pt → Prop) (PostX : Pt → Array Value → Addr → Pt → Prop) : Prop :=
  ∀ (m : MethodId) (meth : Method) (c : Code) (A : Pt) (g : JFrame) (ig : Instr) (mk : MethodId) (a : Array Value),
    Stand p l e R s m sargs below meth c A.U A.locs A.cells A.slots → g.method = m → g.locals.size = c.maxLocals → decode c.code g.pc = .ok (ig, len) →
    2 * g.monitorRoom + (g.stack.map fun v => v.category).sum ≤ W9 → A.U.methodNamed? y = some mk → Pre A a →
    (∃ (v : Option Value) (B : Pt), Stand p l e R s m sargs below meth c B.U B.locs B.cells B.slots ∧ Post A a v B ∧
      Steps p.tables e below (doInvoke e (A.U.setTop g) [] mk a).1 (B.U.setTop { g with pc := g.pc + len, stack := v.toList ++ g.stack })) ∨
    (∃ (q : Addr) (B : Pt), Stand p l e R s m sargs below meth c B.U B.locs B.cells B.slots ∧ PostX A a q B ∧
      Steps p.tables e below (doInvoke e (A.U.setTop g) [] mk a).1 ((B.U.setTop g).pushFrame (.throwing q)))
section Payer
variable {l : Launch} {R : Room} {p : Program} {e : Env} {below : List Frame} {s : State} {sargs : Array Value} {y : MethodName} {len W9 : Nat}
theorem vx_back {ws : List Cond} {rm : Room} {Pc : Array Value → State → Prop} {Qc : Array Value → State → Outcome → State → Prop} {XC : String → State → State → Prop} {mc ms : Nat} {free : Addr → Prop} {bytes : ByteArray} {maxL : Nat} {ret : Option FieldType}
    (hM : vx_Met l y ws rm Pc Qc XC mc ms free) (hblind : FrameBlind Pc) (hrc : rm.cells = mc) (hrs : rm.slots = ms)
    (hframes : rm.frames + 1 ≤ R.frames) (hlocals : W9 + (maxL + 11) + rm.locals ≤ R.locals)
    (hws : ∀ w ∈ ws, ∀ a' U, s.WarmedH U.vm → w.before a' U = true) (hcode : Cond.code y bytes maxL ret ∈ ws) (hinit : ∀ a' U, s.WarmedH U.vm → (Cond.initialized y.cls).before a' U = true) :
    vx_Back l R p e below s sargs y len W9 (PreOf R mc ms Pc) (PostOf Qc mc ms free) (vx_Post XC mc ms free) := by
  intro m meth c A g ig mk a X hg hsize hdg hW hn hp
  have h1 : (headSpec ws rm).pre.before a A.U = true := atoms_intro fun w hw => hws w hw _ _ X.warmed
  have h2 : (Cond.code y bytes maxL ret).before a A.U = true := hws _ hcode _ _ X.warmed
  have h3 : (Cond.initialized y.cls).before a A.U = true := hinit _ _ X.warmed
  have h4 : A.cells + (headSpec ws rm).room.cells ≤ R.cells := by rw [show (headSpec ws rm).room.cells = mc from hrc]; exact hp.1
  have h5 : A.slots + (headSpec ws rm).room.slots ≤ R.slots := by rw [show (headSpec ws rm).room.slots = ms from hrs]; exact hp.2.1
  have hPc : Pc a (A.U.calling g mk a) := hblind _ _ _ _ hp.2.2
  obtain ⟨U, Ls, c0, s0⟩ := A
  dsimp only [Pt.U, Pt.locs, Pt.cells, Pt.slots] at h1 h2 h3 h4 h5 X hn hPc ⊢
  obtain ⟨methY, cY, hmY, hcY, -, hlY, -, -, -, -⟩ := Cond.code_spec hn h2
  obtain ⟨kY, hkY, -⟩ := className_of_methodNamed hn
  have hinitY : kY.init = .initialized := Cond.initialized_spec (findClass_of_methodNamed hn) hkY h3
  have h : At U g.method c below := by rw [hg]; exact X.here
  have hlocals9 : W9 + (maxL + 11) + (headSpec ws rm).room.locals ≤ R.locals := hlocals
  have happ : (headSpec ws rm).appliesLoose y e.platform (U.calling g mk a) = true :=
    Spec.appliesLoose_calling (g := g) h hdg hn hkY hinitY
      (X.room_calling (g := g) (R' := (headSpec ws rm).room) hsize hmY hcY hframes (by rw [hlY]; omega) h4 h5) h1
  obtain ⟨mid, hmid⟩ := h.above
  have hfr : (U.setTop g).frames = (.java g :: mid) ++ below := by rw [State.frames_setTop' g h.top, hmid]; rfl
  obtain ⟨o, s₂, hsteps, -, hend, hq⟩ := Steps.callFree hM p X.admits X.cas X.clock (acts := []) hfr happ hPc trivial
  have hq' : vx_Q Qc XC mc ms free a (U.calling g mk a) o s₂ := hq
  rw [State.frames_setTop' g h.top] at hend
  obtain ⟨g₀, hg0⟩ := Option.isSome_iff_exists.mp h.top
  obtain ⟨r, hr⟩ := State.topJava?_eq_some.mp hg0
  have hr' : (({ U with heap := s₂.heap, slotsUsed := s₂.slotsUsed } : State).setVm s₂.vm).frames = .java g₀ :: r := hr
  rcases hq' with ⟨hqc, L, hfe, hL⟩ | ⟨q, rfl, E, ce, L, hx, hce, hcv, hcl, hW₂, hsm, hL⟩
  · obtain ⟨⟨v, rfl⟩, hW₂, e2, q2, q3, q4, q5, q6⟩ := id hfe
    have e3 : s₂ = ({ (U.calling g mk a).setFrames s₂.frames with heap := s₂.heap, slotsUsed := s₂.slotsUsed } : State).setVm s₂.vm := by
      have : s₂ = ({ s₂ with vm := (U.calling g mk a).vm } : State).setVm s₂.vm := rfl
      rw [e2] at this
      exact this
    obtain ⟨c₂, i₂, len₂, hc₂, hd₂, hf₂⟩ := hend
    have hW' : U.WarmedH s₂.vm := hW₂
    have hcc : c₂ = c := by
      have h1 : s₂.code? g.method = U.code? g.method := by
        rw [State.code?_eq, State.code?_eq, hW'.alike.method?]
      exact Option.some.inj (hc₂.symm.trans (h1.trans h.code))
    subst hcc
    have hlen : len₂ = len := by rw [hdg] at hd₂; cases hd₂; rfl
    subst hlen
    have hs₂ : s₂ = (({ U with heap := s₂.heap, slotsUsed := s₂.slotsUsed } : State).setVm s₂.vm).setTop { g with pc := g.pc + len₂, stack := v.toList ++ g.stack } := by
      refine e3.trans ?_
      rw [hf₂, State.calling_eq h.top, State.setFrames_setFrames, State.setTop_of_frames _ hr', hr]
      rfl
    have hsame : U.sameButNew ({ U with heap := s₂.heap, slotsUsed := s₂.slotsUsed } : State) L mc ms := by
      refine ⟨?_, q2, q3, q4, q5, q6⟩
      obtain ⟨t, ht, -⟩ := State.frames_cons hr
      show ({ U with heap := s₂.heap, slotsUsed := s₂.slotsUsed } : State) = { U.setFrames U.frames with heap := s₂.heap, slotsUsed := s₂.slotsUsed }
      rw [State.setFrames_self ht]
    subst hg
    refine Or.inl ⟨v, ⟨(({ U with heap := s₂.heap, slotsUsed := s₂.slotsUsed } : State).setVm s₂.vm), Ls ++ L, c0 + mc, s0 + ms⟩,
      ⟨X.admits, X.cas, X.clock, X.frames, X.room, X.hears, X.method, X.code, (X.here.setHeapUsed s₂.heap s₂.slotsUsed).setVm hW'.alike, X.tail, State.WarmedH.trans X.warmed hW', X.limits, X.bytes, X.same.trans (hsame.setVm s.vm)⟩,
      ⟨g, mk, s₂, L, rfl, rfl, hqc, rfl, hL, rfl, rfl⟩, ?_⟩
    show Steps p.tables e below _ ((({ U with heap := s₂.heap, slotsUsed := s₂.slotsUsed } : State).setVm s₂.vm).setTop { g with pc := g.pc + len₂, stack := v.toList ++ g.stack })
    rw [← hs₂]
    exact hsteps
  · obtain ⟨e2, q2, q3, q4, q5, q6⟩ := id hsm
    have e3 : s₂ = ({ (U.calling g mk a).setFrames s₂.frames with heap := s₂.heap, slotsUsed := s₂.slotsUsed } : State).setVm s₂.vm := by
      have : s₂ = ({ s₂ with vm := (U.calling g mk a).vm } : State).setVm s₂.vm := rfl
      rw [e2] at this
      exact this
    have hf₂ : s₂.frames = .throwing q :: .java g :: U.frames.tail := hend
    have hW' : U.WarmedH s₂.vm := hW₂
    have hs₂ : s₂ = ((({ U with heap := s₂.heap, slotsUsed := s₂.slotsUsed } : State).setVm s₂.vm).setTop g).pushFrame (.throwing q) := by
      refine e3.trans ?_
      rw [hf₂, State.calling_eq h.top, State.setFrames_setFrames, State.pushFrame, State.frames_setTop _ hr', State.setTop_of_frames _ hr', State.setFrames_setFrames, hr]
      rfl
    have hsame : U.sameButNew ({ U with heap := s₂.heap, slotsUsed := s₂.slotsUsed } : State) L mc ms := by
      refine ⟨?_, q2, q3, q4, q5, q6⟩
      obtain ⟨t, ht, -⟩ := State.frames_cons hr
      show ({ U with heap := s₂.heap, slotsUsed := s₂.slotsUsed } : State) = { U.setFrames U.frames with heap := s₂.heap, slotsUsed := s₂.slotsUsed }
      rw [State.setFrames_self ht]
    subst hg
    refine Or.inr ⟨q, ⟨(({ U with heap := s₂.heap, slotsUsed := s₂.slotsUsed } : State).setVm s₂.vm), Ls ++ L, c0 + mc, s0 + ms⟩,
      ⟨X.admits, X.cas, X.clock, X.frames, X.room, X.hears, X.method, X.code, (X.here.setHeapUsed s₂.heap s₂.slotsUsed).setVm hW'.alike, X.tail, State.WarmedH.trans X.warmed hW', X.limits, X.bytes, X.same.trans (hsame.setVm s.vm)⟩,
      ⟨g, mk, s₂, L, E, ce, rfl, rfl, hx, hce, hcv, hcl, rfl, hL, rfl, rfl⟩, ?_⟩
    show Steps p.tables e below _ (((({ U with heap := s₂.heap, slotsUsed := s₂.slotsUsed } : State).setVm s₂.vm).setTop g).pushFrame (.throwing q))
    rw [← hs₂]
    exact hsteps
end Payer
section Calls
variable {p : Program} {l : Launch} {e : Env} {R : Room} {s : State} {m : MethodId} {args : Array Value} {below : List Frame} {meth : Method} {c : Code} {T : State} {locs : List Loc} {cells slots : Nat}
theorem vx_callV (X : Stand p l e R s m args below meth c T locs cells slots) (hexec : p.tables.exec = Jvm.exec) {own C : String} {index : Nat} {y : MethodName} {bytes : ByteArray} {maxL : Nat} {ret : Option FieldType}
    (hown : s.vm.findClass own = some m.cls) (hlink : (Cond.methodLink own index y).before args s = true) (hinst : (Cond.instanceMethod y).before args s = true) (hsel : (Cond.selects C y y).before args s = true)
    (hcode : (Cond.code y bytes maxL ret).before args s = true) (hy : y.cls ≠ "java/lang/invoke/MethodHandle" ∧ y.cls ≠ "java/lang/invoke/VarHandle")
    {W9 : Nat} {Pre : Pt → Array Value → Prop} {Post : Pt → Array Value → Option Value → Pt → Prop} {PostX : Pt → Array Value → Addr → Pt → Prop} (hK : vx_Back l R p e below s args y 3 W9 Pre Post PostX)
    {b : Addr} {cellB : Cell} (hcell : T.heap[b]? = some cellB) (hobj : cellB.vm.isStatics = false) (hcls : s.vm.findClass C = some cellB.cls)
    {g : JFrame} (hg : g.method = m) (hsize : g.locals.size = c.maxLocals) {argsL rest : List Value} (hlen : ∀ sig, parseMethodDescriptor y.desc = some sig → argsL.length = sig.parameters.length)
    (hstack : g.stack = argsL.reverse ++ .ref b :: rest) (hW : 2 * g.monitorRoom + (rest.map fun v => v.category).sum ≤ W9) (hdg : decode c.code g.pc = .ok (.invokevirtual index, 3))
    (hpre : ∀ vm₁, s.WarmedH vm₁ → Pre ⟨T.setVm vm₁, locs, cells, slots⟩ (Value.ref b :: argsL).toArray) :
    (∃ (v : Option Value) (vm₁ : Vm) (B : Pt), s.WarmedH vm₁ ∧ Stand p l e R s m args below meth c B.U B.locs B.cells B.slots ∧ Post ⟨T.setVm vm₁, locs, cells, slots⟩ (Value.ref b :: argsL).toArray v B ∧
      ∀ target, Steps p.tables e below (B.U.setTop { g with pc := g.pc + 3, stack := v.toList ++ rest }) target → Steps p.tables e below (T.setTop g) target) ∨
    (∃ (q : Addr) (vm₁ : Vm) (B : Pt), s.WarmedH vm₁ ∧ Stand p l e R s m args below meth c B.U B.locs B.cells B.slots ∧ PostX ⟨T.setVm vm₁, locs, cells, slots⟩ (Value.ref b :: argsL).toArray q B ∧
      Steps p.tables e below (T.setTop g) ((B.U.setTop { g with stack := rest }).pushFrame (.throwing q))) := by
  obtain ⟨mk, methM, hnamed, hmethM, hstM, habM⟩ := Cond.instanceMethod_spec hinst
  obtain ⟨methM', cM, hmethM', -, -, -, -, -, -, hsigM⟩ := Cond.code_spec hnamed hcode
  cases hmethM.symm.trans hmethM'
  obtain ⟨c2, r2, m2, q1, q2, q3, q4, kP, hkP, hkPi⟩ := Cond.selects_spec hsel
  cases hcls.symm.trans q1
  cases (State.methodFound?_of_named hnamed hy).symm.trans q2
  cases hnamed.symm.trans q3
  have hselP : selectMethod e.platform s.vm cellB.cls mk = .method mk := by rw [Launch.admits_selectMethod X.admits]; exact q4
  obtain ⟨vm₁, X₁, hstep₁⟩ := X.invokevirtual hexec hown hlink hnamed hmethM hstM hkP hkPi hy (a := b) (cell := cellB) hcell
    (fun z h => by rw [h] at hobj; cases hobj) hselP hmethM habM hkP hkPi (g := g) hg (argsL := argsL) (rest := rest) (hlen _ hsigM) hstack hdg
  rcases hK m meth c ⟨T.setVm vm₁, locs, cells, slots⟩ { g with stack := rest } (.invokevirtual index) mk (Value.ref b :: argsL).toArray X₁ hg hsize hdg hW (X₁.named hnamed) (hpre vm₁ X₁.warmed) with ⟨v, B, X', hpost, hsteps⟩ | ⟨q, B, X', hpost, hsteps⟩
  · exact Or.inl ⟨v, vm₁, B, X₁.warmed, X', hpost, fun target h => hstep₁ _ fun acts => by rw [doInvoke_state]; exact hsteps.trans h⟩
  · exact Or.inr ⟨q, vm₁, B, X₁.warmed, X', hpost, hstep₁ _ fun acts => by rw [doInvoke_state]; exact hsteps⟩
theorem vx_callS (X : Stand p l e R s m args below meth c T locs cells slots) (hexec : p.tables.exec = Jvm.exec) {own : String} {index : Nat} {y : MethodName} {bytes : ByteArray} {maxL : Nat} {ret : Option FieldType}
    (hown : s.vm.findClass own = some m.cls) (hlink : (Cond.methodLink own index y).before args s = true) (hstat : (Cond.static y).before args s = true) (hinit : (Cond.initialized y.cls).before args s = true)
    (hcode : (Cond.code y bytes maxL ret).before args s = true) (hy : y.cls ≠ "java/lang/invoke/MethodHandle" ∧ y.cls ≠ "java/lang/invoke/VarHandle")
    {W9 : Nat} {Pre : Pt → Array Value → Prop} {Post : Pt → Array Value → Option Value → Pt → Prop} {PostX : Pt → Array Value → Addr → Pt → Prop} (hK : vx_Back l R p e below s args y 3 W9 Pre Post PostX)
    {g : JFrame} (hg : g.method = m) (hsize : g.locals.size = c.maxLocals) {argsL rest : List Value} (hlen : ∀ sig, parseMethodDescriptor y.desc = some sig → argsL.length = sig.parameters.length)
    (hstack : g.stack = argsL.reverse ++ rest) (hW : 2 * g.monitorRoom + (rest.map fun v => v.category).sum ≤ W9) (hdg : decode c.code g.pc = .ok (.invokestatic index, 3))
    (hpre : ∀ vm₁, s.WarmedH vm₁ → Pre ⟨T.setVm vm₁, locs, cells, slots⟩ argsL.toArray) :
    (∃ (v : Option Value) (vm₁ : Vm) (B : Pt), s.WarmedH vm₁ ∧ Stand p l e R s m args below meth c B.U B.locs B.cells B.slots ∧ Post ⟨T.setVm vm₁, locs, cells, slots⟩ argsL.toArray v B ∧
      ∀ target, Steps p.tables e below (B.U.setTop { g with pc := g.pc + 3, stack := v.toList ++ rest }) target → Steps p.tables e below (T.setTop g) target) ∨
    (∃ (q : Addr) (vm₁ : Vm) (B : Pt), s.WarmedH vm₁ ∧ Stand p l e R s m args below meth c B.U B.locs B.cells B.slots ∧ PostX ⟨T.setVm vm₁, locs, cells, slots⟩ argsL.toArray q B ∧
      Steps p.tables e below (T.setTop g) ((B.U.setTop { g with stack := rest }).pushFrame (.throwing q))) := by
  obtain ⟨mk, hnamed⟩ := Cond.code_named hcode
  obtain ⟨methM, cM, hmethM, -, -, -, -, -, -, hsigM⟩ := Cond.code_spec hnamed hcode
  have hstatic : methM.isStatic = true := Cond.static_spec hnamed hmethM hstat
  obtain ⟨kP, hkP, -⟩ := className_of_methodNamed hnamed
  have hinitP : kP.init = .initialized := Cond.initialized_spec (findClass_of_methodNamed hnamed) hkP hinit
  obtain ⟨vm₁, X₁, hstep₁⟩ := X.invokestatic hexec hown hlink hnamed hmethM hstatic hkP hinitP hy (g := g) hg (argsL := argsL) (rest := rest) (hlen _ hsigM) hstack hdg
  rcases hK m meth c ⟨T.setVm vm₁, locs, cells, slots⟩ { g with stack := rest } (.invokestatic index) mk argsL.toArray X₁ hg hsize hdg hW (X₁.named hnamed) (hpre vm₁ X₁.warmed) with ⟨v, B, X', hpost, hsteps⟩ | ⟨q, B, X', hpost, hsteps⟩
  · exact Or.inl ⟨v, vm₁, B, X₁.warmed, X', hpost, fun target h => hstep₁ _ fun acts => by rw [doInvoke_state]; exact hsteps.trans h⟩
  · exact Or.inr ⟨q, vm₁, B, X₁.warmed, X', hpost, hstep₁ _ fun acts => by rw [doInvoke_state]; exact hsteps⟩
end Calls
theorem vx_cls {s : State} {T : State} {vm₁ : Vm} {E : String} {k : ClassId} (hW : s.WarmedH vm₁) (h : (T.setVm vm₁).vm.findClass E = some k) : s.vm.findClass E = some k := by
  have h1 : vm₁.findClass E = some k := h
  rw [hW.alike.findClass] at h1
  exact h1
/-- the method's frame g, with q thrown over it -/
def vx_W (p : Program) (l : Launch) (e : Env) (R : Room) (s : State) (m : MethodId) (args : Array Value) (below : List Frame) (meth : Method) (c : Code) (H : Heap) (locs : List Loc) (cells slots : Nat) (Q : State → Prop) (g : JFrame) (q : Addr) : Prop :=
  ∀ T : State, T.heap = H → Stand p l e R s m args below meth c T locs cells slots → ∃ t, Steps p.tables e below ((T.setTop g).pushFrame (.throwing q)) t ∧ Q t
def vx_Run (p : Program) (l : Launch) (e : Env) (R : Room) (s : State) (m : MethodId) (args : Array Value) (below : List Frame) (meth : Method) (c : Code) (H : Heap) (locs : List Loc) (cells slots mc ms : Nat) (g : JFrame) (rest : List Value) (Qa : State → Outcome → State → Prop) (XC : String → State → State → Prop) (free : Addr → Prop) : Prop :=
  ∀ T : State, T.heap = H → Stand p l e R s m args below meth c T locs cells slots →
    (∃ (v : Option Value) (st₀ t T' : State) (L : List Loc), st₀.heap = H ∧ Stand p l e R s m args below meth c T' (locs ++ L) (cells + mc) (slots + ms) ∧ (∀ q ∈ L, free q.base) ∧ T'.heap = t.heap ∧ T'.vm = t.vm ∧ Qa st₀ (.returned v) t ∧
      Goes p e below T g T' { g with pc := g.pc + 3, stack := v.toList ++ rest }) ∨
    (∃ (q : Addr) (st₀ t T' : State) (L : List Loc) (E : String) (ce : Cell), st₀.heap = H ∧ Stand p l e R s m args below meth c T' (locs ++ L) (cells + mc) (slots + ms) ∧ (∀ z ∈ L, free z.base) ∧ T'.heap = t.heap ∧ T'.vm = t.vm ∧ XC E st₀ t ∧ t.heap[q]? = some ce ∧ ce.vm = .none ∧ s.vm.findClass E = some ce.cls ∧
      Steps p.tables e below (T.setTop g) ((T'.setTop { g with stack := rest }).pushFrame (.throwing q)))
def vx_X {S : Type} (px : S → Prop) (B : String → S → State → Prop) (A : Nat → Prop) : String → State → State → Prop := fun E st t => ∃ u : S, px u ∧ B E u t ∧ va_F A st t
section Runs
variable {p : Program} {l : Launch} {e : Env} {R : Room} {s : State} {m : MethodId} {args : Array Value} {below : List Frame} {meth : Method} {c : Code} {H : Heap} {locs : List Loc} {cells slots : Nat}
variable {y : MethodName} {bytes cc : ByteArray} {maxL nL mc ms n index : Nat} {ret : Option FieldType} {ws : List Cond} {rm : Room} {Pc : Array Value → State → Prop} {Qc : Array Value → State → Outcome → State → Prop} {XC : String → State → State → Prop} {free : Addr → Prop} {Ts : List Cond} {own C : String} {b : Addr} {As rest : List Value} {g : JFrame}
theorem vx_callBack (cb : CallB R s args own index y bytes maxL ret ws rm mc ms n) (hM : vx_Met l y ws rm Pc Qc XC mc ms free) (hbl : FrameBlind Pc) : vx_Back l R p e below s args y 3 8 (PreOf R mc ms Pc) (PostOf Qc mc ms free) (vx_Post XC mc ms free) := by
  obtain ⟨hrc, hrs, hfr, hlo, hws, hcw, -, hini, -⟩ := cb
  exact vx_back (bytes := bytes) (maxL := maxL) (ret := ret) hM hbl hrc hrs hfr hlo hws hcw (fun a' U hW => word_at hW (Or.inl (by first | rfl | simp [Cond.onTables, Cond.keeps, Cond.steady])) hini)
theorem vx_runV (S : CallFix p m c cc nL s args Ts own) (hM : vx_Met l y ws rm Pc Qc XC mc ms free) (cw : CallW R s args own C index y bytes maxL ret ws rm mc ms n) (hp : PreV s H C b Pc As)
    (hg : g.method = m) (hn : As.length = n) (hsize : g.locals.size = nL) (hstack : g.stack = As.reverse ++ .ref b :: rest) (hW : 2 * g.monitorRoom + (rest.map fun v => v.category).sum ≤ 8) (hdg : decode cc g.pc = .ok (.invokevirtual index, 3)) (hf : cells + mc ≤ R.cells ∧ slots + ms ≤ R.slots) :
    vx_Run p l e R s m args below meth c H locs cells slots mc ms g rest (Qc (Value.ref b :: As).toArray) XC free := by
  have hK : vx_Back l R p e below s args y 3 8 (PreOf R mc ms Pc) (PostOf Qc mc ms free) (vx_Post XC mc ms free) := vx_callBack cw.1 hM hp.1
  obtain ⟨⟨-, -, -, -, -, -, hcode, -, hy, hlen, hl⟩, hin, hse⟩ := cw
  obtain ⟨hx, hb, hml, ho, -⟩ := S
  obtain ⟨-, ⟨cellB, hcB, hoB, hclB⟩, hPc⟩ := hp
  intro T hT X
  rcases vx_callV X hx (C := C) (bytes := bytes) (maxL := maxL) (ret := ret) ho hl hin hse hcode hy hK (by rw [hT]; exact hcB) hoB hclB hg (hsize.trans hml.symm) (argsL := As) (rest := rest) (fun sig h => hn.trans (hlen sig h)) hstack hW (by rw [hb]; exact hdg)
    (fun vm₁ hW₁ => ⟨hf.1, hf.2, hPc (T.setVm vm₁) hT hW₁⟩) with ⟨v, vm₁, ⟨U', l2, c2, s2⟩, hW₁, X', ⟨g', mk, t, L, e1, e2, hq, h1, hL, h2, h3⟩, st⟩ | ⟨q, vm₁, ⟨U', l2, c2, s2⟩, hW₁, X', ⟨g', mk, t, L, E, ce, e1, e2, hq, hce, hcv, hcl, h1, hL, h2, h3⟩, st⟩
  · dsimp only [Pt.U, Pt.locs, Pt.cells, Pt.slots] at X' e1 e2 h1 h2 h3 st
    subst h1; subst h2; subst h3
    exact Or.inl ⟨v, (T.setVm vm₁).calling g' mk (Value.ref b :: As).toArray, t, U', L, hT, X', hL, e1, e2, hq, st⟩
  · dsimp only [Pt.U, Pt.locs, Pt.cells, Pt.slots] at X' e1 e2 h1 h2 h3 st hcl
    subst h1; subst h2; subst h3
    exact Or.inr ⟨q, (T.setVm vm₁).calling g' mk (Value.ref b :: As).toArray, t, U', L, E, ce, hT, X', hL, e1, e2, hq, hce, hcv, vx_cls hW₁ hcl, st⟩
theorem vx_runS (S : CallFix p m c cc nL s args Ts own) (hM : vx_Met l y ws rm Pc Qc XC mc ms free) (cw : CallB R s args own index y bytes maxL ret ws rm mc ms n ∧ (Cond.static y).before args s = true) (hp : PreS s H Pc As)
    (hg : g.method = m) (hn : As.length = n) (hsize : g.locals.size = nL) (hstack : g.stack = As.reverse ++ rest) (hW : 2 * g.monitorRoom + (rest.map fun v => v.category).sum ≤ 8) (hdg : decode cc g.pc = .ok (.invokestatic index, 3)) (hf : cells + mc ≤ R.cells ∧ slots + ms ≤ R.slots) :
    vx_Run p l e R s m args below meth c H locs cells slots mc ms g rest (Qc As.toArray) XC free := by
  have hK : vx_Back l R p e below s args y 3 8 (PreOf R mc ms Pc) (PostOf Qc mc ms free) (vx_Post XC mc ms free) := vx_callBack cw.1 hM hp.1
  obtain ⟨⟨-, -, -, -, -, -, hcode, hini, hy, hlen, hl⟩, hstt⟩ := cw
  obtain ⟨hx, hb, hml, ho, -⟩ := S
  intro T hT X
  rcases vx_callS X hx (bytes := bytes) (maxL := maxL) (ret := ret) ho hl hstt hini hcode hy hK hg (hsize.trans hml.symm) (argsL := As) (rest := rest) (fun sig h => hn.trans (hlen sig h)) hstack hW (by rw [hb]; exact hdg)
    (fun vm₁ hW₁ => ⟨hf.1, hf.2, hp.2 (T.setVm vm₁) hT hW₁⟩) with ⟨v, vm₁, ⟨U', l2, c2, s2⟩, hW₁, X', ⟨g', mk, t, L, e1, e2, hq, h1, hL, h2, h3⟩, st⟩ | ⟨q, vm₁, ⟨U', l2, c2, s2⟩, hW₁, X', ⟨g', mk, t, L, E, ce, e1, e2, hq, hce, hcv, hcl, h1, hL, h2, h3⟩, st⟩
  · dsimp only [Pt.U, Pt.locs, Pt.cells, Pt.slots] at X' e1 e2 h1 h2 h3 st
    subst h1; subst h2; subst h3
    exact Or.inl ⟨v, (T.setVm vm₁).calling g' mk As.toArray, t, U', L, hT, X', hL, e1, e2, hq, st⟩
  · dsimp only [Pt.U, Pt.locs, Pt.cells, Pt.slots] at X' e1 e2 h1 h2 h3 st hcl
    subst h1; subst h2; subst h3
    exact Or.inr ⟨q, (T.setVm vm₁).calling g' mk As.toArray, t, U', L, E, ce, hT, X', hL, e1, e2, hq, hce, hcv, vx_cls hW₁ hcl, st⟩
end Runs
section Rows
variable {p : Program} {l : Launch} {e : Env} {R : Room} {s : State} {m : MethodId} {args : Array Value} {below : List Frame} {meth : Method} {c : Code} {H : Heap} {locs : List Loc} {cells slots : Nat} {Q : State → Prop}
variable {mc ms : Nat} {free : Addr → Prop} {A0 A1 : Nat → Prop} {H0 : Heap} {a : Array Value} {pc : Nat} {ls : Array Slot} {st0 rest : List Value}
theorem vx_keep {st₀ t T' : State} {L : List Loc} (h0 : st₀.heap = H) (e1 : T'.heap = t.heap) (hS : va_S A0 H0 H locs) (hA : ∀ q, q < H.size → A1 q → A0 q) (hf : ∀ q, free q → A0 q) (hL : ∀ q ∈ L, free q.base) (hF : va_F A1 st₀ t) :
    H.size ≤ T'.heap.size ∧ (∀ q : Nat, q < H.size → ¬ A1 q → T'.heap[q]? = H[q]?) ∧ va_S A0 H0 T'.heap (locs ++ L) := by
  obtain ⟨hz, hk⟩ := hF
  rw [h0] at hz hk
  exact ⟨by rw [e1]; exact hz, fun q h1 h2 => by rw [e1]; exact hk q h1 h2,
    ⟨Nat.le_trans hS.1 (by rw [e1]; exact hz), fun q h1 h2 => by rw [e1, hk q (Nat.lt_of_lt_of_le h1 hS.1) (fun z => h2 (hA q (Nat.lt_of_lt_of_le h1 hS.1) z))]; exact hS.2.1 q h1 h2, fun q hq => by
      rcases List.mem_append.mp hq with h | h
      · exact hS.2.2 q h
      · exact hf _ (hL q h)⟩⟩
theorem vx_calli {S SX : Type} {post : Int32 → S → Prop} {px : SX → Prop} {B : S → State → Prop} {BX : String → SX → State → Prop} {AX : Nat → Prop} (hr : vx_Run p l e R s m args below meth c H locs cells slots mc ms (F0 m pc ls st0) rest (va_Qi post B A1 a) (vx_X px BX AX) free) (hS : va_S A0 H0 H locs) (hA : ∀ q, q < H.size → A1 q → A0 q) (hf : ∀ q, free q → A0 q) (hAX : ∀ q, q < H.size → AX q → A0 q)
    (kx : ∀ (E : String) (ce : Cell) (q9 : Addr) (u : SX) (t : State) (H1 : Heap) (locs1 : List Loc), t.heap = H1 → s.vm.Alike t.vm → px u → BX E u t → H.size ≤ H1.size → (∀ q : Nat, q < H.size → ¬ AX q → H1[q]? = H[q]?) → va_S A0 H0 H1 locs1 → H1[q9]? = some ce → ce.vm = .none → s.vm.findClass E = some ce.cls → vx_W p l e R s m args below meth c H1 locs1 (cells + mc) (slots + ms) Q (F0 m pc ls rest) q9)
    (kk : ∀ (r : Int32) (u : S) (t : State) (H1 : Heap) (locs1 : List Loc), t.heap = H1 → s.vm.Alike t.vm → post r u → B u t → H.size ≤ H1.size → (∀ q : Nat, q < H.size → ¬ A1 q → H1[q]? = H[q]?) → va_S A0 H0 H1 locs1 → W p l e R s m args below meth c H1 locs1 (cells + mc) (slots + ms) Q (F0 m (pc + 3) ls (.int r :: rest))) : W p l e R s m args below meth c H locs cells slots Q (F0 m pc ls st0) := by
  intro T hT X
  rcases hr T hT X with ⟨v, st₀, t, T', L, h0, X', hL, e1, e2, ⟨⟨r, u, hv, hp, hb⟩, hF⟩, st⟩ | ⟨q, st₀, t, T', L, E, ce, h0, X', hL, e1, e2, ⟨u, hp, hb, hF⟩, hce, hcv, hcl, st⟩
  · cases hv
    obtain ⟨k1, k2, k3⟩ := vx_keep h0 e1 hS hA hf hL hF
    obtain ⟨t2, a1, b1⟩ := kk r u t T'.heap (locs ++ L) e1.symm (by rw [← e2]; exact X'.warmed.alike) hp hb k1 k2 k3 T' rfl X'
    exact ⟨t2, st t2 a1, b1⟩
  · obtain ⟨k1, k2, k3⟩ := vx_keep h0 e1 hS hAX hf hL hF
    obtain ⟨t2, a1, b1⟩ := kx E ce q u t T'.heap (locs ++ L) e1.symm (by rw [← e2]; exact X'.warmed.alike) hp hb k1 k2 k3 (by rw [e1]; exact hce) hcv hcl T' rfl X'
    exact ⟨t2, st.trans a1, b1⟩
theorem vx_calll {S SX : Type} {post : Int64 → S → Prop} {px : SX → Prop} {B : S → State → Prop} {BX : String → SX → State → Prop} {AX : Nat → Prop} (hr : vx_Run p l e R s m args below meth c H locs cells slots mc ms (F0 m pc ls st0) rest (va_Ql post B A1 a) (vx_X px BX AX) free) (hS : va_S A0 H0 H locs) (hA : ∀ q, q < H.size → A1 q → A0 q) (hf : ∀ q, free q → A0 q) (hAX : ∀ q, q < H.size → AX q → A0 q)
    (kx : ∀ (E : String) (ce : Cell) (q9 : Addr) (u : SX) (t : State) (H1 : Heap) (locs1 : List Loc), t.heap = H1 → s.vm.Alike t.vm → px u → BX E u t → H.size ≤ H1.size → (∀ q : Nat, q < H.size → ¬ AX q → H1[q]? = H[q]?) → va_S A0 H0 H1 locs1 → H1[q9]? = some ce → ce.vm = .none → s.vm.findClass E = some ce.cls → vx_W p l e R s m args below meth c H1 locs1 (cells + mc) (slots + ms) Q (F0 m pc ls rest) q9)
    (kk : ∀ (r : Int64) (u : S) (t : State) (H1 : Heap) (locs1 : List Loc), t.heap = H1 → s.vm.Alike t.vm → post r u → B u t → H.size ≤ H1.size → (∀ q : Nat, q < H.size → ¬ A1 q → H1[q]? = H[q]?) → va_S A0 H0 H1 locs1 → W p l e R s m args below meth c H1 locs1 (cells + mc) (slots + ms) Q (F0 m (pc + 3) ls (.long r :: rest))) : W p l e R s m args below meth c H locs cells slots Q (F0 m pc ls st0) := by
  intro T hT X
  rcases hr T hT X with ⟨v, st₀, t, T', L, h0, X', hL, e1, e2, ⟨⟨r, u, hv, hp, hb⟩, hF⟩, st⟩ | ⟨q, st₀, t, T', L, E, ce, h0, X', hL, e1, e2, ⟨u, hp, hb, hF⟩, hce, hcv, hcl, st⟩
  · cases hv
    obtain ⟨k1, k2, k3⟩ := vx_keep h0 e1 hS hA hf hL hF
    obtain ⟨t2, a1, b1⟩ := kk r u t T'.heap (locs ++ L) e1.symm (by rw [← e2]; exact X'.warmed.alike) hp hb k1 k2 k3 T' rfl X'
    exact ⟨t2, st t2 a1, b1⟩
  · obtain ⟨k1, k2, k3⟩ := vx_keep h0 e1 hS hAX hf hL hF
    obtain ⟨t2, a1, b1⟩ := kx E ce q u t T'.heap (locs ++ L) e1.symm (by rw [← e2]; exact X'.warmed.alike) hp hb k1 k2 k3 (by rw [e1]; exact hce) hcv hcl T' rfl X'
    exact ⟨t2, st.trans a1, b1⟩
theorem vx_callf {S SX : Type} {post : UInt32 → S → Prop} {px : SX → Prop} {B : S → State → Prop} {BX : String → SX → State → Prop} {AX : Nat → Prop} (hr : vx_Run p l e R s m args below meth c H locs cells slots mc ms (F0 m pc ls st0) rest (va_Qf post B A1 a) (vx_X px BX AX) free) (hS : va_S A0 H0 H locs) (hA : ∀ q, q < H.size → A1 q → A0 q) (hf : ∀ q, free q → A0 q) (hAX : ∀ q, q < H.size → AX q → A0 q)
    (kx : ∀ (E : String) (ce : Cell) (q9 : Addr) (u : SX) (t : State) (H1 : Heap) (locs1 : List Loc), t.heap = H1 → s.vm.Alike t.vm → px u → BX E u t → H.size ≤ H1.size → (∀ q : Nat, q < H.size → ¬ AX q → H1[q]? = H[q]?) → va_S A0 H0 H1 locs1 → H1[q9]? = some ce → ce.vm = .none → s.vm.findClass E = some ce.cls → vx_W p l e R s m args below meth c H1 locs1 (cells + mc) (slots + ms) Q (F0 m pc ls rest) q9)
    (kk : ∀ (r : UInt32) (u : S) (t : State) (H1 : Heap) (locs1 : List Loc), t.heap = H1 → s.vm.Alike t.vm → post r u → B u t → H.size ≤ H1.size → (∀ q : Nat, q < H.size → ¬ A1 q → H1[q]? = H[q]?) → va_S A0 H0 H1 locs1 → W p l e R s m args below meth c H1 locs1 (cells + mc) (slots + ms) Q (F0 m (pc + 3) ls (.float r :: rest))) : W p l e R s m args below meth c H locs cells slots Q (F0 m pc ls st0) := by
  intro T hT X
  rcases hr T hT X with ⟨v, st₀, t, T', L, h0, X', hL, e1, e2, ⟨⟨r, u, hv, hp, hb⟩, hF⟩, st⟩ | ⟨q, st₀, t, T', L, E, ce, h0, X', hL, e1, e2, ⟨u, hp, hb, hF⟩, hce, hcv, hcl, st⟩
  · cases hv
    obtain ⟨k1, k2, k3⟩ := vx_keep h0 e1 hS hA hf hL hF
    obtain ⟨t2, a1, b1⟩ := kk r u t T'.heap (locs ++ L) e1.symm (by rw [← e2]; exact X'.warmed.alike) hp hb k1 k2 k3 T' rfl X'
    exact ⟨t2, st t2 a1, b1⟩
  · obtain ⟨k1, k2, k3⟩ := vx_keep h0 e1 hS hAX hf hL hF
    obtain ⟨t2, a1, b1⟩ := kx E ce q u t T'.heap (locs ++ L) e1.symm (by rw [← e2]; exact X'.warmed.alike) hp hb k1 k2 k3 (by rw [e1]; exact hce) hcv hcl T' rfl X'
    exact ⟨t2, st.trans a1, b1⟩
theorem vx_calld {S SX : Type} {post : UInt64 → S → Prop} {px : SX → Prop} {B : S → State → Prop} {BX : String → SX → State → Prop} {AX : Nat → Prop} (hr : vx_Run p l e R s m args below meth c H locs cells slots mc ms (F0 m pc ls st0) rest (va_Qd post B A1 a) (vx_X px BX AX) free) (hS : va_S A0 H0 H locs) (hA : ∀ q, q < H.size → A1 q → A0 q) (hf : ∀ q, free q → A0 q) (hAX : ∀ q, q < H.size → AX q → A0 q)
    (kx : ∀ (E : String) (ce : Cell) (q9 : Addr) (u : SX) (t : State) (H1 : Heap) (locs1 : List Loc), t.heap = H1 → s.vm.Alike t.vm → px u → BX E u t → H.size ≤ H1.size → (∀ q : Nat, q < H.size → ¬ AX q → H1[q]? = H[q]?) → va_S A0 H0 H1 locs1 → H1[q9]? = some ce → ce.vm = .none → s.vm.findClass E = some ce.cls → vx_W p l e R s m args below meth c H1 locs1 (cells + mc) (slots + ms) Q (F0 m pc ls rest) q9)
    (kk : ∀ (r : UInt64) (u : S) (t : State) (H1 : Heap) (locs1 : List Loc), t.heap = H1 → s.vm.Alike t.vm → post r u → B u t → H.size ≤ H1.size → (∀ q : Nat, q < H.size → ¬ A1 q → H1[q]? = H[q]?) → va_S A0 H0 H1 locs1 → W p l e R s m args below meth c H1 locs1 (cells + mc) (slots + ms) Q (F0 m (pc + 3) ls (.double r :: rest))) : W p l e R s m args below meth c H locs cells slots Q (F0 m pc ls st0) := by
  intro T hT X
  rcases hr T hT X with ⟨v, st₀, t, T', L, h0, X', hL, e1, e2, ⟨⟨r, u, hv, hp, hb⟩, hF⟩, st⟩ | ⟨q, st₀, t, T', L, E, ce, h0, X', hL, e1, e2, ⟨u, hp, hb, hF⟩, hce, hcv, hcl, st⟩
  · cases hv
    obtain ⟨k1, k2, k3⟩ := vx_keep h0 e1 hS hA hf hL hF
    obtain ⟨t2, a1, b1⟩ := kk r u t T'.heap (locs ++ L) e1.symm (by rw [← e2]; exact X'.warmed.alike) hp hb k1 k2 k3 T' rfl X'
    exact ⟨t2, st t2 a1, b1⟩
  · obtain ⟨k1, k2, k3⟩ := vx_keep h0 e1 hS hAX hf hL hF
    obtain ⟨t2, a1, b1⟩ := kx E ce q u t T'.heap (locs ++ L) e1.symm (by rw [← e2]; exact X'.warmed.alike) hp hb k1 k2 k3 (by rw [e1]; exact hce) hcv hcl T' rfl X'
    exact ⟨t2, st.trans a1, b1⟩
theorem vx_callv {S SX : Type} {post : S → Prop} {px : SX → Prop} {B : S → State → Prop} {BX : String → SX → State → Prop} {AX : Nat → Prop} (hr : vx_Run p l e R s m args below meth c H locs cells slots mc ms (F0 m pc ls st0) rest (va_Qv post B A1 a) (vx_X px BX AX) free) (hS : va_S A0 H0 H locs) (hA : ∀ q, q < H.size → A1 q → A0 q) (hf : ∀ q, free q → A0 q) (hAX : ∀ q, q < H.size → AX q → A0 q)
    (kx : ∀ (E : String) (ce : Cell) (q9 : Addr) (u : SX) (t : State) (H1 : Heap) (locs1 : List Loc), t.heap = H1 → s.vm.Alike t.vm → px u → BX E u t → H.size ≤ H1.size → (∀ q : Nat, q < H.size → ¬ AX q → H1[q]? = H[q]?) → va_S A0 H0 H1 locs1 → H1[q9]? = some ce → ce.vm = .none → s.vm.findClass E = some ce.cls → vx_W p l e R s m args below meth c H1 locs1 (cells + mc) (slots + ms) Q (F0 m pc ls rest) q9)
    (kk : ∀ (u : S) (t : State) (H1 : Heap) (locs1 : List Loc), t.heap = H1 → s.vm.Alike t.vm → post u → B u t → H.size ≤ H1.size → (∀ q : Nat, q < H.size → ¬ A1 q → H1[q]? = H[q]?) → va_S A0 H0 H1 locs1 → W p l e R s m args below meth c H1 locs1 (cells + mc) (slots + ms) Q (F0 m (pc + 3) ls (rest))) : W p l e R s m args below meth c H locs cells slots Q (F0 m pc ls st0) := by
  intro T hT X
  rcases hr T hT X with ⟨v, st₀, t, T', L, h0, X', hL, e1, e2, ⟨⟨u, hv, hp, hb⟩, hF⟩, st⟩ | ⟨q, st₀, t, T', L, E, ce, h0, X', hL, e1, e2, ⟨u, hp, hb, hF⟩, hce, hcv, hcl, st⟩
  · cases hv
    obtain ⟨k1, k2, k3⟩ := vx_keep h0 e1 hS hA hf hL hF
    obtain ⟨t2, a1, b1⟩ := kk u t T'.heap (locs ++ L) e1.symm (by rw [← e2]; exact X'.warmed.alike) hp hb k1 k2 k3 T' rfl X'
    exact ⟨t2, st t2 a1, b1⟩
  · obtain ⟨k1, k2, k3⟩ := vx_keep h0 e1 hS hAX hf hL hF
    obtain ⟨t2, a1, b1⟩ := kx E ce q u t T'.heap (locs ++ L) e1.symm (by rw [← e2]; exact X'.warmed.alike) hp hb k1 k2 k3 (by rw [e1]; exact hce) hcv hcl T' rfl X'
    exact ⟨t2, st.trans a1, b1⟩
/-- caught by the row x of this method's table; the rows ahead don't take it -/
theorem vx_catch {own name : String} {E : String} {ce : Cell} {q : Addr} (hown : s.vm.findClass own = some m.cls) (pre : List ExceptionTableEntry) (x : ExceptionTableEntry) (suf : List ExceptionTableEntry) (hsplit : c.exceptionTable.toList = pre ++ x :: suf)
    (hpass : ∀ z ∈ pre, covers z pc = false ∨ (z.catchType ≠ 0 ∧ ∃ nm : String, (Cond.classLink own z.catchType nm).before args s = true ∧ va_Nc E nm s)) (hx : covers x pc = true) (h0 : x.catchType ≠ 0)
    (hlink : (Cond.classLink own x.catchType name).before args s = true) (hcast : (Cond.castable E name).before args s = true) (hcell : H[q]? = some ce) (hv : ce.vm = .none) (hcl : s.vm.findClass E = some ce.cls)
    (kk : W p l e R s m args below meth c H locs cells slots Q (F0 m x.handlerPc ls [.ref q])) : vx_W p l e R s m args below meth c H locs cells slots Q (F0 m pc ls rest) q := by
  intro T hT X
  have hpl : e.platform.magicAccessors = ({} : Platform).magicAccessors := by rw [X.admits.platform]
  obtain ⟨c3, c4, hc3, hc4, hasg⟩ := Cond.castable_spec hcast
  cases Option.some.inj (hc3.symm.trans hcl)
  obtain ⟨c5, hc5, hcl5⟩ := Cond.classLink_spec hown hlink e.platform hpl
  cases Option.some.inj (hc4.symm.trans hc5)
  obtain ⟨vm', X', st⟩ := X.thenCaughtThrough q (g := F0 m pc ls rest) rfl (Steps.refl _) (by rw [hT]; exact hcell) (by rw [hv]; rfl) (by obtain ⟨k9, h9, -⟩ := Vm.findClass_spec hcl; exact ⟨k9, h9⟩) pre x suf hsplit
    (fun z hz => by
      rcases hpass z hz with h | ⟨hz0, nm, hl1, hn1⟩
      · exact Or.inl h
      · obtain ⟨c6, hc6, hcl6⟩ := Cond.classLink_spec hown hl1 e.platform hpl
        obtain ⟨a8, b8, h1, h2, h3⟩ := hn1
        cases Option.some.inj (h1.symm.trans hcl)
        cases Option.some.inj (h2.symm.trans hc6)
        exact Or.inr ⟨hz0, _, hcl6, h3⟩) hx (Or.inr ⟨h0, c4, hcl5, hasg⟩)
  obtain ⟨t, a1, b1⟩ := kk (T.setVm vm') hT X'
  exact ⟨t, st.trans a1, b1⟩
end Rows
section Ends
variable {p : Program} {l : Launch} {e : Env} {R : Room} {s : State} {m : MethodId} {args : Array Value} {below : List Frame} {meth : Method} {c : Code} {H : Heap} {locs : List Loc} {cells slots : Nat} {Q : State → Prop}
variable {mc ms : Nat} {free : Addr → Prop} {A0 A1 : Nat → Prop} {H0 : Heap} {a : Array Value} {ls : Array Slot} {st0 rest : List Value}
variable {Qc : Array Value → State → Outcome → State → Prop} {XC : String → State → State → Prop}
/-- what a body that may throw owes at its end -/
def vx_MQ (below : List Frame) (Qc : Array Value → State → Outcome → State → Prop) (XC : String → State → State → Prop) (a : Array Value) (s : State) (mc ms : Nat) (free : Addr → Prop) : State → Prop := fun t =>
  ∃ o, t.status = .running ∧ Ended t below o ∧ vx_Q Qc XC mc ms free a s o t
theorem vx_ret {g : JFrame} {mc ms : Nat} (k : W p l e R s m args below meth c H locs cells slots (MQ below Qc args s mc ms free) g) : W p l e R s m args below meth c H locs cells slots (vx_MQ below Qc XC args s mc ms free) g := by
  intro T hT X
  obtain ⟨t, a1, o, b1, b2, b3, b4⟩ := k T hT X
  exact ⟨t, a1, o, b1, b2, Or.inl ⟨b3, b4⟩⟩
/-- not caught here: it goes on to the caller -/
theorem vx_widen {g : JFrame} {q : Addr} {k n : Nat} (h1 : cells ≤ k) (h2 : slots ≤ n) (kk : vx_W p l e R s m args below meth c H locs k n Q g q) : vx_W p l e R s m args below meth c H locs cells slots Q g q := fun T hT X => kk T hT (stand_widen X h1 h2)
theorem vx_out {pc : Nat} {E : String} {ce : Cell} {q : Addr} {mc ms : Nat} (hout : ∀ x ∈ c.exceptionTable.toList, covers x pc = false) (hlocks : meth.locks = false) (hcell : H[q]? = some ce) (hv : ce.vm = .none) (hcl : s.vm.findClass E = some ce.cls)
    (hx : ∀ t : State, t.heap = H → s.vm.Alike t.vm → XC E s t) (hf : ∀ z ∈ locs, free z.base) (hc : cells ≤ mc) (hs : slots ≤ ms) :
    vx_W p l e R s m args below meth c H locs cells slots (vx_MQ below Qc XC args s mc ms free) (F0 m pc ls rest) q := by
  intro T hT X
  obtain ⟨st1, hrun, hend, hW, hsm⟩ := X.leaveThrown q (g := F0 m pc ls rest) rfl rfl rfl hout hlocks
  have hcell9 : (T.setFrames (.throwing q :: below)).heap[q]? = some ce := by
    show T.heap[q]? = some ce
    rw [hT]; exact hcell
  exact ⟨_, st1, .threw q, hrun, hend, Or.inr ⟨q, rfl, E, ce, locs, hx _ hT hW.alike, hcell9, hv, hcl, hW, hsm.mono hc hs, hf⟩⟩
theorem vx_frame {U : State} {k n : Nat} (h : s.sameButNew ({ U with vm := s.vm } : State) locs k n) : s.heap.size ≤ U.heap.size ∧ ∀ q : Nat, q < s.heap.size → (∀ z ∈ locs, z.base ≠ q) → U.heap[q]? = s.heap[q]? := by
  obtain ⟨-, h2, -, -, -, h6⟩ := h
  refine ⟨h2, fun q hq hz => ?_⟩
  obtain ⟨c9, e1, e2, e3, e4⟩ := h6 q _ (Array.getElem?_eq_getElem hq)
  have hs : c9.slots = (s.heap[q]).slots := Array.ext_getElem? fun i => e4 i fun hm => hz _ hm rfl
  have h9 : c9 = s.heap[q] := by
    rw [hs] at e2
    exact e2
  have e5 : U.heap[q]? = some c9 := e1
  rw [e5, h9, Array.getElem?_eq_getElem hq]
/-- the words of a throw but the four that speak of the heap -/
def vx_no (w : Cond) : Bool := decide (w ≠ .isRef (.static Bundle.tN "UNASSIGNED_STACK" Bundle.steD)) && decide (w ≠ .isRef (.static Bundle.tN "SUPPRESSED_SENTINEL" Bundle.listD)) && decide (w ≠ .laysStatic Bundle.tN "UNASSIGNED_STACK" Bundle.steD) && decide (w ≠ .laysStatic Bundle.tN "SUPPRESSED_SENTINEL" Bundle.listD)
def vx_at0 (own : String) (ic : Nat) (X : String) (names : List String) : List Cond := (Bundle.ownAtoms0 own ic X names).filter vx_no
def vx_atS (own : String) (ic : Nat) (X : String) (names : List String) : List Cond := (Bundle.ownAtoms own ic X names).filter vx_no
/-- a word that the tables alone decide, or a good one -/
def vx_ot (w : Cond) : Bool := w.onTables || goodWord w
theorem vx_ot_at {args a' : Array Value} {s U : State} {w : Cond} (hW : s.WarmedH U.vm) (hvm : s.vm = U.vm) (hg : vx_ot w = true) (h : w.before args s = true) : w.before a' U = true := by
  simp only [vx_ot, Bool.or_eq_true] at hg
  rcases hg with hg | hg
  · exact va_tabs hg hvm h
  · exact word_at hW (good_of_word hg) h
/-- a list's words: the good ones out of the method's own list, the others by premises of their own -/
theorem vx_hat {args : Array Value} {s : State} {L B : List Cond} (h1 : ∀ w ∈ L.filter goodWord, w.before args s = true) (h2 : ∀ w ∈ L.filter (fun w => !goodWord w), w ∈ B) (h3 : ∀ w ∈ B, w.before args s = true) : ∀ w ∈ L, w.before args s = true := by
  intro w hw
  by_cases g : goodWord w = true
  · exact h1 w (List.mem_filter.mpr ⟨hw, g⟩)
  · refine h3 w (h2 w (List.mem_filter.mpr ⟨hw, ?_⟩))
    show (!goodWord w) = true
    cases hgw : goodWord w
    · rfl
    · exact absurd hgw g
theorem vx_c {args : Array Value} {s : State} {w : Cond} {B : List Cond} (h : w.before args s = true) (t : ∀ w ∈ B, w.before args s = true) : ∀ w' ∈ w :: B, w'.before args s = true := fun w' h' => (List.mem_cons.mp h').elim (fun e => by rw [e]; exact h) (t w')
theorem vx_n {args : Array Value} {s : State} : ∀ w ∈ ([] : List Cond), w.before args s = true := fun _ h => nomatch h
theorem vx_own {args : Array Value} {s : State} {L : List Cond} (h1 : ∀ w ∈ L.filter vx_no, w.before args s = true)
    (hU : (Cond.isRef (.static Bundle.tN "UNASSIGNED_STACK" Bundle.steD)).before args s = true) (hN : (Cond.isRef (.static Bundle.tN "SUPPRESSED_SENTINEL" Bundle.listD)).before args s = true)
    (lU : (Cond.laysStatic Bundle.tN "UNASSIGNED_STACK" Bundle.steD).before args s = true) (lN : (Cond.laysStatic Bundle.tN "SUPPRESSED_SENTINEL" Bundle.listD).before args s = true) : ∀ w ∈ L, w.before args s = true := by
  intro w hw
  by_cases e1 : w = .isRef (.static Bundle.tN "UNASSIGNED_STACK" Bundle.steD)
  · rw [e1]; exact hU
  · by_cases e2 : w = .isRef (.static Bundle.tN "SUPPRESSED_SENTINEL" Bundle.listD)
    · rw [e2]; exact hN
    · by_cases e3 : w = .laysStatic Bundle.tN "UNASSIGNED_STACK" Bundle.steD
      · rw [e3]; exact lU
      · by_cases e4 : w = .laysStatic Bundle.tN "SUPPRESSED_SENTINEL" Bundle.listD
        · rw [e4]; exact lN
        · exact h1 w (List.mem_filter.mpr ⟨hw, by unfold vx_no; rw [decide_eq_true e1, decide_eq_true e2, decide_eq_true e3, decide_eq_true e4]; rfl⟩)
/-- where a static field lies, its class's statics cell in H -/
def vx_L (C n d : String) (A : Nat → Prop) (U : State) (H : Heap) : Prop := ∃ (c : ClassId) (k : Class) (i : Nat) (f : Field) (a : Nat) (cell : Cell), U.vm.findClass C = some c ∧ U.fieldFound? C n d = some (c, k, i, f) ∧ f.isStatic = true ∧ k.statics = some a ∧ H[a]? = some cell ∧ cell.vm.isStatics = true ∧ cell.cls = c ∧ f.slot < cell.slots.size ∧ k.staticTypes[f.slot]? = some f.type ∧ ¬ A a
theorem vx_L.moved {C n d : String} {A : Nat → Prop} {u U : State} {H : Heap} (hvm : u.vm.Alike U.vm) (h : vx_L C n d A u H) : vx_L C n d A U H := by
  obtain ⟨c, k, i, f, a, cell, h1, h2, h3, h4, h5, h6, h7, h8, h9, h10⟩ := h
  obtain ⟨k', hi', he⟩ := State.fieldFound?_setVm hvm h2
  exact ⟨c, k', i, f, a, cell, by rw [hvm.findClass]; exact h1, hi', h3, by rw [he]; exact h4, h5, h6, h7, h8, by rw [he]; exact h9, h10⟩
theorem vx_L.kept {C n d : String} {A : Nat → Prop} {U : State} {H H1 : Heap} (h : vx_L C n d A U H) (hq : ∀ a : Nat, a < H.size → ¬ A a → H1[a]? = H[a]?) : vx_L C n d A U H1 := by
  obtain ⟨c, k, i, f, a, cell, h1, h2, h3, h4, h5, h6, h7, h8, h9, h10⟩ := h
  exact ⟨c, k, i, f, a, cell, h1, h2, h3, h4, by rw [hq a (Array.getElem?_eq_some_iff.mp h5).1 h10]; exact h5, h6, h7, h8, h9, h10⟩
theorem vx_L.narrow {C n d : String} {A B : Nat → Prop} {U : State} {H : Heap} (h : vx_L C n d A U H) (hAB : ∀ q, B q → A q) : vx_L C n d B U H := by
  obtain ⟨c, k, i, f, a, cell, h1, h2, h3, h4, h5, h6, h7, h8, h9, h10⟩ := h
  exact ⟨c, k, i, f, a, cell, h1, h2, h3, h4, h5, h6, h7, h8, h9, fun z => h10 (hAB _ z)⟩
theorem vx_L.word {C n d : String} {A : Nat → Prop} {s : State} {args : Array Value} (h : vx_L C n d A s s.heap) : (Cond.laysStatic C n d).before args s = true := by
  obtain ⟨c, k, i, f, a, cell, h1, h2, h3, h4, h5, h6, h7, h8, h9, -⟩ := h
  show (Cond.laysStatic C n d).holds args s none s [] = true
  exact Cond.laysStatic_of h1 h2 h3 h4 h5 h6 h7 h8 h9
/-- .. and what it holds: null or some reference -/
def vx_Zq (C n d : String) (A : Nat → Prop) (U : State) (H : Heap) : Prop := va_Zq C n d A U H ∧ vx_L C n d A U H
theorem vx_Zq.moved {C n d : String} {A : Nat → Prop} {u U : State} {H : Heap} (hvm : u.vm.Alike U.vm) (h : vx_Zq C n d A u H) : vx_Zq C n d A U H := ⟨va_Zq.moved hvm h.1, vx_L.moved hvm h.2⟩
theorem vx_Zq.kept {C n d : String} {A : Nat → Prop} {U : State} {H H1 : Heap} (h : vx_Zq C n d A U H) (hq : ∀ a : Nat, a < H.size → ¬ A a → H1[a]? = H[a]?) : vx_Zq C n d A U H1 := ⟨va_Zq.kept h.1 hq, vx_L.kept h.2 hq⟩
theorem vx_Zq.narrow {C n d : String} {A B : Nat → Prop} {U : State} {H : Heap} (h : vx_Zq C n d A U H) (hAB : ∀ q, B q → A q) : vx_Zq C n d B U H := ⟨va_Zq.narrow h.1 hAB, vx_L.narrow h.2 hAB⟩
theorem vx_Zqof {args : Array Value} {s : State} {C n d : String} {A : Nat → Prop} (hl : (Cond.laysStatic C n d).before args s = true) (hini : (Cond.initialized C).before args s = true) (h : (Cond.isRef (.static C n d)).before args s = true) (hA : ∀ a : Nat, a < s.heap.size → ¬ A a) : vx_Zq C n d A s s.heap := by
  refine ⟨va_Zqof hl hini h hA, ?_⟩
  obtain ⟨c, k, i, f, a, cell, h1, h2, h3, h4, h5, h6, h7, h8, h9⟩ := Cond.laysStatic_spec hl
  exact ⟨c, k, i, f, a, cell, h1, h2, h3, h4, h5, h6, h7, h8, h9, hA a (Array.getElem?_eq_some_iff.mp h5).1⟩
theorem vx_isRef {C n d : String} {v : Value} {A : Nat → Prop} {s : State} {args : Array Value} (h : va_Z C n d v A s s.heap) (hv : v.isRef = true) : (Cond.isRef (.static C n d)).before args s = true := by
  obtain ⟨cf, kf, fi, f, a, cell, h1, h2, h3, h4, h5, h6, h7, -⟩ := h
  have he : (Term.static C n d).eval args s none [] s = some v := by
    simp [Term.eval, State.fieldNamed?, h1, h2, h4, h5, h6, h7]
  simp only [Cond.before, Cond.holds, Cond.value, he]
  cases v <;> simp_all [Value.isRef]
theorem vx_isRefq {C n d : String} {A : Nat → Prop} {s : State} {args : Array Value} (h : va_Zq C n d A s s.heap) : (Cond.isRef (.static C n d)).before args s = true := by
  rcases h with h | ⟨t, h⟩
  · exact vx_isRef h rfl
  · exact vx_isRef h rfl
/-- the same frame, seen from here: as if the method were called anew in this heap -/
theorem vx_rebase {T : State} (X : Stand p l e R s m args below meth c T locs cells slots) {R' : Room} (hf : R'.frames ≤ R.frames) (hl : R'.locals ≤ R.locals) (hc : cells + R'.cells ≤ R.cells) (hs : slots + R'.slots ≤ R.slots) :
    Stand p l e R' ((T.setVm s.vm).setFrames (.invoking m args :: below)) m args below meth c T [] 0 0 := by
  have htop : (T.setVm s.vm).topJava?.isSome := X.here.top
  have hF : ((T.setVm s.vm).setFrames (.invoking m args :: below)).frames = .invoking m args :: below := State.frames_setFrames _ (State.cur_lt_of_top htop)
  obtain ⟨g₀, hg0⟩ := Option.isSome_iff_exists.mp htop
  obtain ⟨r, hr⟩ := State.topJava?_eq_some.mp hg0
  have hl9 : e.platform.stackLimits (T.setVm s.vm).me = e.platform.stackLimits s.me := X.limits
  have hb9 : (T.setVm s.vm).me.stackBytes = s.me.stackBytes := X.bytes
  refine ⟨X.admits, X.cas, X.clock, hF, ?_, X.hears, X.method, X.code, X.here, X.tail, X.warmed, ?_, ?_, ?_⟩
  · have h := X.room
    have hU : ((T.setVm s.vm).setFrames (.invoking m args :: below)).localsInUse = s.localsInUse := by
      rw [State.localsInUse_invoking hF (meth := meth) (c := c) X.method X.code, State.localsInUse_invoking X.frames X.method X.code]
    simp only [State.hasRoom, Bool.and_eq_true, decide_eq_true_eq] at h ⊢
    obtain ⟨⟨⟨⟨h1, h2, h3, h4, h5, h6⟩, h7⟩, h8⟩, h9⟩ := h
    rw [X.frames, List.length_cons] at h2 h3
    have q1 := X.heapSize
    have q2 := X.used
    simp only [hF, hU, List.length_cons, State.stackLimits_setFrames, State.stackBytes_setFrames, hl9, hb9]
    refine ⟨⟨⟨⟨by omega, by omega, by omega, by omega, by omega, h6⟩, ?_⟩, ?_⟩, X.book⟩
    · show T.heap.size + R'.cells ≤ e.platform.maxCells
      omega
    · show T.slotsUsed + R'.slots ≤ e.platform.maxSlots
      omega
  · rw [State.stackLimits_setFrames]; rfl
  · rw [State.stackBytes_setFrames]; rfl
  · refine ⟨?_, Nat.le_refl _, Nat.le_refl _, ?_, ?_, fun a c9 h9 => ⟨c9, h9, rfl, rfl, fun _ _ => rfl⟩⟩
    · obtain ⟨t, ht, -⟩ := State.frames_cons hr
      show T.setVm s.vm = { ((T.setVm s.vm).setFrames (.invoking m args :: below)).setFrames (T.setVm s.vm).frames with heap := T.heap, slotsUsed := T.slotsUsed }
      rw [State.setFrames_setFrames, State.setFrames_self ht]
      rfl
    · show T.slotsUsed = T.slotsUsed + ((T.heap.toList.drop T.heap.size).map (·.slots.size)).sum
      rw [List.drop_eq_nil_of_le (Nat.le_of_eq Array.length_toList)]
      rfl
    · show ((T.heap.toList.drop T.heap.size).map (·.slots.size)).sum ≤ 0
      rw [List.drop_eq_nil_of_le (Nat.le_of_eq Array.length_toList)]
      exact Nat.le_refl _
/-- 'throw new E()': new; dup; invokespecial; athrow -/
theorem vx_throw0 {cc : ByteArray} {pc : Nat} (hexec : p.tables.exec = Jvm.exec) (hb : c.code = cc) (hl : l.stackTraces = false) {own cls : String} {names : List String} {ik ic mc ms : Nat} {A : Nat → Prop}
    (hown : s.vm.findClass own = some m.cls) (hcls : Bundle.fit cls = true) (hnames : ∀ n ∈ names, Bundle.fit n = true)
    (hk : (Cond.classLink own ik cls).before args s = true) (hini : (Cond.initialized cls).before args s = true) (hat : ∀ w ∈ vx_at0 own ic cls names, w.before args s = true)
    (hgood : ∀ w ∈ Cond.classLink own ik cls :: Cond.initialized cls :: vx_at0 own ic cls names, vx_ot w = true)
    (hU : vx_Zq Bundle.tN "UNASSIGNED_STACK" Bundle.steD A s s.heap) (hN : vx_Zq Bundle.tN "SUPPRESSED_SENTINEL" Bundle.listD A s s.heap) (hS : va_S A s.heap H locs) (hsize : ls.size = c.maxLocals)
    (d0 : decode cc pc = .ok (.new ik, 3)) (d3 : decode cc (pc + 3) = .ok (.dup, 1)) (d4 : decode cc (pc + 4) = .ok (.invokespecial ic, 3)) (d7 : decode cc (pc + 7) = .ok (.athrow, 1))
    (hout : ∀ x ∈ c.exceptionTable.toList, covers x (pc + 7) = false)
    (hRframes : names.length + 3 < R.frames) (hRlocals : (rest.map fun v => v.category).sum + (13 * (names.length + 1) + 42) ≤ R.locals) (hRcells : cells + 1 ≤ R.cells) (hRslots : slots + 6 ≤ R.slots) (hlocks : meth.locks = false)
    (hx : ∀ t : State, s.vm.Alike t.vm → H.size ≤ t.heap.size → (∀ q : Nat, q < H.size → t.heap[q]? = H[q]?) → XC cls s t)
    (hf : ∀ z ∈ locs, free z.base) (hc : cells + 1 ≤ mc) (hs : slots + 6 ≤ ms) :
    W p l e R s m args below meth c H locs cells slots (vx_MQ below Qc XC args s mc ms free) (F0 m pc ls rest) := by
  intro T hT X
  have htr : e.platform.stackTraces = false := (show e.platform.stackTraces = l.stackTraces by rw [X.admits.platform]).trans hl
  have Y := vx_rebase X (R' := { frames := R.frames, locals := R.locals, cells := 1, slots := 6 }) (Nat.le_refl _) (Nat.le_refl _) hRcells hRslots
  obtain ⟨s', hA⟩ : ∃ z, z = (T.setVm s.vm).setFrames (.invoking m args :: below) := ⟨_, rfl⟩
  rw [← hA] at Y
  have hvm : s'.vm = s.vm := by rw [hA]; rfl
  have hhp : s'.heap = H := by rw [hA]; exact hT
  have hW0 : s.WarmedH s'.vm := by rw [hvm]; exact State.WarmedH.refl s
  have hat' : ∀ w ∈ vx_at0 own ic cls names, w.before args s' = true := fun w hw => vx_ot_at hW0 hvm.symm (hgood w (List.mem_cons_of_mem _ (List.mem_cons_of_mem _ hw))) (hat w hw)
  have hk' : (Cond.classLink own ik cls).before args s' = true := vx_ot_at hW0 hvm.symm (hgood _ List.mem_cons_self) hk
  have hini' : (Cond.initialized cls).before args s' = true := vx_ot_at hW0 hvm.symm (hgood _ (List.mem_cons_of_mem _ List.mem_cons_self)) hini
  have hU' : vx_Zq Bundle.tN "UNASSIGNED_STACK" Bundle.steD A s' s'.heap := by rw [hhp]; exact vx_Zq.moved hW0.alike (hU.kept hS.2.1)
  have hN' : vx_Zq Bundle.tN "SUPPRESSED_SENTINEL" Bundle.listD A s' s'.heap := by rw [hhp]; exact vx_Zq.moved hW0.alike (hN.kept hS.2.1)
  have h : ∀ w ∈ Bundle.ownAtoms0 own ic cls names, w.before args s' = true := vx_own hat' (vx_isRefq hU'.1) (vx_isRefq hN'.1) hU'.2.word hN'.2.word
  have hown' : s'.vm.findClass own = some m.cls := by rw [hvm]; exact hown
  have hins : (Cond.instantiable cls 6).before args s' = true := h _ (by simp [Bundle.ownAtoms0])
  obtain ⟨vm₁, cX, kX, hfX, hkX, -, -, X₁, st1⟩ := Y.newCold hexec (own := own) (C := cls) (index := ik) (n := 6) hown' hk' hins hini'
    (g := F0 m pc ls rest) rfl (by rw [hb]; exact d0) (Nat.le_refl _) (Nat.le_refl _)
  generalize hT1 : (T.setVm vm₁).pushCell { cls := cX, slots := kX.instanceTypes.map defaultValue, vm := .none } = T1 at X₁ st1
  have hcat : (Value.ref T.heap.size).category = 1 := rfl
  have hcellA : T1.heap[T.heap.size]? = some (freshCell cX kX) := by rw [← hT1]; exact State.heap_pushCell_size _ _
  have d3' : decode c.code (pc + 3) = .ok (.dup, 1) := by rw [hb]; exact d3
  obtain ⟨U, hsteps, hrun, hend, hW, hsame, ce, hce, hO⟩ := X₁.ctorThrow0 hexec htr (own := own) (cls := cls) (names := names) (ic := ic) hown' hcls hnames h (fun x hx => nomatch hx) hfX hkX hcellA (by rw [hhp, hT]; exact Nat.le_refl _)
    (g := { method := m, pc := pc + 4, locals := ls, stack := .ref T.heap.size :: .ref T.heap.size :: rest, locked := none }) rfl hsize rfl rfl (rest := rest) rfl
    (by rw [hb]; exact d4) (by rw [hb]; exact d7) hout hRframes (by simp only [List.map_cons, List.sum_cons, hcat]; omega) hlocks
  obtain ⟨f1, f2⟩ := vx_frame hsame
  rw [hhp] at f1 f2
  have hWs : s.WarmedH U.vm := State.WarmedH.trans hW0 hW
  have hcl : s.vm.findClass cls = some ce.cls := by
    have h9 := hO.cls
    rw [hvm] at h9
    exact h9
  have hall : s.sameButNew ({ U with vm := s.vm } : State) locs mc ms := by
    subst hA
    obtain ⟨e1, e2⟩ := hsame
    rw [State.setFrames_setFrames] at e1
    have h2 : (T.setVm s.vm).sameButNew ({ U with vm := s.vm } : State) [] (0 + 1) (0 + 6) := ⟨e1, e2⟩
    have h3 := X.same.trans h2
    rw [List.append_nil] at h3
    exact h3.mono hc hs
  refine ⟨U, ?_, .threw T.heap.size, hrun, hend, Or.inr ⟨T.heap.size, rfl, cls, ce, locs, hx U hWs.alike f1 (fun q hq => f2 q hq (fun z hz => nomatch hz)), hce, hO.vm, hcl, hWs, hall, hf⟩⟩
  refine st1 _ ?_
  show Steps p.tables e below (T1.setTop { method := m, pc := pc + 3, locals := ls, stack := .ref T.heap.size :: rest, locked := none }) _
  jvm_step X₁.here [X₁.here.top, hexec, d3', Value.category]
  exact hsteps
/-- 'throw new E("text")': new; dup; ldc; invokespecial; athrow -/
theorem vx_throwS {cc : ByteArray} {pc : Nat} (hexec : p.tables.exec = Jvm.exec) (hb : c.code = cc) (hl : l.stackTraces = false) {own cls text : String} {names : List String} {ik is ic mc ms sa : Nat} {A : Nat → Prop}
    (hown : s.vm.findClass own = some m.cls) (hcls : Bundle.fit cls = true) (hnames : ∀ n ∈ names, Bundle.fit n = true)
    (hk : (Cond.classLink own ik cls).before args s = true) (hini : (Cond.initialized cls).before args s = true) (hstr : vk_R own is text sa s) (hat : ∀ w ∈ vx_atS own ic cls names, w.before args s = true)
    (hgood : ∀ w ∈ Cond.classLink own ik cls :: Cond.initialized cls :: vx_atS own ic cls names, vx_ot w = true)
    (hU : vx_Zq Bundle.tN "UNASSIGNED_STACK" Bundle.steD A s s.heap) (hN : vx_Zq Bundle.tN "SUPPRESSED_SENTINEL" Bundle.listD A s s.heap) (hS : va_S A s.heap H locs) (hsize : ls.size = c.maxLocals)
    (d0 : decode cc pc = .ok (.new ik, 3)) (d3 : decode cc (pc + 3) = .ok (.dup, 1)) (d4 : decode cc (pc + 4) = .ok (.ldc is, 2)) (d6 : decode cc (pc + 6) = .ok (.invokespecial ic, 3)) (d9 : decode cc (pc + 9) = .ok (.athrow, 1))
    (hout : ∀ x ∈ c.exceptionTable.toList, covers x (pc + 9) = false)
    (hRframes : names.length + 3 < R.frames) (hRlocals : (rest.map fun v => v.category).sum + (13 * (names.length + 1) + 43) ≤ R.locals) (hRcells : cells + 1 ≤ R.cells) (hRslots : slots + 6 ≤ R.slots) (hlocks : meth.locks = false)
    (hx : ∀ t : State, s.vm.Alike t.vm → H.size ≤ t.heap.size → (∀ q : Nat, q < H.size → t.heap[q]? = H[q]?) → XC cls s t)
    (hf : ∀ z ∈ locs, free z.base) (hc : cells + 1 ≤ mc) (hs : slots + 6 ≤ ms) :
    W p l e R s m args below meth c H locs cells slots (vx_MQ below Qc XC args s mc ms free) (F0 m pc ls rest) := by
  intro T hT X
  have htr : e.platform.stackTraces = false := (show e.platform.stackTraces = l.stackTraces by rw [X.admits.platform]).trans hl
  have Y := vx_rebase X (R' := { frames := R.frames, locals := R.locals, cells := 1, slots := 6 }) (Nat.le_refl _) (Nat.le_refl _) hRcells hRslots
  obtain ⟨s', hA⟩ : ∃ z, z = (T.setVm s.vm).setFrames (.invoking m args :: below) := ⟨_, rfl⟩
  rw [← hA] at Y
  have hvm : s'.vm = s.vm := by rw [hA]; rfl
  have hhp : s'.heap = H := by rw [hA]; exact hT
  have hW0 : s.WarmedH s'.vm := by rw [hvm]; exact State.WarmedH.refl s
  have hat' : ∀ w ∈ vx_atS own ic cls names, w.before args s' = true := fun w hw => vx_ot_at hW0 hvm.symm (hgood w (List.mem_cons_of_mem _ (List.mem_cons_of_mem _ hw))) (hat w hw)
  have hk' : (Cond.classLink own ik cls).before args s' = true := vx_ot_at hW0 hvm.symm (hgood _ List.mem_cons_self) hk
  have hini' : (Cond.initialized cls).before args s' = true := vx_ot_at hW0 hvm.symm (hgood _ (List.mem_cons_of_mem _ List.mem_cons_self)) hini
  have hU' : vx_Zq Bundle.tN "UNASSIGNED_STACK" Bundle.steD A s' s'.heap := by rw [hhp]; exact vx_Zq.moved hW0.alike (hU.kept hS.2.1)
  have hN' : vx_Zq Bundle.tN "SUPPRESSED_SENTINEL" Bundle.listD A s' s'.heap := by rw [hhp]; exact vx_Zq.moved hW0.alike (hN.kept hS.2.1)
  have h : ∀ w ∈ Bundle.ownAtoms own ic cls names, w.before args s' = true := vx_own hat' (vx_isRefq hU'.1) (vx_isRefq hN'.1) hU'.2.word hN'.2.word
  have hown' : s'.vm.findClass own = some m.cls := by rw [hvm]; exact hown
  have hins : (Cond.instantiable cls 6).before args s' = true := h _ (by simp [Bundle.ownAtoms])
  obtain ⟨vm₁, cX, kX, hfX, hkX, -, -, X₁, st1⟩ := Y.newCold hexec (own := own) (C := cls) (index := ik) (n := 6) hown' hk' hins hini'
    (g := F0 m pc ls rest) rfl (by rw [hb]; exact d0) (Nat.le_refl _) (Nat.le_refl _)
  generalize hT1 : (T.setVm vm₁).pushCell { cls := cX, slots := kX.instanceTypes.map defaultValue, vm := .none } = T1 at X₁ st1
  have hcat : (Value.ref T.heap.size).category = 1 := rfl
  have hcellA : T1.heap[T.heap.size]? = some (freshCell cX kX) := by rw [← hT1]; exact State.heap_pushCell_size _ _
  have d3' : decode c.code (pc + 3) = .ok (.dup, 1) := by rw [hb]; exact d3
  have d4' : decode c.code (pc + 4) = .ok (.ldc is, 2) := by rw [hb]; exact d4
  have hstr' : vk_R own is text sa s' := vk_R.warm hW0 hstr
  obtain ⟨U, hsteps, hrun, hend, hW, hsame, ce, hce, hO⟩ := X₁.ctorThrowS hexec htr (own := own) (cls := cls) (names := names) (ic := ic) hown' hcls hnames h (fun x hx => nomatch hx) hfX hkX hcellA (by rw [hhp, hT]; exact Nat.le_refl _) (msg := .ref sa) rfl
    (g := { method := m, pc := pc + 6, locals := ls, stack := .ref sa :: .ref T.heap.size :: .ref T.heap.size :: rest, locked := none }) rfl hsize rfl rfl (rest := rest) rfl
    (by rw [hb]; exact d6) (by rw [hb]; exact d9) hout hRframes (by simp only [List.map_cons, List.sum_cons, hcat]; omega) hlocks
  obtain ⟨f1, f2⟩ := vx_frame hsame
  rw [hhp] at f1 f2
  have hWs : s.WarmedH U.vm := State.WarmedH.trans hW0 hW
  have hcl : s.vm.findClass cls = some ce.cls := by
    have h9 := hO.cls
    rw [hvm] at h9
    exact h9
  have hall : s.sameButNew ({ U with vm := s.vm } : State) locs mc ms := by
    subst hA
    obtain ⟨e1, e2⟩ := hsame
    rw [State.setFrames_setFrames] at e1
    have h2 : (T.setVm s.vm).sameButNew ({ U with vm := s.vm } : State) [] (0 + 1) (0 + 6) := ⟨e1, e2⟩
    have h3 := X.same.trans h2
    rw [List.append_nil] at h3
    exact h3.mono hc hs
  refine ⟨U, ?_, .threw T.heap.size, hrun, hend, Or.inr ⟨T.heap.size, rfl, cls, ce, locs, hx U hWs.alike f1 (fun q hq => f2 q hq (fun z hz => nomatch hz)), hce, hO.vm, hcl, hWs, hall, hf⟩⟩
  refine st1 _ ?_
  show Steps p.tables e below (T1.setTop { method := m, pc := pc + 3, locals := ls, stack := .ref T.heap.size :: rest, locked := none }) _
  jvm_step X₁.here [X₁.here.top, hexec, d3', Value.category]
  exact X₁.ldcString hexec (own := own) (text := text) (index := is) (a := sa) hown' hstr'.1 hstr'.2
    (g := { method := m, pc := pc + 4, locals := ls, stack := .ref T.heap.size :: .ref T.heap.size :: rest, locked := none }) rfl d4' _ hsteps
/-- 'throw new E("text")', the text by a wide index -/
theorem vx_throwSW {cc : ByteArray} {pc : Nat} (hexec : p.tables.exec = Jvm.exec) (hb : c.code = cc) (hl : l.stackTraces = false) {own cls text : String} {names : List String} {ik is ic mc ms sa : Nat} {A : Nat → Prop}
    (hown : s.vm.findClass own = some m.cls) (hcls : Bundle.fit cls = true) (hnames : ∀ n ∈ names, Bundle.fit n = true)
    (hk : (Cond.classLink own ik cls).before args s = true) (hini : (Cond.initialized cls).before args s = true) (hstr : vk_R own is text sa s) (hat : ∀ w ∈ vx_atS own ic cls names, w.before args s = true)
    (hgood : ∀ w ∈ Cond.classLink own ik cls :: Cond.initialized cls :: vx_atS own ic cls names, vx_ot w = true)
    (hU : vx_Zq Bundle.tN "UNASSIGNED_STACK" Bundle.steD A s s.heap) (hN : vx_Zq Bundle.tN "SUPPRESSED_SENTINEL" Bundle.listD A s s.heap) (hS : va_S A s.heap H locs) (hsize : ls.size = c.maxLocals)
    (d0 : decode cc pc = .ok (.new ik, 3)) (d3 : decode cc (pc + 3) = .ok (.dup, 1)) (d4 : decode cc (pc + 4) = .ok (.ldc_w is, 3)) (d7 : decode cc (pc + 7) = .ok (.invokespecial ic, 3)) (d10 : decode cc (pc + 10) = .ok (.athrow, 1))
    (hout : ∀ x ∈ c.exceptionTable.toList, covers x (pc + 10) = false)
    (hRframes : names.length + 3 < R.frames) (hRlocals : (rest.map fun v => v.category).sum + (13 * (names.length + 1) + 43) ≤ R.locals) (hRcells : cells + 1 ≤ R.cells) (hRslots : slots + 6 ≤ R.slots) (hlocks : meth.locks = false)
    (hx : ∀ t : State, s.vm.Alike t.vm → H.size ≤ t.heap.size → (∀ q : Nat, q < H.size → t.heap[q]? = H[q]?) → XC cls s t)
    (hf : ∀ z ∈ locs, free z.base) (hc : cells + 1 ≤ mc) (hs : slots + 6 ≤ ms) :
    W p l e R s m args below meth c H locs cells slots (vx_MQ below Qc XC args s mc ms free) (F0 m pc ls rest) := by
  intro T hT X
  have htr : e.platform.stackTraces = false := (show e.platform.stackTraces = l.stackTraces by rw [X.admits.platform]).trans hl
  have Y := vx_rebase X (R' := { frames := R.frames, locals := R.locals, cells := 1, slots := 6 }) (Nat.le_refl _) (Nat.le_refl _) hRcells hRslots
  obtain ⟨s', hA⟩ : ∃ z, z = (T.setVm s.vm).setFrames (.invoking m args :: below) := ⟨_, rfl⟩
  rw [← hA] at Y
  have hvm : s'.vm = s.vm := by rw [hA]; rfl
  have hhp : s'.heap = H := by rw [hA]; exact hT
  have hW0 : s.WarmedH s'.vm := by rw [hvm]; exact State.WarmedH.refl s
  have hat' : ∀ w ∈ vx_atS own ic cls names, w.before args s' = true := fun w hw => vx_ot_at hW0 hvm.symm (hgood w (List.mem_cons_of_mem _ (List.mem_cons_of_mem _ hw))) (hat w hw)
  have hk' : (Cond.classLink own ik cls).before args s' = true := vx_ot_at hW0 hvm.symm (hgood _ List.mem_cons_self) hk
  have hini' : (Cond.initialized cls).before args s' = true := vx_ot_at hW0 hvm.symm (hgood _ (List.mem_cons_of_mem _ List.mem_cons_self)) hini
  have hU' : vx_Zq Bundle.tN "UNASSIGNED_STACK" Bundle.steD A s' s'.heap := by rw [hhp]; exact vx_Zq.moved hW0.alike (hU.kept hS.2.1)
  have hN' : vx_Zq Bundle.tN "SUPPRESSED_SENTINEL" Bundle.listD A s' s'.heap := by rw [hhp]; exact vx_Zq.moved hW0.alike (hN.kept hS.2.1)
  have h : ∀ w ∈ Bundle.ownAtoms own ic cls names, w.before args s' = true := vx_own hat' (vx_isRefq hU'.1) (vx_isRefq hN'.1) hU'.2.word hN'.2.word
  have hown' : s'.vm.findClass own = some m.cls := by rw [hvm]; exact hown
  have hins : (Cond.instantiable cls 6).before args s' = true := h _ (by simp [Bundle.ownAtoms])
  obtain ⟨vm₁, cX, kX, hfX, hkX, -, -, X₁, st1⟩ := Y.newCold hexec (own := own) (C := cls) (index := ik) (n := 6) hown' hk' hins hini'
    (g := F0 m pc ls rest) rfl (by rw [hb]; exact d0) (Nat.le_refl _) (Nat.le_refl _)
  generalize hT1 : (T.setVm vm₁).pushCell { cls := cX, slots := kX.instanceTypes.map defaultValue, vm := .none } = T1 at X₁ st1
  have hcat : (Value.ref T.heap.size).category = 1 := rfl
  have hcellA : T1.heap[T.heap.size]? = some (freshCell cX kX) := by rw [← hT1]; exact State.heap_pushCell_size _ _
  have d3' : decode c.code (pc + 3) = .ok (.dup, 1) := by rw [hb]; exact d3
  have d4' : decode c.code (pc + 4) = .ok (.ldc_w is, 3) := by rw [hb]; exact d4
  have hstr' : vk_R own is text sa s' := vk_R.warm hW0 hstr
  obtain ⟨U, hsteps, hrun, hend, hW, hsame, ce, hce, hO⟩ := X₁.ctorThrowS hexec htr (own := own) (cls := cls) (names := names) (ic := ic) hown' hcls hnames h (fun x hx => nomatch hx) hfX hkX hcellA (by rw [hhp, hT]; exact Nat.le_refl _) (msg := .ref sa) rfl
    (g := { method := m, pc := pc + 7, locals := ls, stack := .ref sa :: .ref T.heap.size :: .ref T.heap.size :: rest, locked := none }) rfl hsize rfl rfl (rest := rest) rfl
    (by rw [hb]; exact d7) (by rw [hb]; exact d10) hout hRframes (by simp only [List.map_cons, List.sum_cons, hcat]; omega) hlocks
  obtain ⟨f1, f2⟩ := vx_frame hsame
  rw [hhp] at f1 f2
  have hWs : s.WarmedH U.vm := State.WarmedH.trans hW0 hW
  have hcl : s.vm.findClass cls = some ce.cls := by
    have h9 := hO.cls
    rw [hvm] at h9
    exact h9
  have hall : s.sameButNew ({ U with vm := s.vm } : State) locs mc ms := by
    subst hA
    obtain ⟨e1, e2⟩ := hsame
    rw [State.setFrames_setFrames] at e1
    have h2 : (T.setVm s.vm).sameButNew ({ U with vm := s.vm } : State) [] (0 + 1) (0 + 6) := ⟨e1, e2⟩
    have h3 := X.same.trans h2
    rw [List.append_nil] at h3
    exact h3.mono hc hs
  refine ⟨U, ?_, .threw T.heap.size, hrun, hend, Or.inr ⟨T.heap.size, rfl, cls, ce, locs, hx U hWs.alike f1 (fun q hq => f2 q hq (fun z hz => nomatch hz)), hce, hO.vm, hcl, hWs, hall, hf⟩⟩
  refine st1 _ ?_
  show Steps p.tables e below (T1.setTop { method := m, pc := pc + 3, locals := ls, stack := .ref T.heap.size :: rest, locked := none }) _
  jvm_step X₁.here [X₁.here.top, hexec, d3', Value.category]
  exact X₁.ldcStringW hexec (own := own) (text := text) (index := is) (a := sa) hown' hstr'.1 hstr'.2
    (g := { method := m, pc := pc + 4, locals := ls, stack := .ref T.heap.size :: .ref T.heap.size :: rest, locked := none }) rfl d4' _ hsteps
end Ends
section Bodies
variable {l : Launch}
theorem vx_ofW {y : MethodName} {ws ws' : List Cond} {rm : Room} {Pc : Array Value → State → Prop} {Qc : Array Value → State → Outcome → State → Prop} {XC : String → State → State → Prop} {mc ms : Nat} {free : Addr → Prop} {cc : ByteArray} {maxL : Nat} {ret : Option FieldType}
    (hy : plainName y.cls = true) (hw : ws = Cond.code y cc maxL ret :: ws')
    (body : ∀ p e s m args below meth c s₁, BodyLoose p l y (headSpec ws rm) cc maxL ret e s m args below meth c s₁ → c.maxLocals = maxL → (∀ x ∈ c.exceptionTable.toList, False) → Pc args s →
      W p l e (headSpec ws rm).room s m args below meth c s.heap [] 0 0 (vx_MQ below Qc XC args s mc ms free) (entryFrame m args maxL)) : vx_Met l y ws rm Pc Qc XC mc ms free := by
  refine MetFree.of_bodyS (code := cc) (maxLocals := maxL) (ret := ret) hy ?_ ?_
  · intro args s m h hn
    obtain ⟨meth, c, h1, h2, h3, h4, h5, h6, -, -⟩ := Cond.code_spec hn (atoms_spec (ws := ws) h _ (by rw [hw]; exact List.mem_cons_self))
    exact ⟨meth, c, h1, h2, h3, h4, h5, h6⟩
  · intro p e s m args below meth c s₁ B hml hP _
    have hh0 : s₁.heap = s.heap := by rw [B.state]; rfl
    have ht : ∀ x ∈ c.exceptionTable.toList, False := by
      obtain ⟨meth9, c9, h1, h2, -, -, -, -, h7, -⟩ := Cond.code_spec B.named (atoms_spec (ws := ws) B.pre _ (by rw [hw]; exact List.mem_cons_self))
      cases Option.some.inj (h1.symm.trans B.method)
      cases Option.some.inj (h2.symm.trans (Stand.of_body B).code)
      intro x hx
      rw [Array.isEmpty_iff.mp h7] at hx
      cases hx
    obtain ⟨t, a1, o, b1, b2, b3⟩ := body p e s m args below meth c s₁ B hml ht hP s₁ hh0 (Stand.of_body B)
    exact ⟨t, o, a1, b1, b2, b3⟩
/-- the table of a body with handlers -/
theorem vx_table {p : Program} {x y : MethodName} {S : Spec} {cc bytes : ByteArray} {maxL maxL' : Nat} {ret ret' : Option FieldType} {e : Env} {s s₁ : State} {m : MethodId} {args : Array Value} {below : List Frame} {meth : Method} {c : Code} {hh : List (Nat × Nat × Nat × Nat)}
    (B : BodyLoose p l y S cc maxL ret e s m args below meth c s₁) (h : (Cond.codeWith y bytes maxL' ret' hh).before args s = true) : c.exceptionTable.toList = tableOf hh := by
  obtain ⟨m9, meth9, c9, hn9, h1, h2, -, -, h6, -⟩ := Cond.codeWith_spec h
  cases Option.some.inj (hn9.symm.trans B.named)
  cases Option.some.inj (h1.symm.trans B.method)
  cases Option.some.inj (h2.symm.trans (Stand.of_body B).code)
  rw [← h6, table_eq]
end Bodies
end VXA
/-! ===== END ===== -/
/-! ===== BEGIN a static call of a method with an exception table ===== -/
section VXS
variable {p : Program} {l : Launch} {e : Env} {R : Room} {s : State} {m : MethodId} {args : Array Value} {below : List Frame} {meth : Method} {c : Code} {T : State} {H : Heap} {locs : List Loc} {cells slots : Nat}
abbrev vx_CSW (R : Room) (s : State) (args : Array Value) (own : String) (index : Nat) (y : MethodName) (bytes : ByteArray) (maxL : Nat) (ret : Option FieldType) (hh : List (Nat × Nat × Nat × Nat)) (ws : List Cond) (rm : Room) (mc ms n : Nat) : Prop :=
  (rm.cells = mc ∧ rm.slots = ms ∧ rm.frames + 1 ≤ R.frames ∧ 8 + (maxL + 11) + rm.locals ≤ R.locals ∧ (∀ w ∈ ws, ∀ (a' : Array Value) (U : State), s.WarmedH U.vm → w.before a' U = true) ∧ Cond.codeWith y bytes maxL ret hh ∈ ws) ∧
  (Cond.codeWith y bytes maxL ret hh).before args s = true ∧ (Cond.initialized y.cls).before args s = true ∧ (y.cls ≠ "java/lang/invoke/MethodHandle" ∧ y.cls ≠ "java/lang/invoke/VarHandle") ∧
  (∀ sig, parseMethodDescriptor y.desc = some sig → n = sig.parameters.length) ∧ (Cond.methodLink own index y).before args s = true ∧ (Cond.static y).before args s = true
theorem vx_cwSW {own : String} {index maxL mc ms : Nat} {y : MethodName} {bytes : ByteArray} {ret : Option FieldType} {hh : List (Nat × Nat × Nat × Nat)} {Ts ws ws' : List Cond} {rm : Room} (n : Nat) (ht : ∀ w ∈ Ts, w.before args s = true) (hT : GoodIn Ts (va_wsS own index y ws)) (hw : ws = Cond.codeWith y bytes maxL ret hh :: ws') (hrc : rm.cells = mc) (hrs : rm.slots = ms)
    (hd : y.cls ≠ "java/lang/invoke/MethodHandle" ∧ y.cls ≠ "java/lang/invoke/VarHandle" ∧ (parseMethodDescriptor y.desc).map (fun d => d.parameters.length) = some n) (hR : rm.frames + 1 ≤ R.frames ∧ 8 + (maxL + 11) + rm.locals ≤ R.locals) :
    vx_CSW R s args own index y bytes maxL ret hh ws rm mc ms n := by
  have ok : ∀ w ∈ va_wsS own index y ws, w.before args s = true := fun w h => ht w (hT w h).1
  have hG : GoodIn Ts ws := fun w h => hT w (by unfold va_wsS; exact List.mem_append_right _ h)
  have hc : Cond.codeWith y bytes maxL ret hh ∈ ws := by rw [hw]; exact List.mem_cons_self
  refine ⟨⟨hrc, hrs, hR.1, hR.2, pay_in ht hG, hc⟩, ht _ (hG _ hc).1, ok _ (by simp [va_wsS]), ⟨hd.1, hd.2.1⟩, fun sig h => ?_, ok _ (by simp [va_wsS]), ok _ (by simp [va_wsS])⟩
  have h2 := hd.2.2
  rw [h] at h2
  exact (Option.some.inj h2).symm
theorem vx_callSW (X : Stand p l e R s m args below meth c T locs cells slots) (hexec : p.tables.exec = Jvm.exec) {own : String} {index : Nat} {y : MethodName} {bytes : ByteArray} {maxL : Nat} {ret : Option FieldType} {hh : List (Nat × Nat × Nat × Nat)}
    (hown : s.vm.findClass own = some m.cls) (hlink : (Cond.methodLink own index y).before args s = true) (hstat : (Cond.static y).before args s = true) (hinit : (Cond.initialized y.cls).before args s = true)
    (hcode : (Cond.codeWith y bytes maxL ret hh).before args s = true) (hy : y.cls ≠ "java/lang/invoke/MethodHandle" ∧ y.cls ≠ "java/lang/invoke/VarHandle")
    {W9 : Nat} {Pre : Pt → Array Value → Prop} {Post : Pt → Array Value → Option Value → Pt → Prop} (hK : Back l R p e below s args y 3 W9 Pre Post)
    {g : JFrame} (hg : g.method = m) (hsize : g.locals.size = c.maxLocals) {argsL rest : List Value} (hlen : ∀ sig, parseMethodDescriptor y.desc = some sig → argsL.length = sig.parameters.length)
    (hstack : g.stack = argsL.reverse ++ rest) (hW : 2 * g.monitorRoom + (rest.map fun v => v.category).sum ≤ W9) (hdg : decode c.code g.pc = .ok (.invokestatic index, 3))
    (hpre : ∀ vm₁, s.WarmedH vm₁ → Pre ⟨T.setVm vm₁, locs, cells, slots⟩ argsL.toArray) :
    ∃ (v : Option Value) (vm₁ : Vm) (B : Pt), s.WarmedH vm₁ ∧ Stand p l e R s m args below meth c B.U B.locs B.cells B.slots ∧ Post ⟨T.setVm vm₁, locs, cells, slots⟩ argsL.toArray v B ∧
      ∀ target, Steps p.tables e below (B.U.setTop { g with pc := g.pc + 3, stack := v.toList ++ rest }) target → Steps p.tables e below (T.setTop g) target := by
  obtain ⟨mk, methM, cM, hnamed, hmethM, -, -, -, -, -, -, hsigM⟩ := Cond.codeWith_spec hcode
  have hstatic : methM.isStatic = true := Cond.static_spec hnamed hmethM hstat
  obtain ⟨kP, hkP, -⟩ := className_of_methodNamed hnamed
  have hinitP : kP.init = .initialized := Cond.initialized_spec (findClass_of_methodNamed hnamed) hkP hinit
  obtain ⟨vm₁, X₁, hstep₁⟩ := X.invokestatic hexec hown hlink hnamed hmethM hstatic hkP hinitP hy (g := g) hg (argsL := argsL) (rest := rest) (hlen _ hsigM) hstack hdg
  obtain ⟨v, B, X', hpost, hsteps⟩ := hK m meth c ⟨T.setVm vm₁, locs, cells, slots⟩ { g with stack := rest } (.invokestatic index) mk argsL.toArray X₁ hg hsize hdg hW (X₁.named hnamed) (hpre vm₁ X₁.warmed)
  exact ⟨v, vm₁, B, X₁.warmed, X', hpost, fun target h => hstep₁ _ fun acts => by rw [doInvoke_state]; exact hsteps.trans h⟩
theorem vx_runSW {y : MethodName} {bytes cc : ByteArray} {maxL nL mc ms n index : Nat} {ret : Option FieldType} {hh : List (Nat × Nat × Nat × Nat)} {ws : List Cond} {rm : Room} {Pc : Array Value → State → Prop} {Qc : Array Value → State → Outcome → State → Prop} {free : Addr → Prop} {Ts : List Cond} {own : String} {As rest : List Value} {g : JFrame}
    (S : CallFix p m c cc nL s args Ts own) (hM : Met l y ws rm Pc Qc mc ms free) (cw : vx_CSW R s args own index y bytes maxL ret hh ws rm mc ms n) (hp : PreS s H Pc As)
    (hg : g.method = m) (hn : As.length = n) (hsize : g.locals.size = nL) (hstack : g.stack = As.reverse ++ rest) (hW : 2 * g.monitorRoom + (rest.map fun v => v.category).sum ≤ 8) (hdg : decode cc g.pc = .ok (.invokestatic index, 3)) (hf : cells + mc ≤ R.cells ∧ slots + ms ≤ R.slots) :
    va_Run p l e R s m args below meth c H locs cells slots mc ms g rest (Qc As.toArray) (free) := by
  obtain ⟨⟨hrc, hrs, hfr, hlo, hws, hcw⟩, hcode, hini, hy, hlen, hl, hstt⟩ := cw
  have hK : Back l R p e below s args y 3 8 (PreOf R mc ms Pc) (PostOf Qc mc ms free) := va_backW (hh := hh) (bytes := bytes) (maxL := maxL) (ret := ret) hM hp.1 hrc hrs hfr hlo hws hcw (fun a' U hW => word_at hW (Or.inl (by first | rfl | simp [Cond.onTables, Cond.keeps, Cond.steady])) hini)
  obtain ⟨hx, hb, hml, ho, -⟩ := S
  intro T hT X
  obtain ⟨v, vm₁, ⟨U', l2, c2, s2⟩, hW₁, X', ⟨g', mk, t, L, e1, e2, hq, h1, hL, h2, h3⟩, st⟩ := vx_callSW X hx (hh := hh) (bytes := bytes) (maxL := maxL) (ret := ret) ho hl hstt hini hcode hy hK hg (hsize.trans hml.symm) (argsL := As) (rest := rest) (fun sig h => hn.trans (hlen sig h)) hstack hW (by rw [hb]; exact hdg)
    (fun vm₁ hW₁ => ⟨hf.1, hf.2, hp.2 (T.setVm vm₁) hT hW₁⟩)
  dsimp only [Pt.U, Pt.locs, Pt.cells, Pt.slots] at X' e1 e2 h1 h2 h3 st
  subst h1; subst h2; subst h3
  exact ⟨v, (T.setVm vm₁).calling g' mk As.toArray, t, U', L, hT, X', hL, e1, e2, hq, st⟩
/-- not caught here, past rows that name other classes: it goes on to the caller -/
theorem vx_outP {p : Program} {l : Launch} {e : Env} {R : Room} {s : State} {m : MethodId} {args : Array Value} {below : List Frame} {meth : Method} {c : Code} {H : Heap} {locs : List Loc} {cells slots : Nat} {free : Addr → Prop} {ls : Array Slot} {rest : List Value} {Qc : Array Value → State → Outcome → State → Prop} {XC : String → State → State → Prop}
    {pc : Nat} {own E : String} {ce : Cell} {q : Addr} {mc ms : Nat} (hown : s.vm.findClass own = some m.cls) (hlocks : meth.locks = false)
    (hpass : ∀ z ∈ c.exceptionTable.toList, covers z pc = false ∨ (z.catchType ≠ 0 ∧ ∃ nm : String, (Cond.classLink own z.catchType nm).before args s = true ∧ va_Nc E nm s)) (hcell : H[q]? = some ce) (hv : ce.vm = .none) (hcl : s.vm.findClass E = some ce.cls)
    (hx : ∀ t : State, t.heap = H → s.vm.Alike t.vm → XC E s t) (hf : ∀ z ∈ locs, free z.base) (hc : cells ≤ mc) (hs : slots ≤ ms) :
    vx_W p l e R s m args below meth c H locs cells slots (vx_MQ below Qc XC args s mc ms free) (F0 m pc ls rest) q := by
  intro T hT X
  have hpl : e.platform.magicAccessors = ({} : Platform).magicAccessors := by rw [X.admits.platform]
  obtain ⟨vm', hW', X', st⟩ := X.outThrough hlocks q (g := F0 m pc ls rest) rfl rfl rfl (cell := ce) (by rw [hT]; exact hcell) (by rw [hv]; rfl)
    (by obtain ⟨k9, h9, -⟩ := Vm.findClass_spec hcl; exact ⟨k9, h9⟩) (fun z hz => by
      rcases hpass z hz with h | ⟨hz0, nm, hl1, hn1⟩
      · exact Or.inl h
      · obtain ⟨c6, hc6, hcl6⟩ := Cond.classLink_spec hown hl1 e.platform hpl
        obtain ⟨a8, b8, h1, h2, h3⟩ := hn1
        cases Option.some.inj (h1.symm.trans hcl)
        cases Option.some.inj (h2.symm.trans hc6)
        exact Or.inr ⟨hz0, _, hcl6, h3⟩)
  obtain ⟨g₀, hfr⟩ := X'.frames_eq
  have hcell9 : ((T.setVm vm').setFrames (.throwing q :: below)).heap[q]? = some ce := by
    show T.heap[q]? = some ce
    rw [hT]; exact hcell
  have hend : Ended ((T.setVm vm').setFrames (.throwing q :: below)) below (.threw q) := State.frames_setFrames _ (State.cur_lt_of_frames hfr)
  refine ⟨(T.setVm vm').setFrames (.throwing q :: below), ?_, .threw q, X'.here.running, hend, Or.inr ⟨q, rfl, E, ce, locs, hx _ hT (X'.ends _).1.alike, hcell9, hv, hcl, (X'.ends _).1, (X'.ends _).2.mono hc hs, hf⟩⟩
  rw [X.pushThrowing_eq]
  exact st
/-- a thing of a world lies in the heap -/
theorem vx_lt {D : va_G} {cl : List vw_C} {ws : va_W} {H1 : Heap} (h : va_P D cl ws H1) {k : Nat} {q : Nat × va_E} (hk : ws[k]? = some q) : q.1 < H1.size := (h k q hk).lt
end VXS
/-! ===== END ===== -/
/-! ===== BEGIN methods with a table of their own: called by a name, returning or throwing ===== -/
section VXH
/-! vx_backW, vx_callVX, vx_callSX, vx_callVW, vx_runVW, vx_runVX, vx_runSX, vx_ofWH follow the same proofs as their sisters above (Free/Laws.lean, Shelf42/LK1.lean); vx_outP calls Shelf42/NT130.lean (outThrough). -/
section
variable {l : Launch} {R : Room} {p : Program} {e : Env} {below : List Frame} {s : State} {sargs : Array Value} {y : MethodName} {len W9 : Nat}
theorem vx_backW {ws : List Cond} {rm : Room} {Pc : Array Value → State → Prop} {Qc : Array Value → State → Outcome → State → Prop} {XC : String → State → State → Prop} {mc ms : Nat} {free : Addr → Prop} {bytes : ByteArray} {maxL : Nat} {ret : Option FieldType} {hh : List (Nat × Nat × Nat × Nat)}
    (hM : vx_Met l y ws rm Pc Qc XC mc ms free) (hblind : FrameBlind Pc) (hrc : rm.cells = mc) (hrs : rm.slots = ms)
    (hframes : rm.frames + 1 ≤ R.frames) (hlocals : W9 + (maxL + 11) + rm.locals ≤ R.locals)
    (hws : ∀ w ∈ ws, ∀ a' U, s.WarmedH U.vm → w.before a' U = true) (hcode : Cond.codeWith y bytes maxL ret hh ∈ ws) (hinit : ∀ a' U, s.WarmedH U.vm → (Cond.initialized y.cls).before a' U = true) :
    vx_Back l R p e below s sargs y len W9 (PreOf R mc ms Pc) (PostOf Qc mc ms free) (vx_Post XC mc ms free) := by
  intro m meth c A g ig mk a X hg hsize hdg hW hn hp
  have h1 : (headSpec ws rm).pre.before a A.U = true := atoms_intro fun w hw => hws w hw _ _ X.warmed
  have h2 : (Cond.codeWith y bytes maxL ret hh).before a A.U = true := hws _ hcode _ _ X.warmed
  have h3 : (Cond.initialized y.cls).before a A.U = true := hinit _ _ X.warmed
  have h4 : A.cells + (headSpec ws rm).room.cells ≤ R.cells := by rw [show (headSpec ws rm).room.cells = mc from hrc]; exact hp.1
  have h5 : A.slots + (headSpec ws rm).room.slots ≤ R.slots := by rw [show (headSpec ws rm).room.slots = ms from hrs]; exact hp.2.1
  have hPc : Pc a (A.U.calling g mk a) := hblind _ _ _ _ hp.2.2
  obtain ⟨U, Ls, c0, s0⟩ := A
  dsimp only [Pt.U, Pt.locs, Pt.cells, Pt.slots] at h1 h2 h3 h4 h5 X hn hPc ⊢
  obtain ⟨m9, methY, cY, hn9, hmY, hcY, -, hlY, -⟩ := Cond.codeWith_spec h2
  cases Option.some.inj (hn9.symm.trans hn)
  obtain ⟨kY, hkY, -⟩ := className_of_methodNamed hn
  have hinitY : kY.init = .initialized := Cond.initialized_spec (findClass_of_methodNamed hn) hkY h3
  have h : At U g.method c below := by rw [hg]; exact X.here
  have hlocals9 : W9 + (maxL + 11) + (headSpec ws rm).room.locals ≤ R.locals := hlocals
  have happ : (headSpec ws rm).appliesLoose y e.platform (U.calling g mk a) = true :=
    Spec.appliesLoose_calling (g := g) h hdg hn hkY hinitY
      (X.room_calling (g := g) (R' := (headSpec ws rm).room) hsize hmY hcY hframes (by rw [hlY]; omega) h4 h5) h1
  obtain ⟨mid, hmid⟩ := h.above
  have hfr : (U.setTop g).frames = (.java g :: mid) ++ below := by rw [State.frames_setTop' g h.top, hmid]; rfl
  obtain ⟨o, s₂, hsteps, -, hend, hq⟩ := Steps.callFree hM p X.admits X.cas X.clock (acts := []) hfr happ hPc trivial
  have hq' : vx_Q Qc XC mc ms free a (U.calling g mk a) o s₂ := hq
  rw [State.frames_setTop' g h.top] at hend
  obtain ⟨g₀, hg0⟩ := Option.isSome_iff_exists.mp h.top
  obtain ⟨r, hr⟩ := State.topJava?_eq_some.mp hg0
  have hr' : (({ U with heap := s₂.heap, slotsUsed := s₂.slotsUsed } : State).setVm s₂.vm).frames = .java g₀ :: r := hr
  rcases hq' with ⟨hqc, L, hfe, hL⟩ | ⟨q, rfl, E, ce, L, hx, hce, hcv, hcl, hW₂, hsm, hL⟩
  · obtain ⟨⟨v, rfl⟩, hW₂, e2, q2, q3, q4, q5, q6⟩ := id hfe
    have e3 : s₂ = ({ (U.calling g mk a).setFrames s₂.frames with heap := s₂.heap, slotsUsed := s₂.slotsUsed } : State).setVm s₂.vm := by
      have : s₂ = ({ s₂ with vm := (U.calling g mk a).vm } : State).setVm s₂.vm := rfl
      rw [e2] at this
      exact this
    obtain ⟨c₂, i₂, len₂, hc₂, hd₂, hf₂⟩ := hend
    have hW' : U.WarmedH s₂.vm := hW₂
    have hcc : c₂ = c := by
      have h1 : s₂.code? g.method = U.code? g.method := by
        rw [State.code?_eq, State.code?_eq, hW'.alike.method?]
      exact Option.some.inj (hc₂.symm.trans (h1.trans h.code))
    subst hcc
    have hlen : len₂ = len := by rw [hdg] at hd₂; cases hd₂; rfl
    subst hlen
    have hs₂ : s₂ = (({ U with heap := s₂.heap, slotsUsed := s₂.slotsUsed } : State).setVm s₂.vm).setTop { g with pc := g.pc + len₂, stack := v.toList ++ g.stack } := by
      refine e3.trans ?_
      rw [hf₂, State.calling_eq h.top, State.setFrames_setFrames, State.setTop_of_frames _ hr', hr]
      rfl
    have hsame : U.sameButNew ({ U with heap := s₂.heap, slotsUsed := s₂.slotsUsed } : State) L mc ms := by
      refine ⟨?_, q2, q3, q4, q5, q6⟩
      obtain ⟨t, ht, -⟩ := State.frames_cons hr
      show ({ U with heap := s₂.heap, slotsUsed := s₂.slotsUsed } : State) = { U.setFrames U.frames with heap := s₂.heap, slotsUsed := s₂.slotsUsed }
      rw [State.setFrames_self ht]
    subst hg
    refine Or.inl ⟨v, ⟨(({ U with heap := s₂.heap, slotsUsed := s₂.slotsUsed } : State).setVm s₂.vm), Ls ++ L, c0 + mc, s0 + ms⟩,
      ⟨X.admits, X.cas, X.clock, X.frames, X.room, X.hears, X.method, X.code, (X.here.setHeapUsed s₂.heap s₂.slotsUsed).setVm hW'.alike, X.tail, State.WarmedH.trans X.warmed hW', X.limits, X.bytes, X.same.trans (hsame.setVm s.vm)⟩,
      ⟨g, mk, s₂, L, rfl, rfl, hqc, rfl, hL, rfl, rfl⟩, ?_⟩
    show Steps p.tables e below _ ((({ U with heap := s₂.heap, slotsUsed := s₂.slotsUsed } : State).setVm s₂.vm).setTop { g with pc := g.pc + len₂, stack := v.toList ++ g.stack })
    rw [← hs₂]
    exact hsteps
  · obtain ⟨e2, q2, q3, q4, q5, q6⟩ := id hsm
    have e3 : s₂ = ({ (U.calling g mk a).setFrames s₂.frames with heap := s₂.heap, slotsUsed := s₂.slotsUsed } : State).setVm s₂.vm := by
      have : s₂ = ({ s₂ with vm := (U.calling g mk a).vm } : State).setVm s₂.vm := rfl
      rw [e2] at this
      exact this
    have hf₂ : s₂.frames = .throwing q :: .java g :: U.frames.tail := hend
    have hW' : U.WarmedH s₂.vm := hW₂
    have hs₂ : s₂ = ((({ U with heap := s₂.heap, slotsUsed := s₂.slotsUsed } : State).setVm s₂.vm).setTop g).pushFrame (.throwing q) := by
      refine e3.trans ?_
      rw [hf₂, State.calling_eq h.top, State.setFrames_setFrames, State.pushFrame, State.frames_setTop _ hr', State.setTop_of_frames _ hr', State.setFrames_setFrames, hr]
      rfl
    have hsame : U.sameButNew ({ U with heap := s₂.heap, slotsUsed := s₂.slotsUsed } : State) L mc ms := by
      refine ⟨?_, q2, q3, q4, q5, q6⟩
      obtain ⟨t, ht, -⟩ := State.frames_cons hr
      show ({ U with heap := s₂.heap, slotsUsed := s₂.slotsUsed } : State) = { U.setFrames U.frames with heap := s₂.heap, slotsUsed := s₂.slotsUsed }
      rw [State.setFrames_self ht]
    subst hg
    refine Or.inr ⟨q, ⟨(({ U with heap := s₂.heap, slotsUsed := s₂.slotsUsed } : State).setVm s₂.vm), Ls ++ L, c0 + mc, s0 + ms⟩,
      ⟨X.admits, X.cas, X.clock, X.frames, X.room, X.hears, X.method, X.code, (X.here.setHeapUsed s₂.heap s₂.slotsUsed).setVm hW'.alike, X.tail, State.WarmedH.trans X.warmed hW', X.limits, X.bytes, X.same.trans (hsame.setVm s.vm)⟩,
      ⟨g, mk, s₂, L, E, ce, rfl, rfl, hx, hce, hcv, hcl, rfl, hL, rfl, rfl⟩, ?_⟩
    show Steps p.tables e below _ (((({ U with heap := s₂.heap, slotsUsed := s₂.slotsUsed } : State).setVm s₂.vm).setTop g).pushFrame (.throwing q))
    rw [← hs₂]
    exact hsteps
end
variable {p : Program} {l : Launch} {e : Env} {R : Room} {s : State} {m : MethodId} {args : Array Value} {below : List Frame} {meth : Method} {c : Code} {T : State} {H : Heap} {locs : List Loc} {cells slots : Nat}
theorem vx_callVX (X : Stand p l e R s m args below meth c T locs cells slots) (hexec : p.tables.exec = Jvm.exec) {own C : String} {index : Nat} {y : MethodName} {bytes : ByteArray} {maxL : Nat} {ret : Option FieldType} {hh : List (Nat × Nat × Nat × Nat)}
    (hown : s.vm.findClass own = some m.cls) (hlink : (Cond.methodLink own index y).before args s = true) (hinst : (Cond.instanceMethod y).before args s = true) (hsel : (Cond.selects C y y).before args s = true)
    (hcode : (Cond.codeWith y bytes maxL ret hh).before args s = true) (hy : y.cls ≠ "java/lang/invoke/MethodHandle" ∧ y.cls ≠ "java/lang/invoke/VarHandle")
    {W9 : Nat} {Pre : Pt → Array Value → Prop} {Post : Pt → Array Value → Option Value → Pt → Prop} {PostX : Pt → Array Value → Addr → Pt → Prop} (hK : vx_Back l R p e below s args y 3 W9 Pre Post PostX)
    {b : Addr} {cellB : Cell} (hcell : T.heap[b]? = some cellB) (hobj : cellB.vm.isStatics = false) (hcls : s.vm.findClass C = some cellB.cls)
    {g : JFrame} (hg : g.method = m) (hsize : g.locals.size = c.maxLocals) {argsL rest : List Value} (hlen : ∀ sig, parseMethodDescriptor y.desc = some sig → argsL.length = sig.parameters.length)
    (hstack : g.stack = argsL.reverse ++ .ref b :: rest) (hW : 2 * g.monitorRoom + (rest.map fun v => v.category).sum ≤ W9) (hdg : decode c.code g.pc = .ok (.invokevirtual index, 3))
    (hpre : ∀ vm₁, s.WarmedH vm₁ → Pre ⟨T.setVm vm₁, locs, cells, slots⟩ (Value.ref b :: argsL).toArray) :
    (∃ (v : Option Value) (vm₁ : Vm) (B : Pt), s.WarmedH vm₁ ∧ Stand p l e R s m args below meth c B.U B.locs B.cells B.slots ∧ Post ⟨T.setVm vm₁, locs, cells, slots⟩ (Value.ref b :: argsL).toArray v B ∧
      ∀ target, Steps p.tables e below (B.U.setTop { g with pc := g.pc + 3, stack := v.toList ++ rest }) target → Steps p.tables e below (T.setTop g) target) ∨
    (∃ (q : Addr) (vm₁ : Vm) (B : Pt), s.WarmedH vm₁ ∧ Stand p l e R s m args below meth c B.U B.locs B.cells B.slots ∧ PostX ⟨T.setVm vm₁, locs, cells, slots⟩ (Value.ref b :: argsL).toArray q B ∧
      Steps p.tables e below (T.setTop g) ((B.U.setTop { g with stack := rest }).pushFrame (.throwing q))) := by
  obtain ⟨mk, methM, hnamed, hmethM, hstM, habM⟩ := Cond.instanceMethod_spec hinst
  obtain ⟨m8, methM', cM, hn8, hmethM', -, -, -, -, -, -, hsigM⟩ := Cond.codeWith_spec hcode
  cases Option.some.inj (hn8.symm.trans hnamed)
  cases hmethM.symm.trans hmethM'
  obtain ⟨c2, r2, m2, q1, q2, q3, q4, kP, hkP, hkPi⟩ := Cond.selects_spec hsel
  cases hcls.symm.trans q1
  cases (State.methodFound?_of_named hnamed hy).symm.trans q2
  cases hnamed.symm.trans q3
  have hselP : selectMethod e.platform s.vm cellB.cls mk = .method mk := by rw [Launch.admits_selectMethod X.admits]; exact q4
  obtain ⟨vm₁, X₁, hstep₁⟩ := X.invokevirtual hexec hown hlink hnamed hmethM hstM hkP hkPi hy (a := b) (cell := cellB) hcell
    (fun z h => by rw [h] at hobj; cases hobj) hselP hmethM habM hkP hkPi (g := g) hg (argsL := argsL) (rest := rest) (hlen _ hsigM) hstack hdg
  rcases hK m meth c ⟨T.setVm vm₁, locs, cells, slots⟩ { g with stack := rest } (.invokevirtual index) mk (Value.ref b :: argsL).toArray X₁ hg hsize hdg hW (X₁.named hnamed) (hpre vm₁ X₁.warmed) with ⟨v, B, X', hpost, hsteps⟩ | ⟨q, B, X', hpost, hsteps⟩
  · exact Or.inl ⟨v, vm₁, B, X₁.warmed, X', hpost, fun target h => hstep₁ _ fun acts => by rw [doInvoke_state]; exact hsteps.trans h⟩
  · exact Or.inr ⟨q, vm₁, B, X₁.warmed, X', hpost, hstep₁ _ fun acts => by rw [doInvoke_state]; exact hsteps⟩
theorem vx_callSX (X : Stand p l e R s m args below meth c T locs cells slots) (hexec : p.tables.exec = Jvm.exec) {own : String} {index : Nat} {y : MethodName} {bytes : ByteArray} {maxL : Nat} {ret : Option FieldType} {hh : List (Nat × Nat × Nat × Nat)}
    (hown : s.vm.findClass own = some m.cls) (hlink : (Cond.methodLink own index y).before args s = true) (hstat : (Cond.static y).before args s = true) (hinit : (Cond.initialized y.cls).before args s = true)
    (hcode : (Cond.codeWith y bytes maxL ret hh).before args s = true) (hy : y.cls ≠ "java/lang/invoke/MethodHandle" ∧ y.cls ≠ "java/lang/invoke/VarHandle")
    {W9 : Nat} {Pre : Pt → Array Value → Prop} {Post : Pt → Array Value → Option Value → Pt → Prop} {PostX : Pt → Array Value → Addr → Pt → Prop} (hK : vx_Back l R p e below s args y 3 W9 Pre Post PostX)
    {g : JFrame} (hg : g.method = m) (hsize : g.locals.size = c.maxLocals) {argsL rest : List Value} (hlen : ∀ sig, parseMethodDescriptor y.desc = some sig → argsL.length = sig.parameters.length)
    (hstack : g.stack = argsL.reverse ++ rest) (hW : 2 * g.monitorRoom + (rest.map fun v => v.category).sum ≤ W9) (hdg : decode c.code g.pc = .ok (.invokestatic index, 3))
    (hpre : ∀ vm₁, s.WarmedH vm₁ → Pre ⟨T.setVm vm₁, locs, cells, slots⟩ argsL.toArray) :
    (∃ (v : Option Value) (vm₁ : Vm) (B : Pt), s.WarmedH vm₁ ∧ Stand p l e R s m args below meth c B.U B.locs B.cells B.slots ∧ Post ⟨T.setVm vm₁, locs, cells, slots⟩ argsL.toArray v B ∧
      ∀ target, Steps p.tables e below (B.U.setTop { g with pc := g.pc + 3, stack := v.toList ++ rest }) target → Steps p.tables e below (T.setTop g) target) ∨
    (∃ (q : Addr) (vm₁ : Vm) (B : Pt), s.WarmedH vm₁ ∧ Stand p l e R s m args below meth c B.U B.locs B.cells B.slots ∧ PostX ⟨T.setVm vm₁, locs, cells, slots⟩ argsL.toArray q B ∧
      Steps p.tables e below (T.setTop g) ((B.U.setTop { g with stack := rest }).pushFrame (.throwing q))) := by
  obtain ⟨mk, methM, cM, hnamed, hmethM, -, -, -, -, -, -, hsigM⟩ := Cond.codeWith_spec hcode
  have hstatic : methM.isStatic = true := Cond.static_spec hnamed hmethM hstat
  obtain ⟨kP, hkP, -⟩ := className_of_methodNamed hnamed
  have hinitP : kP.init = .initialized := Cond.initialized_spec (findClass_of_methodNamed hnamed) hkP hinit
  obtain ⟨vm₁, X₁, hstep₁⟩ := X.invokestatic hexec hown hlink hnamed hmethM hstatic hkP hinitP hy (g := g) hg (argsL := argsL) (rest := rest) (hlen _ hsigM) hstack hdg
  rcases hK m meth c ⟨T.setVm vm₁, locs, cells, slots⟩ { g with stack := rest } (.invokestatic index) mk argsL.toArray X₁ hg hsize hdg hW (X₁.named hnamed) (hpre vm₁ X₁.warmed) with ⟨v, B, X', hpost, hsteps⟩ | ⟨q, B, X', hpost, hsteps⟩
  · exact Or.inl ⟨v, vm₁, B, X₁.warmed, X', hpost, fun target h => hstep₁ _ fun acts => by rw [doInvoke_state]; exact hsteps.trans h⟩
  · exact Or.inr ⟨q, vm₁, B, X₁.warmed, X', hpost, hstep₁ _ fun acts => by rw [doInvoke_state]; exact hsteps⟩
theorem vx_callVW (X : Stand p l e R s m args below meth c T locs cells slots) (hexec : p.tables.exec = Jvm.exec) {own C : String} {index : Nat} {y : MethodName} {bytes : ByteArray} {maxL : Nat} {ret : Option FieldType} {hh : List (Nat × Nat × Nat × Nat)}
    (hown : s.vm.findClass own = some m.cls) (hlink : (Cond.methodLink own index y).before args s = true) (hinst : (Cond.instanceMethod y).before args s = true) (hsel : (Cond.selects C y y).before args s = true)
    (hcode : (Cond.codeWith y bytes maxL ret hh).before args s = true) (hy : y.cls ≠ "java/lang/invoke/MethodHandle" ∧ y.cls ≠ "java/lang/invoke/VarHandle")
    {W9 : Nat} {Pre : Pt → Array Value → Prop} {Post : Pt → Array Value → Option Value → Pt → Prop} (hK : Back l R p e below s args y 3 W9 Pre Post)
    {b : Addr} {cellB : Cell} (hcell : T.heap[b]? = some cellB) (hobj : cellB.vm.isStatics = false) (hcls : s.vm.findClass C = some cellB.cls)
    {g : JFrame} (hg : g.method = m) (hsize : g.locals.size = c.maxLocals) {argsL rest : List Value} (hlen : ∀ sig, parseMethodDescriptor y.desc = some sig → argsL.length = sig.parameters.length)
    (hstack : g.stack = argsL.reverse ++ .ref b :: rest) (hW : 2 * g.monitorRoom + (rest.map fun v => v.category).sum ≤ W9) (hdg : decode c.code g.pc = .ok (.invokevirtual index, 3))
    (hpre : ∀ vm₁, s.WarmedH vm₁ → Pre ⟨T.setVm vm₁, locs, cells, slots⟩ (Value.ref b :: argsL).toArray) :
    ∃ (v : Option Value) (vm₁ : Vm) (B : Pt), s.WarmedH vm₁ ∧ Stand p l e R s m args below meth c B.U B.locs B.cells B.slots ∧ Post ⟨T.setVm vm₁, locs, cells, slots⟩ (Value.ref b :: argsL).toArray v B ∧
      ∀ target, Steps p.tables e below (B.U.setTop { g with pc := g.pc + 3, stack := v.toList ++ rest }) target → Steps p.tables e below (T.setTop g) target := by
  obtain ⟨mk, methM, hnamed, hmethM, hstM, habM⟩ := Cond.instanceMethod_spec hinst
  obtain ⟨m8, methM', cM, hn8, hmethM', -, -, -, -, -, -, hsigM⟩ := Cond.codeWith_spec hcode
  cases Option.some.inj (hn8.symm.trans hnamed)
  cases hmethM.symm.trans hmethM'
  obtain ⟨c2, r2, m2, q1, q2, q3, q4, kP, hkP, hkPi⟩ := Cond.selects_spec hsel
  cases hcls.symm.trans q1
  cases (State.methodFound?_of_named hnamed hy).symm.trans q2
  cases hnamed.symm.trans q3
  have hselP : selectMethod e.platform s.vm cellB.cls mk = .method mk := by rw [Launch.admits_selectMethod X.admits]; exact q4
  obtain ⟨vm₁, X₁, hstep₁⟩ := X.invokevirtual hexec hown hlink hnamed hmethM hstM hkP hkPi hy (a := b) (cell := cellB) hcell
    (fun z h => by rw [h] at hobj; cases hobj) hselP hmethM habM hkP hkPi (g := g) hg (argsL := argsL) (rest := rest) (hlen _ hsigM) hstack hdg
  obtain ⟨v, B, X', hpost, hsteps⟩ := hK m meth c ⟨T.setVm vm₁, locs, cells, slots⟩ { g with stack := rest } (.invokevirtual index) mk (Value.ref b :: argsL).toArray X₁ hg hsize hdg hW (X₁.named hnamed) (hpre vm₁ X₁.warmed)
  exact ⟨v, vm₁, B, X₁.warmed, X', hpost, fun target h => hstep₁ _ fun acts => by rw [doInvoke_state]; exact hsteps.trans h⟩
abbrev vx_CVW (R : Room) (s : State) (args : Array Value) (own C : String) (index : Nat) (y : MethodName) (bytes : ByteArray) (maxL : Nat) (ret : Option FieldType) (hh : List (Nat × Nat × Nat × Nat)) (ws : List Cond) (rm : Room) (mc ms n : Nat) : Prop :=
  (rm.cells = mc ∧ rm.slots = ms ∧ rm.frames + 1 ≤ R.frames ∧ 8 + (maxL + 11) + rm.locals ≤ R.locals ∧ (∀ w ∈ ws, ∀ (a' : Array Value) (U : State), s.WarmedH U.vm → w.before a' U = true) ∧ Cond.codeWith y bytes maxL ret hh ∈ ws) ∧
  (Cond.codeWith y bytes maxL ret hh).before args s = true ∧ (Cond.initialized y.cls).before args s = true ∧ (y.cls ≠ "java/lang/invoke/MethodHandle" ∧ y.cls ≠ "java/lang/invoke/VarHandle") ∧
  (∀ sig, parseMethodDescriptor y.desc = some sig → n = sig.parameters.length) ∧ (Cond.methodLink own index y).before args s = true ∧ (Cond.instanceMethod y).before args s = true ∧ (Cond.selects C y y).before args s = true
theorem vx_cwVW {own C : String} {index maxL mc ms : Nat} {y : MethodName} {bytes : ByteArray} {ret : Option FieldType} {hh : List (Nat × Nat × Nat × Nat)} {Ts ws ws' : List Cond} {rm : Room} (n : Nat) (ht : ∀ w ∈ Ts, w.before args s = true) (hT : GoodIn Ts (wsV own index C y ws)) (hw : ws = Cond.codeWith y bytes maxL ret hh :: ws') (hrc : rm.cells = mc) (hrs : rm.slots = ms)
    (hd : y.cls = C ∧ y.cls ≠ "java/lang/invoke/MethodHandle" ∧ y.cls ≠ "java/lang/invoke/VarHandle" ∧ (parseMethodDescriptor y.desc).map (fun d => d.parameters.length) = some n) (hR : rm.frames + 1 ≤ R.frames ∧ 8 + (maxL + 11) + rm.locals ≤ R.locals) :
    vx_CVW R s args own C index y bytes maxL ret hh ws rm mc ms n := by
  obtain ⟨hC, hd⟩ := hd
  subst hC
  have ok : ∀ w ∈ wsV own index y.cls y ws, w.before args s = true := fun w h => ht w (hT w h).1
  have hG : GoodIn Ts ws := fun w h => hT w (by unfold wsV; exact List.mem_append_right _ h)
  have hc : Cond.codeWith y bytes maxL ret hh ∈ ws := by rw [hw]; exact List.mem_cons_self
  refine ⟨⟨hrc, hrs, hR.1, hR.2, pay_in ht hG, hc⟩, ht _ (hG _ hc).1, ok _ (by simp [wsV]), ⟨hd.1, hd.2.1⟩, fun sig h => ?_, ok _ (by simp [wsV]), ok _ (by simp [wsV]), ok _ (by simp [wsV])⟩
  have h2 := hd.2.2
  rw [h] at h2
  exact (Option.some.inj h2).symm
theorem vx_runVW {y : MethodName} {bytes cc : ByteArray} {maxL nL mc ms n index : Nat} {ret : Option FieldType} {hh : List (Nat × Nat × Nat × Nat)} {ws : List Cond} {rm : Room} {Pc : Array Value → State → Prop} {Qc : Array Value → State → Outcome → State → Prop} {free : Addr → Prop} {Ts : List Cond} {own C : String} {b : Addr} {As rest : List Value} {g : JFrame}
    (S : CallFix p m c cc nL s args Ts own) (hM : Met l y ws rm Pc Qc mc ms free) (cw : vx_CVW R s args own C index y bytes maxL ret hh ws rm mc ms n) (hp : PreV s H C b Pc As)
    (hg : g.method = m) (hn : As.length = n) (hsize : g.locals.size = nL) (hstack : g.stack = As.reverse ++ .ref b :: rest) (hW : 2 * g.monitorRoom + (rest.map fun v => v.category).sum ≤ 8) (hdg : decode cc g.pc = .ok (.invokevirtual index, 3)) (hf : cells + mc ≤ R.cells ∧ slots + ms ≤ R.slots) :
    va_Run p l e R s m args below meth c H locs cells slots mc ms g rest (Qc (Value.ref b :: As).toArray) free := by
  obtain ⟨⟨hrc, hrs, hfr, hlo, hws, hcw⟩, hcode, hini, hy, hlen, hl, hin, hse⟩ := cw
  have hK : Back l R p e below s args y 3 8 (PreOf R mc ms Pc) (PostOf Qc mc ms free) := va_backW (hh := hh) (bytes := bytes) (maxL := maxL) (ret := ret) hM hp.1 hrc hrs hfr hlo hws hcw (fun a' U hW => word_at hW (Or.inl (by first | rfl | simp [Cond.onTables, Cond.keeps, Cond.steady])) hini)
  obtain ⟨hx, hb, hml, ho, -⟩ := S
  obtain ⟨-, ⟨cellB, hcB, hoB, hclB⟩, hPc⟩ := hp
  intro T hT X
  obtain ⟨v, vm₁, ⟨U', l2, c2, s2⟩, hW₁, X', ⟨g', mk, t, L, e1, e2, hq, h1, hL, h2, h3⟩, st⟩ := vx_callVW X hx (C := C) (hh := hh) (bytes := bytes) (maxL := maxL) (ret := ret) ho hl hin hse hcode hy hK (by rw [hT]; exact hcB) hoB hclB hg (hsize.trans hml.symm) (argsL := As) (rest := rest) (fun sig h => hn.trans (hlen sig h)) hstack hW (by rw [hb]; exact hdg)
    (fun vm₁ hW₁ => ⟨hf.1, hf.2, hPc (T.setVm vm₁) hT hW₁⟩)
  dsimp only [Pt.U, Pt.locs, Pt.cells, Pt.slots] at X' e1 e2 h1 h2 h3 st
  subst h1; subst h2; subst h3
  exact ⟨v, (T.setVm vm₁).calling g' mk (Value.ref b :: As).toArray, t, U', L, hT, X', hL, e1, e2, hq, st⟩
section
variable {y : MethodName} {bytes cc : ByteArray} {maxL nL mc ms n index : Nat} {ret : Option FieldType} {ws : List Cond} {rm : Room} {Pc : Array Value → State → Prop} {Qc : Array Value → State → Outcome → State → Prop} {XC : String → State → State → Prop} {free : Addr → Prop} {Ts : List Cond} {own C : String} {b : Addr} {As rest : List Value} {g : JFrame}
theorem vx_runVX {hh : List (Nat × Nat × Nat × Nat)} (S : CallFix p m c cc nL s args Ts own) (hM : vx_Met l y ws rm Pc Qc XC mc ms free) (cw : vx_CVW R s args own C index y bytes maxL ret hh ws rm mc ms n) (hp : PreV s H C b Pc As)
    (hg : g.method = m) (hn : As.length = n) (hsize : g.locals.size = nL) (hstack : g.stack = As.reverse ++ .ref b :: rest) (hW : 2 * g.monitorRoom + (rest.map fun v => v.category).sum ≤ 8) (hdg : decode cc g.pc = .ok (.invokevirtual index, 3)) (hf : cells + mc ≤ R.cells ∧ slots + ms ≤ R.slots) :
    vx_Run p l e R s m args below meth c H locs cells slots mc ms g rest (Qc (Value.ref b :: As).toArray) XC free := by
  obtain ⟨⟨hrc, hrs, hfr, hlo, hws, hcw⟩, hcode, hini, hy, hlen, hl, hin, hse⟩ := cw
  have hK : vx_Back l R p e below s args y 3 8 (PreOf R mc ms Pc) (PostOf Qc mc ms free) (vx_Post XC mc ms free) := vx_backW (hh := hh) (bytes := bytes) (maxL := maxL) (ret := ret) hM hp.1 hrc hrs hfr hlo hws hcw (fun a' U hW => word_at hW (Or.inl (by first | rfl | simp [Cond.onTables, Cond.keeps, Cond.steady])) hini)
  obtain ⟨hx, hb, hml, ho, -⟩ := S
  obtain ⟨-, ⟨cellB, hcB, hoB, hclB⟩, hPc⟩ := hp
  intro T hT X
  rcases vx_callVX X hx (C := C) (hh := hh) (bytes := bytes) (maxL := maxL) (ret := ret) ho hl hin hse hcode hy hK (by rw [hT]; exact hcB) hoB hclB hg (hsize.trans hml.symm) (argsL := As) (rest := rest) (fun sig h => hn.trans (hlen sig h)) hstack hW (by rw [hb]; exact hdg)
    (fun vm₁ hW₁ => ⟨hf.1, hf.2, hPc (T.setVm vm₁) hT hW₁⟩) with ⟨v, vm₁, ⟨U', l2, c2, s2⟩, hW₁, X', ⟨g', mk, t, L, e1, e2, hq, h1, hL, h2, h3⟩, st⟩ | ⟨q, vm₁, ⟨U', l2, c2, s2⟩, hW₁, X', ⟨g', mk, t, L, E, ce, e1, e2, hq, hce, hcv, hcl, h1, hL, h2, h3⟩, st⟩
  · dsimp only [Pt.U, Pt.locs, Pt.cells, Pt.slots] at X' e1 e2 h1 h2 h3 st
    subst h1; subst h2; subst h3
    exact Or.inl ⟨v, (T.setVm vm₁).calling g' mk (Value.ref b :: As).toArray, t, U', L, hT, X', hL, e1, e2, hq, st⟩
  · dsimp only [Pt.U, Pt.locs, Pt.cells, Pt.slots] at X' e1 e2 h1 h2 h3 st hcl
    subst h1; subst h2; subst h3
    exact Or.inr ⟨q, (T.setVm vm₁).calling g' mk (Value.ref b :: As).toArray, t, U', L, E, ce, hT, X', hL, e1, e2, hq, hce, hcv, vx_cls hW₁ hcl, st⟩
theorem vx_runSX {hh : List (Nat × Nat × Nat × Nat)} (S : CallFix p m c cc nL s args Ts own) (hM : vx_Met l y ws rm Pc Qc XC mc ms free) (cw : vx_CSW R s args own index y bytes maxL ret hh ws rm mc ms n) (hp : PreS s H Pc As)
    (hg : g.method = m) (hn : As.length = n) (hsize : g.locals.size = nL) (hstack : g.stack = As.reverse ++ rest) (hW : 2 * g.monitorRoom + (rest.map fun v => v.category).sum ≤ 8) (hdg : decode cc g.pc = .ok (.invokestatic index, 3)) (hf : cells + mc ≤ R.cells ∧ slots + ms ≤ R.slots) :
    vx_Run p l e R s m args below meth c H locs cells slots mc ms g rest (Qc As.toArray) XC free := by
  obtain ⟨⟨hrc, hrs, hfr, hlo, hws, hcw⟩, hcode, hini, hy, hlen, hl, hstt⟩ := cw
  have hK : vx_Back l R p e below s args y 3 8 (PreOf R mc ms Pc) (PostOf Qc mc ms free) (vx_Post XC mc ms free) := vx_backW (hh := hh) (bytes := bytes) (maxL := maxL) (ret := ret) hM hp.1 hrc hrs hfr hlo hws hcw (fun a' U hW => word_at hW (Or.inl (by first | rfl | simp [Cond.onTables, Cond.keeps, Cond.steady])) hini)
  obtain ⟨hx, hb, hml, ho, -⟩ := S
  intro T hT X
  rcases vx_callSX X hx (hh := hh) (bytes := bytes) (maxL := maxL) (ret := ret) ho hl hstt hini hcode hy hK hg (hsize.trans hml.symm) (argsL := As) (rest := rest) (fun sig h => hn.trans (hlen sig h)) hstack hW (by rw [hb]; exact hdg)
    (fun vm₁ hW₁ => ⟨hf.1, hf.2, hp.2 (T.setVm vm₁) hT hW₁⟩) with ⟨v, vm₁, ⟨U', l2, c2, s2⟩, hW₁, X', ⟨g', mk, t, L, e1, e2, hq, h1, hL, h2, h3⟩, st⟩ | ⟨q, vm₁, ⟨U', l2, c2, s2⟩, hW₁, X', ⟨g', mk, t, L, E, ce, e1, e2, hq, hce, hcv, hcl, h1, hL, h2, h3⟩, st⟩
  · dsimp only [Pt.U, Pt.locs, Pt.cells, Pt.slots] at X' e1 e2 h1 h2 h3 st
    subst h1; subst h2; subst h3
    exact Or.inl ⟨v, (T.setVm vm₁).calling g' mk As.toArray, t, U', L, hT, X', hL, e1, e2, hq, st⟩
  · dsimp only [Pt.U, Pt.locs, Pt.cells, Pt.slots] at X' e1 e2 h1 h2 h3 st hcl
    subst h1; subst h2; subst h3
    exact Or.inr ⟨q, (T.setVm vm₁).calling g' mk As.toArray, t, U', L, E, ce, hT, X', hL, e1, e2, hq, hce, hcv, vx_cls hW₁ hcl, st⟩
end
end VXH
theorem vx_ofWH {l : Launch} {y : MethodName} {ws ws' : List Cond} {rm : Room} {Pc : Array Value → State → Prop} {Qc : Array Value → State → Outcome → State → Prop} {XC : String → State → State → Prop} {mc ms : Nat} {free : Addr → Prop} {cc : ByteArray} {maxL : Nat} {ret : Option FieldType} {hh : List (Nat × Nat × Nat × Nat)}
    (hy : plainName y.cls = true) (hw : ws = Cond.codeWith y cc maxL ret hh :: ws')
    (body : ∀ p e s m args below meth c s₁, BodyLoose p l y (headSpec ws rm) cc maxL ret e s m args below meth c s₁ → c.maxLocals = maxL → Pc args s →
      W p l e (headSpec ws rm).room s m args below meth c s.heap [] 0 0 (vx_MQ below Qc XC args s mc ms free) (entryFrame m args maxL)) : vx_Met l y ws rm Pc Qc XC mc ms free := by
  refine MetFree.of_bodyS (code := cc) (maxLocals := maxL) (ret := ret) hy ?_ ?_
  · intro args s m h hn
    obtain ⟨m9, meth, c, hn9, h1, h2, h3, h4, -, h5, h6, -⟩ := Cond.codeWith_spec (atoms_spec (ws := ws) h _ (by rw [hw]; exact List.mem_cons_self))
    cases hn.symm.trans hn9
    exact ⟨meth, c, h1, h2, h3, h4, h5, h6⟩
  · intro p e s m args below meth c s₁ B hml hP _
    have hh0 : s₁.heap = s.heap := by rw [B.state]; rfl
    obtain ⟨t, a1, o, b1, b2, b3⟩ := body p e s m args below meth c s₁ B hml hP s₁ hh0 (Stand.of_body B)
    exact ⟨t, o, a1, b1, b2, b3⟩
/-! ===== END ===== -/
end
section
/-! ===== BEGIN printed: names, fields, word lists, decode rows ===== -/
def RX0 : String := "GongCycles$BronzeSet"
def TX0 : u_T := fun k => match k with
  | 0 => ("GongCycles$BronzeSet", "pitches", "[I", true)
  | _ => ("GongCycles$BronzeSet", "yearlyDrift", "I", false)
def tyX0 : Nat → FieldType := fun k => match k with
  | 0 => .array .int
  | _ => .int
abbrev wsX00 : List Cond := u_ws RX0 TX0 2
theorem nmX0 : ∀ a, a < 2 → ∀ b, b < 2 → a ≠ b → (TX0 a).2.1 ≠ (TX0 b).2.1 := by decide +kernel
theorem tyX0_ok : ∀ k, k < 2 → parseFieldDescriptor (TX0 k).2.2.1 = some (tyX0 k) := by decide +kernel
abbrev cX0_init : ByteArray := prog_2_method_1_code
def yX0_init : MethodName := ⟨RX0, "<init>", "()V"⟩
abbrev cX0_pitchOf : ByteArray := prog_2_method_2_code
def yX0_pitchOf : MethodName := ⟨RX0, "pitchOf", "(I)I"⟩
abbrev cX0_putPitch : ByteArray := prog_2_method_3_code
def yX0_putPitch : MethodName := ⟨RX0, "putPitch", "(II)I"⟩
abbrev cX0_ageBy : ByteArray := prog_2_method_4_code
def yX0_ageBy : MethodName := ⟨RX0, "ageBy", "(I)V"⟩
abbrev cX0_tuneTo : ByteArray := prog_2_method_5_code
def yX0_tuneTo : MethodName := ⟨RX0, "tuneTo", "(I)V"⟩
def RX1 : String := "GongCycles$Melody"
def TX1 : u_T := fun k => match k with
  | _ => ("GongCycles$Melody", "tones", "[I", true)
def tyX1 : Nat → FieldType := fun k => match k with
  | _ => .array .int
abbrev wsX10 : List Cond := u_ws RX1 TX1 1
theorem nmX1 : ∀ a, a < 1 → ∀ b, b < 1 → a ≠ b → (TX1 a).2.1 ≠ (TX1 b).2.1 := by decide +kernel
theorem tyX1_ok : ∀ k, k < 1 → parseFieldDescriptor (TX1 k).2.2.1 = some (tyX1 k) := by decide +kernel
abbrev cX1_init : ByteArray := prog_3_method_1_code
def yX1_init : MethodName := ⟨RX1, "<init>", "(I)V"⟩
abbrev cX1_length : ByteArray := prog_3_method_2_code
def yX1_length : MethodName := ⟨RX1, "length", "()I"⟩
abbrev cX1_hasPlace : ByteArray := prog_3_method_3_code
def yX1_hasPlace : MethodName := ⟨RX1, "hasPlace", "(I)Z"⟩
abbrev cX1_at : ByteArray := prog_3_method_4_code
def yX1_at : MethodName := ⟨RX1, "at", "(I)I"⟩
abbrev cX1_put : ByteArray := prog_3_method_5_code
def yX1_put : MethodName := ⟨RX1, "put", "(II)I"⟩
abbrev cX1_soundAt : ByteArray := prog_3_method_6_code
def yX1_soundAt : MethodName := ⟨RX1, "soundAt", "(I)I"⟩
abbrev cX1_takeFrom : ByteArray := prog_3_method_7_code
def yX1_takeFrom : MethodName := ⟨RX1, "takeFrom", "(LGongCycles$Melody;)V"⟩
abbrev cX1_placesUnlike : ByteArray := prog_3_method_8_code
def yX1_placesUnlike : MethodName := ⟨RX1, "placesUnlike", "(LGongCycles$Melody;)I"⟩
def RX2 : String := "GongCycles$Piece"
def TX2 : u_T := fun k => match k with
  | 0 => ("GongCycles$Piece", "melody", "LGongCycles$Melody;", true)
  | _ => ("GongCycles$Piece", "forbiddenDays", "I", false)
def tyX2 : Nat → FieldType := fun k => match k with
  | 0 => .object "GongCycles$Melody"
  | _ => .int
abbrev wsX20 : List Cond := u_ws RX2 TX2 2
theorem nmX2 : ∀ a, a < 2 → ∀ b, b < 2 → a ≠ b → (TX2 a).2.1 ≠ (TX2 b).2.1 := by decide +kernel
theorem tyX2_ok : ∀ k, k < 2 → parseFieldDescriptor (TX2 k).2.2.1 = some (tyX2 k) := by decide +kernel
abbrev cX2_init : ByteArray := prog_4_method_1_code
def yX2_init : MethodName := ⟨RX2, "<init>", "(I)V"⟩
def RX3 : String := "GongCycles$Player"
def TX3 : u_T := fun k => match k with
  | 0 => ("GongCycles$Player", "ableParts", "I", true)
  | _ => ("GongCycles$Player", "versions", "[LGongCycles$Melody;", true)
def tyX3 : Nat → FieldType := fun k => match k with
  | 0 => .int
  | _ => .array (.object "GongCycles$Melody")
abbrev wsX30 : List Cond := u_ws RX3 TX3 2
theorem nmX3 : ∀ a, a < 2 → ∀ b, b < 2 → a ≠ b → (TX3 a).2.1 ≠ (TX3 b).2.1 := by decide +kernel
theorem tyX3_ok : ∀ k, k < 2 → parseFieldDescriptor (TX3 k).2.2.1 = some (tyX3 k) := by decide +kernel
abbrev cX3_init : ByteArray := prog_5_method_1_code
def yX3_init : MethodName := ⟨RX3, "<init>", "(I)V"⟩
abbrev cX3_versionOf : ByteArray := prog_5_method_2_code
def yX3_versionOf : MethodName := ⟨RX3, "versionOf", "(I)LGongCycles$Melody;"⟩
abbrev cX3_takeVersion : ByteArray := prog_5_method_3_code
def yX3_takeVersion : MethodName := ⟨RX3, "takeVersion", "(ILGongCycles$Melody;)V"⟩
def RX4 : String := "GongCycles$Playing"
def TX4 : u_T := fun k => match k with
  | 0 => ("GongCycles$Playing", "pieceNumber", "I", false)
  | 1 => ("GongCycles$Playing", "cycle", "I", false)
  | 2 => ("GongCycles$Playing", "place", "I", false)
  | 3 => ("GongCycles$Playing", "beatLength", "I", false)
  | 4 => ("GongCycles$Playing", "level", "I", false)
  | 5 => ("GongCycles$Playing", "gongs", "I", false)
  | 6 => ("GongCycles$Playing", "tempoTold", "I", false)
  | 7 => ("GongCycles$Playing", "goesOn", "Z", false)
  | 8 => ("GongCycles$Playing", "gongsToEnd", "I", false)
  | 9 => ("GongCycles$Playing", "ticksGone", "J", false)
  | _ => ("GongCycles$Playing", "strokesHad", "[J", true)
def tyX4 : Nat → FieldType := fun k => match k with
  | 0 => .int
  | 1 => .int
  | 2 => .int
  | 3 => .int
  | 4 => .int
  | 5 => .int
  | 6 => .int
  | 7 => .boolean
  | 8 => .int
  | 9 => .long
  | _ => .array .long
abbrev wsX40 : List Cond := u_ws RX4 TX4 11
theorem nmX4 : ∀ a, a < 11 → ∀ b, b < 11 → a ≠ b → (TX4 a).2.1 ≠ (TX4 b).2.1 := by decide +kernel
theorem tyX4_ok : ∀ k, k < 11 → parseFieldDescriptor (TX4 k).2.2.1 = some (tyX4 k) := by decide +kernel
abbrev cX4_init : ByteArray := prog_6_method_1_code
def yX4_init : MethodName := ⟨RX4, "<init>", "()V"⟩
abbrev cX4_startPiece : ByteArray := prog_6_method_2_code
def yX4_startPiece : MethodName := ⟨RX4, "startPiece", "(II)V"⟩
abbrev cX4_hearDrum : ByteArray := prog_6_method_3_code
def yX4_hearDrum : MethodName := ⟨RX4, "hearDrum", "(I)V"⟩
abbrev cX4_hearEnd : ByteArray := prog_6_method_4_code
def yX4_hearEnd : MethodName := ⟨RX4, "hearEnd", "()V"⟩
abbrev cX4_playBeat : ByteArray := prog_6_method_5_code
def yX4_playBeat : MethodName := ⟨RX4, "playBeat", "()V"⟩
abbrev cX4_changeBeatLength : ByteArray := prog_6_method_6_code
def yX4_changeBeatLength : MethodName := ⟨RX4, "changeBeatLength", "()V"⟩
abbrev cX4_playGong : ByteArray := prog_6_method_7_code
def yX4_playGong : MethodName := ⟨RX4, "playGong", "()V"⟩
abbrev cX4_levelOf : ByteArray := prog_6_method_8_code
def yX4_levelOf : MethodName := ⟨RX4, "levelOf", "(I)I"⟩
abbrev cX4_strokesOf : ByteArray := prog_6_method_9_code
def yX4_strokesOf : MethodName := ⟨RX4, "strokesOf", "(I)J"⟩
def RX5 : String := "GongCycles"
def TX5 : u_T := fun k => match k with
  | 0 => ("GongCycles", "lengths", "[I", true)
  | 1 => ("GongCycles", "formCount", "I", false)
  | 2 => ("GongCycles", "pieces", "[LGongCycles$Piece;", true)
  | 3 => ("GongCycles", "pieceCount", "I", false)
  | 4 => ("GongCycles", "playing", "LGongCycles$Playing;", true)
  | 5 => ("GongCycles", "begun", "I", false)
  | 6 => ("GongCycles", "today", "I", false)
  | 7 => ("GongCycles", "sets", "[LGongCycles$BronzeSet;", true)
  | 8 => ("GongCycles", "yearsGone", "I", false)
  | 9 => ("GongCycles", "players", "[LGongCycles$Player;", true)
  | _ => ("GongCycles", "playerCount", "I", false)
def tyX5 : Nat → FieldType := fun k => match k with
  | 0 => .array .int
  | 1 => .int
  | 2 => .array (.object "GongCycles$Piece")
  | 3 => .int
  | 4 => .object "GongCycles$Playing"
  | 5 => .int
  | 6 => .int
  | 7 => .array (.object "GongCycles$BronzeSet")
  | 8 => .int
  | 9 => .array (.object "GongCycles$Player")
  | _ => .int
abbrev wsX50 : List Cond := u_ws RX5 TX5 11
theorem nmX5 : ∀ a, a < 11 → ∀ b, b < 11 → a ≠ b → (TX5 a).2.1 ≠ (TX5 b).2.1 := by decide +kernel
theorem tyX5_ok : ∀ k, k < 11 → parseFieldDescriptor (TX5 k).2.2.1 = some (tyX5 k) := by decide +kernel
abbrev cX5_init : ByteArray := prog_1_method_1_code
def yX5_init : MethodName := ⟨RX5, "<init>", "()V"⟩
abbrev cX5_form : ByteArray := prog_1_method_2_code
def yX5_form : MethodName := ⟨RX5, "form", "(I)I"⟩
abbrev cX5_depth : ByteArray := prog_1_method_3_code
def yX5_depth : MethodName := ⟨RX5, "depth", "(II)I"⟩
abbrev cX5_piece : ByteArray := prog_1_method_4_code
def yX5_piece : MethodName := ⟨RX5, "piece", "(I)I"⟩
abbrev cX5_tone : ByteArray := prog_1_method_5_code
def yX5_tone : MethodName := ⟨RX5, "tone", "(III)I"⟩
abbrev cX5_forbid : ByteArray := prog_1_method_6_code
def yX5_forbid : MethodName := ⟨RX5, "forbid", "(II)I"⟩
abbrev cX5_sounds : ByteArray := prog_1_method_7_code
def yX5_sounds : MethodName := ⟨RX5, "sounds", "(II)I"⟩
abbrev cX5_stroke : ByteArray := prog_1_method_8_code
def yX5_stroke : MethodName := ⟨RX5, "stroke", "(IIIII)I"⟩
abbrev cX5_strokeAnew : ByteArray := prog_1_method_9_code
def yX5_strokeAnew : MethodName := ⟨RX5, "strokeAnew", "(IIIII)I"⟩
abbrev cX5_begin : ByteArray := prog_1_method_10_code
def yX5_begin : MethodName := ⟨RX5, "begin", "(I)I"⟩
abbrev cX5_drum : ByteArray := prog_1_method_11_code
def yX5_drum : MethodName := ⟨RX5, "drum", "(I)I"⟩
abbrev cX5_beats : ByteArray := prog_1_method_12_code
def yX5_beats : MethodName := ⟨RX5, "beats", "(I)I"⟩
abbrev cX5_now : ByteArray := prog_1_method_13_code
def yX5_now : MethodName := ⟨RX5, "now", "(I)I"⟩
abbrev cX5_ticks : ByteArray := prog_1_method_14_code
def yX5_ticks : MethodName := ⟨RX5, "ticks", "()J"⟩
abbrev cX5_strokes : ByteArray := prog_1_method_15_code
def yX5_strokes : MethodName := ⟨RX5, "strokes", "(I)J"⟩
abbrev cX5_days : ByteArray := prog_1_method_16_code
def yX5_days : MethodName := ⟨RX5, "days", "(I)I"⟩
abbrev cX5_pitch : ByteArray := prog_1_method_17_code
def yX5_pitch : MethodName := ⟨RX5, "pitch", "(III)I"⟩
abbrev cX5_drift : ByteArray := prog_1_method_18_code
def yX5_drift : MethodName := ⟨RX5, "drift", "(II)I"⟩
abbrev cX5_years : ByteArray := prog_1_method_19_code
def yX5_years : MethodName := ⟨RX5, "years", "(I)I"⟩
abbrev cX5_tune : ByteArray := prog_1_method_20_code
def yX5_tune : MethodName := ⟨RX5, "tune", "(II)I"⟩
abbrev cX5_beat : ByteArray := prog_1_method_21_code
def yX5_beat : MethodName := ⟨RX5, "beat", "(III)I"⟩
abbrev cX5_player : ByteArray := prog_1_method_22_code
def yX5_player : MethodName := ⟨RX5, "player", "(I)I"⟩
abbrev cX5_learn : ByteArray := prog_1_method_23_code
def yX5_learn : MethodName := ⟨RX5, "learn", "(III)I"⟩
abbrev cX5_slip : ByteArray := prog_1_method_24_code
def yX5_slip : MethodName := ⟨RX5, "slip", "(IIII)I"⟩
abbrev cX5_unlike : ByteArray := prog_1_method_25_code
def yX5_unlike : MethodName := ⟨RX5, "unlike", "(III)I"⟩
abbrev cX5_covered : ByteArray := prog_1_method_26_code
def yX5_covered : MethodName := ⟨RX5, "covered", "(I)I"⟩
abbrev cX5_lengthOfForm : ByteArray := prog_1_method_27_code
def yX5_lengthOfForm : MethodName := ⟨RX5, "lengthOfForm", "(I)I"⟩
abbrev cX5_pieceAt : ByteArray := prog_1_method_28_code
def yX5_pieceAt : MethodName := ⟨RX5, "pieceAt", "(I)LGongCycles$Piece;"⟩
abbrev cX5_setAt : ByteArray := prog_1_method_29_code
def yX5_setAt : MethodName := ⟨RX5, "setAt", "(I)LGongCycles$BronzeSet;"⟩
abbrev cX5_playerAt : ByteArray := prog_1_method_30_code
def yX5_playerAt : MethodName := ⟨RX5, "playerAt", "(I)LGongCycles$Player;"⟩
abbrev cX5_melodyOf : ByteArray := prog_1_method_31_code
def yX5_melodyOf : MethodName := ⟨RX5, "melodyOf", "(II)LGongCycles$Melody;"⟩
abbrev cX5_knowersOf : ByteArray := prog_1_method_32_code
def yX5_knowersOf : MethodName := ⟨RX5, "knowersOf", "(I)I"⟩
abbrev cX5_refuseNoPlace : ByteArray := prog_1_method_33_code
def yX5_refuseNoPlace : MethodName := ⟨RX5, "refuseNoPlace", "(LGongCycles$Melody;I)V"⟩
abbrev cX5_refuseNoPart : ByteArray := prog_1_method_34_code
def yX5_refuseNoPart : MethodName := ⟨RX5, "refuseNoPart", "(I)V"⟩
abbrev cX5_refuseNoTone : ByteArray := prog_1_method_35_code
def yX5_refuseNoTone : MethodName := ⟨RX5, "refuseNoTone", "(I)V"⟩
abbrev cX5_refuseNoToneOrRest : ByteArray := prog_1_method_36_code
def yX5_refuseNoToneOrRest : MethodName := ⟨RX5, "refuseNoToneOrRest", "(I)V"⟩
abbrev cX5_refuseNoStroke : ByteArray := prog_1_method_37_code
def yX5_refuseNoStroke : MethodName := ⟨RX5, "refuseNoStroke", "(LGongCycles$Melody;IIII)V"⟩
abbrev cX5_refuseSilence : ByteArray := prog_1_method_38_code
def yX5_refuseSilence : MethodName := ⟨RX5, "refuseSilence", "()V"⟩
abbrev cX5_toneOfStroke : ByteArray := prog_1_method_39_code
def yX5_toneOfStroke : MethodName := ⟨RX5, "toneOfStroke", "(IIIIIZ)I"⟩
abbrev cX5_densityOf : ByteArray := prog_1_method_40_code
def yX5_densityOf : MethodName := ⟨RX5, "densityOf", "(II)I"⟩
abbrev cX5_strokeAt : ByteArray := prog_1_method_41_code
def yX5_strokeAt : MethodName := ⟨RX5, "strokeAt", "(IIIII)I"⟩
abbrev cX5_turnAt : ByteArray := prog_1_method_42_code
def yX5_turnAt : MethodName := ⟨RX5, "turnAt", "(III)I"⟩
abbrev cX5_walkAt : ByteArray := prog_1_method_43_code
def yX5_walkAt : MethodName := ⟨RX5, "walkAt", "(IIII)I"⟩
abbrev cX5_strokeByStroke : ByteArray := prog_1_method_44_code
def yX5_strokeByStroke : MethodName := ⟨RX5, "strokeByStroke", "(IIIII)I"⟩
abbrev cX5_strokeBehind : ByteArray := prog_1_method_45_code
def yX5_strokeBehind : MethodName := ⟨RX5, "strokeBehind", "(IIIIII)I"⟩
abbrev cX5_walkBehind : ByteArray := prog_1_method_46_code
def yX5_walkBehind : MethodName := ⟨RX5, "walkBehind", "(IIII)I"⟩
abbrev cX5_withOnePlayerMore : ByteArray := prog_1_method_47_code
def yX5_withOnePlayerMore : MethodName := ⟨RX5, "withOnePlayerMore", "(II)I"⟩
abbrev cX5_mostParts : ByteArray := prog_1_method_48_code
def yX5_mostParts : MethodName := ⟨RX5, "mostParts", "(I)I"⟩
def RX6 : String := "GongCyclesModel"
def TX6 : u_T := fun k => match k with
  | 0 => ("GongCyclesModel", "lengths", "[I", true)
  | 1 => ("GongCyclesModel", "forms", "I", false)
  | 2 => ("GongCyclesModel", "formOf", "[I", true)
  | 3 => ("GongCyclesModel", "forbidden", "[I", true)
  | 4 => ("GongCyclesModel", "tones", "[I", true)
  | 5 => ("GongCyclesModel", "pieces", "I", false)
  | 6 => ("GongCyclesModel", "isPlayed", "Z", false)
  | 7 => ("GongCyclesModel", "current", "I", false)
  | 8 => ("GongCyclesModel", "place", "I", false)
  | 9 => ("GongCyclesModel", "beat", "I", false)
  | 10 => ("GongCyclesModel", "level", "I", false)
  | 11 => ("GongCyclesModel", "gongs", "I", false)
  | 12 => ("GongCyclesModel", "drums", "I", false)
  | 13 => ("GongCyclesModel", "ends", "I", false)
  | 14 => ("GongCyclesModel", "ticks", "J", false)
  | 15 => ("GongCyclesModel", "strokes", "[J", true)
  | 16 => ("GongCyclesModel", "begun", "I", false)
  | 17 => ("GongCyclesModel", "day", "I", false)
  | 18 => ("GongCyclesModel", "pitches", "[I", true)
  | 19 => ("GongCyclesModel", "drifts", "[I", true)
  | 20 => ("GongCyclesModel", "years", "I", false)
  | 21 => ("GongCyclesModel", "able", "[I", true)
  | 22 => ("GongCyclesModel", "knows", "[Z", true)
  | 23 => ("GongCyclesModel", "versions", "[I", true)
  | 24 => ("GongCyclesModel", "players", "I", false)
  | _ => ("GongCyclesModel", "last", "I", false)
def tyX6 : Nat → FieldType := fun k => match k with
  | 0 => .array .int
  | 1 => .int
  | 2 => .array .int
  | 3 => .array .int
  | 4 => .array .int
  | 5 => .int
  | 6 => .boolean
  | 7 => .int
  | 8 => .int
  | 9 => .int
  | 10 => .int
  | 11 => .int
  | 12 => .int
  | 13 => .int
  | 14 => .long
  | 15 => .array .long
  | 16 => .int
  | 17 => .int
  | 18 => .array .int
  | 19 => .array .int
  | 20 => .int
  | 21 => .array .int
  | 22 => .array .boolean
  | 23 => .array .int
  | 24 => .int
  | _ => .int
abbrev wsX60 : List Cond := u_ws RX6 TX6 26
theorem nmX6 : ∀ a, a < 26 → ∀ b, b < 26 → a ≠ b → (TX6 a).2.1 ≠ (TX6 b).2.1 := by decide +kernel
theorem tyX6_ok : ∀ k, k < 26 → parseFieldDescriptor (TX6 k).2.2.1 = some (tyX6 k) := by decide +kernel
abbrev cX6_init : ByteArray := prog_8_method_1_code
def yX6_init : MethodName := ⟨RX6, "<init>", "()V"⟩
abbrev cX6_thrown : ByteArray := prog_8_method_2_code
def yX6_thrown : MethodName := ⟨RX6, "thrown", "()I"⟩
abbrev cX6_in : ByteArray := prog_8_method_3_code
def yX6_in : MethodName := ⟨RX6, "in", "(III)Z"⟩
abbrev cX6_goes : ByteArray := prog_8_method_4_code
def yX6_goes : MethodName := ⟨RX6, "goes", "(ZZZ)Z"⟩
abbrev cX6_isForm : ByteArray := prog_8_method_5_code
def yX6_isForm : MethodName := ⟨RX6, "isForm", "(I)Z"⟩
abbrev cX6_isPiece : ByteArray := prog_8_method_6_code
def yX6_isPiece : MethodName := ⟨RX6, "isPiece", "(I)Z"⟩
abbrev cX6_lengthOf : ByteArray := prog_8_method_7_code
def yX6_lengthOf : MethodName := ⟨RX6, "lengthOf", "(I)I"⟩
abbrev cX6_isPlace : ByteArray := prog_8_method_8_code
def yX6_isPlace : MethodName := ⟨RX6, "isPlace", "(II)Z"⟩
abbrev cX6_isPart : ByteArray := prog_8_method_9_code
def yX6_isPart : MethodName := ⟨RX6, "isPart", "(I)Z"⟩
abbrev cX6_isPlayer : ByteArray := prog_8_method_10_code
def yX6_isPlayer : MethodName := ⟨RX6, "isPlayer", "(I)Z"⟩
abbrev cX6_lesser : ByteArray := prog_8_method_11_code
def yX6_lesser : MethodName := ⟨RX6, "lesser", "(II)I"⟩
abbrev cX6_form : ByteArray := prog_8_method_12_code
def yX6_form : MethodName := ⟨RX6, "form", "(I)I"⟩
abbrev cX6_depth : ByteArray := prog_8_method_13_code
def yX6_depth : MethodName := ⟨RX6, "depth", "(II)I"⟩
abbrev cX6_piece : ByteArray := prog_8_method_14_code
def yX6_piece : MethodName := ⟨RX6, "piece", "(I)I"⟩
abbrev cX6_tone : ByteArray := prog_8_method_15_code
def yX6_tone : MethodName := ⟨RX6, "tone", "(III)I"⟩
abbrev cX6_forbid : ByteArray := prog_8_method_16_code
def yX6_forbid : MethodName := ⟨RX6, "forbid", "(II)I"⟩
abbrev cX6_soundOf : ByteArray := prog_8_method_17_code
def yX6_soundOf : MethodName := ⟨RX6, "soundOf", "(II)I"⟩
abbrev cX6_sounds : ByteArray := prog_8_method_18_code
def yX6_sounds : MethodName := ⟨RX6, "sounds", "(II)I"⟩
abbrev cX6_density : ByteArray := prog_8_method_19_code
def yX6_density : MethodName := ⟨RX6, "density", "(II)I"⟩
abbrev cX6_strikes : ByteArray := prog_8_method_20_code
def yX6_strikes : MethodName := ⟨RX6, "strikes", "(IIIII)I"⟩
abbrev cX6_stroke : ByteArray := prog_8_method_21_code
def yX6_stroke : MethodName := ⟨RX6, "stroke", "(IIIII)I"⟩
abbrev cX6_strokeAnew : ByteArray := prog_8_method_22_code
def yX6_strokeAnew : MethodName := ⟨RX6, "strokeAnew", "(IIIII)I"⟩
abbrev cX6_begin : ByteArray := prog_8_method_23_code
def yX6_begin : MethodName := ⟨RX6, "begin", "(I)I"⟩
abbrev cX6_drum : ByteArray := prog_8_method_24_code
def yX6_drum : MethodName := ⟨RX6, "drum", "(I)I"⟩
abbrev cX6_playsBeat : ByteArray := prog_8_method_25_code
def yX6_playsBeat : MethodName := ⟨RX6, "playsBeat", "()V"⟩
abbrev cX6_beats : ByteArray := prog_8_method_26_code
def yX6_beats : MethodName := ⟨RX6, "beats", "(I)I"⟩
abbrev cX6_now : ByteArray := prog_8_method_27_code
def yX6_now : MethodName := ⟨RX6, "now", "(I)I"⟩
abbrev cX6_ticks : ByteArray := prog_8_method_28_code
def yX6_ticks : MethodName := ⟨RX6, "ticks", "()J"⟩
abbrev cX6_strokes : ByteArray := prog_8_method_29_code
def yX6_strokes : MethodName := ⟨RX6, "strokes", "(I)J"⟩
abbrev cX6_days : ByteArray := prog_8_method_30_code
def yX6_days : MethodName := ⟨RX6, "days", "(I)I"⟩
abbrev cX6_isSet : ByteArray := prog_8_method_31_code
def yX6_isSet : MethodName := ⟨RX6, "isSet", "(I)Z"⟩
abbrev cX6_pitch : ByteArray := prog_8_method_32_code
def yX6_pitch : MethodName := ⟨RX6, "pitch", "(III)I"⟩
abbrev cX6_drift : ByteArray := prog_8_method_33_code
def yX6_drift : MethodName := ⟨RX6, "drift", "(II)I"⟩
abbrev cX6_years : ByteArray := prog_8_method_34_code
def yX6_years : MethodName := ⟨RX6, "years", "(I)I"⟩
abbrev cX6_tune : ByteArray := prog_8_method_35_code
def yX6_tune : MethodName := ⟨RX6, "tune", "(II)I"⟩
abbrev cX6_beat : ByteArray := prog_8_method_36_code
def yX6_beat : MethodName := ⟨RX6, "beat", "(III)I"⟩
abbrev cX6_player : ByteArray := prog_8_method_37_code
def yX6_player : MethodName := ⟨RX6, "player", "(I)I"⟩
abbrev cX6_knowsIt : ByteArray := prog_8_method_38_code
def yX6_knowsIt : MethodName := ⟨RX6, "knowsIt", "(II)Z"⟩
abbrev cX6_toneOf : ByteArray := prog_8_method_39_code
def yX6_toneOf : MethodName := ⟨RX6, "toneOf", "(III)I"⟩
abbrev cX6_learn : ByteArray := prog_8_method_40_code
def yX6_learn : MethodName := ⟨RX6, "learn", "(III)I"⟩
abbrev cX6_slip : ByteArray := prog_8_method_41_code
def yX6_slip : MethodName := ⟨RX6, "slip", "(IIII)I"⟩
abbrev cX6_unlike : ByteArray := prog_8_method_42_code
def yX6_unlike : MethodName := ⟨RX6, "unlike", "(III)I"⟩
abbrev cX6_covered : ByteArray := prog_8_method_43_code
def yX6_covered : MethodName := ⟨RX6, "covered", "(I)I"⟩
def RJ6 : String := "java/lang/Integer"
def TJ6 : u_T := fun k => match k with
  | _ => ("", "", "", false)
def tyJ6 : Nat → FieldType := fun k => match k with
  | _ => .int
abbrev wsJ60 : List Cond := u_ws RJ6 TJ6 0
theorem nmJ6 : ∀ a, a < 0 → ∀ b, b < 0 → a ≠ b → (TJ6 a).2.1 ≠ (TJ6 b).2.1 := by decide +kernel
theorem tyJ6_ok : ∀ k, k < 0 → parseFieldDescriptor (TJ6 k).2.2.1 = some (tyJ6 k) := by decide +kernel
abbrev cJ6_bitCount_0f7a4 : ByteArray := prog_13_method_49_code
def yJ6_bitCount_0f7a4 : MethodName := ⟨RJ6, "bitCount", "(I)I"⟩
def RJ9 : String := "java/lang/Math"
def TJ9 : u_T := fun k => match k with
  | _ => ("", "", "", false)
def tyJ9 : Nat → FieldType := fun k => match k with
  | _ => .int
abbrev wsJ90 : List Cond := u_ws RJ9 TJ9 0
theorem nmJ9 : ∀ a, a < 0 → ∀ b, b < 0 → a ≠ b → (TJ9 a).2.1 ≠ (TJ9 b).2.1 := by decide +kernel
theorem tyJ9_ok : ∀ k, k < 0 → parseFieldDescriptor (TJ9 k).2.2.1 = some (tyJ9 k) := by decide +kernel
abbrev cJ9_abs_0f7a4 : ByteArray := prog_14_method_59_code
def yJ9_abs_0f7a4 : MethodName := ⟨RJ9, "abs", "(I)I"⟩
abbrev cJ9_max_7cf53 : ByteArray := prog_14_method_65_code
def yJ9_max_7cf53 : MethodName := ⟨RJ9, "max", "(II)I"⟩
abbrev cJ9_max_f86c9 : ByteArray := prog_14_method_66_code
def yJ9_max_f86c9 : MethodName := ⟨RJ9, "max", "(JJ)J"⟩
abbrev cJ9_min_7cf53 : ByteArray := prog_14_method_69_code
def yJ9_min_7cf53 : MethodName := ⟨RJ9, "min", "(II)I"⟩
abbrev cJ9_min_f86c9 : ByteArray := prog_14_method_70_code
def yJ9_min_f86c9 : MethodName := ⟨RJ9, "min", "(JJ)J"⟩
def RJ0 : String := "java/lang/String"
def TJ0 : u_T := fun k => match k with
  | _ => ("", "", "", false)
def tyJ0 : Nat → FieldType := fun k => match k with
  | _ => .int
abbrev wsJ00 : List Cond := u_ws RJ0 TJ0 0
theorem nmJ0 : ∀ a, a < 0 → ∀ b, b < 0 → a ≠ b → (TJ0 a).2.1 ≠ (TJ0 b).2.1 := by decide +kernel
theorem tyJ0_ok : ∀ k, k < 0 → parseFieldDescriptor (TJ0 k).2.2.1 = some (tyJ0 k) := by decide +kernel
def RL : String := "GongCyclesLaw"
abbrev cL_form : ByteArray := method_3_code
def yL_form : MethodName := ⟨RL, "form", "(LGongCycles;I[J)I"⟩
abbrev cL_depth : ByteArray := method_4_code
def yL_depth : MethodName := ⟨RL, "depth", "(LGongCycles;II[J)I"⟩
abbrev cL_piece : ByteArray := method_5_code
def yL_piece : MethodName := ⟨RL, "piece", "(LGongCycles;I[J)I"⟩
abbrev cL_tone : ByteArray := method_6_code
def yL_tone : MethodName := ⟨RL, "tone", "(LGongCycles;III[J)I"⟩
abbrev cL_forbid : ByteArray := method_7_code
def yL_forbid : MethodName := ⟨RL, "forbid", "(LGongCycles;II[J)I"⟩
abbrev cL_sounds : ByteArray := method_8_code
def yL_sounds : MethodName := ⟨RL, "sounds", "(LGongCycles;II[J)I"⟩
abbrev cL_stroke : ByteArray := method_9_code
def yL_stroke : MethodName := ⟨RL, "stroke", "(LGongCycles;IIIII[J)I"⟩
abbrev cL_strokeAnew : ByteArray := method_10_code
def yL_strokeAnew : MethodName := ⟨RL, "strokeAnew", "(LGongCycles;IIIII[J)I"⟩
abbrev cL_begin : ByteArray := method_11_code
def yL_begin : MethodName := ⟨RL, "begin", "(LGongCycles;I[J)I"⟩
abbrev cL_drum : ByteArray := method_12_code
def yL_drum : MethodName := ⟨RL, "drum", "(LGongCycles;I[J)I"⟩
abbrev cL_beats : ByteArray := method_13_code
def yL_beats : MethodName := ⟨RL, "beats", "(LGongCycles;I[J)I"⟩
abbrev cL_now : ByteArray := method_14_code
def yL_now : MethodName := ⟨RL, "now", "(LGongCycles;I[J)I"⟩
abbrev cL_strokes : ByteArray := method_15_code
def yL_strokes : MethodName := ⟨RL, "strokes", "(LGongCycles;I[J)I"⟩
abbrev cL_days : ByteArray := method_16_code
def yL_days : MethodName := ⟨RL, "days", "(LGongCycles;I[J)I"⟩
abbrev cL_pitch : ByteArray := method_17_code
def yL_pitch : MethodName := ⟨RL, "pitch", "(LGongCycles;III[J)I"⟩
abbrev cL_drift : ByteArray := method_18_code
def yL_drift : MethodName := ⟨RL, "drift", "(LGongCycles;II[J)I"⟩
abbrev cL_years : ByteArray := method_19_code
def yL_years : MethodName := ⟨RL, "years", "(LGongCycles;I[J)I"⟩
abbrev cL_tune : ByteArray := method_20_code
def yL_tune : MethodName := ⟨RL, "tune", "(LGongCycles;II[J)I"⟩
abbrev cL_beat : ByteArray := method_21_code
def yL_beat : MethodName := ⟨RL, "beat", "(LGongCycles;III[J)I"⟩
abbrev cL_player : ByteArray := method_22_code
def yL_player : MethodName := ⟨RL, "player", "(LGongCycles;I[J)I"⟩
abbrev cL_learn : ByteArray := method_23_code
def yL_learn : MethodName := ⟨RL, "learn", "(LGongCycles;III[J)I"⟩
abbrev cL_slip : ByteArray := method_24_code
def yL_slip : MethodName := ⟨RL, "slip", "(LGongCycles;IIII[J)I"⟩
abbrev cL_unlike : ByteArray := method_25_code
def yL_unlike : MethodName := ⟨RL, "unlike", "(LGongCycles;III[J)I"⟩
abbrev cL_covered : ByteArray := method_26_code
def yL_covered : MethodName := ⟨RL, "covered", "(LGongCycles;I[J)I"⟩
abbrev cL_law : ByteArray := code
def yL_law : MethodName := ⟨RL, "law", "([I)Z"⟩
end
section
/-- the words that any method may take along: all of the tables that keep -/
def gT : List Cond := lw_tbl.filter goodWord
theorem gT_tbl : ∀ w ∈ gT, w ∈ lw_tbl := fun w h => (List.mem_filter.mp h).1
theorem gGood {ws : List Cond} (h : ∀ w ∈ ws, w ∈ gT) : GoodIn gT ws := fun w hw => ⟨h w hw, good_of_word (List.mem_filter.mp (h w hw)).2⟩
theorem mt1 : ∀ w ∈ tables_1_1, w ∈ lw_tbl := fun _ h => List.mem_append_right _ (List.mem_append_left _ h : _ ∈ tables_1)
theorem mt2 : ∀ w ∈ tables_1_2, w ∈ lw_tbl := fun _ h => List.mem_append_right _ (List.mem_append_right _ (List.mem_append_left _ h) : _ ∈ tables_1)
theorem mt3 : ∀ w ∈ tables_1_3, w ∈ lw_tbl := fun _ h => List.mem_append_right _ (List.mem_append_right _ (List.mem_append_right _ (List.mem_append_left _ h)) : _ ∈ tables_1)
theorem mt4 : ∀ w ∈ tables_1_4, w ∈ lw_tbl := fun _ h => List.mem_append_right _ (List.mem_append_right _ (List.mem_append_right _ (List.mem_append_right _ (h))) : _ ∈ tables_1)
theorem mw1_0 : (Jvm.Cond.initialized "GongCyclesLaw") ∈ gT := List.mem_filter.mpr ⟨mt1 _ (List.mem_of_getElem? (i := 0) rfl), rfl⟩
theorem mw1_1 : (Jvm.Cond.initialized "GongCycles") ∈ gT := List.mem_filter.mpr ⟨mt1 _ (List.mem_of_getElem? (i := 1) rfl), rfl⟩
theorem mw1_2 : (Jvm.Cond.initialized "GongCycles$Playing") ∈ gT := List.mem_filter.mpr ⟨mt1 _ (List.mem_of_getElem? (i := 2) rfl), rfl⟩
theorem mw1_3 : (Jvm.Cond.initialized "GongCycles$BronzeSet") ∈ gT := List.mem_filter.mpr ⟨mt1 _ (List.mem_of_getElem? (i := 3) rfl), rfl⟩
theorem mw1_4 : (Jvm.Cond.initialized "GongCyclesModel") ∈ gT := List.mem_filter.mpr ⟨mt1 _ (List.mem_of_getElem? (i := 4) rfl), rfl⟩
theorem mw1_5 : (Jvm.Cond.initialized "java/lang/Throwable") ∈ gT := List.mem_filter.mpr ⟨mt1 _ (List.mem_of_getElem? (i := 5) rfl), rfl⟩
theorem mw1_6 : (Jvm.Cond.initialized "java/lang/Exception") ∈ gT := List.mem_filter.mpr ⟨mt1 _ (List.mem_of_getElem? (i := 6) rfl), rfl⟩
theorem mw1_7 : (Jvm.Cond.initialized "java/lang/RuntimeException") ∈ gT := List.mem_filter.mpr ⟨mt1 _ (List.mem_of_getElem? (i := 7) rfl), rfl⟩
theorem mw1_8 : (Jvm.Cond.initialized "java/lang/IllegalArgumentException") ∈ gT := List.mem_filter.mpr ⟨mt1 _ (List.mem_of_getElem? (i := 8) rfl), rfl⟩
theorem mw1_9 : (Jvm.Cond.initialized "java/lang/IllegalStateException") ∈ gT := List.mem_filter.mpr ⟨mt1 _ (List.mem_of_getElem? (i := 9) rfl), rfl⟩
theorem mw1_10 : (Jvm.Cond.initialized "java/lang/IndexOutOfBoundsException") ∈ gT := List.mem_filter.mpr ⟨mt1 _ (List.mem_of_getElem? (i := 10) rfl), rfl⟩
theorem mw1_11 : (Jvm.Cond.initialized "GongCycles$Piece") ∈ gT := List.mem_filter.mpr ⟨mt1 _ (List.mem_of_getElem? (i := 11) rfl), rfl⟩
theorem mw1_12 : (Jvm.Cond.initialized "GongCycles$Melody") ∈ gT := List.mem_filter.mpr ⟨mt1 _ (List.mem_of_getElem? (i := 12) rfl), rfl⟩
theorem mw1_13 : (Jvm.Cond.initialized "java/lang/Math") ∈ gT := List.mem_filter.mpr ⟨mt1 _ (List.mem_of_getElem? (i := 13) rfl), rfl⟩
theorem mw1_14 : (Jvm.Cond.initialized "GongCycles$Player") ∈ gT := List.mem_filter.mpr ⟨mt1 _ (List.mem_of_getElem? (i := 14) rfl), rfl⟩
theorem mw1_15 : (Jvm.Cond.initialized "java/lang/Integer") ∈ gT := List.mem_filter.mpr ⟨mt1 _ (List.mem_of_getElem? (i := 15) rfl), rfl⟩
theorem mw1_16 : (Jvm.Cond.classLink "GongCyclesLaw" (8 : Nat) "GongCycles") ∈ gT := List.mem_filter.mpr ⟨mt1 _ (List.mem_of_getElem? (i := 16) rfl), rfl⟩
theorem mw1_17 : (Jvm.Cond.instantiable "GongCycles" (11 : Nat)) ∈ gT := List.mem_filter.mpr ⟨mt1 _ (List.mem_of_getElem? (i := 17) rfl), rfl⟩
theorem mw1_18 : (Jvm.Cond.methodLink "GongCyclesLaw" (93 : Nat) ({ cls := "GongCycles", name := "<init>", desc := "()V" } : Jvm.MethodName)) ∈ gT := List.mem_filter.mpr ⟨mt1 _ (List.mem_of_getElem? (i := 18) rfl), rfl⟩
theorem mw1_19 : (Jvm.Cond.instanceMethod ({ cls := "GongCycles", name := "<init>", desc := "()V" } : Jvm.MethodName)) ∈ gT := List.mem_filter.mpr ⟨mt1 _ (List.mem_of_getElem? (i := 19) rfl), rfl⟩
theorem mw1_20 : (Jvm.Cond.code ({ cls := "GongCycles", name := "<init>", desc := "()V" } : Jvm.MethodName) prog_1_method_1_code (2 : Nat) (Option.none : Option Jvm.ClassFile.FieldType)) ∈ gT := List.mem_filter.mpr ⟨mt1 _ (List.mem_of_getElem? (i := 20) rfl), rfl⟩
theorem mw1_21 : (Jvm.Cond.methodLink "GongCycles" (3 : Nat) ({ cls := "java/lang/Object", name := "<init>", desc := "()V" } : Jvm.MethodName)) ∈ gT := List.mem_filter.mpr ⟨mt1 _ (List.mem_of_getElem? (i := 21) rfl), rfl⟩
theorem mw1_22 : (Jvm.Cond.instanceMethod ({ cls := "java/lang/Object", name := "<init>", desc := "()V" } : Jvm.MethodName)) ∈ gT := List.mem_filter.mpr ⟨mt1 _ (List.mem_of_getElem? (i := 22) rfl), rfl⟩
theorem mw1_23 : (Jvm.Cond.code ({ cls := "java/lang/Object", name := "<init>", desc := "()V" } : Jvm.MethodName) object_method_1_code (1 : Nat) (Option.none : Option Jvm.ClassFile.FieldType)) ∈ gT := List.mem_filter.mpr ⟨mt1 _ (List.mem_of_getElem? (i := 23) rfl), rfl⟩
theorem mw1_24 : (Jvm.Cond.classLink "GongCycles" (17 : Nat) "GongCycles$Piece") ∈ gT := List.mem_filter.mpr ⟨mt1 _ (List.mem_of_getElem? (i := 24) rfl), rfl⟩
theorem mw1_26 : (Jvm.Cond.classLink "GongCycles" (26 : Nat) "GongCycles$Playing") ∈ gT := List.mem_filter.mpr ⟨mt1 _ (List.mem_of_getElem? (i := 26) rfl), rfl⟩
theorem mw1_27 : (Jvm.Cond.instantiable "GongCycles$Playing" (11 : Nat)) ∈ gT := List.mem_filter.mpr ⟨mt1 _ (List.mem_of_getElem? (i := 27) rfl), rfl⟩
theorem mw1_29 : (Jvm.Cond.instanceMethod ({ cls := "GongCycles$Playing", name := "<init>", desc := "()V" } : Jvm.MethodName)) ∈ gT := List.mem_filter.mpr ⟨mt1 _ (List.mem_of_getElem? (i := 29) rfl), rfl⟩
theorem mw1_30 : (Jvm.Cond.code ({ cls := "GongCycles$Playing", name := "<init>", desc := "()V" } : Jvm.MethodName) prog_6_method_1_code (1 : Nat) (Option.none : Option Jvm.ClassFile.FieldType)) ∈ gT := List.mem_filter.mpr ⟨mt1 _ (List.mem_of_getElem? (i := 30) rfl), rfl⟩
theorem mw1_31 : (Jvm.Cond.methodLink "GongCycles$Playing" (3 : Nat) ({ cls := "java/lang/Object", name := "<init>", desc := "()V" } : Jvm.MethodName)) ∈ gT := List.mem_filter.mpr ⟨mt1 _ (List.mem_of_getElem? (i := 31) rfl), rfl⟩
theorem mw1_32 : (Jvm.Cond.fieldLink "GongCycles$Playing" (9 : Nat) "GongCycles$Playing" "pieceNumber" "I") ∈ gT := List.mem_filter.mpr ⟨mt1 _ (List.mem_of_getElem? (i := 32) rfl), rfl⟩
theorem mw1_34 : (Jvm.Cond.fieldLink "GongCycles$Playing" (15 : Nat) "GongCycles$Playing" "cycle" "I") ∈ gT := List.mem_filter.mpr ⟨mt1 _ (List.mem_of_getElem? (i := 34) rfl), rfl⟩
theorem mw1_35 : (Jvm.Cond.fieldLink "GongCycles$Playing" (18 : Nat) "GongCycles$Playing" "place" "I") ∈ gT := List.mem_filter.mpr ⟨mt1 _ (List.mem_of_getElem? (i := 35) rfl), rfl⟩
theorem mw1_37 : (Jvm.Cond.fieldLink "GongCycles$Playing" (21 : Nat) "GongCycles$Playing" "beatLength" "I") ∈ gT := List.mem_filter.mpr ⟨mt1 _ (List.mem_of_getElem? (i := 37) rfl), rfl⟩
theorem mw1_39 : (Jvm.Cond.fieldLink "GongCycles$Playing" (24 : Nat) "GongCycles$Playing" "level" "I") ∈ gT := List.mem_filter.mpr ⟨mt1 _ (List.mem_of_getElem? (i := 39) rfl), rfl⟩
theorem mw1_41 : (Jvm.Cond.fieldLink "GongCycles$Playing" (27 : Nat) "GongCycles$Playing" "gongs" "I") ∈ gT := List.mem_filter.mpr ⟨mt1 _ (List.mem_of_getElem? (i := 41) rfl), rfl⟩
theorem mw1_43 : (Jvm.Cond.fieldLink "GongCycles$Playing" (30 : Nat) "GongCycles$Playing" "tempoTold" "I") ∈ gT := List.mem_filter.mpr ⟨mt1 _ (List.mem_of_getElem? (i := 43) rfl), rfl⟩
theorem mw1_44 : (Jvm.Cond.fieldLink "GongCycles$Playing" (33 : Nat) "GongCycles$Playing" "goesOn" "Z") ∈ gT := List.mem_filter.mpr ⟨mt1 _ (List.mem_of_getElem? (i := 44) rfl), rfl⟩
theorem mw1_46 : (Jvm.Cond.fieldLink "GongCycles$Playing" (37 : Nat) "GongCycles$Playing" "gongsToEnd" "I") ∈ gT := List.mem_filter.mpr ⟨mt1 _ (List.mem_of_getElem? (i := 46) rfl), rfl⟩
theorem mw1_47 : (Jvm.Cond.fieldLink "GongCycles$Playing" (40 : Nat) "GongCycles$Playing" "ticksGone" "J") ∈ gT := List.mem_filter.mpr ⟨mt1 _ (List.mem_of_getElem? (i := 47) rfl), rfl⟩
theorem mw1_49 : (Jvm.Cond.fieldLink "GongCycles$Playing" (44 : Nat) "GongCycles$Playing" "strokesHad" "[J") ∈ gT := List.mem_filter.mpr ⟨mt1 _ (List.mem_of_getElem? (i := 49) rfl), rfl⟩
theorem mw1_50 : (Jvm.Cond.lays "GongCycles$Playing" "GongCycles$Playing" "pieceNumber" "I") ∈ gT := List.mem_filter.mpr ⟨mt1 _ (List.mem_of_getElem? (i := 50) rfl), rfl⟩
theorem mw1_52 : (Jvm.Cond.lays "GongCycles$Playing" "GongCycles$Playing" "cycle" "I") ∈ gT := List.mem_filter.mpr ⟨mt1 _ (List.mem_of_getElem? (i := 52) rfl), rfl⟩
theorem mw1_54 : (Jvm.Cond.lays "GongCycles$Playing" "GongCycles$Playing" "place" "I") ∈ gT := List.mem_filter.mpr ⟨mt1 _ (List.mem_of_getElem? (i := 54) rfl), rfl⟩
theorem mw1_56 : (Jvm.Cond.lays "GongCycles$Playing" "GongCycles$Playing" "beatLength" "I") ∈ gT := List.mem_filter.mpr ⟨mt1 _ (List.mem_of_getElem? (i := 56) rfl), rfl⟩
theorem mw1_58 : (Jvm.Cond.lays "GongCycles$Playing" "GongCycles$Playing" "level" "I") ∈ gT := List.mem_filter.mpr ⟨mt1 _ (List.mem_of_getElem? (i := 58) rfl), rfl⟩
theorem mw1_60 : (Jvm.Cond.lays "GongCycles$Playing" "GongCycles$Playing" "gongs" "I") ∈ gT := List.mem_filter.mpr ⟨mt1 _ (List.mem_of_getElem? (i := 60) rfl), rfl⟩
theorem mw1_62 : (Jvm.Cond.lays "GongCycles$Playing" "GongCycles$Playing" "tempoTold" "I") ∈ gT := List.mem_filter.mpr ⟨mt1 _ (List.mem_of_getElem? (i := 62) rfl), rfl⟩
theorem mw1_64 : (Jvm.Cond.lays "GongCycles$Playing" "GongCycles$Playing" "goesOn" "Z") ∈ gT := List.mem_filter.mpr ⟨mt1 _ (List.mem_of_getElem? (i := 64) rfl), rfl⟩
theorem mw1_66 : (Jvm.Cond.lays "GongCycles$Playing" "GongCycles$Playing" "gongsToEnd" "I") ∈ gT := List.mem_filter.mpr ⟨mt1 _ (List.mem_of_getElem? (i := 66) rfl), rfl⟩
theorem mw1_68 : (Jvm.Cond.lays "GongCycles$Playing" "GongCycles$Playing" "ticksGone" "J") ∈ gT := List.mem_filter.mpr ⟨mt1 _ (List.mem_of_getElem? (i := 68) rfl), rfl⟩
theorem mw1_70 : (Jvm.Cond.laysFinal "GongCycles$Playing" "GongCycles$Playing" "strokesHad" "[J") ∈ gT := List.mem_filter.mpr ⟨mt1 _ (List.mem_of_getElem? (i := 70) rfl), rfl⟩
theorem mw1_73 : (Jvm.Cond.arrayClass Jvm.ClassFile.FieldType.int) ∈ gT := List.mem_filter.mpr ⟨mt1 _ (List.mem_of_getElem? (i := 73) rfl), rfl⟩
theorem mw1_74 : (Jvm.Cond.arrayClass Jvm.ClassFile.FieldType.long) ∈ gT := List.mem_filter.mpr ⟨mt1 _ (List.mem_of_getElem? (i := 74) rfl), rfl⟩
theorem mw1_75 : (Jvm.Cond.classLink "GongCycles" (39 : Nat) "GongCycles$BronzeSet") ∈ gT := List.mem_filter.mpr ⟨mt1 _ (List.mem_of_getElem? (i := 75) rfl), rfl⟩
theorem mw1_77 : (Jvm.Cond.classLink "GongCycles" (48 : Nat) "GongCycles$Player") ∈ gT := List.mem_filter.mpr ⟨mt1 _ (List.mem_of_getElem? (i := 77) rfl), rfl⟩
theorem mw1_79 : (Jvm.Cond.instantiable "GongCycles$BronzeSet" (2 : Nat)) ∈ gT := List.mem_filter.mpr ⟨mt1 _ (List.mem_of_getElem? (i := 79) rfl), rfl⟩
theorem mw1_80 : (Jvm.Cond.methodLink "GongCycles" (57 : Nat) ({ cls := "GongCycles$BronzeSet", name := "<init>", desc := "()V" } : Jvm.MethodName)) ∈ gT := List.mem_filter.mpr ⟨mt1 _ (List.mem_of_getElem? (i := 80) rfl), rfl⟩
theorem mw1_81 : (Jvm.Cond.instanceMethod ({ cls := "GongCycles$BronzeSet", name := "<init>", desc := "()V" } : Jvm.MethodName)) ∈ gT := List.mem_filter.mpr ⟨mt1 _ (List.mem_of_getElem? (i := 81) rfl), rfl⟩
theorem mw1_82 : (Jvm.Cond.code ({ cls := "GongCycles$BronzeSet", name := "<init>", desc := "()V" } : Jvm.MethodName) prog_2_method_1_code (2 : Nat) (Option.none : Option Jvm.ClassFile.FieldType)) ∈ gT := List.mem_filter.mpr ⟨mt1 _ (List.mem_of_getElem? (i := 82) rfl), rfl⟩
theorem mw1_83 : (Jvm.Cond.methodLink "GongCycles$BronzeSet" (3 : Nat) ({ cls := "java/lang/Object", name := "<init>", desc := "()V" } : Jvm.MethodName)) ∈ gT := List.mem_filter.mpr ⟨mt1 _ (List.mem_of_getElem? (i := 83) rfl), rfl⟩
theorem mw1_84 : (Jvm.Cond.constant "GongCycles$BronzeSet" (19 : Nat) (44000 : Int32)) ∈ gT := List.mem_filter.mpr ⟨mt1 _ (List.mem_of_getElem? (i := 84) rfl), rfl⟩
theorem mw1_85 : (Jvm.Cond.fieldLink "GongCycles$BronzeSet" (9 : Nat) "GongCycles$BronzeSet" "pitches" "[I") ∈ gT := List.mem_filter.mpr ⟨mt1 _ (List.mem_of_getElem? (i := 85) rfl), rfl⟩
theorem mw1_86 : (Jvm.Cond.fieldLink "GongCycles$BronzeSet" (15 : Nat) "GongCycles$BronzeSet" "yearlyDrift" "I") ∈ gT := List.mem_filter.mpr ⟨mt1 _ (List.mem_of_getElem? (i := 86) rfl), rfl⟩
theorem mw1_88 : (Jvm.Cond.laysFinal "GongCycles$BronzeSet" "GongCycles$BronzeSet" "pitches" "[I") ∈ gT := List.mem_filter.mpr ⟨mt1 _ (List.mem_of_getElem? (i := 88) rfl), rfl⟩
theorem mw1_90 : (Jvm.Cond.lays "GongCycles$BronzeSet" "GongCycles$BronzeSet" "yearlyDrift" "I") ∈ gT := List.mem_filter.mpr ⟨mt1 _ (List.mem_of_getElem? (i := 90) rfl), rfl⟩
theorem mw1_93 : (Jvm.Cond.fieldLink "GongCycles" (9 : Nat) "GongCycles" "lengths" "[I") ∈ gT := List.mem_filter.mpr ⟨mt1 _ (List.mem_of_getElem? (i := 93) rfl), rfl⟩
theorem mw1_94 : (Jvm.Cond.fieldLink "GongCycles" (13 : Nat) "GongCycles" "formCount" "I") ∈ gT := List.mem_filter.mpr ⟨mt1 _ (List.mem_of_getElem? (i := 94) rfl), rfl⟩
theorem mw1_95 : (Jvm.Cond.fieldLink "GongCycles" (19 : Nat) "GongCycles" "pieces" "[LGongCycles$Piece;") ∈ gT := List.mem_filter.mpr ⟨mt1 _ (List.mem_of_getElem? (i := 95) rfl), rfl⟩
theorem mw1_96 : (Jvm.Cond.fieldLink "GongCycles" (23 : Nat) "GongCycles" "pieceCount" "I") ∈ gT := List.mem_filter.mpr ⟨mt1 _ (List.mem_of_getElem? (i := 96) rfl), rfl⟩
theorem mw1_97 : (Jvm.Cond.fieldLink "GongCycles" (29 : Nat) "GongCycles" "playing" "LGongCycles$Playing;") ∈ gT := List.mem_filter.mpr ⟨mt1 _ (List.mem_of_getElem? (i := 97) rfl), rfl⟩
theorem mw1_98 : (Jvm.Cond.fieldLink "GongCycles" (33 : Nat) "GongCycles" "begun" "I") ∈ gT := List.mem_filter.mpr ⟨mt1 _ (List.mem_of_getElem? (i := 98) rfl), rfl⟩
theorem mw1_99 : (Jvm.Cond.fieldLink "GongCycles" (36 : Nat) "GongCycles" "today" "I") ∈ gT := List.mem_filter.mpr ⟨mt1 _ (List.mem_of_getElem? (i := 99) rfl), rfl⟩
theorem mw1_100 : (Jvm.Cond.fieldLink "GongCycles" (41 : Nat) "GongCycles" "sets" "[LGongCycles$BronzeSet;") ∈ gT := List.mem_filter.mpr ⟨mt1 _ (List.mem_of_getElem? (i := 100) rfl), rfl⟩
theorem mw1_101 : (Jvm.Cond.fieldLink "GongCycles" (45 : Nat) "GongCycles" "yearsGone" "I") ∈ gT := List.mem_filter.mpr ⟨mt1 _ (List.mem_of_getElem? (i := 101) rfl), rfl⟩
theorem mw1_102 : (Jvm.Cond.fieldLink "GongCycles" (50 : Nat) "GongCycles" "players" "[LGongCycles$Player;") ∈ gT := List.mem_filter.mpr ⟨mt1 _ (List.mem_of_getElem? (i := 102) rfl), rfl⟩
theorem mw1_103 : (Jvm.Cond.fieldLink "GongCycles" (54 : Nat) "GongCycles" "playerCount" "I") ∈ gT := List.mem_filter.mpr ⟨mt1 _ (List.mem_of_getElem? (i := 103) rfl), rfl⟩
theorem mw1_104 : (Jvm.Cond.laysFinal "GongCycles" "GongCycles" "lengths" "[I") ∈ gT := List.mem_filter.mpr ⟨mt1 _ (List.mem_of_getElem? (i := 104) rfl), rfl⟩
theorem mw1_106 : (Jvm.Cond.lays "GongCycles" "GongCycles" "formCount" "I") ∈ gT := List.mem_filter.mpr ⟨mt1 _ (List.mem_of_getElem? (i := 106) rfl), rfl⟩
theorem mw1_108 : (Jvm.Cond.laysFinal "GongCycles" "GongCycles" "pieces" "[LGongCycles$Piece;") ∈ gT := List.mem_filter.mpr ⟨mt1 _ (List.mem_of_getElem? (i := 108) rfl), rfl⟩
theorem mw1_110 : (Jvm.Cond.lays "GongCycles" "GongCycles" "pieceCount" "I") ∈ gT := List.mem_filter.mpr ⟨mt1 _ (List.mem_of_getElem? (i := 110) rfl), rfl⟩
theorem mw1_112 : (Jvm.Cond.laysFinal "GongCycles" "GongCycles" "playing" "LGongCycles$Playing;") ∈ gT := List.mem_filter.mpr ⟨mt1 _ (List.mem_of_getElem? (i := 112) rfl), rfl⟩
theorem mw1_114 : (Jvm.Cond.lays "GongCycles" "GongCycles" "begun" "I") ∈ gT := List.mem_filter.mpr ⟨mt1 _ (List.mem_of_getElem? (i := 114) rfl), rfl⟩
theorem mw1_116 : (Jvm.Cond.lays "GongCycles" "GongCycles" "today" "I") ∈ gT := List.mem_filter.mpr ⟨mt1 _ (List.mem_of_getElem? (i := 116) rfl), rfl⟩
theorem mw1_118 : (Jvm.Cond.laysFinal "GongCycles" "GongCycles" "sets" "[LGongCycles$BronzeSet;") ∈ gT := List.mem_filter.mpr ⟨mt1 _ (List.mem_of_getElem? (i := 118) rfl), rfl⟩
theorem mw1_120 : (Jvm.Cond.lays "GongCycles" "GongCycles" "yearsGone" "I") ∈ gT := List.mem_filter.mpr ⟨mt1 _ (List.mem_of_getElem? (i := 120) rfl), rfl⟩
theorem mw1_122 : (Jvm.Cond.laysFinal "GongCycles" "GongCycles" "players" "[LGongCycles$Player;") ∈ gT := List.mem_filter.mpr ⟨mt1 _ (List.mem_of_getElem? (i := 122) rfl), rfl⟩
theorem mw1_124 : (Jvm.Cond.lays "GongCycles" "GongCycles" "playerCount" "I") ∈ gT := List.mem_filter.mpr ⟨mt1 _ (List.mem_of_getElem? (i := 124) rfl), rfl⟩
theorem mw1_127 : (Jvm.Cond.methodLink "GongCyclesLaw" (143 : Nat) ({ cls := "GongCycles", name := "ticks", desc := "()J" } : Jvm.MethodName)) ∈ gT := List.mem_filter.mpr ⟨mt1 _ (List.mem_of_getElem? (i := 127) rfl), rfl⟩
theorem mw1_128 : (Jvm.Cond.instanceMethod ({ cls := "GongCycles", name := "ticks", desc := "()J" } : Jvm.MethodName)) ∈ gT := List.mem_filter.mpr ⟨mt1 _ (List.mem_of_getElem? (i := 128) rfl), rfl⟩
theorem mw1_129 : (Jvm.Cond.selects "GongCycles" ({ cls := "GongCycles", name := "ticks", desc := "()J" } : Jvm.MethodName) ({ cls := "GongCycles", name := "ticks", desc := "()J" } : Jvm.MethodName)) ∈ gT := List.mem_filter.mpr ⟨mt1 _ (List.mem_of_getElem? (i := 129) rfl), rfl⟩
theorem mw1_130 : (Jvm.Cond.code ({ cls := "GongCycles", name := "ticks", desc := "()J" } : Jvm.MethodName) prog_1_method_14_code (1 : Nat) (Option.some Jvm.ClassFile.FieldType.long)) ∈ gT := List.mem_filter.mpr ⟨mt1 _ (List.mem_of_getElem? (i := 130) rfl), rfl⟩
theorem mw1_131 : (Jvm.Cond.methodLink "GongCyclesLaw" (97 : Nat) ({ cls := "GongCyclesLaw", name := "form", desc := "(LGongCycles;I[J)I" } : Jvm.MethodName)) ∈ gT := List.mem_filter.mpr ⟨mt1 _ (List.mem_of_getElem? (i := 131) rfl), rfl⟩
theorem mw1_132 : (Jvm.Cond.static ({ cls := "GongCyclesLaw", name := "form", desc := "(LGongCycles;I[J)I" } : Jvm.MethodName)) ∈ gT := List.mem_filter.mpr ⟨mt1 _ (List.mem_of_getElem? (i := 132) rfl), rfl⟩
theorem mw1_133 : (Jvm.Cond.codeWith ({ cls := "GongCyclesLaw", name := "form", desc := "(LGongCycles;I[J)I" } : Jvm.MethodName) method_3_code (4 : Nat) (Option.some Jvm.ClassFile.FieldType.int) [((0 : Nat), (9 : Nat), (12 : Nat), (13 : Nat)), ((0 : Nat), (9 : Nat), (15 : Nat), (15 : Nat))]) ∈ gT := List.mem_filter.mpr ⟨mt1 _ (List.mem_of_getElem? (i := 133) rfl), rfl⟩
theorem mw1_134 : (Jvm.Cond.classLink "GongCyclesLaw" (13 : Nat) "java/lang/IllegalArgumentException") ∈ gT := List.mem_filter.mpr ⟨mt1 _ (List.mem_of_getElem? (i := 134) rfl), rfl⟩
theorem mw1_135 : (Jvm.Cond.classLink "GongCyclesLaw" (15 : Nat) "java/lang/IllegalStateException") ∈ gT := List.mem_filter.mpr ⟨mt1 _ (List.mem_of_getElem? (i := 135) rfl), rfl⟩
theorem mw1_136 : (Jvm.Cond.methodLink "GongCyclesLaw" (7 : Nat) ({ cls := "GongCycles", name := "form", desc := "(I)I" } : Jvm.MethodName)) ∈ gT := List.mem_filter.mpr ⟨mt1 _ (List.mem_of_getElem? (i := 136) rfl), rfl⟩
theorem mw1_137 : (Jvm.Cond.instanceMethod ({ cls := "GongCycles", name := "form", desc := "(I)I" } : Jvm.MethodName)) ∈ gT := List.mem_filter.mpr ⟨mt1 _ (List.mem_of_getElem? (i := 137) rfl), rfl⟩
theorem mw1_138 : (Jvm.Cond.selects "GongCycles" ({ cls := "GongCycles", name := "form", desc := "(I)I" } : Jvm.MethodName) ({ cls := "GongCycles", name := "form", desc := "(I)I" } : Jvm.MethodName)) ∈ gT := List.mem_filter.mpr ⟨mt1 _ (List.mem_of_getElem? (i := 138) rfl), rfl⟩
theorem mw1_139 : (Jvm.Cond.code ({ cls := "GongCycles", name := "form", desc := "(I)I" } : Jvm.MethodName) prog_1_method_2_code (2 : Nat) (Option.some Jvm.ClassFile.FieldType.int)) ∈ gT := List.mem_filter.mpr ⟨mt1 _ (List.mem_of_getElem? (i := 139) rfl), rfl⟩
theorem mw1_140 : (Jvm.Cond.classLink "GongCycles" (58 : Nat) "java/lang/IllegalArgumentException") ∈ gT := List.mem_filter.mpr ⟨mt1 _ (List.mem_of_getElem? (i := 140) rfl), rfl⟩
theorem mw1_141 : (Jvm.Cond.instantiable "java/lang/IllegalArgumentException" (6 : Nat)) ∈ gT := List.mem_filter.mpr ⟨mt1 _ (List.mem_of_getElem? (i := 141) rfl), rfl⟩
theorem mw1_149 : (Jvm.Cond.selects "java/lang/IllegalArgumentException" ({ cls := "java/lang/Throwable", name := "fillInStackTrace", desc := "(I)Ljava/lang/Throwable;" } : Jvm.MethodName) ({ cls := "java/lang/Throwable", name := "fillInStackTrace", desc := "(I)Ljava/lang/Throwable;" } : Jvm.MethodName)) ∈ gT := List.mem_filter.mpr ⟨mt1 _ (List.mem_of_getElem? (i := 149) rfl), rfl⟩
theorem mw1_150 : (Jvm.Cond.selects "java/lang/IllegalArgumentException" ({ cls := "java/lang/Throwable", name := "fillInStackTrace", desc := "()Ljava/lang/Throwable;" } : Jvm.MethodName) ({ cls := "java/lang/Throwable", name := "fillInStackTrace", desc := "()Ljava/lang/Throwable;" } : Jvm.MethodName)) ∈ gT := List.mem_filter.mpr ⟨mt1 _ (List.mem_of_getElem? (i := 150) rfl), rfl⟩
theorem mw1_151 : (Jvm.Cond.lays "java/lang/IllegalArgumentException" "java/lang/Throwable" "cause" "Ljava/lang/Throwable;") ∈ gT := List.mem_filter.mpr ⟨mt1 _ (List.mem_of_getElem? (i := 151) rfl), rfl⟩
theorem mw1_152 : (Jvm.Cond.lays "java/lang/Throwable" "java/lang/Throwable" "cause" "Ljava/lang/Throwable;") ∈ gT := List.mem_filter.mpr ⟨mt1 _ (List.mem_of_getElem? (i := 152) rfl), rfl⟩
theorem mw1_153 : (Jvm.Cond.lays "java/lang/IllegalArgumentException" "java/lang/Throwable" "stackTrace" "[Ljava/lang/StackTraceElement;") ∈ gT := List.mem_filter.mpr ⟨mt1 _ (List.mem_of_getElem? (i := 153) rfl), rfl⟩
theorem mw1_154 : (Jvm.Cond.lays "java/lang/Throwable" "java/lang/Throwable" "stackTrace" "[Ljava/lang/StackTraceElement;") ∈ gT := List.mem_filter.mpr ⟨mt1 _ (List.mem_of_getElem? (i := 154) rfl), rfl⟩
theorem mw1_155 : (Jvm.Cond.lays "java/lang/IllegalArgumentException" "java/lang/Throwable" "suppressedExceptions" "Ljava/util/List;") ∈ gT := List.mem_filter.mpr ⟨mt1 _ (List.mem_of_getElem? (i := 155) rfl), rfl⟩
theorem mw1_156 : (Jvm.Cond.lays "java/lang/Throwable" "java/lang/Throwable" "suppressedExceptions" "Ljava/util/List;") ∈ gT := List.mem_filter.mpr ⟨mt1 _ (List.mem_of_getElem? (i := 156) rfl), rfl⟩
theorem mw1_157 : (Jvm.Cond.lays "java/lang/IllegalArgumentException" "java/lang/Throwable" "detailMessage" "Ljava/lang/String;") ∈ gT := List.mem_filter.mpr ⟨mt1 _ (List.mem_of_getElem? (i := 157) rfl), rfl⟩
theorem mw1_158 : (Jvm.Cond.lays "java/lang/Throwable" "java/lang/Throwable" "detailMessage" "Ljava/lang/String;") ∈ gT := List.mem_filter.mpr ⟨mt1 _ (List.mem_of_getElem? (i := 158) rfl), rfl⟩
theorem mw1_159 : (Jvm.Cond.lays "java/lang/IllegalArgumentException" "java/lang/Throwable" "backtrace" "Ljava/lang/Object;") ∈ gT := List.mem_filter.mpr ⟨mt1 _ (List.mem_of_getElem? (i := 159) rfl), rfl⟩
theorem mw1_160 : (Jvm.Cond.lays "java/lang/Throwable" "java/lang/Throwable" "backtrace" "Ljava/lang/Object;") ∈ gT := List.mem_filter.mpr ⟨mt1 _ (List.mem_of_getElem? (i := 160) rfl), rfl⟩
theorem mw1_161 : (Jvm.Cond.fieldLink "java/lang/Throwable" (198 : Nat) "java/lang/Throwable" "backtrace" "Ljava/lang/Object;") ∈ gT := List.mem_filter.mpr ⟨mt1 _ (List.mem_of_getElem? (i := 161) rfl), rfl⟩
theorem mw1_163 : (Jvm.Cond.instanceMethod ({ cls := "java/lang/Throwable", name := "<init>", desc := "()V" } : Jvm.MethodName)) ∈ gT := List.mem_filter.mpr ⟨mt1 _ (List.mem_of_getElem? (i := 163) rfl), rfl⟩
theorem mw1_164 : (Jvm.Cond.code ({ cls := "java/lang/Throwable", name := "<init>", desc := "()V" } : Jvm.MethodName) prog_17_method_1_code (1 : Nat) (Option.none : Option Jvm.ClassFile.FieldType)) ∈ gT := List.mem_filter.mpr ⟨mt1 _ (List.mem_of_getElem? (i := 164) rfl), rfl⟩
theorem mw1_165 : (Jvm.Cond.methodLink "java/lang/Throwable" (1 : Nat) ({ cls := "java/lang/Object", name := "<init>", desc := "()V" } : Jvm.MethodName)) ∈ gT := List.mem_filter.mpr ⟨mt1 _ (List.mem_of_getElem? (i := 165) rfl), rfl⟩
theorem mw1_166 : (Jvm.Cond.fieldLink "java/lang/Throwable" (13 : Nat) "java/lang/Throwable" "UNASSIGNED_STACK" "[Ljava/lang/StackTraceElement;") ∈ gT := List.mem_filter.mpr ⟨mt1 _ (List.mem_of_getElem? (i := 166) rfl), rfl⟩
theorem mw1_168 : (Jvm.Cond.fieldLink "java/lang/Throwable" (20 : Nat) "java/lang/Throwable" "SUPPRESSED_SENTINEL" "Ljava/util/List;") ∈ gT := List.mem_filter.mpr ⟨mt1 _ (List.mem_of_getElem? (i := 168) rfl), rfl⟩
theorem mw1_170 : (Jvm.Cond.methodLink "java/lang/Throwable" (27 : Nat) ({ cls := "java/lang/Throwable", name := "fillInStackTrace", desc := "()Ljava/lang/Throwable;" } : Jvm.MethodName)) ∈ gT := List.mem_filter.mpr ⟨mt1 _ (List.mem_of_getElem? (i := 170) rfl), rfl⟩
theorem mw1_171 : (Jvm.Cond.instanceMethod ({ cls := "java/lang/Throwable", name := "fillInStackTrace", desc := "()Ljava/lang/Throwable;" } : Jvm.MethodName)) ∈ gT := List.mem_filter.mpr ⟨mt1 _ (List.mem_of_getElem? (i := 171) rfl), rfl⟩
theorem mw1_173 : (Jvm.Cond.selects "java/lang/IllegalStateException" ({ cls := "java/lang/Throwable", name := "fillInStackTrace", desc := "()Ljava/lang/Throwable;" } : Jvm.MethodName) ({ cls := "java/lang/Throwable", name := "fillInStackTrace", desc := "()Ljava/lang/Throwable;" } : Jvm.MethodName)) ∈ gT := List.mem_filter.mpr ⟨mt1 _ (List.mem_of_getElem? (i := 173) rfl), rfl⟩
theorem mw1_174 : (Jvm.Cond.selects "java/lang/IndexOutOfBoundsException" ({ cls := "java/lang/Throwable", name := "fillInStackTrace", desc := "()Ljava/lang/Throwable;" } : Jvm.MethodName) ({ cls := "java/lang/Throwable", name := "fillInStackTrace", desc := "()Ljava/lang/Throwable;" } : Jvm.MethodName)) ∈ gT := List.mem_filter.mpr ⟨mt1 _ (List.mem_of_getElem? (i := 174) rfl), rfl⟩
theorem mw1_176 : (Jvm.Cond.methodLink "java/lang/Throwable" (202 : Nat) ({ cls := "java/lang/Throwable", name := "fillInStackTrace", desc := "(I)Ljava/lang/Throwable;" } : Jvm.MethodName)) ∈ gT := List.mem_filter.mpr ⟨mt1 _ (List.mem_of_getElem? (i := 176) rfl), rfl⟩
theorem mw1_178 : (Jvm.Cond.instanceMethod ({ cls := "java/lang/Throwable", name := "fillInStackTrace", desc := "(I)Ljava/lang/Throwable;" } : Jvm.MethodName)) ∈ gT := List.mem_filter.mpr ⟨mt1 _ (List.mem_of_getElem? (i := 178) rfl), rfl⟩
theorem mw1_179 : (Jvm.Cond.instantiable "java/lang/Throwable" (6 : Nat)) ∈ gT := List.mem_filter.mpr ⟨mt1 _ (List.mem_of_getElem? (i := 179) rfl), rfl⟩
theorem mw1_182 : (Jvm.Cond.methodLink "GongCycles" (62 : Nat) ({ cls := "java/lang/IllegalArgumentException", name := "<init>", desc := "(Ljava/lang/String;)V" } : Jvm.MethodName)) ∈ gT := List.mem_filter.mpr ⟨mt1 _ (List.mem_of_getElem? (i := 182) rfl), rfl⟩
theorem mw1_183 : (Jvm.Cond.instanceMethod ({ cls := "java/lang/IllegalArgumentException", name := "<init>", desc := "(Ljava/lang/String;)V" } : Jvm.MethodName)) ∈ gT := List.mem_filter.mpr ⟨mt1 _ (List.mem_of_getElem? (i := 183) rfl), rfl⟩
theorem mw1_184 : (Jvm.Cond.code ({ cls := "java/lang/IllegalArgumentException", name := "<init>", desc := "(Ljava/lang/String;)V" } : Jvm.MethodName) prog_10_method_2_code (2 : Nat) (Option.none : Option Jvm.ClassFile.FieldType)) ∈ gT := List.mem_filter.mpr ⟨mt1 _ (List.mem_of_getElem? (i := 184) rfl), rfl⟩
theorem mw1_185 : (Jvm.Cond.methodLink "java/lang/IllegalArgumentException" (7 : Nat) ({ cls := "java/lang/RuntimeException", name := "<init>", desc := "(Ljava/lang/String;)V" } : Jvm.MethodName)) ∈ gT := List.mem_filter.mpr ⟨mt1 _ (List.mem_of_getElem? (i := 185) rfl), rfl⟩
theorem mw1_186 : (Jvm.Cond.instanceMethod ({ cls := "java/lang/RuntimeException", name := "<init>", desc := "(Ljava/lang/String;)V" } : Jvm.MethodName)) ∈ gT := List.mem_filter.mpr ⟨mt1 _ (List.mem_of_getElem? (i := 186) rfl), rfl⟩
theorem mw1_187 : (Jvm.Cond.code ({ cls := "java/lang/RuntimeException", name := "<init>", desc := "(Ljava/lang/String;)V" } : Jvm.MethodName) prog_15_method_2_code (2 : Nat) (Option.none : Option Jvm.ClassFile.FieldType)) ∈ gT := List.mem_filter.mpr ⟨mt1 _ (List.mem_of_getElem? (i := 187) rfl), rfl⟩
theorem mw1_188 : (Jvm.Cond.methodLink "java/lang/RuntimeException" (7 : Nat) ({ cls := "java/lang/Exception", name := "<init>", desc := "(Ljava/lang/String;)V" } : Jvm.MethodName)) ∈ gT := List.mem_filter.mpr ⟨mt1 _ (List.mem_of_getElem? (i := 188) rfl), rfl⟩
theorem mw1_189 : (Jvm.Cond.instanceMethod ({ cls := "java/lang/Exception", name := "<init>", desc := "(Ljava/lang/String;)V" } : Jvm.MethodName)) ∈ gT := List.mem_filter.mpr ⟨mt1 _ (List.mem_of_getElem? (i := 189) rfl), rfl⟩
theorem mw1_190 : (Jvm.Cond.code ({ cls := "java/lang/Exception", name := "<init>", desc := "(Ljava/lang/String;)V" } : Jvm.MethodName) prog_9_method_2_code (2 : Nat) (Option.none : Option Jvm.ClassFile.FieldType)) ∈ gT := List.mem_filter.mpr ⟨mt1 _ (List.mem_of_getElem? (i := 190) rfl), rfl⟩
theorem mw1_191 : (Jvm.Cond.methodLink "java/lang/Exception" (7 : Nat) ({ cls := "java/lang/Throwable", name := "<init>", desc := "(Ljava/lang/String;)V" } : Jvm.MethodName)) ∈ gT := List.mem_filter.mpr ⟨mt1 _ (List.mem_of_getElem? (i := 191) rfl), rfl⟩
theorem mw1_192 : (Jvm.Cond.instanceMethod ({ cls := "java/lang/Throwable", name := "<init>", desc := "(Ljava/lang/String;)V" } : Jvm.MethodName)) ∈ gT := List.mem_filter.mpr ⟨mt1 _ (List.mem_of_getElem? (i := 192) rfl), rfl⟩
theorem mw1_193 : (Jvm.Cond.code ({ cls := "java/lang/Throwable", name := "<init>", desc := "(Ljava/lang/String;)V" } : Jvm.MethodName) prog_17_method_2_code (2 : Nat) (Option.none : Option Jvm.ClassFile.FieldType)) ∈ gT := List.mem_filter.mpr ⟨mt1 _ (List.mem_of_getElem? (i := 193) rfl), rfl⟩
theorem mw1_195 : (Jvm.Cond.fieldLink "java/lang/Throwable" (31 : Nat) "java/lang/Throwable" "detailMessage" "Ljava/lang/String;") ∈ gT := List.mem_filter.mpr ⟨mt1 _ (List.mem_of_getElem? (i := 195) rfl), rfl⟩
theorem mw1_196 : (Jvm.Cond.fieldLink "java/lang/Throwable" (7 : Nat) "java/lang/Throwable" "cause" "Ljava/lang/Throwable;") ∈ gT := List.mem_filter.mpr ⟨mt1 _ (List.mem_of_getElem? (i := 196) rfl), rfl⟩
theorem mw1_197 : (Jvm.Cond.fieldLink "java/lang/Throwable" (17 : Nat) "java/lang/Throwable" "stackTrace" "[Ljava/lang/StackTraceElement;") ∈ gT := List.mem_filter.mpr ⟨mt1 _ (List.mem_of_getElem? (i := 197) rfl), rfl⟩
theorem mw1_198 : (Jvm.Cond.fieldLink "java/lang/Throwable" (24 : Nat) "java/lang/Throwable" "suppressedExceptions" "Ljava/util/List;") ∈ gT := List.mem_filter.mpr ⟨mt1 _ (List.mem_of_getElem? (i := 198) rfl), rfl⟩
theorem mw1_203 : (Jvm.Cond.lays "java/lang/IllegalArgumentException" "java/lang/Throwable" "depth" "I") ∈ gT := List.mem_filter.mpr ⟨mt1 _ (List.mem_of_getElem? (i := 203) rfl), rfl⟩
theorem mw1_207 : (Jvm.Cond.arrayClass Jvm.ClassFile.FieldType.byte) ∈ gT := List.mem_filter.mpr ⟨mt1 _ (List.mem_of_getElem? (i := 207) rfl), rfl⟩
theorem mw1_208 : (Jvm.Cond.classLink "GongCycles" (65 : Nat) "java/lang/IllegalStateException") ∈ gT := List.mem_filter.mpr ⟨mt1 _ (List.mem_of_getElem? (i := 208) rfl), rfl⟩
theorem mw1_209 : (Jvm.Cond.instantiable "java/lang/IllegalStateException" (6 : Nat)) ∈ gT := List.mem_filter.mpr ⟨mt1 _ (List.mem_of_getElem? (i := 209) rfl), rfl⟩
theorem mw1_211 : (Jvm.Cond.selects "java/lang/IllegalStateException" ({ cls := "java/lang/Throwable", name := "fillInStackTrace", desc := "(I)Ljava/lang/Throwable;" } : Jvm.MethodName) ({ cls := "java/lang/Throwable", name := "fillInStackTrace", desc := "(I)Ljava/lang/Throwable;" } : Jvm.MethodName)) ∈ gT := List.mem_filter.mpr ⟨mt1 _ (List.mem_of_getElem? (i := 211) rfl), rfl⟩
theorem mw1_212 : (Jvm.Cond.lays "java/lang/IllegalStateException" "java/lang/Throwable" "cause" "Ljava/lang/Throwable;") ∈ gT := List.mem_filter.mpr ⟨mt1 _ (List.mem_of_getElem? (i := 212) rfl), rfl⟩
theorem mw1_213 : (Jvm.Cond.lays "java/lang/IllegalStateException" "java/lang/Throwable" "stackTrace" "[Ljava/lang/StackTraceElement;") ∈ gT := List.mem_filter.mpr ⟨mt1 _ (List.mem_of_getElem? (i := 213) rfl), rfl⟩
theorem mw1_214 : (Jvm.Cond.lays "java/lang/IllegalStateException" "java/lang/Throwable" "suppressedExceptions" "Ljava/util/List;") ∈ gT := List.mem_filter.mpr ⟨mt1 _ (List.mem_of_getElem? (i := 214) rfl), rfl⟩
theorem mw1_215 : (Jvm.Cond.lays "java/lang/IllegalStateException" "java/lang/Throwable" "detailMessage" "Ljava/lang/String;") ∈ gT := List.mem_filter.mpr ⟨mt1 _ (List.mem_of_getElem? (i := 215) rfl), rfl⟩
theorem mw1_216 : (Jvm.Cond.lays "java/lang/IllegalStateException" "java/lang/Throwable" "backtrace" "Ljava/lang/Object;") ∈ gT := List.mem_filter.mpr ⟨mt1 _ (List.mem_of_getElem? (i := 216) rfl), rfl⟩
theorem mw1_218 : (Jvm.Cond.methodLink "GongCycles" (69 : Nat) ({ cls := "java/lang/IllegalStateException", name := "<init>", desc := "(Ljava/lang/String;)V" } : Jvm.MethodName)) ∈ gT := List.mem_filter.mpr ⟨mt1 _ (List.mem_of_getElem? (i := 218) rfl), rfl⟩
theorem mw1_219 : (Jvm.Cond.instanceMethod ({ cls := "java/lang/IllegalStateException", name := "<init>", desc := "(Ljava/lang/String;)V" } : Jvm.MethodName)) ∈ gT := List.mem_filter.mpr ⟨mt1 _ (List.mem_of_getElem? (i := 219) rfl), rfl⟩
theorem mw1_220 : (Jvm.Cond.code ({ cls := "java/lang/IllegalStateException", name := "<init>", desc := "(Ljava/lang/String;)V" } : Jvm.MethodName) prog_11_method_2_code (2 : Nat) (Option.none : Option Jvm.ClassFile.FieldType)) ∈ gT := List.mem_filter.mpr ⟨mt1 _ (List.mem_of_getElem? (i := 220) rfl), rfl⟩
theorem mw1_221 : (Jvm.Cond.methodLink "java/lang/IllegalStateException" (7 : Nat) ({ cls := "java/lang/RuntimeException", name := "<init>", desc := "(Ljava/lang/String;)V" } : Jvm.MethodName)) ∈ gT := List.mem_filter.mpr ⟨mt1 _ (List.mem_of_getElem? (i := 221) rfl), rfl⟩
theorem mw1_222 : (Jvm.Cond.lays "java/lang/IllegalStateException" "java/lang/Throwable" "depth" "I") ∈ gT := List.mem_filter.mpr ⟨mt1 _ (List.mem_of_getElem? (i := 222) rfl), rfl⟩
theorem mw1_224 : (Jvm.Cond.methodLink "GongCyclesLaw" (107 : Nat) ({ cls := "GongCyclesLaw", name := "depth", desc := "(LGongCycles;II[J)I" } : Jvm.MethodName)) ∈ gT := List.mem_filter.mpr ⟨mt1 _ (List.mem_of_getElem? (i := 224) rfl), rfl⟩
theorem mw1_225 : (Jvm.Cond.static ({ cls := "GongCyclesLaw", name := "depth", desc := "(LGongCycles;II[J)I" } : Jvm.MethodName)) ∈ gT := List.mem_filter.mpr ⟨mt1 _ (List.mem_of_getElem? (i := 225) rfl), rfl⟩
theorem mw1_226 : (Jvm.Cond.codeWith ({ cls := "GongCyclesLaw", name := "depth", desc := "(LGongCycles;II[J)I" } : Jvm.MethodName) method_4_code (5 : Nat) (Option.some Jvm.ClassFile.FieldType.int) [((0 : Nat), (10 : Nat), (13 : Nat), (21 : Nat))]) ∈ gT := List.mem_filter.mpr ⟨mt1 _ (List.mem_of_getElem? (i := 226) rfl), rfl⟩
theorem mw1_227 : (Jvm.Cond.classLink "GongCyclesLaw" (21 : Nat) "java/lang/IndexOutOfBoundsException") ∈ gT := List.mem_filter.mpr ⟨mt1 _ (List.mem_of_getElem? (i := 227) rfl), rfl⟩
theorem mw1_228 : (Jvm.Cond.methodLink "GongCyclesLaw" (17 : Nat) ({ cls := "GongCycles", name := "depth", desc := "(II)I" } : Jvm.MethodName)) ∈ gT := List.mem_filter.mpr ⟨mt1 _ (List.mem_of_getElem? (i := 228) rfl), rfl⟩
theorem mw1_229 : (Jvm.Cond.instanceMethod ({ cls := "GongCycles", name := "depth", desc := "(II)I" } : Jvm.MethodName)) ∈ gT := List.mem_filter.mpr ⟨mt1 _ (List.mem_of_getElem? (i := 229) rfl), rfl⟩
theorem mw1_230 : (Jvm.Cond.selects "GongCycles" ({ cls := "GongCycles", name := "depth", desc := "(II)I" } : Jvm.MethodName) ({ cls := "GongCycles", name := "depth", desc := "(II)I" } : Jvm.MethodName)) ∈ gT := List.mem_filter.mpr ⟨mt1 _ (List.mem_of_getElem? (i := 230) rfl), rfl⟩
theorem mw1_231 : (Jvm.Cond.code ({ cls := "GongCycles", name := "depth", desc := "(II)I" } : Jvm.MethodName) prog_1_method_3_code (6 : Nat) (Option.some Jvm.ClassFile.FieldType.int)) ∈ gT := List.mem_filter.mpr ⟨mt1 _ (List.mem_of_getElem? (i := 231) rfl), rfl⟩
theorem mw1_232 : (Jvm.Cond.methodLink "GongCycles" (70 : Nat) ({ cls := "GongCycles", name := "lengthOfForm", desc := "(I)I" } : Jvm.MethodName)) ∈ gT := List.mem_filter.mpr ⟨mt1 _ (List.mem_of_getElem? (i := 232) rfl), rfl⟩
theorem mw1_234 : (Jvm.Cond.instanceMethod ({ cls := "GongCycles", name := "lengthOfForm", desc := "(I)I" } : Jvm.MethodName)) ∈ gT := List.mem_filter.mpr ⟨mt1 _ (List.mem_of_getElem? (i := 234) rfl), rfl⟩
theorem mw1_235 : (Jvm.Cond.code ({ cls := "GongCycles", name := "lengthOfForm", desc := "(I)I" } : Jvm.MethodName) prog_1_method_27_code (2 : Nat) (Option.some Jvm.ClassFile.FieldType.int)) ∈ gT := List.mem_filter.mpr ⟨mt1 _ (List.mem_of_getElem? (i := 235) rfl), rfl⟩
theorem mw1_236 : (Jvm.Cond.classLink "GongCycles" (74 : Nat) "java/lang/IndexOutOfBoundsException") ∈ gT := List.mem_filter.mpr ⟨mt1 _ (List.mem_of_getElem? (i := 236) rfl), rfl⟩
theorem mw1_237 : (Jvm.Cond.instantiable "java/lang/IndexOutOfBoundsException" (6 : Nat)) ∈ gT := List.mem_filter.mpr ⟨mt1 _ (List.mem_of_getElem? (i := 237) rfl), rfl⟩
theorem mw1_239 : (Jvm.Cond.selects "java/lang/IndexOutOfBoundsException" ({ cls := "java/lang/Throwable", name := "fillInStackTrace", desc := "(I)Ljava/lang/Throwable;" } : Jvm.MethodName) ({ cls := "java/lang/Throwable", name := "fillInStackTrace", desc := "(I)Ljava/lang/Throwable;" } : Jvm.MethodName)) ∈ gT := List.mem_filter.mpr ⟨mt1 _ (List.mem_of_getElem? (i := 239) rfl), rfl⟩
theorem mw2_0 : (Jvm.Cond.lays "java/lang/IndexOutOfBoundsException" "java/lang/Throwable" "cause" "Ljava/lang/Throwable;") ∈ gT := List.mem_filter.mpr ⟨mt2 _ (List.mem_of_getElem? (i := 0) rfl), rfl⟩
theorem mw2_1 : (Jvm.Cond.lays "java/lang/IndexOutOfBoundsException" "java/lang/Throwable" "stackTrace" "[Ljava/lang/StackTraceElement;") ∈ gT := List.mem_filter.mpr ⟨mt2 _ (List.mem_of_getElem? (i := 1) rfl), rfl⟩
theorem mw2_2 : (Jvm.Cond.lays "java/lang/IndexOutOfBoundsException" "java/lang/Throwable" "suppressedExceptions" "Ljava/util/List;") ∈ gT := List.mem_filter.mpr ⟨mt2 _ (List.mem_of_getElem? (i := 2) rfl), rfl⟩
theorem mw2_3 : (Jvm.Cond.lays "java/lang/IndexOutOfBoundsException" "java/lang/Throwable" "detailMessage" "Ljava/lang/String;") ∈ gT := List.mem_filter.mpr ⟨mt2 _ (List.mem_of_getElem? (i := 3) rfl), rfl⟩
theorem mw2_4 : (Jvm.Cond.lays "java/lang/IndexOutOfBoundsException" "java/lang/Throwable" "backtrace" "Ljava/lang/Object;") ∈ gT := List.mem_filter.mpr ⟨mt2 _ (List.mem_of_getElem? (i := 4) rfl), rfl⟩
theorem mw2_6 : (Jvm.Cond.methodLink "GongCycles" (78 : Nat) ({ cls := "java/lang/IndexOutOfBoundsException", name := "<init>", desc := "(Ljava/lang/String;)V" } : Jvm.MethodName)) ∈ gT := List.mem_filter.mpr ⟨mt2 _ (List.mem_of_getElem? (i := 6) rfl), rfl⟩
theorem mw2_7 : (Jvm.Cond.instanceMethod ({ cls := "java/lang/IndexOutOfBoundsException", name := "<init>", desc := "(Ljava/lang/String;)V" } : Jvm.MethodName)) ∈ gT := List.mem_filter.mpr ⟨mt2 _ (List.mem_of_getElem? (i := 7) rfl), rfl⟩
theorem mw2_8 : (Jvm.Cond.code ({ cls := "java/lang/IndexOutOfBoundsException", name := "<init>", desc := "(Ljava/lang/String;)V" } : Jvm.MethodName) prog_12_method_2_code (2 : Nat) (Option.none : Option Jvm.ClassFile.FieldType)) ∈ gT := List.mem_filter.mpr ⟨mt2 _ (List.mem_of_getElem? (i := 8) rfl), rfl⟩
theorem mw2_9 : (Jvm.Cond.methodLink "java/lang/IndexOutOfBoundsException" (7 : Nat) ({ cls := "java/lang/RuntimeException", name := "<init>", desc := "(Ljava/lang/String;)V" } : Jvm.MethodName)) ∈ gT := List.mem_filter.mpr ⟨mt2 _ (List.mem_of_getElem? (i := 9) rfl), rfl⟩
theorem mw2_10 : (Jvm.Cond.lays "java/lang/IndexOutOfBoundsException" "java/lang/Throwable" "depth" "I") ∈ gT := List.mem_filter.mpr ⟨mt2 _ (List.mem_of_getElem? (i := 10) rfl), rfl⟩
theorem mw2_13 : (Jvm.Cond.methodLink "GongCyclesLaw" (111 : Nat) ({ cls := "GongCyclesLaw", name := "piece", desc := "(LGongCycles;I[J)I" } : Jvm.MethodName)) ∈ gT := List.mem_filter.mpr ⟨mt2 _ (List.mem_of_getElem? (i := 13) rfl), rfl⟩
theorem mw2_14 : (Jvm.Cond.static ({ cls := "GongCyclesLaw", name := "piece", desc := "(LGongCycles;I[J)I" } : Jvm.MethodName)) ∈ gT := List.mem_filter.mpr ⟨mt2 _ (List.mem_of_getElem? (i := 14) rfl), rfl⟩
theorem mw2_15 : (Jvm.Cond.codeWith ({ cls := "GongCyclesLaw", name := "piece", desc := "(LGongCycles;I[J)I" } : Jvm.MethodName) method_5_code (4 : Nat) (Option.some Jvm.ClassFile.FieldType.int) [((0 : Nat), (9 : Nat), (12 : Nat), (21 : Nat)), ((0 : Nat), (9 : Nat), (15 : Nat), (15 : Nat))]) ∈ gT := List.mem_filter.mpr ⟨mt2 _ (List.mem_of_getElem? (i := 15) rfl), rfl⟩
theorem mw2_16 : (Jvm.Cond.methodLink "GongCyclesLaw" (23 : Nat) ({ cls := "GongCycles", name := "piece", desc := "(I)I" } : Jvm.MethodName)) ∈ gT := List.mem_filter.mpr ⟨mt2 _ (List.mem_of_getElem? (i := 16) rfl), rfl⟩
theorem mw2_17 : (Jvm.Cond.instanceMethod ({ cls := "GongCycles", name := "piece", desc := "(I)I" } : Jvm.MethodName)) ∈ gT := List.mem_filter.mpr ⟨mt2 _ (List.mem_of_getElem? (i := 17) rfl), rfl⟩
theorem mw2_18 : (Jvm.Cond.selects "GongCycles" ({ cls := "GongCycles", name := "piece", desc := "(I)I" } : Jvm.MethodName) ({ cls := "GongCycles", name := "piece", desc := "(I)I" } : Jvm.MethodName)) ∈ gT := List.mem_filter.mpr ⟨mt2 _ (List.mem_of_getElem? (i := 18) rfl), rfl⟩
theorem mw2_19 : (Jvm.Cond.code ({ cls := "GongCycles", name := "piece", desc := "(I)I" } : Jvm.MethodName) prog_1_method_4_code (3 : Nat) (Option.some Jvm.ClassFile.FieldType.int)) ∈ gT := List.mem_filter.mpr ⟨mt2 _ (List.mem_of_getElem? (i := 19) rfl), rfl⟩
theorem mw2_21 : (Jvm.Cond.instantiable "GongCycles$Piece" (2 : Nat)) ∈ gT := List.mem_filter.mpr ⟨mt2 _ (List.mem_of_getElem? (i := 21) rfl), rfl⟩
theorem mw2_22 : (Jvm.Cond.methodLink "GongCycles" (81 : Nat) ({ cls := "GongCycles$Piece", name := "<init>", desc := "(I)V" } : Jvm.MethodName)) ∈ gT := List.mem_filter.mpr ⟨mt2 _ (List.mem_of_getElem? (i := 22) rfl), rfl⟩
theorem mw2_23 : (Jvm.Cond.instanceMethod ({ cls := "GongCycles$Piece", name := "<init>", desc := "(I)V" } : Jvm.MethodName)) ∈ gT := List.mem_filter.mpr ⟨mt2 _ (List.mem_of_getElem? (i := 23) rfl), rfl⟩
theorem mw2_24 : (Jvm.Cond.code ({ cls := "GongCycles$Piece", name := "<init>", desc := "(I)V" } : Jvm.MethodName) prog_4_method_1_code (2 : Nat) (Option.none : Option Jvm.ClassFile.FieldType)) ∈ gT := List.mem_filter.mpr ⟨mt2 _ (List.mem_of_getElem? (i := 24) rfl), rfl⟩
theorem mw2_25 : (Jvm.Cond.methodLink "GongCycles$Piece" (1 : Nat) ({ cls := "java/lang/Object", name := "<init>", desc := "()V" } : Jvm.MethodName)) ∈ gT := List.mem_filter.mpr ⟨mt2 _ (List.mem_of_getElem? (i := 25) rfl), rfl⟩
theorem mw2_26 : (Jvm.Cond.classLink "GongCycles$Piece" (13 : Nat) "GongCycles$Melody") ∈ gT := List.mem_filter.mpr ⟨mt2 _ (List.mem_of_getElem? (i := 26) rfl), rfl⟩
theorem mw2_27 : (Jvm.Cond.instantiable "GongCycles$Melody" (1 : Nat)) ∈ gT := List.mem_filter.mpr ⟨mt2 _ (List.mem_of_getElem? (i := 27) rfl), rfl⟩
theorem mw2_28 : (Jvm.Cond.methodLink "GongCycles$Piece" (15 : Nat) ({ cls := "GongCycles$Melody", name := "<init>", desc := "(I)V" } : Jvm.MethodName)) ∈ gT := List.mem_filter.mpr ⟨mt2 _ (List.mem_of_getElem? (i := 28) rfl), rfl⟩
theorem mw2_29 : (Jvm.Cond.instanceMethod ({ cls := "GongCycles$Melody", name := "<init>", desc := "(I)V" } : Jvm.MethodName)) ∈ gT := List.mem_filter.mpr ⟨mt2 _ (List.mem_of_getElem? (i := 29) rfl), rfl⟩
theorem mw2_30 : (Jvm.Cond.code ({ cls := "GongCycles$Melody", name := "<init>", desc := "(I)V" } : Jvm.MethodName) prog_3_method_1_code (2 : Nat) (Option.none : Option Jvm.ClassFile.FieldType)) ∈ gT := List.mem_filter.mpr ⟨mt2 _ (List.mem_of_getElem? (i := 30) rfl), rfl⟩
theorem mw2_31 : (Jvm.Cond.methodLink "GongCycles$Melody" (1 : Nat) ({ cls := "java/lang/Object", name := "<init>", desc := "()V" } : Jvm.MethodName)) ∈ gT := List.mem_filter.mpr ⟨mt2 _ (List.mem_of_getElem? (i := 31) rfl), rfl⟩
theorem mw2_32 : (Jvm.Cond.methodLink "GongCycles$Melody" (7 : Nat) ({ cls := "java/lang/Math", name := "max", desc := "(II)I" } : Jvm.MethodName)) ∈ gT := List.mem_filter.mpr ⟨mt2 _ (List.mem_of_getElem? (i := 32) rfl), rfl⟩
theorem mw2_33 : (Jvm.Cond.static ({ cls := "java/lang/Math", name := "max", desc := "(II)I" } : Jvm.MethodName)) ∈ gT := List.mem_filter.mpr ⟨mt2 _ (List.mem_of_getElem? (i := 33) rfl), rfl⟩
theorem mw2_34 : (Jvm.Cond.code ({ cls := "java/lang/Math", name := "max", desc := "(II)I" } : Jvm.MethodName) prog_14_method_65_code (2 : Nat) (Option.some Jvm.ClassFile.FieldType.int)) ∈ gT := List.mem_filter.mpr ⟨mt2 _ (List.mem_of_getElem? (i := 34) rfl), rfl⟩
theorem mw2_35 : (Jvm.Cond.fieldLink "GongCycles$Melody" (13 : Nat) "GongCycles$Melody" "tones" "[I") ∈ gT := List.mem_filter.mpr ⟨mt2 _ (List.mem_of_getElem? (i := 35) rfl), rfl⟩
theorem mw2_36 : (Jvm.Cond.laysFinal "GongCycles$Melody" "GongCycles$Melody" "tones" "[I") ∈ gT := List.mem_filter.mpr ⟨mt2 _ (List.mem_of_getElem? (i := 36) rfl), rfl⟩
theorem mw2_39 : (Jvm.Cond.fieldLink "GongCycles$Piece" (18 : Nat) "GongCycles$Piece" "melody" "LGongCycles$Melody;") ∈ gT := List.mem_filter.mpr ⟨mt2 _ (List.mem_of_getElem? (i := 39) rfl), rfl⟩
theorem mw2_41 : (Jvm.Cond.fieldLink "GongCycles$Piece" (7 : Nat) "GongCycles$Piece" "forbiddenDays" "I") ∈ gT := List.mem_filter.mpr ⟨mt2 _ (List.mem_of_getElem? (i := 41) rfl), rfl⟩
theorem mw2_43 : (Jvm.Cond.laysFinal "GongCycles$Piece" "GongCycles$Piece" "melody" "LGongCycles$Melody;") ∈ gT := List.mem_filter.mpr ⟨mt2 _ (List.mem_of_getElem? (i := 43) rfl), rfl⟩
theorem mw2_45 : (Jvm.Cond.lays "GongCycles$Piece" "GongCycles$Piece" "forbiddenDays" "I") ∈ gT := List.mem_filter.mpr ⟨mt2 _ (List.mem_of_getElem? (i := 45) rfl), rfl⟩
theorem mw2_48 : (Jvm.Cond.methodLink "GongCyclesLaw" (114 : Nat) ({ cls := "GongCyclesLaw", name := "tone", desc := "(LGongCycles;III[J)I" } : Jvm.MethodName)) ∈ gT := List.mem_filter.mpr ⟨mt2 _ (List.mem_of_getElem? (i := 48) rfl), rfl⟩
theorem mw2_49 : (Jvm.Cond.static ({ cls := "GongCyclesLaw", name := "tone", desc := "(LGongCycles;III[J)I" } : Jvm.MethodName)) ∈ gT := List.mem_filter.mpr ⟨mt2 _ (List.mem_of_getElem? (i := 49) rfl), rfl⟩
theorem mw2_50 : (Jvm.Cond.codeWith ({ cls := "GongCyclesLaw", name := "tone", desc := "(LGongCycles;III[J)I" } : Jvm.MethodName) method_6_code (6 : Nat) (Option.some Jvm.ClassFile.FieldType.int) [((0 : Nat), (12 : Nat), (15 : Nat), (21 : Nat)), ((0 : Nat), (12 : Nat), (19 : Nat), (13 : Nat))]) ∈ gT := List.mem_filter.mpr ⟨mt2 _ (List.mem_of_getElem? (i := 50) rfl), rfl⟩
theorem mw2_51 : (Jvm.Cond.methodLink "GongCyclesLaw" (26 : Nat) ({ cls := "GongCycles", name := "tone", desc := "(III)I" } : Jvm.MethodName)) ∈ gT := List.mem_filter.mpr ⟨mt2 _ (List.mem_of_getElem? (i := 51) rfl), rfl⟩
theorem mw2_52 : (Jvm.Cond.instanceMethod ({ cls := "GongCycles", name := "tone", desc := "(III)I" } : Jvm.MethodName)) ∈ gT := List.mem_filter.mpr ⟨mt2 _ (List.mem_of_getElem? (i := 52) rfl), rfl⟩
theorem mw2_53 : (Jvm.Cond.selects "GongCycles" ({ cls := "GongCycles", name := "tone", desc := "(III)I" } : Jvm.MethodName) ({ cls := "GongCycles", name := "tone", desc := "(III)I" } : Jvm.MethodName)) ∈ gT := List.mem_filter.mpr ⟨mt2 _ (List.mem_of_getElem? (i := 53) rfl), rfl⟩
theorem mw2_54 : (Jvm.Cond.code ({ cls := "GongCycles", name := "tone", desc := "(III)I" } : Jvm.MethodName) prog_1_method_5_code (5 : Nat) (Option.some Jvm.ClassFile.FieldType.int)) ∈ gT := List.mem_filter.mpr ⟨mt2 _ (List.mem_of_getElem? (i := 54) rfl), rfl⟩
theorem mw2_55 : (Jvm.Cond.methodLink "GongCycles" (84 : Nat) ({ cls := "GongCycles", name := "pieceAt", desc := "(I)LGongCycles$Piece;" } : Jvm.MethodName)) ∈ gT := List.mem_filter.mpr ⟨mt2 _ (List.mem_of_getElem? (i := 55) rfl), rfl⟩
theorem mw2_57 : (Jvm.Cond.instanceMethod ({ cls := "GongCycles", name := "pieceAt", desc := "(I)LGongCycles$Piece;" } : Jvm.MethodName)) ∈ gT := List.mem_filter.mpr ⟨mt2 _ (List.mem_of_getElem? (i := 57) rfl), rfl⟩
theorem mw2_58 : (Jvm.Cond.code ({ cls := "GongCycles", name := "pieceAt", desc := "(I)LGongCycles$Piece;" } : Jvm.MethodName) prog_1_method_28_code (3 : Nat) (Option.some (Jvm.ClassFile.FieldType.object "GongCycles$Piece"))) ∈ gT := List.mem_filter.mpr ⟨mt2 _ (List.mem_of_getElem? (i := 58) rfl), rfl⟩
theorem mw2_60 : (Jvm.Cond.methodLink "GongCycles" (92 : Nat) ({ cls := "GongCycles", name := "refuseNoPlace", desc := "(LGongCycles$Melody;I)V" } : Jvm.MethodName)) ∈ gT := List.mem_filter.mpr ⟨mt2 _ (List.mem_of_getElem? (i := 60) rfl), rfl⟩
theorem mw2_61 : (Jvm.Cond.static ({ cls := "GongCycles", name := "refuseNoPlace", desc := "(LGongCycles$Melody;I)V" } : Jvm.MethodName)) ∈ gT := List.mem_filter.mpr ⟨mt2 _ (List.mem_of_getElem? (i := 61) rfl), rfl⟩
theorem mw2_62 : (Jvm.Cond.code ({ cls := "GongCycles", name := "refuseNoPlace", desc := "(LGongCycles$Melody;I)V" } : Jvm.MethodName) prog_1_method_33_code (2 : Nat) (Option.none : Option Jvm.ClassFile.FieldType)) ∈ gT := List.mem_filter.mpr ⟨mt2 _ (List.mem_of_getElem? (i := 62) rfl), rfl⟩
theorem mw2_63 : (Jvm.Cond.methodLink "GongCycles" (265 : Nat) ({ cls := "GongCycles$Melody", name := "hasPlace", desc := "(I)Z" } : Jvm.MethodName)) ∈ gT := List.mem_filter.mpr ⟨mt2 _ (List.mem_of_getElem? (i := 63) rfl), rfl⟩
theorem mw2_64 : (Jvm.Cond.instanceMethod ({ cls := "GongCycles$Melody", name := "hasPlace", desc := "(I)Z" } : Jvm.MethodName)) ∈ gT := List.mem_filter.mpr ⟨mt2 _ (List.mem_of_getElem? (i := 64) rfl), rfl⟩
theorem mw2_65 : (Jvm.Cond.selects "GongCycles$Melody" ({ cls := "GongCycles$Melody", name := "hasPlace", desc := "(I)Z" } : Jvm.MethodName) ({ cls := "GongCycles$Melody", name := "hasPlace", desc := "(I)Z" } : Jvm.MethodName)) ∈ gT := List.mem_filter.mpr ⟨mt2 _ (List.mem_of_getElem? (i := 65) rfl), rfl⟩
theorem mw2_66 : (Jvm.Cond.code ({ cls := "GongCycles$Melody", name := "hasPlace", desc := "(I)Z" } : Jvm.MethodName) prog_3_method_3_code (2 : Nat) (Option.some Jvm.ClassFile.FieldType.boolean)) ∈ gT := List.mem_filter.mpr ⟨mt2 _ (List.mem_of_getElem? (i := 66) rfl), rfl⟩
theorem mw2_67 : (Jvm.Cond.methodLink "GongCycles" (96 : Nat) ({ cls := "GongCycles", name := "refuseNoToneOrRest", desc := "(I)V" } : Jvm.MethodName)) ∈ gT := List.mem_filter.mpr ⟨mt2 _ (List.mem_of_getElem? (i := 67) rfl), rfl⟩
theorem mw2_68 : (Jvm.Cond.static ({ cls := "GongCycles", name := "refuseNoToneOrRest", desc := "(I)V" } : Jvm.MethodName)) ∈ gT := List.mem_filter.mpr ⟨mt2 _ (List.mem_of_getElem? (i := 68) rfl), rfl⟩
theorem mw2_69 : (Jvm.Cond.code ({ cls := "GongCycles", name := "refuseNoToneOrRest", desc := "(I)V" } : Jvm.MethodName) prog_1_method_36_code (1 : Nat) (Option.none : Option Jvm.ClassFile.FieldType)) ∈ gT := List.mem_filter.mpr ⟨mt2 _ (List.mem_of_getElem? (i := 69) rfl), rfl⟩
theorem mw2_71 : (Jvm.Cond.methodLink "GongCycles" (99 : Nat) ({ cls := "GongCycles$Melody", name := "put", desc := "(II)I" } : Jvm.MethodName)) ∈ gT := List.mem_filter.mpr ⟨mt2 _ (List.mem_of_getElem? (i := 71) rfl), rfl⟩
theorem mw2_72 : (Jvm.Cond.instanceMethod ({ cls := "GongCycles$Melody", name := "put", desc := "(II)I" } : Jvm.MethodName)) ∈ gT := List.mem_filter.mpr ⟨mt2 _ (List.mem_of_getElem? (i := 72) rfl), rfl⟩
theorem mw2_73 : (Jvm.Cond.selects "GongCycles$Melody" ({ cls := "GongCycles$Melody", name := "put", desc := "(II)I" } : Jvm.MethodName) ({ cls := "GongCycles$Melody", name := "put", desc := "(II)I" } : Jvm.MethodName)) ∈ gT := List.mem_filter.mpr ⟨mt2 _ (List.mem_of_getElem? (i := 73) rfl), rfl⟩
theorem mw2_74 : (Jvm.Cond.code ({ cls := "GongCycles$Melody", name := "put", desc := "(II)I" } : Jvm.MethodName) prog_3_method_5_code (4 : Nat) (Option.some Jvm.ClassFile.FieldType.int)) ∈ gT := List.mem_filter.mpr ⟨mt2 _ (List.mem_of_getElem? (i := 74) rfl), rfl⟩
theorem mw2_75 : (Jvm.Cond.methodLink "GongCycles$Melody" (23 : Nat) ({ cls := "GongCycles$Melody", name := "at", desc := "(I)I" } : Jvm.MethodName)) ∈ gT := List.mem_filter.mpr ⟨mt2 _ (List.mem_of_getElem? (i := 75) rfl), rfl⟩
theorem mw2_76 : (Jvm.Cond.instanceMethod ({ cls := "GongCycles$Melody", name := "at", desc := "(I)I" } : Jvm.MethodName)) ∈ gT := List.mem_filter.mpr ⟨mt2 _ (List.mem_of_getElem? (i := 76) rfl), rfl⟩
theorem mw2_77 : (Jvm.Cond.selects "GongCycles$Melody" ({ cls := "GongCycles$Melody", name := "at", desc := "(I)I" } : Jvm.MethodName) ({ cls := "GongCycles$Melody", name := "at", desc := "(I)I" } : Jvm.MethodName)) ∈ gT := List.mem_filter.mpr ⟨mt2 _ (List.mem_of_getElem? (i := 77) rfl), rfl⟩
theorem mw2_78 : (Jvm.Cond.code ({ cls := "GongCycles$Melody", name := "at", desc := "(I)I" } : Jvm.MethodName) prog_3_method_4_code (2 : Nat) (Option.some Jvm.ClassFile.FieldType.int)) ∈ gT := List.mem_filter.mpr ⟨mt2 _ (List.mem_of_getElem? (i := 78) rfl), rfl⟩
theorem mw2_79 : (Jvm.Cond.methodLink "GongCycles$Melody" (19 : Nat) ({ cls := "GongCycles$Melody", name := "hasPlace", desc := "(I)Z" } : Jvm.MethodName)) ∈ gT := List.mem_filter.mpr ⟨mt2 _ (List.mem_of_getElem? (i := 79) rfl), rfl⟩
theorem mw2_80 : (Jvm.Cond.methodLink "GongCyclesLaw" (118 : Nat) ({ cls := "GongCyclesLaw", name := "forbid", desc := "(LGongCycles;II[J)I" } : Jvm.MethodName)) ∈ gT := List.mem_filter.mpr ⟨mt2 _ (List.mem_of_getElem? (i := 80) rfl), rfl⟩
theorem mw2_81 : (Jvm.Cond.static ({ cls := "GongCyclesLaw", name := "forbid", desc := "(LGongCycles;II[J)I" } : Jvm.MethodName)) ∈ gT := List.mem_filter.mpr ⟨mt2 _ (List.mem_of_getElem? (i := 81) rfl), rfl⟩
theorem mw2_82 : (Jvm.Cond.codeWith ({ cls := "GongCyclesLaw", name := "forbid", desc := "(LGongCycles;II[J)I" } : Jvm.MethodName) method_7_code (5 : Nat) (Option.some Jvm.ClassFile.FieldType.int) [((0 : Nat), (10 : Nat), (13 : Nat), (21 : Nat)), ((0 : Nat), (10 : Nat), (17 : Nat), (13 : Nat))]) ∈ gT := List.mem_filter.mpr ⟨mt2 _ (List.mem_of_getElem? (i := 82) rfl), rfl⟩
theorem mw2_83 : (Jvm.Cond.methodLink "GongCyclesLaw" (30 : Nat) ({ cls := "GongCycles", name := "forbid", desc := "(II)I" } : Jvm.MethodName)) ∈ gT := List.mem_filter.mpr ⟨mt2 _ (List.mem_of_getElem? (i := 83) rfl), rfl⟩
theorem mw2_84 : (Jvm.Cond.instanceMethod ({ cls := "GongCycles", name := "forbid", desc := "(II)I" } : Jvm.MethodName)) ∈ gT := List.mem_filter.mpr ⟨mt2 _ (List.mem_of_getElem? (i := 84) rfl), rfl⟩
theorem mw2_85 : (Jvm.Cond.selects "GongCycles" ({ cls := "GongCycles", name := "forbid", desc := "(II)I" } : Jvm.MethodName) ({ cls := "GongCycles", name := "forbid", desc := "(II)I" } : Jvm.MethodName)) ∈ gT := List.mem_filter.mpr ⟨mt2 _ (List.mem_of_getElem? (i := 85) rfl), rfl⟩
theorem mw2_86 : (Jvm.Cond.code ({ cls := "GongCycles", name := "forbid", desc := "(II)I" } : Jvm.MethodName) prog_1_method_6_code (5 : Nat) (Option.some Jvm.ClassFile.FieldType.int)) ∈ gT := List.mem_filter.mpr ⟨mt2 _ (List.mem_of_getElem? (i := 86) rfl), rfl⟩
theorem mw2_88 : (Jvm.Cond.methodLink "GongCyclesLaw" (121 : Nat) ({ cls := "GongCyclesLaw", name := "sounds", desc := "(LGongCycles;II[J)I" } : Jvm.MethodName)) ∈ gT := List.mem_filter.mpr ⟨mt2 _ (List.mem_of_getElem? (i := 88) rfl), rfl⟩
theorem mw2_89 : (Jvm.Cond.static ({ cls := "GongCyclesLaw", name := "sounds", desc := "(LGongCycles;II[J)I" } : Jvm.MethodName)) ∈ gT := List.mem_filter.mpr ⟨mt2 _ (List.mem_of_getElem? (i := 89) rfl), rfl⟩
theorem mw2_90 : (Jvm.Cond.codeWith ({ cls := "GongCyclesLaw", name := "sounds", desc := "(LGongCycles;II[J)I" } : Jvm.MethodName) method_8_code (5 : Nat) (Option.some Jvm.ClassFile.FieldType.int) [((0 : Nat), (10 : Nat), (13 : Nat), (21 : Nat))]) ∈ gT := List.mem_filter.mpr ⟨mt2 _ (List.mem_of_getElem? (i := 90) rfl), rfl⟩
theorem mw2_91 : (Jvm.Cond.methodLink "GongCyclesLaw" (33 : Nat) ({ cls := "GongCycles", name := "sounds", desc := "(II)I" } : Jvm.MethodName)) ∈ gT := List.mem_filter.mpr ⟨mt2 _ (List.mem_of_getElem? (i := 91) rfl), rfl⟩
theorem mw2_92 : (Jvm.Cond.instanceMethod ({ cls := "GongCycles", name := "sounds", desc := "(II)I" } : Jvm.MethodName)) ∈ gT := List.mem_filter.mpr ⟨mt2 _ (List.mem_of_getElem? (i := 92) rfl), rfl⟩
theorem mw2_93 : (Jvm.Cond.selects "GongCycles" ({ cls := "GongCycles", name := "sounds", desc := "(II)I" } : Jvm.MethodName) ({ cls := "GongCycles", name := "sounds", desc := "(II)I" } : Jvm.MethodName)) ∈ gT := List.mem_filter.mpr ⟨mt2 _ (List.mem_of_getElem? (i := 93) rfl), rfl⟩
theorem mw2_94 : (Jvm.Cond.code ({ cls := "GongCycles", name := "sounds", desc := "(II)I" } : Jvm.MethodName) prog_1_method_7_code (4 : Nat) (Option.some Jvm.ClassFile.FieldType.int)) ∈ gT := List.mem_filter.mpr ⟨mt2 _ (List.mem_of_getElem? (i := 94) rfl), rfl⟩
theorem mw2_95 : (Jvm.Cond.methodLink "GongCycles" (110 : Nat) ({ cls := "GongCycles$Melody", name := "soundAt", desc := "(I)I" } : Jvm.MethodName)) ∈ gT := List.mem_filter.mpr ⟨mt2 _ (List.mem_of_getElem? (i := 95) rfl), rfl⟩
theorem mw2_96 : (Jvm.Cond.instanceMethod ({ cls := "GongCycles$Melody", name := "soundAt", desc := "(I)I" } : Jvm.MethodName)) ∈ gT := List.mem_filter.mpr ⟨mt2 _ (List.mem_of_getElem? (i := 96) rfl), rfl⟩
theorem mw2_97 : (Jvm.Cond.selects "GongCycles$Melody" ({ cls := "GongCycles$Melody", name := "soundAt", desc := "(I)I" } : Jvm.MethodName) ({ cls := "GongCycles$Melody", name := "soundAt", desc := "(I)I" } : Jvm.MethodName)) ∈ gT := List.mem_filter.mpr ⟨mt2 _ (List.mem_of_getElem? (i := 97) rfl), rfl⟩
theorem mw2_98 : (Jvm.Cond.code ({ cls := "GongCycles$Melody", name := "soundAt", desc := "(I)I" } : Jvm.MethodName) prog_3_method_6_code (4 : Nat) (Option.some Jvm.ClassFile.FieldType.int)) ∈ gT := List.mem_filter.mpr ⟨mt2 _ (List.mem_of_getElem? (i := 98) rfl), rfl⟩
theorem mw2_99 : (Jvm.Cond.methodLink "GongCyclesLaw" (124 : Nat) ({ cls := "GongCyclesLaw", name := "stroke", desc := "(LGongCycles;IIIII[J)I" } : Jvm.MethodName)) ∈ gT := List.mem_filter.mpr ⟨mt2 _ (List.mem_of_getElem? (i := 99) rfl), rfl⟩
theorem mw2_100 : (Jvm.Cond.static ({ cls := "GongCyclesLaw", name := "stroke", desc := "(LGongCycles;IIIII[J)I" } : Jvm.MethodName)) ∈ gT := List.mem_filter.mpr ⟨mt2 _ (List.mem_of_getElem? (i := 100) rfl), rfl⟩
theorem mw2_101 : (Jvm.Cond.codeWith ({ cls := "GongCyclesLaw", name := "stroke", desc := "(LGongCycles;IIIII[J)I" } : Jvm.MethodName) method_9_code (8 : Nat) (Option.some Jvm.ClassFile.FieldType.int) [((0 : Nat), (16 : Nat), (19 : Nat), (21 : Nat)), ((0 : Nat), (16 : Nat), (23 : Nat), (13 : Nat))]) ∈ gT := List.mem_filter.mpr ⟨mt2 _ (List.mem_of_getElem? (i := 101) rfl), rfl⟩
theorem mw2_102 : (Jvm.Cond.methodLink "GongCyclesLaw" (36 : Nat) ({ cls := "GongCycles", name := "stroke", desc := "(IIIII)I" } : Jvm.MethodName)) ∈ gT := List.mem_filter.mpr ⟨mt2 _ (List.mem_of_getElem? (i := 102) rfl), rfl⟩
theorem mw2_103 : (Jvm.Cond.instanceMethod ({ cls := "GongCycles", name := "stroke", desc := "(IIIII)I" } : Jvm.MethodName)) ∈ gT := List.mem_filter.mpr ⟨mt2 _ (List.mem_of_getElem? (i := 103) rfl), rfl⟩
theorem mw2_104 : (Jvm.Cond.selects "GongCycles" ({ cls := "GongCycles", name := "stroke", desc := "(IIIII)I" } : Jvm.MethodName) ({ cls := "GongCycles", name := "stroke", desc := "(IIIII)I" } : Jvm.MethodName)) ∈ gT := List.mem_filter.mpr ⟨mt2 _ (List.mem_of_getElem? (i := 104) rfl), rfl⟩
theorem mw2_105 : (Jvm.Cond.code ({ cls := "GongCycles", name := "stroke", desc := "(IIIII)I" } : Jvm.MethodName) prog_1_method_8_code (6 : Nat) (Option.some Jvm.ClassFile.FieldType.int)) ∈ gT := List.mem_filter.mpr ⟨mt2 _ (List.mem_of_getElem? (i := 105) rfl), rfl⟩
theorem mw2_106 : (Jvm.Cond.methodLink "GongCycles" (113 : Nat) ({ cls := "GongCycles", name := "toneOfStroke", desc := "(IIIIIZ)I" } : Jvm.MethodName)) ∈ gT := List.mem_filter.mpr ⟨mt2 _ (List.mem_of_getElem? (i := 106) rfl), rfl⟩
theorem mw2_108 : (Jvm.Cond.instanceMethod ({ cls := "GongCycles", name := "toneOfStroke", desc := "(IIIIIZ)I" } : Jvm.MethodName)) ∈ gT := List.mem_filter.mpr ⟨mt2 _ (List.mem_of_getElem? (i := 108) rfl), rfl⟩
theorem mw2_109 : (Jvm.Cond.code ({ cls := "GongCycles", name := "toneOfStroke", desc := "(IIIIIZ)I" } : Jvm.MethodName) prog_1_method_39_code (13 : Nat) (Option.some Jvm.ClassFile.FieldType.int)) ∈ gT := List.mem_filter.mpr ⟨mt2 _ (List.mem_of_getElem? (i := 109) rfl), rfl⟩
theorem mw2_110 : (Jvm.Cond.methodLink "GongCycles" (284 : Nat) ({ cls := "GongCycles", name := "refuseNoStroke", desc := "(LGongCycles$Melody;IIII)V" } : Jvm.MethodName)) ∈ gT := List.mem_filter.mpr ⟨mt2 _ (List.mem_of_getElem? (i := 110) rfl), rfl⟩
theorem mw2_111 : (Jvm.Cond.static ({ cls := "GongCycles", name := "refuseNoStroke", desc := "(LGongCycles$Melody;IIII)V" } : Jvm.MethodName)) ∈ gT := List.mem_filter.mpr ⟨mt2 _ (List.mem_of_getElem? (i := 111) rfl), rfl⟩
theorem mw2_112 : (Jvm.Cond.code ({ cls := "GongCycles", name := "refuseNoStroke", desc := "(LGongCycles$Melody;IIII)V" } : Jvm.MethodName) prog_1_method_37_code (5 : Nat) (Option.none : Option Jvm.ClassFile.FieldType)) ∈ gT := List.mem_filter.mpr ⟨mt2 _ (List.mem_of_getElem? (i := 112) rfl), rfl⟩
theorem mw2_113 : (Jvm.Cond.methodLink "GongCycles" (167 : Nat) ({ cls := "GongCycles", name := "refuseNoPart", desc := "(I)V" } : Jvm.MethodName)) ∈ gT := List.mem_filter.mpr ⟨mt2 _ (List.mem_of_getElem? (i := 113) rfl), rfl⟩
theorem mw2_114 : (Jvm.Cond.static ({ cls := "GongCycles", name := "refuseNoPart", desc := "(I)V" } : Jvm.MethodName)) ∈ gT := List.mem_filter.mpr ⟨mt2 _ (List.mem_of_getElem? (i := 114) rfl), rfl⟩
theorem mw2_115 : (Jvm.Cond.code ({ cls := "GongCycles", name := "refuseNoPart", desc := "(I)V" } : Jvm.MethodName) prog_1_method_34_code (1 : Nat) (Option.none : Option Jvm.ClassFile.FieldType)) ∈ gT := List.mem_filter.mpr ⟨mt2 _ (List.mem_of_getElem? (i := 115) rfl), rfl⟩
theorem mw2_118 : (Jvm.Cond.methodLink "GongCycles" (277 : Nat) ({ cls := "GongCycles", name := "densityOf", desc := "(II)I" } : Jvm.MethodName)) ∈ gT := List.mem_filter.mpr ⟨mt2 _ (List.mem_of_getElem? (i := 118) rfl), rfl⟩
theorem mw2_119 : (Jvm.Cond.static ({ cls := "GongCycles", name := "densityOf", desc := "(II)I" } : Jvm.MethodName)) ∈ gT := List.mem_filter.mpr ⟨mt2 _ (List.mem_of_getElem? (i := 119) rfl), rfl⟩
theorem mw2_120 : (Jvm.Cond.code ({ cls := "GongCycles", name := "densityOf", desc := "(II)I" } : Jvm.MethodName) prog_1_method_40_code (2 : Nat) (Option.some Jvm.ClassFile.FieldType.int)) ∈ gT := List.mem_filter.mpr ⟨mt2 _ (List.mem_of_getElem? (i := 120) rfl), rfl⟩
theorem mw2_122 : (Jvm.Cond.methodLink "GongCycles" (288 : Nat) ({ cls := "GongCycles", name := "strokeByStroke", desc := "(IIIII)I" } : Jvm.MethodName)) ∈ gT := List.mem_filter.mpr ⟨mt2 _ (List.mem_of_getElem? (i := 122) rfl), rfl⟩
theorem mw2_123 : (Jvm.Cond.static ({ cls := "GongCycles", name := "strokeByStroke", desc := "(IIIII)I" } : Jvm.MethodName)) ∈ gT := List.mem_filter.mpr ⟨mt2 _ (List.mem_of_getElem? (i := 123) rfl), rfl⟩
theorem mw2_124 : (Jvm.Cond.code ({ cls := "GongCycles", name := "strokeByStroke", desc := "(IIIII)I" } : Jvm.MethodName) prog_1_method_44_code (7 : Nat) (Option.some Jvm.ClassFile.FieldType.int)) ∈ gT := List.mem_filter.mpr ⟨mt2 _ (List.mem_of_getElem? (i := 124) rfl), rfl⟩
theorem mw2_125 : (Jvm.Cond.methodLink "GongCycles" (303 : Nat) ({ cls := "GongCycles", name := "strokeBehind", desc := "(IIIIII)I" } : Jvm.MethodName)) ∈ gT := List.mem_filter.mpr ⟨mt2 _ (List.mem_of_getElem? (i := 125) rfl), rfl⟩
theorem mw2_126 : (Jvm.Cond.static ({ cls := "GongCycles", name := "strokeBehind", desc := "(IIIIII)I" } : Jvm.MethodName)) ∈ gT := List.mem_filter.mpr ⟨mt2 _ (List.mem_of_getElem? (i := 126) rfl), rfl⟩
theorem mw2_127 : (Jvm.Cond.code ({ cls := "GongCycles", name := "strokeBehind", desc := "(IIIIII)I" } : Jvm.MethodName) prog_1_method_45_code (7 : Nat) (Option.some Jvm.ClassFile.FieldType.int)) ∈ gT := List.mem_filter.mpr ⟨mt2 _ (List.mem_of_getElem? (i := 127) rfl), rfl⟩
theorem mw2_128 : (Jvm.Cond.methodLink "GongCycles" (307 : Nat) ({ cls := "GongCycles", name := "walkBehind", desc := "(IIII)I" } : Jvm.MethodName)) ∈ gT := List.mem_filter.mpr ⟨mt2 _ (List.mem_of_getElem? (i := 128) rfl), rfl⟩
theorem mw2_129 : (Jvm.Cond.static ({ cls := "GongCycles", name := "walkBehind", desc := "(IIII)I" } : Jvm.MethodName)) ∈ gT := List.mem_filter.mpr ⟨mt2 _ (List.mem_of_getElem? (i := 129) rfl), rfl⟩
theorem mw2_130 : (Jvm.Cond.code ({ cls := "GongCycles", name := "walkBehind", desc := "(IIII)I" } : Jvm.MethodName) prog_1_method_46_code (4 : Nat) (Option.some Jvm.ClassFile.FieldType.int)) ∈ gT := List.mem_filter.mpr ⟨mt2 _ (List.mem_of_getElem? (i := 130) rfl), rfl⟩
theorem mw2_131 : (Jvm.Cond.methodLink "GongCycles" (292 : Nat) ({ cls := "GongCycles", name := "strokeAt", desc := "(IIIII)I" } : Jvm.MethodName)) ∈ gT := List.mem_filter.mpr ⟨mt2 _ (List.mem_of_getElem? (i := 131) rfl), rfl⟩
theorem mw2_132 : (Jvm.Cond.static ({ cls := "GongCycles", name := "strokeAt", desc := "(IIIII)I" } : Jvm.MethodName)) ∈ gT := List.mem_filter.mpr ⟨mt2 _ (List.mem_of_getElem? (i := 132) rfl), rfl⟩
theorem mw2_133 : (Jvm.Cond.code ({ cls := "GongCycles", name := "strokeAt", desc := "(IIIII)I" } : Jvm.MethodName) prog_1_method_41_code (5 : Nat) (Option.some Jvm.ClassFile.FieldType.int)) ∈ gT := List.mem_filter.mpr ⟨mt2 _ (List.mem_of_getElem? (i := 133) rfl), rfl⟩
theorem mw2_134 : (Jvm.Cond.methodLink "GongCycles" (295 : Nat) ({ cls := "GongCycles", name := "turnAt", desc := "(III)I" } : Jvm.MethodName)) ∈ gT := List.mem_filter.mpr ⟨mt2 _ (List.mem_of_getElem? (i := 134) rfl), rfl⟩
theorem mw2_135 : (Jvm.Cond.static ({ cls := "GongCycles", name := "turnAt", desc := "(III)I" } : Jvm.MethodName)) ∈ gT := List.mem_filter.mpr ⟨mt2 _ (List.mem_of_getElem? (i := 135) rfl), rfl⟩
theorem mw2_136 : (Jvm.Cond.code ({ cls := "GongCycles", name := "turnAt", desc := "(III)I" } : Jvm.MethodName) prog_1_method_42_code (3 : Nat) (Option.some Jvm.ClassFile.FieldType.int)) ∈ gT := List.mem_filter.mpr ⟨mt2 _ (List.mem_of_getElem? (i := 136) rfl), rfl⟩
theorem mw2_137 : (Jvm.Cond.methodLink "GongCycles" (299 : Nat) ({ cls := "GongCycles", name := "walkAt", desc := "(IIII)I" } : Jvm.MethodName)) ∈ gT := List.mem_filter.mpr ⟨mt2 _ (List.mem_of_getElem? (i := 137) rfl), rfl⟩
theorem mw2_138 : (Jvm.Cond.static ({ cls := "GongCycles", name := "walkAt", desc := "(IIII)I" } : Jvm.MethodName)) ∈ gT := List.mem_filter.mpr ⟨mt2 _ (List.mem_of_getElem? (i := 138) rfl), rfl⟩
theorem mw2_139 : (Jvm.Cond.code ({ cls := "GongCycles", name := "walkAt", desc := "(IIII)I" } : Jvm.MethodName) prog_1_method_43_code (6 : Nat) (Option.some Jvm.ClassFile.FieldType.int)) ∈ gT := List.mem_filter.mpr ⟨mt2 _ (List.mem_of_getElem? (i := 139) rfl), rfl⟩
theorem mw2_140 : (Jvm.Cond.methodLink "GongCycles" (209 : Nat) ({ cls := "java/lang/Math", name := "abs", desc := "(I)I" } : Jvm.MethodName)) ∈ gT := List.mem_filter.mpr ⟨mt2 _ (List.mem_of_getElem? (i := 140) rfl), rfl⟩
theorem mw2_141 : (Jvm.Cond.static ({ cls := "java/lang/Math", name := "abs", desc := "(I)I" } : Jvm.MethodName)) ∈ gT := List.mem_filter.mpr ⟨mt2 _ (List.mem_of_getElem? (i := 141) rfl), rfl⟩
theorem mw2_142 : (Jvm.Cond.code ({ cls := "java/lang/Math", name := "abs", desc := "(I)I" } : Jvm.MethodName) prog_14_method_59_code (1 : Nat) (Option.some Jvm.ClassFile.FieldType.int)) ∈ gT := List.mem_filter.mpr ⟨mt2 _ (List.mem_of_getElem? (i := 142) rfl), rfl⟩
theorem mw2_143 : (Jvm.Cond.methodLink "GongCyclesLaw" (128 : Nat) ({ cls := "GongCyclesLaw", name := "strokeAnew", desc := "(LGongCycles;IIIII[J)I" } : Jvm.MethodName)) ∈ gT := List.mem_filter.mpr ⟨mt2 _ (List.mem_of_getElem? (i := 143) rfl), rfl⟩
theorem mw2_144 : (Jvm.Cond.static ({ cls := "GongCyclesLaw", name := "strokeAnew", desc := "(LGongCycles;IIIII[J)I" } : Jvm.MethodName)) ∈ gT := List.mem_filter.mpr ⟨mt2 _ (List.mem_of_getElem? (i := 144) rfl), rfl⟩
theorem mw2_145 : (Jvm.Cond.codeWith ({ cls := "GongCyclesLaw", name := "strokeAnew", desc := "(LGongCycles;IIIII[J)I" } : Jvm.MethodName) method_10_code (8 : Nat) (Option.some Jvm.ClassFile.FieldType.int) [((0 : Nat), (16 : Nat), (19 : Nat), (21 : Nat)), ((0 : Nat), (16 : Nat), (23 : Nat), (13 : Nat))]) ∈ gT := List.mem_filter.mpr ⟨mt2 _ (List.mem_of_getElem? (i := 145) rfl), rfl⟩
theorem mw2_146 : (Jvm.Cond.methodLink "GongCyclesLaw" (40 : Nat) ({ cls := "GongCycles", name := "strokeAnew", desc := "(IIIII)I" } : Jvm.MethodName)) ∈ gT := List.mem_filter.mpr ⟨mt2 _ (List.mem_of_getElem? (i := 146) rfl), rfl⟩
theorem mw2_147 : (Jvm.Cond.instanceMethod ({ cls := "GongCycles", name := "strokeAnew", desc := "(IIIII)I" } : Jvm.MethodName)) ∈ gT := List.mem_filter.mpr ⟨mt2 _ (List.mem_of_getElem? (i := 147) rfl), rfl⟩
theorem mw2_148 : (Jvm.Cond.selects "GongCycles" ({ cls := "GongCycles", name := "strokeAnew", desc := "(IIIII)I" } : Jvm.MethodName) ({ cls := "GongCycles", name := "strokeAnew", desc := "(IIIII)I" } : Jvm.MethodName)) ∈ gT := List.mem_filter.mpr ⟨mt2 _ (List.mem_of_getElem? (i := 148) rfl), rfl⟩
theorem mw2_149 : (Jvm.Cond.code ({ cls := "GongCycles", name := "strokeAnew", desc := "(IIIII)I" } : Jvm.MethodName) prog_1_method_9_code (6 : Nat) (Option.some Jvm.ClassFile.FieldType.int)) ∈ gT := List.mem_filter.mpr ⟨mt2 _ (List.mem_of_getElem? (i := 149) rfl), rfl⟩
theorem mw2_150 : (Jvm.Cond.methodLink "GongCyclesLaw" (131 : Nat) ({ cls := "GongCyclesLaw", name := "begin", desc := "(LGongCycles;I[J)I" } : Jvm.MethodName)) ∈ gT := List.mem_filter.mpr ⟨mt2 _ (List.mem_of_getElem? (i := 150) rfl), rfl⟩
theorem mw2_151 : (Jvm.Cond.static ({ cls := "GongCyclesLaw", name := "begin", desc := "(LGongCycles;I[J)I" } : Jvm.MethodName)) ∈ gT := List.mem_filter.mpr ⟨mt2 _ (List.mem_of_getElem? (i := 151) rfl), rfl⟩
theorem mw2_152 : (Jvm.Cond.codeWith ({ cls := "GongCyclesLaw", name := "begin", desc := "(LGongCycles;I[J)I" } : Jvm.MethodName) method_11_code (4 : Nat) (Option.some Jvm.ClassFile.FieldType.int) [((0 : Nat), (9 : Nat), (12 : Nat), (21 : Nat)), ((0 : Nat), (9 : Nat), (15 : Nat), (15 : Nat))]) ∈ gT := List.mem_filter.mpr ⟨mt2 _ (List.mem_of_getElem? (i := 152) rfl), rfl⟩
theorem mw2_153 : (Jvm.Cond.methodLink "GongCyclesLaw" (43 : Nat) ({ cls := "GongCycles", name := "begin", desc := "(I)I" } : Jvm.MethodName)) ∈ gT := List.mem_filter.mpr ⟨mt2 _ (List.mem_of_getElem? (i := 153) rfl), rfl⟩
theorem mw2_154 : (Jvm.Cond.instanceMethod ({ cls := "GongCycles", name := "begin", desc := "(I)I" } : Jvm.MethodName)) ∈ gT := List.mem_filter.mpr ⟨mt2 _ (List.mem_of_getElem? (i := 154) rfl), rfl⟩
theorem mw2_155 : (Jvm.Cond.selects "GongCycles" ({ cls := "GongCycles", name := "begin", desc := "(I)I" } : Jvm.MethodName) ({ cls := "GongCycles", name := "begin", desc := "(I)I" } : Jvm.MethodName)) ∈ gT := List.mem_filter.mpr ⟨mt2 _ (List.mem_of_getElem? (i := 155) rfl), rfl⟩
theorem mw2_156 : (Jvm.Cond.code ({ cls := "GongCycles", name := "begin", desc := "(I)I" } : Jvm.MethodName) prog_1_method_10_code (3 : Nat) (Option.some Jvm.ClassFile.FieldType.int)) ∈ gT := List.mem_filter.mpr ⟨mt2 _ (List.mem_of_getElem? (i := 156) rfl), rfl⟩
theorem mw2_159 : (Jvm.Cond.methodLink "GongCycles" (125 : Nat) ({ cls := "GongCycles$Melody", name := "length", desc := "()I" } : Jvm.MethodName)) ∈ gT := List.mem_filter.mpr ⟨mt2 _ (List.mem_of_getElem? (i := 159) rfl), rfl⟩
theorem mw2_160 : (Jvm.Cond.instanceMethod ({ cls := "GongCycles$Melody", name := "length", desc := "()I" } : Jvm.MethodName)) ∈ gT := List.mem_filter.mpr ⟨mt2 _ (List.mem_of_getElem? (i := 160) rfl), rfl⟩
theorem mw2_161 : (Jvm.Cond.selects "GongCycles$Melody" ({ cls := "GongCycles$Melody", name := "length", desc := "()I" } : Jvm.MethodName) ({ cls := "GongCycles$Melody", name := "length", desc := "()I" } : Jvm.MethodName)) ∈ gT := List.mem_filter.mpr ⟨mt2 _ (List.mem_of_getElem? (i := 161) rfl), rfl⟩
theorem mw2_162 : (Jvm.Cond.code ({ cls := "GongCycles$Melody", name := "length", desc := "()I" } : Jvm.MethodName) prog_3_method_2_code (1 : Nat) (Option.some Jvm.ClassFile.FieldType.int)) ∈ gT := List.mem_filter.mpr ⟨mt2 _ (List.mem_of_getElem? (i := 162) rfl), rfl⟩
theorem mw2_163 : (Jvm.Cond.methodLink "GongCycles" (129 : Nat) ({ cls := "GongCycles$Playing", name := "startPiece", desc := "(II)V" } : Jvm.MethodName)) ∈ gT := List.mem_filter.mpr ⟨mt2 _ (List.mem_of_getElem? (i := 163) rfl), rfl⟩
theorem mw2_164 : (Jvm.Cond.instanceMethod ({ cls := "GongCycles$Playing", name := "startPiece", desc := "(II)V" } : Jvm.MethodName)) ∈ gT := List.mem_filter.mpr ⟨mt2 _ (List.mem_of_getElem? (i := 164) rfl), rfl⟩
theorem mw2_165 : (Jvm.Cond.selects "GongCycles$Playing" ({ cls := "GongCycles$Playing", name := "startPiece", desc := "(II)V" } : Jvm.MethodName) ({ cls := "GongCycles$Playing", name := "startPiece", desc := "(II)V" } : Jvm.MethodName)) ∈ gT := List.mem_filter.mpr ⟨mt2 _ (List.mem_of_getElem? (i := 165) rfl), rfl⟩
theorem mw2_166 : (Jvm.Cond.code ({ cls := "GongCycles$Playing", name := "startPiece", desc := "(II)V" } : Jvm.MethodName) prog_6_method_2_code (3 : Nat) (Option.none : Option Jvm.ClassFile.FieldType)) ∈ gT := List.mem_filter.mpr ⟨mt2 _ (List.mem_of_getElem? (i := 166) rfl), rfl⟩
theorem mw2_167 : (Jvm.Cond.methodLink "GongCyclesLaw" (134 : Nat) ({ cls := "GongCyclesLaw", name := "drum", desc := "(LGongCycles;I[J)I" } : Jvm.MethodName)) ∈ gT := List.mem_filter.mpr ⟨mt2 _ (List.mem_of_getElem? (i := 167) rfl), rfl⟩
theorem mw2_168 : (Jvm.Cond.static ({ cls := "GongCyclesLaw", name := "drum", desc := "(LGongCycles;I[J)I" } : Jvm.MethodName)) ∈ gT := List.mem_filter.mpr ⟨mt2 _ (List.mem_of_getElem? (i := 168) rfl), rfl⟩
theorem mw2_169 : (Jvm.Cond.codeWith ({ cls := "GongCyclesLaw", name := "drum", desc := "(LGongCycles;I[J)I" } : Jvm.MethodName) method_12_code (4 : Nat) (Option.some Jvm.ClassFile.FieldType.int) [((0 : Nat), (9 : Nat), (12 : Nat), (13 : Nat)), ((0 : Nat), (9 : Nat), (15 : Nat), (15 : Nat))]) ∈ gT := List.mem_filter.mpr ⟨mt2 _ (List.mem_of_getElem? (i := 169) rfl), rfl⟩
theorem mw2_170 : (Jvm.Cond.methodLink "GongCyclesLaw" (46 : Nat) ({ cls := "GongCycles", name := "drum", desc := "(I)I" } : Jvm.MethodName)) ∈ gT := List.mem_filter.mpr ⟨mt2 _ (List.mem_of_getElem? (i := 170) rfl), rfl⟩
theorem mw2_171 : (Jvm.Cond.instanceMethod ({ cls := "GongCycles", name := "drum", desc := "(I)I" } : Jvm.MethodName)) ∈ gT := List.mem_filter.mpr ⟨mt2 _ (List.mem_of_getElem? (i := 171) rfl), rfl⟩
theorem mw2_172 : (Jvm.Cond.selects "GongCycles" ({ cls := "GongCycles", name := "drum", desc := "(I)I" } : Jvm.MethodName) ({ cls := "GongCycles", name := "drum", desc := "(I)I" } : Jvm.MethodName)) ∈ gT := List.mem_filter.mpr ⟨mt2 _ (List.mem_of_getElem? (i := 172) rfl), rfl⟩
theorem mw2_173 : (Jvm.Cond.code ({ cls := "GongCycles", name := "drum", desc := "(I)I" } : Jvm.MethodName) prog_1_method_11_code (2 : Nat) (Option.some Jvm.ClassFile.FieldType.int)) ∈ gT := List.mem_filter.mpr ⟨mt2 _ (List.mem_of_getElem? (i := 173) rfl), rfl⟩
theorem mw2_175 : (Jvm.Cond.methodLink "GongCycles" (135 : Nat) ({ cls := "GongCycles", name := "refuseSilence", desc := "()V" } : Jvm.MethodName)) ∈ gT := List.mem_filter.mpr ⟨mt2 _ (List.mem_of_getElem? (i := 175) rfl), rfl⟩
theorem mw2_177 : (Jvm.Cond.instanceMethod ({ cls := "GongCycles", name := "refuseSilence", desc := "()V" } : Jvm.MethodName)) ∈ gT := List.mem_filter.mpr ⟨mt2 _ (List.mem_of_getElem? (i := 177) rfl), rfl⟩
theorem mw2_178 : (Jvm.Cond.code ({ cls := "GongCycles", name := "refuseSilence", desc := "()V" } : Jvm.MethodName) prog_1_method_38_code (1 : Nat) (Option.none : Option Jvm.ClassFile.FieldType)) ∈ gT := List.mem_filter.mpr ⟨mt2 _ (List.mem_of_getElem? (i := 178) rfl), rfl⟩
theorem mw2_180 : (Jvm.Cond.methodLink "GongCycles" (138 : Nat) ({ cls := "GongCycles$Playing", name := "hearDrum", desc := "(I)V" } : Jvm.MethodName)) ∈ gT := List.mem_filter.mpr ⟨mt2 _ (List.mem_of_getElem? (i := 180) rfl), rfl⟩
theorem mw2_181 : (Jvm.Cond.instanceMethod ({ cls := "GongCycles$Playing", name := "hearDrum", desc := "(I)V" } : Jvm.MethodName)) ∈ gT := List.mem_filter.mpr ⟨mt2 _ (List.mem_of_getElem? (i := 181) rfl), rfl⟩
theorem mw2_182 : (Jvm.Cond.selects "GongCycles$Playing" ({ cls := "GongCycles$Playing", name := "hearDrum", desc := "(I)V" } : Jvm.MethodName) ({ cls := "GongCycles$Playing", name := "hearDrum", desc := "(I)V" } : Jvm.MethodName)) ∈ gT := List.mem_filter.mpr ⟨mt2 _ (List.mem_of_getElem? (i := 182) rfl), rfl⟩
theorem mw2_183 : (Jvm.Cond.code ({ cls := "GongCycles$Playing", name := "hearDrum", desc := "(I)V" } : Jvm.MethodName) prog_6_method_3_code (2 : Nat) (Option.none : Option Jvm.ClassFile.FieldType)) ∈ gT := List.mem_filter.mpr ⟨mt2 _ (List.mem_of_getElem? (i := 183) rfl), rfl⟩
theorem mw2_184 : (Jvm.Cond.methodLink "GongCycles$Playing" (48 : Nat) ({ cls := "GongCycles$Playing", name := "hearEnd", desc := "()V" } : Jvm.MethodName)) ∈ gT := List.mem_filter.mpr ⟨mt2 _ (List.mem_of_getElem? (i := 184) rfl), rfl⟩
theorem mw2_186 : (Jvm.Cond.instanceMethod ({ cls := "GongCycles$Playing", name := "hearEnd", desc := "()V" } : Jvm.MethodName)) ∈ gT := List.mem_filter.mpr ⟨mt2 _ (List.mem_of_getElem? (i := 186) rfl), rfl⟩
theorem mw2_187 : (Jvm.Cond.code ({ cls := "GongCycles$Playing", name := "hearEnd", desc := "()V" } : Jvm.MethodName) prog_6_method_4_code (1 : Nat) (Option.none : Option Jvm.ClassFile.FieldType)) ∈ gT := List.mem_filter.mpr ⟨mt2 _ (List.mem_of_getElem? (i := 187) rfl), rfl⟩
theorem mw2_188 : (Jvm.Cond.methodLink "GongCyclesLaw" (137 : Nat) ({ cls := "GongCyclesLaw", name := "beats", desc := "(LGongCycles;I[J)I" } : Jvm.MethodName)) ∈ gT := List.mem_filter.mpr ⟨mt2 _ (List.mem_of_getElem? (i := 188) rfl), rfl⟩
theorem mw2_189 : (Jvm.Cond.static ({ cls := "GongCyclesLaw", name := "beats", desc := "(LGongCycles;I[J)I" } : Jvm.MethodName)) ∈ gT := List.mem_filter.mpr ⟨mt2 _ (List.mem_of_getElem? (i := 189) rfl), rfl⟩
theorem mw2_190 : (Jvm.Cond.codeWith ({ cls := "GongCyclesLaw", name := "beats", desc := "(LGongCycles;I[J)I" } : Jvm.MethodName) method_13_code (4 : Nat) (Option.some Jvm.ClassFile.FieldType.int) [((0 : Nat), (9 : Nat), (12 : Nat), (13 : Nat)), ((0 : Nat), (9 : Nat), (15 : Nat), (15 : Nat))]) ∈ gT := List.mem_filter.mpr ⟨mt2 _ (List.mem_of_getElem? (i := 190) rfl), rfl⟩
theorem mw2_191 : (Jvm.Cond.methodLink "GongCyclesLaw" (49 : Nat) ({ cls := "GongCycles", name := "beats", desc := "(I)I" } : Jvm.MethodName)) ∈ gT := List.mem_filter.mpr ⟨mt2 _ (List.mem_of_getElem? (i := 191) rfl), rfl⟩
theorem mw2_192 : (Jvm.Cond.instanceMethod ({ cls := "GongCycles", name := "beats", desc := "(I)I" } : Jvm.MethodName)) ∈ gT := List.mem_filter.mpr ⟨mt2 _ (List.mem_of_getElem? (i := 192) rfl), rfl⟩
theorem mw2_193 : (Jvm.Cond.selects "GongCycles" ({ cls := "GongCycles", name := "beats", desc := "(I)I" } : Jvm.MethodName) ({ cls := "GongCycles", name := "beats", desc := "(I)I" } : Jvm.MethodName)) ∈ gT := List.mem_filter.mpr ⟨mt2 _ (List.mem_of_getElem? (i := 193) rfl), rfl⟩
theorem mw2_194 : (Jvm.Cond.code ({ cls := "GongCycles", name := "beats", desc := "(I)I" } : Jvm.MethodName) prog_1_method_12_code (3 : Nat) (Option.some Jvm.ClassFile.FieldType.int)) ∈ gT := List.mem_filter.mpr ⟨mt2 _ (List.mem_of_getElem? (i := 194) rfl), rfl⟩
theorem mw2_196 : (Jvm.Cond.methodLink "GongCycles" (146 : Nat) ({ cls := "GongCycles$Playing", name := "playBeat", desc := "()V" } : Jvm.MethodName)) ∈ gT := List.mem_filter.mpr ⟨mt2 _ (List.mem_of_getElem? (i := 196) rfl), rfl⟩
theorem mw2_197 : (Jvm.Cond.instanceMethod ({ cls := "GongCycles$Playing", name := "playBeat", desc := "()V" } : Jvm.MethodName)) ∈ gT := List.mem_filter.mpr ⟨mt2 _ (List.mem_of_getElem? (i := 197) rfl), rfl⟩
theorem mw2_198 : (Jvm.Cond.selects "GongCycles$Playing" ({ cls := "GongCycles$Playing", name := "playBeat", desc := "()V" } : Jvm.MethodName) ({ cls := "GongCycles$Playing", name := "playBeat", desc := "()V" } : Jvm.MethodName)) ∈ gT := List.mem_filter.mpr ⟨mt2 _ (List.mem_of_getElem? (i := 198) rfl), rfl⟩
theorem mw2_199 : (Jvm.Cond.code ({ cls := "GongCycles$Playing", name := "playBeat", desc := "()V" } : Jvm.MethodName) prog_6_method_5_code (2 : Nat) (Option.none : Option Jvm.ClassFile.FieldType)) ∈ gT := List.mem_filter.mpr ⟨mt2 _ (List.mem_of_getElem? (i := 199) rfl), rfl⟩
theorem mw2_201 : (Jvm.Cond.methodLink "GongCycles$Playing" (55 : Nat) ({ cls := "GongCycles$Playing", name := "changeBeatLength", desc := "()V" } : Jvm.MethodName)) ∈ gT := List.mem_filter.mpr ⟨mt2 _ (List.mem_of_getElem? (i := 201) rfl), rfl⟩
theorem mw2_203 : (Jvm.Cond.instanceMethod ({ cls := "GongCycles$Playing", name := "changeBeatLength", desc := "()V" } : Jvm.MethodName)) ∈ gT := List.mem_filter.mpr ⟨mt2 _ (List.mem_of_getElem? (i := 203) rfl), rfl⟩
theorem mw2_204 : (Jvm.Cond.code ({ cls := "GongCycles$Playing", name := "changeBeatLength", desc := "()V" } : Jvm.MethodName) prog_6_method_6_code (1 : Nat) (Option.none : Option Jvm.ClassFile.FieldType)) ∈ gT := List.mem_filter.mpr ⟨mt2 _ (List.mem_of_getElem? (i := 204) rfl), rfl⟩
theorem mw2_205 : (Jvm.Cond.methodLink "GongCycles$Playing" (61 : Nat) ({ cls := "java/lang/Math", name := "min", desc := "(II)I" } : Jvm.MethodName)) ∈ gT := List.mem_filter.mpr ⟨mt2 _ (List.mem_of_getElem? (i := 205) rfl), rfl⟩
theorem mw2_206 : (Jvm.Cond.static ({ cls := "java/lang/Math", name := "min", desc := "(II)I" } : Jvm.MethodName)) ∈ gT := List.mem_filter.mpr ⟨mt2 _ (List.mem_of_getElem? (i := 206) rfl), rfl⟩
theorem mw2_207 : (Jvm.Cond.code ({ cls := "java/lang/Math", name := "min", desc := "(II)I" } : Jvm.MethodName) prog_14_method_69_code (2 : Nat) (Option.some Jvm.ClassFile.FieldType.int)) ∈ gT := List.mem_filter.mpr ⟨mt2 _ (List.mem_of_getElem? (i := 207) rfl), rfl⟩
theorem mw2_208 : (Jvm.Cond.methodLink "GongCycles$Playing" (66 : Nat) ({ cls := "java/lang/Math", name := "max", desc := "(II)I" } : Jvm.MethodName)) ∈ gT := List.mem_filter.mpr ⟨mt2 _ (List.mem_of_getElem? (i := 208) rfl), rfl⟩
theorem mw2_209 : (Jvm.Cond.methodLink "GongCycles$Playing" (58 : Nat) ({ cls := "GongCycles$Playing", name := "playGong", desc := "()V" } : Jvm.MethodName)) ∈ gT := List.mem_filter.mpr ⟨mt2 _ (List.mem_of_getElem? (i := 209) rfl), rfl⟩
theorem mw2_211 : (Jvm.Cond.instanceMethod ({ cls := "GongCycles$Playing", name := "playGong", desc := "()V" } : Jvm.MethodName)) ∈ gT := List.mem_filter.mpr ⟨mt2 _ (List.mem_of_getElem? (i := 211) rfl), rfl⟩
theorem mw2_212 : (Jvm.Cond.code ({ cls := "GongCycles$Playing", name := "playGong", desc := "()V" } : Jvm.MethodName) prog_6_method_7_code (1 : Nat) (Option.none : Option Jvm.ClassFile.FieldType)) ∈ gT := List.mem_filter.mpr ⟨mt2 _ (List.mem_of_getElem? (i := 212) rfl), rfl⟩
theorem mw2_213 : (Jvm.Cond.methodLink "GongCycles$Playing" (69 : Nat) ({ cls := "GongCycles$Playing", name := "levelOf", desc := "(I)I" } : Jvm.MethodName)) ∈ gT := List.mem_filter.mpr ⟨mt2 _ (List.mem_of_getElem? (i := 213) rfl), rfl⟩
theorem mw2_214 : (Jvm.Cond.static ({ cls := "GongCycles$Playing", name := "levelOf", desc := "(I)I" } : Jvm.MethodName)) ∈ gT := List.mem_filter.mpr ⟨mt2 _ (List.mem_of_getElem? (i := 214) rfl), rfl⟩
theorem mw2_215 : (Jvm.Cond.code ({ cls := "GongCycles$Playing", name := "levelOf", desc := "(I)I" } : Jvm.MethodName) prog_6_method_8_code (1 : Nat) (Option.some Jvm.ClassFile.FieldType.int)) ∈ gT := List.mem_filter.mpr ⟨mt2 _ (List.mem_of_getElem? (i := 215) rfl), rfl⟩
theorem mw2_216 : (Jvm.Cond.methodLink "GongCyclesLaw" (140 : Nat) ({ cls := "GongCyclesLaw", name := "now", desc := "(LGongCycles;I[J)I" } : Jvm.MethodName)) ∈ gT := List.mem_filter.mpr ⟨mt2 _ (List.mem_of_getElem? (i := 216) rfl), rfl⟩
theorem mw2_217 : (Jvm.Cond.static ({ cls := "GongCyclesLaw", name := "now", desc := "(LGongCycles;I[J)I" } : Jvm.MethodName)) ∈ gT := List.mem_filter.mpr ⟨mt2 _ (List.mem_of_getElem? (i := 217) rfl), rfl⟩
theorem mw2_218 : (Jvm.Cond.codeWith ({ cls := "GongCyclesLaw", name := "now", desc := "(LGongCycles;I[J)I" } : Jvm.MethodName) method_14_code (4 : Nat) (Option.some Jvm.ClassFile.FieldType.int) [((0 : Nat), (9 : Nat), (12 : Nat), (13 : Nat))]) ∈ gT := List.mem_filter.mpr ⟨mt2 _ (List.mem_of_getElem? (i := 218) rfl), rfl⟩
theorem mw2_219 : (Jvm.Cond.methodLink "GongCyclesLaw" (52 : Nat) ({ cls := "GongCycles", name := "now", desc := "(I)I" } : Jvm.MethodName)) ∈ gT := List.mem_filter.mpr ⟨mt2 _ (List.mem_of_getElem? (i := 219) rfl), rfl⟩
theorem mw2_220 : (Jvm.Cond.instanceMethod ({ cls := "GongCycles", name := "now", desc := "(I)I" } : Jvm.MethodName)) ∈ gT := List.mem_filter.mpr ⟨mt2 _ (List.mem_of_getElem? (i := 220) rfl), rfl⟩
theorem mw2_221 : (Jvm.Cond.selects "GongCycles" ({ cls := "GongCycles", name := "now", desc := "(I)I" } : Jvm.MethodName) ({ cls := "GongCycles", name := "now", desc := "(I)I" } : Jvm.MethodName)) ∈ gT := List.mem_filter.mpr ⟨mt2 _ (List.mem_of_getElem? (i := 221) rfl), rfl⟩
theorem mw2_222 : (Jvm.Cond.code ({ cls := "GongCycles", name := "now", desc := "(I)I" } : Jvm.MethodName) prog_1_method_13_code (2 : Nat) (Option.some Jvm.ClassFile.FieldType.int)) ∈ gT := List.mem_filter.mpr ⟨mt2 _ (List.mem_of_getElem? (i := 222) rfl), rfl⟩
theorem mw2_224 : (Jvm.Cond.methodLink "GongCyclesLaw" (148 : Nat) ({ cls := "GongCyclesLaw", name := "strokes", desc := "(LGongCycles;I[J)I" } : Jvm.MethodName)) ∈ gT := List.mem_filter.mpr ⟨mt2 _ (List.mem_of_getElem? (i := 224) rfl), rfl⟩
theorem mw2_225 : (Jvm.Cond.static ({ cls := "GongCyclesLaw", name := "strokes", desc := "(LGongCycles;I[J)I" } : Jvm.MethodName)) ∈ gT := List.mem_filter.mpr ⟨mt2 _ (List.mem_of_getElem? (i := 225) rfl), rfl⟩
theorem mw2_226 : (Jvm.Cond.codeWith ({ cls := "GongCyclesLaw", name := "strokes", desc := "(LGongCycles;I[J)I" } : Jvm.MethodName) method_15_code (4 : Nat) (Option.some Jvm.ClassFile.FieldType.int) [((0 : Nat), (8 : Nat), (11 : Nat), (21 : Nat))]) ∈ gT := List.mem_filter.mpr ⟨mt2 _ (List.mem_of_getElem? (i := 226) rfl), rfl⟩
theorem mw2_227 : (Jvm.Cond.methodLink "GongCyclesLaw" (55 : Nat) ({ cls := "GongCycles", name := "strokes", desc := "(I)J" } : Jvm.MethodName)) ∈ gT := List.mem_filter.mpr ⟨mt2 _ (List.mem_of_getElem? (i := 227) rfl), rfl⟩
theorem mw2_228 : (Jvm.Cond.instanceMethod ({ cls := "GongCycles", name := "strokes", desc := "(I)J" } : Jvm.MethodName)) ∈ gT := List.mem_filter.mpr ⟨mt2 _ (List.mem_of_getElem? (i := 228) rfl), rfl⟩
theorem mw2_229 : (Jvm.Cond.selects "GongCycles" ({ cls := "GongCycles", name := "strokes", desc := "(I)J" } : Jvm.MethodName) ({ cls := "GongCycles", name := "strokes", desc := "(I)J" } : Jvm.MethodName)) ∈ gT := List.mem_filter.mpr ⟨mt2 _ (List.mem_of_getElem? (i := 229) rfl), rfl⟩
theorem mw2_230 : (Jvm.Cond.code ({ cls := "GongCycles", name := "strokes", desc := "(I)J" } : Jvm.MethodName) prog_1_method_15_code (2 : Nat) (Option.some Jvm.ClassFile.FieldType.long)) ∈ gT := List.mem_filter.mpr ⟨mt2 _ (List.mem_of_getElem? (i := 230) rfl), rfl⟩
theorem mw2_231 : (Jvm.Cond.methodLink "GongCycles" (170 : Nat) ({ cls := "GongCycles$Playing", name := "strokesOf", desc := "(I)J" } : Jvm.MethodName)) ∈ gT := List.mem_filter.mpr ⟨mt2 _ (List.mem_of_getElem? (i := 231) rfl), rfl⟩
theorem mw2_232 : (Jvm.Cond.instanceMethod ({ cls := "GongCycles$Playing", name := "strokesOf", desc := "(I)J" } : Jvm.MethodName)) ∈ gT := List.mem_filter.mpr ⟨mt2 _ (List.mem_of_getElem? (i := 232) rfl), rfl⟩
theorem mw2_233 : (Jvm.Cond.selects "GongCycles$Playing" ({ cls := "GongCycles$Playing", name := "strokesOf", desc := "(I)J" } : Jvm.MethodName) ({ cls := "GongCycles$Playing", name := "strokesOf", desc := "(I)J" } : Jvm.MethodName)) ∈ gT := List.mem_filter.mpr ⟨mt2 _ (List.mem_of_getElem? (i := 233) rfl), rfl⟩
theorem mw2_234 : (Jvm.Cond.code ({ cls := "GongCycles$Playing", name := "strokesOf", desc := "(I)J" } : Jvm.MethodName) prog_6_method_9_code (2 : Nat) (Option.some Jvm.ClassFile.FieldType.long)) ∈ gT := List.mem_filter.mpr ⟨mt2 _ (List.mem_of_getElem? (i := 234) rfl), rfl⟩
theorem mw2_235 : (Jvm.Cond.methodLink "GongCyclesLaw" (151 : Nat) ({ cls := "GongCyclesLaw", name := "days", desc := "(LGongCycles;I[J)I" } : Jvm.MethodName)) ∈ gT := List.mem_filter.mpr ⟨mt2 _ (List.mem_of_getElem? (i := 235) rfl), rfl⟩
theorem mw2_236 : (Jvm.Cond.static ({ cls := "GongCyclesLaw", name := "days", desc := "(LGongCycles;I[J)I" } : Jvm.MethodName)) ∈ gT := List.mem_filter.mpr ⟨mt2 _ (List.mem_of_getElem? (i := 236) rfl), rfl⟩
theorem mw2_237 : (Jvm.Cond.codeWith ({ cls := "GongCyclesLaw", name := "days", desc := "(LGongCycles;I[J)I" } : Jvm.MethodName) method_16_code (4 : Nat) (Option.some Jvm.ClassFile.FieldType.int) [((0 : Nat), (9 : Nat), (12 : Nat), (13 : Nat)), ((0 : Nat), (9 : Nat), (15 : Nat), (15 : Nat))]) ∈ gT := List.mem_filter.mpr ⟨mt2 _ (List.mem_of_getElem? (i := 237) rfl), rfl⟩
theorem mw2_238 : (Jvm.Cond.methodLink "GongCyclesLaw" (59 : Nat) ({ cls := "GongCycles", name := "days", desc := "(I)I" } : Jvm.MethodName)) ∈ gT := List.mem_filter.mpr ⟨mt2 _ (List.mem_of_getElem? (i := 238) rfl), rfl⟩
theorem mw2_239 : (Jvm.Cond.instanceMethod ({ cls := "GongCycles", name := "days", desc := "(I)I" } : Jvm.MethodName)) ∈ gT := List.mem_filter.mpr ⟨mt2 _ (List.mem_of_getElem? (i := 239) rfl), rfl⟩
theorem mw3_0 : (Jvm.Cond.selects "GongCycles" ({ cls := "GongCycles", name := "days", desc := "(I)I" } : Jvm.MethodName) ({ cls := "GongCycles", name := "days", desc := "(I)I" } : Jvm.MethodName)) ∈ gT := List.mem_filter.mpr ⟨mt3 _ (List.mem_of_getElem? (i := 0) rfl), rfl⟩
theorem mw3_1 : (Jvm.Cond.code ({ cls := "GongCycles", name := "days", desc := "(I)I" } : Jvm.MethodName) prog_1_method_16_code (2 : Nat) (Option.some Jvm.ClassFile.FieldType.int)) ∈ gT := List.mem_filter.mpr ⟨mt3 _ (List.mem_of_getElem? (i := 1) rfl), rfl⟩
theorem mw3_3 : (Jvm.Cond.methodLink "GongCyclesLaw" (154 : Nat) ({ cls := "GongCyclesLaw", name := "pitch", desc := "(LGongCycles;III[J)I" } : Jvm.MethodName)) ∈ gT := List.mem_filter.mpr ⟨mt3 _ (List.mem_of_getElem? (i := 3) rfl), rfl⟩
theorem mw3_4 : (Jvm.Cond.static ({ cls := "GongCyclesLaw", name := "pitch", desc := "(LGongCycles;III[J)I" } : Jvm.MethodName)) ∈ gT := List.mem_filter.mpr ⟨mt3 _ (List.mem_of_getElem? (i := 4) rfl), rfl⟩
theorem mw3_5 : (Jvm.Cond.codeWith ({ cls := "GongCyclesLaw", name := "pitch", desc := "(LGongCycles;III[J)I" } : Jvm.MethodName) method_17_code (6 : Nat) (Option.some Jvm.ClassFile.FieldType.int) [((0 : Nat), (12 : Nat), (15 : Nat), (21 : Nat)), ((0 : Nat), (12 : Nat), (19 : Nat), (13 : Nat))]) ∈ gT := List.mem_filter.mpr ⟨mt3 _ (List.mem_of_getElem? (i := 5) rfl), rfl⟩
theorem mw3_6 : (Jvm.Cond.methodLink "GongCyclesLaw" (62 : Nat) ({ cls := "GongCycles", name := "pitch", desc := "(III)I" } : Jvm.MethodName)) ∈ gT := List.mem_filter.mpr ⟨mt3 _ (List.mem_of_getElem? (i := 6) rfl), rfl⟩
theorem mw3_7 : (Jvm.Cond.instanceMethod ({ cls := "GongCycles", name := "pitch", desc := "(III)I" } : Jvm.MethodName)) ∈ gT := List.mem_filter.mpr ⟨mt3 _ (List.mem_of_getElem? (i := 7) rfl), rfl⟩
theorem mw3_8 : (Jvm.Cond.selects "GongCycles" ({ cls := "GongCycles", name := "pitch", desc := "(III)I" } : Jvm.MethodName) ({ cls := "GongCycles", name := "pitch", desc := "(III)I" } : Jvm.MethodName)) ∈ gT := List.mem_filter.mpr ⟨mt3 _ (List.mem_of_getElem? (i := 8) rfl), rfl⟩
theorem mw3_9 : (Jvm.Cond.code ({ cls := "GongCycles", name := "pitch", desc := "(III)I" } : Jvm.MethodName) prog_1_method_17_code (5 : Nat) (Option.some Jvm.ClassFile.FieldType.int)) ∈ gT := List.mem_filter.mpr ⟨mt3 _ (List.mem_of_getElem? (i := 9) rfl), rfl⟩
theorem mw3_10 : (Jvm.Cond.methodLink "GongCycles" (176 : Nat) ({ cls := "GongCycles", name := "setAt", desc := "(I)LGongCycles$BronzeSet;" } : Jvm.MethodName)) ∈ gT := List.mem_filter.mpr ⟨mt3 _ (List.mem_of_getElem? (i := 10) rfl), rfl⟩
theorem mw3_12 : (Jvm.Cond.instanceMethod ({ cls := "GongCycles", name := "setAt", desc := "(I)LGongCycles$BronzeSet;" } : Jvm.MethodName)) ∈ gT := List.mem_filter.mpr ⟨mt3 _ (List.mem_of_getElem? (i := 12) rfl), rfl⟩
theorem mw3_13 : (Jvm.Cond.code ({ cls := "GongCycles", name := "setAt", desc := "(I)LGongCycles$BronzeSet;" } : Jvm.MethodName) prog_1_method_29_code (3 : Nat) (Option.some (Jvm.ClassFile.FieldType.object "GongCycles$BronzeSet"))) ∈ gT := List.mem_filter.mpr ⟨mt3 _ (List.mem_of_getElem? (i := 13) rfl), rfl⟩
theorem mw3_15 : (Jvm.Cond.methodLink "GongCycles" (180 : Nat) ({ cls := "GongCycles", name := "refuseNoTone", desc := "(I)V" } : Jvm.MethodName)) ∈ gT := List.mem_filter.mpr ⟨mt3 _ (List.mem_of_getElem? (i := 15) rfl), rfl⟩
theorem mw3_16 : (Jvm.Cond.static ({ cls := "GongCycles", name := "refuseNoTone", desc := "(I)V" } : Jvm.MethodName)) ∈ gT := List.mem_filter.mpr ⟨mt3 _ (List.mem_of_getElem? (i := 16) rfl), rfl⟩
theorem mw3_17 : (Jvm.Cond.code ({ cls := "GongCycles", name := "refuseNoTone", desc := "(I)V" } : Jvm.MethodName) prog_1_method_35_code (1 : Nat) (Option.none : Option Jvm.ClassFile.FieldType)) ∈ gT := List.mem_filter.mpr ⟨mt3 _ (List.mem_of_getElem? (i := 17) rfl), rfl⟩
theorem mw3_19 : (Jvm.Cond.constant "GongCycles" (183 : Nat) (200000 : Int32)) ∈ gT := List.mem_filter.mpr ⟨mt3 _ (List.mem_of_getElem? (i := 19) rfl), rfl⟩
theorem mw3_21 : (Jvm.Cond.methodLink "GongCycles" (186 : Nat) ({ cls := "GongCycles$BronzeSet", name := "putPitch", desc := "(II)I" } : Jvm.MethodName)) ∈ gT := List.mem_filter.mpr ⟨mt3 _ (List.mem_of_getElem? (i := 21) rfl), rfl⟩
theorem mw3_22 : (Jvm.Cond.instanceMethod ({ cls := "GongCycles$BronzeSet", name := "putPitch", desc := "(II)I" } : Jvm.MethodName)) ∈ gT := List.mem_filter.mpr ⟨mt3 _ (List.mem_of_getElem? (i := 22) rfl), rfl⟩
theorem mw3_23 : (Jvm.Cond.selects "GongCycles$BronzeSet" ({ cls := "GongCycles$BronzeSet", name := "putPitch", desc := "(II)I" } : Jvm.MethodName) ({ cls := "GongCycles$BronzeSet", name := "putPitch", desc := "(II)I" } : Jvm.MethodName)) ∈ gT := List.mem_filter.mpr ⟨mt3 _ (List.mem_of_getElem? (i := 23) rfl), rfl⟩
theorem mw3_24 : (Jvm.Cond.code ({ cls := "GongCycles$BronzeSet", name := "putPitch", desc := "(II)I" } : Jvm.MethodName) prog_2_method_3_code (4 : Nat) (Option.some Jvm.ClassFile.FieldType.int)) ∈ gT := List.mem_filter.mpr ⟨mt3 _ (List.mem_of_getElem? (i := 24) rfl), rfl⟩
theorem mw3_25 : (Jvm.Cond.methodLink "GongCycles$BronzeSet" (20 : Nat) ({ cls := "GongCycles$BronzeSet", name := "pitchOf", desc := "(I)I" } : Jvm.MethodName)) ∈ gT := List.mem_filter.mpr ⟨mt3 _ (List.mem_of_getElem? (i := 25) rfl), rfl⟩
theorem mw3_26 : (Jvm.Cond.instanceMethod ({ cls := "GongCycles$BronzeSet", name := "pitchOf", desc := "(I)I" } : Jvm.MethodName)) ∈ gT := List.mem_filter.mpr ⟨mt3 _ (List.mem_of_getElem? (i := 26) rfl), rfl⟩
theorem mw3_27 : (Jvm.Cond.selects "GongCycles$BronzeSet" ({ cls := "GongCycles$BronzeSet", name := "pitchOf", desc := "(I)I" } : Jvm.MethodName) ({ cls := "GongCycles$BronzeSet", name := "pitchOf", desc := "(I)I" } : Jvm.MethodName)) ∈ gT := List.mem_filter.mpr ⟨mt3 _ (List.mem_of_getElem? (i := 27) rfl), rfl⟩
theorem mw3_28 : (Jvm.Cond.code ({ cls := "GongCycles$BronzeSet", name := "pitchOf", desc := "(I)I" } : Jvm.MethodName) prog_2_method_2_code (2 : Nat) (Option.some Jvm.ClassFile.FieldType.int)) ∈ gT := List.mem_filter.mpr ⟨mt3 _ (List.mem_of_getElem? (i := 28) rfl), rfl⟩
theorem mw3_29 : (Jvm.Cond.methodLink "GongCyclesLaw" (157 : Nat) ({ cls := "GongCyclesLaw", name := "drift", desc := "(LGongCycles;II[J)I" } : Jvm.MethodName)) ∈ gT := List.mem_filter.mpr ⟨mt3 _ (List.mem_of_getElem? (i := 29) rfl), rfl⟩
theorem mw3_30 : (Jvm.Cond.static ({ cls := "GongCyclesLaw", name := "drift", desc := "(LGongCycles;II[J)I" } : Jvm.MethodName)) ∈ gT := List.mem_filter.mpr ⟨mt3 _ (List.mem_of_getElem? (i := 30) rfl), rfl⟩
theorem mw3_31 : (Jvm.Cond.codeWith ({ cls := "GongCyclesLaw", name := "drift", desc := "(LGongCycles;II[J)I" } : Jvm.MethodName) method_18_code (5 : Nat) (Option.some Jvm.ClassFile.FieldType.int) [((0 : Nat), (10 : Nat), (13 : Nat), (21 : Nat)), ((0 : Nat), (10 : Nat), (17 : Nat), (13 : Nat))]) ∈ gT := List.mem_filter.mpr ⟨mt3 _ (List.mem_of_getElem? (i := 31) rfl), rfl⟩
theorem mw3_32 : (Jvm.Cond.methodLink "GongCyclesLaw" (65 : Nat) ({ cls := "GongCycles", name := "drift", desc := "(II)I" } : Jvm.MethodName)) ∈ gT := List.mem_filter.mpr ⟨mt3 _ (List.mem_of_getElem? (i := 32) rfl), rfl⟩
theorem mw3_33 : (Jvm.Cond.instanceMethod ({ cls := "GongCycles", name := "drift", desc := "(II)I" } : Jvm.MethodName)) ∈ gT := List.mem_filter.mpr ⟨mt3 _ (List.mem_of_getElem? (i := 33) rfl), rfl⟩
theorem mw3_34 : (Jvm.Cond.selects "GongCycles" ({ cls := "GongCycles", name := "drift", desc := "(II)I" } : Jvm.MethodName) ({ cls := "GongCycles", name := "drift", desc := "(II)I" } : Jvm.MethodName)) ∈ gT := List.mem_filter.mpr ⟨mt3 _ (List.mem_of_getElem? (i := 34) rfl), rfl⟩
theorem mw3_35 : (Jvm.Cond.code ({ cls := "GongCycles", name := "drift", desc := "(II)I" } : Jvm.MethodName) prog_1_method_18_code (5 : Nat) (Option.some Jvm.ClassFile.FieldType.int)) ∈ gT := List.mem_filter.mpr ⟨mt3 _ (List.mem_of_getElem? (i := 35) rfl), rfl⟩
theorem mw3_37 : (Jvm.Cond.methodLink "GongCyclesLaw" (160 : Nat) ({ cls := "GongCyclesLaw", name := "years", desc := "(LGongCycles;I[J)I" } : Jvm.MethodName)) ∈ gT := List.mem_filter.mpr ⟨mt3 _ (List.mem_of_getElem? (i := 37) rfl), rfl⟩
theorem mw3_38 : (Jvm.Cond.static ({ cls := "GongCyclesLaw", name := "years", desc := "(LGongCycles;I[J)I" } : Jvm.MethodName)) ∈ gT := List.mem_filter.mpr ⟨mt3 _ (List.mem_of_getElem? (i := 38) rfl), rfl⟩
theorem mw3_39 : (Jvm.Cond.codeWith ({ cls := "GongCyclesLaw", name := "years", desc := "(LGongCycles;I[J)I" } : Jvm.MethodName) method_19_code (4 : Nat) (Option.some Jvm.ClassFile.FieldType.int) [((0 : Nat), (9 : Nat), (12 : Nat), (13 : Nat)), ((0 : Nat), (9 : Nat), (15 : Nat), (15 : Nat))]) ∈ gT := List.mem_filter.mpr ⟨mt3 _ (List.mem_of_getElem? (i := 39) rfl), rfl⟩
theorem mw3_40 : (Jvm.Cond.methodLink "GongCyclesLaw" (68 : Nat) ({ cls := "GongCycles", name := "years", desc := "(I)I" } : Jvm.MethodName)) ∈ gT := List.mem_filter.mpr ⟨mt3 _ (List.mem_of_getElem? (i := 40) rfl), rfl⟩
theorem mw3_41 : (Jvm.Cond.instanceMethod ({ cls := "GongCycles", name := "years", desc := "(I)I" } : Jvm.MethodName)) ∈ gT := List.mem_filter.mpr ⟨mt3 _ (List.mem_of_getElem? (i := 41) rfl), rfl⟩
theorem mw3_42 : (Jvm.Cond.selects "GongCycles" ({ cls := "GongCycles", name := "years", desc := "(I)I" } : Jvm.MethodName) ({ cls := "GongCycles", name := "years", desc := "(I)I" } : Jvm.MethodName)) ∈ gT := List.mem_filter.mpr ⟨mt3 _ (List.mem_of_getElem? (i := 42) rfl), rfl⟩
theorem mw3_43 : (Jvm.Cond.code ({ cls := "GongCycles", name := "years", desc := "(I)I" } : Jvm.MethodName) prog_1_method_19_code (3 : Nat) (Option.some Jvm.ClassFile.FieldType.int)) ∈ gT := List.mem_filter.mpr ⟨mt3 _ (List.mem_of_getElem? (i := 43) rfl), rfl⟩
theorem mw3_46 : (Jvm.Cond.methodLink "GongCycles" (198 : Nat) ({ cls := "GongCycles$BronzeSet", name := "ageBy", desc := "(I)V" } : Jvm.MethodName)) ∈ gT := List.mem_filter.mpr ⟨mt3 _ (List.mem_of_getElem? (i := 46) rfl), rfl⟩
theorem mw3_47 : (Jvm.Cond.instanceMethod ({ cls := "GongCycles$BronzeSet", name := "ageBy", desc := "(I)V" } : Jvm.MethodName)) ∈ gT := List.mem_filter.mpr ⟨mt3 _ (List.mem_of_getElem? (i := 47) rfl), rfl⟩
theorem mw3_48 : (Jvm.Cond.selects "GongCycles$BronzeSet" ({ cls := "GongCycles$BronzeSet", name := "ageBy", desc := "(I)V" } : Jvm.MethodName) ({ cls := "GongCycles$BronzeSet", name := "ageBy", desc := "(I)V" } : Jvm.MethodName)) ∈ gT := List.mem_filter.mpr ⟨mt3 _ (List.mem_of_getElem? (i := 48) rfl), rfl⟩
theorem mw3_49 : (Jvm.Cond.code ({ cls := "GongCycles$BronzeSet", name := "ageBy", desc := "(I)V" } : Jvm.MethodName) prog_2_method_4_code (5 : Nat) (Option.none : Option Jvm.ClassFile.FieldType)) ∈ gT := List.mem_filter.mpr ⟨mt3 _ (List.mem_of_getElem? (i := 49) rfl), rfl⟩
theorem mw3_50 : (Jvm.Cond.methodLink "GongCycles$BronzeSet" (24 : Nat) ({ cls := "java/lang/Math", name := "max", desc := "(II)I" } : Jvm.MethodName)) ∈ gT := List.mem_filter.mpr ⟨mt3 _ (List.mem_of_getElem? (i := 50) rfl), rfl⟩
theorem mw3_51 : (Jvm.Cond.methodLink "GongCyclesLaw" (163 : Nat) ({ cls := "GongCyclesLaw", name := "tune", desc := "(LGongCycles;II[J)I" } : Jvm.MethodName)) ∈ gT := List.mem_filter.mpr ⟨mt3 _ (List.mem_of_getElem? (i := 51) rfl), rfl⟩
theorem mw3_52 : (Jvm.Cond.static ({ cls := "GongCyclesLaw", name := "tune", desc := "(LGongCycles;II[J)I" } : Jvm.MethodName)) ∈ gT := List.mem_filter.mpr ⟨mt3 _ (List.mem_of_getElem? (i := 52) rfl), rfl⟩
theorem mw3_53 : (Jvm.Cond.codeWith ({ cls := "GongCyclesLaw", name := "tune", desc := "(LGongCycles;II[J)I" } : Jvm.MethodName) method_20_code (5 : Nat) (Option.some Jvm.ClassFile.FieldType.int) [((0 : Nat), (10 : Nat), (13 : Nat), (21 : Nat)), ((0 : Nat), (10 : Nat), (17 : Nat), (13 : Nat))]) ∈ gT := List.mem_filter.mpr ⟨mt3 _ (List.mem_of_getElem? (i := 53) rfl), rfl⟩
theorem mw3_54 : (Jvm.Cond.methodLink "GongCyclesLaw" (71 : Nat) ({ cls := "GongCycles", name := "tune", desc := "(II)I" } : Jvm.MethodName)) ∈ gT := List.mem_filter.mpr ⟨mt3 _ (List.mem_of_getElem? (i := 54) rfl), rfl⟩
theorem mw3_55 : (Jvm.Cond.instanceMethod ({ cls := "GongCycles", name := "tune", desc := "(II)I" } : Jvm.MethodName)) ∈ gT := List.mem_filter.mpr ⟨mt3 _ (List.mem_of_getElem? (i := 55) rfl), rfl⟩
theorem mw3_56 : (Jvm.Cond.selects "GongCycles" ({ cls := "GongCycles", name := "tune", desc := "(II)I" } : Jvm.MethodName) ({ cls := "GongCycles", name := "tune", desc := "(II)I" } : Jvm.MethodName)) ∈ gT := List.mem_filter.mpr ⟨mt3 _ (List.mem_of_getElem? (i := 56) rfl), rfl⟩
theorem mw3_57 : (Jvm.Cond.code ({ cls := "GongCycles", name := "tune", desc := "(II)I" } : Jvm.MethodName) prog_1_method_20_code (5 : Nat) (Option.some Jvm.ClassFile.FieldType.int)) ∈ gT := List.mem_filter.mpr ⟨mt3 _ (List.mem_of_getElem? (i := 57) rfl), rfl⟩
theorem mw3_59 : (Jvm.Cond.methodLink "GongCycles" (203 : Nat) ({ cls := "GongCycles$BronzeSet", name := "pitchOf", desc := "(I)I" } : Jvm.MethodName)) ∈ gT := List.mem_filter.mpr ⟨mt3 _ (List.mem_of_getElem? (i := 59) rfl), rfl⟩
theorem mw3_60 : (Jvm.Cond.methodLink "GongCycles" (206 : Nat) ({ cls := "GongCycles$BronzeSet", name := "tuneTo", desc := "(I)V" } : Jvm.MethodName)) ∈ gT := List.mem_filter.mpr ⟨mt3 _ (List.mem_of_getElem? (i := 60) rfl), rfl⟩
theorem mw3_61 : (Jvm.Cond.instanceMethod ({ cls := "GongCycles$BronzeSet", name := "tuneTo", desc := "(I)V" } : Jvm.MethodName)) ∈ gT := List.mem_filter.mpr ⟨mt3 _ (List.mem_of_getElem? (i := 61) rfl), rfl⟩
theorem mw3_62 : (Jvm.Cond.selects "GongCycles$BronzeSet" ({ cls := "GongCycles$BronzeSet", name := "tuneTo", desc := "(I)V" } : Jvm.MethodName) ({ cls := "GongCycles$BronzeSet", name := "tuneTo", desc := "(I)V" } : Jvm.MethodName)) ∈ gT := List.mem_filter.mpr ⟨mt3 _ (List.mem_of_getElem? (i := 62) rfl), rfl⟩
theorem mw3_63 : (Jvm.Cond.code ({ cls := "GongCycles$BronzeSet", name := "tuneTo", desc := "(I)V" } : Jvm.MethodName) prog_2_method_5_code (7 : Nat) (Option.none : Option Jvm.ClassFile.FieldType)) ∈ gT := List.mem_filter.mpr ⟨mt3 _ (List.mem_of_getElem? (i := 63) rfl), rfl⟩
theorem mw3_64 : (Jvm.Cond.constantLong "GongCycles$BronzeSet" (30 : Nat) (5000 : Int64)) ∈ gT := List.mem_filter.mpr ⟨mt3 _ (List.mem_of_getElem? (i := 64) rfl), rfl⟩
theorem mw3_65 : (Jvm.Cond.constantLong "GongCycles$BronzeSet" (32 : Nat) (200000 : Int64)) ∈ gT := List.mem_filter.mpr ⟨mt3 _ (List.mem_of_getElem? (i := 65) rfl), rfl⟩
theorem mw3_66 : (Jvm.Cond.methodLink "GongCycles$BronzeSet" (34 : Nat) ({ cls := "java/lang/Math", name := "min", desc := "(JJ)J" } : Jvm.MethodName)) ∈ gT := List.mem_filter.mpr ⟨mt3 _ (List.mem_of_getElem? (i := 66) rfl), rfl⟩
theorem mw3_67 : (Jvm.Cond.static ({ cls := "java/lang/Math", name := "min", desc := "(JJ)J" } : Jvm.MethodName)) ∈ gT := List.mem_filter.mpr ⟨mt3 _ (List.mem_of_getElem? (i := 67) rfl), rfl⟩
theorem mw3_68 : (Jvm.Cond.code ({ cls := "java/lang/Math", name := "min", desc := "(JJ)J" } : Jvm.MethodName) prog_14_method_70_code (4 : Nat) (Option.some Jvm.ClassFile.FieldType.long)) ∈ gT := List.mem_filter.mpr ⟨mt3 _ (List.mem_of_getElem? (i := 68) rfl), rfl⟩
theorem mw3_69 : (Jvm.Cond.methodLink "GongCycles$BronzeSet" (38 : Nat) ({ cls := "java/lang/Math", name := "max", desc := "(JJ)J" } : Jvm.MethodName)) ∈ gT := List.mem_filter.mpr ⟨mt3 _ (List.mem_of_getElem? (i := 69) rfl), rfl⟩
theorem mw3_70 : (Jvm.Cond.static ({ cls := "java/lang/Math", name := "max", desc := "(JJ)J" } : Jvm.MethodName)) ∈ gT := List.mem_filter.mpr ⟨mt3 _ (List.mem_of_getElem? (i := 70) rfl), rfl⟩
theorem mw3_71 : (Jvm.Cond.code ({ cls := "java/lang/Math", name := "max", desc := "(JJ)J" } : Jvm.MethodName) prog_14_method_66_code (4 : Nat) (Option.some Jvm.ClassFile.FieldType.long)) ∈ gT := List.mem_filter.mpr ⟨mt3 _ (List.mem_of_getElem? (i := 71) rfl), rfl⟩
theorem mw3_72 : (Jvm.Cond.methodLink "GongCyclesLaw" (166 : Nat) ({ cls := "GongCyclesLaw", name := "beat", desc := "(LGongCycles;III[J)I" } : Jvm.MethodName)) ∈ gT := List.mem_filter.mpr ⟨mt3 _ (List.mem_of_getElem? (i := 72) rfl), rfl⟩
theorem mw3_73 : (Jvm.Cond.static ({ cls := "GongCyclesLaw", name := "beat", desc := "(LGongCycles;III[J)I" } : Jvm.MethodName)) ∈ gT := List.mem_filter.mpr ⟨mt3 _ (List.mem_of_getElem? (i := 73) rfl), rfl⟩
theorem mw3_74 : (Jvm.Cond.codeWith ({ cls := "GongCyclesLaw", name := "beat", desc := "(LGongCycles;III[J)I" } : Jvm.MethodName) method_21_code (6 : Nat) (Option.some Jvm.ClassFile.FieldType.int) [((0 : Nat), (12 : Nat), (15 : Nat), (21 : Nat))]) ∈ gT := List.mem_filter.mpr ⟨mt3 _ (List.mem_of_getElem? (i := 74) rfl), rfl⟩
theorem mw3_75 : (Jvm.Cond.methodLink "GongCyclesLaw" (74 : Nat) ({ cls := "GongCycles", name := "beat", desc := "(III)I" } : Jvm.MethodName)) ∈ gT := List.mem_filter.mpr ⟨mt3 _ (List.mem_of_getElem? (i := 75) rfl), rfl⟩
theorem mw3_76 : (Jvm.Cond.instanceMethod ({ cls := "GongCycles", name := "beat", desc := "(III)I" } : Jvm.MethodName)) ∈ gT := List.mem_filter.mpr ⟨mt3 _ (List.mem_of_getElem? (i := 76) rfl), rfl⟩
theorem mw3_77 : (Jvm.Cond.selects "GongCycles" ({ cls := "GongCycles", name := "beat", desc := "(III)I" } : Jvm.MethodName) ({ cls := "GongCycles", name := "beat", desc := "(III)I" } : Jvm.MethodName)) ∈ gT := List.mem_filter.mpr ⟨mt3 _ (List.mem_of_getElem? (i := 77) rfl), rfl⟩
theorem mw3_78 : (Jvm.Cond.code ({ cls := "GongCycles", name := "beat", desc := "(III)I" } : Jvm.MethodName) prog_1_method_21_code (6 : Nat) (Option.some Jvm.ClassFile.FieldType.int)) ∈ gT := List.mem_filter.mpr ⟨mt3 _ (List.mem_of_getElem? (i := 78) rfl), rfl⟩
theorem mw3_79 : (Jvm.Cond.methodLink "GongCyclesLaw" (169 : Nat) ({ cls := "GongCyclesLaw", name := "player", desc := "(LGongCycles;I[J)I" } : Jvm.MethodName)) ∈ gT := List.mem_filter.mpr ⟨mt3 _ (List.mem_of_getElem? (i := 79) rfl), rfl⟩
theorem mw3_80 : (Jvm.Cond.static ({ cls := "GongCyclesLaw", name := "player", desc := "(LGongCycles;I[J)I" } : Jvm.MethodName)) ∈ gT := List.mem_filter.mpr ⟨mt3 _ (List.mem_of_getElem? (i := 80) rfl), rfl⟩
theorem mw3_81 : (Jvm.Cond.codeWith ({ cls := "GongCyclesLaw", name := "player", desc := "(LGongCycles;I[J)I" } : Jvm.MethodName) method_22_code (4 : Nat) (Option.some Jvm.ClassFile.FieldType.int) [((0 : Nat), (9 : Nat), (12 : Nat), (13 : Nat)), ((0 : Nat), (9 : Nat), (15 : Nat), (15 : Nat))]) ∈ gT := List.mem_filter.mpr ⟨mt3 _ (List.mem_of_getElem? (i := 81) rfl), rfl⟩
theorem mw3_82 : (Jvm.Cond.methodLink "GongCyclesLaw" (77 : Nat) ({ cls := "GongCycles", name := "player", desc := "(I)I" } : Jvm.MethodName)) ∈ gT := List.mem_filter.mpr ⟨mt3 _ (List.mem_of_getElem? (i := 82) rfl), rfl⟩
theorem mw3_83 : (Jvm.Cond.instanceMethod ({ cls := "GongCycles", name := "player", desc := "(I)I" } : Jvm.MethodName)) ∈ gT := List.mem_filter.mpr ⟨mt3 _ (List.mem_of_getElem? (i := 83) rfl), rfl⟩
theorem mw3_84 : (Jvm.Cond.selects "GongCycles" ({ cls := "GongCycles", name := "player", desc := "(I)I" } : Jvm.MethodName) ({ cls := "GongCycles", name := "player", desc := "(I)I" } : Jvm.MethodName)) ∈ gT := List.mem_filter.mpr ⟨mt3 _ (List.mem_of_getElem? (i := 84) rfl), rfl⟩
theorem mw3_85 : (Jvm.Cond.code ({ cls := "GongCycles", name := "player", desc := "(I)I" } : Jvm.MethodName) prog_1_method_22_code (2 : Nat) (Option.some Jvm.ClassFile.FieldType.int)) ∈ gT := List.mem_filter.mpr ⟨mt3 _ (List.mem_of_getElem? (i := 85) rfl), rfl⟩
theorem mw3_88 : (Jvm.Cond.instantiable "GongCycles$Player" (2 : Nat)) ∈ gT := List.mem_filter.mpr ⟨mt3 _ (List.mem_of_getElem? (i := 88) rfl), rfl⟩
theorem mw3_89 : (Jvm.Cond.methodLink "GongCycles" (218 : Nat) ({ cls := "GongCycles$Player", name := "<init>", desc := "(I)V" } : Jvm.MethodName)) ∈ gT := List.mem_filter.mpr ⟨mt3 _ (List.mem_of_getElem? (i := 89) rfl), rfl⟩
theorem mw3_90 : (Jvm.Cond.instanceMethod ({ cls := "GongCycles$Player", name := "<init>", desc := "(I)V" } : Jvm.MethodName)) ∈ gT := List.mem_filter.mpr ⟨mt3 _ (List.mem_of_getElem? (i := 90) rfl), rfl⟩
theorem mw3_91 : (Jvm.Cond.code ({ cls := "GongCycles$Player", name := "<init>", desc := "(I)V" } : Jvm.MethodName) prog_5_method_1_code (2 : Nat) (Option.none : Option Jvm.ClassFile.FieldType)) ∈ gT := List.mem_filter.mpr ⟨mt3 _ (List.mem_of_getElem? (i := 91) rfl), rfl⟩
theorem mw3_92 : (Jvm.Cond.methodLink "GongCycles$Player" (3 : Nat) ({ cls := "java/lang/Object", name := "<init>", desc := "()V" } : Jvm.MethodName)) ∈ gT := List.mem_filter.mpr ⟨mt3 _ (List.mem_of_getElem? (i := 92) rfl), rfl⟩
theorem mw3_93 : (Jvm.Cond.classLink "GongCycles$Player" (9 : Nat) "GongCycles$Melody") ∈ gT := List.mem_filter.mpr ⟨mt3 _ (List.mem_of_getElem? (i := 93) rfl), rfl⟩
theorem mw3_95 : (Jvm.Cond.fieldLink "GongCycles$Player" (17 : Nat) "GongCycles$Player" "ableParts" "I") ∈ gT := List.mem_filter.mpr ⟨mt3 _ (List.mem_of_getElem? (i := 95) rfl), rfl⟩
theorem mw3_97 : (Jvm.Cond.fieldLink "GongCycles$Player" (11 : Nat) "GongCycles$Player" "versions" "[LGongCycles$Melody;") ∈ gT := List.mem_filter.mpr ⟨mt3 _ (List.mem_of_getElem? (i := 97) rfl), rfl⟩
theorem mw3_98 : (Jvm.Cond.laysFinal "GongCycles$Player" "GongCycles$Player" "ableParts" "I") ∈ gT := List.mem_filter.mpr ⟨mt3 _ (List.mem_of_getElem? (i := 98) rfl), rfl⟩
theorem mw3_100 : (Jvm.Cond.laysFinal "GongCycles$Player" "GongCycles$Player" "versions" "[LGongCycles$Melody;") ∈ gT := List.mem_filter.mpr ⟨mt3 _ (List.mem_of_getElem? (i := 100) rfl), rfl⟩
theorem mw3_103 : (Jvm.Cond.methodLink "GongCyclesLaw" (172 : Nat) ({ cls := "GongCyclesLaw", name := "learn", desc := "(LGongCycles;III[J)I" } : Jvm.MethodName)) ∈ gT := List.mem_filter.mpr ⟨mt3 _ (List.mem_of_getElem? (i := 103) rfl), rfl⟩
theorem mw3_104 : (Jvm.Cond.static ({ cls := "GongCyclesLaw", name := "learn", desc := "(LGongCycles;III[J)I" } : Jvm.MethodName)) ∈ gT := List.mem_filter.mpr ⟨mt3 _ (List.mem_of_getElem? (i := 104) rfl), rfl⟩
theorem mw3_105 : (Jvm.Cond.codeWith ({ cls := "GongCyclesLaw", name := "learn", desc := "(LGongCycles;III[J)I" } : Jvm.MethodName) method_23_code (6 : Nat) (Option.some Jvm.ClassFile.FieldType.int) [((0 : Nat), (12 : Nat), (15 : Nat), (21 : Nat)), ((0 : Nat), (12 : Nat), (19 : Nat), (13 : Nat)), ((0 : Nat), (12 : Nat), (23 : Nat), (15 : Nat))]) ∈ gT := List.mem_filter.mpr ⟨mt3 _ (List.mem_of_getElem? (i := 105) rfl), rfl⟩
theorem mw3_106 : (Jvm.Cond.methodLink "GongCyclesLaw" (80 : Nat) ({ cls := "GongCycles", name := "learn", desc := "(III)I" } : Jvm.MethodName)) ∈ gT := List.mem_filter.mpr ⟨mt3 _ (List.mem_of_getElem? (i := 106) rfl), rfl⟩
theorem mw3_107 : (Jvm.Cond.instanceMethod ({ cls := "GongCycles", name := "learn", desc := "(III)I" } : Jvm.MethodName)) ∈ gT := List.mem_filter.mpr ⟨mt3 _ (List.mem_of_getElem? (i := 107) rfl), rfl⟩
theorem mw3_108 : (Jvm.Cond.selects "GongCycles" ({ cls := "GongCycles", name := "learn", desc := "(III)I" } : Jvm.MethodName) ({ cls := "GongCycles", name := "learn", desc := "(III)I" } : Jvm.MethodName)) ∈ gT := List.mem_filter.mpr ⟨mt3 _ (List.mem_of_getElem? (i := 108) rfl), rfl⟩
theorem mw3_109 : (Jvm.Cond.code ({ cls := "GongCycles", name := "learn", desc := "(III)I" } : Jvm.MethodName) prog_1_method_23_code (6 : Nat) (Option.some Jvm.ClassFile.FieldType.int)) ∈ gT := List.mem_filter.mpr ⟨mt3 _ (List.mem_of_getElem? (i := 109) rfl), rfl⟩
theorem mw3_110 : (Jvm.Cond.methodLink "GongCycles" (219 : Nat) ({ cls := "GongCycles", name := "playerAt", desc := "(I)LGongCycles$Player;" } : Jvm.MethodName)) ∈ gT := List.mem_filter.mpr ⟨mt3 _ (List.mem_of_getElem? (i := 110) rfl), rfl⟩
theorem mw3_112 : (Jvm.Cond.instanceMethod ({ cls := "GongCycles", name := "playerAt", desc := "(I)LGongCycles$Player;" } : Jvm.MethodName)) ∈ gT := List.mem_filter.mpr ⟨mt3 _ (List.mem_of_getElem? (i := 112) rfl), rfl⟩
theorem mw3_113 : (Jvm.Cond.code ({ cls := "GongCycles", name := "playerAt", desc := "(I)LGongCycles$Player;" } : Jvm.MethodName) prog_1_method_30_code (3 : Nat) (Option.some (Jvm.ClassFile.FieldType.object "GongCycles$Player"))) ∈ gT := List.mem_filter.mpr ⟨mt3 _ (List.mem_of_getElem? (i := 113) rfl), rfl⟩
theorem mw3_115 : (Jvm.Cond.methodLink "GongCycles" (223 : Nat) ({ cls := "GongCycles", name := "melodyOf", desc := "(II)LGongCycles$Melody;" } : Jvm.MethodName)) ∈ gT := List.mem_filter.mpr ⟨mt3 _ (List.mem_of_getElem? (i := 115) rfl), rfl⟩
theorem mw3_117 : (Jvm.Cond.instanceMethod ({ cls := "GongCycles", name := "melodyOf", desc := "(II)LGongCycles$Melody;" } : Jvm.MethodName)) ∈ gT := List.mem_filter.mpr ⟨mt3 _ (List.mem_of_getElem? (i := 117) rfl), rfl⟩
theorem mw3_118 : (Jvm.Cond.code ({ cls := "GongCycles", name := "melodyOf", desc := "(II)LGongCycles$Melody;" } : Jvm.MethodName) prog_1_method_31_code (4 : Nat) (Option.some (Jvm.ClassFile.FieldType.object "GongCycles$Melody"))) ∈ gT := List.mem_filter.mpr ⟨mt3 _ (List.mem_of_getElem? (i := 118) rfl), rfl⟩
theorem mw3_119 : (Jvm.Cond.methodLink "GongCycles" (238 : Nat) ({ cls := "GongCycles$Player", name := "versionOf", desc := "(I)LGongCycles$Melody;" } : Jvm.MethodName)) ∈ gT := List.mem_filter.mpr ⟨mt3 _ (List.mem_of_getElem? (i := 119) rfl), rfl⟩
theorem mw3_120 : (Jvm.Cond.instanceMethod ({ cls := "GongCycles$Player", name := "versionOf", desc := "(I)LGongCycles$Melody;" } : Jvm.MethodName)) ∈ gT := List.mem_filter.mpr ⟨mt3 _ (List.mem_of_getElem? (i := 120) rfl), rfl⟩
theorem mw3_121 : (Jvm.Cond.selects "GongCycles$Player" ({ cls := "GongCycles$Player", name := "versionOf", desc := "(I)LGongCycles$Melody;" } : Jvm.MethodName) ({ cls := "GongCycles$Player", name := "versionOf", desc := "(I)LGongCycles$Melody;" } : Jvm.MethodName)) ∈ gT := List.mem_filter.mpr ⟨mt3 _ (List.mem_of_getElem? (i := 121) rfl), rfl⟩
theorem mw3_122 : (Jvm.Cond.code ({ cls := "GongCycles$Player", name := "versionOf", desc := "(I)LGongCycles$Melody;" } : Jvm.MethodName) prog_5_method_2_code (2 : Nat) (Option.some (Jvm.ClassFile.FieldType.object "GongCycles$Melody"))) ∈ gT := List.mem_filter.mpr ⟨mt3 _ (List.mem_of_getElem? (i := 122) rfl), rfl⟩
theorem mw3_125 : (Jvm.Cond.methodLink "GongCycles" (231 : Nat) ({ cls := "GongCycles$Player", name := "takeVersion", desc := "(ILGongCycles$Melody;)V" } : Jvm.MethodName)) ∈ gT := List.mem_filter.mpr ⟨mt3 _ (List.mem_of_getElem? (i := 125) rfl), rfl⟩
theorem mw3_126 : (Jvm.Cond.instanceMethod ({ cls := "GongCycles$Player", name := "takeVersion", desc := "(ILGongCycles$Melody;)V" } : Jvm.MethodName)) ∈ gT := List.mem_filter.mpr ⟨mt3 _ (List.mem_of_getElem? (i := 126) rfl), rfl⟩
theorem mw3_127 : (Jvm.Cond.selects "GongCycles$Player" ({ cls := "GongCycles$Player", name := "takeVersion", desc := "(ILGongCycles$Melody;)V" } : Jvm.MethodName) ({ cls := "GongCycles$Player", name := "takeVersion", desc := "(ILGongCycles$Melody;)V" } : Jvm.MethodName)) ∈ gT := List.mem_filter.mpr ⟨mt3 _ (List.mem_of_getElem? (i := 127) rfl), rfl⟩
theorem mw3_128 : (Jvm.Cond.code ({ cls := "GongCycles$Player", name := "takeVersion", desc := "(ILGongCycles$Melody;)V" } : Jvm.MethodName) prog_5_method_3_code (4 : Nat) (Option.none : Option Jvm.ClassFile.FieldType)) ∈ gT := List.mem_filter.mpr ⟨mt3 _ (List.mem_of_getElem? (i := 128) rfl), rfl⟩
theorem mw3_129 : (Jvm.Cond.methodLink "GongCycles$Player" (21 : Nat) ({ cls := "GongCycles$Player", name := "versionOf", desc := "(I)LGongCycles$Melody;" } : Jvm.MethodName)) ∈ gT := List.mem_filter.mpr ⟨mt3 _ (List.mem_of_getElem? (i := 129) rfl), rfl⟩
theorem mw3_130 : (Jvm.Cond.methodLink "GongCycles$Player" (25 : Nat) ({ cls := "GongCycles$Melody", name := "length", desc := "()I" } : Jvm.MethodName)) ∈ gT := List.mem_filter.mpr ⟨mt3 _ (List.mem_of_getElem? (i := 130) rfl), rfl⟩
theorem mw3_131 : (Jvm.Cond.methodLink "GongCycles$Player" (29 : Nat) ({ cls := "GongCycles$Melody", name := "<init>", desc := "(I)V" } : Jvm.MethodName)) ∈ gT := List.mem_filter.mpr ⟨mt3 _ (List.mem_of_getElem? (i := 131) rfl), rfl⟩
theorem mw3_132 : (Jvm.Cond.methodLink "GongCycles$Player" (32 : Nat) ({ cls := "GongCycles$Melody", name := "takeFrom", desc := "(LGongCycles$Melody;)V" } : Jvm.MethodName)) ∈ gT := List.mem_filter.mpr ⟨mt3 _ (List.mem_of_getElem? (i := 132) rfl), rfl⟩
theorem mw3_133 : (Jvm.Cond.instanceMethod ({ cls := "GongCycles$Melody", name := "takeFrom", desc := "(LGongCycles$Melody;)V" } : Jvm.MethodName)) ∈ gT := List.mem_filter.mpr ⟨mt3 _ (List.mem_of_getElem? (i := 133) rfl), rfl⟩
theorem mw3_134 : (Jvm.Cond.selects "GongCycles$Melody" ({ cls := "GongCycles$Melody", name := "takeFrom", desc := "(LGongCycles$Melody;)V" } : Jvm.MethodName) ({ cls := "GongCycles$Melody", name := "takeFrom", desc := "(LGongCycles$Melody;)V" } : Jvm.MethodName)) ∈ gT := List.mem_filter.mpr ⟨mt3 _ (List.mem_of_getElem? (i := 134) rfl), rfl⟩
theorem mw3_135 : (Jvm.Cond.code ({ cls := "GongCycles$Melody", name := "takeFrom", desc := "(LGongCycles$Melody;)V" } : Jvm.MethodName) prog_3_method_7_code (3 : Nat) (Option.none : Option Jvm.ClassFile.FieldType)) ∈ gT := List.mem_filter.mpr ⟨mt3 _ (List.mem_of_getElem? (i := 135) rfl), rfl⟩
theorem mw3_136 : (Jvm.Cond.methodLink "GongCycles$Melody" (27 : Nat) ({ cls := "GongCycles$Melody", name := "put", desc := "(II)I" } : Jvm.MethodName)) ∈ gT := List.mem_filter.mpr ⟨mt3 _ (List.mem_of_getElem? (i := 136) rfl), rfl⟩
theorem mw3_137 : (Jvm.Cond.methodLink "GongCycles" (235 : Nat) ({ cls := "GongCycles", name := "knowersOf", desc := "(I)I" } : Jvm.MethodName)) ∈ gT := List.mem_filter.mpr ⟨mt3 _ (List.mem_of_getElem? (i := 137) rfl), rfl⟩
theorem mw3_139 : (Jvm.Cond.instanceMethod ({ cls := "GongCycles", name := "knowersOf", desc := "(I)I" } : Jvm.MethodName)) ∈ gT := List.mem_filter.mpr ⟨mt3 _ (List.mem_of_getElem? (i := 139) rfl), rfl⟩
theorem mw3_140 : (Jvm.Cond.code ({ cls := "GongCycles", name := "knowersOf", desc := "(I)I" } : Jvm.MethodName) prog_1_method_32_code (4 : Nat) (Option.some Jvm.ClassFile.FieldType.int)) ∈ gT := List.mem_filter.mpr ⟨mt3 _ (List.mem_of_getElem? (i := 140) rfl), rfl⟩
theorem mw3_141 : (Jvm.Cond.methodLink "GongCyclesLaw" (175 : Nat) ({ cls := "GongCyclesLaw", name := "slip", desc := "(LGongCycles;IIII[J)I" } : Jvm.MethodName)) ∈ gT := List.mem_filter.mpr ⟨mt3 _ (List.mem_of_getElem? (i := 141) rfl), rfl⟩
theorem mw3_142 : (Jvm.Cond.static ({ cls := "GongCyclesLaw", name := "slip", desc := "(LGongCycles;IIII[J)I" } : Jvm.MethodName)) ∈ gT := List.mem_filter.mpr ⟨mt3 _ (List.mem_of_getElem? (i := 142) rfl), rfl⟩
theorem mw3_143 : (Jvm.Cond.codeWith ({ cls := "GongCyclesLaw", name := "slip", desc := "(LGongCycles;IIII[J)I" } : Jvm.MethodName) method_24_code (7 : Nat) (Option.some Jvm.ClassFile.FieldType.int) [((0 : Nat), (14 : Nat), (17 : Nat), (21 : Nat)), ((0 : Nat), (14 : Nat), (21 : Nat), (13 : Nat)), ((0 : Nat), (14 : Nat), (25 : Nat), (15 : Nat))]) ∈ gT := List.mem_filter.mpr ⟨mt3 _ (List.mem_of_getElem? (i := 143) rfl), rfl⟩
theorem mw3_144 : (Jvm.Cond.methodLink "GongCyclesLaw" (83 : Nat) ({ cls := "GongCycles", name := "slip", desc := "(IIII)I" } : Jvm.MethodName)) ∈ gT := List.mem_filter.mpr ⟨mt3 _ (List.mem_of_getElem? (i := 144) rfl), rfl⟩
theorem mw3_145 : (Jvm.Cond.instanceMethod ({ cls := "GongCycles", name := "slip", desc := "(IIII)I" } : Jvm.MethodName)) ∈ gT := List.mem_filter.mpr ⟨mt3 _ (List.mem_of_getElem? (i := 145) rfl), rfl⟩
theorem mw3_146 : (Jvm.Cond.selects "GongCycles" ({ cls := "GongCycles", name := "slip", desc := "(IIII)I" } : Jvm.MethodName) ({ cls := "GongCycles", name := "slip", desc := "(IIII)I" } : Jvm.MethodName)) ∈ gT := List.mem_filter.mpr ⟨mt3 _ (List.mem_of_getElem? (i := 146) rfl), rfl⟩
theorem mw3_147 : (Jvm.Cond.code ({ cls := "GongCycles", name := "slip", desc := "(IIII)I" } : Jvm.MethodName) prog_1_method_24_code (7 : Nat) (Option.some Jvm.ClassFile.FieldType.int)) ∈ gT := List.mem_filter.mpr ⟨mt3 _ (List.mem_of_getElem? (i := 147) rfl), rfl⟩
theorem mw3_149 : (Jvm.Cond.methodLink "GongCyclesLaw" (179 : Nat) ({ cls := "GongCyclesLaw", name := "unlike", desc := "(LGongCycles;III[J)I" } : Jvm.MethodName)) ∈ gT := List.mem_filter.mpr ⟨mt3 _ (List.mem_of_getElem? (i := 149) rfl), rfl⟩
theorem mw3_150 : (Jvm.Cond.static ({ cls := "GongCyclesLaw", name := "unlike", desc := "(LGongCycles;III[J)I" } : Jvm.MethodName)) ∈ gT := List.mem_filter.mpr ⟨mt3 _ (List.mem_of_getElem? (i := 150) rfl), rfl⟩
theorem mw3_151 : (Jvm.Cond.codeWith ({ cls := "GongCyclesLaw", name := "unlike", desc := "(LGongCycles;III[J)I" } : Jvm.MethodName) method_25_code (6 : Nat) (Option.some Jvm.ClassFile.FieldType.int) [((0 : Nat), (12 : Nat), (15 : Nat), (21 : Nat))]) ∈ gT := List.mem_filter.mpr ⟨mt3 _ (List.mem_of_getElem? (i := 151) rfl), rfl⟩
theorem mw3_152 : (Jvm.Cond.methodLink "GongCyclesLaw" (87 : Nat) ({ cls := "GongCycles", name := "unlike", desc := "(III)I" } : Jvm.MethodName)) ∈ gT := List.mem_filter.mpr ⟨mt3 _ (List.mem_of_getElem? (i := 152) rfl), rfl⟩
theorem mw3_153 : (Jvm.Cond.instanceMethod ({ cls := "GongCycles", name := "unlike", desc := "(III)I" } : Jvm.MethodName)) ∈ gT := List.mem_filter.mpr ⟨mt3 _ (List.mem_of_getElem? (i := 153) rfl), rfl⟩
theorem mw3_154 : (Jvm.Cond.selects "GongCycles" ({ cls := "GongCycles", name := "unlike", desc := "(III)I" } : Jvm.MethodName) ({ cls := "GongCycles", name := "unlike", desc := "(III)I" } : Jvm.MethodName)) ∈ gT := List.mem_filter.mpr ⟨mt3 _ (List.mem_of_getElem? (i := 154) rfl), rfl⟩
theorem mw3_155 : (Jvm.Cond.code ({ cls := "GongCycles", name := "unlike", desc := "(III)I" } : Jvm.MethodName) prog_1_method_25_code (7 : Nat) (Option.some Jvm.ClassFile.FieldType.int)) ∈ gT := List.mem_filter.mpr ⟨mt3 _ (List.mem_of_getElem? (i := 155) rfl), rfl⟩
theorem mw3_156 : (Jvm.Cond.methodLink "GongCycles" (244 : Nat) ({ cls := "GongCycles$Melody", name := "placesUnlike", desc := "(LGongCycles$Melody;)I" } : Jvm.MethodName)) ∈ gT := List.mem_filter.mpr ⟨mt3 _ (List.mem_of_getElem? (i := 156) rfl), rfl⟩
theorem mw3_157 : (Jvm.Cond.instanceMethod ({ cls := "GongCycles$Melody", name := "placesUnlike", desc := "(LGongCycles$Melody;)I" } : Jvm.MethodName)) ∈ gT := List.mem_filter.mpr ⟨mt3 _ (List.mem_of_getElem? (i := 157) rfl), rfl⟩
theorem mw3_158 : (Jvm.Cond.selects "GongCycles$Melody" ({ cls := "GongCycles$Melody", name := "placesUnlike", desc := "(LGongCycles$Melody;)I" } : Jvm.MethodName) ({ cls := "GongCycles$Melody", name := "placesUnlike", desc := "(LGongCycles$Melody;)I" } : Jvm.MethodName)) ∈ gT := List.mem_filter.mpr ⟨mt3 _ (List.mem_of_getElem? (i := 158) rfl), rfl⟩
theorem mw3_159 : (Jvm.Cond.code ({ cls := "GongCycles$Melody", name := "placesUnlike", desc := "(LGongCycles$Melody;)I" } : Jvm.MethodName) prog_3_method_8_code (4 : Nat) (Option.some Jvm.ClassFile.FieldType.int)) ∈ gT := List.mem_filter.mpr ⟨mt3 _ (List.mem_of_getElem? (i := 159) rfl), rfl⟩
theorem mw3_160 : (Jvm.Cond.methodLink "GongCyclesLaw" (182 : Nat) ({ cls := "GongCyclesLaw", name := "covered", desc := "(LGongCycles;I[J)I" } : Jvm.MethodName)) ∈ gT := List.mem_filter.mpr ⟨mt3 _ (List.mem_of_getElem? (i := 160) rfl), rfl⟩
theorem mw3_161 : (Jvm.Cond.static ({ cls := "GongCyclesLaw", name := "covered", desc := "(LGongCycles;I[J)I" } : Jvm.MethodName)) ∈ gT := List.mem_filter.mpr ⟨mt3 _ (List.mem_of_getElem? (i := 161) rfl), rfl⟩
theorem mw3_162 : (Jvm.Cond.codeWith ({ cls := "GongCyclesLaw", name := "covered", desc := "(LGongCycles;I[J)I" } : Jvm.MethodName) method_26_code (4 : Nat) (Option.some Jvm.ClassFile.FieldType.int) [((0 : Nat), (9 : Nat), (12 : Nat), (21 : Nat))]) ∈ gT := List.mem_filter.mpr ⟨mt3 _ (List.mem_of_getElem? (i := 162) rfl), rfl⟩
theorem mw3_163 : (Jvm.Cond.methodLink "GongCyclesLaw" (90 : Nat) ({ cls := "GongCycles", name := "covered", desc := "(I)I" } : Jvm.MethodName)) ∈ gT := List.mem_filter.mpr ⟨mt3 _ (List.mem_of_getElem? (i := 163) rfl), rfl⟩
theorem mw3_164 : (Jvm.Cond.instanceMethod ({ cls := "GongCycles", name := "covered", desc := "(I)I" } : Jvm.MethodName)) ∈ gT := List.mem_filter.mpr ⟨mt3 _ (List.mem_of_getElem? (i := 164) rfl), rfl⟩
theorem mw3_165 : (Jvm.Cond.selects "GongCycles" ({ cls := "GongCycles", name := "covered", desc := "(I)I" } : Jvm.MethodName) ({ cls := "GongCycles", name := "covered", desc := "(I)I" } : Jvm.MethodName)) ∈ gT := List.mem_filter.mpr ⟨mt3 _ (List.mem_of_getElem? (i := 165) rfl), rfl⟩
theorem mw3_166 : (Jvm.Cond.code ({ cls := "GongCycles", name := "covered", desc := "(I)I" } : Jvm.MethodName) prog_1_method_26_code (5 : Nat) (Option.some Jvm.ClassFile.FieldType.int)) ∈ gT := List.mem_filter.mpr ⟨mt3 _ (List.mem_of_getElem? (i := 166) rfl), rfl⟩
theorem mw3_167 : (Jvm.Cond.methodLink "GongCycles" (251 : Nat) ({ cls := "GongCycles", name := "withOnePlayerMore", desc := "(II)I" } : Jvm.MethodName)) ∈ gT := List.mem_filter.mpr ⟨mt3 _ (List.mem_of_getElem? (i := 167) rfl), rfl⟩
theorem mw3_168 : (Jvm.Cond.static ({ cls := "GongCycles", name := "withOnePlayerMore", desc := "(II)I" } : Jvm.MethodName)) ∈ gT := List.mem_filter.mpr ⟨mt3 _ (List.mem_of_getElem? (i := 168) rfl), rfl⟩
theorem mw3_169 : (Jvm.Cond.code ({ cls := "GongCycles", name := "withOnePlayerMore", desc := "(II)I" } : Jvm.MethodName) prog_1_method_47_code (5 : Nat) (Option.some Jvm.ClassFile.FieldType.int)) ∈ gT := List.mem_filter.mpr ⟨mt3 _ (List.mem_of_getElem? (i := 169) rfl), rfl⟩
theorem mw3_170 : (Jvm.Cond.methodLink "GongCycles" (254 : Nat) ({ cls := "GongCycles", name := "mostParts", desc := "(I)I" } : Jvm.MethodName)) ∈ gT := List.mem_filter.mpr ⟨mt3 _ (List.mem_of_getElem? (i := 170) rfl), rfl⟩
theorem mw3_171 : (Jvm.Cond.static ({ cls := "GongCycles", name := "mostParts", desc := "(I)I" } : Jvm.MethodName)) ∈ gT := List.mem_filter.mpr ⟨mt3 _ (List.mem_of_getElem? (i := 171) rfl), rfl⟩
theorem mw3_172 : (Jvm.Cond.code ({ cls := "GongCycles", name := "mostParts", desc := "(I)I" } : Jvm.MethodName) prog_1_method_48_code (3 : Nat) (Option.some Jvm.ClassFile.FieldType.int)) ∈ gT := List.mem_filter.mpr ⟨mt3 _ (List.mem_of_getElem? (i := 172) rfl), rfl⟩
theorem mw3_173 : (Jvm.Cond.methodLink "GongCycles" (310 : Nat) ({ cls := "java/lang/Integer", name := "bitCount", desc := "(I)I" } : Jvm.MethodName)) ∈ gT := List.mem_filter.mpr ⟨mt3 _ (List.mem_of_getElem? (i := 173) rfl), rfl⟩
theorem mw3_174 : (Jvm.Cond.static ({ cls := "java/lang/Integer", name := "bitCount", desc := "(I)I" } : Jvm.MethodName)) ∈ gT := List.mem_filter.mpr ⟨mt3 _ (List.mem_of_getElem? (i := 174) rfl), rfl⟩
theorem mw3_175 : (Jvm.Cond.code ({ cls := "java/lang/Integer", name := "bitCount", desc := "(I)I" } : Jvm.MethodName) prog_13_method_49_code (1 : Nat) (Option.some Jvm.ClassFile.FieldType.int)) ∈ gT := List.mem_filter.mpr ⟨mt3 _ (List.mem_of_getElem? (i := 175) rfl), rfl⟩
theorem mw3_176 : (Jvm.Cond.constant "java/lang/Integer" (265 : Nat) (1431655765 : Int32)) ∈ gT := List.mem_filter.mpr ⟨mt3 _ (List.mem_of_getElem? (i := 176) rfl), rfl⟩
theorem mw3_177 : (Jvm.Cond.constant "java/lang/Integer" (266 : Nat) (858993459 : Int32)) ∈ gT := List.mem_filter.mpr ⟨mt3 _ (List.mem_of_getElem? (i := 177) rfl), rfl⟩
theorem mw3_178 : (Jvm.Cond.constant "java/lang/Integer" (267 : Nat) (252645135 : Int32)) ∈ gT := List.mem_filter.mpr ⟨mt3 _ (List.mem_of_getElem? (i := 178) rfl), rfl⟩
theorem mw3_179 : (Jvm.Cond.methodLink "GongCycles" (315 : Nat) ({ cls := "java/lang/Math", name := "max", desc := "(II)I" } : Jvm.MethodName)) ∈ gT := List.mem_filter.mpr ⟨mt3 _ (List.mem_of_getElem? (i := 179) rfl), rfl⟩
theorem mw3_180 : (Jvm.Cond.classLink "GongCyclesLaw" (94 : Nat) "GongCyclesModel") ∈ gT := List.mem_filter.mpr ⟨mt3 _ (List.mem_of_getElem? (i := 180) rfl), rfl⟩
theorem mw3_181 : (Jvm.Cond.instantiable "GongCyclesModel" (26 : Nat)) ∈ gT := List.mem_filter.mpr ⟨mt3 _ (List.mem_of_getElem? (i := 181) rfl), rfl⟩
theorem mw3_182 : (Jvm.Cond.methodLink "GongCyclesLaw" (96 : Nat) ({ cls := "GongCyclesModel", name := "<init>", desc := "()V" } : Jvm.MethodName)) ∈ gT := List.mem_filter.mpr ⟨mt3 _ (List.mem_of_getElem? (i := 182) rfl), rfl⟩
theorem mw3_183 : (Jvm.Cond.instanceMethod ({ cls := "GongCyclesModel", name := "<init>", desc := "()V" } : Jvm.MethodName)) ∈ gT := List.mem_filter.mpr ⟨mt3 _ (List.mem_of_getElem? (i := 183) rfl), rfl⟩
theorem mw3_184 : (Jvm.Cond.code ({ cls := "GongCyclesModel", name := "<init>", desc := "()V" } : Jvm.MethodName) prog_8_method_1_code (2 : Nat) (Option.none : Option Jvm.ClassFile.FieldType)) ∈ gT := List.mem_filter.mpr ⟨mt3 _ (List.mem_of_getElem? (i := 184) rfl), rfl⟩
theorem mw3_185 : (Jvm.Cond.methodLink "GongCyclesModel" (1 : Nat) ({ cls := "java/lang/Object", name := "<init>", desc := "()V" } : Jvm.MethodName)) ∈ gT := List.mem_filter.mpr ⟨mt3 _ (List.mem_of_getElem? (i := 185) rfl), rfl⟩
theorem mw3_186 : (Jvm.Cond.constant "GongCyclesModel" (46 : Nat) (44000 : Int32)) ∈ gT := List.mem_filter.mpr ⟨mt3 _ (List.mem_of_getElem? (i := 186) rfl), rfl⟩
theorem mw3_187 : (Jvm.Cond.fieldLink "GongCyclesModel" (7 : Nat) "GongCyclesModel" "lengths" "[I") ∈ gT := List.mem_filter.mpr ⟨mt3 _ (List.mem_of_getElem? (i := 187) rfl), rfl⟩
theorem mw3_188 : (Jvm.Cond.fieldLink "GongCyclesModel" (50 : Nat) "GongCyclesModel" "forms" "I") ∈ gT := List.mem_filter.mpr ⟨mt3 _ (List.mem_of_getElem? (i := 188) rfl), rfl⟩
theorem mw3_189 : (Jvm.Cond.fieldLink "GongCyclesModel" (13 : Nat) "GongCyclesModel" "formOf" "[I") ∈ gT := List.mem_filter.mpr ⟨mt3 _ (List.mem_of_getElem? (i := 189) rfl), rfl⟩
theorem mw3_190 : (Jvm.Cond.fieldLink "GongCyclesModel" (16 : Nat) "GongCyclesModel" "forbidden" "[I") ∈ gT := List.mem_filter.mpr ⟨mt3 _ (List.mem_of_getElem? (i := 190) rfl), rfl⟩
theorem mw3_191 : (Jvm.Cond.fieldLink "GongCyclesModel" (19 : Nat) "GongCyclesModel" "tones" "[I") ∈ gT := List.mem_filter.mpr ⟨mt3 _ (List.mem_of_getElem? (i := 191) rfl), rfl⟩
theorem mw3_192 : (Jvm.Cond.fieldLink "GongCyclesModel" (57 : Nat) "GongCyclesModel" "pieces" "I") ∈ gT := List.mem_filter.mpr ⟨mt3 _ (List.mem_of_getElem? (i := 192) rfl), rfl⟩
theorem mw3_193 : (Jvm.Cond.fieldLink "GongCyclesModel" (102 : Nat) "GongCyclesModel" "isPlayed" "Z") ∈ gT := List.mem_filter.mpr ⟨mt3 _ (List.mem_of_getElem? (i := 193) rfl), rfl⟩
theorem mw3_194 : (Jvm.Cond.fieldLink "GongCyclesModel" (22 : Nat) "GongCyclesModel" "current" "I") ∈ gT := List.mem_filter.mpr ⟨mt3 _ (List.mem_of_getElem? (i := 194) rfl), rfl⟩
theorem mw3_195 : (Jvm.Cond.fieldLink "GongCyclesModel" (109 : Nat) "GongCyclesModel" "place" "I") ∈ gT := List.mem_filter.mpr ⟨mt3 _ (List.mem_of_getElem? (i := 195) rfl), rfl⟩
theorem mw3_196 : (Jvm.Cond.fieldLink "GongCyclesModel" (112 : Nat) "GongCyclesModel" "beat" "I") ∈ gT := List.mem_filter.mpr ⟨mt3 _ (List.mem_of_getElem? (i := 196) rfl), rfl⟩
theorem mw3_197 : (Jvm.Cond.fieldLink "GongCyclesModel" (115 : Nat) "GongCyclesModel" "level" "I") ∈ gT := List.mem_filter.mpr ⟨mt3 _ (List.mem_of_getElem? (i := 197) rfl), rfl⟩
theorem mw3_198 : (Jvm.Cond.fieldLink "GongCyclesModel" (118 : Nat) "GongCyclesModel" "gongs" "I") ∈ gT := List.mem_filter.mpr ⟨mt3 _ (List.mem_of_getElem? (i := 198) rfl), rfl⟩
theorem mw3_199 : (Jvm.Cond.fieldLink "GongCyclesModel" (121 : Nat) "GongCyclesModel" "drums" "I") ∈ gT := List.mem_filter.mpr ⟨mt3 _ (List.mem_of_getElem? (i := 199) rfl), rfl⟩
theorem mw3_200 : (Jvm.Cond.fieldLink "GongCyclesModel" (124 : Nat) "GongCyclesModel" "ends" "I") ∈ gT := List.mem_filter.mpr ⟨mt3 _ (List.mem_of_getElem? (i := 200) rfl), rfl⟩
theorem mw3_201 : (Jvm.Cond.fieldLink "GongCyclesModel" (130 : Nat) "GongCyclesModel" "ticks" "J") ∈ gT := List.mem_filter.mpr ⟨mt3 _ (List.mem_of_getElem? (i := 201) rfl), rfl⟩
theorem mw3_202 : (Jvm.Cond.fieldLink "GongCyclesModel" (26 : Nat) "GongCyclesModel" "strokes" "[J") ∈ gT := List.mem_filter.mpr ⟨mt3 _ (List.mem_of_getElem? (i := 202) rfl), rfl⟩
theorem mw3_203 : (Jvm.Cond.fieldLink "GongCyclesModel" (127 : Nat) "GongCyclesModel" "begun" "I") ∈ gT := List.mem_filter.mpr ⟨mt3 _ (List.mem_of_getElem? (i := 203) rfl), rfl⟩
theorem mw3_204 : (Jvm.Cond.fieldLink "GongCyclesModel" (106 : Nat) "GongCyclesModel" "day" "I") ∈ gT := List.mem_filter.mpr ⟨mt3 _ (List.mem_of_getElem? (i := 204) rfl), rfl⟩
theorem mw3_205 : (Jvm.Cond.fieldLink "GongCyclesModel" (30 : Nat) "GongCyclesModel" "pitches" "[I") ∈ gT := List.mem_filter.mpr ⟨mt3 _ (List.mem_of_getElem? (i := 205) rfl), rfl⟩
theorem mw3_206 : (Jvm.Cond.fieldLink "GongCyclesModel" (33 : Nat) "GongCyclesModel" "drifts" "[I") ∈ gT := List.mem_filter.mpr ⟨mt3 _ (List.mem_of_getElem? (i := 206) rfl), rfl⟩
theorem mw3_207 : (Jvm.Cond.fieldLink "GongCyclesModel" (141 : Nat) "GongCyclesModel" "years" "I") ∈ gT := List.mem_filter.mpr ⟨mt3 _ (List.mem_of_getElem? (i := 207) rfl), rfl⟩
theorem mw3_208 : (Jvm.Cond.fieldLink "GongCyclesModel" (36 : Nat) "GongCyclesModel" "able" "[I") ∈ gT := List.mem_filter.mpr ⟨mt3 _ (List.mem_of_getElem? (i := 208) rfl), rfl⟩
theorem mw3_209 : (Jvm.Cond.fieldLink "GongCyclesModel" (39 : Nat) "GongCyclesModel" "knows" "[Z") ∈ gT := List.mem_filter.mpr ⟨mt3 _ (List.mem_of_getElem? (i := 209) rfl), rfl⟩
theorem mw3_210 : (Jvm.Cond.fieldLink "GongCyclesModel" (43 : Nat) "GongCyclesModel" "versions" "[I") ∈ gT := List.mem_filter.mpr ⟨mt3 _ (List.mem_of_getElem? (i := 210) rfl), rfl⟩
theorem mw3_211 : (Jvm.Cond.fieldLink "GongCyclesModel" (68 : Nat) "GongCyclesModel" "players" "I") ∈ gT := List.mem_filter.mpr ⟨mt3 _ (List.mem_of_getElem? (i := 211) rfl), rfl⟩
theorem mw3_212 : (Jvm.Cond.fieldLink "GongCyclesModel" (47 : Nat) "GongCyclesModel" "last" "I") ∈ gT := List.mem_filter.mpr ⟨mt3 _ (List.mem_of_getElem? (i := 212) rfl), rfl⟩
theorem mw3_213 : (Jvm.Cond.laysFinal "GongCyclesModel" "GongCyclesModel" "lengths" "[I") ∈ gT := List.mem_filter.mpr ⟨mt3 _ (List.mem_of_getElem? (i := 213) rfl), rfl⟩
theorem mw3_215 : (Jvm.Cond.lays "GongCyclesModel" "GongCyclesModel" "forms" "I") ∈ gT := List.mem_filter.mpr ⟨mt3 _ (List.mem_of_getElem? (i := 215) rfl), rfl⟩
theorem mw3_217 : (Jvm.Cond.laysFinal "GongCyclesModel" "GongCyclesModel" "formOf" "[I") ∈ gT := List.mem_filter.mpr ⟨mt3 _ (List.mem_of_getElem? (i := 217) rfl), rfl⟩
theorem mw3_219 : (Jvm.Cond.laysFinal "GongCyclesModel" "GongCyclesModel" "forbidden" "[I") ∈ gT := List.mem_filter.mpr ⟨mt3 _ (List.mem_of_getElem? (i := 219) rfl), rfl⟩
theorem mw3_221 : (Jvm.Cond.laysFinal "GongCyclesModel" "GongCyclesModel" "tones" "[I") ∈ gT := List.mem_filter.mpr ⟨mt3 _ (List.mem_of_getElem? (i := 221) rfl), rfl⟩
theorem mw3_223 : (Jvm.Cond.lays "GongCyclesModel" "GongCyclesModel" "pieces" "I") ∈ gT := List.mem_filter.mpr ⟨mt3 _ (List.mem_of_getElem? (i := 223) rfl), rfl⟩
theorem mw3_225 : (Jvm.Cond.lays "GongCyclesModel" "GongCyclesModel" "isPlayed" "Z") ∈ gT := List.mem_filter.mpr ⟨mt3 _ (List.mem_of_getElem? (i := 225) rfl), rfl⟩
theorem mw3_227 : (Jvm.Cond.lays "GongCyclesModel" "GongCyclesModel" "current" "I") ∈ gT := List.mem_filter.mpr ⟨mt3 _ (List.mem_of_getElem? (i := 227) rfl), rfl⟩
theorem mw3_229 : (Jvm.Cond.lays "GongCyclesModel" "GongCyclesModel" "place" "I") ∈ gT := List.mem_filter.mpr ⟨mt3 _ (List.mem_of_getElem? (i := 229) rfl), rfl⟩
theorem mw3_231 : (Jvm.Cond.lays "GongCyclesModel" "GongCyclesModel" "beat" "I") ∈ gT := List.mem_filter.mpr ⟨mt3 _ (List.mem_of_getElem? (i := 231) rfl), rfl⟩
theorem mw3_233 : (Jvm.Cond.lays "GongCyclesModel" "GongCyclesModel" "level" "I") ∈ gT := List.mem_filter.mpr ⟨mt3 _ (List.mem_of_getElem? (i := 233) rfl), rfl⟩
theorem mw3_235 : (Jvm.Cond.lays "GongCyclesModel" "GongCyclesModel" "gongs" "I") ∈ gT := List.mem_filter.mpr ⟨mt3 _ (List.mem_of_getElem? (i := 235) rfl), rfl⟩
theorem mw3_237 : (Jvm.Cond.lays "GongCyclesModel" "GongCyclesModel" "drums" "I") ∈ gT := List.mem_filter.mpr ⟨mt3 _ (List.mem_of_getElem? (i := 237) rfl), rfl⟩
theorem mw3_239 : (Jvm.Cond.lays "GongCyclesModel" "GongCyclesModel" "ends" "I") ∈ gT := List.mem_filter.mpr ⟨mt3 _ (List.mem_of_getElem? (i := 239) rfl), rfl⟩
theorem mw4_1 : (Jvm.Cond.lays "GongCyclesModel" "GongCyclesModel" "ticks" "J") ∈ gT := List.mem_filter.mpr ⟨mt4 _ (List.mem_of_getElem? (i := 1) rfl), rfl⟩
theorem mw4_3 : (Jvm.Cond.laysFinal "GongCyclesModel" "GongCyclesModel" "strokes" "[J") ∈ gT := List.mem_filter.mpr ⟨mt4 _ (List.mem_of_getElem? (i := 3) rfl), rfl⟩
theorem mw4_5 : (Jvm.Cond.lays "GongCyclesModel" "GongCyclesModel" "begun" "I") ∈ gT := List.mem_filter.mpr ⟨mt4 _ (List.mem_of_getElem? (i := 5) rfl), rfl⟩
theorem mw4_7 : (Jvm.Cond.lays "GongCyclesModel" "GongCyclesModel" "day" "I") ∈ gT := List.mem_filter.mpr ⟨mt4 _ (List.mem_of_getElem? (i := 7) rfl), rfl⟩
theorem mw4_9 : (Jvm.Cond.laysFinal "GongCyclesModel" "GongCyclesModel" "pitches" "[I") ∈ gT := List.mem_filter.mpr ⟨mt4 _ (List.mem_of_getElem? (i := 9) rfl), rfl⟩
theorem mw4_11 : (Jvm.Cond.laysFinal "GongCyclesModel" "GongCyclesModel" "drifts" "[I") ∈ gT := List.mem_filter.mpr ⟨mt4 _ (List.mem_of_getElem? (i := 11) rfl), rfl⟩
theorem mw4_13 : (Jvm.Cond.lays "GongCyclesModel" "GongCyclesModel" "years" "I") ∈ gT := List.mem_filter.mpr ⟨mt4 _ (List.mem_of_getElem? (i := 13) rfl), rfl⟩
theorem mw4_15 : (Jvm.Cond.laysFinal "GongCyclesModel" "GongCyclesModel" "able" "[I") ∈ gT := List.mem_filter.mpr ⟨mt4 _ (List.mem_of_getElem? (i := 15) rfl), rfl⟩
theorem mw4_17 : (Jvm.Cond.laysFinal "GongCyclesModel" "GongCyclesModel" "knows" "[Z") ∈ gT := List.mem_filter.mpr ⟨mt4 _ (List.mem_of_getElem? (i := 17) rfl), rfl⟩
theorem mw4_19 : (Jvm.Cond.laysFinal "GongCyclesModel" "GongCyclesModel" "versions" "[I") ∈ gT := List.mem_filter.mpr ⟨mt4 _ (List.mem_of_getElem? (i := 19) rfl), rfl⟩
theorem mw4_21 : (Jvm.Cond.lays "GongCyclesModel" "GongCyclesModel" "players" "I") ∈ gT := List.mem_filter.mpr ⟨mt4 _ (List.mem_of_getElem? (i := 21) rfl), rfl⟩
theorem mw4_23 : (Jvm.Cond.lays "GongCyclesModel" "GongCyclesModel" "last" "I") ∈ gT := List.mem_filter.mpr ⟨mt4 _ (List.mem_of_getElem? (i := 23) rfl), rfl⟩
theorem mw4_26 : (Jvm.Cond.arrayClass Jvm.ClassFile.FieldType.boolean) ∈ gT := List.mem_filter.mpr ⟨mt4 _ (List.mem_of_getElem? (i := 26) rfl), rfl⟩
theorem mw4_27 : (Jvm.Cond.methodLink "GongCyclesLaw" (103 : Nat) ({ cls := "GongCyclesModel", name := "thrown", desc := "()I" } : Jvm.MethodName)) ∈ gT := List.mem_filter.mpr ⟨mt4 _ (List.mem_of_getElem? (i := 27) rfl), rfl⟩
theorem mw4_28 : (Jvm.Cond.instanceMethod ({ cls := "GongCyclesModel", name := "thrown", desc := "()I" } : Jvm.MethodName)) ∈ gT := List.mem_filter.mpr ⟨mt4 _ (List.mem_of_getElem? (i := 28) rfl), rfl⟩
theorem mw4_29 : (Jvm.Cond.selects "GongCyclesModel" ({ cls := "GongCyclesModel", name := "thrown", desc := "()I" } : Jvm.MethodName) ({ cls := "GongCyclesModel", name := "thrown", desc := "()I" } : Jvm.MethodName)) ∈ gT := List.mem_filter.mpr ⟨mt4 _ (List.mem_of_getElem? (i := 29) rfl), rfl⟩
theorem mw4_30 : (Jvm.Cond.code ({ cls := "GongCyclesModel", name := "thrown", desc := "()I" } : Jvm.MethodName) prog_8_method_2_code (1 : Nat) (Option.some Jvm.ClassFile.FieldType.int)) ∈ gT := List.mem_filter.mpr ⟨mt4 _ (List.mem_of_getElem? (i := 30) rfl), rfl⟩
theorem mw4_31 : (Jvm.Cond.methodLink "GongCyclesLaw" (102 : Nat) ({ cls := "GongCyclesModel", name := "form", desc := "(I)I" } : Jvm.MethodName)) ∈ gT := List.mem_filter.mpr ⟨mt4 _ (List.mem_of_getElem? (i := 31) rfl), rfl⟩
theorem mw4_32 : (Jvm.Cond.instanceMethod ({ cls := "GongCyclesModel", name := "form", desc := "(I)I" } : Jvm.MethodName)) ∈ gT := List.mem_filter.mpr ⟨mt4 _ (List.mem_of_getElem? (i := 32) rfl), rfl⟩
theorem mw4_33 : (Jvm.Cond.selects "GongCyclesModel" ({ cls := "GongCyclesModel", name := "form", desc := "(I)I" } : Jvm.MethodName) ({ cls := "GongCyclesModel", name := "form", desc := "(I)I" } : Jvm.MethodName)) ∈ gT := List.mem_filter.mpr ⟨mt4 _ (List.mem_of_getElem? (i := 33) rfl), rfl⟩
theorem mw4_34 : (Jvm.Cond.code ({ cls := "GongCyclesModel", name := "form", desc := "(I)I" } : Jvm.MethodName) prog_8_method_12_code (2 : Nat) (Option.some Jvm.ClassFile.FieldType.int)) ∈ gT := List.mem_filter.mpr ⟨mt4 _ (List.mem_of_getElem? (i := 34) rfl), rfl⟩
theorem mw4_35 : (Jvm.Cond.methodLink "GongCyclesModel" (53 : Nat) ({ cls := "GongCyclesModel", name := "in", desc := "(III)Z" } : Jvm.MethodName)) ∈ gT := List.mem_filter.mpr ⟨mt4 _ (List.mem_of_getElem? (i := 35) rfl), rfl⟩
theorem mw4_36 : (Jvm.Cond.static ({ cls := "GongCyclesModel", name := "in", desc := "(III)Z" } : Jvm.MethodName)) ∈ gT := List.mem_filter.mpr ⟨mt4 _ (List.mem_of_getElem? (i := 36) rfl), rfl⟩
theorem mw4_37 : (Jvm.Cond.code ({ cls := "GongCyclesModel", name := "in", desc := "(III)Z" } : Jvm.MethodName) prog_8_method_3_code (3 : Nat) (Option.some Jvm.ClassFile.FieldType.boolean)) ∈ gT := List.mem_filter.mpr ⟨mt4 _ (List.mem_of_getElem? (i := 37) rfl), rfl⟩
theorem mw4_38 : (Jvm.Cond.methodLink "GongCyclesModel" (71 : Nat) ({ cls := "GongCyclesModel", name := "goes", desc := "(ZZZ)Z" } : Jvm.MethodName)) ∈ gT := List.mem_filter.mpr ⟨mt4 _ (List.mem_of_getElem? (i := 38) rfl), rfl⟩
theorem mw4_40 : (Jvm.Cond.instanceMethod ({ cls := "GongCyclesModel", name := "goes", desc := "(ZZZ)Z" } : Jvm.MethodName)) ∈ gT := List.mem_filter.mpr ⟨mt4 _ (List.mem_of_getElem? (i := 40) rfl), rfl⟩
theorem mw4_41 : (Jvm.Cond.code ({ cls := "GongCyclesModel", name := "goes", desc := "(ZZZ)Z" } : Jvm.MethodName) prog_8_method_4_code (4 : Nat) (Option.some Jvm.ClassFile.FieldType.boolean)) ∈ gT := List.mem_filter.mpr ⟨mt4 _ (List.mem_of_getElem? (i := 41) rfl), rfl⟩
theorem mw4_42 : (Jvm.Cond.methodLink "GongCyclesLaw" (110 : Nat) ({ cls := "GongCyclesModel", name := "depth", desc := "(II)I" } : Jvm.MethodName)) ∈ gT := List.mem_filter.mpr ⟨mt4 _ (List.mem_of_getElem? (i := 42) rfl), rfl⟩
theorem mw4_43 : (Jvm.Cond.instanceMethod ({ cls := "GongCyclesModel", name := "depth", desc := "(II)I" } : Jvm.MethodName)) ∈ gT := List.mem_filter.mpr ⟨mt4 _ (List.mem_of_getElem? (i := 43) rfl), rfl⟩
theorem mw4_44 : (Jvm.Cond.selects "GongCyclesModel" ({ cls := "GongCyclesModel", name := "depth", desc := "(II)I" } : Jvm.MethodName) ({ cls := "GongCyclesModel", name := "depth", desc := "(II)I" } : Jvm.MethodName)) ∈ gT := List.mem_filter.mpr ⟨mt4 _ (List.mem_of_getElem? (i := 44) rfl), rfl⟩
theorem mw4_45 : (Jvm.Cond.code ({ cls := "GongCyclesModel", name := "depth", desc := "(II)I" } : Jvm.MethodName) prog_8_method_13_code (5 : Nat) (Option.some Jvm.ClassFile.FieldType.int)) ∈ gT := List.mem_filter.mpr ⟨mt4 _ (List.mem_of_getElem? (i := 45) rfl), rfl⟩
theorem mw4_46 : (Jvm.Cond.methodLink "GongCyclesModel" (75 : Nat) ({ cls := "GongCyclesModel", name := "isForm", desc := "(I)Z" } : Jvm.MethodName)) ∈ gT := List.mem_filter.mpr ⟨mt4 _ (List.mem_of_getElem? (i := 46) rfl), rfl⟩
theorem mw4_48 : (Jvm.Cond.instanceMethod ({ cls := "GongCyclesModel", name := "isForm", desc := "(I)Z" } : Jvm.MethodName)) ∈ gT := List.mem_filter.mpr ⟨mt4 _ (List.mem_of_getElem? (i := 48) rfl), rfl⟩
theorem mw4_49 : (Jvm.Cond.code ({ cls := "GongCyclesModel", name := "isForm", desc := "(I)Z" } : Jvm.MethodName) prog_8_method_5_code (2 : Nat) (Option.some Jvm.ClassFile.FieldType.boolean)) ∈ gT := List.mem_filter.mpr ⟨mt4 _ (List.mem_of_getElem? (i := 49) rfl), rfl⟩
theorem mw4_50 : (Jvm.Cond.methodLink "GongCyclesLaw" (113 : Nat) ({ cls := "GongCyclesModel", name := "piece", desc := "(I)I" } : Jvm.MethodName)) ∈ gT := List.mem_filter.mpr ⟨mt4 _ (List.mem_of_getElem? (i := 50) rfl), rfl⟩
theorem mw4_51 : (Jvm.Cond.instanceMethod ({ cls := "GongCyclesModel", name := "piece", desc := "(I)I" } : Jvm.MethodName)) ∈ gT := List.mem_filter.mpr ⟨mt4 _ (List.mem_of_getElem? (i := 51) rfl), rfl⟩
theorem mw4_52 : (Jvm.Cond.selects "GongCyclesModel" ({ cls := "GongCyclesModel", name := "piece", desc := "(I)I" } : Jvm.MethodName) ({ cls := "GongCyclesModel", name := "piece", desc := "(I)I" } : Jvm.MethodName)) ∈ gT := List.mem_filter.mpr ⟨mt4 _ (List.mem_of_getElem? (i := 52) rfl), rfl⟩
theorem mw4_53 : (Jvm.Cond.code ({ cls := "GongCyclesModel", name := "piece", desc := "(I)I" } : Jvm.MethodName) prog_8_method_14_code (2 : Nat) (Option.some Jvm.ClassFile.FieldType.int)) ∈ gT := List.mem_filter.mpr ⟨mt4 _ (List.mem_of_getElem? (i := 53) rfl), rfl⟩
theorem mw4_54 : (Jvm.Cond.methodLink "GongCyclesLaw" (117 : Nat) ({ cls := "GongCyclesModel", name := "tone", desc := "(III)I" } : Jvm.MethodName)) ∈ gT := List.mem_filter.mpr ⟨mt4 _ (List.mem_of_getElem? (i := 54) rfl), rfl⟩
theorem mw4_55 : (Jvm.Cond.instanceMethod ({ cls := "GongCyclesModel", name := "tone", desc := "(III)I" } : Jvm.MethodName)) ∈ gT := List.mem_filter.mpr ⟨mt4 _ (List.mem_of_getElem? (i := 55) rfl), rfl⟩
theorem mw4_56 : (Jvm.Cond.selects "GongCyclesModel" ({ cls := "GongCyclesModel", name := "tone", desc := "(III)I" } : Jvm.MethodName) ({ cls := "GongCyclesModel", name := "tone", desc := "(III)I" } : Jvm.MethodName)) ∈ gT := List.mem_filter.mpr ⟨mt4 _ (List.mem_of_getElem? (i := 56) rfl), rfl⟩
theorem mw4_57 : (Jvm.Cond.code ({ cls := "GongCyclesModel", name := "tone", desc := "(III)I" } : Jvm.MethodName) prog_8_method_15_code (5 : Nat) (Option.some Jvm.ClassFile.FieldType.int)) ∈ gT := List.mem_filter.mpr ⟨mt4 _ (List.mem_of_getElem? (i := 57) rfl), rfl⟩
theorem mw4_58 : (Jvm.Cond.methodLink "GongCyclesModel" (78 : Nat) ({ cls := "GongCyclesModel", name := "isPlace", desc := "(II)Z" } : Jvm.MethodName)) ∈ gT := List.mem_filter.mpr ⟨mt4 _ (List.mem_of_getElem? (i := 58) rfl), rfl⟩
theorem mw4_60 : (Jvm.Cond.instanceMethod ({ cls := "GongCyclesModel", name := "isPlace", desc := "(II)Z" } : Jvm.MethodName)) ∈ gT := List.mem_filter.mpr ⟨mt4 _ (List.mem_of_getElem? (i := 60) rfl), rfl⟩
theorem mw4_61 : (Jvm.Cond.code ({ cls := "GongCyclesModel", name := "isPlace", desc := "(II)Z" } : Jvm.MethodName) prog_8_method_8_code (3 : Nat) (Option.some Jvm.ClassFile.FieldType.boolean)) ∈ gT := List.mem_filter.mpr ⟨mt4 _ (List.mem_of_getElem? (i := 61) rfl), rfl⟩
theorem mw4_62 : (Jvm.Cond.methodLink "GongCyclesModel" (60 : Nat) ({ cls := "GongCyclesModel", name := "isPiece", desc := "(I)Z" } : Jvm.MethodName)) ∈ gT := List.mem_filter.mpr ⟨mt4 _ (List.mem_of_getElem? (i := 62) rfl), rfl⟩
theorem mw4_64 : (Jvm.Cond.instanceMethod ({ cls := "GongCyclesModel", name := "isPiece", desc := "(I)Z" } : Jvm.MethodName)) ∈ gT := List.mem_filter.mpr ⟨mt4 _ (List.mem_of_getElem? (i := 64) rfl), rfl⟩
theorem mw4_65 : (Jvm.Cond.code ({ cls := "GongCyclesModel", name := "isPiece", desc := "(I)Z" } : Jvm.MethodName) prog_8_method_6_code (2 : Nat) (Option.some Jvm.ClassFile.FieldType.boolean)) ∈ gT := List.mem_filter.mpr ⟨mt4 _ (List.mem_of_getElem? (i := 65) rfl), rfl⟩
theorem mw4_66 : (Jvm.Cond.methodLink "GongCyclesModel" (64 : Nat) ({ cls := "GongCyclesModel", name := "lengthOf", desc := "(I)I" } : Jvm.MethodName)) ∈ gT := List.mem_filter.mpr ⟨mt4 _ (List.mem_of_getElem? (i := 66) rfl), rfl⟩
theorem mw4_68 : (Jvm.Cond.instanceMethod ({ cls := "GongCyclesModel", name := "lengthOf", desc := "(I)I" } : Jvm.MethodName)) ∈ gT := List.mem_filter.mpr ⟨mt4 _ (List.mem_of_getElem? (i := 68) rfl), rfl⟩
theorem mw4_69 : (Jvm.Cond.code ({ cls := "GongCyclesModel", name := "lengthOf", desc := "(I)I" } : Jvm.MethodName) prog_8_method_7_code (2 : Nat) (Option.some Jvm.ClassFile.FieldType.int)) ∈ gT := List.mem_filter.mpr ⟨mt4 _ (List.mem_of_getElem? (i := 69) rfl), rfl⟩
theorem mw4_70 : (Jvm.Cond.methodLink "GongCyclesLaw" (120 : Nat) ({ cls := "GongCyclesModel", name := "forbid", desc := "(II)I" } : Jvm.MethodName)) ∈ gT := List.mem_filter.mpr ⟨mt4 _ (List.mem_of_getElem? (i := 70) rfl), rfl⟩
theorem mw4_71 : (Jvm.Cond.instanceMethod ({ cls := "GongCyclesModel", name := "forbid", desc := "(II)I" } : Jvm.MethodName)) ∈ gT := List.mem_filter.mpr ⟨mt4 _ (List.mem_of_getElem? (i := 71) rfl), rfl⟩
theorem mw4_72 : (Jvm.Cond.selects "GongCyclesModel" ({ cls := "GongCyclesModel", name := "forbid", desc := "(II)I" } : Jvm.MethodName) ({ cls := "GongCyclesModel", name := "forbid", desc := "(II)I" } : Jvm.MethodName)) ∈ gT := List.mem_filter.mpr ⟨mt4 _ (List.mem_of_getElem? (i := 72) rfl), rfl⟩
theorem mw4_73 : (Jvm.Cond.code ({ cls := "GongCyclesModel", name := "forbid", desc := "(II)I" } : Jvm.MethodName) prog_8_method_16_code (4 : Nat) (Option.some Jvm.ClassFile.FieldType.int)) ∈ gT := List.mem_filter.mpr ⟨mt4 _ (List.mem_of_getElem? (i := 73) rfl), rfl⟩
theorem mw4_74 : (Jvm.Cond.methodLink "GongCyclesLaw" (123 : Nat) ({ cls := "GongCyclesModel", name := "sounds", desc := "(II)I" } : Jvm.MethodName)) ∈ gT := List.mem_filter.mpr ⟨mt4 _ (List.mem_of_getElem? (i := 74) rfl), rfl⟩
theorem mw4_75 : (Jvm.Cond.instanceMethod ({ cls := "GongCyclesModel", name := "sounds", desc := "(II)I" } : Jvm.MethodName)) ∈ gT := List.mem_filter.mpr ⟨mt4 _ (List.mem_of_getElem? (i := 75) rfl), rfl⟩
theorem mw4_76 : (Jvm.Cond.selects "GongCyclesModel" ({ cls := "GongCyclesModel", name := "sounds", desc := "(II)I" } : Jvm.MethodName) ({ cls := "GongCyclesModel", name := "sounds", desc := "(II)I" } : Jvm.MethodName)) ∈ gT := List.mem_filter.mpr ⟨mt4 _ (List.mem_of_getElem? (i := 76) rfl), rfl⟩
theorem mw4_77 : (Jvm.Cond.code ({ cls := "GongCyclesModel", name := "sounds", desc := "(II)I" } : Jvm.MethodName) prog_8_method_18_code (3 : Nat) (Option.some Jvm.ClassFile.FieldType.int)) ∈ gT := List.mem_filter.mpr ⟨mt4 _ (List.mem_of_getElem? (i := 77) rfl), rfl⟩
theorem mw4_78 : (Jvm.Cond.methodLink "GongCyclesModel" (82 : Nat) ({ cls := "GongCyclesModel", name := "soundOf", desc := "(II)I" } : Jvm.MethodName)) ∈ gT := List.mem_filter.mpr ⟨mt4 _ (List.mem_of_getElem? (i := 78) rfl), rfl⟩
theorem mw4_80 : (Jvm.Cond.instanceMethod ({ cls := "GongCyclesModel", name := "soundOf", desc := "(II)I" } : Jvm.MethodName)) ∈ gT := List.mem_filter.mpr ⟨mt4 _ (List.mem_of_getElem? (i := 80) rfl), rfl⟩
theorem mw4_81 : (Jvm.Cond.code ({ cls := "GongCyclesModel", name := "soundOf", desc := "(II)I" } : Jvm.MethodName) prog_8_method_17_code (5 : Nat) (Option.some Jvm.ClassFile.FieldType.int)) ∈ gT := List.mem_filter.mpr ⟨mt4 _ (List.mem_of_getElem? (i := 81) rfl), rfl⟩
theorem mw4_82 : (Jvm.Cond.methodLink "GongCyclesLaw" (127 : Nat) ({ cls := "GongCyclesModel", name := "stroke", desc := "(IIIII)I" } : Jvm.MethodName)) ∈ gT := List.mem_filter.mpr ⟨mt4 _ (List.mem_of_getElem? (i := 82) rfl), rfl⟩
theorem mw4_83 : (Jvm.Cond.instanceMethod ({ cls := "GongCyclesModel", name := "stroke", desc := "(IIIII)I" } : Jvm.MethodName)) ∈ gT := List.mem_filter.mpr ⟨mt4 _ (List.mem_of_getElem? (i := 83) rfl), rfl⟩
theorem mw4_84 : (Jvm.Cond.selects "GongCyclesModel" ({ cls := "GongCyclesModel", name := "stroke", desc := "(IIIII)I" } : Jvm.MethodName) ({ cls := "GongCyclesModel", name := "stroke", desc := "(IIIII)I" } : Jvm.MethodName)) ∈ gT := List.mem_filter.mpr ⟨mt4 _ (List.mem_of_getElem? (i := 84) rfl), rfl⟩
theorem mw4_85 : (Jvm.Cond.code ({ cls := "GongCyclesModel", name := "stroke", desc := "(IIIII)I" } : Jvm.MethodName) prog_8_method_21_code (12 : Nat) (Option.some Jvm.ClassFile.FieldType.int)) ∈ gT := List.mem_filter.mpr ⟨mt4 _ (List.mem_of_getElem? (i := 85) rfl), rfl⟩
theorem mw4_86 : (Jvm.Cond.methodLink "GongCyclesModel" (89 : Nat) ({ cls := "GongCyclesModel", name := "isPart", desc := "(I)Z" } : Jvm.MethodName)) ∈ gT := List.mem_filter.mpr ⟨mt4 _ (List.mem_of_getElem? (i := 86) rfl), rfl⟩
theorem mw4_87 : (Jvm.Cond.static ({ cls := "GongCyclesModel", name := "isPart", desc := "(I)Z" } : Jvm.MethodName)) ∈ gT := List.mem_filter.mpr ⟨mt4 _ (List.mem_of_getElem? (i := 87) rfl), rfl⟩
theorem mw4_88 : (Jvm.Cond.code ({ cls := "GongCyclesModel", name := "isPart", desc := "(I)Z" } : Jvm.MethodName) prog_8_method_9_code (1 : Nat) (Option.some Jvm.ClassFile.FieldType.boolean)) ∈ gT := List.mem_filter.mpr ⟨mt4 _ (List.mem_of_getElem? (i := 88) rfl), rfl⟩
theorem mw4_89 : (Jvm.Cond.methodLink "GongCyclesModel" (92 : Nat) ({ cls := "GongCyclesModel", name := "density", desc := "(II)I" } : Jvm.MethodName)) ∈ gT := List.mem_filter.mpr ⟨mt4 _ (List.mem_of_getElem? (i := 89) rfl), rfl⟩
theorem mw4_90 : (Jvm.Cond.static ({ cls := "GongCyclesModel", name := "density", desc := "(II)I" } : Jvm.MethodName)) ∈ gT := List.mem_filter.mpr ⟨mt4 _ (List.mem_of_getElem? (i := 90) rfl), rfl⟩
theorem mw4_91 : (Jvm.Cond.code ({ cls := "GongCyclesModel", name := "density", desc := "(II)I" } : Jvm.MethodName) prog_8_method_19_code (2 : Nat) (Option.some Jvm.ClassFile.FieldType.int)) ∈ gT := List.mem_filter.mpr ⟨mt4 _ (List.mem_of_getElem? (i := 91) rfl), rfl⟩
theorem mw4_92 : (Jvm.Cond.methodLink "GongCyclesModel" (95 : Nat) ({ cls := "GongCyclesModel", name := "strikes", desc := "(IIIII)I" } : Jvm.MethodName)) ∈ gT := List.mem_filter.mpr ⟨mt4 _ (List.mem_of_getElem? (i := 92) rfl), rfl⟩
theorem mw4_93 : (Jvm.Cond.static ({ cls := "GongCyclesModel", name := "strikes", desc := "(IIIII)I" } : Jvm.MethodName)) ∈ gT := List.mem_filter.mpr ⟨mt4 _ (List.mem_of_getElem? (i := 93) rfl), rfl⟩
theorem mw4_94 : (Jvm.Cond.code ({ cls := "GongCyclesModel", name := "strikes", desc := "(IIIII)I" } : Jvm.MethodName) prog_8_method_20_code (5 : Nat) (Option.some Jvm.ClassFile.FieldType.int)) ∈ gT := List.mem_filter.mpr ⟨mt4 _ (List.mem_of_getElem? (i := 94) rfl), rfl⟩
theorem mw4_95 : (Jvm.Cond.methodLink "GongCyclesModel" (86 : Nat) ({ cls := "GongCyclesModel", name := "lesser", desc := "(II)I" } : Jvm.MethodName)) ∈ gT := List.mem_filter.mpr ⟨mt4 _ (List.mem_of_getElem? (i := 95) rfl), rfl⟩
theorem mw4_96 : (Jvm.Cond.static ({ cls := "GongCyclesModel", name := "lesser", desc := "(II)I" } : Jvm.MethodName)) ∈ gT := List.mem_filter.mpr ⟨mt4 _ (List.mem_of_getElem? (i := 96) rfl), rfl⟩
theorem mw4_97 : (Jvm.Cond.code ({ cls := "GongCyclesModel", name := "lesser", desc := "(II)I" } : Jvm.MethodName) prog_8_method_11_code (2 : Nat) (Option.some Jvm.ClassFile.FieldType.int)) ∈ gT := List.mem_filter.mpr ⟨mt4 _ (List.mem_of_getElem? (i := 97) rfl), rfl⟩
theorem mw4_98 : (Jvm.Cond.methodLink "GongCyclesLaw" (130 : Nat) ({ cls := "GongCyclesModel", name := "strokeAnew", desc := "(IIIII)I" } : Jvm.MethodName)) ∈ gT := List.mem_filter.mpr ⟨mt4 _ (List.mem_of_getElem? (i := 98) rfl), rfl⟩
theorem mw4_99 : (Jvm.Cond.instanceMethod ({ cls := "GongCyclesModel", name := "strokeAnew", desc := "(IIIII)I" } : Jvm.MethodName)) ∈ gT := List.mem_filter.mpr ⟨mt4 _ (List.mem_of_getElem? (i := 99) rfl), rfl⟩
theorem mw4_100 : (Jvm.Cond.selects "GongCyclesModel" ({ cls := "GongCyclesModel", name := "strokeAnew", desc := "(IIIII)I" } : Jvm.MethodName) ({ cls := "GongCyclesModel", name := "strokeAnew", desc := "(IIIII)I" } : Jvm.MethodName)) ∈ gT := List.mem_filter.mpr ⟨mt4 _ (List.mem_of_getElem? (i := 100) rfl), rfl⟩
theorem mw4_101 : (Jvm.Cond.code ({ cls := "GongCyclesModel", name := "strokeAnew", desc := "(IIIII)I" } : Jvm.MethodName) prog_8_method_22_code (6 : Nat) (Option.some Jvm.ClassFile.FieldType.int)) ∈ gT := List.mem_filter.mpr ⟨mt4 _ (List.mem_of_getElem? (i := 101) rfl), rfl⟩
theorem mw4_102 : (Jvm.Cond.methodLink "GongCyclesModel" (99 : Nat) ({ cls := "GongCyclesModel", name := "stroke", desc := "(IIIII)I" } : Jvm.MethodName)) ∈ gT := List.mem_filter.mpr ⟨mt4 _ (List.mem_of_getElem? (i := 102) rfl), rfl⟩
theorem mw4_103 : (Jvm.Cond.methodLink "GongCyclesLaw" (133 : Nat) ({ cls := "GongCyclesModel", name := "begin", desc := "(I)I" } : Jvm.MethodName)) ∈ gT := List.mem_filter.mpr ⟨mt4 _ (List.mem_of_getElem? (i := 103) rfl), rfl⟩
theorem mw4_104 : (Jvm.Cond.instanceMethod ({ cls := "GongCyclesModel", name := "begin", desc := "(I)I" } : Jvm.MethodName)) ∈ gT := List.mem_filter.mpr ⟨mt4 _ (List.mem_of_getElem? (i := 104) rfl), rfl⟩
theorem mw4_105 : (Jvm.Cond.selects "GongCyclesModel" ({ cls := "GongCyclesModel", name := "begin", desc := "(I)I" } : Jvm.MethodName) ({ cls := "GongCyclesModel", name := "begin", desc := "(I)I" } : Jvm.MethodName)) ∈ gT := List.mem_filter.mpr ⟨mt4 _ (List.mem_of_getElem? (i := 105) rfl), rfl⟩
theorem mw4_106 : (Jvm.Cond.code ({ cls := "GongCyclesModel", name := "begin", desc := "(I)I" } : Jvm.MethodName) prog_8_method_23_code (3 : Nat) (Option.some Jvm.ClassFile.FieldType.int)) ∈ gT := List.mem_filter.mpr ⟨mt4 _ (List.mem_of_getElem? (i := 106) rfl), rfl⟩
theorem mw4_107 : (Jvm.Cond.methodLink "GongCyclesLaw" (136 : Nat) ({ cls := "GongCyclesModel", name := "drum", desc := "(I)I" } : Jvm.MethodName)) ∈ gT := List.mem_filter.mpr ⟨mt4 _ (List.mem_of_getElem? (i := 107) rfl), rfl⟩
theorem mw4_108 : (Jvm.Cond.instanceMethod ({ cls := "GongCyclesModel", name := "drum", desc := "(I)I" } : Jvm.MethodName)) ∈ gT := List.mem_filter.mpr ⟨mt4 _ (List.mem_of_getElem? (i := 108) rfl), rfl⟩
theorem mw4_109 : (Jvm.Cond.selects "GongCyclesModel" ({ cls := "GongCyclesModel", name := "drum", desc := "(I)I" } : Jvm.MethodName) ({ cls := "GongCyclesModel", name := "drum", desc := "(I)I" } : Jvm.MethodName)) ∈ gT := List.mem_filter.mpr ⟨mt4 _ (List.mem_of_getElem? (i := 109) rfl), rfl⟩
theorem mw4_110 : (Jvm.Cond.code ({ cls := "GongCyclesModel", name := "drum", desc := "(I)I" } : Jvm.MethodName) prog_8_method_24_code (2 : Nat) (Option.some Jvm.ClassFile.FieldType.int)) ∈ gT := List.mem_filter.mpr ⟨mt4 _ (List.mem_of_getElem? (i := 110) rfl), rfl⟩
theorem mw4_111 : (Jvm.Cond.methodLink "GongCyclesLaw" (139 : Nat) ({ cls := "GongCyclesModel", name := "beats", desc := "(I)I" } : Jvm.MethodName)) ∈ gT := List.mem_filter.mpr ⟨mt4 _ (List.mem_of_getElem? (i := 111) rfl), rfl⟩
theorem mw4_112 : (Jvm.Cond.instanceMethod ({ cls := "GongCyclesModel", name := "beats", desc := "(I)I" } : Jvm.MethodName)) ∈ gT := List.mem_filter.mpr ⟨mt4 _ (List.mem_of_getElem? (i := 112) rfl), rfl⟩
theorem mw4_113 : (Jvm.Cond.selects "GongCyclesModel" ({ cls := "GongCyclesModel", name := "beats", desc := "(I)I" } : Jvm.MethodName) ({ cls := "GongCyclesModel", name := "beats", desc := "(I)I" } : Jvm.MethodName)) ∈ gT := List.mem_filter.mpr ⟨mt4 _ (List.mem_of_getElem? (i := 113) rfl), rfl⟩
theorem mw4_114 : (Jvm.Cond.code ({ cls := "GongCyclesModel", name := "beats", desc := "(I)I" } : Jvm.MethodName) prog_8_method_26_code (3 : Nat) (Option.some Jvm.ClassFile.FieldType.int)) ∈ gT := List.mem_filter.mpr ⟨mt4 _ (List.mem_of_getElem? (i := 114) rfl), rfl⟩
theorem mw4_115 : (Jvm.Cond.methodLink "GongCyclesModel" (134 : Nat) ({ cls := "GongCyclesModel", name := "playsBeat", desc := "()V" } : Jvm.MethodName)) ∈ gT := List.mem_filter.mpr ⟨mt4 _ (List.mem_of_getElem? (i := 115) rfl), rfl⟩
theorem mw4_117 : (Jvm.Cond.instanceMethod ({ cls := "GongCyclesModel", name := "playsBeat", desc := "()V" } : Jvm.MethodName)) ∈ gT := List.mem_filter.mpr ⟨mt4 _ (List.mem_of_getElem? (i := 117) rfl), rfl⟩
theorem mw4_118 : (Jvm.Cond.code ({ cls := "GongCyclesModel", name := "playsBeat", desc := "()V" } : Jvm.MethodName) prog_8_method_25_code (2 : Nat) (Option.none : Option Jvm.ClassFile.FieldType)) ∈ gT := List.mem_filter.mpr ⟨mt4 _ (List.mem_of_getElem? (i := 118) rfl), rfl⟩
theorem mw4_119 : (Jvm.Cond.methodLink "GongCyclesLaw" (142 : Nat) ({ cls := "GongCyclesModel", name := "now", desc := "(I)I" } : Jvm.MethodName)) ∈ gT := List.mem_filter.mpr ⟨mt4 _ (List.mem_of_getElem? (i := 119) rfl), rfl⟩
theorem mw4_120 : (Jvm.Cond.instanceMethod ({ cls := "GongCyclesModel", name := "now", desc := "(I)I" } : Jvm.MethodName)) ∈ gT := List.mem_filter.mpr ⟨mt4 _ (List.mem_of_getElem? (i := 120) rfl), rfl⟩
theorem mw4_121 : (Jvm.Cond.selects "GongCyclesModel" ({ cls := "GongCyclesModel", name := "now", desc := "(I)I" } : Jvm.MethodName) ({ cls := "GongCyclesModel", name := "now", desc := "(I)I" } : Jvm.MethodName)) ∈ gT := List.mem_filter.mpr ⟨mt4 _ (List.mem_of_getElem? (i := 121) rfl), rfl⟩
theorem mw4_122 : (Jvm.Cond.code ({ cls := "GongCyclesModel", name := "now", desc := "(I)I" } : Jvm.MethodName) prog_8_method_27_code (2 : Nat) (Option.some Jvm.ClassFile.FieldType.int)) ∈ gT := List.mem_filter.mpr ⟨mt4 _ (List.mem_of_getElem? (i := 122) rfl), rfl⟩
theorem mw4_123 : (Jvm.Cond.methodLink "GongCyclesLaw" (147 : Nat) ({ cls := "GongCyclesModel", name := "ticks", desc := "()J" } : Jvm.MethodName)) ∈ gT := List.mem_filter.mpr ⟨mt4 _ (List.mem_of_getElem? (i := 123) rfl), rfl⟩
theorem mw4_124 : (Jvm.Cond.instanceMethod ({ cls := "GongCyclesModel", name := "ticks", desc := "()J" } : Jvm.MethodName)) ∈ gT := List.mem_filter.mpr ⟨mt4 _ (List.mem_of_getElem? (i := 124) rfl), rfl⟩
theorem mw4_125 : (Jvm.Cond.selects "GongCyclesModel" ({ cls := "GongCyclesModel", name := "ticks", desc := "()J" } : Jvm.MethodName) ({ cls := "GongCyclesModel", name := "ticks", desc := "()J" } : Jvm.MethodName)) ∈ gT := List.mem_filter.mpr ⟨mt4 _ (List.mem_of_getElem? (i := 125) rfl), rfl⟩
theorem mw4_126 : (Jvm.Cond.code ({ cls := "GongCyclesModel", name := "ticks", desc := "()J" } : Jvm.MethodName) prog_8_method_28_code (1 : Nat) (Option.some Jvm.ClassFile.FieldType.long)) ∈ gT := List.mem_filter.mpr ⟨mt4 _ (List.mem_of_getElem? (i := 126) rfl), rfl⟩
theorem mw4_127 : (Jvm.Cond.methodLink "GongCyclesLaw" (150 : Nat) ({ cls := "GongCyclesModel", name := "strokes", desc := "(I)J" } : Jvm.MethodName)) ∈ gT := List.mem_filter.mpr ⟨mt4 _ (List.mem_of_getElem? (i := 127) rfl), rfl⟩
theorem mw4_128 : (Jvm.Cond.instanceMethod ({ cls := "GongCyclesModel", name := "strokes", desc := "(I)J" } : Jvm.MethodName)) ∈ gT := List.mem_filter.mpr ⟨mt4 _ (List.mem_of_getElem? (i := 128) rfl), rfl⟩
theorem mw4_129 : (Jvm.Cond.selects "GongCyclesModel" ({ cls := "GongCyclesModel", name := "strokes", desc := "(I)J" } : Jvm.MethodName) ({ cls := "GongCyclesModel", name := "strokes", desc := "(I)J" } : Jvm.MethodName)) ∈ gT := List.mem_filter.mpr ⟨mt4 _ (List.mem_of_getElem? (i := 129) rfl), rfl⟩
theorem mw4_130 : (Jvm.Cond.code ({ cls := "GongCyclesModel", name := "strokes", desc := "(I)J" } : Jvm.MethodName) prog_8_method_29_code (2 : Nat) (Option.some Jvm.ClassFile.FieldType.long)) ∈ gT := List.mem_filter.mpr ⟨mt4 _ (List.mem_of_getElem? (i := 130) rfl), rfl⟩
theorem mw4_131 : (Jvm.Cond.methodLink "GongCyclesLaw" (153 : Nat) ({ cls := "GongCyclesModel", name := "days", desc := "(I)I" } : Jvm.MethodName)) ∈ gT := List.mem_filter.mpr ⟨mt4 _ (List.mem_of_getElem? (i := 131) rfl), rfl⟩
theorem mw4_132 : (Jvm.Cond.instanceMethod ({ cls := "GongCyclesModel", name := "days", desc := "(I)I" } : Jvm.MethodName)) ∈ gT := List.mem_filter.mpr ⟨mt4 _ (List.mem_of_getElem? (i := 132) rfl), rfl⟩
theorem mw4_133 : (Jvm.Cond.selects "GongCyclesModel" ({ cls := "GongCyclesModel", name := "days", desc := "(I)I" } : Jvm.MethodName) ({ cls := "GongCyclesModel", name := "days", desc := "(I)I" } : Jvm.MethodName)) ∈ gT := List.mem_filter.mpr ⟨mt4 _ (List.mem_of_getElem? (i := 133) rfl), rfl⟩
theorem mw4_134 : (Jvm.Cond.code ({ cls := "GongCyclesModel", name := "days", desc := "(I)I" } : Jvm.MethodName) prog_8_method_30_code (2 : Nat) (Option.some Jvm.ClassFile.FieldType.int)) ∈ gT := List.mem_filter.mpr ⟨mt4 _ (List.mem_of_getElem? (i := 134) rfl), rfl⟩
theorem mw4_135 : (Jvm.Cond.methodLink "GongCyclesLaw" (156 : Nat) ({ cls := "GongCyclesModel", name := "pitch", desc := "(III)I" } : Jvm.MethodName)) ∈ gT := List.mem_filter.mpr ⟨mt4 _ (List.mem_of_getElem? (i := 135) rfl), rfl⟩
theorem mw4_136 : (Jvm.Cond.instanceMethod ({ cls := "GongCyclesModel", name := "pitch", desc := "(III)I" } : Jvm.MethodName)) ∈ gT := List.mem_filter.mpr ⟨mt4 _ (List.mem_of_getElem? (i := 136) rfl), rfl⟩
theorem mw4_137 : (Jvm.Cond.selects "GongCyclesModel" ({ cls := "GongCyclesModel", name := "pitch", desc := "(III)I" } : Jvm.MethodName) ({ cls := "GongCyclesModel", name := "pitch", desc := "(III)I" } : Jvm.MethodName)) ∈ gT := List.mem_filter.mpr ⟨mt4 _ (List.mem_of_getElem? (i := 137) rfl), rfl⟩
theorem mw4_138 : (Jvm.Cond.code ({ cls := "GongCyclesModel", name := "pitch", desc := "(III)I" } : Jvm.MethodName) prog_8_method_32_code (5 : Nat) (Option.some Jvm.ClassFile.FieldType.int)) ∈ gT := List.mem_filter.mpr ⟨mt4 _ (List.mem_of_getElem? (i := 138) rfl), rfl⟩
theorem mw4_139 : (Jvm.Cond.methodLink "GongCyclesModel" (137 : Nat) ({ cls := "GongCyclesModel", name := "isSet", desc := "(I)Z" } : Jvm.MethodName)) ∈ gT := List.mem_filter.mpr ⟨mt4 _ (List.mem_of_getElem? (i := 139) rfl), rfl⟩
theorem mw4_140 : (Jvm.Cond.static ({ cls := "GongCyclesModel", name := "isSet", desc := "(I)Z" } : Jvm.MethodName)) ∈ gT := List.mem_filter.mpr ⟨mt4 _ (List.mem_of_getElem? (i := 140) rfl), rfl⟩
theorem mw4_141 : (Jvm.Cond.code ({ cls := "GongCyclesModel", name := "isSet", desc := "(I)Z" } : Jvm.MethodName) prog_8_method_31_code (1 : Nat) (Option.some Jvm.ClassFile.FieldType.boolean)) ∈ gT := List.mem_filter.mpr ⟨mt4 _ (List.mem_of_getElem? (i := 141) rfl), rfl⟩
theorem mw4_142 : (Jvm.Cond.constant "GongCyclesModel" (140 : Nat) (200000 : Int32)) ∈ gT := List.mem_filter.mpr ⟨mt4 _ (List.mem_of_getElem? (i := 142) rfl), rfl⟩
theorem mw4_143 : (Jvm.Cond.methodLink "GongCyclesLaw" (159 : Nat) ({ cls := "GongCyclesModel", name := "drift", desc := "(II)I" } : Jvm.MethodName)) ∈ gT := List.mem_filter.mpr ⟨mt4 _ (List.mem_of_getElem? (i := 143) rfl), rfl⟩
theorem mw4_144 : (Jvm.Cond.instanceMethod ({ cls := "GongCyclesModel", name := "drift", desc := "(II)I" } : Jvm.MethodName)) ∈ gT := List.mem_filter.mpr ⟨mt4 _ (List.mem_of_getElem? (i := 144) rfl), rfl⟩
theorem mw4_145 : (Jvm.Cond.selects "GongCyclesModel" ({ cls := "GongCyclesModel", name := "drift", desc := "(II)I" } : Jvm.MethodName) ({ cls := "GongCyclesModel", name := "drift", desc := "(II)I" } : Jvm.MethodName)) ∈ gT := List.mem_filter.mpr ⟨mt4 _ (List.mem_of_getElem? (i := 145) rfl), rfl⟩
theorem mw4_146 : (Jvm.Cond.code ({ cls := "GongCyclesModel", name := "drift", desc := "(II)I" } : Jvm.MethodName) prog_8_method_33_code (4 : Nat) (Option.some Jvm.ClassFile.FieldType.int)) ∈ gT := List.mem_filter.mpr ⟨mt4 _ (List.mem_of_getElem? (i := 146) rfl), rfl⟩
theorem mw4_147 : (Jvm.Cond.methodLink "GongCyclesLaw" (162 : Nat) ({ cls := "GongCyclesModel", name := "years", desc := "(I)I" } : Jvm.MethodName)) ∈ gT := List.mem_filter.mpr ⟨mt4 _ (List.mem_of_getElem? (i := 147) rfl), rfl⟩
theorem mw4_148 : (Jvm.Cond.instanceMethod ({ cls := "GongCyclesModel", name := "years", desc := "(I)I" } : Jvm.MethodName)) ∈ gT := List.mem_filter.mpr ⟨mt4 _ (List.mem_of_getElem? (i := 148) rfl), rfl⟩
theorem mw4_149 : (Jvm.Cond.selects "GongCyclesModel" ({ cls := "GongCyclesModel", name := "years", desc := "(I)I" } : Jvm.MethodName) ({ cls := "GongCyclesModel", name := "years", desc := "(I)I" } : Jvm.MethodName)) ∈ gT := List.mem_filter.mpr ⟨mt4 _ (List.mem_of_getElem? (i := 149) rfl), rfl⟩
theorem mw4_150 : (Jvm.Cond.code ({ cls := "GongCyclesModel", name := "years", desc := "(I)I" } : Jvm.MethodName) prog_8_method_34_code (6 : Nat) (Option.some Jvm.ClassFile.FieldType.int)) ∈ gT := List.mem_filter.mpr ⟨mt4 _ (List.mem_of_getElem? (i := 150) rfl), rfl⟩
theorem mw4_151 : (Jvm.Cond.methodLink "GongCyclesLaw" (165 : Nat) ({ cls := "GongCyclesModel", name := "tune", desc := "(II)I" } : Jvm.MethodName)) ∈ gT := List.mem_filter.mpr ⟨mt4 _ (List.mem_of_getElem? (i := 151) rfl), rfl⟩
theorem mw4_152 : (Jvm.Cond.instanceMethod ({ cls := "GongCyclesModel", name := "tune", desc := "(II)I" } : Jvm.MethodName)) ∈ gT := List.mem_filter.mpr ⟨mt4 _ (List.mem_of_getElem? (i := 152) rfl), rfl⟩
theorem mw4_153 : (Jvm.Cond.selects "GongCyclesModel" ({ cls := "GongCyclesModel", name := "tune", desc := "(II)I" } : Jvm.MethodName) ({ cls := "GongCyclesModel", name := "tune", desc := "(II)I" } : Jvm.MethodName)) ∈ gT := List.mem_filter.mpr ⟨mt4 _ (List.mem_of_getElem? (i := 153) rfl), rfl⟩
theorem mw4_154 : (Jvm.Cond.code ({ cls := "GongCyclesModel", name := "tune", desc := "(II)I" } : Jvm.MethodName) prog_8_method_35_code (10 : Nat) (Option.some Jvm.ClassFile.FieldType.int)) ∈ gT := List.mem_filter.mpr ⟨mt4 _ (List.mem_of_getElem? (i := 154) rfl), rfl⟩
theorem mw4_155 : (Jvm.Cond.constantLong "GongCyclesModel" (144 : Nat) (5000 : Int64)) ∈ gT := List.mem_filter.mpr ⟨mt4 _ (List.mem_of_getElem? (i := 155) rfl), rfl⟩
theorem mw4_156 : (Jvm.Cond.constantLong "GongCyclesModel" (146 : Nat) (200000 : Int64)) ∈ gT := List.mem_filter.mpr ⟨mt4 _ (List.mem_of_getElem? (i := 156) rfl), rfl⟩
theorem mw4_157 : (Jvm.Cond.methodLink "GongCyclesLaw" (168 : Nat) ({ cls := "GongCyclesModel", name := "beat", desc := "(III)I" } : Jvm.MethodName)) ∈ gT := List.mem_filter.mpr ⟨mt4 _ (List.mem_of_getElem? (i := 157) rfl), rfl⟩
theorem mw4_158 : (Jvm.Cond.instanceMethod ({ cls := "GongCyclesModel", name := "beat", desc := "(III)I" } : Jvm.MethodName)) ∈ gT := List.mem_filter.mpr ⟨mt4 _ (List.mem_of_getElem? (i := 158) rfl), rfl⟩
theorem mw4_159 : (Jvm.Cond.selects "GongCyclesModel" ({ cls := "GongCyclesModel", name := "beat", desc := "(III)I" } : Jvm.MethodName) ({ cls := "GongCyclesModel", name := "beat", desc := "(III)I" } : Jvm.MethodName)) ∈ gT := List.mem_filter.mpr ⟨mt4 _ (List.mem_of_getElem? (i := 159) rfl), rfl⟩
theorem mw4_160 : (Jvm.Cond.code ({ cls := "GongCyclesModel", name := "beat", desc := "(III)I" } : Jvm.MethodName) prog_8_method_36_code (5 : Nat) (Option.some Jvm.ClassFile.FieldType.int)) ∈ gT := List.mem_filter.mpr ⟨mt4 _ (List.mem_of_getElem? (i := 160) rfl), rfl⟩
theorem mw4_161 : (Jvm.Cond.methodLink "GongCyclesLaw" (171 : Nat) ({ cls := "GongCyclesModel", name := "player", desc := "(I)I" } : Jvm.MethodName)) ∈ gT := List.mem_filter.mpr ⟨mt4 _ (List.mem_of_getElem? (i := 161) rfl), rfl⟩
theorem mw4_162 : (Jvm.Cond.instanceMethod ({ cls := "GongCyclesModel", name := "player", desc := "(I)I" } : Jvm.MethodName)) ∈ gT := List.mem_filter.mpr ⟨mt4 _ (List.mem_of_getElem? (i := 162) rfl), rfl⟩
theorem mw4_163 : (Jvm.Cond.selects "GongCyclesModel" ({ cls := "GongCyclesModel", name := "player", desc := "(I)I" } : Jvm.MethodName) ({ cls := "GongCyclesModel", name := "player", desc := "(I)I" } : Jvm.MethodName)) ∈ gT := List.mem_filter.mpr ⟨mt4 _ (List.mem_of_getElem? (i := 163) rfl), rfl⟩
theorem mw4_164 : (Jvm.Cond.code ({ cls := "GongCyclesModel", name := "player", desc := "(I)I" } : Jvm.MethodName) prog_8_method_37_code (2 : Nat) (Option.some Jvm.ClassFile.FieldType.int)) ∈ gT := List.mem_filter.mpr ⟨mt4 _ (List.mem_of_getElem? (i := 164) rfl), rfl⟩
theorem mw4_165 : (Jvm.Cond.methodLink "GongCyclesLaw" (174 : Nat) ({ cls := "GongCyclesModel", name := "learn", desc := "(III)I" } : Jvm.MethodName)) ∈ gT := List.mem_filter.mpr ⟨mt4 _ (List.mem_of_getElem? (i := 165) rfl), rfl⟩
theorem mw4_166 : (Jvm.Cond.instanceMethod ({ cls := "GongCyclesModel", name := "learn", desc := "(III)I" } : Jvm.MethodName)) ∈ gT := List.mem_filter.mpr ⟨mt4 _ (List.mem_of_getElem? (i := 166) rfl), rfl⟩
theorem mw4_167 : (Jvm.Cond.selects "GongCyclesModel" ({ cls := "GongCyclesModel", name := "learn", desc := "(III)I" } : Jvm.MethodName) ({ cls := "GongCyclesModel", name := "learn", desc := "(III)I" } : Jvm.MethodName)) ∈ gT := List.mem_filter.mpr ⟨mt4 _ (List.mem_of_getElem? (i := 167) rfl), rfl⟩
theorem mw4_168 : (Jvm.Cond.code ({ cls := "GongCyclesModel", name := "learn", desc := "(III)I" } : Jvm.MethodName) prog_8_method_40_code (7 : Nat) (Option.some Jvm.ClassFile.FieldType.int)) ∈ gT := List.mem_filter.mpr ⟨mt4 _ (List.mem_of_getElem? (i := 168) rfl), rfl⟩
theorem mw4_169 : (Jvm.Cond.methodLink "GongCyclesModel" (148 : Nat) ({ cls := "GongCyclesModel", name := "isPlayer", desc := "(I)Z" } : Jvm.MethodName)) ∈ gT := List.mem_filter.mpr ⟨mt4 _ (List.mem_of_getElem? (i := 169) rfl), rfl⟩
theorem mw4_171 : (Jvm.Cond.instanceMethod ({ cls := "GongCyclesModel", name := "isPlayer", desc := "(I)Z" } : Jvm.MethodName)) ∈ gT := List.mem_filter.mpr ⟨mt4 _ (List.mem_of_getElem? (i := 171) rfl), rfl⟩
theorem mw4_172 : (Jvm.Cond.code ({ cls := "GongCyclesModel", name := "isPlayer", desc := "(I)Z" } : Jvm.MethodName) prog_8_method_10_code (2 : Nat) (Option.some Jvm.ClassFile.FieldType.boolean)) ∈ gT := List.mem_filter.mpr ⟨mt4 _ (List.mem_of_getElem? (i := 172) rfl), rfl⟩
theorem mw4_173 : (Jvm.Cond.methodLink "GongCyclesModel" (151 : Nat) ({ cls := "GongCyclesModel", name := "knowsIt", desc := "(II)Z" } : Jvm.MethodName)) ∈ gT := List.mem_filter.mpr ⟨mt4 _ (List.mem_of_getElem? (i := 173) rfl), rfl⟩
theorem mw4_175 : (Jvm.Cond.instanceMethod ({ cls := "GongCyclesModel", name := "knowsIt", desc := "(II)Z" } : Jvm.MethodName)) ∈ gT := List.mem_filter.mpr ⟨mt4 _ (List.mem_of_getElem? (i := 175) rfl), rfl⟩
theorem mw4_176 : (Jvm.Cond.code ({ cls := "GongCyclesModel", name := "knowsIt", desc := "(II)Z" } : Jvm.MethodName) prog_8_method_38_code (3 : Nat) (Option.some Jvm.ClassFile.FieldType.boolean)) ∈ gT := List.mem_filter.mpr ⟨mt4 _ (List.mem_of_getElem? (i := 176) rfl), rfl⟩
theorem mw4_177 : (Jvm.Cond.methodLink "GongCyclesModel" (154 : Nat) ({ cls := "GongCyclesModel", name := "toneOf", desc := "(III)I" } : Jvm.MethodName)) ∈ gT := List.mem_filter.mpr ⟨mt4 _ (List.mem_of_getElem? (i := 177) rfl), rfl⟩
theorem mw4_179 : (Jvm.Cond.instanceMethod ({ cls := "GongCyclesModel", name := "toneOf", desc := "(III)I" } : Jvm.MethodName)) ∈ gT := List.mem_filter.mpr ⟨mt4 _ (List.mem_of_getElem? (i := 179) rfl), rfl⟩
theorem mw4_180 : (Jvm.Cond.code ({ cls := "GongCyclesModel", name := "toneOf", desc := "(III)I" } : Jvm.MethodName) prog_8_method_39_code (4 : Nat) (Option.some Jvm.ClassFile.FieldType.int)) ∈ gT := List.mem_filter.mpr ⟨mt4 _ (List.mem_of_getElem? (i := 180) rfl), rfl⟩
theorem mw4_181 : (Jvm.Cond.methodLink "GongCyclesLaw" (178 : Nat) ({ cls := "GongCyclesModel", name := "slip", desc := "(IIII)I" } : Jvm.MethodName)) ∈ gT := List.mem_filter.mpr ⟨mt4 _ (List.mem_of_getElem? (i := 181) rfl), rfl⟩
theorem mw4_182 : (Jvm.Cond.instanceMethod ({ cls := "GongCyclesModel", name := "slip", desc := "(IIII)I" } : Jvm.MethodName)) ∈ gT := List.mem_filter.mpr ⟨mt4 _ (List.mem_of_getElem? (i := 182) rfl), rfl⟩
theorem mw4_183 : (Jvm.Cond.selects "GongCyclesModel" ({ cls := "GongCyclesModel", name := "slip", desc := "(IIII)I" } : Jvm.MethodName) ({ cls := "GongCyclesModel", name := "slip", desc := "(IIII)I" } : Jvm.MethodName)) ∈ gT := List.mem_filter.mpr ⟨mt4 _ (List.mem_of_getElem? (i := 183) rfl), rfl⟩
theorem mw4_184 : (Jvm.Cond.code ({ cls := "GongCyclesModel", name := "slip", desc := "(IIII)I" } : Jvm.MethodName) prog_8_method_41_code (8 : Nat) (Option.some Jvm.ClassFile.FieldType.int)) ∈ gT := List.mem_filter.mpr ⟨mt4 _ (List.mem_of_getElem? (i := 184) rfl), rfl⟩
theorem mw4_185 : (Jvm.Cond.methodLink "GongCyclesLaw" (181 : Nat) ({ cls := "GongCyclesModel", name := "unlike", desc := "(III)I" } : Jvm.MethodName)) ∈ gT := List.mem_filter.mpr ⟨mt4 _ (List.mem_of_getElem? (i := 185) rfl), rfl⟩
theorem mw4_186 : (Jvm.Cond.instanceMethod ({ cls := "GongCyclesModel", name := "unlike", desc := "(III)I" } : Jvm.MethodName)) ∈ gT := List.mem_filter.mpr ⟨mt4 _ (List.mem_of_getElem? (i := 186) rfl), rfl⟩
theorem mw4_187 : (Jvm.Cond.selects "GongCyclesModel" ({ cls := "GongCyclesModel", name := "unlike", desc := "(III)I" } : Jvm.MethodName) ({ cls := "GongCyclesModel", name := "unlike", desc := "(III)I" } : Jvm.MethodName)) ∈ gT := List.mem_filter.mpr ⟨mt4 _ (List.mem_of_getElem? (i := 187) rfl), rfl⟩
theorem mw4_188 : (Jvm.Cond.code ({ cls := "GongCyclesModel", name := "unlike", desc := "(III)I" } : Jvm.MethodName) prog_8_method_42_code (7 : Nat) (Option.some Jvm.ClassFile.FieldType.int)) ∈ gT := List.mem_filter.mpr ⟨mt4 _ (List.mem_of_getElem? (i := 188) rfl), rfl⟩
theorem mw4_189 : (Jvm.Cond.methodLink "GongCyclesLaw" (184 : Nat) ({ cls := "GongCyclesModel", name := "covered", desc := "(I)I" } : Jvm.MethodName)) ∈ gT := List.mem_filter.mpr ⟨mt4 _ (List.mem_of_getElem? (i := 189) rfl), rfl⟩
theorem mw4_190 : (Jvm.Cond.instanceMethod ({ cls := "GongCyclesModel", name := "covered", desc := "(I)I" } : Jvm.MethodName)) ∈ gT := List.mem_filter.mpr ⟨mt4 _ (List.mem_of_getElem? (i := 190) rfl), rfl⟩
theorem mw4_191 : (Jvm.Cond.selects "GongCyclesModel" ({ cls := "GongCyclesModel", name := "covered", desc := "(I)I" } : Jvm.MethodName) ({ cls := "GongCyclesModel", name := "covered", desc := "(I)I" } : Jvm.MethodName)) ∈ gT := List.mem_filter.mpr ⟨mt4 _ (List.mem_of_getElem? (i := 191) rfl), rfl⟩
theorem mw4_192 : (Jvm.Cond.code ({ cls := "GongCyclesModel", name := "covered", desc := "(I)I" } : Jvm.MethodName) prog_8_method_43_code (7 : Nat) (Option.some Jvm.ClassFile.FieldType.int)) ∈ gT := List.mem_filter.mpr ⟨mt4 _ (List.mem_of_getElem? (i := 192) rfl), rfl⟩
theorem mws_0 : Cond.selects "java/lang/Throwable" ⟨"java/lang/Throwable", "fillInStackTrace", "(I)Ljava/lang/Throwable;"⟩ ⟨"java/lang/Throwable", "fillInStackTrace", "(I)Ljava/lang/Throwable;"⟩ ∈ gT := List.mem_filter.mpr ⟨List.mem_append_left _ (List.mem_of_getElem? (l := k2_sels lw_privs) (i := 0) rfl), rfl⟩
theorem mws_1 : Cond.selects "GongCycles" ⟨"GongCycles", "lengthOfForm", "(I)I"⟩ ⟨"GongCycles", "lengthOfForm", "(I)I"⟩ ∈ gT := List.mem_filter.mpr ⟨List.mem_append_left _ (List.mem_of_getElem? (l := k2_sels lw_privs) (i := 1) rfl), rfl⟩
theorem mws_2 : Cond.selects "GongCycles" ⟨"GongCycles", "pieceAt", "(I)LGongCycles$Piece;"⟩ ⟨"GongCycles", "pieceAt", "(I)LGongCycles$Piece;"⟩ ∈ gT := List.mem_filter.mpr ⟨List.mem_append_left _ (List.mem_of_getElem? (l := k2_sels lw_privs) (i := 2) rfl), rfl⟩
theorem mws_3 : Cond.selects "GongCycles" ⟨"GongCycles", "toneOfStroke", "(IIIIIZ)I"⟩ ⟨"GongCycles", "toneOfStroke", "(IIIIIZ)I"⟩ ∈ gT := List.mem_filter.mpr ⟨List.mem_append_left _ (List.mem_of_getElem? (l := k2_sels lw_privs) (i := 3) rfl), rfl⟩
theorem mws_4 : Cond.selects "GongCycles" ⟨"GongCycles", "refuseSilence", "()V"⟩ ⟨"GongCycles", "refuseSilence", "()V"⟩ ∈ gT := List.mem_filter.mpr ⟨List.mem_append_left _ (List.mem_of_getElem? (l := k2_sels lw_privs) (i := 4) rfl), rfl⟩
theorem mws_5 : Cond.selects "GongCycles$Playing" ⟨"GongCycles$Playing", "hearEnd", "()V"⟩ ⟨"GongCycles$Playing", "hearEnd", "()V"⟩ ∈ gT := List.mem_filter.mpr ⟨List.mem_append_left _ (List.mem_of_getElem? (l := k2_sels lw_privs) (i := 5) rfl), rfl⟩
theorem mws_6 : Cond.selects "GongCycles$Playing" ⟨"GongCycles$Playing", "changeBeatLength", "()V"⟩ ⟨"GongCycles$Playing", "changeBeatLength", "()V"⟩ ∈ gT := List.mem_filter.mpr ⟨List.mem_append_left _ (List.mem_of_getElem? (l := k2_sels lw_privs) (i := 6) rfl), rfl⟩
theorem mws_7 : Cond.selects "GongCycles$Playing" ⟨"GongCycles$Playing", "playGong", "()V"⟩ ⟨"GongCycles$Playing", "playGong", "()V"⟩ ∈ gT := List.mem_filter.mpr ⟨List.mem_append_left _ (List.mem_of_getElem? (l := k2_sels lw_privs) (i := 7) rfl), rfl⟩
theorem mws_8 : Cond.selects "GongCycles" ⟨"GongCycles", "setAt", "(I)LGongCycles$BronzeSet;"⟩ ⟨"GongCycles", "setAt", "(I)LGongCycles$BronzeSet;"⟩ ∈ gT := List.mem_filter.mpr ⟨List.mem_append_left _ (List.mem_of_getElem? (l := k2_sels lw_privs) (i := 8) rfl), rfl⟩
theorem mws_9 : Cond.selects "GongCycles" ⟨"GongCycles", "playerAt", "(I)LGongCycles$Player;"⟩ ⟨"GongCycles", "playerAt", "(I)LGongCycles$Player;"⟩ ∈ gT := List.mem_filter.mpr ⟨List.mem_append_left _ (List.mem_of_getElem? (l := k2_sels lw_privs) (i := 9) rfl), rfl⟩
theorem mws_10 : Cond.selects "GongCycles" ⟨"GongCycles", "melodyOf", "(II)LGongCycles$Melody;"⟩ ⟨"GongCycles", "melodyOf", "(II)LGongCycles$Melody;"⟩ ∈ gT := List.mem_filter.mpr ⟨List.mem_append_left _ (List.mem_of_getElem? (l := k2_sels lw_privs) (i := 10) rfl), rfl⟩
theorem mws_11 : Cond.selects "GongCycles" ⟨"GongCycles", "knowersOf", "(I)I"⟩ ⟨"GongCycles", "knowersOf", "(I)I"⟩ ∈ gT := List.mem_filter.mpr ⟨List.mem_append_left _ (List.mem_of_getElem? (l := k2_sels lw_privs) (i := 11) rfl), rfl⟩
theorem mws_12 : Cond.selects "GongCyclesModel" ⟨"GongCyclesModel", "goes", "(ZZZ)Z"⟩ ⟨"GongCyclesModel", "goes", "(ZZZ)Z"⟩ ∈ gT := List.mem_filter.mpr ⟨List.mem_append_left _ (List.mem_of_getElem? (l := k2_sels lw_privs) (i := 12) rfl), rfl⟩
theorem mws_13 : Cond.selects "GongCyclesModel" ⟨"GongCyclesModel", "isForm", "(I)Z"⟩ ⟨"GongCyclesModel", "isForm", "(I)Z"⟩ ∈ gT := List.mem_filter.mpr ⟨List.mem_append_left _ (List.mem_of_getElem? (l := k2_sels lw_privs) (i := 13) rfl), rfl⟩
theorem mws_14 : Cond.selects "GongCyclesModel" ⟨"GongCyclesModel", "isPlace", "(II)Z"⟩ ⟨"GongCyclesModel", "isPlace", "(II)Z"⟩ ∈ gT := List.mem_filter.mpr ⟨List.mem_append_left _ (List.mem_of_getElem? (l := k2_sels lw_privs) (i := 14) rfl), rfl⟩
theorem mws_15 : Cond.selects "GongCyclesModel" ⟨"GongCyclesModel", "isPiece", "(I)Z"⟩ ⟨"GongCyclesModel", "isPiece", "(I)Z"⟩ ∈ gT := List.mem_filter.mpr ⟨List.mem_append_left _ (List.mem_of_getElem? (l := k2_sels lw_privs) (i := 15) rfl), rfl⟩
theorem mws_16 : Cond.selects "GongCyclesModel" ⟨"GongCyclesModel", "lengthOf", "(I)I"⟩ ⟨"GongCyclesModel", "lengthOf", "(I)I"⟩ ∈ gT := List.mem_filter.mpr ⟨List.mem_append_left _ (List.mem_of_getElem? (l := k2_sels lw_privs) (i := 16) rfl), rfl⟩
theorem mws_17 : Cond.selects "GongCyclesModel" ⟨"GongCyclesModel", "soundOf", "(II)I"⟩ ⟨"GongCyclesModel", "soundOf", "(II)I"⟩ ∈ gT := List.mem_filter.mpr ⟨List.mem_append_left _ (List.mem_of_getElem? (l := k2_sels lw_privs) (i := 17) rfl), rfl⟩
theorem mws_18 : Cond.selects "GongCyclesModel" ⟨"GongCyclesModel", "playsBeat", "()V"⟩ ⟨"GongCyclesModel", "playsBeat", "()V"⟩ ∈ gT := List.mem_filter.mpr ⟨List.mem_append_left _ (List.mem_of_getElem? (l := k2_sels lw_privs) (i := 18) rfl), rfl⟩
theorem mws_19 : Cond.selects "GongCyclesModel" ⟨"GongCyclesModel", "isPlayer", "(I)Z"⟩ ⟨"GongCyclesModel", "isPlayer", "(I)Z"⟩ ∈ gT := List.mem_filter.mpr ⟨List.mem_append_left _ (List.mem_of_getElem? (l := k2_sels lw_privs) (i := 19) rfl), rfl⟩
theorem mws_20 : Cond.selects "GongCyclesModel" ⟨"GongCyclesModel", "knowsIt", "(II)Z"⟩ ⟨"GongCyclesModel", "knowsIt", "(II)Z"⟩ ∈ gT := List.mem_filter.mpr ⟨List.mem_append_left _ (List.mem_of_getElem? (l := k2_sels lw_privs) (i := 20) rfl), rfl⟩
theorem mws_21 : Cond.selects "GongCyclesModel" ⟨"GongCyclesModel", "toneOf", "(III)I"⟩ ⟨"GongCyclesModel", "toneOf", "(III)I"⟩ ∈ gT := List.mem_filter.mpr ⟨List.mem_append_left _ (List.mem_of_getElem? (l := k2_sels lw_privs) (i := 21) rfl), rfl⟩
theorem inG0 : ∀ w ∈ u_ws RX0 TX0 2, w ∈ gT := List.forall_mem_cons.mpr ⟨mw1_88, List.forall_mem_cons.mpr ⟨mw1_90, fun _ h => absurd h List.not_mem_nil⟩⟩
theorem inG1 : ∀ w ∈ u_ws RX1 TX1 1, w ∈ gT := List.forall_mem_cons.mpr ⟨mw2_36, fun _ h => absurd h List.not_mem_nil⟩
theorem inG2 : ∀ w ∈ u_ws RX2 TX2 2, w ∈ gT := List.forall_mem_cons.mpr ⟨mw2_43, List.forall_mem_cons.mpr ⟨mw2_45, fun _ h => absurd h List.not_mem_nil⟩⟩
theorem inG3 : ∀ w ∈ u_ws RX3 TX3 2, w ∈ gT := List.forall_mem_cons.mpr ⟨mw3_98, List.forall_mem_cons.mpr ⟨mw3_100, fun _ h => absurd h List.not_mem_nil⟩⟩
theorem inG4 : ∀ w ∈ u_ws RX4 TX4 11, w ∈ gT := List.forall_mem_cons.mpr ⟨mw1_50, List.forall_mem_cons.mpr ⟨mw1_52, List.forall_mem_cons.mpr ⟨mw1_54, List.forall_mem_cons.mpr ⟨mw1_56, List.forall_mem_cons.mpr ⟨mw1_58, List.forall_mem_cons.mpr ⟨mw1_60, List.forall_mem_cons.mpr ⟨mw1_62, List.forall_mem_cons.mpr ⟨mw1_64, List.forall_mem_cons.mpr ⟨mw1_66, List.forall_mem_cons.mpr ⟨mw1_68, List.forall_mem_cons.mpr ⟨mw1_70, fun _ h => absurd h List.not_mem_nil⟩⟩⟩⟩⟩⟩⟩⟩⟩⟩⟩
theorem inG5 : ∀ w ∈ u_ws RX5 TX5 11, w ∈ gT := List.forall_mem_cons.mpr ⟨mw1_104, List.forall_mem_cons.mpr ⟨mw1_106, List.forall_mem_cons.mpr ⟨mw1_108, List.forall_mem_cons.mpr ⟨mw1_110, List.forall_mem_cons.mpr ⟨mw1_112, List.forall_mem_cons.mpr ⟨mw1_114, List.forall_mem_cons.mpr ⟨mw1_116, List.forall_mem_cons.mpr ⟨mw1_118, List.forall_mem_cons.mpr ⟨mw1_120, List.forall_mem_cons.mpr ⟨mw1_122, List.forall_mem_cons.mpr ⟨mw1_124, fun _ h => absurd h List.not_mem_nil⟩⟩⟩⟩⟩⟩⟩⟩⟩⟩⟩
theorem inG6 : ∀ w ∈ u_ws RX6 TX6 26, w ∈ gT := List.forall_mem_cons.mpr ⟨mw3_213, List.forall_mem_cons.mpr ⟨mw3_215, List.forall_mem_cons.mpr ⟨mw3_217, List.forall_mem_cons.mpr ⟨mw3_219, List.forall_mem_cons.mpr ⟨mw3_221, List.forall_mem_cons.mpr ⟨mw3_223, List.forall_mem_cons.mpr ⟨mw3_225, List.forall_mem_cons.mpr ⟨mw3_227, List.forall_mem_cons.mpr ⟨mw3_229, List.forall_mem_cons.mpr ⟨mw3_231, List.forall_mem_cons.mpr ⟨mw3_233, List.forall_mem_cons.mpr ⟨mw3_235, List.forall_mem_cons.mpr ⟨mw3_237, List.forall_mem_cons.mpr ⟨mw3_239, List.forall_mem_cons.mpr ⟨mw4_1, List.forall_mem_cons.mpr ⟨mw4_3, List.forall_mem_cons.mpr ⟨mw4_5, List.forall_mem_cons.mpr ⟨mw4_7, List.forall_mem_cons.mpr ⟨mw4_9, List.forall_mem_cons.mpr ⟨mw4_11, List.forall_mem_cons.mpr ⟨mw4_13, List.forall_mem_cons.mpr ⟨mw4_15, List.forall_mem_cons.mpr ⟨mw4_17, List.forall_mem_cons.mpr ⟨mw4_19, List.forall_mem_cons.mpr ⟨mw4_21, List.forall_mem_cons.mpr ⟨mw4_23, fun _ h => absurd h List.not_mem_nil⟩⟩⟩⟩⟩⟩⟩⟩⟩⟩⟩⟩⟩⟩⟩⟩⟩⟩⟩⟩⟩⟩⟩⟩⟩⟩
end
section
/-! THE WORLD: cells by keys of our own choice. -/
abbrev gCl : List vw_C := [(RX0, TX0, 2), (RX1, TX1, 1), (RX2, TX2, 2), (RX3, TX3, 2), (RX4, TX4, 11), (RX5, TX5, 11), (RX6, TX6, 26)]
abbrev gTy (tc : Nat → ClassId) : List (ClassId × FieldType) := [(tc 0, .int), (tc 1, .long), (tc 2, .boolean), (tc 3, .object RX2), (tc 4, .object RX0), (tc 5, .object RX3), (tc 6, .object RX1)]
abbrev gW : Type := Nat → Option (Nat × va_E)
def gU (w : gW) (k : Nat) (x : Nat × va_E) : gW := fun j => if j = k then some x else w j
theorem gU_s {w w1 : gW} {k : Nat} {x : Nat × va_E} (e : w1 = gU w k x) : w1 k = some x := by rw [e]; exact if_pos rfl
theorem gU_n {w w1 : gW} {k j : Nat} {x : Nat × va_E} {y : Option (Nat × va_E)} (e : w1 = gU w k x) (h : j ≠ k) (hy : w j = y) : w1 j = y := by rw [e]; exact (if_neg h).trans hy
theorem gU_k {w : gW} {k j : Nat} {x y : Nat × va_E} (hx : w k = some x) (hy : w j = some y) (h : x.2 ≠ y.2) : j ≠ k := fun e => h (by subst e; exact congrArg Prod.snd (Option.some.inj (hx.symm.trans hy)))
theorem gU_f {w : gW} {k j : Nat} {y : Nat × va_E} (hx : w k = none) (hy : w j = some y) : j ≠ k := fun e => by subst e; rw [hx] at hy; cases hy
theorem gU_same (w : gW) (k : Nat) (x : Nat × va_E) : gU w k x k = some x := if_pos rfl
theorem gU_ne (w : gW) {k j : Nat} (x : Nat × va_E) (h : j ≠ k) : gU w k x j = w j := if_neg h
def gAt (D : va_G) (w : gW) (H : Heap) : Prop := ∀ (k : Nat) (x : Nat × va_E), w k = some x → va_at D gCl x H
def gDj (A : Nat → Prop) (w : gW) : Prop := (∀ (k j : Nat) (x y : Nat × va_E), w k = some x → w j = some y → x.1 = y.1 → k = j) ∧ ∀ (k : Nat) (x : Nat × va_E), w k = some x → A x.1
def gS (D : va_G) (A : Nat → Prop) (H0 : Heap) (w : gW) (H : Heap) (locs : List Loc) : Prop := gAt D w H ∧ gDj A w ∧ va_S A H0 H locs
theorem gAt_one {D : va_G} {w : gW} {H : Heap} {k : Nat} {x : Nat × va_E} (h : gAt D w H) (hk : w k = some x) : va_P D gCl [x] H := by
  intro j q hj
  have hz : j < 1 := (List.getElem?_eq_some_iff.mp hj).1
  rw [show j = 0 by omega] at hj
  cases hj
  exact h k x hk
theorem gS.set {D : va_G} {A : Nat → Prop} {H0 H H1 : Heap} {w : gW} {locs : List Loc} {k a j : Nat} {e0 e : va_E} (h : gS D A H0 w H locs) (hk : w k = some (a, e0)) (he : va_at D gCl (a, e) H1) (hz : H1.size = H.size) (ho : ∀ q : Nat, q ≠ a → H1[q]? = H[q]?) : gS D A H0 (gU w k (a, e)) H1 (locs ++ [⟨a, j⟩]) := by
  obtain ⟨h1, h2, h3⟩ := h
  refine ⟨?_, ⟨?_, ?_⟩, h3.put hz ho (h2.2 k _ hk)⟩
  · intro i x hx
    by_cases hi : i = k
    · subst hi
      rw [gU_same] at hx
      cases hx
      exact he
    · rw [gU_ne _ _ hi] at hx
      exact (h1 i x hx).kept (ho x.1 (fun e9 => hi (h2.1 i k x _ hx hk e9)))
  · intro i j x y hx hy hxy
    by_cases hi : i = k
    · by_cases hj : j = k
      · rw [hi, hj]
      · subst hi
        rw [gU_same] at hx
        rw [gU_ne _ _ hj] at hy
        cases hx
        exact h2.1 _ j _ y hk hy hxy
    · by_cases hj : j = k
      · subst hj
        rw [gU_same] at hy
        rw [gU_ne _ _ hi] at hx
        cases hy
        exact h2.1 i _ x _ hx hk hxy
      · rw [gU_ne _ _ hi] at hx
        rw [gU_ne _ _ hj] at hy
        exact h2.1 i j x y hx hy hxy
  · intro i x hx
    by_cases hi : i = k
    · subst hi
      rw [gU_same] at hx
      cases hx
      exact (h2.2 _ _ hk : A a)
    · rw [gU_ne _ _ hi] at hx
      exact h2.2 i x hx
theorem gS.push {D : va_G} {A : Nat → Prop} {H0 H H1 : Heap} {w : gW} {locs : List Loc} {k : Nat} {e : va_E} (h : gS D A H0 w H locs) (hk : w k = none) (hA : ∀ q, H0.size ≤ q → A q) (he : va_at D gCl (H.size, e) H1) (hz : H1.size = H.size + 1) (ho : ∀ q : Nat, q < H.size → H1[q]? = H[q]?) : gS D A H0 (gU w k (H.size, e)) H1 locs := by
  obtain ⟨h1, h2, h3⟩ := h
  have hlt : ∀ (i : Nat) (x : Nat × va_E), w i = some x → x.1 < H.size := fun i x hx => (h1 i x hx).lt
  refine ⟨?_, ⟨?_, ?_⟩, ⟨Nat.le_trans h3.1 (by omega), fun x g1 g2 => (ho x (Nat.lt_of_lt_of_le g1 h3.1)).trans (h3.2.1 x g1 g2), h3.2.2⟩⟩
  · intro i x hx
    by_cases hi : i = k
    · subst hi
      rw [gU_same] at hx
      cases hx
      exact he
    · rw [gU_ne _ _ hi] at hx
      exact (h1 i x hx).kept (ho x.1 (hlt i x hx))
  · intro i j x y hx hy hxy
    by_cases hi : i = k
    · by_cases hj : j = k
      · rw [hi, hj]
      · subst hi
        rw [gU_same] at hx
        rw [gU_ne _ _ hj] at hy
        cases hx
        have := hlt j y hy
        have e9 : H.size = y.1 := hxy
        omega
    · by_cases hj : j = k
      · subst hj
        rw [gU_same] at hy
        rw [gU_ne _ _ hi] at hx
        cases hy
        have := hlt i x hx
        have e9 : x.1 = H.size := hxy
        omega
      · rw [gU_ne _ _ hi] at hx
        rw [gU_ne _ _ hj] at hy
        exact h2.1 i j x y hx hy hxy
  · intro i x hx
    by_cases hi : i = k
    · subst hi
      rw [gU_same] at hx
      cases hx
      exact hA _ h3.1
    · rw [gU_ne _ _ hi] at hx
      exact h2.2 i x hx
/-! WHAT EVERY METHOD KNOWS -/
def gStr (L : List (Nat × String)) (U : State) : Prop := ∀ q ∈ L, ∃ sa : Nat, vk_R RX5 q.1 q.2 sa U
def gSs : List (Nat × String) := [(60, "a length is 4 to 64, a multiple of 4"), (67, "there are 4 forms"), (76, "no such place"), (79, "there are 6 pieces"), (105, "a set of days is 0 to 31"), (121, "a piece is played"), (123, "the piece is forbidden today"), (133, "the drum tells HOLD to CUT"), (144, "beats are 1 to 100"), (161, "it is told of 0 to 5"), (174, "days are 1 to 100"), (184, "a pitch is 5000 to 200000"), (189, "a drift is 0 to 50"), (194, "years are 1 to 30"), (196, "it would be above 300 years"), (201, "a set is tuned by another one"), (214, "a set of parts is 0 to 15"), (216, "there are 8 players"), (227, "nobody learns of oneself"), (229, "the other one does not know it"), (242, "the player does not know it"), (257, "no such form"), (259, "no such piece"), (261, "no such set"), (263, "no such player"), (269, "no such part"), (271, "no such tone"), (273, "a tone is 1 to 7, a rest 0"), (275, "a level is 0 to 3"), (280, "a stroke is 0 to the density less 1"), (282, "nothing is played")]
abbrev gIA : String := "java/lang/IllegalArgumentException"
abbrev gIS : String := "java/lang/IllegalStateException"
abbrev gIO : String := "java/lang/IndexOutOfBoundsException"
def gRs : List String := [RX2, RX0, RX3, RX1]
def gNs : List (String × String) := [(gIA, gIS), (gIA, gIO), (gIS, gIA), (gIS, gIO), (gIO, gIA), (gIO, gIS)]
def gEs : List String := [gIA, gIS, gIO]
def gFn : List (Nat × String × String × String) := [(158, RX4, "pieceNumber", "I"), (141, RX4, "place", "I"), (149, RX4, "beatLength", "I"), (152, RX4, "level", "I"), (155, RX4, "gongs", "I"), (117, RX4, "goesOn", "Z"), (163, RX4, "ticksGone", "J"), (191, RX0, "yearlyDrift", "I"), (88, RX2, "melody", "LGongCycles$Melody;"), (107, RX2, "forbiddenDays", "I"), (248, RX3, "ableParts", "I")]
def gMn : List (String × Nat × MethodName) := [(RX5, 28, yX4_init), (RX4, 51, yX5_densityOf)]
def gDs : List MethodName := [⟨"java/lang/Exception", "<init>", "()V"⟩, ⟨"java/lang/Exception", "<init>", "(Ljava/lang/String;)V"⟩, ⟨"java/lang/RuntimeException", "<init>", "()V"⟩, ⟨"java/lang/RuntimeException", "<init>", "(Ljava/lang/String;)V"⟩, ⟨"java/lang/Throwable", "<init>", "()V"⟩, ⟨"java/lang/Throwable", "<init>", "(Ljava/lang/String;)V"⟩]
def gX (A : Nat → Prop) (U : State) (H : Heap) : Prop := vx_Zq Bundle.tN "UNASSIGNED_STACK" Bundle.steD A U H ∧ vx_Zq Bundle.tN "SUPPRESSED_SENTINEL" Bundle.listD A U H ∧ gStr gSs U ∧ (∀ C ∈ gRs, va_AO C U) ∧ (∀ q ∈ gNs, va_Nc q.1 q.2 U) ∧ (∀ E ∈ gEs, va_Nw (.castable E E) U) ∧ (∀ q ∈ gFn, va_Nw (.fieldLinkNest RX5 q.1 q.2.1 q.2.2.1 q.2.2.2 RX5) U) ∧ (∀ q ∈ gMn, va_Nw (.methodLinkNest q.1 q.2.1 q.2.2 RX5) U) ∧ (∀ x ∈ gDs, va_Nw (.declares x) U)
theorem gX_blind {A : Nat → Prop} {U : State} {g : JFrame} {mk : MethodId} {a : Array Value} {H : Heap} (h : gX A U H) : gX A (U.calling g mk a) H := by
  obtain ⟨h5, h6, h7, h8, h9, h10, h11, h12, h13⟩ := h
  exact ⟨vx_Zq.moved (u := U) (U := U.calling g mk a) (Vm.Alike.refl U.vm) h5, vx_Zq.moved (u := U) (U := U.calling g mk a) (Vm.Alike.refl U.vm) h6, fun q hq => by obtain ⟨sa, h⟩ := h7 q hq; exact ⟨sa, vk_R.same (u := U) (U := U.calling g mk a) rfl h⟩,
    fun C hC => va_AO.moved (u := U) (U := U.calling g mk a) (Vm.Alike.refl U.vm) (h8 C hC), fun q hq => va_Nc.moved (u := U) (U := U.calling g mk a) (Vm.Alike.refl U.vm) (h9 q hq), fun E hE => va_Nw.warmC (s := U) (U := U.calling g mk a) (State.WarmedH.refl U) (h10 E hE),
    fun q hq => va_Nw.warmF (s := U) (U := U.calling g mk a) (State.WarmedH.refl U) (h11 q hq), fun q hq => va_Nw.warmM (s := U) (U := U.calling g mk a) (State.WarmedH.refl U) (h12 q hq), fun x hx => va_Nw.warmD (s := U) (U := U.calling g mk a) (State.WarmedH.refl U) (h13 x hx)⟩
def gB (D : va_G) (tc : Nat → ClassId) (A : Nat → Prop) (w : gW) (U : State) : Prop := gAt D w U.heap ∧ gDj A w ∧ (∀ q, U.heap.size ≤ q → A q) ∧ va_K D gCl (gTy tc) U ∧ gX A U U.heap
def gQ (D : va_G) (A : Nat → Prop) (post : Option Value → gW → Prop) : Array Value → State → Outcome → State → Prop := fun _ st oc t => (∃ (v : Option Value) (w : gW), oc = .returned v ∧ post v w ∧ gAt D w t.heap ∧ gDj A w) ∧ va_F A st t
def gXC (D : va_G) (A : Nat → Prop) (w : gW) (thr : String → Prop) : String → State → State → Prop := fun E st t => thr E ∧ gAt D w t.heap ∧ va_F A st t
def gM (l : Launch) (y : MethodName) (cc : ByteArray) (nL : Nat) (rt : Option FieldType) (rm : Room) (D : va_G) (tc : Nat → ClassId) (A : Nat → Prop) (args : List Value) (w : gW) (post : Option Value → gW → Prop) (thr : String → Prop) : Prop :=
  vx_Met l y (Cond.code y cc nL rt :: gT) rm (va_Pc args (gB D tc A w)) (gQ D A post) (gXC D A w thr) rm.cells rm.slots A
def gMH (l : Launch) (y : MethodName) (cc : ByteArray) (nL : Nat) (rt : Option FieldType) (hh : List (Nat × Nat × Nat × Nat)) (rm : Room) (D : va_G) (tc : Nat → ClassId) (A : Nat → Prop) (args : List Value) (w : gW) (post : Option Value → gW → Prop) (thr : String → Prop) : Prop :=
  vx_Met l y (Cond.codeWith y cc nL rt hh :: gT) rm (va_Pc args (gB D tc A w)) (gQ D A post) (gXC D A w thr) rm.cells rm.slots A
theorem gMet_of {l : Launch} {y : MethodName} {ws : List Cond} {rm : Room} {Pc : Array Value → State → Prop} {Qc : Array Value → State → Outcome → State → Prop} {XC : String → State → State → Prop} {mc ms : Nat} {free : Addr → Prop} (hX : ∀ E st t, ¬ XC E st t) (h : vx_Met l y ws rm Pc Qc XC mc ms free) : Met l y ws rm Pc Qc mc ms free := by
  intro p e ha hc hk s m args below hf happ hP hT
  obtain ⟨t, o, h1, h2, h3, h4⟩ := h p e ha hc hk s m args below hf happ hP hT
  refine ⟨t, o, h1, h2, h3, ?_⟩
  rcases h4 with h4 | ⟨q, -, E, ce, L, hx, -⟩
  · exact h4
  · exact absurd hx (hX _ _ _)
theorem gB_blind {D : va_G} {tc : Nat → ClassId} {A : Nat → Prop} {args : List Value} {w : gW} : FrameBlind (va_Pc args (gB D tc A w)) := by
  intro a U g mk h
  obtain ⟨h0, h1, h2, h3, h4, h5⟩ := h
  exact ⟨h0, h1, h2, h3, va_K.moved (u := U) (U := U.calling g mk a) (Vm.Alike.refl U.vm) h4, gX_blind h5⟩
section GROWS
variable {p : Program} {l : Launch} {e : Env} {R : Room} {s : State} {m : MethodId} {args : Array Value} {below : List Frame} {meth : Method} {c : Code} {H : Heap} {locs : List Loc} {cells slots : Nat} {Q : State → Prop}
variable {cc : ByteArray} {nL pc : Nat} {own : String} {ls : Array Slot} {rest : List Value} {D : va_G} {tc : Nat → ClassId} {A : Nat → Prop} {a : Nat} {w : gW}
/-- what stands at a method's entry, and through its walk -/
def gE (p : Program) (l : Launch) (s : State) (m : MethodId) (args : Array Value) (meth : Method) (c : Code) (cc : ByteArray) (nL : Nat) (own : String) (D : va_G) (tc : Nat → ClassId) (A : Nat → Prop) : Prop :=
  p.tables.exec = Jvm.exec ∧ c.code = cc ∧ c.maxLocals = nL ∧ s.vm.findClass own = some m.cls ∧ (∀ w ∈ gT, w.before args s = true) ∧ va_K D gCl (gTy tc) s ∧ gX A s s.heap ∧ (∀ q, s.heap.size ≤ q → A q) ∧ meth.locks = false
theorem gX_warm {H1 : Heap} {U : State} (h : gX A s s.heap) (hS : va_S A s.heap H1 locs) (hU : U.heap = H1) (hW : s.WarmedH U.vm) : gX A U U.heap := by
  obtain ⟨h5, h6, h7, h8, h9, h10, h11, h12, h13⟩ := h
  have hk : ∀ q : Nat, q < s.heap.size → ¬ A q → U.heap[q]? = s.heap[q]? := by rw [hU]; exact hS.2.1
  exact ⟨vx_Zq.moved hW.alike (vx_Zq.kept h5 hk), vx_Zq.moved hW.alike (vx_Zq.kept h6 hk), fun q hq => by obtain ⟨sa, h⟩ := h7 q hq; exact ⟨sa, vk_R.warm hW h⟩,
    fun C hC => va_AO.moved hW.alike (h8 C hC), fun q hq => va_Nc.moved hW.alike (h9 q hq), fun E hE => va_Nw.warmC hW (h10 E hE), fun q hq => va_Nw.warmF hW (h11 q hq), fun q hq => va_Nw.warmM hW (h12 q hq), fun x hx => va_Nw.warmD hW (h13 x hx)⟩
theorem gB_at (hE : gE p l s m args meth c cc nL own D tc A) (hG : gS D A s.heap w H locs) : ∀ U : State, U.heap = H → s.WarmedH U.vm → gB D tc A w U := by
  intro U hU hW
  obtain ⟨-, -, -, -, -, hK, hX, hA, -⟩ := hE
  obtain ⟨h1, h2, h3⟩ := hG
  exact ⟨by rw [hU]; exact h1, h2, fun q hq => hA q (Nat.le_trans h3.1 (by rw [hU] at hq; exact hq)), va_K.moved hW.alike hK, gX_warm hX h3 hU hW⟩
/-! fields -/
theorem g_get (hE : gE p l s m args meth c cc nL own D tc A) (hG : gS D A s.heap w H locs) {k0 ci : Nat} {fs : List Value} (he : w k0 = some (a, .inr (ci, fs))) {C : String} {T : u_T} {N index : Nat} (hc : gCl[ci]? = some (C, T, N)) (hin : ∀ w ∈ u_ws C T N, w ∈ gT) (k : Nat) (hk : k < N) (hlink : Cond.fieldLink own index (T k).1 (T k).2.1 (T k).2.2.1 ∈ gT) {v : Value} (hv : fs[k]? = some v) (hdg : decode cc pc = .ok (.getfield index, 3))
    (kk : W p l e R s m args below meth c H locs cells slots Q (F0 m (pc + 3) ls (v :: rest))) : W p l e R s m args below meth c H locs cells slots Q (F0 m pc ls (.ref a :: rest)) :=
  va_get hE.1 hE.2.1 hE.2.2.2.2.1 hin hE.2.2.2.1 hE.2.2.2.2.2.1 (gAt_one hG.1 he) 0 rfl hc k hk (hE.2.2.2.2.1 _ hlink) (fun _ h => h) hv hdg kk
theorem g_getN (hE : gE p l s m args meth c cc nL RX5 D tc A) (hG : gS D A s.heap w H locs) {k0 ci : Nat} {fs : List Value} (he : w k0 = some (a, .inr (ci, fs))) {C : String} {T : u_T} {N index : Nat} (hc : gCl[ci]? = some (C, T, N)) (hin : ∀ w ∈ u_ws C T N, w ∈ gT) (k : Nat) (hk : k < N) (hlink : (index, (T k).1, (T k).2.1, (T k).2.2.1) ∈ gFn) {v : Value} (hv : fs[k]? = some v) (hdg : decode cc pc = .ok (.getfield index, 3))
    (kk : W p l e R s m args below meth c H locs cells slots Q (F0 m (pc + 3) ls (v :: rest))) : W p l e R s m args below meth c H locs cells slots Q (F0 m pc ls (.ref a :: rest)) :=
  va_getN hE.1 hE.2.1 hE.2.2.2.2.1 hin hE.2.2.2.1 hE.2.2.2.2.2.1 (gAt_one hG.1 he) 0 rfl hc k hk (va_Nw.use (A := args) rfl (hE.2.2.2.2.2.2.1.2.2.2.2.2.2.1 _ hlink)) (fun _ h => h) hv hdg kk
theorem g_put (hE : gE p l s m args meth c cc nL own D tc A) (hG : gS D A s.heap w H locs) {k0 ci : Nat} {fs : List Value} (he : w k0 = some (a, .inr (ci, fs))) {C : String} {T : u_T} {N index : Nat} (hc : gCl[ci]? = some (C, T, N)) (hin : ∀ w ∈ u_ws C T N, w ∈ gT) (ty0 : Nat → FieldType) (hty : ∀ k, k < N → parseFieldDescriptor (T k).2.2.1 = some (ty0 k)) (hnm : ∀ a, a < N → ∀ b, b < N → a ≠ b → (T a).2.1 ≠ (T b).2.1)
    (k : Nat) (hk : k < N) (hlink : Cond.fieldLink own index (T k).1 (T k).2.1 (T k).2.2.1 ∈ gT) (hfin : (T k).2.2.2 = false) {v : Value} (hn : narrow (ty0 k) v = v) (hfit : fits (ty0 k) v = true) (hl : k < fs.length) (hdg : decode cc pc = .ok (.putfield index, 3))
    (kk : ∀ (H1 : Heap) (locs1 : List Loc) (w1 : gW), w1 = gU w k0 (a, .inr (ci, fs.set k v)) → gS D A s.heap w1 H1 locs1 → W p l e R s m args below meth c H1 locs1 cells slots Q (F0 m (pc + 3) ls rest)) : W p l e R s m args below meth c H locs cells slots Q (F0 m pc ls (v :: .ref a :: rest)) := by
  obtain ⟨hexec, hb, -, hown, hts, hK, -, -, -⟩ := hE
  have hap := va_apart (own := own) hts hin ty0 hty hnm hK hc
  obtain ⟨r, h1, cell, q1, q2, q3, q4⟩ := hG.1 k0 _ he
  have hr : r = (C, T, N) := Option.some.inj (h1.symm.trans hc)
  subst hr
  obtain ⟨hS, hfc, kC, hkC, hkind⟩ := hK.1 ci _ hc
  obtain ⟨cf, kf, fi, f, hi, hsl⟩ := hS k hk
  have hlay := hts _ (hin _ (u_in_lay hk))
  unfold u_lay at hlay
  rw [if_neg (by rw [hfin]; decide)] at hlay
  have hst := (u_facts hfc hkC (u_lays hts hin hk) hi).1
  have h6 := u_store hfc hkC hkind hlay hi (hty k hk) hn hfit
  refine W.putK hexec hb (f := f) ⟨hown, hts _ hlink, ⟨_, _, _, hi⟩, hst⟩ (by rw [q2]; exact h6) q1 q3 (by rw [hsl]; exact k2_hasslot (q4 k hk)) rfl rfl hdg fun H' e1 e2 e3 => ?_
  rw [hsl] at e1 ⊢
  exact kk H' _ _ rfl (hG.set he ⟨_, hc, t_OB.to (V := updV (vp_V fs) k v) ⟨_, e1, q2, q3, t_set q4 hap hk v⟩ (fun j _ => vp_updV_set hl v j)⟩ e2 e3)
theorem g_putN (hE : gE p l s m args meth c cc nL RX5 D tc A) (hG : gS D A s.heap w H locs) {k0 ci : Nat} {fs : List Value} (he : w k0 = some (a, .inr (ci, fs))) {C : String} {T : u_T} {N index : Nat} (hc : gCl[ci]? = some (C, T, N)) (hin : ∀ w ∈ u_ws C T N, w ∈ gT) (ty0 : Nat → FieldType) (hty : ∀ k, k < N → parseFieldDescriptor (T k).2.2.1 = some (ty0 k)) (hnm : ∀ a, a < N → ∀ b, b < N → a ≠ b → (T a).2.1 ≠ (T b).2.1)
    (k : Nat) (hk : k < N) (hlink : (index, (T k).1, (T k).2.1, (T k).2.2.1) ∈ gFn) (hfin : (T k).2.2.2 = false) {v : Value} (hn : narrow (ty0 k) v = v) (hfit : fits (ty0 k) v = true) (hl : k < fs.length) (hdg : decode cc pc = .ok (.putfield index, 3))
    (kk : ∀ (H1 : Heap) (locs1 : List Loc) (w1 : gW), w1 = gU w k0 (a, .inr (ci, fs.set k v)) → gS D A s.heap w1 H1 locs1 → W p l e R s m args below meth c H1 locs1 cells slots Q (F0 m (pc + 3) ls rest)) : W p l e R s m args below meth c H locs cells slots Q (F0 m pc ls (v :: .ref a :: rest)) := by
  obtain ⟨hexec, hb, -, hown, hts, hK, hX, -, -⟩ := hE
  have hap := va_apart (own := RX5) hts hin ty0 hty hnm hK hc
  obtain ⟨r, h1, cell, q1, q2, q3, q4⟩ := hG.1 k0 _ he
  have hr : r = (C, T, N) := Option.some.inj (h1.symm.trans hc)
  subst hr
  obtain ⟨hS, hfc, kC, hkC, hkind⟩ := hK.1 ci _ hc
  obtain ⟨cf, kf, fi, f, hi, hsl⟩ := hS k hk
  have hlay := hts _ (hin _ (u_in_lay hk))
  unfold u_lay at hlay
  rw [if_neg (by rw [hfin]; decide)] at hlay
  have hst := (u_facts hfc hkC (u_lays hts hin hk) hi).1
  have h6 := u_store hfc hkC hkind hlay hi (hty k hk) hn hfit
  refine va_WputK hexec hb (f := f) hown (va_Nw.use (A := args) rfl (hX.2.2.2.2.2.2.1 _ hlink)) hi hst (by rw [q2]; exact h6) q1 q3 (by rw [hsl]; exact k2_hasslot (q4 k hk)) rfl rfl hdg fun H' e1 e2 e3 => ?_
  rw [hsl] at e1 ⊢
  exact kk H' _ _ rfl (hG.set he ⟨_, hc, t_OB.to (V := updV (vp_V fs) k v) ⟨_, e1, q2, q3, t_set q4 hap hk v⟩ (fun j _ => vp_updV_set hl v j)⟩ e2 e3)
theorem g_putF (hE : gE p l s m args meth c cc nL own D tc A) (hG : gS D A s.heap w H locs) {k0 ci : Nat} {fs : List Value} (he : w k0 = some (a, .inr (ci, fs))) {C : String} {T : u_T} {N index : Nat} (hc : gCl[ci]? = some (C, T, N)) (hin : ∀ w ∈ u_ws C T N, w ∈ gT) (ty0 : Nat → FieldType) (hty : ∀ k, k < N → parseFieldDescriptor (T k).2.2.1 = some (ty0 k)) (hnm : ∀ a, a < N → ∀ b, b < N → a ≠ b → (T a).2.1 ≠ (T b).2.1)
    (k : Nat) (hk : k < N) (hlink : Cond.fieldLink own index (T k).1 (T k).2.1 (T k).2.2.1 ∈ gT) (hfin : (T k).2.2.2 = true) (hin2 : meth.name = "<init>") (hdecl : (T k).1 = own) {v : Value} (hn : narrow (ty0 k) v = v) (hfit : fits (ty0 k) v = true) (hl : k < fs.length) (hdg : decode cc pc = .ok (.putfield index, 3))
    (kk : ∀ (H1 : Heap) (locs1 : List Loc) (w1 : gW), w1 = gU w k0 (a, .inr (ci, fs.set k v)) → gS D A s.heap w1 H1 locs1 → W p l e R s m args below meth c H1 locs1 cells slots Q (F0 m (pc + 3) ls rest)) : W p l e R s m args below meth c H locs cells slots Q (F0 m pc ls (v :: .ref a :: rest)) := by
  obtain ⟨hexec, hb, -, hown, hts, hK, -, -, -⟩ := hE
  have hap := va_apart (own := own) hts hin ty0 hty hnm hK hc
  obtain ⟨r, h1, cell, q1, q2, q3, q4⟩ := hG.1 k0 _ he
  have hr : r = (C, T, N) := Option.some.inj (h1.symm.trans hc)
  subst hr
  obtain ⟨hS, hfc, kC, hkC, hkind⟩ := hK.1 ci _ hc
  obtain ⟨cf, kf, fi, f, hi, hsl⟩ := hS k hk
  have hlay := hts _ (hin _ (u_in_lay hk))
  unfold u_lay at hlay
  rw [if_pos hfin] at hlay
  have hst := (u_facts hfc hkC (u_lays hts hin hk) hi).1
  have hcf : m.cls = cf := by
    obtain ⟨_, _, c', _, _, _, -, -, hf', -, -, -, hown2, -⟩ := Cond.laysFinal_spec hlay
    have e1 : c' = cf := by have := hi.symm.trans hf'; simp at this; exact this.1.symm
    rw [hdecl] at hown2
    rw [← e1]; exact Option.some.inj (hown.symm.trans hown2)
  have h6 := u_fits hfc hkC hkind (Or.inr hlay) hi (hty k hk) hn hfit
  refine W.putFinK hexec hb hown (hts _ hlink) hi hst hcf hin2 (by rw [q2]; exact h6) q1 q3 (by rw [hsl]; exact k2_hasslot (q4 k hk)) rfl rfl hdg fun H' e1 e2 e3 => ?_
  rw [hsl] at e1 ⊢
  exact kk H' _ _ rfl (hG.set he ⟨_, hc, t_OB.to (V := updV (vp_V fs) k v) ⟨_, e1, q2, q3, t_set q4 hap hk v⟩ (fun j _ => vp_updV_set hl v j)⟩ e2 e3)
/-! arrays -/
theorem g_iald (hE : gE p l s m args meth c cc nL own D tc A) (hG : gS D A s.heap w H locs) {k0 n : Nat} {f : Nat → Int32} (he : w k0 = some (a, .inl (tc 0, n, .inl f))) {i : Int32} (hin : vp_in i n) (hdg : decode cc pc = .ok (.iaload, 1))
    (kk : W p l e R s m args below meth c H locs cells slots Q (F0 m (pc + 1) ls (.int (f i.toNatClampNeg) :: rest))) : W p l e R s m args below meth c H locs cells slots Q (F0 m pc ls (.int i :: .ref a :: rest)) :=
  va_iald hE.1 hE.2.1 hE.2.2.2.2.2.1 (gAt_one hG.1 he) 0 0 rfl rfl hin hdg kk
theorem g_zald (hE : gE p l s m args meth c cc nL own D tc A) (hG : gS D A s.heap w H locs) {k0 n : Nat} {f : Nat → Int32} (he : w k0 = some (a, .inl (tc 2, n, .inl f))) {i : Int32} (hin : vp_in i n) (hdg : decode cc pc = .ok (.baload, 1))
    (kk : W p l e R s m args below meth c H locs cells slots Q (F0 m (pc + 1) ls (.int (f i.toNatClampNeg) :: rest))) : W p l e R s m args below meth c H locs cells slots Q (F0 m pc ls (.int i :: .ref a :: rest)) :=
  va_zald hE.1 hE.2.1 hE.2.2.2.2.2.1 (gAt_one hG.1 he) 0 2 rfl rfl hin hdg kk
theorem g_lald (hE : gE p l s m args meth c cc nL own D tc A) (hG : gS D A s.heap w H locs) {k0 n : Nat} {f : Nat → Int64} (he : w k0 = some (a, .inl (tc 1, n, .inr (.inl f)))) {i : Int32} (hin : vp_in i n) (hdg : decode cc pc = .ok (.laload, 1))
    (kk : W p l e R s m args below meth c H locs cells slots Q (F0 m (pc + 1) ls (.long (f i.toNatClampNeg) :: rest))) : W p l e R s m args below meth c H locs cells slots Q (F0 m pc ls (.int i :: .ref a :: rest)) :=
  va_lald hE.1 hE.2.1 hE.2.2.2.2.2.1 (gAt_one hG.1 he) 0 1 rfl rfl hin hdg kk
theorem g_aald (hE : gE p l s m args meth c cc nL own D tc A) (hG : gS D A s.heap w H locs) {k0 n t0 : Nat} {cA : ClassId} {C : String} {f : Nat → Option Nat} (he : w k0 = some (a, .inl (cA, n, .inr (.inr (.inr (.inr f)))))) (ht : (gTy tc)[t0]? = some (cA, .object C)) {i : Int32} (hin : vp_in i n) (hdg : decode cc pc = .ok (.aaload, 1))
    (kk : W p l e R s m args below meth c H locs cells slots Q (F0 m (pc + 1) ls (va_rf (f i.toNatClampNeg) :: rest))) : W p l e R s m args below meth c H locs cells slots Q (F0 m pc ls (.int i :: .ref a :: rest)) :=
  va_aldq hE.1 hE.2.1 hE.2.2.2.2.2.1 (gAt_one hG.1 he) 0 t0 rfl ht hin hdg kk
theorem g_alen (hE : gE p l s m args meth c cc nL own D tc A) (hG : gS D A s.heap w H locs) {k0 t0 : Nat} {cA : ClassId} {x : vp_A} (he : w k0 = some (a, .inl (cA, x))) {ty : FieldType} (ht : (gTy tc)[t0]? = some (cA, ty)) {v : Int32} (hv : Int32.ofNat x.1 = v) (hdg : decode cc pc = .ok (.arraylength, 1))
    (kk : W p l e R s m args below meth c H locs cells slots Q (F0 m (pc + 1) ls (.int v :: rest))) : W p l e R s m args below meth c H locs cells slots Q (F0 m pc ls (.ref a :: rest)) :=
  va_alen hE.1 hE.2.1 hE.2.2.2.2.2.1 (gAt_one hG.1 he) 0 t0 rfl ht hv hdg kk
theorem g_iast (hE : gE p l s m args meth c cc nL own D tc A) (hG : gS D A s.heap w H locs) {k0 n : Nat} {f : Nat → Int32} (he : w k0 = some (a, .inl (tc 0, n, .inl f))) {i x : Int32} (hin : vp_in i n) (hdg : decode cc pc = .ok (.iastore, 1))
    (kk : ∀ (H1 : Heap) (locs1 : List Loc) (w1 : gW), w1 = gU w k0 (a, .inl (tc 0, n, .inl (upd f i.toNatClampNeg x))) → gS D A s.heap w1 H1 locs1 → W p l e R s m args below meth c H1 locs1 cells slots Q (F0 m (pc + 1) ls rest)) : W p l e R s m args below meth c H locs cells slots Q (F0 m pc ls (.int x :: .int i :: .ref a :: rest)) := by
  obtain ⟨hexec, hb, -, hown, hts, hK, -, -, -⟩ := hE
  refine W.iast hexec hb (hG.1 k0 _ he) ((hK.2 0 _ rfl).1 n (fun j => .int (f j))) (fun q => by cases q) (by show ¬ (i < 0 ∨ (arrV _ _ _).slots.size ≤ _); rw [arrV_size]; exact hin) rfl rfl hdg fun H1 e z oq => ?_
  refine kk H1 _ _ rfl (hG.set he ?_ z oq)
  show H1[a]? = some (vp_cell _ _)
  rw [e]
  rw [vp_cell_i, vp_cell_i, arrV_store]
  congr 2
  funext q
  by_cases hq : q = i.toNatClampNeg
  · subst hq
    simp [updV, upd]
  · simp [updV, upd, hq]
theorem g_last (hE : gE p l s m args meth c cc nL own D tc A) (hG : gS D A s.heap w H locs) {k0 n : Nat} {f : Nat → Int64} (he : w k0 = some (a, .inl (tc 1, n, .inr (.inl f)))) {i : Int32} {x : Int64} (hin : vp_in i n) (hdg : decode cc pc = .ok (.lastore, 1))
    (kk : ∀ (H1 : Heap) (locs1 : List Loc) (w1 : gW), w1 = gU w k0 (a, .inl (tc 1, n, .inr (.inl (vp_updL f i.toNatClampNeg x)))) → gS D A s.heap w1 H1 locs1 → W p l e R s m args below meth c H1 locs1 cells slots Q (F0 m (pc + 1) ls rest)) : W p l e R s m args below meth c H locs cells slots Q (F0 m pc ls (.long x :: .int i :: .ref a :: rest)) := by
  obtain ⟨hexec, hb, -, hown, hts, hK, -, -, -⟩ := hE
  refine W.last hexec hb (hG.1 k0 _ he) ((hK.2 1 _ rfl).1 n (fun j => .long (f j))) (fun q => by cases q) (by show ¬ (i < 0 ∨ (arrV _ _ _).slots.size ≤ _); rw [arrV_size]; exact hin) rfl rfl hdg fun H1 e z oq => ?_
  refine kk H1 _ _ rfl (hG.set he ?_ z oq)
  show H1[a]? = some (vp_cell _ _)
  rw [e]
  rw [vp_cell_l, vp_cell_l, arrV_store]
  congr 2
  funext q
  by_cases hq : q = i.toNatClampNeg
  · subst hq
    simp [updV, vp_updL]
  · simp [updV, vp_updL, hq]
theorem g_zast (hE : gE p l s m args meth c cc nL own D tc A) (hG : gS D A s.heap w H locs) {k0 n : Nat} {f : Nat → Int32} (he : w k0 = some (a, .inl (tc 2, n, .inl f))) {i x : Int32} (hx : narrow .boolean (.int x) = .int x) (hin : vp_in i n) (hdg : decode cc pc = .ok (.bastore, 1))
    (kk : ∀ (H1 : Heap) (locs1 : List Loc) (w1 : gW), w1 = gU w k0 (a, .inl (tc 2, n, .inl (upd f i.toNatClampNeg x))) → gS D A s.heap w1 H1 locs1 → W p l e R s m args below meth c H1 locs1 cells slots Q (F0 m (pc + 1) ls rest)) : W p l e R s m args below meth c H locs cells slots Q (F0 m pc ls (.int x :: .int i :: .ref a :: rest)) := by
  obtain ⟨hexec, hb, -, hown, hts, hK, -, -, -⟩ := hE
  refine W.zast hexec hb (hG.1 k0 _ he) ((hK.2 2 _ rfl).1 n (fun j => .int (f j))) (fun q => by cases q) (by show ¬ (i < 0 ∨ (arrV _ _ _).slots.size ≤ _); rw [arrV_size]; exact hin) rfl rfl hdg fun H1 e z oq => ?_
  refine kk H1 _ _ rfl (hG.set he ?_ z oq)
  show H1[a]? = some (vp_cell _ _)
  rw [e, hx]
  rw [vp_cell_i, vp_cell_i, arrV_store]
  congr 2
  funext q
  by_cases hq : q = i.toNatClampNeg
  · subst hq
    simp [updV, upd]
  · simp [updV, upd, hq]
theorem g_aast (hE : gE p l s m args meth c cc nL own D tc A) (hG : gS D A s.heap w H locs) {k0 k1 n t0 v ci : Nat} {cA : ClassId} {r : vw_C} {vs : List Value} {f : Nat → Option Nat} (he : w k0 = some (a, .inl (cA, n, .inr (.inr (.inr (.inr f)))))) (ht : (gTy tc)[t0]? = some (cA, .object r.1)) (hv : w k1 = some (v, .inr (ci, vs))) (hc : gCl[ci]? = some r) {i : Int32} (hin : vp_in i n) (hdg : decode cc pc = .ok (.aastore, 1))
    (kk : ∀ (H1 : Heap) (locs1 : List Loc) (w1 : gW), w1 = gU w k0 (a, .inl (cA, n, .inr (.inr (.inr (.inr (va_up f i.toNatClampNeg (some v))))))) → gS D A s.heap w1 H1 locs1 → W p l e R s m args below meth c H1 locs1 cells slots Q (F0 m (pc + 1) ls rest)) : W p l e R s m args below meth c H locs cells slots Q (F0 m pc ls (.ref v :: .int i :: .ref a :: rest)) := by
  obtain ⟨hexec, hb, -, hown, hts, hK, -, -, -⟩ := hE
  have hlt : i.toNatClampNeg < n := Nat.not_le.mp fun q => hin (Or.inr q)
  have h0 : ¬ i < 0 := fun q => hin (Or.inl q)
  obtain ⟨r', hr', cellV, g1, g2, g3, -⟩ := hG.1 k1 _ hv
  have hcls := (hK.1 ci r hc).2
  obtain ⟨kA, comp, j1, j2, j3, -⟩ := (hK.2 t0 _ ht).2
  have hcomp : comp = D.1 ci := Option.some.inj (j3.symm.trans hcls.1)
  subst hcomp
  obtain ⟨kC, hkC, -⟩ := hcls.2
  refine W.aast hexec hb (hG.1 k0 _ he) (fun q h => by cases h) (fun h => by cases h) j1 j2 rfl hkC ⟨h0, by show _ < (arrV _ _ _).slots.size; rw [arrV_size]; exact hlt⟩ g1 (fun q h => by rw [g3] at h; cases h) (by rw [g2]; exact hkC) (by rw [g2]; exact va_assign hcls) rfl rfl hdg fun H1 e z oq => ?_
  refine kk H1 _ _ rfl (hG.set he ?_ z oq)
  show H1[a]? = some (vp_cell _ _)
  rw [e]
  rw [vp_cell_q, vp_cell_q, arrV_store]
  congr 2
  funext q
  by_cases hq : q = i.toNatClampNeg
  · subst hq
    simp [updV, va_up, va_rf]
  · simp [updV, va_up, hq]
/-! new things -/
theorem g_new (hE : gE p l s m args meth c cc nL own D tc A) (hG : gS D A s.heap w H locs) {ci : Nat} {C : String} {T : u_T} {N index : Nat} (hc : gCl[ci]? = some (C, T, N)) (hin : ∀ w ∈ u_ws C T N, w ∈ gT) (ty0 : Nat → FieldType) (hty : ∀ k, k < N → parseFieldDescriptor (T k).2.2.1 = some (ty0 k)) (hcl : Cond.classLink own index C ∈ gT) (hinst : Cond.instantiable C N ∈ gT) (hini : Cond.initialized C ∈ gT) {fs : List Value} (hfs : ∀ j, j < N → defaultValue (ty0 j) = vp_V fs j) (hcells : cells + 1 ≤ R.cells) (hslots : slots + N ≤ R.slots) (k0 : Nat) (hk0 : w k0 = none) (hdg : decode cc pc = .ok (.new index, 3))
    (kk : ∀ (q : Nat) (H1 : Heap) (w1 : gW), w1 = gU w k0 (q, .inr (ci, fs)) → gS D A s.heap w1 H1 locs → W p l e R s m args below meth c H1 locs (cells + 1) (slots + N) Q (F0 m (pc + 3) ls (.ref q :: rest))) : W p l e R s m args below meth c H locs cells slots Q (F0 m pc ls rest) := by
  obtain ⟨hexec, hb, -, hown, hts, hK, -, hA, -⟩ := hE
  have hKn := hK.1 ci _ hc
  refine W.newcK hexec hb hown (hts _ hcl) (hts _ hinst) (hts _ hini) rfl hdg hcells hslots hKn.2.1 rfl fun H1 kC hkC e1 z1 o1 => ?_
  exact kk H.size H1 _ rfl (hG.push hk0 hA ⟨_, hc, (u_born ty0 hts hin hKn hkC e1 hty).to hfs⟩ z1 o1)
theorem g_newi (hE : gE p l s m args meth c cc nL own D tc A) (hG : gS D A s.heap w H locs) {atype : ArrayType} {t0 : Nat} {ty : FieldType} {a0 : vp_A} (harr : Cond.arrayClass (newarray.typeOf atype) ∈ gT) (hty : newarray.typeOf atype = ty) (ht : (gTy tc)[t0]? = some (tc t0, ty)) (hra : ∀ U cA, va_RA U cA ty → U.vm.findClass ("[" ++ ty.toString) = some cA) {n : Int32} {N' : Nat} (ha : ∀ cA : ClassId, vp_cell cA a0 = arrV cA N' (fun _ => defaultValue ty)) (hn : ¬ n < 0) (hN : n.toNatClampNeg = N') (hbytes : N' * componentBytes ty ≤ 536870912) (hcells : cells + 1 ≤ R.cells) (hslots : slots + N' ≤ R.slots) (k0 : Nat) (hk0 : w k0 = none) (hdg : decode cc pc = .ok (.newarray atype, 2))
    (kk : ∀ (q : Nat) (H1 : Heap) (w1 : gW), w1 = gU w k0 (q, .inl (tc t0, a0)) → gS D A s.heap w1 H1 locs → W p l e R s m args below meth c H1 locs (cells + 1) (slots + N') Q (F0 m (pc + 2) ls (.ref q :: rest))) : W p l e R s m args below meth c H locs cells slots Q (F0 m pc ls (.int n :: rest)) := by
  obtain ⟨hexec, hb, -, hown, hts, hK, -, hA, -⟩ := hE
  subst hty
  refine va_newaK hexec hb (hts _ harr) rfl hdg rfl hn hN hbytes hcells hslots rfl fun H1 cA e1 z1 o1 hAr hNm => ?_
  have hc : cA = tc t0 := Option.some.inj (hNm.symm.trans (hra s _ (hK.2 t0 _ ht).2))
  subst hc
  refine kk H.size H1 _ rfl (hG.push hk0 hA ?_ z1 o1)
  show H1[H.size]? = some (vp_cell _ _)
  rw [ha]
  exact e1
theorem g_newq (hE : gE p l s m args meth c cc nL own D tc A) (hG : gS D A s.heap w H locs) {C : String} {index t0 : Nat} (hcl : Cond.classLink own index C ∈ gT) (hr : C ∈ gRs) (ht : (gTy tc)[t0]? = some (tc t0, .object C)) {n : Int32} {N' : Nat} (hn : ¬ n < 0) (hN : n.toNatClampNeg = N') (hbytes : N' * 4 ≤ 536870912) (hcells : cells + 1 ≤ R.cells) (hslots : slots + N' ≤ R.slots) (k0 : Nat) (hk0 : w k0 = none) (hdg : decode cc pc = .ok (.anewarray index, 3))
    (kk : ∀ (q : Nat) (H1 : Heap) (w1 : gW), w1 = gU w k0 (q, .inl (tc t0, N', .inr (.inr (.inr (.inr (fun _ => none)))))) → gS D A s.heap w1 H1 locs → W p l e R s m args below meth c H1 locs (cells + 1) (slots + N') Q (F0 m (pc + 3) ls (.ref q :: rest))) : W p l e R s m args below meth c H locs cells slots Q (F0 m pc ls (.int n :: rest)) := by
  obtain ⟨hexec, hb, -, hown, hts, hK, hX, hA, -⟩ := hE
  subst hN
  refine W.anew hexec hb hown (hts _ hcl) (va_AO.use (hX.2.2.2.1 C hr)) rfl hdg rfl hn hbytes hcells hslots fun cA kA comp f1 f2 f3 f4 => ?_
  generalize hH1 : H.push ({ cls := cA, slots := Array.replicate n.toNatClampNeg .null, vm := .none } : Cell) = H1
  have z1 : H1.size = H.size + 1 := by rw [← hH1, Array.size_push]
  have e1 : H1[H.size]? = some (arrV cA n.toNatClampNeg (fun _ => .null)) := by rw [← hH1, Array.getElem?_push_size, ← arrV_new]
  have o1 : ∀ q : Nat, q < H.size → H1[q]? = H[q]? := fun q hq => by rw [← hH1, Array.getElem?_push, if_neg (Nat.ne_of_lt hq)]
  obtain ⟨kA2, comp2, g1, g2, g3, g4⟩ := (hK.2 t0 _ ht).2
  have hc : cA = tc t0 := Option.some.inj (f1.symm.trans g4)
  subst hc
  refine kk H.size H1 _ rfl (hG.push hk0 hA ?_ z1 o1)
  show H1[H.size]? = some (vp_cell _ _)
  rw [vp_cell_q]
  exact e1
/-! ends -/
theorem gQ_at {post : Option Value → gW → Prop} {v : Option Value} (hG : gS D A s.heap w H locs) (hp : post v w) {ar : Array Value} : ∀ t : State, t.heap = H → s.WarmedH t.vm → gQ D A post ar s (.returned v) t := fun t ht _ => ⟨⟨v, w, rfl, hp, by rw [ht]; exact hG.1, hG.2.1⟩, hG.2.2.F ht⟩
theorem g_iret {post : Option Value → gW → Prop} {XC : String → State → State → Prop} {mc ms : Nat} {v : Int32} (hE : gE p l s m args meth c cc nL own D tc A) (hG : gS D A s.heap w H locs) (hr : meth.sig.returnType = some .int) (hc : cells ≤ mc) (hs : slots ≤ ms) (hdg : decode cc pc = .ok (.ireturn, 1)) (hp : post (some (.int v)) w) : W p l e R s m args below meth c H locs cells slots (vx_MQ below (gQ D A post) XC args s mc ms A) (F0 m pc ls [.int v]) :=
  vx_ret (W.widen hc hs (W.iret hE.1 hE.2.1 hr (gQ_at hG hp) hG.2.2.2.2 hdg hE.2.2.2.2.2.2.2.2))
theorem g_zret {post : Option Value → gW → Prop} {XC : String → State → State → Prop} {mc ms : Nat} {v : Int32} (hE : gE p l s m args meth c cc nL own D tc A) (hG : gS D A s.heap w H locs) (hr : meth.sig.returnType = some .boolean) (hn : narrow .boolean (.int v) = .int v) (hc : cells ≤ mc) (hs : slots ≤ ms) (hdg : decode cc pc = .ok (.ireturn, 1)) (hp : post (some (.int v)) w) : W p l e R s m args below meth c H locs cells slots (vx_MQ below (gQ D A post) XC args s mc ms A) (F0 m pc ls [.int v]) :=
  vx_ret (W.widen hc hs (W.zret hE.1 hE.2.1 hr hn (gQ_at hG hp) hG.2.2.2.2 hdg hE.2.2.2.2.2.2.2.2))
theorem g_lret {post : Option Value → gW → Prop} {XC : String → State → State → Prop} {mc ms : Nat} {v : Int64} (hE : gE p l s m args meth c cc nL own D tc A) (hG : gS D A s.heap w H locs) (hr : meth.sig.returnType = some .long) (hc : cells ≤ mc) (hs : slots ≤ ms) (hdg : decode cc pc = .ok (.lreturn, 1)) (hp : post (some (.long v)) w) : W p l e R s m args below meth c H locs cells slots (vx_MQ below (gQ D A post) XC args s mc ms A) (F0 m pc ls [.long v]) :=
  vx_ret (W.widen hc hs (W.lret hE.1 hE.2.1 hr (gQ_at hG hp) hG.2.2.2.2 hdg hE.2.2.2.2.2.2.2.2))
theorem g_vret {post : Option Value → gW → Prop} {XC : String → State → State → Prop} {mc ms : Nat} (hE : gE p l s m args meth c cc nL own D tc A) (hG : gS D A s.heap w H locs) (hr : meth.sig.returnType = none) (hc : cells ≤ mc) (hs : slots ≤ ms) (hdg : decode cc pc = .ok (.return_, 1)) (hp : post none w) : W p l e R s m args below meth c H locs cells slots (vx_MQ below (gQ D A post) XC args s mc ms A) (F0 m pc ls []) :=
  vx_ret (W.widen hc hs (W.vret hE.1 hE.2.1 hr (gQ_at hG hp) hG.2.2.2.2 hdg hE.2.2.2.2.2.2.2.2))
theorem g_aret {post : Option Value → gW → Prop} {XC : String → State → State → Prop} {mc ms : Nat} {v : Value} {C : String} (hE : gE p l s m args meth c cc nL own D tc A) (hG : gS D A s.heap w H locs) (hr : meth.sig.returnType = some (.object C)) (hv : v = .null ∨ ∃ a, v = .ref a) (hc : cells ≤ mc) (hs : slots ≤ ms) (hdg : decode cc pc = .ok (.areturn, 1)) (hp : post (some v) w) : W p l e R s m args below meth c H locs cells slots (vx_MQ below (gQ D A post) XC args s mc ms A) (F0 m pc ls [v]) :=
  vx_ret (W.widen hc hs (W.aret hE.1 hE.2.1 hr (Or.inl ⟨_, rfl⟩) hv (gQ_at hG hp) hG.2.2.2.2 hdg hE.2.2.2.2.2.2.2.2))
/-! calls -/
/-- behind a call of ours that may throw -/
theorem g_back {post : Option Value → gW → Prop} {thr : String → Prop} {mc ms : Nat} {st0 : List Value} {ar : Array Value} (hr : vx_Run p l e R s m args below meth c H locs cells slots mc ms (F0 m pc ls st0) rest (gQ D A post ar) (gXC D A w thr) A) (hG : gS D A s.heap w H locs)
    (kx : ∀ (E : String) (ce : Cell) (q9 : Addr) (H1 : Heap) (locs1 : List Loc), thr E → gS D A s.heap w H1 locs1 → H1[q9]? = some ce → ce.vm = .none → s.vm.findClass E = some ce.cls → vx_W p l e R s m args below meth c H1 locs1 (cells + mc) (slots + ms) Q (F0 m pc ls rest) q9)
    (kk : ∀ (v : Option Value) (w1 : gW) (H1 : Heap) (locs1 : List Loc), post v w1 → gS D A s.heap w1 H1 locs1 → W p l e R s m args below meth c H1 locs1 (cells + mc) (slots + ms) Q (F0 m (pc + 3) ls (v.toList ++ rest))) : W p l e R s m args below meth c H locs cells slots Q (F0 m pc ls st0) := by
  intro T hT X
  rcases hr T hT X with ⟨v, st₀, t, T', L, h0, X', hL, e1, e2, ⟨⟨v2, w1, hv, hp, hat, hdj⟩, hF⟩, st⟩ | ⟨q, st₀, t, T', L, E, ce, h0, X', hL, e1, e2, ⟨hp, hat, hF⟩, hce, hcv, hcl, st⟩
  · cases hv
    obtain ⟨k1, k2, k3⟩ := vx_keep h0 e1 hG.2.2 (fun _ _ h => h) (fun _ h => h) hL hF
    obtain ⟨t2, a1, b1⟩ := kk v w1 T'.heap (locs ++ L) hp ⟨by rw [e1]; exact hat, hdj, k3⟩ T' rfl X'
    exact ⟨t2, st t2 a1, b1⟩
  · obtain ⟨k1, k2, k3⟩ := vx_keep h0 e1 hG.2.2 (fun _ _ h => h) (fun _ h => h) hL hF
    obtain ⟨t2, a1, b1⟩ := kx E ce q T'.heap (locs ++ L) hp ⟨by rw [e1]; exact hat, hG.2.1, k3⟩ (by rw [e1]; exact hce) hcv hcl T' rfl X'
    exact ⟨t2, st.trans a1, b1⟩
theorem g_backN {post : Option Value → gW → Prop} {mc ms : Nat} {st0 : List Value} {ar : Array Value} (hr : va_Run p l e R s m args below meth c H locs cells slots mc ms (F0 m pc ls st0) rest (gQ D A post ar) A) (hG : gS D A s.heap w H locs)
    (kk : ∀ (v : Option Value) (w1 : gW) (H1 : Heap) (locs1 : List Loc), post v w1 → gS D A s.heap w1 H1 locs1 → W p l e R s m args below meth c H1 locs1 (cells + mc) (slots + ms) Q (F0 m (pc + 3) ls (v.toList ++ rest))) : W p l e R s m args below meth c H locs cells slots Q (F0 m pc ls st0) := by
  intro T hT X
  obtain ⟨v, st₀, t, T', L, h0, X', hL, e1, e2, ⟨⟨v2, w1, hv, hp, hat, hdj⟩, hF⟩, st⟩ := hr T hT X
  cases hv
  obtain ⟨k1, k2, k3⟩ := vx_keep h0 e1 hG.2.2 (fun _ _ h => h) (fun _ h => h) hL hF
  obtain ⟨t2, a1, b1⟩ := kk v w1 T'.heap (locs ++ L) hp ⟨by rw [e1]; exact hat, hdj, k3⟩ T' rfl X'
  exact ⟨t2, st t2 a1, b1⟩
theorem gFix (hE : gE p l s m args meth c cc nL own D tc A) : CallFix p m c cc nL s args gT own := ⟨hE.1, hE.2.1, hE.2.2.1, hE.2.2.2.1, hE.2.2.2.2.1⟩
theorem gPreS (hE : gE p l s m args meth c cc nL own D tc A) (hG : gS D A s.heap w H locs) {As : List Value} : PreS s H (va_Pc As (gB D tc A w)) As := ⟨gB_blind, fun U hU hW => ⟨rfl, gB_at hE hG U hU hW⟩⟩
theorem gPreV (hE : gE p l s m args meth c cc nL own D tc A) (hG : gS D A s.heap w H locs) {As : List Value} {b k0 ci N : Nat} {fs : List Value} {C : String} {T : u_T} (he : w k0 = some (b, .inr (ci, fs))) (hc : gCl[ci]? = some (C, T, N)) : PreV s H C b (va_Pc (.ref b :: As) (gB D tc A w)) As :=
  ⟨gB_blind, va_recv (q0 := 0) hE.2.2.2.2.2.1 (gAt_one hG.1 he) hc rfl, fun U hU hW => ⟨rfl, gB_at hE hG U hU hW⟩⟩
theorem gW_V {C : String} {index : Nat} {y : MethodName} {bytes : ByteArray} {nM : Nat} {ret : Option FieldType} (m1 : Cond.methodLink own index y ∈ gT) (m2 : Cond.instanceMethod y ∈ gT) (m3 : Cond.selects C y y ∈ gT) (m4 : Cond.initialized C ∈ gT) (m5 : Cond.code y bytes nM ret ∈ gT) : GoodIn gT (wsV own index C y (Cond.code y bytes nM ret :: gT)) :=
  gGood (List.forall_mem_cons.mpr ⟨m1, List.forall_mem_cons.mpr ⟨m2, List.forall_mem_cons.mpr ⟨m3, List.forall_mem_cons.mpr ⟨m4, List.forall_mem_cons.mpr ⟨m5, fun _ h => h⟩⟩⟩⟩⟩)
theorem gW_S {index : Nat} {y : MethodName} {bytes : ByteArray} {nM : Nat} {ret : Option FieldType} (m1 : Cond.methodLink own index y ∈ gT) (m2 : Cond.static y ∈ gT) (m4 : Cond.initialized y.cls ∈ gT) (m5 : Cond.code y bytes nM ret ∈ gT) : GoodIn gT (va_wsS own index y (Cond.code y bytes nM ret :: gT)) :=
  gGood (List.forall_mem_cons.mpr ⟨m1, List.forall_mem_cons.mpr ⟨m2, List.forall_mem_cons.mpr ⟨m4, List.forall_mem_cons.mpr ⟨m5, fun _ h => h⟩⟩⟩⟩)
theorem gW_I {y : MethodName} {bytes : ByteArray} {nM : Nat} {ret : Option FieldType} (m5 : Cond.code y bytes nM ret ∈ gT) : GoodIn gT (Cond.code y bytes nM ret :: gT) := gGood (List.forall_mem_cons.mpr ⟨m5, fun _ h => h⟩)
/-- what the name and the room of a callee owe -/
def gNm (y : MethodName) (n : Nat) : Prop := y.cls ≠ "java/lang/invoke/MethodHandle" ∧ y.cls ≠ "java/lang/invoke/VarHandle" ∧ (parseMethodDescriptor y.desc).map (fun d => d.parameters.length) = some n
def gRm (rm R : Room) (nM cells slots : Nat) : Prop := (rm.frames + 1 ≤ R.frames ∧ 8 + (nM + 11) + rm.locals ≤ R.locals) ∧ cells + rm.cells ≤ R.cells ∧ slots + rm.slots ≤ R.slots
theorem g_callV (hE : gE p l s m args meth c cc nL own D tc A) (hG : gS D A s.heap w H locs) (hsz : ls.size = nL) {C : String} {T : u_T} {index N n nM k0 ci b : Nat} {fs As : List Value} {y : MethodName} {bytes : ByteArray} {ret : Option FieldType} {rm : Room} {post : Option Value → gW → Prop} {thr : String → Prop} (hM : gM l y bytes nM ret rm D tc A (.ref b :: As) w post thr)
    (he : w k0 = some (b, .inr (ci, fs))) (hc : gCl[ci]? = some (C, T, N)) (m1 : Cond.methodLink own index y ∈ gT) (m2 : Cond.instanceMethod y ∈ gT) (m3 : Cond.selects C y y ∈ gT) (m4 : Cond.initialized C ∈ gT) (m5 : Cond.code y bytes nM ret ∈ gT) (hy : y.cls = C) (hn : gNm y n) (hR : gRm rm R nM cells slots) (hA : As.length = n) {st0 : List Value} (hst : st0 = As.reverse ++ .ref b :: rest) (hW : (rest.map fun v => v.category).sum ≤ 8) (hdg : decode cc pc = .ok (.invokevirtual index, 3))
    (kx : ∀ (E : String) (ce : Cell) (q9 : Addr) (H1 : Heap) (locs1 : List Loc), thr E → gS D A s.heap w H1 locs1 → H1[q9]? = some ce → ce.vm = .none → s.vm.findClass E = some ce.cls → vx_W p l e R s m args below meth c H1 locs1 (cells + rm.cells) (slots + rm.slots) Q (F0 m pc ls rest) q9)
    (kk : ∀ (v : Option Value) (w1 : gW) (H1 : Heap) (locs1 : List Loc), post v w1 → gS D A s.heap w1 H1 locs1 → W p l e R s m args below meth c H1 locs1 (cells + rm.cells) (slots + rm.slots) Q (F0 m (pc + 3) ls (v.toList ++ rest))) : W p l e R s m args below meth c H locs cells slots Q (F0 m pc ls st0) := by
  subst hst
  exact g_back (vx_runV (g := F0 m pc ls (As.reverse ++ .ref b :: rest)) (gFix hE) hM (cwV n hE.2.2.2.2.1 (gW_V m1 m2 m3 m4 m5) rfl rfl rfl ⟨hy, hn⟩ hR.1) (gPreV hE hG he hc) rfl hA hsz rfl (by show 2 * 0 + _ ≤ 8; omega) hdg hR.2) hG kx kk
theorem g_callS (hE : gE p l s m args meth c cc nL own D tc A) (hG : gS D A s.heap w H locs) (hsz : ls.size = nL) {index n nM : Nat} {As : List Value} {y : MethodName} {bytes : ByteArray} {ret : Option FieldType} {rm : Room} {post : Option Value → gW → Prop} {thr : String → Prop} (hM : gM l y bytes nM ret rm D tc A As w post thr)
    (m1 : Cond.methodLink own index y ∈ gT) (m2 : Cond.static y ∈ gT) (m4 : Cond.initialized y.cls ∈ gT) (m5 : Cond.code y bytes nM ret ∈ gT) (hn : gNm y n) (hR : gRm rm R nM cells slots) (hA : As.length = n) {st0 : List Value} (hst : st0 = As.reverse ++ rest) (hW : (rest.map fun v => v.category).sum ≤ 8) (hdg : decode cc pc = .ok (.invokestatic index, 3))
    (kx : ∀ (E : String) (ce : Cell) (q9 : Addr) (H1 : Heap) (locs1 : List Loc), thr E → gS D A s.heap w H1 locs1 → H1[q9]? = some ce → ce.vm = .none → s.vm.findClass E = some ce.cls → vx_W p l e R s m args below meth c H1 locs1 (cells + rm.cells) (slots + rm.slots) Q (F0 m pc ls rest) q9)
    (kk : ∀ (v : Option Value) (w1 : gW) (H1 : Heap) (locs1 : List Loc), post v w1 → gS D A s.heap w1 H1 locs1 → W p l e R s m args below meth c H1 locs1 (cells + rm.cells) (slots + rm.slots) Q (F0 m (pc + 3) ls (v.toList ++ rest))) : W p l e R s m args below meth c H locs cells slots Q (F0 m pc ls st0) := by
  subst hst
  exact g_back (vx_runS (g := F0 m pc ls (As.reverse ++ rest)) (gFix hE) hM (va_cwS n hE.2.2.2.2.1 (gW_S m1 m2 m4 m5) rfl rfl rfl hn hR.1) (gPreS hE hG) rfl hA hsz rfl (by show 2 * 0 + _ ≤ 8; omega) hdg hR.2) hG kx kk
theorem gM_not {y : MethodName} {bytes : ByteArray} {nM : Nat} {ret : Option FieldType} {rm : Room} {As : List Value} {post : Option Value → gW → Prop} (hM : gM l y bytes nM ret rm D tc A As w post (fun _ => False)) : Met l y (Cond.code y bytes nM ret :: gT) rm (va_Pc As (gB D tc A w)) (gQ D A post) rm.cells rm.slots A := gMet_of (fun _ _ _ h => h.1) hM
theorem g_callI (hE : gE p l s m args meth c cc nL own D tc A) (hG : gS D A s.heap w H locs) (hsz : ls.size = nL) {index n nM b : Nat} {As : List Value} {y : MethodName} {bytes : ByteArray} {rm : Room} {post : Option Value → gW → Prop} (hM : gM l y bytes nM none rm D tc A (.ref b :: As) w post (fun _ => False))
    (m1 : Cond.methodLink own index y ∈ gT) (m2 : Cond.instanceMethod y ∈ gT) (m4 : Cond.initialized y.cls ∈ gT) (m5 : Cond.code y bytes nM none ∈ gT) (hy : y.name = "<init>") (hn : gNm y n) (hR : gRm rm R nM cells slots) (hA : As.length = n) {st0 : List Value} (hst : st0 = As.reverse ++ .ref b :: rest) (hW : (rest.map fun v => v.category).sum ≤ 8) (hdg : decode cc pc = .ok (.invokespecial index, 3))
    (kk : ∀ (v : Option Value) (w1 : gW) (H1 : Heap) (locs1 : List Loc), post v w1 → gS D A s.heap w1 H1 locs1 → W p l e R s m args below meth c H1 locs1 (cells + rm.cells) (slots + rm.slots) Q (F0 m (pc + 3) ls (v.toList ++ rest))) : W p l e R s m args below meth c H locs cells slots Q (F0 m pc ls st0) := by
  subst hst
  have hts := hE.2.2.2.2.1
  exact g_backN (va_runI (g := F0 m pc ls (As.reverse ++ .ref b :: rest)) (gFix hE) (gM_not hM) (cwI n hts (gW_I m5) rfl rfl rfl (hts _ m4) (hts _ m1) (hts _ m2) hy hn hR.1) (gPreS hE hG) rfl hA hsz rfl (by show 2 * 0 + _ ≤ 8; omega) hdg hR.2) hG kk
theorem g_callIN (hE : gE p l s m args meth c cc nL own D tc A) (hG : gS D A s.heap w H locs) (hsz : ls.size = nL) {index n nM b : Nat} {As : List Value} {y : MethodName} {bytes : ByteArray} {rm : Room} {post : Option Value → gW → Prop} (hM : gM l y bytes nM none rm D tc A (.ref b :: As) w post (fun _ => False))
    (m1 : (own, index, y) ∈ gMn) (m2 : Cond.instanceMethod y ∈ gT) (m4 : Cond.initialized y.cls ∈ gT) (m5 : Cond.code y bytes nM none ∈ gT) (hy : y.name = "<init>") (hn : gNm y n) (hR : gRm rm R nM cells slots) (hA : As.length = n) {st0 : List Value} (hst : st0 = As.reverse ++ .ref b :: rest) (hW : (rest.map fun v => v.category).sum ≤ 8) (hdg : decode cc pc = .ok (.invokespecial index, 3))
    (kk : ∀ (v : Option Value) (w1 : gW) (H1 : Heap) (locs1 : List Loc), post v w1 → gS D A s.heap w1 H1 locs1 → W p l e R s m args below meth c H1 locs1 (cells + rm.cells) (slots + rm.slots) Q (F0 m (pc + 3) ls (v.toList ++ rest))) : W p l e R s m args below meth c H locs cells slots Q (F0 m pc ls st0) := by
  subst hst
  have hts := hE.2.2.2.2.1
  exact g_backN (va_runIN (g := F0 m pc ls (As.reverse ++ .ref b :: rest)) (gFix hE) (gM_not hM) ⟨va_cnB n hts (gW_I m5) rfl rfl rfl (hE.2.2.2.2.2.2.1.2.2.2.2.2.2.2.1 _ m1) (hts _ m4) hn hR.1, hy, hts _ m2⟩ (gPreS hE hG) rfl hA hsz rfl (by show 2 * 0 + _ ≤ 8; omega) hdg hR.2) hG kk
theorem g_callSN (hE : gE p l s m args meth c cc nL own D tc A) (hG : gS D A s.heap w H locs) (hsz : ls.size = nL) {index n nM : Nat} {As : List Value} {y : MethodName} {bytes : ByteArray} {ret : Option FieldType} {rm : Room} {post : Option Value → gW → Prop} (hM : gM l y bytes nM ret rm D tc A As w post (fun _ => False))
    (m1 : (own, index, y) ∈ gMn) (m2 : Cond.static y ∈ gT) (m4 : Cond.initialized y.cls ∈ gT) (m5 : Cond.code y bytes nM ret ∈ gT) (hn : gNm y n) (hR : gRm rm R nM cells slots) (hA : As.length = n) {st0 : List Value} (hst : st0 = As.reverse ++ rest) (hW : (rest.map fun v => v.category).sum ≤ 8) (hdg : decode cc pc = .ok (.invokestatic index, 3))
    (kk : ∀ (v : Option Value) (w1 : gW) (H1 : Heap) (locs1 : List Loc), post v w1 → gS D A s.heap w1 H1 locs1 → W p l e R s m args below meth c H1 locs1 (cells + rm.cells) (slots + rm.slots) Q (F0 m (pc + 3) ls (v.toList ++ rest))) : W p l e R s m args below meth c H locs cells slots Q (F0 m pc ls st0) := by
  subst hst
  have hts := hE.2.2.2.2.1
  exact g_backN (va_runSN (g := F0 m pc ls (As.reverse ++ rest)) (gFix hE) (gM_not hM) ⟨va_cnB n hts (gW_I m5) rfl rfl rfl (hE.2.2.2.2.2.2.1.2.2.2.2.2.2.2.1 _ m1) (hts _ m4) hn hR.1, hts _ m2, trivial⟩ (gPreS hE hG) rfl hA hsz rfl (by show 2 * 0 + _ ≤ 8; omega) hdg hR.2) hG kk
end GROWS
end
section
def gBs : List Cond := gDs.map Cond.declares ++ gEs.map (fun E => Cond.castable E E)
abbrev gSup : List String := ["java/lang/RuntimeException", "java/lang/Exception"]
section GTHR
variable {p : Program} {l : Launch} {e : Env} {R : Room} {s : State} {m : MethodId} {args : Array Value} {below : List Frame} {meth : Method} {c : Code} {H : Heap} {locs : List Loc} {cells slots : Nat} {Q : State → Prop}
variable {cc : ByteArray} {nL pc : Nat} {own : String} {ls : Array Slot} {rest : List Value} {D : va_G} {tc : Nat → ClassId} {A : Nat → Prop} {a : Nat} {w : gW}
theorem gBs_at (hE : gE p l s m args meth c cc nL own D tc A) : ∀ w ∈ gBs, w.before args s = true := by
  intro w hw
  have hX := hE.2.2.2.2.2.2.1
  rcases List.mem_append.mp hw with h | h
  · obtain ⟨x, hx, rfl⟩ := List.mem_map.mp h
    exact va_Nw.use rfl (hX.2.2.2.2.2.2.2.2 x hx)
  · obtain ⟨x, hx, rfl⟩ := List.mem_map.mp h
    exact va_Nw.use rfl (hX.2.2.2.2.2.1 x hx)
theorem gAt_words (hE : gE p l s m args meth c cc nL own D tc A) {L : List Cond} (h1 : ∀ w ∈ L.filter goodWord, w ∈ lw_tbl) (h2 : ∀ w ∈ L.filter (fun w => !goodWord w), w ∈ gBs) : ∀ w ∈ L, w.before args s = true :=
  vx_hat (B := gBs) (fun w hw => hE.2.2.2.2.1 w (List.mem_filter.mpr ⟨h1 w hw, (List.mem_filter.mp hw).2⟩)) h2 (gBs_at hE)
theorem gat1_IA : ∀ w ∈ (vx_atS RX5 62 gIA gSup).filter goodWord, w ∈ lw_tbl := by decide +kernel
theorem gat2_IA : ∀ w ∈ (vx_atS RX5 62 gIA gSup).filter (fun w => !goodWord w), w ∈ gBs := by decide +kernel
theorem gat3_IA : ∀ w ∈ Cond.classLink RX5 58 gIA :: Cond.initialized gIA :: vx_atS RX5 62 gIA gSup, vx_ot w = true := by decide +kernel
theorem gat1_IS : ∀ w ∈ (vx_atS RX5 69 gIS gSup).filter goodWord, w ∈ lw_tbl := by decide +kernel
theorem gat2_IS : ∀ w ∈ (vx_atS RX5 69 gIS gSup).filter (fun w => !goodWord w), w ∈ gBs := by decide +kernel
theorem gat3_IS : ∀ w ∈ Cond.classLink RX5 65 gIS :: Cond.initialized gIS :: vx_atS RX5 69 gIS gSup, vx_ot w = true := by decide +kernel
theorem gat1_IO : ∀ w ∈ (vx_atS RX5 78 gIO gSup).filter goodWord, w ∈ lw_tbl := by decide +kernel
theorem gat2_IO : ∀ w ∈ (vx_atS RX5 78 gIO gSup).filter (fun w => !goodWord w), w ∈ gBs := by decide +kernel
theorem gat3_IO : ∀ w ∈ Cond.classLink RX5 74 gIO :: Cond.initialized gIO :: vx_atS RX5 78 gIO gSup, vx_ot w = true := by decide +kernel
theorem gfit_IA : Bundle.fit gIA = true := by decide +kernel
theorem gfit_IS : Bundle.fit gIS = true := by decide +kernel
theorem gfit_IO : Bundle.fit gIO = true := by decide +kernel
theorem gfit_sup : ∀ n ∈ gSup, Bundle.fit n = true := by decide +kernel
/-- what a throw's class needs: the entry of its name and of its constructor -/
def gThr (E : String) (ik ic : Nat) : Prop := Bundle.fit E = true ∧ Cond.classLink RX5 ik E ∈ gT ∧ Cond.initialized E ∈ gT ∧ (∀ w ∈ (vx_atS RX5 ic E gSup).filter goodWord, w ∈ lw_tbl) ∧ (∀ w ∈ (vx_atS RX5 ic E gSup).filter (fun w => !goodWord w), w ∈ gBs) ∧ ∀ w ∈ Cond.classLink RX5 ik E :: Cond.initialized E :: vx_atS RX5 ic E gSup, vx_ot w = true
theorem gX_out {w0 : gW} {thr : String → Prop} {E : String} (hG : gS D A s.heap w H locs) (hw : w = w0) (hp : thr E) : ∀ t : State, s.vm.Alike t.vm → H.size ≤ t.heap.size → (∀ q : Nat, q < H.size → t.heap[q]? = H[q]?) → gXC D A w0 thr E s t := by
  subst hw
  intro t _ h1 h2
  refine ⟨hp, fun k x hx => (hG.1 k x hx).kept (h2 _ (hG.1 k x hx).lt), Nat.le_trans hG.2.2.1 h1, fun q g1 g2 => (h2 q (Nat.lt_of_lt_of_le g1 hG.2.2.1)).trans (hG.2.2.2.1 q g1 g2)⟩
theorem g_thr {w0 : gW} {thr : String → Prop} {Qc : Array Value → State → Outcome → State → Prop} {mc ms : Nat} {E text : String} {ik is ic : Nat} (hl : l.stackTraces = false) (hE : gE p l s m args meth c cc nL RX5 D tc A) (hG : gS D A s.heap w H locs) (hsz : ls.size = nL) (hnt : ∀ x ∈ c.exceptionTable.toList, False) (hT : gThr E ik ic) (hstr : (is, text) ∈ gSs)
    (d0 : decode cc pc = .ok (.new ik, 3)) (d3 : decode cc (pc + 3) = .ok (.dup, 1)) (d4 : decode cc (pc + 4) = .ok (.ldc is, 2)) (d6 : decode cc (pc + 6) = .ok (.invokespecial ic, 3)) (d9 : decode cc (pc + 9) = .ok (.athrow, 1))
    (hR : 5 < R.frames ∧ (rest.map fun v => v.category).sum + 82 ≤ R.locals ∧ cells + 1 ≤ R.cells ∧ slots + 6 ≤ R.slots ∧ cells + 1 ≤ mc ∧ slots + 6 ≤ ms) (hw : w = w0) (hp : thr E) :
    W p l e R s m args below meth c H locs cells slots (vx_MQ below Qc (gXC D A w0 thr) args s mc ms A) (F0 m pc ls rest) := by
  obtain ⟨t1, t2, t3, t4, t5, t6⟩ := hT
  obtain ⟨hexec, hb, hml, hown, hts, hK, hX, hA, hlk⟩ := id hE
  obtain ⟨sa, hsa⟩ := hX.2.2.1 _ hstr
  exact vx_throwS (names := gSup) hexec hb hl hown t1 gfit_sup (hts _ t2) (hts _ t3) hsa (gAt_words hE t4 t5) t6 hX.1 hX.2.1 hG.2.2 (hsz.trans hml.symm) d0 d3 d4 d6 d9 (fun x hx => (hnt x hx).elim) hR.1 hR.2.1 hR.2.2.1 hR.2.2.2.1 hlk (gX_out hG hw hp) hG.2.2.2.2 hR.2.2.2.2.1 hR.2.2.2.2.2
theorem g_thrW {w0 : gW} {thr : String → Prop} {Qc : Array Value → State → Outcome → State → Prop} {mc ms : Nat} {E text : String} {ik is ic : Nat} (hl : l.stackTraces = false) (hE : gE p l s m args meth c cc nL RX5 D tc A) (hG : gS D A s.heap w H locs) (hsz : ls.size = nL) (hnt : ∀ x ∈ c.exceptionTable.toList, False) (hT : gThr E ik ic) (hstr : (is, text) ∈ gSs)
    (d0 : decode cc pc = .ok (.new ik, 3)) (d3 : decode cc (pc + 3) = .ok (.dup, 1)) (d4 : decode cc (pc + 4) = .ok (.ldc_w is, 3)) (d7 : decode cc (pc + 7) = .ok (.invokespecial ic, 3)) (d10 : decode cc (pc + 10) = .ok (.athrow, 1))
    (hR : 5 < R.frames ∧ (rest.map fun v => v.category).sum + 82 ≤ R.locals ∧ cells + 1 ≤ R.cells ∧ slots + 6 ≤ R.slots ∧ cells + 1 ≤ mc ∧ slots + 6 ≤ ms) (hw : w = w0) (hp : thr E) :
    W p l e R s m args below meth c H locs cells slots (vx_MQ below Qc (gXC D A w0 thr) args s mc ms A) (F0 m pc ls rest) := by
  obtain ⟨t1, t2, t3, t4, t5, t6⟩ := hT
  obtain ⟨hexec, hb, hml, hown, hts, hK, hX, hA, hlk⟩ := id hE
  obtain ⟨sa, hsa⟩ := hX.2.2.1 _ hstr
  exact vx_throwSW (names := gSup) hexec hb hl hown t1 gfit_sup (hts _ t2) (hts _ t3) hsa (gAt_words hE t4 t5) t6 hX.1 hX.2.1 hG.2.2 (hsz.trans hml.symm) d0 d3 d4 d7 d10 (fun x hx => (hnt x hx).elim) hR.1 hR.2.1 hR.2.2.1 hR.2.2.2.1 hlk (gX_out hG hw hp) hG.2.2.2.2 hR.2.2.2.2.1 hR.2.2.2.2.2
/-- it goes on to the caller -/
theorem g_out {w0 : gW} {thr thr' : String → Prop} {Qc : Array Value → State → Outcome → State → Prop} {mc ms c1 s1 : Nat} (hE : gE p l s m args meth c cc nL own D tc A) (hnt : ∀ x ∈ c.exceptionTable.toList, False) (hw : w = w0) (ht : ∀ E, thr E → thr' E) (hc : c1 ≤ mc) (hs : s1 ≤ ms) :
    ∀ (E : String) (ce : Cell) (q9 : Addr) (H1 : Heap) (locs1 : List Loc), thr E → gS D A s.heap w H1 locs1 → H1[q9]? = some ce → ce.vm = .none → s.vm.findClass E = some ce.cls → vx_W p l e R s m args below meth c H1 locs1 c1 s1 (vx_MQ below Qc (gXC D A w0 thr') args s mc ms A) (F0 m pc ls rest) q9 := by
  intro E ce q9 H1 locs1 hp hG h1 h2 h3
  refine vx_out (fun x hx => (hnt x hx).elim) hE.2.2.2.2.2.2.2.2 h1 h2 h3 (fun t ht' hal => ?_) hG.2.2.2.2 hc hs
  exact gX_out hG hw (ht E hp) t hal (by rw [ht']; exact Nat.le_refl _) (fun q _ => by rw [ht'])
/-- it can't be -/
theorem g_no {c1 s1 : Nat} : ∀ (E : String) (ce : Cell) (q9 : Addr) (H1 : Heap) (locs1 : List Loc), False → gS D A s.heap w H1 locs1 → H1[q9]? = some ce → ce.vm = .none → s.vm.findClass E = some ce.cls → vx_W p l e R s m args below meth c H1 locs1 c1 s1 Q (F0 m pc ls rest) q9 := fun _ _ _ _ _ h => h.elim
end GTHR
/-- a body, from its entry -/
theorem gM_of {l : Launch} {y : MethodName} {cc : ByteArray} {nL : Nat} {rt : Option FieldType} {rm : Room} {D : va_G} {tc : Nat → ClassId} {A : Nat → Prop} {av : List Value} {w : gW} {post : Option Value → gW → Prop} {thr : String → Prop} (hy : plainName y.cls = true) (hn : nL ≥ (lg_sl av).length)
    (body : ∀ (p : Program) (e : Env) (s : State) (m : MethodId) (args : Array Value) (below : List Frame) (meth : Method) (c : Code) (ls : Array Slot), gE p l s m args meth c cc nL y.cls D tc A → gS D A s.heap w s.heap [] → meth.sig.returnType = rt → (∀ x ∈ c.exceptionTable.toList, False) → (∀ m9, meth.name = m9 ↔ y.name = m9) → lv_has ls nL (lv_args 0 av) →
      W p l e rm s m args below meth c s.heap [] 0 0 (vx_MQ below (gQ D A post) (gXC D A w thr) args s rm.cells rm.slots A) (F0 m 0 ls [])) : gM l y cc nL rt rm D tc A av w post thr := by
  refine vx_ofW (cc := cc) (maxL := nL) (ret := rt) (ws' := gT) hy rfl ?_
  intro p e s m args below meth c s₁ B hml hnt hv
  obtain ⟨rfl, h1, h2, h3, h4, h5⟩ := hv
  have hts0 := atoms_spec (ws := Cond.code y cc nL rt :: gT) B.pre
  have hts : ∀ w ∈ gT, w.before av.toArray s = true := fun w hw => hts0 w (List.mem_cons_of_mem _ hw)
  have hown : s.vm.findClass y.cls = some m.cls := findClass_of_methodNamed B.named
  have hname := (name_of_methodNamed B.named B.method).1
  have hl := lv_entry av (n := nL) hn
  rw [lg_entry_eq]
  generalize (lg_sl av ++ List.replicate (nL - (lg_sl av).length) Slot.unset).toArray = ls at hl ⊢
  exact body p e s m av.toArray below meth c ls ⟨B.exec, B.bytes, hml, hown, hts, h4, h5, h3, B.notSynchronized⟩ ⟨h1, h2, va_S.rf⟩ B.returns hnt (fun m9 => by rw [hname]) hl
end
