/-! the script beside the world; calls that can not throw; rows by places -/
def gZB (b L : Nat) (xs : Nat → Int32) (D : va_G) (tc : Nat → ClassId) (A : Nat → Prop) (w : gW) (U : State) : Prop := gB D tc A w U ∧ va_X b L xs U U.heap ∧ b < U.heap.size ∧ ¬ A b
theorem gZB_blind {b L : Nat} {xs : Nat → Int32} {D : va_G} {tc : Nat → ClassId} {A : Nat → Prop} {args : List Value} {w : gW} : FrameBlind (va_Pc args (gZB b L xs D tc A w)) := by
  intro a U g mk h
  obtain ⟨h0, h1, h2, h3, h4⟩ := h
  exact ⟨h0, (gB_blind (args := args) a U g mk ⟨h0, h1⟩).2, va_X.moved (u := U) (U := U.calling g mk a) (Vm.Alike.refl U.vm) h2, h3, h4⟩
/-- a contract of a method that is given the script, b; it can't throw -/
def gMs (l : Launch) (y : MethodName) (cc : ByteArray) (nL : Nat) (rt : Option FieldType) (rm : Room) (D : va_G) (tc : Nat → ClassId) (A : Nat → Prop) (b L : Nat) (xs : Nat → Int32) (args : List Value) (w : gW) (post : Option Value → gW → Prop) : Prop :=
  vx_Met l y (Cond.code y cc nL rt :: gT) rm (va_Pc args (gZB b L xs D tc A w)) (gQ D A post) (gXC D A w (fun _ => False)) rm.cells rm.slots A
def gMHs (l : Launch) (y : MethodName) (cc : ByteArray) (nL : Nat) (rt : Option FieldType) (hh : List (Nat × Nat × Nat × Nat)) (rm : Room) (D : va_G) (tc : Nat → ClassId) (A : Nat → Prop) (b L : Nat) (xs : Nat → Int32) (args : List Value) (w : gW) (post : Option Value → gW → Prop) : Prop :=
  vx_Met l y (Cond.codeWith y cc nL rt hh :: gT) rm (va_Pc args (gZB b L xs D tc A w)) (gQ D A post) (gXC D A w (fun _ => False)) rm.cells rm.slots A
theorem gMs_of {l : Launch} {y : MethodName} {cc : ByteArray} {nL : Nat} {rt : Option FieldType} {rm : Room} {D : va_G} {tc : Nat → ClassId} {A : Nat → Prop} {b L : Nat} {xs : Nat → Int32} {av : List Value} {w : gW} {post : Option Value → gW → Prop} (hy : plainName y.cls = true) (hn : nL ≥ (lg_sl av).length)
    (body : ∀ (p : Program) (e : Env) (s : State) (m : MethodId) (args : Array Value) (below : List Frame) (meth : Method) (c : Code) (ls : Array Slot) (Q : State → Prop), Q = vx_MQ below (gQ D A post) (gXC D A w (fun _ => False)) args s rm.cells rm.slots A → gE p l s m args meth c cc nL y.cls D tc A → va_X b L xs s s.heap → b < s.heap.size → ¬ A b → gS D A s.heap w s.heap [] → meth.sig.returnType = rt → (∀ x ∈ c.exceptionTable.toList, False) → lv_has ls nL (lv_args 0 av) →
      W p l e rm s m args below meth c s.heap [] 0 0 Q (F0 m 0 ls [])) : gMs l y cc nL rt rm D tc A b L xs av w post := by
  refine vx_ofW (cc := cc) (maxL := nL) (ret := rt) (ws' := gT) hy rfl ?_
  intro p e s m args below meth c s₁ B hml hnt hv
  obtain ⟨rfl, ⟨h1, h2, h3, h4, h5⟩, h6, h7, h8⟩ := hv
  have hts0 := atoms_spec (ws := Cond.code y cc nL rt :: gT) B.pre
  have hts : ∀ w ∈ gT, w.before av.toArray s = true := fun w hw => hts0 w (List.mem_cons_of_mem _ hw)
  have hown : s.vm.findClass y.cls = some m.cls := findClass_of_methodNamed B.named
  have hl := lv_entry av (n := nL) hn
  rw [lg_entry_eq]
  generalize (lg_sl av ++ List.replicate (nL - (lg_sl av).length) Slot.unset).toArray = ls at hl ⊢
  exact body p e s m av.toArray below meth c ls _ rfl ⟨B.exec, B.bytes, hml, hown, hts, h4, h5, h3, B.notSynchronized⟩ h6 h7 h8 ⟨h1, h2, va_S.rf⟩ B.returns hnt hl
theorem gMHs_of {l : Launch} {y : MethodName} {cc : ByteArray} {nL : Nat} {rt : Option FieldType} {hh : List (Nat × Nat × Nat × Nat)} {rm : Room} {D : va_G} {tc : Nat → ClassId} {A : Nat → Prop} {b L : Nat} {xs : Nat → Int32} {av : List Value} {w : gW} {post : Option Value → gW → Prop} (hy : plainName y.cls = true) (hn : nL ≥ (lg_sl av).length)
    (body : ∀ (p : Program) (e : Env) (s : State) (m : MethodId) (args : Array Value) (below : List Frame) (meth : Method) (c : Code) (ls : Array Slot) (Q : State → Prop), Q = vx_MQ below (gQ D A post) (gXC D A w (fun _ => False)) args s rm.cells rm.slots A → gE p l s m args meth c cc nL y.cls D tc A → va_X b L xs s s.heap → b < s.heap.size → ¬ A b → gS D A s.heap w s.heap [] → meth.sig.returnType = rt → lv_has ls nL (lv_args 0 av) →
      W p l e rm s m args below meth c s.heap [] 0 0 Q (F0 m 0 ls [])) : gMHs l y cc nL rt hh rm D tc A b L xs av w post := by
  refine vx_ofWH (cc := cc) (maxL := nL) (ret := rt) (ws' := gT) hy rfl ?_
  intro p e s m args below meth c s₁ B hml hv
  obtain ⟨rfl, ⟨h1, h2, h3, h4, h5⟩, h6, h7, h8⟩ := hv
  have hts0 := atoms_spec (ws := Cond.codeWith y cc nL rt hh :: gT) B.pre
  have hts : ∀ w ∈ gT, w.before av.toArray s = true := fun w hw => hts0 w (List.mem_cons_of_mem _ hw)
  have hown : s.vm.findClass y.cls = some m.cls := findClass_of_methodNamed B.named
  have hl := lv_entry av (n := nL) hn
  rw [lg_entry_eq]
  generalize (lg_sl av ++ List.replicate (nL - (lg_sl av).length) Slot.unset).toArray = ls at hl ⊢
  exact body p e s m av.toArray below meth c ls _ rfl ⟨B.exec, B.bytes, hml, hown, hts, h4, h5, h3, B.notSynchronized⟩ h6 h7 h8 ⟨h1, h2, va_S.rf⟩ B.returns hl
theorem gM_wk {l : Launch} {y : MethodName} {cc : ByteArray} {nL : Nat} {rt : Option FieldType} {rm : Room} {D : va_G} {tc : Nat → ClassId} {A : Nat → Prop} {args : List Value} {w : gW} {post post' : Option Value → gW → Prop} {thr : String → Prop} (h : gM l y cc nL rt rm D tc A args w post thr) (ht : ∀ E, ¬ thr E) (hp : ∀ v w', post v w' → post' v w') : gM l y cc nL rt rm D tc A args w post' (fun _ => False) := by
  intro p e ha hc hk s m args below hf happ hP hT
  obtain ⟨t, o, h1, h2, h3, h4⟩ := h p e ha hc hk s m args below hf happ hP hT
  refine ⟨t, o, h1, h2, h3, ?_⟩
  rcases h4 with ⟨⟨⟨v, w1, hv, hpo, hat, hdj⟩, hF⟩, hL⟩ | ⟨q, -, E, ce, L, hx, -⟩
  · exact Or.inl ⟨⟨⟨v, w1, hv, hp v w1 hpo, hat, hdj⟩, hF⟩, hL⟩
  · exact absurd hx.1 (ht E)
theorem c_thr_no {e1 e2 e3 : String} {a b c : Int32} (h : ¬ m_go a b c = 0) (E : String) : ¬ c_thr e1 e2 e3 a b c E := by
  intro t
  obtain ⟨ha, hb, hc⟩ := m_go_ne h
  rcases t with ⟨h1, _⟩ | ⟨_, h1, _⟩ | ⟨_, _, h1, _⟩
  · exact ha h1
  · exact hb h1
  · exact hc h1
section GSCR
variable {p : Program} {l : Launch} {e : Env} {R : Room} {s : State} {m : MethodId} {args : Array Value} {below : List Frame} {meth : Method} {c : Code} {H : Heap} {locs : List Loc} {cells slots : Nat} {Q : State → Prop}
variable {cc : ByteArray} {nL pc : Nat} {own : String} {ls : Array Slot} {rest : List Value} {D : va_G} {tc : Nat → ClassId} {A : Nat → Prop} {a : Nat} {w : gW}
theorem gZB_at {b L : Nat} {xs : Nat → Int32} (hE : gE p l s m args meth c cc nL own D tc A) (hG : gS D A s.heap w H locs) (hX : va_X b L xs s s.heap) (hbl : b < s.heap.size) (hbA : ¬ A b) : ∀ U : State, U.heap = H → s.WarmedH U.vm → gZB b L xs D tc A w U := fun U hU hW =>
  ⟨gB_at hE hG U hU hW, va_X.moved hW.alike (va_X.kept hX (by rw [hU]; exact hG.2.2.2.1 b hbl hbA)), by rw [hU]; exact Nat.lt_of_lt_of_le hbl hG.2.2.1, hbA⟩
theorem gPreSs {b L : Nat} {xs : Nat → Int32} (hE : gE p l s m args meth c cc nL own D tc A) (hG : gS D A s.heap w H locs) (hX : va_X b L xs s s.heap) (hbl : b < s.heap.size) (hbA : ¬ A b) {As : List Value} : PreS s H (va_Pc As (gZB b L xs D tc A w)) As := ⟨gZB_blind, fun U hU hW => ⟨rfl, gZB_at hE hG hX hbl hbA U hU hW⟩⟩
theorem gW_SHs {index : Nat} {y : MethodName} {bytes : ByteArray} {nM : Nat} {ret : Option FieldType} {hh : List (Nat × Nat × Nat × Nat)} (m1 : Cond.methodLink own index y ∈ gT) (m2 : Cond.static y ∈ gT) (m4 : Cond.initialized y.cls ∈ gT) (m5 : Cond.codeWith y bytes nM ret hh ∈ gT) : GoodIn gT (va_wsS own index y (Cond.codeWith y bytes nM ret hh :: gT)) :=
  gGood (List.forall_mem_cons.mpr ⟨m1, List.forall_mem_cons.mpr ⟨m2, List.forall_mem_cons.mpr ⟨m4, List.forall_mem_cons.mpr ⟨m5, fun _ h => h⟩⟩⟩⟩)
theorem g_callSs {b L : Nat} {xs : Nat → Int32} (hX : va_X b L xs s s.heap) (hbl : b < s.heap.size) (hbA : ¬ A b) (hE : gE p l s m args meth c cc nL own D tc A) (hG : gS D A s.heap w H locs) (hsz : ls.size = nL) {index n nM : Nat} {As : List Value} {y : MethodName} {bytes : ByteArray} {ret : Option FieldType} {rm : Room} {post : Option Value → gW → Prop} (hM : gMs l y bytes nM ret rm D tc A b L xs As w post)
    (m1 : Cond.methodLink own index y ∈ gT) (m2 : Cond.static y ∈ gT) (m4 : Cond.initialized y.cls ∈ gT) (m5 : Cond.code y bytes nM ret ∈ gT) (hn : gNm y n) (hR : gRm rm R nM cells slots) (hA : As.length = n) {st0 : List Value} (hst : st0 = As.reverse ++ rest) (hW : (rest.map fun v => v.category).sum ≤ 8) (hdg : decode cc pc = .ok (.invokestatic index, 3))
    (kk : ∀ (v : Option Value) (w1 : gW) (H1 : Heap) (locs1 : List Loc), post v w1 → gS D A s.heap w1 H1 locs1 → W p l e R s m args below meth c H1 locs1 (cells + rm.cells) (slots + rm.slots) Q (F0 m (pc + 3) ls (v.toList ++ rest))) : W p l e R s m args below meth c H locs cells slots Q (F0 m pc ls st0) := by
  subst hst
  exact g_back (vx_runS (g := F0 m pc ls (As.reverse ++ rest)) (gFix hE) hM (va_cwS n hE.2.2.2.2.1 (gW_S m1 m2 m4 m5) rfl rfl rfl hn hR.1) (gPreSs hE hG hX hbl hbA) rfl hA hsz rfl (by show 2 * 0 + _ ≤ 8; omega) hdg hR.2) hG g_no kk
theorem g_callSHs {b L : Nat} {xs : Nat → Int32} (hX : va_X b L xs s s.heap) (hbl : b < s.heap.size) (hbA : ¬ A b) (hE : gE p l s m args meth c cc nL own D tc A) (hG : gS D A s.heap w H locs) (hsz : ls.size = nL) {index n nM : Nat} {As : List Value} {y : MethodName} {bytes : ByteArray} {ret : Option FieldType} {hh : List (Nat × Nat × Nat × Nat)} {rm : Room} {post : Option Value → gW → Prop} (hM : gMHs l y bytes nM ret hh rm D tc A b L xs As w post)
    (m1 : Cond.methodLink own index y ∈ gT) (m2 : Cond.static y ∈ gT) (m4 : Cond.initialized y.cls ∈ gT) (m5 : Cond.codeWith y bytes nM ret hh ∈ gT) (hn : gNm y n) (hR : gRm rm R nM cells slots) (hA : As.length = n) {st0 : List Value} (hst : st0 = As.reverse ++ rest) (hW : (rest.map fun v => v.category).sum ≤ 8) (hdg : decode cc pc = .ok (.invokestatic index, 3))
    (kk : ∀ (v : Option Value) (w1 : gW) (H1 : Heap) (locs1 : List Loc), post v w1 → gS D A s.heap w1 H1 locs1 → W p l e R s m args below meth c H1 locs1 (cells + rm.cells) (slots + rm.slots) Q (F0 m (pc + 3) ls (v.toList ++ rest))) : W p l e R s m args below meth c H locs cells slots Q (F0 m pc ls st0) := by
  subst hst
  exact g_back (vx_runSX (g := F0 m pc ls (As.reverse ++ rest)) (gFix hE) hM (vx_cwSW n hE.2.2.2.2.1 (gW_SHs m1 m2 m4 m5) rfl rfl rfl hn hR.1) (gPreSs hE hG hX hbl hbA) rfl hA hsz rfl (by show 2 * 0 + _ ≤ 8; omega) hdg hR.2) hG g_no kk
theorem g_ialdN (hE : gE p l s m args meth c cc nL own D tc A) (hG : gS D A s.heap w H locs) {k0 n : Nat} {f : Nat → Int32} (he : w k0 = some (a, .inl (tc 0, n, .inl f))) {i : Int32} (k : Nat) (hi : i = nI k) (hk : k < n) (hn : n ≤ 64) (hdg : decode cc pc = .ok (.iaload, 1))
    (kk : W p l e R s m args below meth c H locs cells slots Q (F0 m (pc + 1) ls (.int (f k) :: rest))) : W p l e R s m args below meth c H locs cells slots Q (F0 m pc ls (.int i :: .ref a :: rest)) := by
  subst hi
  exact g_iald hE hG he (vp_in_nI hk (by omega)) hdg (by rw [nI_clamp (by omega)]; exact kk)
theorem g_laldN (hE : gE p l s m args meth c cc nL own D tc A) (hG : gS D A s.heap w H locs) {k0 n : Nat} {f : Nat → Int64} (he : w k0 = some (a, .inl (tc 1, n, .inr (.inl f)))) {i : Int32} (k : Nat) (hi : i = nI k) (hk : k < n) (hn : n ≤ 64) (hdg : decode cc pc = .ok (.laload, 1))
    (kk : W p l e R s m args below meth c H locs cells slots Q (F0 m (pc + 1) ls (.long (f k) :: rest))) : W p l e R s m args below meth c H locs cells slots Q (F0 m pc ls (.int i :: .ref a :: rest)) := by
  subst hi
  exact g_lald hE hG he (vp_in_nI hk (by omega)) hdg (by rw [nI_clamp (by omega)]; exact kk)
theorem g_iastN (hE : gE p l s m args meth c cc nL own D tc A) (hG : gS D A s.heap w H locs) {k0 n : Nat} {f : Nat → Int32} (he : w k0 = some (a, .inl (tc 0, n, .inl f))) {i x : Int32} (k : Nat) (hi : i = nI k) (hk : k < n) (hn : n ≤ 64) (hdg : decode cc pc = .ok (.iastore, 1))
    (kk : ∀ (H1 : Heap) (locs1 : List Loc) (w1 : gW), w1 = gU w k0 (a, .inl (tc 0, n, .inl (upd f k x))) → gS D A s.heap w1 H1 locs1 → W p l e R s m args below meth c H1 locs1 cells slots Q (F0 m (pc + 1) ls rest)) : W p l e R s m args below meth c H locs cells slots Q (F0 m pc ls (.int x :: .int i :: .ref a :: rest)) := by
  subst hi
  refine g_iast hE hG he (vp_in_nI hk (by omega)) hdg ?_
  rw [nI_clamp (by omega)]
  exact kk
theorem g_lastN (hE : gE p l s m args meth c cc nL own D tc A) (hG : gS D A s.heap w H locs) {k0 n : Nat} {f : Nat → Int64} (he : w k0 = some (a, .inl (tc 1, n, .inr (.inl f)))) {i : Int32} {x : Int64} (k : Nat) (hi : i = nI k) (hk : k < n) (hn : n ≤ 64) (hdg : decode cc pc = .ok (.lastore, 1))
    (kk : ∀ (H1 : Heap) (locs1 : List Loc) (w1 : gW), w1 = gU w k0 (a, .inl (tc 1, n, .inr (.inl (vp_updL f k x)))) → gS D A s.heap w1 H1 locs1 → W p l e R s m args below meth c H1 locs1 cells slots Q (F0 m (pc + 1) ls rest)) : W p l e R s m args below meth c H locs cells slots Q (F0 m pc ls (.long x :: .int i :: .ref a :: rest)) := by
  subst hi
  refine g_last hE hG he (vp_in_nI hk (by omega)) hdg ?_
  rw [nI_clamp (by omega)]
  exact kk
end GSCR
theorem cW_cg {tc : Nat → ClassId} {w w' : gW} {ca : Nat → Nat} {d : gDt} {tk : Int64} {st : Nat → Int64} (hC : cW tc w ca d tk st) (hOk : mOk d) (hw : ∀ k, k < 1000 → k ≠ 7 → w' k = w k) : cW tc w' ca d tk st := by
  obtain ⟨⟨z0, z1, z2, z5, z6⟩, ⟨cy, ge, sf, z3, z4, hsf, hce, hcy⟩, zP, zS, zU, zV, zN1, zN2, zN3⟩ := hC
  have b1 := hOk.1.2.1
  have b2 := hOk.1.2.2
  refine ⟨⟨(hw _ (by omega) (by omega)).trans z0, (hw _ (by omega) (by omega)).trans z1, (hw _ (by omega) (by omega)).trans z2, (hw _ (by omega) (by omega)).trans z5, (hw _ (by omega) (by omega)).trans z6⟩, ⟨cy, ge, sf, (hw _ (by omega) (by omega)).trans z3, (hw _ (by omega) (by omega)).trans z4, hsf, hce, hcy⟩, ?_, ?_, ?_, ?_, ?_, ?_, ?_⟩
  · intro i hi
    exact cP_fr (zP i hi) (hw _ (by omega) (by omega)) (hw _ (by omega) (by omega)) (hw _ (by omega) (by omega)) rfl rfl rfl
  · intro s hs
    exact cS_fr (zS s hs) (hw _ (by omega) (by omega)) (hw _ (by omega) (by omega)) rfl rfl
  · intro u hu
    exact cU_fr (zU u hu) (hw _ (by omega) (by omega)) (hw _ (by omega) (by omega)) rfl rfl
  · intro u i hu hi hk
    obtain ⟨a1, a2, a3⟩ := zV u i hu hi hk
    exact ⟨a1, a2, cV_fr a3 (hw _ (by omega) (by omega)) (hw _ (by omega) (by omega)) rfl rfl⟩
  · intro i h1 h9
    rw [hw _ (by omega) (by omega), hw _ (by omega) (by omega), hw _ (by omega) (by omega)]
    exact zN1 i h1 h9
  · intro u h1 h9
    rw [hw _ (by omega) (by omega), hw _ (by omega) (by omega)]
    exact zN2 u h1 h9
  · intro u i hu hi h9
    rw [hw _ (by omega) (by omega), hw _ (by omega) (by omega)]
    exact zN3 u i hu hi h9
/-- the class's heap is d, its object at o -/
def cO (tc : Nat → ClassId) (w : gW) (o : Nat) (d : gDt) (tk : Int64) (st : Nat → Int64) : Prop := ∃ ca : Nat → Nat, ca 0 = o ∧ cW tc w ca d tk st
theorem cO_z {tc : Nat → ClassId} {w : gW} {o : Nat} {d : gDt} {tk : Int64} {st : Nat → Int64} (h : cO tc w o d tk st) : ∃ fs, w 0 = some (o, .inr (5, fs)) := by
  obtain ⟨ca, rfl, h⟩ := h
  exact ⟨_, h.1.1⟩
theorem cO_g {tc : Nat → ClassId} {w w' : gW} {o : Nat} {d : gDt} {tk : Int64} {st : Nat → Int64} (h : cO tc w o d tk st) (hOk : mOk d) (hw : ∀ k, k < 1000 → w' k = w k) : cO tc w' o d tk st := by
  obtain ⟨ca, e, h⟩ := h
  exact ⟨ca, e, cW_cg h hOk (fun k h1 _ => hw k h1)⟩
theorem k_form (l : Launch) (hfl : l.stackTraces = false) (D : va_G) (tc : Nat → ClassId) (A : Nat → Prop) (w : gW) (oa : Nat) (d : gDt) (tk : Int64) (st : Nat → Int64) (x : Int32) (hC : cO tc w oa d tk st) (hOk : mOk d) (hg : ¬ m_go (ga_form d x) (gb_form d x) (gc_form d x) = 0) : gM l yX5_form cX5_form 2 (some .int) rm_X5_form D tc A [.ref oa, .int x] w (fun v w' => v = some (.int (d 9 0 + 1 - 1)) ∧ cO tc w' oa (sL (gD (gD d 0 (upd (d 0) (d 9 0).toNatClampNeg x)) 9 (upd (d 9) 0 (d 9 0 + 1))) 0) tk st ∧ gK w w') (fun _ => False) := by
  obtain ⟨ca, rfl, h⟩ := hC
  exact gM_wk (c_X5_form l hfl D tc A w ca d tk st x h hOk) (c_thr_no hg) (fun v w' h9 => ⟨h9.2.1, h9.2.2.1, h9.2.2.2⟩)
theorem k_depth (l : Launch) (hfl : l.stackTraces = false) (D : va_G) (tc : Nat → ClassId) (A : Nat → Prop) (w : gW) (oa : Nat) (d : gDt) (tk : Int64) (st : Nat → Int64) (x : Int32) (y : Int32) (hC : cO tc w oa d tk st) (hOk : mOk d) (hg : ¬ m_go (ga_depth d x y) (gb_depth d x y) (gc_depth d x y) = 0) : gM l yX5_depth cX5_depth 6 (some .int) rm_X5_depth D tc A [.ref oa, .int x, .int y] w (fun v w' => v = some (.int (m_depth d x y)) ∧ cO tc w' oa (sL d 0) tk st ∧ gK w w') (fun _ => False) := by
  obtain ⟨ca, rfl, h⟩ := hC
  exact gM_wk (c_X5_depth l hfl D tc A w ca d tk st x y h hOk) (c_thr_no hg) (fun v w' h9 => ⟨h9.2.1, h9.2.2.1, h9.2.2.2⟩)
theorem k_piece (l : Launch) (hfl : l.stackTraces = false) (D : va_G) (tc : Nat → ClassId) (A : Nat → Prop) (w : gW) (oa : Nat) (d : gDt) (tk : Int64) (st : Nat → Int64) (x : Int32) (hC : cO tc w oa d tk st) (hOk : mOk d) (hF : fOk d) (hg : ¬ m_go (ga_piece d x) (gb_piece d x) (gc_piece d x) = 0) : gM l yX5_piece cX5_piece 3 (some .int) rm_X5_piece D tc A [.ref oa, .int x] w (fun v w' => v = some (.int (d 9 1 + 1 - 1)) ∧ cO tc w' oa (sL (gD (gD d 1 (upd (d 1) (d 9 1).toNatClampNeg x)) 9 (upd (d 9) 1 (d 9 1 + 1))) 0) tk st ∧ gK w w') (fun _ => False) := by
  obtain ⟨ca, rfl, h⟩ := hC
  exact gM_wk (c_X5_piece l hfl D tc A w ca d tk st x h hOk hF) (c_thr_no hg) (fun v w' h9 => ⟨h9.2.1, h9.2.2.1, h9.2.2.2⟩)
theorem k_tone (l : Launch) (hfl : l.stackTraces = false) (D : va_G) (tc : Nat → ClassId) (A : Nat → Prop) (w : gW) (oa : Nat) (d : gDt) (tk : Int64) (st : Nat → Int64) (x : Int32) (y : Int32) (z : Int32) (hC : cO tc w oa d tk st) (hOk : mOk d) (hg : ¬ m_go (ga_tone d x y z) (gb_tone d x y z) (gc_tone d x y z) = 0) : gM l yX5_tone cX5_tone 5 (some .int) rm_X5_tone D tc A [.ref oa, .int x, .int y, .int z] w (fun v w' => v = some (.int (d 3 (65 * x + y).toNatClampNeg)) ∧ cO tc w' oa (sL (gD d 3 (upd (d 3) (65 * x + y).toNatClampNeg z)) 0) tk st ∧ gK w w') (fun _ => False) := by
  obtain ⟨ca, rfl, h⟩ := hC
  exact gM_wk (c_X5_tone l hfl D tc A w ca d tk st x y z h hOk) (c_thr_no hg) (fun v w' h9 => ⟨h9.2.1, h9.2.2.1, h9.2.2.2⟩)
theorem k_forbid (l : Launch) (hfl : l.stackTraces = false) (D : va_G) (tc : Nat → ClassId) (A : Nat → Prop) (w : gW) (oa : Nat) (d : gDt) (tk : Int64) (st : Nat → Int64) (x : Int32) (y : Int32) (hC : cO tc w oa d tk st) (hOk : mOk d) (hg : ¬ m_go (ga_forbid d x y) (gb_forbid d x y) (gc_forbid d x y) = 0) : gM l yX5_forbid cX5_forbid 5 (some .int) rm_X5_forbid D tc A [.ref oa, .int x, .int y] w (fun v w' => v = some (.int (d 2 x.toNatClampNeg)) ∧ cO tc w' oa (sL (gD d 2 (upd (d 2) x.toNatClampNeg y)) 0) tk st ∧ gK w w') (fun _ => False) := by
  obtain ⟨ca, rfl, h⟩ := hC
  exact gM_wk (c_X5_forbid l hfl D tc A w ca d tk st x y h hOk) (c_thr_no hg) (fun v w' h9 => ⟨h9.2.1, h9.2.2.1, h9.2.2.2⟩)
theorem k_sounds (l : Launch) (hfl : l.stackTraces = false) (D : va_G) (tc : Nat → ClassId) (A : Nat → Prop) (w : gW) (oa : Nat) (d : gDt) (tk : Int64) (st : Nat → Int64) (x : Int32) (y : Int32) (hC : cO tc w oa d tk st) (hOk : mOk d) (hg : ¬ m_go (ga_sounds d x y) (gb_sounds d x y) (gc_sounds d x y) = 0) : gM l yX5_sounds cX5_sounds 4 (some .int) rm_X5_sounds D tc A [.ref oa, .int x, .int y] w (fun v w' => v = some (.int (m_snd d x.toNatClampNeg y.toNatClampNeg)) ∧ cO tc w' oa (sL d 0) tk st ∧ gK w w') (fun _ => False) := by
  obtain ⟨ca, rfl, h⟩ := hC
  exact gM_wk (c_X5_sounds l hfl D tc A w ca d tk st x y h hOk) (c_thr_no hg) (fun v w' h9 => ⟨h9.2.1, h9.2.2.1, h9.2.2.2⟩)
theorem k_stroke (l : Launch) (hfl : l.stackTraces = false) (D : va_G) (tc : Nat → ClassId) (A : Nat → Prop) (w : gW) (oa : Nat) (d : gDt) (tk : Int64) (st : Nat → Int64) (x : Int32) (a : Int32) (y : Int32) (b : Int32) (t : Int32) (hC : cO tc w oa d tk st) (hOk : mOk d) (hT : tOk d) (hg : ¬ m_go (ga_stroke d x a y b t) (gb_stroke d x a y b t) (gc_stroke d x a y b t) = 0) : gM l yX5_stroke cX5_stroke 6 (some .int) rm_X5_stroke D tc A [.ref oa, .int x, .int a, .int y, .int b, .int t] w (fun v w' => v = some (.int (m_stroke d x a y b t)) ∧ cO tc w' oa (sL d 0) tk st ∧ gK w w') (fun _ => False) := by
  obtain ⟨ca, rfl, h⟩ := hC
  exact gM_wk (c_X5_stroke l hfl D tc A w ca d tk st x a y b t h hOk hT) (c_thr_no hg) (fun v w' h9 => ⟨h9.2.1, h9.2.2.1, h9.2.2.2⟩)
theorem k_strokeAnew (l : Launch) (hfl : l.stackTraces = false) (D : va_G) (tc : Nat → ClassId) (A : Nat → Prop) (w : gW) (oa : Nat) (d : gDt) (tk : Int64) (st : Nat → Int64) (x : Int32) (a : Int32) (y : Int32) (b : Int32) (t : Int32) (hC : cO tc w oa d tk st) (hOk : mOk d) (hT : tOk d) (hg : ¬ m_go (ga_stroke d x a y b t) (gb_stroke d x a y b t) (gc_stroke d x a y b t) = 0) : gM l yX5_strokeAnew cX5_strokeAnew 6 (some .int) rm_X5_strokeAnew D tc A [.ref oa, .int x, .int a, .int y, .int b, .int t] w (fun v w' => v = some (.int (m_stroke d x a y b t)) ∧ cO tc w' oa (sL d 0) tk st ∧ gK w w') (fun _ => False) := by
  obtain ⟨ca, rfl, h⟩ := hC
  exact gM_wk (c_X5_strokeAnew l hfl D tc A w ca d tk st x a y b t h hOk hT) (c_thr_no hg) (fun v w' h9 => ⟨h9.2.1, h9.2.2.1, h9.2.2.2⟩)
theorem k_begin (l : Launch) (hfl : l.stackTraces = false) (D : va_G) (tc : Nat → ClassId) (A : Nat → Prop) (w : gW) (oa : Nat) (d : gDt) (tk : Int64) (st : Nat → Int64) (x : Int32) (hC : cO tc w oa d tk st) (hOk : mOk d) (hg : ¬ m_go (ga_begin d x) (gb_begin d x) (gc_begin d x) = 0) : gM l yX5_begin cX5_begin 3 (some .int) rm_X5_begin D tc A [.ref oa, .int x] w (fun v w' => v = some (.int (d 9 10 + 1)) ∧ cO tc w' oa (sL (gD d 9 (upd (upd (upd (upd (upd (upd (upd (upd (upd (d 9) 2 1) 3 x) 4 0) 5 20) 6 0) 7 0) 8 0) 9 0) 10 (d 9 10 + 1))) 0) tk st ∧ gK w w') (fun _ => False) := by
  obtain ⟨ca, rfl, h⟩ := hC
  exact gM_wk (c_X5_begin l hfl D tc A w ca d tk st x h hOk) (c_thr_no hg) (fun v w' h9 => ⟨h9.2.1, h9.2.2.1, h9.2.2.2⟩)
theorem k_drum (l : Launch) (hfl : l.stackTraces = false) (D : va_G) (tc : Nat → ClassId) (A : Nat → Prop) (w : gW) (oa : Nat) (d : gDt) (tk : Int64) (st : Nat → Int64) (x : Int32) (B : Nat) (hC : cO tc w oa d tk st) (hOk : mOk d) (hB : B ≤ 60000) (hj : jP d B) (hg : ¬ m_go (ga_drum d x) (gb_drum d x) (gc_drum d x) = 0) : gM l yX5_drum cX5_drum 2 (some .int) rm_X5_drum D tc A [.ref oa, .int x] w (fun v w' => v = some (.int (d 9 4)) ∧ cO tc w' oa (sL (m_drum d x) 0) tk st ∧ gK w w') (fun _ => False) := by
  obtain ⟨ca, rfl, h⟩ := hC
  exact gM_wk (c_X5_drum l hfl D tc A w ca d tk st x B h hOk hB hj) (c_thr_no hg) (fun v w' h9 => ⟨h9.2.1, h9.2.2.1, h9.2.2.2⟩)
theorem k_beats (l : Launch) (hfl : l.stackTraces = false) (D : va_G) (tc : Nat → ClassId) (A : Nat → Prop) (w : gW) (oa : Nat) (d : gDt) (tk : Int64) (st : Nat → Int64) (x : Int32) (B : Nat) (hC : cO tc w oa d tk st) (hOk : mOk d) (hB : B ≤ 60000) (hj : jP d B) (hg : ¬ m_go (ga_beats d x) (gb_beats d x) (gc_beats d x) = 0) : gM l yX5_beats cX5_beats 3 (some .int) rm_X5_beats D tc A [.ref oa, .int x] w (fun v w' => v = some (.int (nI (m_bt x.toNatClampNeg (sL d 0) tk st).1)) ∧ cO tc w' oa (m_bt x.toNatClampNeg (sL d 0) tk st).2.1 (m_bt x.toNatClampNeg (sL d 0) tk st).2.2.1 ((m_bt x.toNatClampNeg (sL d 0) tk st).2.2.2) ∧ gK w w') (fun _ => False) := by
  obtain ⟨ca, rfl, h⟩ := hC
  exact gM_wk (c_X5_beats l hfl D tc A w ca d tk st x B h hOk hB hj) (c_thr_no hg) (fun v w' h9 => ⟨h9.2.1, h9.2.2.1, h9.2.2.2⟩)
theorem k_now (l : Launch) (hfl : l.stackTraces = false) (D : va_G) (tc : Nat → ClassId) (A : Nat → Prop) (w : gW) (oa : Nat) (d : gDt) (tk : Int64) (st : Nat → Int64) (x : Int32) (hC : cO tc w oa d tk st) (hOk : mOk d) (hg : ¬ m_go (ga_now d x) (gb_now d x) (gc_now d x) = 0) : gM l yX5_now cX5_now 2 (some .int) rm_X5_now D tc A [.ref oa, .int x] w (fun v w' => v = some (.int (m_now d x)) ∧ cO tc w' oa (sL d 0) tk st ∧ gK w w') (fun _ => False) := by
  obtain ⟨ca, rfl, h⟩ := hC
  exact gM_wk (c_X5_now l hfl D tc A w ca d tk st x h hOk) (c_thr_no hg) (fun v w' h9 => ⟨h9.2.1, h9.2.2.1, h9.2.2.2⟩)
theorem k_ticks (l : Launch) (hfl : l.stackTraces = false) (D : va_G) (tc : Nat → ClassId) (A : Nat → Prop) (w : gW) (oa : Nat) (d : gDt) (tk : Int64) (st : Nat → Int64) (hC : cO tc w oa d tk st) (hOk : mOk d) : gM l yX5_ticks cX5_ticks 1 (some .long) rm_X5_ticks D tc A [.ref oa] w (fun v w' => v = some (.long tk) ∧ cO tc w' oa d tk st ∧ gK w w') (fun _ => False) := by
  obtain ⟨ca, rfl, h⟩ := hC
  exact gM_wk (c_X5_ticks l hfl D tc A w ca d tk st h hOk) (fun _ h9 => h9) (fun v w' h9 => ⟨h9.1, by rw [h9.2]; exact ⟨ca, rfl, h⟩, by rw [h9.2]; exact gK_rf w⟩)
theorem k_strokes (l : Launch) (hfl : l.stackTraces = false) (D : va_G) (tc : Nat → ClassId) (A : Nat → Prop) (w : gW) (oa : Nat) (d : gDt) (tk : Int64) (st : Nat → Int64) (x : Int32) (hC : cO tc w oa d tk st) (hOk : mOk d) (hg : ¬ m_isPart x = 0) : gM l yX5_strokes cX5_strokes 2 (some .long) rm_X5_strokes D tc A [.ref oa, .int x] w (fun v w' => v = some (.long (st x.toNatClampNeg)) ∧ cO tc w' oa d tk st ∧ gK w w') (fun _ => False) := by
  obtain ⟨ca, rfl, h⟩ := hC
  exact gM_wk (c_X5_strokes l hfl D tc A w ca d tk st x h hOk) (fun _ h9 => hg h9.1) (fun v w' h9 => ⟨h9.2.1, by rw [h9.2.2]; exact ⟨ca, rfl, h⟩, by rw [h9.2.2]; exact gK_rf w⟩)
theorem k_days (l : Launch) (hfl : l.stackTraces = false) (D : va_G) (tc : Nat → ClassId) (A : Nat → Prop) (w : gW) (oa : Nat) (d : gDt) (tk : Int64) (st : Nat → Int64) (x : Int32) (hC : cO tc w oa d tk st) (hOk : mOk d) (hg : ¬ m_go (ga_days d x) (gb_days d x) (gc_days d x) = 0) : gM l yX5_days cX5_days 2 (some .int) rm_X5_days D tc A [.ref oa, .int x] w (fun v w' => v = some (.int (d 9 11 + x - (d 9 11 + x) / 5 * 5)) ∧ cO tc w' oa (sL (gD d 9 (upd (d 9) 11 (d 9 11 + x - (d 9 11 + x) / 5 * 5))) 0) tk st ∧ gK w w') (fun _ => False) := by
  obtain ⟨ca, rfl, h⟩ := hC
  exact gM_wk (c_X5_days l hfl D tc A w ca d tk st x h hOk) (c_thr_no hg) (fun v w' h9 => ⟨h9.2.1, h9.2.2.1, h9.2.2.2⟩)
theorem k_pitch (l : Launch) (hfl : l.stackTraces = false) (D : va_G) (tc : Nat → ClassId) (A : Nat → Prop) (w : gW) (oa : Nat) (d : gDt) (tk : Int64) (st : Nat → Int64) (x : Int32) (y : Int32) (z : Int32) (hC : cO tc w oa d tk st) (hOk : mOk d) (hg : ¬ m_go (ga_pitch d x y z) (gb_pitch d x y z) (gc_pitch d x y z) = 0) : gM l yX5_pitch cX5_pitch 5 (some .int) rm_X5_pitch D tc A [.ref oa, .int x, .int y, .int z] w (fun v w' => v = some (.int (d 4 (8 * x + y).toNatClampNeg)) ∧ cO tc w' oa (sL (gD d 4 (upd (d 4) (8 * x + y).toNatClampNeg z)) 0) tk st ∧ gK w w') (fun _ => False) := by
  obtain ⟨ca, rfl, h⟩ := hC
  exact gM_wk (c_X5_pitch l hfl D tc A w ca d tk st x y z h hOk) (c_thr_no hg) (fun v w' h9 => ⟨h9.2.1, h9.2.2.1, h9.2.2.2⟩)
theorem k_drift (l : Launch) (hfl : l.stackTraces = false) (D : va_G) (tc : Nat → ClassId) (A : Nat → Prop) (w : gW) (oa : Nat) (d : gDt) (tk : Int64) (st : Nat → Int64) (x : Int32) (y : Int32) (hC : cO tc w oa d tk st) (hOk : mOk d) (hg : ¬ m_go (ga_drift d x y) (gb_drift d x y) (gc_drift d x y) = 0) : gM l yX5_drift cX5_drift 5 (some .int) rm_X5_drift D tc A [.ref oa, .int x, .int y] w (fun v w' => v = some (.int (d 5 x.toNatClampNeg)) ∧ cO tc w' oa (sL (gD d 5 (upd (d 5) x.toNatClampNeg y)) 0) tk st ∧ gK w w') (fun _ => False) := by
  obtain ⟨ca, rfl, h⟩ := hC
  exact gM_wk (c_X5_drift l hfl D tc A w ca d tk st x y h hOk) (c_thr_no hg) (fun v w' h9 => ⟨h9.2.1, h9.2.2.1, h9.2.2.2⟩)
theorem k_years (l : Launch) (hfl : l.stackTraces = false) (D : va_G) (tc : Nat → ClassId) (A : Nat → Prop) (w : gW) (oa : Nat) (d : gDt) (tk : Int64) (st : Nat → Int64) (x : Int32) (hC : cO tc w oa d tk st) (hOk : mOk d) (hg : ¬ m_go (ga_years d x) (gb_years d x) (gc_years d x) = 0) : gM l yX5_years cX5_years 3 (some .int) rm_X5_years D tc A [.ref oa, .int x] w (fun v w' => v = some (.int (d 9 12 + x)) ∧ cO tc w' oa (sL (gD (gD d 4 (m_yrs d x.toNatClampNeg)) 9 (upd (d 9) 12 (d 9 12 + x))) 0) tk st ∧ gK w w') (fun _ => False) := by
  obtain ⟨ca, rfl, h⟩ := hC
  exact gM_wk (c_X5_years l hfl D tc A w ca d tk st x h hOk) (c_thr_no hg) (fun v w' h9 => ⟨h9.2.1, h9.2.2.1, h9.2.2.2⟩)
theorem k_tune (l : Launch) (hfl : l.stackTraces = false) (D : va_G) (tc : Nat → ClassId) (A : Nat → Prop) (w : gW) (oa : Nat) (d : gDt) (tk : Int64) (st : Nat → Int64) (x : Int32) (y : Int32) (hC : cO tc w oa d tk st) (hOk : mOk d) (hpO : pOk d) (hg : ¬ m_go (ga_tune d x y) (gb_tune d x y) (gc_tune d x y) = 0) : gM l yX5_tune cX5_tune 5 (some .int) rm_X5_tune D tc A [.ref oa, .int x, .int y] w (fun v w' => v = some (.int ((m_tunD d x y) (8 * x + 1).toNatClampNeg)) ∧ cO tc w' oa (sL (gD d 4 (m_tunD d x y)) 0) tk st ∧ gK w w') (fun _ => False) := by
  obtain ⟨ca, rfl, h⟩ := hC
  exact gM_wk (c_X5_tune l hfl D tc A w ca d tk st x y h hOk hpO) (c_thr_no hg) (fun v w' h9 => ⟨h9.2.1, h9.2.2.1, h9.2.2.2⟩)
theorem k_beat (l : Launch) (hfl : l.stackTraces = false) (D : va_G) (tc : Nat → ClassId) (A : Nat → Prop) (w : gW) (oa : Nat) (d : gDt) (tk : Int64) (st : Nat → Int64) (x : Int32) (y : Int32) (z : Int32) (hC : cO tc w oa d tk st) (hOk : mOk d) (hg : ¬ m_go (ga_beat d x y z) (gb_beat d x y z) (gc_beat d x y z) = 0) : gM l yX5_beat cX5_beat 6 (some .int) rm_X5_beat D tc A [.ref oa, .int x, .int y, .int z] w (fun v w' => v = some (.int (m_beat d x y z)) ∧ cO tc w' oa (sL d 0) tk st ∧ gK w w') (fun _ => False) := by
  obtain ⟨ca, rfl, h⟩ := hC
  exact gM_wk (c_X5_beat l hfl D tc A w ca d tk st x y z h hOk) (c_thr_no hg) (fun v w' h9 => ⟨h9.2.1, h9.2.2.1, h9.2.2.2⟩)
theorem k_player (l : Launch) (hfl : l.stackTraces = false) (D : va_G) (tc : Nat → ClassId) (A : Nat → Prop) (w : gW) (oa : Nat) (d : gDt) (tk : Int64) (st : Nat → Int64) (x : Int32) (hC : cO tc w oa d tk st) (hOk : mOk d) (hg : ¬ m_go (ga_player d x) (gb_player d x) (gc_player d x) = 0) : gM l yX5_player cX5_player 2 (some .int) rm_X5_player D tc A [.ref oa, .int x] w (fun v w' => v = some (.int (d 9 13 + 1 - 1)) ∧ cO tc w' oa (sL (gD (gD d 6 (upd (d 6) (d 9 13).toNatClampNeg x)) 9 (upd (d 9) 13 (d 9 13 + 1))) 0) tk st ∧ gK w w') (fun _ => False) := by
  obtain ⟨ca, rfl, h⟩ := hC
  exact gM_wk (c_X5_player l hfl D tc A w ca d tk st x h hOk) (c_thr_no hg) (fun v w' h9 => ⟨h9.2.1, h9.2.2.1, h9.2.2.2⟩)
theorem k_learn (l : Launch) (hfl : l.stackTraces = false) (D : va_G) (tc : Nat → ClassId) (A : Nat → Prop) (w : gW) (oa : Nat) (d : gDt) (tk : Int64) (st : Nat → Int64) (x : Int32) (y : Int32) (o : Int32) (hC : cO tc w oa d tk st) (hOk : mOk d) (hg : ¬ m_go (ga_learn d x y o) (gb_learn d x y o) (gc_learn d x y o) = 0) : gM l yX5_learn cX5_learn 6 (some .int) rm_X5_learn D tc A [.ref oa, .int x, .int y, .int o] w (fun v w' => v = some (.int (nI (m_knc (upd (d 7) (6 * x + y).toNatClampNeg 1) y.toNatClampNeg (nU d)))) ∧ cO tc w' oa (sL (m_lrn d x y o) 0) tk st ∧ gK w w') (fun _ => False) := by
  obtain ⟨ca, rfl, h⟩ := hC
  exact gM_wk (c_X5_learn l hfl D tc A w ca d tk st x y o h hOk) (c_thr_no hg) (fun v w' h9 => ⟨h9.2.1, h9.2.2.1, h9.2.2.2⟩)
theorem k_slip (l : Launch) (hfl : l.stackTraces = false) (D : va_G) (tc : Nat → ClassId) (A : Nat → Prop) (w : gW) (oa : Nat) (d : gDt) (tk : Int64) (st : Nat → Int64) (x : Int32) (y : Int32) (z : Int32) (a : Int32) (hC : cO tc w oa d tk st) (hOk : mOk d) (hg : ¬ m_go (ga_slip d x y z a) (gb_slip d x y z a) (gc_slip d x y z a) = 0) : gM l yX5_slip cX5_slip 7 (some .int) rm_X5_slip D tc A [.ref oa, .int x, .int y, .int z, .int a] w (fun v w' => v = some (.int (d 8 (65 * (6 * x + y) + z).toNatClampNeg)) ∧ cO tc w' oa (sL (gD d 8 (upd (d 8) (65 * (6 * x + y) + z).toNatClampNeg a)) 0) tk st ∧ gK w w') (fun _ => False) := by
  obtain ⟨ca, rfl, h⟩ := hC
  exact gM_wk (c_X5_slip l hfl D tc A w ca d tk st x y z a h hOk) (c_thr_no hg) (fun v w' h9 => ⟨h9.2.1, h9.2.2.1, h9.2.2.2⟩)
theorem k_unlike (l : Launch) (hfl : l.stackTraces = false) (D : va_G) (tc : Nat → ClassId) (A : Nat → Prop) (w : gW) (oa : Nat) (d : gDt) (tk : Int64) (st : Nat → Int64) (x : Int32) (o : Int32) (y : Int32) (hC : cO tc w oa d tk st) (hOk : mOk d) (hg : ¬ m_go (ga_unlike d x o y) (gb_unlike d x o y) (gc_unlike d x o y) = 0) : gM l yX5_unlike cX5_unlike 7 (some .int) rm_X5_unlike D tc A [.ref oa, .int x, .int o, .int y] w (fun v w' => v = some (.int (m_unlike d x o y)) ∧ cO tc w' oa (sL d 0) tk st ∧ gK w w') (fun _ => False) := by
  obtain ⟨ca, rfl, h⟩ := hC
  exact gM_wk (c_X5_unlike l hfl D tc A w ca d tk st x o y h hOk) (c_thr_no hg) (fun v w' h9 => ⟨h9.2.1, h9.2.2.1, h9.2.2.2⟩)
theorem k_covered (l : Launch) (hfl : l.stackTraces = false) (D : va_G) (tc : Nat → ClassId) (A : Nat → Prop) (w : gW) (oa : Nat) (d : gDt) (tk : Int64) (st : Nat → Int64) (x : Int32) (hC : cO tc w oa d tk st) (hOk : mOk d) (hg : ¬ m_go (ga_covered d x) (gb_covered d x) (gc_covered d x) = 0) : gM l yX5_covered cX5_covered 5 (some .int) rm_X5_covered D tc A [.ref oa, .int x] w (fun v w' => v = some (.int (m_most (m_cv d x.toNatClampNeg (nU d)) 16)) ∧ cO tc w' oa (sL d 0) tk st ∧ gK w w') (fun _ => False) := by
  obtain ⟨ca, rfl, h⟩ := hC
  exact gM_wk (c_X5_covered l hfl D tc A w ca d tk st x h hOk) (c_thr_no hg) (fun v w' h9 => ⟨h9.2.1, h9.2.2.1, h9.2.2.2⟩)
