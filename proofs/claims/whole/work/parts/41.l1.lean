/-! the law: its world, its calls -/
/-- the keys 7 and 2000 change places -/
def gSw (w : gW) : gW := fun k => if k = 7 then w 2000 else if k = 2000 then w 7 else w k
theorem gSw_7 (w : gW) : gSw w 7 = w 2000 := rfl
theorem gSw_2 (w : gW) : gSw w 2000 = w 7 := rfl
theorem gSw_o (w : gW) {k : Nat} (h7 : k ≠ 7) (h2 : k ≠ 2000) : gSw w k = w k := by
  show (if k = 7 then w 2000 else if k = 2000 then w 7 else w k) = w k
  rw [if_neg h7, if_neg h2]
theorem gSw_i (w : gW) (k : Nat) : ∃ j, gSw w k = w j ∧ (k = 7 → j = 2000) ∧ (k = 2000 → j = 7) ∧ (k ≠ 7 → k ≠ 2000 → j = k) := by
  by_cases h7 : k = 7
  · subst h7; exact ⟨2000, rfl, fun _ => rfl, fun h => by omega, fun h => absurd rfl h⟩
  · by_cases h2 : k = 2000
    · subst h2; exact ⟨7, rfl, fun h => by omega, fun _ => rfl, fun _ h => absurd rfl h⟩
    · exact ⟨k, gSw_o w h7 h2, fun h => absurd h h7, fun h => absurd h h2, fun _ _ => rfl⟩
theorem gSw_sw (w : gW) : gSw (gSw w) = w := by
  funext k
  by_cases h7 : k = 7
  · subst h7; rfl
  · by_cases h2 : k = 2000
    · subst h2; rfl
    · rw [gSw_o _ h7 h2, gSw_o _ h7 h2]
theorem gS.sw {D : va_G} {A : Nat → Prop} {H0 H : Heap} {w : gW} {locs : List Loc} (h : gS D A H0 w H locs) : gS D A H0 (gSw w) H locs := by
  obtain ⟨h1, ⟨h2, h3⟩, h4⟩ := h
  refine ⟨fun k x hx => ?_, ⟨fun k j x y hx hy hxy => ?_, fun k x hx => ?_⟩, h4⟩
  · obtain ⟨i, e, -⟩ := gSw_i w k
    exact h1 i x (e.symm.trans hx)
  · obtain ⟨i, e, a1, a2, a3⟩ := gSw_i w k
    obtain ⟨q, f, b1, b2, b3⟩ := gSw_i w j
    have := h2 i q x y (e.symm.trans hx) (f.symm.trans hy) hxy
    by_cases k7 : k = 7
    · by_cases j7 : j = 7
      · omega
      · by_cases j2 : j = 2000
        · have := a1 k7; have := b2 j2; omega
        · have := a1 k7; have := b3 j7 j2; omega
    · by_cases k2 : k = 2000
      · by_cases j7 : j = 7
        · have := a2 k2; have := b1 j7; omega
        · by_cases j2 : j = 2000
          · omega
          · have := a2 k2; have := b3 j7 j2; omega
      · have := a3 k7 k2
        by_cases j7 : j = 7
        · have := b1 j7; omega
        · by_cases j2 : j = 2000
          · have := b2 j2; omega
          · have := b3 j7 j2; omega
  · obtain ⟨i, e, -⟩ := gSw_i w k
    exact h3 i x (e.symm.trans hx)
/-- the class's state rests on its own keys -/
theorem cW_cg {tc : Nat → ClassId} {w w' : gW} {ca : Nat → Nat} {d : gDt} {tk : Int64} {st : Nat → Int64} (hC : cW tc w ca d tk st) (hOk : mOk d) (hw : ∀ k, k < 1000 → k ≠ 7 → w' k = w k) : cW tc w' ca d tk st := by
  obtain ⟨⟨z0, z1, z2, z5, z6⟩, ⟨cy, ge, sf, z3, z4, hsf, hce, hcy⟩, zP, zS, zU, zV, zN1, zN2, zN3⟩ := hC
  have b1 := hOk.1.2.1
  have b2 := hOk.1.2.2
  refine ⟨⟨(hw _ (by omega) (by omega)).trans z0, (hw _ (by omega) (by omega)).trans z1, (hw _ (by omega) (by omega)).trans z2, (hw _ (by omega) (by omega)).trans z5, (hw _ (by omega) (by omega)).trans z6⟩, ⟨cy, ge, sf, (hw _ (by omega) (by omega)).trans z3, (hw _ (by omega) (by omega)).trans z4, hsf, hce, hcy⟩, ?_, ?_, ?_, ?_, ?_, ?_, ?_⟩
  · intro i hi
    exact cP_fr (zP i hi) (hw _ (by omega) (by omega)) (hw _ (by omega) (by omega)) (hw _ (by omega) (by omega)) rfl rfl rfl
  · intro s hs
    exact cS_fr (zS s hs) (hw _ (by omega) (by omega)) (hw _ (by omega) (by omega)) rfl rfl
  · intro u hu
    exact cU_fr (zU u hu) (hw _ (by omega) (by omega)) (hw _ (by omega) (by omega)) rfl rfl
  · intro u i hu hi hk
    obtain ⟨a1, a2, a3⟩ := zV u i hu hi hk
    exact ⟨a1, a2, cV_fr a3 (hw _ (by omega) (by omega)) (hw _ (by omega) (by omega)) rfl rfl⟩
  · intro i h1 h9
    rw [hw _ (by omega) (by omega), hw _ (by omega) (by omega), hw _ (by omega) (by omega)]
    exact zN1 i h1 h9
  · intro u h1 h9
    rw [hw _ (by omega) (by omega), hw _ (by omega) (by omega)]
    exact zN2 u h1 h9
  · intro u i hu hi h9
    rw [hw _ (by omega) (by omega), hw _ (by omega) (by omega)]
    exact zN3 u i hu hi h9
theorem mW_cg {tc : Nat → ClassId} {w w' : gW} {ad : Nat → Nat} {d : gDt} {tk : Int64} {st : Nat → Int64} (hM : mW tc w ad d tk st) (hw : ∀ k, 1000 ≤ k → k ≤ 1010 → w' k = w k) : mW tc w' ad d tk st := by
  obtain ⟨o0, o1, o2, o3, o4, o5, o6, o7, o8, o9, o10⟩ := hM
  exact ⟨(hw _ (by decide) (by decide)).trans o0, (hw _ (by decide) (by decide)).trans o1, (hw _ (by decide) (by decide)).trans o2, (hw _ (by decide) (by decide)).trans o3, (hw _ (by decide) (by decide)).trans o4, (hw _ (by decide) (by decide)).trans o5, (hw _ (by decide) (by decide)).trans o6, (hw _ (by decide) (by decide)).trans o7, (hw _ (by decide) (by decide)).trans o8, (hw _ (by decide) (by decide)).trans o9, (hw _ (by decide) (by decide)).trans o10⟩
/-- the reference's keys stand -/
def gL (w w' : gW) : Prop := ∀ k, 1000 ≤ k → k ≤ 1010 → w' k = w k
/-- a body with handlers, from its entry -/
theorem gMH_of {l : Launch} {y : MethodName} {cc : ByteArray} {nL : Nat} {rt : Option FieldType} {hh : List (Nat × Nat × Nat × Nat)} {rm : Room} {D : va_G} {tc : Nat → ClassId} {A : Nat → Prop} {av : List Value} {w : gW} {post : Option Value → gW → Prop} {thr : String → Prop} (hy : plainName y.cls = true) (hn : nL ≥ (lg_sl av).length)
    (body : ∀ (p : Program) (e : Env) (s : State) (m : MethodId) (args : Array Value) (below : List Frame) (meth : Method) (c : Code) (ls : Array Slot) (Q : State → Prop), Q = vx_MQ below (gQ D A post) (gXC D A w thr) args s rm.cells rm.slots A → gE p l s m args meth c cc nL y.cls D tc A → gS D A s.heap w s.heap [] → meth.sig.returnType = rt → c.exceptionTable.toList = tableOf hh → lv_has ls nL (lv_args 0 av) →
      W p l e rm s m args below meth c s.heap [] 0 0 Q (F0 m 0 ls [])) : gMH l y cc nL rt hh rm D tc A av w post thr := by
  refine vx_ofWH (cc := cc) (maxL := nL) (ret := rt) (ws' := gT) hy rfl ?_
  intro p e s m args below meth c s₁ B hml hv
  obtain ⟨rfl, h1, h2, h3, h4, h5⟩ := hv
  have hts0 := atoms_spec (ws := Cond.codeWith y cc nL rt hh :: gT) B.pre
  have hts : ∀ w ∈ gT, w.before av.toArray s = true := fun w hw => hts0 w (List.mem_cons_of_mem _ hw)
  have hown : s.vm.findClass y.cls = some m.cls := findClass_of_methodNamed B.named
  have htab := vx_table (x := y) B (hts0 _ List.mem_cons_self)
  have hl := lv_entry av (n := nL) hn
  rw [lg_entry_eq]
  generalize (lg_sl av ++ List.replicate (nL - (lg_sl av).length) Slot.unset).toArray = ls at hl ⊢
  exact body p e s m av.toArray below meth c ls _ rfl ⟨B.exec, B.bytes, hml, hown, hts, h4, h5, h3, B.notSynchronized⟩ ⟨h1, h2, va_S.rf⟩ B.returns htab hl
section GLAW
variable {p : Program} {l : Launch} {e : Env} {R : Room} {s : State} {m : MethodId} {args : Array Value} {below : List Frame} {meth : Method} {c : Code} {H : Heap} {locs : List Loc} {cells slots : Nat} {Q : State → Prop}
variable {cc : ByteArray} {nL pc : Nat} {own : String} {ls : Array Slot} {rest : List Value} {D : va_G} {tc : Nat → ClassId} {A : Nat → Prop} {a : Nat} {w : gW}
theorem gW_SH {index : Nat} {y : MethodName} {bytes : ByteArray} {nM : Nat} {ret : Option FieldType} {hh : List (Nat × Nat × Nat × Nat)} (m1 : Cond.methodLink own index y ∈ gT) (m2 : Cond.static y ∈ gT) (m4 : Cond.initialized y.cls ∈ gT) (m5 : Cond.codeWith y bytes nM ret hh ∈ gT) : GoodIn gT (va_wsS own index y (Cond.codeWith y bytes nM ret hh :: gT)) :=
  gGood (List.forall_mem_cons.mpr ⟨m1, List.forall_mem_cons.mpr ⟨m2, List.forall_mem_cons.mpr ⟨m4, List.forall_mem_cons.mpr ⟨m5, fun _ h => h⟩⟩⟩⟩)
theorem g_callSH (hE : gE p l s m args meth c cc nL own D tc A) (hG : gS D A s.heap w H locs) (hsz : ls.size = nL) {index n nM : Nat} {As : List Value} {y : MethodName} {bytes : ByteArray} {ret : Option FieldType} {hh : List (Nat × Nat × Nat × Nat)} {rm : Room} {post : Option Value → gW → Prop} {thr : String → Prop} (hM : gMH l y bytes nM ret hh rm D tc A As w post thr)
    (m1 : Cond.methodLink own index y ∈ gT) (m2 : Cond.static y ∈ gT) (m4 : Cond.initialized y.cls ∈ gT) (m5 : Cond.codeWith y bytes nM ret hh ∈ gT) (hn : gNm y n) (hR : gRm rm R nM cells slots) (hA : As.length = n) {st0 : List Value} (hst : st0 = As.reverse ++ rest) (hW : (rest.map fun v => v.category).sum ≤ 8) (hdg : decode cc pc = .ok (.invokestatic index, 3))
    (kx : ∀ (E : String) (ce : Cell) (q9 : Addr) (H1 : Heap) (locs1 : List Loc), thr E → gS D A s.heap w H1 locs1 → H1[q9]? = some ce → ce.vm = .none → s.vm.findClass E = some ce.cls → vx_W p l e R s m args below meth c H1 locs1 (cells + rm.cells) (slots + rm.slots) Q (F0 m pc ls rest) q9)
    (kk : ∀ (v : Option Value) (w1 : gW) (H1 : Heap) (locs1 : List Loc), post v w1 → gS D A s.heap w1 H1 locs1 → W p l e R s m args below meth c H1 locs1 (cells + rm.cells) (slots + rm.slots) Q (F0 m (pc + 3) ls (v.toList ++ rest))) : W p l e R s m args below meth c H locs cells slots Q (F0 m pc ls st0) := by
  subst hst
  exact g_back (vx_runSX (g := F0 m pc ls (As.reverse ++ rest)) (gFix hE) hM (vx_cwSW n hE.2.2.2.2.1 (gW_SH m1 m2 m4 m5) rfl rfl rfl hn hR.1) (gPreS hE hG) rfl hA hsz rfl (by show 2 * 0 + _ ≤ 8; omega) hdg hR.2) hG kx kk
/-- caught by the table's first row -/
theorem g_catch1 (hE : gE p l s m args meth c cc nL own D tc A) {E name : String} {ce : Cell} {q : Addr} {a1 b1 k1 t1 : Nat} {suf : List (Nat × Nat × Nat × Nat)} (htab : c.exceptionTable.toList = tableOf ((a1, b1, k1, t1) :: suf)) (hcov : covers ⟨a1, b1, k1, t1⟩ pc = true) (h0 : t1 ≠ 0) (hl : Cond.classLink own t1 name ∈ gT) (hn : name ∈ gEs) (hEn : E = name) (hcell : H[q]? = some ce) (hv : ce.vm = .none) (hcl : s.vm.findClass E = some ce.cls)
    (kk : W p l e R s m args below meth c H locs cells slots Q (F0 m k1 ls [.ref q])) : vx_W p l e R s m args below meth c H locs cells slots Q (F0 m pc ls rest) q := by
  subst hEn
  exact vx_catch (own := own) (name := E) hE.2.2.2.1 [] ⟨a1, b1, k1, t1⟩ (tableOf suf) htab (fun z hz => nomatch hz) hcov h0 (hE.2.2.2.2.1 _ hl) (va_Nw.use rfl (hE.2.2.2.2.2.2.1.2.2.2.2.2.1 E hn)) hcell hv hcl kk
theorem g_catch2 (hE : gE p l s m args meth c cc nL own D tc A) {E name nm1 : String} {ce : Cell} {q : Addr} {a1 b1 k1 t1 a2 b2 k2 t2 : Nat} {suf : List (Nat × Nat × Nat × Nat)} (htab : c.exceptionTable.toList = tableOf ((a1, b1, k1, t1) :: (a2, b2, k2, t2) :: suf)) (h01 : t1 ≠ 0) (hl1 : Cond.classLink own t1 nm1 ∈ gT) (hn1 : (name, nm1) ∈ gNs) (hcov : covers ⟨a2, b2, k2, t2⟩ pc = true) (h0 : t2 ≠ 0) (hl : Cond.classLink own t2 name ∈ gT) (hn : name ∈ gEs) (hEn : E = name) (hcell : H[q]? = some ce) (hv : ce.vm = .none) (hcl : s.vm.findClass E = some ce.cls)
    (kk : W p l e R s m args below meth c H locs cells slots Q (F0 m k2 ls [.ref q])) : vx_W p l e R s m args below meth c H locs cells slots Q (F0 m pc ls rest) q := by
  subst hEn
  refine vx_catch (own := own) (name := E) hE.2.2.2.1 [⟨a1, b1, k1, t1⟩] ⟨a2, b2, k2, t2⟩ (tableOf suf) htab (fun z hz => ?_) hcov h0 (hE.2.2.2.2.1 _ hl) (va_Nw.use rfl (hE.2.2.2.2.2.2.1.2.2.2.2.2.1 E hn)) hcell hv hcl kk
  rw [List.mem_singleton.mp hz]
  exact Or.inr ⟨h01, nm1, hE.2.2.2.2.1 _ hl1, hE.2.2.2.2.2.2.1.2.2.2.2.1 _ hn1⟩
theorem g_catch3 (hE : gE p l s m args meth c cc nL own D tc A) {E name nm1 nm2 : String} {ce : Cell} {q : Addr} {a1 b1 k1 t1 a2 b2 k2 t2 a3 b3 k3 t3 : Nat} {suf : List (Nat × Nat × Nat × Nat)} (htab : c.exceptionTable.toList = tableOf ((a1, b1, k1, t1) :: (a2, b2, k2, t2) :: (a3, b3, k3, t3) :: suf)) (h01 : t1 ≠ 0) (hl1 : Cond.classLink own t1 nm1 ∈ gT) (hn1 : (name, nm1) ∈ gNs) (h02 : t2 ≠ 0) (hl2 : Cond.classLink own t2 nm2 ∈ gT) (hn2 : (name, nm2) ∈ gNs) (hcov : covers ⟨a3, b3, k3, t3⟩ pc = true) (h0 : t3 ≠ 0) (hl : Cond.classLink own t3 name ∈ gT) (hn : name ∈ gEs) (hEn : E = name) (hcell : H[q]? = some ce) (hv : ce.vm = .none) (hcl : s.vm.findClass E = some ce.cls)
    (kk : W p l e R s m args below meth c H locs cells slots Q (F0 m k3 ls [.ref q])) : vx_W p l e R s m args below meth c H locs cells slots Q (F0 m pc ls rest) q := by
  subst hEn
  refine vx_catch (own := own) (name := E) hE.2.2.2.1 [⟨a1, b1, k1, t1⟩, ⟨a2, b2, k2, t2⟩] ⟨a3, b3, k3, t3⟩ (tableOf suf) htab (fun z hz => ?_) hcov h0 (hE.2.2.2.2.1 _ hl) (va_Nw.use rfl (hE.2.2.2.2.2.2.1.2.2.2.2.2.1 E hn)) hcell hv hcl kk
  rcases List.mem_cons.mp hz with h | h
  · rw [h]
    exact Or.inr ⟨h01, nm1, hE.2.2.2.2.1 _ hl1, hE.2.2.2.2.2.2.1.2.2.2.2.1 _ hn1⟩
  · rw [List.mem_singleton.mp h]
    exact Or.inr ⟨h02, nm2, hE.2.2.2.2.1 _ hl2, hE.2.2.2.2.2.2.1.2.2.2.2.1 _ hn2⟩
end GLAW
