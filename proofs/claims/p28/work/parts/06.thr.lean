def gBs : List Cond := gDs.map Cond.declares ++ gEs.map (fun E => Cond.castable E E)
abbrev gSup : List String := ["java/lang/RuntimeException", "java/lang/Exception"]
section GTHR
variable {p : Program} {l : Launch} {e : Env} {R : Room} {s : State} {m : MethodId} {args : Array Value} {below : List Frame} {meth : Method} {c : Code} {H : Heap} {locs : List Loc} {cells slots : Nat} {Q : State → Prop}
variable {cc : ByteArray} {nL pc : Nat} {own : String} {ls : Array Slot} {rest : List Value} {D : va_G} {tc : Nat → ClassId} {A : Nat → Prop} {a : Nat} {w : gW}
theorem gBs_at (hE : gE p l s m args meth c cc nL own D tc A) : ∀ w ∈ gBs, w.before args s = true := by
  intro w hw
  have hX := hE.2.2.2.2.2.2.1
  rcases List.mem_append.mp hw with h | h
  · obtain ⟨x, hx, rfl⟩ := List.mem_map.mp h
    exact va_Nw.use rfl (hX.2.2.2.2.2.2.2.2 x hx)
  · obtain ⟨x, hx, rfl⟩ := List.mem_map.mp h
    exact va_Nw.use rfl (hX.2.2.2.2.2.1 x hx)
theorem gAt_words (hE : gE p l s m args meth c cc nL own D tc A) {L : List Cond} (h1 : ∀ w ∈ L.filter goodWord, w ∈ lw_tbl) (h2 : ∀ w ∈ L.filter (fun w => !goodWord w), w ∈ gBs) : ∀ w ∈ L, w.before args s = true :=
  vx_hat (B := gBs) (fun w hw => hE.2.2.2.2.1 w (List.mem_filter.mpr ⟨h1 w hw, (List.mem_filter.mp hw).2⟩)) h2 (gBs_at hE)
theorem gat1_IA : ∀ w ∈ (vx_atS RX5 62 gIA gSup).filter goodWord, w ∈ lw_tbl := by decide +kernel
theorem gat2_IA : ∀ w ∈ (vx_atS RX5 62 gIA gSup).filter (fun w => !goodWord w), w ∈ gBs := by decide +kernel
theorem gat3_IA : ∀ w ∈ Cond.classLink RX5 58 gIA :: Cond.initialized gIA :: vx_atS RX5 62 gIA gSup, vx_ot w = true := by decide +kernel
theorem gat1_IS : ∀ w ∈ (vx_atS RX5 69 gIS gSup).filter goodWord, w ∈ lw_tbl := by decide +kernel
theorem gat2_IS : ∀ w ∈ (vx_atS RX5 69 gIS gSup).filter (fun w => !goodWord w), w ∈ gBs := by decide +kernel
theorem gat3_IS : ∀ w ∈ Cond.classLink RX5 65 gIS :: Cond.initialized gIS :: vx_atS RX5 69 gIS gSup, vx_ot w = true := by decide +kernel
theorem gat1_IO : ∀ w ∈ (vx_atS RX5 78 gIO gSup).filter goodWord, w ∈ lw_tbl := by decide +kernel
theorem gat2_IO : ∀ w ∈ (vx_atS RX5 78 gIO gSup).filter (fun w => !goodWord w), w ∈ gBs := by decide +kernel
theorem gat3_IO : ∀ w ∈ Cond.classLink RX5 74 gIO :: Cond.initialized gIO :: vx_atS RX5 78 gIO gSup, vx_ot w = true := by decide +kernel
theorem gfit_IA : Bundle.fit gIA = true := by decide +kernel
theorem gfit_IS : Bundle.fit gIS = true := by decide +kernel
theorem gfit_IO : Bundle.fit gIO = true := by decide +kernel
theorem gfit_sup : ∀ n ∈ gSup, Bundle.fit n = true := by decide +kernel
/-- what a throw's class needs: the entry of its name and of its constructor -/
def gThr (E : String) (ik ic : Nat) : Prop := Bundle.fit E = true ∧ Cond.classLink RX5 ik E ∈ gT ∧ Cond.initialized E ∈ gT ∧ (∀ w ∈ (vx_atS RX5 ic E gSup).filter goodWord, w ∈ lw_tbl) ∧ (∀ w ∈ (vx_atS RX5 ic E gSup).filter (fun w => !goodWord w), w ∈ gBs) ∧ ∀ w ∈ Cond.classLink RX5 ik E :: Cond.initialized E :: vx_atS RX5 ic E gSup, vx_ot w = true
theorem gX_out {w0 : gW} {thr : String → Prop} {E : String} (hG : gS D A s.heap w H locs) (hw : w = w0) (hp : thr E) : ∀ t : State, s.vm.Alike t.vm → H.size ≤ t.heap.size → (∀ q : Nat, q < H.size → t.heap[q]? = H[q]?) → gXC D A w0 thr E s t := by
  subst hw
  intro t _ h1 h2
  refine ⟨hp, fun k x hx => (hG.1 k x hx).kept (h2 _ (hG.1 k x hx).lt), Nat.le_trans hG.2.2.1 h1, fun q g1 g2 => (h2 q (Nat.lt_of_lt_of_le g1 hG.2.2.1)).trans (hG.2.2.2.1 q g1 g2)⟩
theorem g_thr {w0 : gW} {thr : String → Prop} {Qc : Array Value → State → Outcome → State → Prop} {mc ms : Nat} {E text : String} {ik is ic : Nat} (hl : l.stackTraces = false) (hE : gE p l s m args meth c cc nL RX5 D tc A) (hG : gS D A s.heap w H locs) (hsz : ls.size = nL) (hnt : ∀ x ∈ c.exceptionTable.toList, False) (hT : gThr E ik ic) (hstr : (is, text) ∈ gSs)
    (d0 : decode cc pc = .ok (.new ik, 3)) (d3 : decode cc (pc + 3) = .ok (.dup, 1)) (d4 : decode cc (pc + 4) = .ok (.ldc is, 2)) (d6 : decode cc (pc + 6) = .ok (.invokespecial ic, 3)) (d9 : decode cc (pc + 9) = .ok (.athrow, 1))
    (hR : 5 < R.frames ∧ (rest.map fun v => v.category).sum + 82 ≤ R.locals ∧ cells + 1 ≤ R.cells ∧ slots + 6 ≤ R.slots ∧ cells + 1 ≤ mc ∧ slots + 6 ≤ ms) (hw : w = w0) (hp : thr E) :
    W p l e R s m args below meth c H locs cells slots (vx_MQ below Qc (gXC D A w0 thr) args s mc ms A) (F0 m pc ls rest) := by
  obtain ⟨t1, t2, t3, t4, t5, t6⟩ := hT
  obtain ⟨hexec, hb, hml, hown, hts, hK, hX, hA, hlk⟩ := id hE
  obtain ⟨sa, hsa⟩ := hX.2.2.1 _ hstr
  exact vx_throwS (names := gSup) hexec hb hl hown t1 gfit_sup (hts _ t2) (hts _ t3) hsa (gAt_words hE t4 t5) t6 hX.1 hX.2.1 hG.2.2 (hsz.trans hml.symm) d0 d3 d4 d6 d9 (fun x hx => (hnt x hx).elim) hR.1 hR.2.1 hR.2.2.1 hR.2.2.2.1 hlk (gX_out hG hw hp) hG.2.2.2.2 hR.2.2.2.2.1 hR.2.2.2.2.2
theorem g_thrW {w0 : gW} {thr : String → Prop} {Qc : Array Value → State → Outcome → State → Prop} {mc ms : Nat} {E text : String} {ik is ic : Nat} (hl : l.stackTraces = false) (hE : gE p l s m args meth c cc nL RX5 D tc A) (hG : gS D A s.heap w H locs) (hsz : ls.size = nL) (hnt : ∀ x ∈ c.exceptionTable.toList, False) (hT : gThr E ik ic) (hstr : (is, text) ∈ gSs)
    (d0 : decode cc pc = .ok (.new ik, 3)) (d3 : decode cc (pc + 3) = .ok (.dup, 1)) (d4 : decode cc (pc + 4) = .ok (.ldc_w is, 3)) (d7 : decode cc (pc + 7) = .ok (.invokespecial ic, 3)) (d10 : decode cc (pc + 10) = .ok (.athrow, 1))
    (hR : 5 < R.frames ∧ (rest.map fun v => v.category).sum + 82 ≤ R.locals ∧ cells + 1 ≤ R.cells ∧ slots + 6 ≤ R.slots ∧ cells + 1 ≤ mc ∧ slots + 6 ≤ ms) (hw : w = w0) (hp : thr E) :
    W p l e R s m args below meth c H locs cells slots (vx_MQ below Qc (gXC D A w0 thr) args s mc ms A) (F0 m pc ls rest) := by
  obtain ⟨t1, t2, t3, t4, t5, t6⟩ := hT
  obtain ⟨hexec, hb, hml, hown, hts, hK, hX, hA, hlk⟩ := id hE
  obtain ⟨sa, hsa⟩ := hX.2.2.1 _ hstr
  exact vx_throwSW (names := gSup) hexec hb hl hown t1 gfit_sup (hts _ t2) (hts _ t3) hsa (gAt_words hE t4 t5) t6 hX.1 hX.2.1 hG.2.2 (hsz.trans hml.symm) d0 d3 d4 d7 d10 (fun x hx => (hnt x hx).elim) hR.1 hR.2.1 hR.2.2.1 hR.2.2.2.1 hlk (gX_out hG hw hp) hG.2.2.2.2 hR.2.2.2.2.1 hR.2.2.2.2.2
/-- it goes on to the caller -/
theorem g_out {w0 : gW} {thr thr' : String → Prop} {Qc : Array Value → State → Outcome → State → Prop} {mc ms c1 s1 : Nat} (hE : gE p l s m args meth c cc nL own D tc A) (hnt : ∀ x ∈ c.exceptionTable.toList, False) (hw : w = w0) (ht : ∀ E, thr E → thr' E) (hc : c1 ≤ mc) (hs : s1 ≤ ms) :
    ∀ (E : String) (ce : Cell) (q9 : Addr) (H1 : Heap) (locs1 : List Loc), thr E → gS D A s.heap w H1 locs1 → H1[q9]? = some ce → ce.vm = .none → s.vm.findClass E = some ce.cls → vx_W p l e R s m args below meth c H1 locs1 c1 s1 (vx_MQ below Qc (gXC D A w0 thr') args s mc ms A) (F0 m pc ls rest) q9 := by
  intro E ce q9 H1 locs1 hp hG h1 h2 h3
  refine vx_out (fun x hx => (hnt x hx).elim) hE.2.2.2.2.2.2.2.2 h1 h2 h3 (fun t ht' hal => ?_) hG.2.2.2.2 hc hs
  exact gX_out hG hw (ht E hp) t hal (by rw [ht']; exact Nat.le_refl _) (fun q _ => by rw [ht'])
/-- it can't be -/
theorem g_no {c1 s1 : Nat} : ∀ (E : String) (ce : Cell) (q9 : Addr) (H1 : Heap) (locs1 : List Loc), False → gS D A s.heap w H1 locs1 → H1[q9]? = some ce → ce.vm = .none → s.vm.findClass E = some ce.cls → vx_W p l e R s m args below meth c H1 locs1 c1 s1 Q (F0 m pc ls rest) q9 := fun _ _ _ _ _ h => h.elim
end GTHR
/-- a body, from its entry -/
theorem gM_of {l : Launch} {y : MethodName} {cc : ByteArray} {nL : Nat} {rt : Option FieldType} {rm : Room} {D : va_G} {tc : Nat → ClassId} {A : Nat → Prop} {av : List Value} {w : gW} {post : Option Value → gW → Prop} {thr : String → Prop} (hy : plainName y.cls = true) (hn : nL ≥ (lg_sl av).length)
    (body : ∀ (p : Program) (e : Env) (s : State) (m : MethodId) (args : Array Value) (below : List Frame) (meth : Method) (c : Code) (ls : Array Slot) (Q : State → Prop), Q = vx_MQ below (gQ D A post) (gXC D A w thr) args s rm.cells rm.slots A → gE p l s m args meth c cc nL y.cls D tc A → gS D A s.heap w s.heap [] → meth.sig.returnType = rt → (∀ x ∈ c.exceptionTable.toList, False) → (∀ m9, meth.name = m9 ↔ y.name = m9) → lv_has ls nL (lv_args 0 av) →
      W p l e rm s m args below meth c s.heap [] 0 0 Q (F0 m 0 ls [])) : gM l y cc nL rt rm D tc A av w post thr := by
  refine vx_ofW (cc := cc) (maxL := nL) (ret := rt) (ws' := gT) hy rfl ?_
  intro p e s m args below meth c s₁ B hml hnt hv
  obtain ⟨rfl, h1, h2, h3, h4, h5⟩ := hv
  have hts0 := atoms_spec (ws := Cond.code y cc nL rt :: gT) B.pre
  have hts : ∀ w ∈ gT, w.before av.toArray s = true := fun w hw => hts0 w (List.mem_cons_of_mem _ hw)
  have hown : s.vm.findClass y.cls = some m.cls := findClass_of_methodNamed B.named
  have hname := (name_of_methodNamed B.named B.method).1
  have hl := lv_entry av (n := nL) hn
  rw [lg_entry_eq]
  generalize (lg_sl av ++ List.replicate (nL - (lg_sl av).length) Slot.unset).toArray = ls at hl ⊢
  exact body p e s m av.toArray below meth c ls _ rfl ⟨B.exec, B.bytes, hml, hown, hts, h4, h5, h3, B.notSynchronized⟩ ⟨h1, h2, va_S.rf⟩ B.returns hnt (fun m9 => by rw [hname]) hl
theorem gTgIA : gThr gIA 58 62 := ⟨gfit_IA, mw1_142, mw1_7, gat1_IA, gat2_IA, gat3_IA⟩
theorem gTgIS : gThr gIS 65 69 := ⟨gfit_IS, mw1_220, mw1_8, gat1_IS, gat2_IS, gat3_IS⟩
theorem gTgIO : gThr gIO 74 78 := ⟨gfit_IO, mw2_4, mw1_9, gat1_IO, gat2_IO, gat3_IO⟩
