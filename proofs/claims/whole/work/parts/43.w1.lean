/-! the law: one call of each kind -/
def R_law : String := "GongCyclesLaw"
def lw_P (b : Addr) (xs : List Int32) (args : Array Value) (s : State) : Prop := args = #[.ref b] ∧ s.IntsAt b xs ∧ xs.length ≤ 3072 ∧ (Jvm.Cond.and given_1 narrow_1).before args s = true
def lw_Q (_ : Array Value) (s : State) (o : Outcome) (t : State) : Prop := o = .returned (some (.int 1)) ∧ Framed s o t [] 601024 7293034
def lw_Z (below : List Frame) (a : Array Value) (s : State) : State → Prop := fun t => ∃ o, t.status = .running ∧ Ended t below o ∧ lw_Q a s o t
/-- the law's own end, with 1 on the stack, nothing written that was there before, its room as the claim has it -/
theorem lw_ret {p : Program} {l : Launch} {e : Env} {s : State} {m : MethodId} {below : List Frame} {meth : Method} {c : Code} {b : Nat} (hx : p.tables.exec = Jvm.exec) (hb : c.code = code) (hr : meth.sig.returnType = ret) (hlocks : meth.locks = false) {pc : Nat} {H : Heap} {ls : Array Slot} (hdg : decode code pc = .ok (.ireturn, 1)) : W p l e room_1 s m #[Value.ref b] below meth c H [] 601024 7293034 (lw_Z below #[Value.ref b] s) (F0 m pc ls [.int 1]) := by
  intro T hT X
  obtain ⟨fs, hret, hrun, hended, hW, hframe⟩ := X.leave (v := some (.int 1)) (hlocks := hlocks) (fun h => by rw [hr] at h; cases h)
  have hmeth' : T.vm.method? m = some meth := X.method'
  refine ⟨T.setFrames fs, ?_, .returned (some (.int 1)), hrun, hended, rfl, ⟨_, rfl⟩, hW, hframe⟩
  jvm_step X.here [X.here.top, hx, hb, hdg, hmeth', hr, ret, narrow_b1]
  (try refine ⟨rfl, ?_⟩); (try refine ⟨rfl, ?_⟩)
  first | (intro acts; rw [hret _ acts rfl rfl rfl]) | rw [hret _ _ rfl rfl rfl]
  exact Steps.refl _
/-- what holds at the law's entry: the machine, the code, the tables' words (any of lw_tbl by 'hts w (by decide +kernel)'), the script of L ints xs at the cell b, what the Statement gives of the start (any of its parts by flat_of_before) -/
def lw_At (p : Program) (s : State) (m : MethodId) (meth : Method) (c : Code) (b L : Nat) (xs : Nat → Int32) : Prop :=
  p.tables.exec = Jvm.exec ∧ c.code = code ∧ meth.sig.returnType = ret ∧ c.maxLocals = 8 ∧ s.vm.findClass R_law = some m.cls ∧ (∀ w ∈ lw_tbl, w.before #[Value.ref b] s = true) ∧ va_X b L xs s s.heap ∧ b < s.heap.size ∧ meth.locks = false ∧ (Jvm.Cond.and given_1 narrow_1).before #[Value.ref b] s = true
/-- the head of the law's loop, k calls done -/
def gLoop (p : Program) (l : Launch) (e : Env) (s : State) (m : MethodId) (args : Array Value) (below : List Frame) (meth : Method) (c : Code) (Q : State → Prop) (D : va_G) (tc : Nat → ClassId) (A : Nat → Prop) (b oa k : Nat) : Prop :=
  ∀ (ca ad : Nat → Nat) (d : gDt) (tk : Int64) (st of : Nat → Int64) (w : gW) (H : Heap) (locs : List Loc) (ls : Array Slot), cW tc w ca d tk st → mW tc w ad d tk st → iOk d (100 * k) → w 7 = some (oa, .inl (tc 1, 1, .inr (.inl of))) → gS D A s.heap w H locs → lv_has ls 8 [(4, .int (nI (6 * k))), (0, .ref b), (1, .ref (ca 0)), (2, .ref (ad 0)), (3, .ref oa)] → W p l e room_1 s m args below meth c H locs (100 + 40 * k) (5000 + 400 * k) Q (F0 m 23 ls [])
theorem la_ne {a b c : Int32} (h : m_go a b c = 0) : ¬ m_la a b c = 0 := by
  unfold m_go at h
  unfold m_la
  by_cases ha : a = 0
  · rw [if_pos ha]; decide
  · rw [if_neg ha] at h ⊢
    by_cases hb : b = 0
    · rw [if_pos hb]; decide
    · rw [if_neg hb] at h ⊢
      by_cases hc : c = 0
      · rw [if_pos hc]; decide
      · rw [if_neg hc] at h; exact absurd h (by decide)
theorem lg_self (x : Int64) : lg_cmp x x = 0 := by
  unfold lg_cmp
  rw [if_neg (fun h => Int64.lt_irrefl h), if_pos rfl]
theorem bt_14 : ∀ (k : Nat) (d : gDt) (tk : Int64) (st : Nat → Int64), (m_bt k d tk st).2.1 9 14 = d 9 14 := by
  intro k
  induction k with
  | zero => intro d tk st; rfl
  | succ k ih =>
    intro d tk st
    show (if d 9 2 = 0 then (0, d, tk, st) else ((m_bt k (mB d) (tk + (d 9 5).toInt64) (m_sts (d 9 6) st)).1 + 1, (m_bt k (mB d) (tk + (d 9 5).toInt64) (m_sts (d 9 6) st)).2) : Nat × gDt × Int64 × (Nat → Int64)).2.1 9 14 = d 9 14
    by_cases hg : d 9 2 = 0
    · rw [if_pos hg]
    · rw [if_neg hg]
      exact (ih (mB d) (tk + (d 9 5).toInt64) (m_sts (d 9 6) st)).trans (mB_s d (by decide))
theorem iOk_le {d : gDt} {B B' : Nat} (h : iOk d B) (hB : B ≤ B') : iOk d B' := ⟨h.1, h.2.1, h.2.2.1, h.2.2.2.1, h.2.2.2.2.1, jP_le h.2.2.2.2.2 hB⟩
theorem hcu_of {d : gDt} {B : Nat} (hj : jP d B) : ¬ d 9 2 = 0 → ∃ i, i < nP d ∧ d 9 3 = nI i := fun g => by
  obtain ⟨-, ⟨i, p, q, a1, a2, -⟩, -⟩ := hj g
  exact ⟨i, a1, a2⟩
set_option maxHeartbeats 4000000 in
set_option maxRecDepth 100000 in
theorem lc_form {p : Program} {l : Launch} {e : Env} {s : State} {m : MethodId} {args : Array Value} {below : List Frame} {meth : Method} {c : Code} {Q : State → Prop} (hfl : l.stackTraces = false) {D : va_G} {tc : Nat → ClassId} {A : Nat → Prop} {b L : Nat} {xs : Nat → Int32} {oa k : Nat} (hE : gE p l s m args meth c code 8 RL D tc A) (hX : va_X b L xs s s.heap) (hbl : b < s.heap.size) (hbA : ¬ A b) (hL : L ≤ 3072) (hk : 6 * k + 6 ≤ L) (ih : gLoop p l e s m args below meth c Q D tc A b oa (k + 1)) (ca ad : Nat → Nat) (d : gDt) (tk : Int64) (st of : Nat → Int64) (w : gW) (H : Heap) (locs : List Loc) (ls : Array Slot) (hC : cW tc w ca d tk st) (hM : mW tc w ad d tk st) (hI : iOk d (100 * k)) (h7 : w 7 = some (oa, .inl (tc 1, 1, .inr (.inl of)))) (hG : gS D A s.heap w H locs) (hl : lv_has ls 8 [(4, .int (nI (6 * k))), (0, .ref b), (1, .ref (ca 0)), (2, .ref (ad 0)), (3, .ref oa)]) : W p l e room_1 s m args below meth c H locs (100 + 40 * k) (5000 + 400 * k) Q (F0 m 156 ls []) := by
  have hx := hE.1
  have hb := hE.2.1
  obtain ⟨hOk, hF, hT, hpO, hrO, hj⟩ := id hI
  have z0 := hC.1.1
  have zm := hM.1
  obtain ⟨y1, ey1⟩ : ∃ y, y = xs (nI (6 * k + 1)).toNatClampNeg := ⟨_, rfl⟩
  obtain ⟨y2, ey2⟩ : ∃ y, y = xs (nI (6 * k + 2)).toNatClampNeg := ⟨_, rfl⟩
  obtain ⟨y3, ey3⟩ : ∃ y, y = xs (nI (6 * k + 3)).toNatClampNeg := ⟨_, rfl⟩
  obtain ⟨y4, ey4⟩ : ∃ y, y = xs (nI (6 * k + 4)).toNatClampNeg := ⟨_, rfl⟩
  obtain ⟨y5, ey5⟩ : ∃ y, y = xs (nI (6 * k + 5)).toNatClampNeg := ⟨_, rfl⟩
  refine lv_aload_n hx hb dL_law_156 rfl (lv_at hl 2 rfl) ?_
  refine lv_aload_n hx hb dL_law_157 rfl (lv_at hl 1 rfl) ?_
  refine lv_iload hx hb dL_law_158 (lv_at hl 0 rfl) ?_
  refine lv_iconst (v := 1) hx hb dL_law_160 (by decide) ?_
  refine lv_iadd hx hb dL_law_161 ?_
  rw [show nI (6 * k) + 1 = nI (6 * k + 1) from nI_add _ _]
  refine va_sld (xs := xs) hx hb hX hbl hbA hG.2.2 (vp_in_nI (by omega) (by omega)) dL_law_162 ?_
  rw [← ey1]
  refine lv_aload_n hx hb dL_law_163 rfl (lv_at hl 4 rfl) ?_
  refine g_callSH (rest := []) (As := [.ref (ca 0), .int y1, .ref oa]) hE hG hl.1 (c_L_form l hfl D tc A w ca d tk st y1 oa of (100 * k) hC hI (by omega) h7) mw1_131 mw1_132 mw1_0 mw1_133 nm_L_form ⟨⟨Nat.le_of_ble_eq_true rfl, Nat.le_of_ble_eq_true rfl⟩, (by show 100 + 40 * k + 40 ≤ 601024; omega), (by show 5000 + 400 * k + 400 ≤ 7293034; omega)⟩ rfl rfl (Nat.le_of_ble_eq_true rfl) dL_law_164 (g_no) ?_
  intro v9 w9 H locs h9 hG
  obtain ⟨hgl, of9, h79, hd⟩ := h9
  have hM9 := mW_cg hM hgl
  rcases hd with ⟨hgo, e9, hC9⟩ | ⟨hgo, e9, hof, ca9, hca9, hC9⟩
  · skip
    rw [e9]; clear e9
    have z1000 := hM9.1
    show W p l e _ s m args below meth c H locs _ _ _ (F0 m 167 ls [.int (m_la (ga_form d y1) (gb_form d y1) (gc_form d y1))])
    have hI9 : iOk (sL d (m_la (ga_form d y1) (gb_form d y1) (gc_form d y1))) (100 * (k + 1)) := by rw [show 100 * (k + 1) = 100 * k + 100 by omega]; exact iOk_l hI _
    refine lv_istore (lv' := [(5, .int (m_la (ga_form d y1) (gb_form d y1) (gc_form d y1))), (4, .int (nI (6 * k))), (0, .ref b), (1, .ref (ca 0)), (2, .ref (ad 0)), (3, .ref oa)]) hx hb dL_law_167 hl (by decide) rfl (fun ls hl => ?_)
    refine lv_aload_n hx hb dL_law_169 rfl (lv_at hl 4 rfl) ?_
    refine lv_aload_n hx hb dL_law_170 rfl (lv_at hl 2 rfl) ?_
    refine lv_iload hx hb dL_law_171 (lv_at hl 1 rfl) ?_
    refine lv_iconst (v := 1) hx hb dL_law_173 (by decide) ?_
    refine lv_iadd hx hb dL_law_174 ?_
    rw [show nI (6 * k) + 1 = nI (6 * k + 1) from nI_add _ _]
    refine va_sld (xs := xs) hx hb hX hbl hbA hG.2.2 (vp_in_nI (by omega) (by omega)) dL_law_175 ?_
    rw [← ey1]
    refine g_callV (rest := []) (As := [.int y1]) hE hG hl.1 (c_X6_form l hfl D tc A w9 ad d tk st y1 hM9 hOk) z1000 rfl mw4_31 mw4_32 mw4_33 mw1_4 mw4_34 rfl nm_X6_form ⟨⟨Nat.le_of_ble_eq_true rfl, Nat.le_of_ble_eq_true rfl⟩, (by show 100 + 40 * k + 40 + 0 ≤ 601024; omega), (by show 5000 + 400 * k + 400 + 0 ≤ 7293034; omega)⟩ rfl rfl (Nat.le_of_ble_eq_true rfl) dL_law_176 (g_no) ?_
    intro v8 w8 H locs h8 hG
    rcases h8 with ⟨-, ⟨r8, e8⟩, hM8, hF8⟩ | ⟨hg8, -⟩
    rotate_left
    · exact absurd hgo hg8
    rw [e8]; clear e8
    have hC8 : cW tc w8 ca (sL d (m_la (ga_form d y1) (gb_form d y1) (gc_form d y1))) tk st := cW_cg (cW_l hC9 _) hI9.1 (fun q h1 _ => hF8 q h1)
    have h78 := (hF8 7 (by omega)).trans h79
    have z8 := hM8.1
    show W p l e _ s m args below meth c H locs _ _ _ (F0 m 179 ls [.int r8])
    refine lv_istore (lv' := [(6, .int r8), (5, .int (m_la (ga_form d y1) (gb_form d y1) (gc_form d y1))), (4, .int (nI (6 * k))), (0, .ref b), (1, .ref (ca 0)), (2, .ref (ad 0)), (3, .ref oa)]) hx hb dL_law_179 hl (by decide) rfl (fun ls hl => ?_)
    refine lv_aload_n hx hb dL_law_181 rfl (lv_at hl 5 rfl) ?_
    refine g_callV (rest := []) (As := []) hE hG hl.1 (c_X6_thrown l hfl D tc A w8 ad (sL d (m_la (ga_form d y1) (gb_form d y1) (gc_form d y1))) tk st hM8) z8 rfl mw4_27 mw4_28 mw4_29 mw1_4 mw4_30 rfl nm_X6_thrown ⟨⟨Nat.le_of_ble_eq_true rfl, Nat.le_of_ble_eq_true rfl⟩, (by show 100 + 40 * k + 40 + 0 + 0 ≤ 601024; omega), (by show 5000 + 400 * k + 400 + 0 + 0 ≤ 7293034; omega)⟩ rfl rfl (Nat.le_of_ble_eq_true rfl) dL_law_182 (g_no) ?_
    intro v6 w6 H locs h6 hG
    obtain ⟨e6, f6⟩ := h6
    rw [f6] at hG; rw [e6, show (sL d (m_la (ga_form d y1) (gb_form d y1) (gc_form d y1))) 9 14 = (m_la (ga_form d y1) (gb_form d y1) (gc_form d y1)) from rfl]; clear e6 f6
    show W p l e _ s m args below meth c H locs _ _ _ (F0 m 185 ls [.int (m_la (ga_form d y1) (gb_form d y1) (gc_form d y1))])
    refine lv_iload hx hb dL_law_185 (lv_at hl 1 rfl) ?_
    refine lv_icmp_eq (tgt := 192) hx hb dL_law_187 (by decide) (fun c9 => ?_) (fun c9 => (c9 rfl).elim)
    refine lv_iload hx hb dL_law_192 (lv_at hl 1 rfl) ?_
    refine lv_if_ne (tgt := 209) hx hb dL_law_194 (by decide) (fun c9 => ?_) (fun c9 => absurd c9 (la_ne hgo))
    refine lv_goto (tgt := 1825) hx hb dL_law_209 (by decide) ?_
    refine lv_iinc (v := (nI (6 * (k + 1)))) (lv' := [(4, .int (nI (6 * (k + 1)))), (6, .int r8), (5, .int (m_la (ga_form d y1) (gb_form d y1) (gc_form d y1))), (0, .ref b), (1, .ref (ca 0)), (2, .ref (ad 0)), (3, .ref oa)]) hx hb dL_law_1825 hl (k := 2) rfl (by rw [show 6 * (k + 1) = 6 * k + 6 by omega]; exact nI_add (6 * k) 6) (by decide) rfl (fun ls hl => ?_)
    refine lv_goto (tgt := 23) hx hb dL_law_1828 (by decide) ?_
    refine W.widen (k := 100 + 40 * (k + 1)) (n := 5000 + 400 * (k + 1)) (by show 100 + 40 * k + 40 + 0 + 0 ≤ _; omega) (by show 5000 + 400 * k + 400 + 0 + 0 ≤ _; omega) ?_
    exact ih ca ad (sL d (m_la (ga_form d y1) (gb_form d y1) (gc_form d y1))) tk st of9 w8 _ _ _ hC8 hM8 hI9 h78 hG (lv_sub hl [0, 3, 4, 5, 6] rfl)
  · skip
    rw [e9]; clear e9
    have z1000 := hM9.1
    show W p l e _ s m args below meth c H locs _ _ _ (F0 m 167 ls [.int 0])
    have hI9 : iOk (sL (gD (gD d 0 (upd (d 0) (d 9 0).toNatClampNeg y1)) 9 (upd (d 9) 0 (d 9 0 + 1))) 0) (100 * (k + 1)) := by rw [show 100 * (k + 1) = 100 * k + 100 by omega]; exact I_form hI hgo
    refine lv_istore (lv' := [(5, .int 0), (4, .int (nI (6 * k))), (0, .ref b), (1, .ref (ca 0)), (2, .ref (ad 0)), (3, .ref oa)]) hx hb dL_law_167 hl (by decide) rfl (fun ls hl => ?_)
    refine lv_aload_n hx hb dL_law_169 rfl (lv_at hl 4 rfl) ?_
    refine lv_aload_n hx hb dL_law_170 rfl (lv_at hl 2 rfl) ?_
    refine lv_iload hx hb dL_law_171 (lv_at hl 1 rfl) ?_
    refine lv_iconst (v := 1) hx hb dL_law_173 (by decide) ?_
    refine lv_iadd hx hb dL_law_174 ?_
    rw [show nI (6 * k) + 1 = nI (6 * k + 1) from nI_add _ _]
    refine va_sld (xs := xs) hx hb hX hbl hbA hG.2.2 (vp_in_nI (by omega) (by omega)) dL_law_175 ?_
    rw [← ey1]
    refine g_callV (rest := []) (As := [.int y1]) hE hG hl.1 (c_X6_form l hfl D tc A w9 ad d tk st y1 hM9 hOk) z1000 rfl mw4_31 mw4_32 mw4_33 mw1_4 mw4_34 rfl nm_X6_form ⟨⟨Nat.le_of_ble_eq_true rfl, Nat.le_of_ble_eq_true rfl⟩, (by show 100 + 40 * k + 40 + 0 ≤ 601024; omega), (by show 5000 + 400 * k + 400 + 0 ≤ 7293034; omega)⟩ rfl rfl (Nat.le_of_ble_eq_true rfl) dL_law_176 (g_no) ?_
    intro v8 w8 H locs h8 hG
    rcases h8 with ⟨hg8, -⟩ | ⟨-, e8, hM8, hF8⟩
    · exact absurd hg8 hgo
    rw [e8]; clear e8
    have hC8 : cW tc w8 ca9 (sL (gD (gD d 0 (upd (d 0) (d 9 0).toNatClampNeg y1)) 9 (upd (d 9) 0 (d 9 0 + 1))) 0) tk st := cW_cg (hC9) hI9.1 (fun q h1 _ => hF8 q h1)
    have h78 := (hF8 7 (by omega)).trans h79
    have z8 := hM8.1
    show W p l e _ s m args below meth c H locs _ _ _ (F0 m 179 ls [.int (d 9 0 + 1 - 1)])
    refine lv_istore (lv' := [(6, .int (d 9 0 + 1 - 1)), (5, .int 0), (4, .int (nI (6 * k))), (0, .ref b), (1, .ref (ca 0)), (2, .ref (ad 0)), (3, .ref oa)]) hx hb dL_law_179 hl (by decide) rfl (fun ls hl => ?_)
    refine lv_aload_n hx hb dL_law_181 rfl (lv_at hl 5 rfl) ?_
    refine g_callV (rest := []) (As := []) hE hG hl.1 (c_X6_thrown l hfl D tc A w8 ad (sL (gD (gD d 0 (upd (d 0) (d 9 0).toNatClampNeg y1)) 9 (upd (d 9) 0 (d 9 0 + 1))) 0) tk st hM8) z8 rfl mw4_27 mw4_28 mw4_29 mw1_4 mw4_30 rfl nm_X6_thrown ⟨⟨Nat.le_of_ble_eq_true rfl, Nat.le_of_ble_eq_true rfl⟩, (by show 100 + 40 * k + 40 + 0 + 0 ≤ 601024; omega), (by show 5000 + 400 * k + 400 + 0 + 0 ≤ 7293034; omega)⟩ rfl rfl (Nat.le_of_ble_eq_true rfl) dL_law_182 (g_no) ?_
    intro v6 w6 H locs h6 hG
    obtain ⟨e6, f6⟩ := h6
    rw [f6] at hG; rw [e6, show (sL (gD (gD d 0 (upd (d 0) (d 9 0).toNatClampNeg y1)) 9 (upd (d 9) 0 (d 9 0 + 1))) 0) 9 14 = 0 from rfl]; clear e6 f6
    show W p l e _ s m args below meth c H locs _ _ _ (F0 m 185 ls [.int 0])
    refine lv_iload hx hb dL_law_185 (lv_at hl 1 rfl) ?_
    refine lv_icmp_eq (tgt := 192) hx hb dL_law_187 (by decide) (fun _ => ?_) (fun c9 => (c9 (by decide)).elim)
    refine lv_iload hx hb dL_law_192 (lv_at hl 1 rfl) ?_
    refine lv_if_ne (tgt := 209) hx hb dL_law_194 (by decide) (fun c9 => (c9 (by decide)).elim) (fun _ => ?_)
    refine lv_aload_n hx hb dL_law_197 rfl (lv_at hl 6 rfl) ?_
    refine lv_iconst (v := 0) hx hb dL_law_198 (by decide) ?_
    refine g_lald hE hG h78 (vp_in_nI (n := 0) (N := 1) (by decide) (by decide)) dL_law_199 ?_
    rw [show of9 (0 : Int32).toNatClampNeg = (d 9 0 + 1 - 1).toInt64 from hof]
    refine lv_iload hx hb dL_law_200 (lv_at hl 0 rfl) ?_
    refine lv_i2l (v := (d 9 0 + 1 - 1).toInt64) hx hb dL_law_202 rfl ?_
    refine W.lcmp hx hb dL_law_203 ?_
    refine lv_if_eq (tgt := 209) hx hb dL_law_204 (by decide) (fun c9 => ?_) (fun c9 => (c9 (lg_self _)).elim)
    refine lv_goto (tgt := 1825) hx hb dL_law_209 (by decide) ?_
    refine lv_iinc (v := (nI (6 * (k + 1)))) (lv' := [(4, .int (nI (6 * (k + 1)))), (6, .int (d 9 0 + 1 - 1)), (5, .int 0), (0, .ref b), (1, .ref (ca 0)), (2, .ref (ad 0)), (3, .ref oa)]) hx hb dL_law_1825 hl (k := 2) rfl (by rw [show 6 * (k + 1) = 6 * k + 6 by omega]; exact nI_add (6 * k) 6) (by decide) rfl (fun ls hl => ?_)
    refine lv_goto (tgt := 23) hx hb dL_law_1828 (by decide) ?_
    refine W.widen (k := 100 + 40 * (k + 1)) (n := 5000 + 400 * (k + 1)) (by show 100 + 40 * k + 40 + 0 + 0 ≤ _; omega) (by show 5000 + 400 * k + 400 + 0 + 0 ≤ _; omega) ?_
    exact ih ca9 ad (sL (gD (gD d 0 (upd (d 0) (d 9 0).toNatClampNeg y1)) 9 (upd (d 9) 0 (d 9 0 + 1))) 0) tk st of9 w8 _ _ _ hC8 hM8 hI9 h78 hG (by rw [hca9]; exact lv_sub hl [0, 3, 4, 5, 6] rfl)
set_option maxHeartbeats 4000000 in
set_option maxRecDepth 100000 in
theorem lc_ticks {p : Program} {l : Launch} {e : Env} {s : State} {m : MethodId} {args : Array Value} {below : List Frame} {meth : Method} {c : Code} {Q : State → Prop} (hfl : l.stackTraces = false) {D : va_G} {tc : Nat → ClassId} {A : Nat → Prop} {b L : Nat} {xs : Nat → Int32} {oa k : Nat} (hE : gE p l s m args meth c code 8 RL D tc A) (hX : va_X b L xs s s.heap) (hbl : b < s.heap.size) (hbA : ¬ A b) (hL : L ≤ 3072) (hk : 6 * k + 6 ≤ L) (ih : gLoop p l e s m args below meth c Q D tc A b oa (k + 1)) (ca ad : Nat → Nat) (d : gDt) (tk : Int64) (st of : Nat → Int64) (w : gW) (H : Heap) (locs : List Loc) (ls : Array Slot) (hC : cW tc w ca d tk st) (hM : mW tc w ad d tk st) (hI : iOk d (100 * k)) (h7 : w 7 = some (oa, .inl (tc 1, 1, .inr (.inl of)))) (hG : gS D A s.heap w H locs) (hl : lv_has ls 8 [(4, .int (nI (6 * k))), (0, .ref b), (1, .ref (ca 0)), (2, .ref (ad 0)), (3, .ref oa)]) : W p l e room_1 s m args below meth c H locs (100 + 40 * k) (5000 + 400 * k) Q (F0 m 984 ls []) := by
  have hx := hE.1
  have hb := hE.2.1
  obtain ⟨hOk, hF, hT, hpO, hrO, hj⟩ := id hI
  have z0 := hC.1.1
  have zm := hM.1
  obtain ⟨y1, ey1⟩ : ∃ y, y = xs (nI (6 * k + 1)).toNatClampNeg := ⟨_, rfl⟩
  obtain ⟨y2, ey2⟩ : ∃ y, y = xs (nI (6 * k + 2)).toNatClampNeg := ⟨_, rfl⟩
  obtain ⟨y3, ey3⟩ : ∃ y, y = xs (nI (6 * k + 3)).toNatClampNeg := ⟨_, rfl⟩
  obtain ⟨y4, ey4⟩ : ∃ y, y = xs (nI (6 * k + 4)).toNatClampNeg := ⟨_, rfl⟩
  obtain ⟨y5, ey5⟩ : ∃ y, y = xs (nI (6 * k + 5)).toNatClampNeg := ⟨_, rfl⟩
  refine lv_aload_n hx hb dL_law_984 rfl (lv_at hl 2 rfl) ?_
  refine g_callV (rest := []) (As := []) hE hG hl.1 (c_X5_ticks l hfl D tc A w ca d tk st hC hOk) z0 rfl mw1_127 mw1_128 mw1_129 mw1_1 mw1_130 rfl nm_X5_ticks ⟨⟨Nat.le_of_ble_eq_true rfl, Nat.le_of_ble_eq_true rfl⟩, (by show 100 + 40 * k + 0 ≤ 601024; omega), (by show 5000 + 400 * k + 0 ≤ 7293034; omega)⟩ rfl rfl (Nat.le_of_ble_eq_true rfl) dL_law_985 (g_no) ?_
  intro v9 w9 H locs h9 hG
  obtain ⟨e9, f9⟩ := h9
  rw [f9] at hG; rw [e9]; clear e9 f9
  show W p l e _ s m args below meth c H locs _ _ _ (F0 m 988 ls [.long tk])
  refine lv_aload_n hx hb dL_law_988 rfl (lv_at hl 3 rfl) ?_
  refine g_callV (rest := [.long tk]) (As := []) hE hG hl.1 (c_X6_ticks l hfl D tc A w ad d tk st hM) zm rfl mw4_123 mw4_124 mw4_125 mw1_4 mw4_126 rfl nm_X6_ticks ⟨⟨Nat.le_of_ble_eq_true rfl, Nat.le_of_ble_eq_true rfl⟩, (by show 100 + 40 * k + 0 + 0 ≤ 601024; omega), (by show 5000 + 400 * k + 0 + 0 ≤ 7293034; omega)⟩ rfl rfl (Nat.le_of_ble_eq_true rfl) dL_law_989 (g_no) ?_
  intro v8 w8 H locs h8 hG
  obtain ⟨e8, hM8, hF8⟩ := h8
  rw [e8]; clear e8
  have hC8 : cW tc w8 ca (sL d 0) tk st := cW_cg (cW_l hC 0) hOk (fun q h1 _ => hF8 q h1)
  have h78 := (hF8 7 (by omega)).trans h7
  have hI9 : iOk (sL d 0) (100 * (k + 1)) := by rw [show 100 * (k + 1) = 100 * k + 100 by omega]; exact iOk_l hI 0
  show W p l e _ s m args below meth c H locs _ _ _ (F0 m 992 ls [.long tk, .long tk])
  refine W.lcmp hx hb dL_law_992 ?_
  refine lv_if_eq (tgt := 1825) hx hb dL_law_993 (by decide) (fun c9 => ?_) (fun c9 => (c9 (lg_self _)).elim)
  refine lv_iinc (v := (nI (6 * (k + 1)))) (lv' := [(4, .int (nI (6 * (k + 1)))), (0, .ref b), (1, .ref (ca 0)), (2, .ref (ad 0)), (3, .ref oa)]) hx hb dL_law_1825 hl (k := 0) rfl (by rw [show 6 * (k + 1) = 6 * k + 6 by omega]; exact nI_add (6 * k) 6) (by decide) rfl (fun ls hl => ?_)
  refine lv_goto (tgt := 23) hx hb dL_law_1828 (by decide) ?_
  refine W.widen (k := 100 + 40 * (k + 1)) (n := 5000 + 400 * (k + 1)) (by show 100 + 40 * k + 0 + 0 ≤ _; omega) (by show 5000 + 400 * k + 0 + 0 ≤ _; omega) ?_
  exact ih ca ad (sL d 0) tk st of w8 _ _ _ hC8 hM8 hI9 h78 hG (lv_sub hl [0, 1, 2, 3, 4] rfl)
set_option maxHeartbeats 4000000 in
set_option maxRecDepth 100000 in
theorem lc_strokes {p : Program} {l : Launch} {e : Env} {s : State} {m : MethodId} {args : Array Value} {below : List Frame} {meth : Method} {c : Code} {Q : State → Prop} (hfl : l.stackTraces = false) {D : va_G} {tc : Nat → ClassId} {A : Nat → Prop} {b L : Nat} {xs : Nat → Int32} {oa k : Nat} (hE : gE p l s m args meth c code 8 RL D tc A) (hX : va_X b L xs s s.heap) (hbl : b < s.heap.size) (hbA : ¬ A b) (hL : L ≤ 3072) (hk : 6 * k + 6 ≤ L) (ih : gLoop p l e s m args below meth c Q D tc A b oa (k + 1)) (ca ad : Nat → Nat) (d : gDt) (tk : Int64) (st of : Nat → Int64) (w : gW) (H : Heap) (locs : List Loc) (ls : Array Slot) (hC : cW tc w ca d tk st) (hM : mW tc w ad d tk st) (hI : iOk d (100 * k)) (h7 : w 7 = some (oa, .inl (tc 1, 1, .inr (.inl of)))) (hG : gS D A s.heap w H locs) (hl : lv_has ls 8 [(4, .int (nI (6 * k))), (0, .ref b), (1, .ref (ca 0)), (2, .ref (ad 0)), (3, .ref oa)]) : W p l e room_1 s m args below meth c H locs (100 + 40 * k) (5000 + 400 * k) Q (F0 m 998 ls []) := by
  have hx := hE.1
  have hb := hE.2.1
  obtain ⟨hOk, hF, hT, hpO, hrO, hj⟩ := id hI
  have z0 := hC.1.1
  have zm := hM.1
  obtain ⟨y1, ey1⟩ : ∃ y, y = xs (nI (6 * k + 1)).toNatClampNeg := ⟨_, rfl⟩
  obtain ⟨y2, ey2⟩ : ∃ y, y = xs (nI (6 * k + 2)).toNatClampNeg := ⟨_, rfl⟩
  obtain ⟨y3, ey3⟩ : ∃ y, y = xs (nI (6 * k + 3)).toNatClampNeg := ⟨_, rfl⟩
  obtain ⟨y4, ey4⟩ : ∃ y, y = xs (nI (6 * k + 4)).toNatClampNeg := ⟨_, rfl⟩
  obtain ⟨y5, ey5⟩ : ∃ y, y = xs (nI (6 * k + 5)).toNatClampNeg := ⟨_, rfl⟩
  refine lv_aload_n hx hb dL_law_998 rfl (lv_at hl 2 rfl) ?_
  refine lv_aload_n hx hb dL_law_999 rfl (lv_at hl 1 rfl) ?_
  refine lv_iload hx hb dL_law_1000 (lv_at hl 0 rfl) ?_
  refine lv_iconst (v := 1) hx hb dL_law_1002 (by decide) ?_
  refine lv_iadd hx hb dL_law_1003 ?_
  rw [show nI (6 * k) + 1 = nI (6 * k + 1) from nI_add _ _]
  refine va_sld (xs := xs) hx hb hX hbl hbA hG.2.2 (vp_in_nI (by omega) (by omega)) dL_law_1004 ?_
  rw [← ey1]
  refine lv_aload_n hx hb dL_law_1005 rfl (lv_at hl 4 rfl) ?_
  refine g_callSH (rest := []) (As := [.ref (ca 0), .int y1, .ref oa]) hE hG hl.1 (c_L_strokes l hfl D tc A w ca d tk st y1 oa of (100 * k) hC hI (by omega) h7) mw2_224 mw2_225 mw1_0 mw2_226 nm_L_strokes ⟨⟨Nat.le_of_ble_eq_true rfl, Nat.le_of_ble_eq_true rfl⟩, (by show 100 + 40 * k + 40 ≤ 601024; omega), (by show 5000 + 400 * k + 400 ≤ 7293034; omega)⟩ rfl rfl (Nat.le_of_ble_eq_true rfl) dL_law_1006 (g_no) ?_
  intro v9 w9 H locs h9 hG
  obtain ⟨hgl, of9, h79, hd⟩ := h9
  have hM9 := mW_cg hM hgl
  rcases hd with ⟨hgo, e9, hC9⟩ | ⟨hgo, e9, hof, ca9, hca9, hC9⟩
  · skip
    rw [e9]; clear e9
    have z1000 := hM9.1
    show W p l e _ s m args below meth c H locs _ _ _ (F0 m 1009 ls [.int (m_la (ga_strokes d y1) (gb_strokes d y1) (gc_strokes d y1))])
    have hI9 : iOk (sL d (m_la (ga_strokes d y1) (gb_strokes d y1) (gc_strokes d y1))) (100 * (k + 1)) := by rw [show 100 * (k + 1) = 100 * k + 100 by omega]; exact iOk_l hI _
    refine lv_istore (lv' := [(5, .int (m_la (ga_strokes d y1) (gb_strokes d y1) (gc_strokes d y1))), (4, .int (nI (6 * k))), (0, .ref b), (1, .ref (ca 0)), (2, .ref (ad 0)), (3, .ref oa)]) hx hb dL_law_1009 hl (by decide) rfl (fun ls hl => ?_)
    refine lv_aload_n hx hb dL_law_1011 rfl (lv_at hl 4 rfl) ?_
    refine lv_aload_n hx hb dL_law_1012 rfl (lv_at hl 2 rfl) ?_
    refine lv_iload hx hb dL_law_1013 (lv_at hl 1 rfl) ?_
    refine lv_iconst (v := 1) hx hb dL_law_1015 (by decide) ?_
    refine lv_iadd hx hb dL_law_1016 ?_
    rw [show nI (6 * k) + 1 = nI (6 * k + 1) from nI_add _ _]
    refine va_sld (xs := xs) hx hb hX hbl hbA hG.2.2 (vp_in_nI (by omega) (by omega)) dL_law_1017 ?_
    rw [← ey1]
    refine g_callV (rest := []) (As := [.int y1]) hE hG hl.1 (c_X6_strokes l hfl D tc A w9 ad d tk st y1 hM9 hOk) z1000 rfl mw4_127 mw4_128 mw4_129 mw1_4 mw4_130 rfl nm_X6_strokes ⟨⟨Nat.le_of_ble_eq_true rfl, Nat.le_of_ble_eq_true rfl⟩, (by show 100 + 40 * k + 40 + 0 ≤ 601024; omega), (by show 5000 + 400 * k + 400 + 0 ≤ 7293034; omega)⟩ rfl rfl (Nat.le_of_ble_eq_true rfl) dL_law_1018 (g_no) ?_
    intro v8 w8 H locs h8 hG
    rcases h8 with ⟨-, ⟨r8, e8⟩, hM8, hF8⟩ | ⟨hg8, -⟩
    rotate_left
    · exact absurd hgo hg8
    rw [e8]; clear e8
    have hC8 : cW tc w8 ca (sL d (m_la (ga_strokes d y1) (gb_strokes d y1) (gc_strokes d y1))) tk st := cW_cg (cW_l hC9 _) hI9.1 (fun q h1 _ => hF8 q h1)
    have h78 := (hF8 7 (by omega)).trans h79
    have z8 := hM8.1
    show W p l e _ s m args below meth c H locs _ _ _ (F0 m 1021 ls [.long r8])
    refine lv_lstore (lv' := [(6, .long r8), (5, .int (m_la (ga_strokes d y1) (gb_strokes d y1) (gc_strokes d y1))), (4, .int (nI (6 * k))), (0, .ref b), (1, .ref (ca 0)), (2, .ref (ad 0)), (3, .ref oa)]) hx hb dL_law_1021 hl (by decide) rfl (fun ls hl => ?_)
    refine lv_aload_n hx hb dL_law_1023 rfl (lv_at hl 5 rfl) ?_
    refine g_callV (rest := []) (As := []) hE hG hl.1 (c_X6_thrown l hfl D tc A w8 ad (sL d (m_la (ga_strokes d y1) (gb_strokes d y1) (gc_strokes d y1))) tk st hM8) z8 rfl mw4_27 mw4_28 mw4_29 mw1_4 mw4_30 rfl nm_X6_thrown ⟨⟨Nat.le_of_ble_eq_true rfl, Nat.le_of_ble_eq_true rfl⟩, (by show 100 + 40 * k + 40 + 0 + 0 ≤ 601024; omega), (by show 5000 + 400 * k + 400 + 0 + 0 ≤ 7293034; omega)⟩ rfl rfl (Nat.le_of_ble_eq_true rfl) dL_law_1024 (g_no) ?_
    intro v6 w6 H locs h6 hG
    obtain ⟨e6, f6⟩ := h6
    rw [f6] at hG; rw [e6, show (sL d (m_la (ga_strokes d y1) (gb_strokes d y1) (gc_strokes d y1))) 9 14 = (m_la (ga_strokes d y1) (gb_strokes d y1) (gc_strokes d y1)) from rfl]; clear e6 f6
    show W p l e _ s m args below meth c H locs _ _ _ (F0 m 1027 ls [.int (m_la (ga_strokes d y1) (gb_strokes d y1) (gc_strokes d y1))])
    refine lv_iload hx hb dL_law_1027 (lv_at hl 1 rfl) ?_
    refine lv_icmp_eq (tgt := 1034) hx hb dL_law_1029 (by decide) (fun c9 => ?_) (fun c9 => (c9 rfl).elim)
    refine lv_iload hx hb dL_law_1034 (lv_at hl 1 rfl) ?_
    refine lv_if_ne (tgt := 1050) hx hb dL_law_1036 (by decide) (fun c9 => ?_) (fun c9 => absurd c9 (la_ne hgo))
    refine lv_goto (tgt := 1825) hx hb dL_law_1050 (by decide) ?_
    refine lv_iinc (v := (nI (6 * (k + 1)))) (lv' := [(4, .int (nI (6 * (k + 1)))), (6, .long r8), (5, .int (m_la (ga_strokes d y1) (gb_strokes d y1) (gc_strokes d y1))), (0, .ref b), (1, .ref (ca 0)), (2, .ref (ad 0)), (3, .ref oa)]) hx hb dL_law_1825 hl (k := 2) rfl (by rw [show 6 * (k + 1) = 6 * k + 6 by omega]; exact nI_add (6 * k) 6) (by decide) rfl (fun ls hl => ?_)
    refine lv_goto (tgt := 23) hx hb dL_law_1828 (by decide) ?_
    refine W.widen (k := 100 + 40 * (k + 1)) (n := 5000 + 400 * (k + 1)) (by show 100 + 40 * k + 40 + 0 + 0 ≤ _; omega) (by show 5000 + 400 * k + 400 + 0 + 0 ≤ _; omega) ?_
    exact ih ca ad (sL d (m_la (ga_strokes d y1) (gb_strokes d y1) (gc_strokes d y1))) tk st of9 w8 _ _ _ hC8 hM8 hI9 h78 hG (lv_sub hl [0, 3, 4, 5, 6] rfl)
  · skip
    rw [e9]; clear e9
    have z1000 := hM9.1
    show W p l e _ s m args below meth c H locs _ _ _ (F0 m 1009 ls [.int 0])
    have hI9 : iOk (sL d 0) (100 * (k + 1)) := by rw [show 100 * (k + 1) = 100 * k + 100 by omega]; exact iOk_l hI 0
    refine lv_istore (lv' := [(5, .int 0), (4, .int (nI (6 * k))), (0, .ref b), (1, .ref (ca 0)), (2, .ref (ad 0)), (3, .ref oa)]) hx hb dL_law_1009 hl (by decide) rfl (fun ls hl => ?_)
    refine lv_aload_n hx hb dL_law_1011 rfl (lv_at hl 4 rfl) ?_
    refine lv_aload_n hx hb dL_law_1012 rfl (lv_at hl 2 rfl) ?_
    refine lv_iload hx hb dL_law_1013 (lv_at hl 1 rfl) ?_
    refine lv_iconst (v := 1) hx hb dL_law_1015 (by decide) ?_
    refine lv_iadd hx hb dL_law_1016 ?_
    rw [show nI (6 * k) + 1 = nI (6 * k + 1) from nI_add _ _]
    refine va_sld (xs := xs) hx hb hX hbl hbA hG.2.2 (vp_in_nI (by omega) (by omega)) dL_law_1017 ?_
    rw [← ey1]
    refine g_callV (rest := []) (As := [.int y1]) hE hG hl.1 (c_X6_strokes l hfl D tc A w9 ad d tk st y1 hM9 hOk) z1000 rfl mw4_127 mw4_128 mw4_129 mw1_4 mw4_130 rfl nm_X6_strokes ⟨⟨Nat.le_of_ble_eq_true rfl, Nat.le_of_ble_eq_true rfl⟩, (by show 100 + 40 * k + 40 + 0 ≤ 601024; omega), (by show 5000 + 400 * k + 400 + 0 ≤ 7293034; omega)⟩ rfl rfl (Nat.le_of_ble_eq_true rfl) dL_law_1018 (g_no) ?_
    intro v8 w8 H locs h8 hG
    rcases h8 with ⟨hg8, -⟩ | ⟨-, e8, hM8, hF8⟩
    · exact absurd hg8 hgo
    rw [e8]; clear e8
    have hC8 : cW tc w8 ca9 (sL d 0) tk st := cW_cg (hC9) hI9.1 (fun q h1 _ => hF8 q h1)
    have h78 := (hF8 7 (by omega)).trans h79
    have z8 := hM8.1
    show W p l e _ s m args below meth c H locs _ _ _ (F0 m 1021 ls [.long (st y1.toNatClampNeg)])
    refine lv_lstore (lv' := [(6, .long (st y1.toNatClampNeg)), (5, .int 0), (4, .int (nI (6 * k))), (0, .ref b), (1, .ref (ca 0)), (2, .ref (ad 0)), (3, .ref oa)]) hx hb dL_law_1021 hl (by decide) rfl (fun ls hl => ?_)
    refine lv_aload_n hx hb dL_law_1023 rfl (lv_at hl 5 rfl) ?_
    refine g_callV (rest := []) (As := []) hE hG hl.1 (c_X6_thrown l hfl D tc A w8 ad (sL d 0) tk st hM8) z8 rfl mw4_27 mw4_28 mw4_29 mw1_4 mw4_30 rfl nm_X6_thrown ⟨⟨Nat.le_of_ble_eq_true rfl, Nat.le_of_ble_eq_true rfl⟩, (by show 100 + 40 * k + 40 + 0 + 0 ≤ 601024; omega), (by show 5000 + 400 * k + 400 + 0 + 0 ≤ 7293034; omega)⟩ rfl rfl (Nat.le_of_ble_eq_true rfl) dL_law_1024 (g_no) ?_
    intro v6 w6 H locs h6 hG
    obtain ⟨e6, f6⟩ := h6
    rw [f6] at hG; rw [e6, show (sL d 0) 9 14 = 0 from rfl]; clear e6 f6
    show W p l e _ s m args below meth c H locs _ _ _ (F0 m 1027 ls [.int 0])
    refine lv_iload hx hb dL_law_1027 (lv_at hl 1 rfl) ?_
    refine lv_icmp_eq (tgt := 1034) hx hb dL_law_1029 (by decide) (fun _ => ?_) (fun c9 => (c9 (by decide)).elim)
    refine lv_iload hx hb dL_law_1034 (lv_at hl 1 rfl) ?_
    refine lv_if_ne (tgt := 1050) hx hb dL_law_1036 (by decide) (fun c9 => (c9 (by decide)).elim) (fun _ => ?_)
    refine lv_aload_n hx hb dL_law_1039 rfl (lv_at hl 6 rfl) ?_
    refine lv_iconst (v := 0) hx hb dL_law_1040 (by decide) ?_
    refine g_lald hE hG h78 (vp_in_nI (n := 0) (N := 1) (by decide) (by decide)) dL_law_1041 ?_
    rw [show of9 (0 : Int32).toNatClampNeg = (st y1.toNatClampNeg) from hof]
    refine lv_lload hx hb dL_law_1042 (lv_at hl 0 rfl) ?_
    refine W.lcmp hx hb dL_law_1044 ?_
    refine lv_if_eq (tgt := 1050) hx hb dL_law_1045 (by decide) (fun c9 => ?_) (fun c9 => (c9 (lg_self _)).elim)
    refine lv_goto (tgt := 1825) hx hb dL_law_1050 (by decide) ?_
    refine lv_iinc (v := (nI (6 * (k + 1)))) (lv' := [(4, .int (nI (6 * (k + 1)))), (6, .long (st y1.toNatClampNeg)), (5, .int 0), (0, .ref b), (1, .ref (ca 0)), (2, .ref (ad 0)), (3, .ref oa)]) hx hb dL_law_1825 hl (k := 2) rfl (by rw [show 6 * (k + 1) = 6 * k + 6 by omega]; exact nI_add (6 * k) 6) (by decide) rfl (fun ls hl => ?_)
    refine lv_goto (tgt := 23) hx hb dL_law_1828 (by decide) ?_
    refine W.widen (k := 100 + 40 * (k + 1)) (n := 5000 + 400 * (k + 1)) (by show 100 + 40 * k + 40 + 0 + 0 ≤ _; omega) (by show 5000 + 400 * k + 400 + 0 + 0 ≤ _; omega) ?_
    exact ih ca9 ad (sL d 0) tk st of9 w8 _ _ _ hC8 hM8 hI9 h78 hG (by rw [hca9]; exact lv_sub hl [0, 3, 4, 5, 6] rfl)
set_option maxHeartbeats 4000000 in
set_option maxRecDepth 100000 in
theorem lc_beats {p : Program} {l : Launch} {e : Env} {s : State} {m : MethodId} {args : Array Value} {below : List Frame} {meth : Method} {c : Code} {Q : State → Prop} (hfl : l.stackTraces = false) {D : va_G} {tc : Nat → ClassId} {A : Nat → Prop} {b L : Nat} {xs : Nat → Int32} {oa k : Nat} (hE : gE p l s m args meth c code 8 RL D tc A) (hX : va_X b L xs s s.heap) (hbl : b < s.heap.size) (hbA : ¬ A b) (hL : L ≤ 3072) (hk : 6 * k + 6 ≤ L) (ih : gLoop p l e s m args below meth c Q D tc A b oa (k + 1)) (ca ad : Nat → Nat) (d : gDt) (tk : Int64) (st of : Nat → Int64) (w : gW) (H : Heap) (locs : List Loc) (ls : Array Slot) (hC : cW tc w ca d tk st) (hM : mW tc w ad d tk st) (hI : iOk d (100 * k)) (h7 : w 7 = some (oa, .inl (tc 1, 1, .inr (.inl of)))) (hG : gS D A s.heap w H locs) (hl : lv_has ls 8 [(4, .int (nI (6 * k))), (0, .ref b), (1, .ref (ca 0)), (2, .ref (ad 0)), (3, .ref oa)]) : W p l e room_1 s m args below meth c H locs (100 + 40 * k) (5000 + 400 * k) Q (F0 m 872 ls []) := by
  have hx := hE.1
  have hb := hE.2.1
  obtain ⟨hOk, hF, hT, hpO, hrO, hj⟩ := id hI
  have z0 := hC.1.1
  have zm := hM.1
  obtain ⟨y1, ey1⟩ : ∃ y, y = xs (nI (6 * k + 1)).toNatClampNeg := ⟨_, rfl⟩
  obtain ⟨y2, ey2⟩ : ∃ y, y = xs (nI (6 * k + 2)).toNatClampNeg := ⟨_, rfl⟩
  obtain ⟨y3, ey3⟩ : ∃ y, y = xs (nI (6 * k + 3)).toNatClampNeg := ⟨_, rfl⟩
  obtain ⟨y4, ey4⟩ : ∃ y, y = xs (nI (6 * k + 4)).toNatClampNeg := ⟨_, rfl⟩
  obtain ⟨y5, ey5⟩ : ∃ y, y = xs (nI (6 * k + 5)).toNatClampNeg := ⟨_, rfl⟩
  refine lv_aload_n hx hb dL_law_872 rfl (lv_at hl 2 rfl) ?_
  refine lv_aload_n hx hb dL_law_873 rfl (lv_at hl 1 rfl) ?_
  refine lv_iload hx hb dL_law_874 (lv_at hl 0 rfl) ?_
  refine lv_iconst (v := 1) hx hb dL_law_876 (by decide) ?_
  refine lv_iadd hx hb dL_law_877 ?_
  rw [show nI (6 * k) + 1 = nI (6 * k + 1) from nI_add _ _]
  refine va_sld (xs := xs) hx hb hX hbl hbA hG.2.2 (vp_in_nI (by omega) (by omega)) dL_law_878 ?_
  rw [← ey1]
  refine lv_aload_n hx hb dL_law_879 rfl (lv_at hl 4 rfl) ?_
  refine g_callSH (rest := []) (As := [.ref (ca 0), .int y1, .ref oa]) hE hG hl.1 (c_L_beats l hfl D tc A w ca d tk st y1 oa of (100 * k) hC hI (by omega) h7) mw2_188 mw2_189 mw1_0 mw2_190 nm_L_beats ⟨⟨Nat.le_of_ble_eq_true rfl, Nat.le_of_ble_eq_true rfl⟩, (by show 100 + 40 * k + 40 ≤ 601024; omega), (by show 5000 + 400 * k + 400 ≤ 7293034; omega)⟩ rfl rfl (Nat.le_of_ble_eq_true rfl) dL_law_880 (g_no) ?_
  intro v9 w9 H locs h9 hG
  obtain ⟨hgl, of9, h79, hd⟩ := h9
  have hM9 := mW_cg hM hgl
  rcases hd with ⟨hgo, e9, hC9⟩ | ⟨hgo, e9, hof, ca9, hca9, hC9⟩
  · skip
    rw [e9]; clear e9
    have z1000 := hM9.1
    show W p l e _ s m args below meth c H locs _ _ _ (F0 m 883 ls [.int (m_la (ga_beats d y1) (gb_beats d y1) (gc_beats d y1))])
    have hI9 : iOk (sL d (m_la (ga_beats d y1) (gb_beats d y1) (gc_beats d y1))) (100 * (k + 1)) := by rw [show 100 * (k + 1) = 100 * k + 100 by omega]; exact iOk_l hI _
    refine lv_istore (lv' := [(5, .int (m_la (ga_beats d y1) (gb_beats d y1) (gc_beats d y1))), (4, .int (nI (6 * k))), (0, .ref b), (1, .ref (ca 0)), (2, .ref (ad 0)), (3, .ref oa)]) hx hb dL_law_883 hl (by decide) rfl (fun ls hl => ?_)
    refine lv_aload_n hx hb dL_law_885 rfl (lv_at hl 4 rfl) ?_
    refine lv_aload_n hx hb dL_law_886 rfl (lv_at hl 2 rfl) ?_
    refine lv_iload hx hb dL_law_887 (lv_at hl 1 rfl) ?_
    refine lv_iconst (v := 1) hx hb dL_law_889 (by decide) ?_
    refine lv_iadd hx hb dL_law_890 ?_
    rw [show nI (6 * k) + 1 = nI (6 * k + 1) from nI_add _ _]
    refine va_sld (xs := xs) hx hb hX hbl hbA hG.2.2 (vp_in_nI (by omega) (by omega)) dL_law_891 ?_
    rw [← ey1]
    refine g_callV (rest := []) (As := [.int y1]) hE hG hl.1 (c_X6_beats l hfl D tc A w9 ad d tk st y1 hM9 hOk (hcu_of hj)) z1000 rfl mw4_111 mw4_112 mw4_113 mw1_4 mw4_114 rfl nm_X6_beats ⟨⟨Nat.le_of_ble_eq_true rfl, Nat.le_of_ble_eq_true rfl⟩, (by show 100 + 40 * k + 40 + 0 ≤ 601024; omega), (by show 5000 + 400 * k + 400 + 0 ≤ 7293034; omega)⟩ rfl rfl (Nat.le_of_ble_eq_true rfl) dL_law_892 (g_no) ?_
    intro v8 w8 H locs h8 hG
    rcases h8 with ⟨-, ⟨r8, e8⟩, hM8, hF8⟩ | ⟨hg8, -⟩
    rotate_left
    · exact absurd hgo hg8
    rw [e8]; clear e8
    have hC8 : cW tc w8 ca (sL d (m_la (ga_beats d y1) (gb_beats d y1) (gc_beats d y1))) tk st := cW_cg (cW_l hC9 _) hI9.1 (fun q h1 _ => hF8 q h1)
    have h78 := (hF8 7 (by omega)).trans h79
    have z8 := hM8.1
    show W p l e _ s m args below meth c H locs _ _ _ (F0 m 895 ls [.int r8])
    refine lv_istore (lv' := [(6, .int r8), (5, .int (m_la (ga_beats d y1) (gb_beats d y1) (gc_beats d y1))), (4, .int (nI (6 * k))), (0, .ref b), (1, .ref (ca 0)), (2, .ref (ad 0)), (3, .ref oa)]) hx hb dL_law_895 hl (by decide) rfl (fun ls hl => ?_)
    refine lv_aload_n hx hb dL_law_897 rfl (lv_at hl 5 rfl) ?_
    refine g_callV (rest := []) (As := []) hE hG hl.1 (c_X6_thrown l hfl D tc A w8 ad (sL d (m_la (ga_beats d y1) (gb_beats d y1) (gc_beats d y1))) tk st hM8) z8 rfl mw4_27 mw4_28 mw4_29 mw1_4 mw4_30 rfl nm_X6_thrown ⟨⟨Nat.le_of_ble_eq_true rfl, Nat.le_of_ble_eq_true rfl⟩, (by show 100 + 40 * k + 40 + 0 + 0 ≤ 601024; omega), (by show 5000 + 400 * k + 400 + 0 + 0 ≤ 7293034; omega)⟩ rfl rfl (Nat.le_of_ble_eq_true rfl) dL_law_898 (g_no) ?_
    intro v6 w6 H locs h6 hG
    obtain ⟨e6, f6⟩ := h6
    rw [f6] at hG; rw [e6, show (sL d (m_la (ga_beats d y1) (gb_beats d y1) (gc_beats d y1))) 9 14 = (m_la (ga_beats d y1) (gb_beats d y1) (gc_beats d y1)) from rfl]; clear e6 f6
    show W p l e _ s m args below meth c H locs _ _ _ (F0 m 901 ls [.int (m_la (ga_beats d y1) (gb_beats d y1) (gc_beats d y1))])
    refine lv_iload hx hb dL_law_901 (lv_at hl 1 rfl) ?_
    refine lv_icmp_eq (tgt := 908) hx hb dL_law_903 (by decide) (fun c9 => ?_) (fun c9 => (c9 rfl).elim)
    refine lv_iload hx hb dL_law_908 (lv_at hl 1 rfl) ?_
    refine lv_if_ne (tgt := 925) hx hb dL_law_910 (by decide) (fun c9 => ?_) (fun c9 => absurd c9 (la_ne hgo))
    refine lv_goto (tgt := 1825) hx hb dL_law_925 (by decide) ?_
    refine lv_iinc (v := (nI (6 * (k + 1)))) (lv' := [(4, .int (nI (6 * (k + 1)))), (6, .int r8), (5, .int (m_la (ga_beats d y1) (gb_beats d y1) (gc_beats d y1))), (0, .ref b), (1, .ref (ca 0)), (2, .ref (ad 0)), (3, .ref oa)]) hx hb dL_law_1825 hl (k := 2) rfl (by rw [show 6 * (k + 1) = 6 * k + 6 by omega]; exact nI_add (6 * k) 6) (by decide) rfl (fun ls hl => ?_)
    refine lv_goto (tgt := 23) hx hb dL_law_1828 (by decide) ?_
    refine W.widen (k := 100 + 40 * (k + 1)) (n := 5000 + 400 * (k + 1)) (by show 100 + 40 * k + 40 + 0 + 0 ≤ _; omega) (by show 5000 + 400 * k + 400 + 0 + 0 ≤ _; omega) ?_
    exact ih ca ad (sL d (m_la (ga_beats d y1) (gb_beats d y1) (gc_beats d y1))) tk st of9 w8 _ _ _ hC8 hM8 hI9 h78 hG (lv_sub hl [0, 3, 4, 5, 6] rfl)
  · skip
    rw [e9]; clear e9
    have z1000 := hM9.1
    show W p l e _ s m args below meth c H locs _ _ _ (F0 m 883 ls [.int 0])
    have hI9 : iOk ((m_bt y1.toNatClampNeg (sL d 0) tk st).2.1) (100 * (k + 1)) := by rw [show 100 * (k + 1) = 100 * k + 100 by omega]; exact I_beats hI hgo
    refine lv_istore (lv' := [(5, .int 0), (4, .int (nI (6 * k))), (0, .ref b), (1, .ref (ca 0)), (2, .ref (ad 0)), (3, .ref oa)]) hx hb dL_law_883 hl (by decide) rfl (fun ls hl => ?_)
    refine lv_aload_n hx hb dL_law_885 rfl (lv_at hl 4 rfl) ?_
    refine lv_aload_n hx hb dL_law_886 rfl (lv_at hl 2 rfl) ?_
    refine lv_iload hx hb dL_law_887 (lv_at hl 1 rfl) ?_
    refine lv_iconst (v := 1) hx hb dL_law_889 (by decide) ?_
    refine lv_iadd hx hb dL_law_890 ?_
    rw [show nI (6 * k) + 1 = nI (6 * k + 1) from nI_add _ _]
    refine va_sld (xs := xs) hx hb hX hbl hbA hG.2.2 (vp_in_nI (by omega) (by omega)) dL_law_891 ?_
    rw [← ey1]
    refine g_callV (rest := []) (As := [.int y1]) hE hG hl.1 (c_X6_beats l hfl D tc A w9 ad d tk st y1 hM9 hOk (hcu_of hj)) z1000 rfl mw4_111 mw4_112 mw4_113 mw1_4 mw4_114 rfl nm_X6_beats ⟨⟨Nat.le_of_ble_eq_true rfl, Nat.le_of_ble_eq_true rfl⟩, (by show 100 + 40 * k + 40 + 0 ≤ 601024; omega), (by show 5000 + 400 * k + 400 + 0 ≤ 7293034; omega)⟩ rfl rfl (Nat.le_of_ble_eq_true rfl) dL_law_892 (g_no) ?_
    intro v8 w8 H locs h8 hG
    rcases h8 with ⟨hg8, -⟩ | ⟨-, e8, hM8, hF8⟩
    · exact absurd hg8 hgo
    rw [e8]; clear e8
    have hC8 : cW tc w8 ca9 ((m_bt y1.toNatClampNeg (sL d 0) tk st).2.1) ((m_bt y1.toNatClampNeg (sL d 0) tk st).2.2.1) ((m_bt y1.toNatClampNeg (sL d 0) tk st).2.2.2) := cW_cg (hC9) hI9.1 (fun q h1 _ => hF8 q h1)
    have h78 := (hF8 7 (by omega)).trans h79
    have z8 := hM8.1
    show W p l e _ s m args below meth c H locs _ _ _ (F0 m 895 ls [.int (nI (m_bt y1.toNatClampNeg (sL d 0) tk st).1)])
    refine lv_istore (lv' := [(6, .int (nI (m_bt y1.toNatClampNeg (sL d 0) tk st).1)), (5, .int 0), (4, .int (nI (6 * k))), (0, .ref b), (1, .ref (ca 0)), (2, .ref (ad 0)), (3, .ref oa)]) hx hb dL_law_895 hl (by decide) rfl (fun ls hl => ?_)
    refine lv_aload_n hx hb dL_law_897 rfl (lv_at hl 5 rfl) ?_
    refine g_callV (rest := []) (As := []) hE hG hl.1 (c_X6_thrown l hfl D tc A w8 ad ((m_bt y1.toNatClampNeg (sL d 0) tk st).2.1) ((m_bt y1.toNatClampNeg (sL d 0) tk st).2.2.1) ((m_bt y1.toNatClampNeg (sL d 0) tk st).2.2.2) hM8) z8 rfl mw4_27 mw4_28 mw4_29 mw1_4 mw4_30 rfl nm_X6_thrown ⟨⟨Nat.le_of_ble_eq_true rfl, Nat.le_of_ble_eq_true rfl⟩, (by show 100 + 40 * k + 40 + 0 + 0 ≤ 601024; omega), (by show 5000 + 400 * k + 400 + 0 + 0 ≤ 7293034; omega)⟩ rfl rfl (Nat.le_of_ble_eq_true rfl) dL_law_898 (g_no) ?_
    intro v6 w6 H locs h6 hG
    obtain ⟨e6, f6⟩ := h6
    rw [f6] at hG; rw [e6, show ((m_bt y1.toNatClampNeg (sL d 0) tk st).2.1) 9 14 = 0 from bt_14 _ _ _ _]; clear e6 f6
    show W p l e _ s m args below meth c H locs _ _ _ (F0 m 901 ls [.int 0])
    refine lv_iload hx hb dL_law_901 (lv_at hl 1 rfl) ?_
    refine lv_icmp_eq (tgt := 908) hx hb dL_law_903 (by decide) (fun _ => ?_) (fun c9 => (c9 (by decide)).elim)
    refine lv_iload hx hb dL_law_908 (lv_at hl 1 rfl) ?_
    refine lv_if_ne (tgt := 925) hx hb dL_law_910 (by decide) (fun c9 => (c9 (by decide)).elim) (fun _ => ?_)
    refine lv_aload_n hx hb dL_law_913 rfl (lv_at hl 6 rfl) ?_
    refine lv_iconst (v := 0) hx hb dL_law_914 (by decide) ?_
    refine g_lald hE hG h78 (vp_in_nI (n := 0) (N := 1) (by decide) (by decide)) dL_law_915 ?_
    rw [show of9 (0 : Int32).toNatClampNeg = (nI (m_bt y1.toNatClampNeg (sL d 0) tk st).1).toInt64 from hof]
    refine lv_iload hx hb dL_law_916 (lv_at hl 0 rfl) ?_
    refine lv_i2l (v := (nI (m_bt y1.toNatClampNeg (sL d 0) tk st).1).toInt64) hx hb dL_law_918 rfl ?_
    refine W.lcmp hx hb dL_law_919 ?_
    refine lv_if_eq (tgt := 925) hx hb dL_law_920 (by decide) (fun c9 => ?_) (fun c9 => (c9 (lg_self _)).elim)
    refine lv_goto (tgt := 1825) hx hb dL_law_925 (by decide) ?_
    refine lv_iinc (v := (nI (6 * (k + 1)))) (lv' := [(4, .int (nI (6 * (k + 1)))), (6, .int (nI (m_bt y1.toNatClampNeg (sL d 0) tk st).1)), (5, .int 0), (0, .ref b), (1, .ref (ca 0)), (2, .ref (ad 0)), (3, .ref oa)]) hx hb dL_law_1825 hl (k := 2) rfl (by rw [show 6 * (k + 1) = 6 * k + 6 by omega]; exact nI_add (6 * k) 6) (by decide) rfl (fun ls hl => ?_)
    refine lv_goto (tgt := 23) hx hb dL_law_1828 (by decide) ?_
    refine W.widen (k := 100 + 40 * (k + 1)) (n := 5000 + 400 * (k + 1)) (by show 100 + 40 * k + 40 + 0 + 0 ≤ _; omega) (by show 5000 + 400 * k + 400 + 0 + 0 ≤ _; omega) ?_
    exact ih ca9 ad ((m_bt y1.toNatClampNeg (sL d 0) tk st).2.1) ((m_bt y1.toNatClampNeg (sL d 0) tk st).2.2.1) ((m_bt y1.toNatClampNeg (sL d 0) tk st).2.2.2) of9 w8 _ _ _ hC8 hM8 hI9 h78 hG (by rw [hca9]; exact lv_sub hl [0, 3, 4, 5, 6] rfl)
