/-! play -/
theorem rA_cg {d d' : gDt} {gc gc' : Nat → Int64} {gm gm' : Nat → Int32} (h : rA d gc gm) (h0 : d' 0 = d 0) (h1 : d' 1 = d 1) (h2 : d' 2 = d 2) (h3 : d' 3 = d 3) (e0 : d' 9 0 = d 9 0) (e1 : d' 9 1 = d 9 1) (e2 : d' 9 13 = d 9 13) (hc : ∀ i, i < 2 → gc' i = gc i) (hm : ∀ i, i < 4 → gm' i = gm i) : rA d' gc' gm' := by
  obtain ⟨⟨n1, n2, n3⟩, hi⟩ := h
  refine ⟨⟨by unfold nF; rw [e0]; exact n1, by unfold nP; rw [e1]; exact n2, by unfold nU; rw [e2]; exact n3⟩, fun i hi2 => ?_⟩
  have hl : lenN d' i = lenN d i := by unfold lenN; rw [h0, h1]
  rw [h0, h1, h2, h3, hl, hc i hi2, hm i (by omega), hm (2 + i) (by omega)]
  exact hi i hi2
theorem rU_cg {d d' : gDt} {gc gc' : Nat → Int64} {gm gm' : Nat → Int32} (h : rU d gc gm) (h0 : d' 0 = d 0) (h1 : d' 1 = d 1) (h6 : d' 6 = d 6) (h7 : d' 7 = d 7) (h8 : d' 8 = d 8) (hc : ∀ k, k < 8 → gc' (2 + k) = gc (2 + k)) (hm : ∀ u, u < 4 → gm' (15 + u) = gm (15 + u)) : rU d' gc' gm' := by
  intro u hu
  have hl : ∀ i, lenN d' i = lenN d i := fun i => by unfold lenN; rw [h0, h1]
  obtain ⟨g1, g2, g3⟩ := h u hu
  refine ⟨by rw [hm u hu, h6]; exact g1, by rw [h6]; exact g2, fun i hi => ?_⟩
  have e := hc (2 * u + i) (by omega)
  rw [← Nat.add_assoc] at e
  rw [h7, h8, hl, e]
  exact g3 i hi
theorem npl_law {pl n : Nat} (h : pl ≤ n) (h0 : 0 < n) (hn : n ≤ 64) : m_npl (nI n) (nI pl) = nI (pl % n + 1) := by
  unfold m_npl
  by_cases e : pl = n
  · rw [if_pos (congrArg nI e), e, Nat.mod_self]; rfl
  · rw [if_neg (fun h9 => e ((nI_eq (by omega) (by omega)).mp h9)), Nat.mod_eq_of_lt (by omega), nI_1]
def bN (t b : Nat) : Nat := if t = 1 then (if b < 80 then b + 1 else 80) else if t = 2 then (if 5 < b then b - 1 else 5) else b
theorem bN_r {t b : Nat} (h1 : 5 ≤ b) (h2 : b ≤ 80) : 5 ≤ bN t b ∧ bN t b ≤ 80 := by
  unfold bN
  repeat' split
  all_goals omega
def lN4 (b : Nat) : Nat := if b < 20 then 0 else if b < 40 then 1 else if b < 80 then 2 else 3
theorem lN4_r (b : Nat) : lN4 b < 4 := by
  unfold lN4
  repeat' split
  all_goals omega
theorem nbl_tab : ∀ b : Nat, b < 81 → 5 ≤ b → ∀ t : Nat, t < 3 → nI (2 * b) + (if (nI t) = 1 then (if 160 ≤ (nI (2 * b)) then (if (nI t) = 2 then (if (nI (2 * b)) ≤ 10 then 0 else (-2) : Int32) else 0 : Int32) else 2 : Int32) else (if (nI t) = 2 then (if (nI (2 * b)) ≤ 10 then 0 else (-2) : Int32) else 0 : Int32) : Int32) = nI (2 * bN t b) ∧ m_nbl (nI t) (nI (2 * b)) = nI (2 * bN t b) := by decide +kernel
theorem lvl_tab : ∀ b : Nat, b < 81 → 5 ≤ b → (if (nI (2 * b)) ≤ 159 then (if (nI (2 * b)) ≤ 79 then (if (nI (2 * b)) ≤ 39 then 0 else 1 : Int32) else 2 : Int32) else 3 : Int32) = nI (lN4 b) ∧ m_lvl (nI (2 * b)) = nI (lN4 b) := by decide +kernel
theorem mB9_n {d : gDt} (h : ¬ mPl d = mLen d) : mB d 9 = upd (upd (d 9) 4 (mPl d)) 5 (mBl d) := by
  unfold mB
  rw [gD_s, if_neg h]
theorem mB9_g {d : gDt} (h : mPl d = mLen d) : mB d 9 = upd (upd (upd (upd (upd (d 9) 4 (mPl d)) 5 (mBl d)) 6 (m_lvl (mBl d))) 7 (d 9 7 + 1)) 2 (if d 9 7 + 1 = d 9 9 then 0 else 1) := by
  unfold mB
  rw [gD_s, if_pos h]
theorem den_law {k v : Nat} (hk : k < 4) (hv : v < 4) : m_den (nI k) (nI v) = nI (kk (4 * k + v)) := by
  have k1 := (kk_den (4 * k + v) (by omega)).1
  rw [show (4 * k + v) / 4 = k by omega, show (4 * k + v) % 4 = v by omega] at k1
  rw [← den_a (fin_nI (b := 0) (n := 3) (by omega) (by omega) (by decide) : ¬ f_in (nI k) 0 3 = 0), k1]
/-- what is known of what is played -/
theorem play_in {d : gDt} {tk : Int64} {st : Nat → Int64} {gc : Nat → Int64} {gm gp : Nat → Int32} {B : Nat} (hI : iOk d B) (hR : rl d tk st gc gm gp) (h9 : ¬ d 9 2 = 0) (hB : B ≤ 60000) : ∃ i q pl t b v g e : Nat, i < 2 ∧ 1 ≤ q ∧ q ≤ 4 ∧ pl ≤ 4 * q ∧ t < 3 ∧ 5 ≤ b ∧ b ≤ 80 ∧ v < 4 ∧ g ≤ 60000 ∧ e ≤ 100000 ∧ lenN d i = 4 * q ∧ gm i = nI (4 * q) ∧ d 9 3 = nI i ∧ d 9 4 = nI pl ∧ d 9 5 = nI (2 * b) ∧ d 9 6 = nI v ∧ d 9 7 = nI g ∧ d 9 8 = nI t ∧ d 9 9 = nI e := by
  obtain ⟨hRA, ⟨-, -, ⟨v, hv, ev⟩, ⟨e, he, ee⟩, -, -, hb⟩, -, -, -⟩ := hR
  obtain ⟨-, ⟨i, pl, g, hi, e3, e4, hpl, e7, hg⟩, ht, -⟩ := hI.2.2.2.2.2 h9
  obtain ⟨b, hb1, hb2, e5⟩ := hb h9
  rw [hRA.1.2.1] at hi
  obtain ⟨q, hq1, hq4, hlen, -, hgm⟩ := rA_i hRA hi
  obtain ⟨t, ht3, e8⟩ : ∃ t, t < 3 ∧ d 9 8 = nI t := by
    rcases ht with h | h | h
    · exact ⟨0, by omega, h⟩
    · exact ⟨1, by omega, h⟩
    · exact ⟨2, by omega, h⟩
  exact ⟨i, q, pl, t, b, v, g, e, hi, hq1, hq4, by omega, ht3, hb1, hb2, hv, by omega, he, hlen, hgm, e3, e4, e5, ev, e7, e8, ee⟩
theorem play_cc {d : gDt} {tk : Int64} {st : Nat → Int64} {gc gc' : Nat → Int64} {b v : Nat} (hT : rT gc tk st) (e5 : d 9 5 = nI (2 * b)) (e6 : d 9 6 = nI v) (hv : v < 4) (c10 : gc' 10 = gc 10 + (nI (2 * b)).toInt64) (c11 : ∀ k, k < 4 → gc' (11 + k) = gc (11 + k) + (nI (kk (4 * k + v))).toInt64) : rT gc' (tk + (d 9 5).toInt64) (m_sts (d 9 6) st) := by
  refine ⟨by rw [c10, hT.1, e5], fun k hk => ?_⟩
  rw [c11 k hk, hT.2 k hk]
  show _ = if k < 4 then st k + (m_den (nI k) (d 9 6)).toInt64 else st k
  rw [if_pos hk, e6, den_law hk hv]
theorem play_n {d : gDt} {gm gm' : Nat → Int32} {pl2 b2 n : Nat} (h : rB d gm) (hP : mPl d = nI pl2) (hL : mLen d = nI n) (hb : mBl d = nI (2 * b2)) (hne : pl2 ≠ n ∧ pl2 < 2 ^ 31 ∧ n < 2 ^ 31) (h1 : 5 ≤ b2) (h2 : b2 ≤ 80) (e4 : gm' 4 = gm 4) (e5 : gm' 5 = gm 5) (e6 : gm' 6 = nI pl2) (e7 : gm' 7 = nI (2 * b2)) (e8 : gm' 8 = gm 8) (e9 : gm' 9 = gm 9) (e10 : gm' 10 = gm 10) (e11 : gm' 11 = gm 11) (e12 : gm' 12 = gm 12) (e13 : gm' 13 = gm 13) (e14 : gm' 14 = gm 14) : rB (mB d) gm' := by
  have hn : ¬ mPl d = mLen d := fun h9 => hne.1 ((nI_eq hne.2.1 hne.2.2).mp ((hP.symm.trans h9).trans hL))
  obtain ⟨⟨a4, a5, a6, a7, a8, a9, a10, a11, a12, a13, a14⟩, b1, b2', b3, b4, b5, b6⟩ := h
  rw [show rB (mB d) gm' = _ from rfl]
  unfold rB
  rw [mB9_n hn, hP, hb]
  exact ⟨⟨e4.trans a4, e5.trans a5, e6, e7, e8.trans a8, e9.trans a9, e10.trans a10, e11.trans a11, e12.trans a12, e13.trans a13, e14.trans a14⟩, b1, b2', b3, b4, b5, fun _ => ⟨b2, h1, h2, rfl⟩⟩
theorem play_g {d : gDt} {gm gm' : Nat → Int32} {pl2 b2 n g e l2 : Nat} {v4 : Int32} (h : rB d gm) (x7 : d 9 7 = nI g) (x9 : d 9 9 = nI e) (hg : g ≤ 60000) (he : e ≤ 100000) (hP : mPl d = nI pl2) (hL : mLen d = nI n) (hb : mBl d = nI (2 * b2)) (hne : pl2 = n) (h1 : 5 ≤ b2) (h2 : b2 ≤ 80) (hl : m_lvl (nI (2 * b2)) = nI l2) (hl4 : l2 < 4) (e4 : gm' 4 = v4) (e5 : gm' 5 = gm 5) (e6 : gm' 6 = nI pl2) (e7 : gm' 7 = nI (2 * b2)) (e8 : gm' 8 = nI l2) (e9 : gm' 9 = nI (g + 1)) (ev : v4 = (if nI e = nI (g + 1) then 0 else 1 : Int32)) (e10 : gm' 10 = gm 10) (e11 : gm' 11 = gm 11) (e12 : gm' 12 = gm 12) (e13 : gm' 13 = gm 13) (e14 : gm' 14 = gm 14) : rB (mB d) gm' := by
  have hn : mPl d = mLen d := by rw [hP, hL, hne]
  obtain ⟨⟨a4, a5, a6, a7, a8, a9, a10, a11, a12, a13, a14⟩, b1, b2', b3, b4, b5, b6⟩ := h
  unfold rB
  rw [mB9_g hn, hP, hb, hl, x7, x9, nI_1]
  have hv : (if nI (g + 1) = nI e then (0 : Int32) else 1) = v4 := by
    rw [ev]
    by_cases h9 : nI e = nI (g + 1)
    · rw [if_pos h9, if_pos h9.symm]
    · rw [if_neg h9, if_neg (fun h => h9 h.symm)]
  rw [hv]
  refine ⟨⟨e4, e5.trans a5, e6, e7, e8, e9, e10.trans a10, e11.trans a11, e12.trans a12, e13.trans a13, e14.trans a14⟩, ?_, ⟨l2, hl4, rfl⟩, b3, b4, b5, fun _ => ⟨b2, h1, h2, rfl⟩⟩
  show v4 = 0 ∨ v4 = 1
  rw [ev]
  split
  · exact Or.inl rfl
  · exact Or.inr rfl
abbrev rm_L_play : Room := { frames := 2, cells := 0, slots := 0, locals := 86 }
theorem nm_L_play : gNm yL_play 2 := ⟨by decide +kernel, by decide +kernel, by decide +kernel⟩
set_option maxHeartbeats 4000000 in
set_option maxRecDepth 100000 in
theorem c_L_play (l : Launch) (hfl : l.stackTraces = false) (D : va_G) (tc : Nat → ClassId) (A : Nat → Prop) (w : gW) (ac : Nat) (am : Nat) (d : gDt) (tk : Int64) (st : Nat → Int64) (gc : Nat → Int64) (gm : Nat → Int32) (gp : Nat → Int32) (B : Nat) (h1 : w 1000 = some (ac, .inl (tc 1, 15, .inr (.inl gc)))) (h2 : w 1001 = some (am, .inl (tc 0, 19, .inl gm))) (hI : iOk d B) (hR : rl d tk st gc gm gp) (h9 : ¬ d 9 2 = 0) (hB : B ≤ 60000) : gM l yL_play cL_play 3 none rm_L_play D tc A [.ref ac, .ref am] w (fun v w' => v = none ∧ (∃ gc' gm', w' 1000 = some (ac, .inl (tc 1, 15, .inr (.inl gc'))) ∧ w' 1001 = some (am, .inl (tc 0, 19, .inl gm')) ∧ rl (mB d) (tk + (d 9 5).toInt64) (m_sts (d 9 6) st) gc' gm' gp) ∧ ∀ k, k ≠ 1000 → k ≠ 1001 → w' k = w k) (fun _ => False) := by
  refine gM_of (by decide +kernel) (Nat.le_of_ble_eq_true rfl) ?_
  intro p e s m args below meth c ls Q hQ hE hG hr hnt hnm hl
  have hx := hE.1
  have hb := hE.2.1
  have hl : lv_has ls 3 [(0, .ref ac), (1, .ref am)] := hl
  obtain ⟨hRA, hRB, hRT, hRU, hRP⟩ := id hR
  obtain ⟨i, q, pl, t, b, v, g, e9, hi, hq1, hq4, hpl, ht, hb1, hb2, hv, hg, he, hlen, hgi, e3, e4, e5, e6, e7, e8, ee⟩ := play_in hI hR h9 hB
  have hpm : pl % (4 * q) < 4 * q := Nat.mod_lt _ (by omega)
  have hm5 : gm 5 = nI i := hRB.1.2.1.trans e3
  have hm6 : gm 6 = nI pl := hRB.1.2.2.1.trans e4
  have hm7 : gm 7 = nI (2 * b) := hRB.1.2.2.2.1.trans e5
  have hm8 : gm 8 = nI v := hRB.1.2.2.2.2.1.trans e6
  have hm9 : gm 9 = nI g := hRB.1.2.2.2.2.2.1.trans e7
  have hm10 : gm 10 = nI t := hRB.1.2.2.2.2.2.2.1.trans e8
  have hm11 : gm 11 = nI e9 := hRB.1.2.2.2.2.2.2.2.1.trans ee
  refine lv_aload_n hx hb dL_play_0 rfl (lv_at hl 1 rfl) ?_
  refine lv_bipush (v := 6) hx hb dL_play_1 (by decide) ?_
  refine lv_aload_n hx hb dL_play_3 rfl (lv_at hl 1 rfl) ?_
  refine lv_bipush (v := 6) hx hb dL_play_4 (by decide) ?_
  refine g_ialdN hE hG h2 6 rfl (by decide) (by decide) dL_play_6 ?_
  rw [hm6]
  refine lv_aload_n hx hb dL_play_7 rfl (lv_at hl 1 rfl) ?_
  refine lv_aload_n hx hb dL_play_8 rfl (lv_at hl 1 rfl) ?_
  refine lv_iconst (v := 5) hx hb dL_play_9 (by decide) ?_
  refine g_ialdN hE hG h2 5 rfl (by decide) (by decide) dL_play_10 ?_
  rw [hm5]
  refine g_ialdN hE hG h2 i rfl (by omega) (by decide) dL_play_11 ?_
  rw [hgi]
  refine lv_irem hx hb dL_play_12 (nI_ne0 (by omega) (by omega)) ?_
  refine lv_topi (fun k_1 ek_1 => ?_)
  obtain rfl : k_1 = nI (pl % (4 * q)) := ek_1.trans (pk_rem (a := pl) (d := (4 * q)) (by omega) (by omega) (by omega))
  refine lv_iconst (v := 1) hx hb dL_play_13 (by decide) ?_
  refine lv_iadd hx hb dL_play_14 ?_
  refine lv_topi (fun k_2 ek_2 => ?_)
  obtain rfl : k_2 = nI ((pl % (4 * q)) + 1) := ek_2.trans (nI_add (pl % (4 * q)) 1)
  refine g_iastN hE hG h2 6 rfl (by decide) (by decide) dL_play_15 (fun H locs w_3 ew_3 hG => ?_)
  have h_4 : w_3 1000 = some (ac, .inl (tc 1, 15, .inr (.inl gc))) := gU_n ew_3 (by decide) h1
  have h_5 : w_3 1001 = some (am, .inl (tc 0, 19, .inl (upd gm 6 (nI ((pl % (4 * q)) + 1))))) := gU_s ew_3
  refine lv_aload_n hx hb dL_play_16 rfl (lv_at hl 0 rfl) ?_
  refine lv_bipush (v := 10) hx hb dL_play_17 (by decide) ?_
  refine lv_dup2_11 hx hb dL_play_19 rfl rfl ?_
  refine g_laldN hE hG h_4 10 rfl (by decide) (by decide) dL_play_20 ?_
  refine lv_aload_n hx hb dL_play_21 rfl (lv_at hl 1 rfl) ?_
  refine lv_bipush (v := 7) hx hb dL_play_22 (by decide) ?_
  refine g_ialdN hE hG h_5 7 rfl (by decide) (by decide) dL_play_24 ?_
  rw [show ((upd gm 6 (nI ((pl % (4 * q)) + 1))) 7) = (gm 7) from (pk_un (by omega))]
  rw [hm7]
  refine lv_i2l (v := (nI (2 * b)).toInt64) hx hb dL_play_25 rfl ?_
  refine lv_ladd hx hb dL_play_26 ?_
  refine g_lastN hE hG h_4 10 rfl (by decide) (by decide) dL_play_27 (fun H locs w_6 ew_6 hG => ?_)
  have h_7 : w_6 1001 = some (am, .inl (tc 0, 19, .inl (upd gm 6 (nI ((pl % (4 * q)) + 1))))) := gU_n ew_6 (by decide) h_5
  have h_8 : w_6 1000 = some (ac, .inl (tc 1, 15, .inr (.inl (vp_updL gc 10 ((gc 10) + ((nI (2 * b)).toInt64)))))) := gU_s ew_6
  refine lv_iconst (v := 0) hx hb dL_play_28 (by decide) ?_
  refine lv_istore_n (lv' := [(2, .int 0), (0, .ref ac), (1, .ref am)]) hx hb dL_play_29 rfl hl (by decide) rfl (fun ls hl => ?_)
  refine lv_iload_n hx hb dL_play_30 rfl (lv_at hl 0 rfl) ?_
  refine lv_iconst (v := 4) hx hb dL_play_31 (by decide) ?_
  refine lv_icmp_ge (tgt := 59) hx hb dL_play_32 (by decide) (fun c9 => absurd c9 (by decide)) (fun _ => ?_)
  refine lv_aload_n hx hb dL_play_35 rfl (lv_at hl 1 rfl) ?_
  refine lv_bipush (v := 11) hx hb dL_play_36 (by decide) ?_
  refine lv_iload_n hx hb dL_play_38 rfl (lv_at hl 0 rfl) ?_
  refine lv_iadd hx hb dL_play_39 ?_
  refine lv_topi (fun k_9 ek_9 => ?_)
  obtain rfl : k_9 = 11 := ek_9.trans (by decide)
  refine lv_dup2_11 hx hb dL_play_40 rfl rfl ?_
  refine g_laldN hE hG h_8 11 rfl (by decide) (by decide) dL_play_41 ?_
  rw [show ((vp_updL gc 10 ((gc 10) + ((nI (2 * b)).toInt64))) 11) = (gc 11) from (pk_uLn (by omega))]
  refine lv_iload_n hx hb dL_play_42 rfl (lv_at hl 0 rfl) ?_
  refine lv_aload_n hx hb dL_play_43 rfl (lv_at hl 2 rfl) ?_
  refine lv_bipush (v := 8) hx hb dL_play_44 (by decide) ?_
  refine g_ialdN hE hG h_7 8 rfl (by decide) (by decide) dL_play_46 ?_
  rw [show ((upd gm 6 (nI ((pl % (4 * q)) + 1))) 8) = (gm 8) from (pk_un (by omega))]
  rw [hm8]
  refine g_callS (rest := [.long (gc 11), .int 11, .ref ac]) (As := [.int 0, .int (nI v)]) hE hG hl.1 (c_L_density l hfl D tc A w_6 0 v (by omega) (by omega)) mw2_149 mw2_150 mw1_0 mw2_151 nm_L_density ⟨⟨Nat.le_of_ble_eq_true rfl, Nat.le_of_ble_eq_true rfl⟩, Nat.le_of_ble_eq_true rfl, Nat.le_of_ble_eq_true rfl⟩ rfl rfl (Nat.le_of_ble_eq_true rfl) dL_play_47 (g_no) ?_
  intro v9 w9 H locs h9 hG
  obtain ⟨e9, f9⟩ := h9
  rw [f9] at hG; rw [e9]; clear e9 f9
  show W p l e _ s m args below meth c H locs _ _ _ (F0 m 50 ls [.int (nI (kk (4 * 0 + v))), .long (gc 11), .int 11, .ref ac])
  refine lv_i2l (v := (nI (kk (4 * 0 + v))).toInt64) hx hb dL_play_50 rfl ?_
  refine lv_ladd hx hb dL_play_51 ?_
  refine g_lastN hE hG h_8 11 rfl (by decide) (by decide) dL_play_52 (fun H locs w_10 ew_10 hG => ?_)
  have h_11 : w_10 1001 = some (am, .inl (tc 0, 19, .inl (upd gm 6 (nI ((pl % (4 * q)) + 1))))) := gU_n ew_10 (by decide) h_7
  have h_12 : w_10 1000 = some (ac, .inl (tc 1, 15, .inr (.inl (vp_updL (vp_updL gc 10 ((gc 10) + ((nI (2 * b)).toInt64))) 11 ((gc 11) + ((nI (kk (4 * 0 + v))).toInt64)))))) := gU_s ew_10
  refine lv_iinc (v := 1) (lv' := [(2, .int 1), (0, .ref ac), (1, .ref am)]) hx hb dL_play_53 hl (k := 0) rfl (by decide) (by decide) rfl (fun ls hl => ?_)
  refine lv_goto (tgt := 30) hx hb dL_play_56 (by decide) ?_
  refine lv_iload_n hx hb dL_play_30 rfl (lv_at hl 0 rfl) ?_
  refine lv_iconst (v := 4) hx hb dL_play_31 (by decide) ?_
  refine lv_icmp_ge (tgt := 59) hx hb dL_play_32 (by decide) (fun c9 => absurd c9 (by decide)) (fun _ => ?_)
  refine lv_aload_n hx hb dL_play_35 rfl (lv_at hl 1 rfl) ?_
  refine lv_bipush (v := 11) hx hb dL_play_36 (by decide) ?_
  refine lv_iload_n hx hb dL_play_38 rfl (lv_at hl 0 rfl) ?_
  refine lv_iadd hx hb dL_play_39 ?_
  refine lv_topi (fun k_13 ek_13 => ?_)
  obtain rfl : k_13 = 12 := ek_13.trans (by decide)
  refine lv_dup2_11 hx hb dL_play_40 rfl rfl ?_
  refine g_laldN hE hG h_12 12 rfl (by decide) (by decide) dL_play_41 ?_
  rw [show ((vp_updL (vp_updL gc 10 ((gc 10) + ((nI (2 * b)).toInt64))) 11 ((gc 11) + ((nI (kk (4 * 0 + v))).toInt64))) 12) = (gc 12) from ((pk_uLn (by omega)).trans (pk_uLn (by omega)))]
  refine lv_iload_n hx hb dL_play_42 rfl (lv_at hl 0 rfl) ?_
  refine lv_aload_n hx hb dL_play_43 rfl (lv_at hl 2 rfl) ?_
  refine lv_bipush (v := 8) hx hb dL_play_44 (by decide) ?_
  refine g_ialdN hE hG h_11 8 rfl (by decide) (by decide) dL_play_46 ?_
  rw [show ((upd gm 6 (nI ((pl % (4 * q)) + 1))) 8) = (gm 8) from (pk_un (by omega))]
  rw [hm8]
  refine g_callS (rest := [.long (gc 12), .int 12, .ref ac]) (As := [.int 1, .int (nI v)]) hE hG hl.1 (c_L_density l hfl D tc A w_10 1 v (by omega) (by omega)) mw2_149 mw2_150 mw1_0 mw2_151 nm_L_density ⟨⟨Nat.le_of_ble_eq_true rfl, Nat.le_of_ble_eq_true rfl⟩, Nat.le_of_ble_eq_true rfl, Nat.le_of_ble_eq_true rfl⟩ rfl rfl (Nat.le_of_ble_eq_true rfl) dL_play_47 (g_no) ?_
  intro v9 w9 H locs h9 hG
  obtain ⟨e9, f9⟩ := h9
  rw [f9] at hG; rw [e9]; clear e9 f9
  show W p l e _ s m args below meth c H locs _ _ _ (F0 m 50 ls [.int (nI (kk (4 * 1 + v))), .long (gc 12), .int 12, .ref ac])
  refine lv_i2l (v := (nI (kk (4 * 1 + v))).toInt64) hx hb dL_play_50 rfl ?_
  refine lv_ladd hx hb dL_play_51 ?_
  refine g_lastN hE hG h_12 12 rfl (by decide) (by decide) dL_play_52 (fun H locs w_14 ew_14 hG => ?_)
  have h_15 : w_14 1001 = some (am, .inl (tc 0, 19, .inl (upd gm 6 (nI ((pl % (4 * q)) + 1))))) := gU_n ew_14 (by decide) h_11
  have h_16 : w_14 1000 = some (ac, .inl (tc 1, 15, .inr (.inl (vp_updL (vp_updL (vp_updL gc 10 ((gc 10) + ((nI (2 * b)).toInt64))) 11 ((gc 11) + ((nI (kk (4 * 0 + v))).toInt64))) 12 ((gc 12) + ((nI (kk (4 * 1 + v))).toInt64)))))) := gU_s ew_14
  refine lv_iinc (v := 2) (lv' := [(2, .int 2), (0, .ref ac), (1, .ref am)]) hx hb dL_play_53 hl (k := 0) rfl (by decide) (by decide) rfl (fun ls hl => ?_)
  refine lv_goto (tgt := 30) hx hb dL_play_56 (by decide) ?_
  refine lv_iload_n hx hb dL_play_30 rfl (lv_at hl 0 rfl) ?_
  refine lv_iconst (v := 4) hx hb dL_play_31 (by decide) ?_
  refine lv_icmp_ge (tgt := 59) hx hb dL_play_32 (by decide) (fun c9 => absurd c9 (by decide)) (fun _ => ?_)
  refine lv_aload_n hx hb dL_play_35 rfl (lv_at hl 1 rfl) ?_
  refine lv_bipush (v := 11) hx hb dL_play_36 (by decide) ?_
  refine lv_iload_n hx hb dL_play_38 rfl (lv_at hl 0 rfl) ?_
  refine lv_iadd hx hb dL_play_39 ?_
  refine lv_topi (fun k_17 ek_17 => ?_)
  obtain rfl : k_17 = 13 := ek_17.trans (by decide)
  refine lv_dup2_11 hx hb dL_play_40 rfl rfl ?_
  refine g_laldN hE hG h_16 13 rfl (by decide) (by decide) dL_play_41 ?_
  rw [show ((vp_updL (vp_updL (vp_updL gc 10 ((gc 10) + ((nI (2 * b)).toInt64))) 11 ((gc 11) + ((nI (kk (4 * 0 + v))).toInt64))) 12 ((gc 12) + ((nI (kk (4 * 1 + v))).toInt64))) 13) = (gc 13) from ((pk_uLn (by omega)).trans ((pk_uLn (by omega)).trans (pk_uLn (by omega))))]
  refine lv_iload_n hx hb dL_play_42 rfl (lv_at hl 0 rfl) ?_
  refine lv_aload_n hx hb dL_play_43 rfl (lv_at hl 2 rfl) ?_
  refine lv_bipush (v := 8) hx hb dL_play_44 (by decide) ?_
  refine g_ialdN hE hG h_15 8 rfl (by decide) (by decide) dL_play_46 ?_
  rw [show ((upd gm 6 (nI ((pl % (4 * q)) + 1))) 8) = (gm 8) from (pk_un (by omega))]
  rw [hm8]
  refine g_callS (rest := [.long (gc 13), .int 13, .ref ac]) (As := [.int 2, .int (nI v)]) hE hG hl.1 (c_L_density l hfl D tc A w_14 2 v (by omega) (by omega)) mw2_149 mw2_150 mw1_0 mw2_151 nm_L_density ⟨⟨Nat.le_of_ble_eq_true rfl, Nat.le_of_ble_eq_true rfl⟩, Nat.le_of_ble_eq_true rfl, Nat.le_of_ble_eq_true rfl⟩ rfl rfl (Nat.le_of_ble_eq_true rfl) dL_play_47 (g_no) ?_
  intro v9 w9 H locs h9 hG
  obtain ⟨e9, f9⟩ := h9
  rw [f9] at hG; rw [e9]; clear e9 f9
  show W p l e _ s m args below meth c H locs _ _ _ (F0 m 50 ls [.int (nI (kk (4 * 2 + v))), .long (gc 13), .int 13, .ref ac])
  refine lv_i2l (v := (nI (kk (4 * 2 + v))).toInt64) hx hb dL_play_50 rfl ?_
  refine lv_ladd hx hb dL_play_51 ?_
  refine g_lastN hE hG h_16 13 rfl (by decide) (by decide) dL_play_52 (fun H locs w_18 ew_18 hG => ?_)
  have h_19 : w_18 1001 = some (am, .inl (tc 0, 19, .inl (upd gm 6 (nI ((pl % (4 * q)) + 1))))) := gU_n ew_18 (by decide) h_15
  have h_20 : w_18 1000 = some (ac, .inl (tc 1, 15, .inr (.inl (vp_updL (vp_updL (vp_updL (vp_updL gc 10 ((gc 10) + ((nI (2 * b)).toInt64))) 11 ((gc 11) + ((nI (kk (4 * 0 + v))).toInt64))) 12 ((gc 12) + ((nI (kk (4 * 1 + v))).toInt64))) 13 ((gc 13) + ((nI (kk (4 * 2 + v))).toInt64)))))) := gU_s ew_18
  refine lv_iinc (v := 3) (lv' := [(2, .int 3), (0, .ref ac), (1, .ref am)]) hx hb dL_play_53 hl (k := 0) rfl (by decide) (by decide) rfl (fun ls hl => ?_)
  refine lv_goto (tgt := 30) hx hb dL_play_56 (by decide) ?_
  refine lv_iload_n hx hb dL_play_30 rfl (lv_at hl 0 rfl) ?_
  refine lv_iconst (v := 4) hx hb dL_play_31 (by decide) ?_
  refine lv_icmp_ge (tgt := 59) hx hb dL_play_32 (by decide) (fun c9 => absurd c9 (by decide)) (fun _ => ?_)
  refine lv_aload_n hx hb dL_play_35 rfl (lv_at hl 1 rfl) ?_
  refine lv_bipush (v := 11) hx hb dL_play_36 (by decide) ?_
  refine lv_iload_n hx hb dL_play_38 rfl (lv_at hl 0 rfl) ?_
  refine lv_iadd hx hb dL_play_39 ?_
  refine lv_topi (fun k_21 ek_21 => ?_)
  obtain rfl : k_21 = 14 := ek_21.trans (by decide)
  refine lv_dup2_11 hx hb dL_play_40 rfl rfl ?_
  refine g_laldN hE hG h_20 14 rfl (by decide) (by decide) dL_play_41 ?_
  rw [show ((vp_updL (vp_updL (vp_updL (vp_updL gc 10 ((gc 10) + ((nI (2 * b)).toInt64))) 11 ((gc 11) + ((nI (kk (4 * 0 + v))).toInt64))) 12 ((gc 12) + ((nI (kk (4 * 1 + v))).toInt64))) 13 ((gc 13) + ((nI (kk (4 * 2 + v))).toInt64))) 14) = (gc 14) from ((pk_uLn (by omega)).trans ((pk_uLn (by omega)).trans ((pk_uLn (by omega)).trans (pk_uLn (by omega)))))]
  refine lv_iload_n hx hb dL_play_42 rfl (lv_at hl 0 rfl) ?_
  refine lv_aload_n hx hb dL_play_43 rfl (lv_at hl 2 rfl) ?_
  refine lv_bipush (v := 8) hx hb dL_play_44 (by decide) ?_
  refine g_ialdN hE hG h_19 8 rfl (by decide) (by decide) dL_play_46 ?_
  rw [show ((upd gm 6 (nI ((pl % (4 * q)) + 1))) 8) = (gm 8) from (pk_un (by omega))]
  rw [hm8]
  refine g_callS (rest := [.long (gc 14), .int 14, .ref ac]) (As := [.int 3, .int (nI v)]) hE hG hl.1 (c_L_density l hfl D tc A w_18 3 v (by omega) (by omega)) mw2_149 mw2_150 mw1_0 mw2_151 nm_L_density ⟨⟨Nat.le_of_ble_eq_true rfl, Nat.le_of_ble_eq_true rfl⟩, Nat.le_of_ble_eq_true rfl, Nat.le_of_ble_eq_true rfl⟩ rfl rfl (Nat.le_of_ble_eq_true rfl) dL_play_47 (g_no) ?_
  intro v9 w9 H locs h9 hG
  obtain ⟨e9, f9⟩ := h9
  rw [f9] at hG; rw [e9]; clear e9 f9
  show W p l e _ s m args below meth c H locs _ _ _ (F0 m 50 ls [.int (nI (kk (4 * 3 + v))), .long (gc 14), .int 14, .ref ac])
  refine lv_i2l (v := (nI (kk (4 * 3 + v))).toInt64) hx hb dL_play_50 rfl ?_
  refine lv_ladd hx hb dL_play_51 ?_
  refine g_lastN hE hG h_20 14 rfl (by decide) (by decide) dL_play_52 (fun H locs w_22 ew_22 hG => ?_)
  have h_23 : w_22 1001 = some (am, .inl (tc 0, 19, .inl (upd gm 6 (nI ((pl % (4 * q)) + 1))))) := gU_n ew_22 (by decide) h_19
  have h_24 : w_22 1000 = some (ac, .inl (tc 1, 15, .inr (.inl (vp_updL (vp_updL (vp_updL (vp_updL (vp_updL gc 10 ((gc 10) + ((nI (2 * b)).toInt64))) 11 ((gc 11) + ((nI (kk (4 * 0 + v))).toInt64))) 12 ((gc 12) + ((nI (kk (4 * 1 + v))).toInt64))) 13 ((gc 13) + ((nI (kk (4 * 2 + v))).toInt64))) 14 ((gc 14) + ((nI (kk (4 * 3 + v))).toInt64)))))) := gU_s ew_22
  refine lv_iinc (v := 4) (lv' := [(2, .int 4), (0, .ref ac), (1, .ref am)]) hx hb dL_play_53 hl (k := 0) rfl (by decide) (by decide) rfl (fun ls hl => ?_)
  refine lv_goto (tgt := 30) hx hb dL_play_56 (by decide) ?_
  refine lv_iload_n hx hb dL_play_30 rfl (lv_at hl 0 rfl) ?_
  refine lv_iconst (v := 4) hx hb dL_play_31 (by decide) ?_
  refine lv_icmp_ge (tgt := 59) hx hb dL_play_32 (by decide) (fun _ => ?_) (fun c9 => (c9 (by decide)).elim)
  refine lv_aload_n hx hb dL_play_59 rfl (lv_at hl 2 rfl) ?_
  refine lv_bipush (v := 7) hx hb dL_play_60 (by decide) ?_
  refine lv_dup2_11 hx hb dL_play_62 rfl rfl ?_
  refine g_ialdN hE hG h_23 7 rfl (by decide) (by decide) dL_play_63 ?_
  rw [show ((upd gm 6 (nI ((pl % (4 * q)) + 1))) 7) = (gm 7) from (pk_un (by omega))]
  rw [hm7]
  refine lv_aload_n hx hb dL_play_64 rfl (lv_at hl 2 rfl) ?_
  refine lv_bipush (v := 10) hx hb dL_play_65 (by decide) ?_
  refine g_ialdN hE hG h_23 10 rfl (by decide) (by decide) dL_play_67 ?_
  rw [show ((upd gm 6 (nI ((pl % (4 * q)) + 1))) 10) = (gm 10) from (pk_un (by omega))]
  rw [hm10]
  refine lv_iconst (v := 1) hx hb dL_play_68 (by decide) ?_
  have j_26 : ∀ (v_25 : Int32) (H : Heap) (locs : List Loc), v_25 = (if (nI t) = 1 then (if 160 ≤ (nI (2 * b)) then (if (nI t) = 2 then (if (nI (2 * b)) ≤ 10 then 0 else (-2) : Int32) else 0 : Int32) else 2 : Int32) else (if (nI t) = 2 then (if (nI (2 * b)) ≤ 10 then 0 else (-2) : Int32) else 0 : Int32) : Int32) → gS D A s.heap w_22 H locs → W p l e rm_L_play s m args below meth c H locs ((((0 + rm_L_density.cells) + rm_L_density.cells) + rm_L_density.cells) + rm_L_density.cells) ((((0 + rm_L_density.slots) + rm_L_density.slots) + rm_L_density.slots) + rm_L_density.slots) Q (F0 m 109 ls (.int v_25 :: [.int (nI (2 * b)), .int 7, .ref am])) := by
    intro v_25 H locs ev_25 hG
    obtain ⟨hn1, hn2⟩ := nbl_tab b (by omega) hb1 t ht
    obtain ⟨hr1, hr2⟩ := bN_r (t := t) hb1 hb2
    rw [← ev_25] at hn1
    refine lv_iadd hx hb dL_play_109 ?_
    rw [hn1]
    obtain ⟨b2, eb2⟩ : ∃ b2, b2 = bN t b := ⟨_, rfl⟩
    rw [← eb2] at hn2 hr1 hr2 ⊢
    refine g_iastN hE hG h_23 7 rfl (by decide) (by decide) dL_play_110 (fun H locs w_27 ew_27 hG => ?_)
    have h_28 : w_27 1000 = some (ac, .inl (tc 1, 15, .inr (.inl (vp_updL (vp_updL (vp_updL (vp_updL (vp_updL gc 10 ((gc 10) + ((nI (2 * b)).toInt64))) 11 ((gc 11) + ((nI (kk (4 * 0 + v))).toInt64))) 12 ((gc 12) + ((nI (kk (4 * 1 + v))).toInt64))) 13 ((gc 13) + ((nI (kk (4 * 2 + v))).toInt64))) 14 ((gc 14) + ((nI (kk (4 * 3 + v))).toInt64)))))) := gU_n ew_27 (by decide) h_24
    have h_29 : w_27 1001 = some (am, .inl (tc 0, 19, .inl (upd (upd gm 6 (nI ((pl % (4 * q)) + 1))) 7 (nI (2 * b2))))) := gU_s ew_27
    refine lv_aload_n hx hb dL_play_111 rfl (lv_at hl 2 rfl) ?_
    refine lv_bipush (v := 6) hx hb dL_play_112 (by decide) ?_
    refine g_ialdN hE hG h_29 6 rfl (by decide) (by decide) dL_play_114 ?_
    rw [show ((upd (upd gm 6 (nI ((pl % (4 * q)) + 1))) 7 (nI (2 * b2))) 6) = (nI ((pl % (4 * q)) + 1)) from ((pk_un (by omega)).trans pk_us)]
    refine lv_aload_n hx hb dL_play_115 rfl (lv_at hl 2 rfl) ?_
    refine lv_aload_n hx hb dL_play_116 rfl (lv_at hl 2 rfl) ?_
    refine lv_iconst (v := 5) hx hb dL_play_117 (by decide) ?_
    refine g_ialdN hE hG h_29 5 rfl (by decide) (by decide) dL_play_118 ?_
    rw [show ((upd (upd gm 6 (nI ((pl % (4 * q)) + 1))) 7 (nI (2 * b2))) 5) = (gm 5) from ((pk_un (by omega)).trans (pk_un (by omega)))]
    rw [hm5]
    refine g_ialdN hE hG h_29 i rfl (by omega) (by decide) dL_play_119 ?_
    rw [show ((upd (upd gm 6 (nI ((pl % (4 * q)) + 1))) 7 (nI (2 * b2))) i) = (gm i) from ((pk_un (by omega)).trans (pk_un (by omega)))]
    rw [hgi]
    refine lv_icmp_ne (tgt := 195) hx hb dL_play_120 (by decide) (fun c_30 => ?_) (fun c_30 => ?_)
    · skip
      have nc_30 : ¬ (((pl % (4 * q)) + 1) = (4 * q)) := fun h9 => c_30 ((nI_eq (a := ((pl % (4 * q)) + 1)) (b := (4 * q)) (by omega) (by omega)).mpr h9)
      have hL9 : mLen d = nI (4 * q) := by unfold mLen; rw [e3, nI_clamp (by omega), hlen]
      have hP9 : mPl d = nI (pl % (4 * q) + 1) := by unfold mPl; rw [hL9, e4]; exact npl_law hpl (by omega) (by omega)
      have hb9 : mBl d = nI (2 * b2) := by unfold mBl; rw [e8, e5]; exact hn2
      subst hQ
      exact g_vret hE hG hr (Nat.le_of_ble_eq_true rfl) (Nat.le_of_ble_eq_true rfl) dL_play_195 ⟨rfl, ⟨_, _, h_28, h_29, (rA_cg hRA (mB_o d (by decide)) (mB_o d (by decide)) (mB_o d (by decide)) (mB_o d (by decide)) (mB_s d (by decide)) (mB_s d (by decide)) (mB_s d (by decide)) (fun i hi => (pk_uLn (by omega)).trans ((pk_uLn (by omega)).trans ((pk_uLn (by omega)).trans ((pk_uLn (by omega)).trans (pk_uLn (by omega)))))) (fun i hi => (pk_un (by omega)).trans (pk_un (by omega)))), (play_n hRB hP9 hL9 hb9 (by omega) hr1 hr2 rfl rfl rfl rfl rfl rfl rfl rfl rfl rfl rfl), (play_cc hRT e5 e6 hv rfl (fun k hk => by match k, hk with | 0, _ => rfl | 1, _ => rfl | 2, _ => rfl | 3, _ => rfl)), (rU_cg hRU (mB_o d (by decide)) (mB_o d (by decide)) (mB_o d (by decide)) (mB_o d (by decide)) (mB_o d (by decide)) (fun k hk => (pk_uLn (by omega)).trans ((pk_uLn (by omega)).trans ((pk_uLn (by omega)).trans ((pk_uLn (by omega)).trans (pk_uLn (by omega)))))) (fun u hu => (pk_un (by omega)).trans (pk_un (by omega)))), ⟨fun s k hs hk => by rw [mB_o d (by decide)]; exact hRP.1 s k hs hk, fun s hs => by rw [mB_o d (by decide)]; exact hRP.2 s hs⟩⟩, (fun k k1 k2 => by rw [ew_27, gU_ne _ _ k2, ew_22, gU_ne _ _ k1, ew_18, gU_ne _ _ k1, ew_14, gU_ne _ _ k1, ew_10, gU_ne _ _ k1, ew_6, gU_ne _ _ k1, ew_3, gU_ne _ _ k2])⟩
    · skip
      have nc_30 : ((pl % (4 * q)) + 1) = (4 * q) := (nI_eq (a := ((pl % (4 * q)) + 1)) (b := (4 * q)) (by omega) (by omega)).mp c_30
      refine lv_aload_n hx hb dL_play_123 rfl (lv_at hl 2 rfl) ?_
      refine lv_bipush (v := 8) hx hb dL_play_124 (by decide) ?_
      refine lv_aload_n hx hb dL_play_126 rfl (lv_at hl 2 rfl) ?_
      refine lv_bipush (v := 7) hx hb dL_play_127 (by decide) ?_
      refine g_ialdN hE hG h_29 7 rfl (by decide) (by decide) dL_play_129 ?_
      rw [show ((upd (upd gm 6 (nI ((pl % (4 * q)) + 1))) 7 (nI (2 * b2))) 7) = (nI (2 * b2)) from pk_us]
      refine lv_sipush (v := 159) hx hb dL_play_130 (by decide) ?_
      have j_32 : ∀ (v_31 : Int32) (H : Heap) (locs : List Loc), v_31 = (if (nI (2 * b2)) ≤ 159 then (if (nI (2 * b2)) ≤ 79 then (if (nI (2 * b2)) ≤ 39 then 0 else 1 : Int32) else 2 : Int32) else 3 : Int32) → gS D A s.heap w_27 H locs → W p l e rm_L_play s m args below meth c H locs ((((0 + rm_L_density.cells) + rm_L_density.cells) + rm_L_density.cells) + rm_L_density.cells) ((((0 + rm_L_density.slots) + rm_L_density.slots) + rm_L_density.slots) + rm_L_density.slots) Q (F0 m 167 ls (.int v_31 :: [.int 8, .ref am])) := by
        intro v_31 H locs ev_31 hG
        obtain ⟨hl1, hl2⟩ := lvl_tab b2 (by omega) hr1
        rw [ev_31, hl1]
        refine g_iastN hE hG h_29 8 rfl (by decide) (by decide) dL_play_167 (fun H locs w_33 ew_33 hG => ?_)
        have h_34 : w_33 1000 = some (ac, .inl (tc 1, 15, .inr (.inl (vp_updL (vp_updL (vp_updL (vp_updL (vp_updL gc 10 ((gc 10) + ((nI (2 * b)).toInt64))) 11 ((gc 11) + ((nI (kk (4 * 0 + v))).toInt64))) 12 ((gc 12) + ((nI (kk (4 * 1 + v))).toInt64))) 13 ((gc 13) + ((nI (kk (4 * 2 + v))).toInt64))) 14 ((gc 14) + ((nI (kk (4 * 3 + v))).toInt64)))))) := gU_n ew_33 (by decide) h_28
        have h_35 : w_33 1001 = some (am, .inl (tc 0, 19, .inl (upd (upd (upd gm 6 (nI ((pl % (4 * q)) + 1))) 7 (nI (2 * b2))) 8 (nI (lN4 b2))))) := gU_s ew_33
        refine lv_aload_n hx hb dL_play_168 rfl (lv_at hl 2 rfl) ?_
        refine lv_bipush (v := 9) hx hb dL_play_169 (by decide) ?_
        refine lv_dup2_11 hx hb dL_play_171 rfl rfl ?_
        refine g_ialdN hE hG h_35 9 rfl (by decide) (by decide) dL_play_172 ?_
        rw [show ((upd (upd (upd gm 6 (nI ((pl % (4 * q)) + 1))) 7 (nI (2 * b2))) 8 (nI (lN4 b2))) 9) = (gm 9) from ((pk_un (by omega)).trans ((pk_un (by omega)).trans (pk_un (by omega))))]
        rw [hm9]
        refine lv_iconst (v := 1) hx hb dL_play_173 (by decide) ?_
        refine lv_iadd hx hb dL_play_174 ?_
        refine lv_topi (fun k_36 ek_36 => ?_)
        obtain rfl : k_36 = nI (g + 1) := ek_36.trans (nI_add g 1)
        refine g_iastN hE hG h_35 9 rfl (by decide) (by decide) dL_play_175 (fun H locs w_37 ew_37 hG => ?_)
        have h_38 : w_37 1000 = some (ac, .inl (tc 1, 15, .inr (.inl (vp_updL (vp_updL (vp_updL (vp_updL (vp_updL gc 10 ((gc 10) + ((nI (2 * b)).toInt64))) 11 ((gc 11) + ((nI (kk (4 * 0 + v))).toInt64))) 12 ((gc 12) + ((nI (kk (4 * 1 + v))).toInt64))) 13 ((gc 13) + ((nI (kk (4 * 2 + v))).toInt64))) 14 ((gc 14) + ((nI (kk (4 * 3 + v))).toInt64)))))) := gU_n ew_37 (by decide) h_34
        have h_39 : w_37 1001 = some (am, .inl (tc 0, 19, .inl (upd (upd (upd (upd gm 6 (nI ((pl % (4 * q)) + 1))) 7 (nI (2 * b2))) 8 (nI (lN4 b2))) 9 (nI (g + 1))))) := gU_s ew_37
        refine lv_aload_n hx hb dL_play_176 rfl (lv_at hl 2 rfl) ?_
        refine lv_iconst (v := 4) hx hb dL_play_177 (by decide) ?_
        refine lv_aload_n hx hb dL_play_178 rfl (lv_at hl 2 rfl) ?_
        refine lv_bipush (v := 11) hx hb dL_play_179 (by decide) ?_
        refine g_ialdN hE hG h_39 11 rfl (by decide) (by decide) dL_play_181 ?_
        rw [show ((upd (upd (upd (upd gm 6 (nI ((pl % (4 * q)) + 1))) 7 (nI (2 * b2))) 8 (nI (lN4 b2))) 9 (nI (g + 1))) 11) = (gm 11) from ((pk_un (by omega)).trans ((pk_un (by omega)).trans ((pk_un (by omega)).trans (pk_un (by omega)))))]
        rw [hm11]
        refine lv_aload_n hx hb dL_play_182 rfl (lv_at hl 2 rfl) ?_
        refine lv_bipush (v := 9) hx hb dL_play_183 (by decide) ?_
        refine g_ialdN hE hG h_39 9 rfl (by decide) (by decide) dL_play_185 ?_
        rw [show ((upd (upd (upd (upd gm 6 (nI ((pl % (4 * q)) + 1))) 7 (nI (2 * b2))) 8 (nI (lN4 b2))) 9 (nI (g + 1))) 9) = (nI (g + 1)) from pk_us]
        have j_41 : ∀ (v_40 : Int32) (H : Heap) (locs : List Loc), v_40 = (if (nI e9) = (nI (g + 1)) then 0 else 1 : Int32) → gS D A s.heap w_37 H locs → W p l e rm_L_play s m args below meth c H locs ((((0 + rm_L_density.cells) + rm_L_density.cells) + rm_L_density.cells) + rm_L_density.cells) ((((0 + rm_L_density.slots) + rm_L_density.slots) + rm_L_density.slots) + rm_L_density.slots) Q (F0 m 194 ls (.int v_40 :: [.int 4, .ref am])) := by
          intro v_40 H locs ev_40 hG
          refine g_iastN hE hG h_39 4 rfl (by decide) (by decide) dL_play_194 (fun H locs w_42 ew_42 hG => ?_)
          have h_43 : w_42 1000 = some (ac, .inl (tc 1, 15, .inr (.inl (vp_updL (vp_updL (vp_updL (vp_updL (vp_updL gc 10 ((gc 10) + ((nI (2 * b)).toInt64))) 11 ((gc 11) + ((nI (kk (4 * 0 + v))).toInt64))) 12 ((gc 12) + ((nI (kk (4 * 1 + v))).toInt64))) 13 ((gc 13) + ((nI (kk (4 * 2 + v))).toInt64))) 14 ((gc 14) + ((nI (kk (4 * 3 + v))).toInt64)))))) := gU_n ew_42 (by decide) h_38
          have h_44 : w_42 1001 = some (am, .inl (tc 0, 19, .inl (upd (upd (upd (upd (upd gm 6 (nI ((pl % (4 * q)) + 1))) 7 (nI (2 * b2))) 8 (nI (lN4 b2))) 9 (nI (g + 1))) 4 v_40))) := gU_s ew_42
          have hL9 : mLen d = nI (4 * q) := by unfold mLen; rw [e3, nI_clamp (by omega), hlen]
          have hP9 : mPl d = nI (pl % (4 * q) + 1) := by unfold mPl; rw [hL9, e4]; exact npl_law hpl (by omega) (by omega)
          have hb9 : mBl d = nI (2 * b2) := by unfold mBl; rw [e8, e5]; exact hn2
          subst hQ
          exact g_vret hE hG hr (Nat.le_of_ble_eq_true rfl) (Nat.le_of_ble_eq_true rfl) dL_play_195 ⟨rfl, ⟨_, _, h_43, h_44, (rA_cg hRA (mB_o d (by decide)) (mB_o d (by decide)) (mB_o d (by decide)) (mB_o d (by decide)) (mB_s d (by decide)) (mB_s d (by decide)) (mB_s d (by decide)) (fun i hi => (pk_uLn (by omega)).trans ((pk_uLn (by omega)).trans ((pk_uLn (by omega)).trans ((pk_uLn (by omega)).trans (pk_uLn (by omega)))))) (fun i hi => (pk_un (by omega)).trans ((pk_un (by omega)).trans ((pk_un (by omega)).trans ((pk_un (by omega)).trans (pk_un (by omega))))))), (play_g hRB e7 ee (by omega) (by omega) hP9 hL9 hb9 (by omega) hr1 hr2 hl2 (lN4_r b2) rfl rfl rfl rfl rfl rfl ev_40 rfl rfl rfl rfl rfl), (play_cc hRT e5 e6 hv rfl (fun k hk => by match k, hk with | 0, _ => rfl | 1, _ => rfl | 2, _ => rfl | 3, _ => rfl)), (rU_cg hRU (mB_o d (by decide)) (mB_o d (by decide)) (mB_o d (by decide)) (mB_o d (by decide)) (mB_o d (by decide)) (fun k hk => (pk_uLn (by omega)).trans ((pk_uLn (by omega)).trans ((pk_uLn (by omega)).trans ((pk_uLn (by omega)).trans (pk_uLn (by omega)))))) (fun u hu => (pk_un (by omega)).trans ((pk_un (by omega)).trans ((pk_un (by omega)).trans ((pk_un (by omega)).trans (pk_un (by omega))))))), ⟨fun s k hs hk => by rw [mB_o d (by decide)]; exact hRP.1 s k hs hk, fun s hs => by rw [mB_o d (by decide)]; exact hRP.2 s hs⟩⟩, (fun k k1 k2 => by rw [ew_42, gU_ne _ _ k2, ew_37, gU_ne _ _ k2, ew_33, gU_ne _ _ k2, ew_27, gU_ne _ _ k2, ew_22, gU_ne _ _ k1, ew_18, gU_ne _ _ k1, ew_14, gU_ne _ _ k1, ew_10, gU_ne _ _ k1, ew_6, gU_ne _ _ k1, ew_3, gU_ne _ _ k2])⟩
        refine lv_icmp_ne (tgt := 193) hx hb dL_play_186 (by decide) (fun c_45 => ?_) (fun c_45 => ?_)
        · skip
          refine lv_iconst (v := 1) hx hb dL_play_193 (by decide) ?_
          exact j_41 _ _ _ (by rw [if_neg c_45]) hG
        · skip
          refine lv_iconst (v := 0) hx hb dL_play_189 (by decide) ?_
          refine lv_goto (tgt := 194) hx hb dL_play_190 (by decide) ?_
          exact j_41 _ _ _ (by rw [if_pos c_45]) hG
      refine lv_icmp_le (tgt := 140) hx hb dL_play_133 (by decide) (fun c_46 => ?_) (fun c_46 => ?_)
      · skip
        refine lv_aload_n hx hb dL_play_140 rfl (lv_at hl 2 rfl) ?_
        refine lv_bipush (v := 7) hx hb dL_play_141 (by decide) ?_
        refine g_ialdN hE hG h_29 7 rfl (by decide) (by decide) dL_play_143 ?_
        rw [show ((upd (upd gm 6 (nI ((pl % (4 * q)) + 1))) 7 (nI (2 * b2))) 7) = (nI (2 * b2)) from pk_us]
        refine lv_bipush (v := 79) hx hb dL_play_144 (by decide) ?_
        refine lv_icmp_le (tgt := 153) hx hb dL_play_146 (by decide) (fun c_47 => ?_) (fun c_47 => ?_)
        · skip
          have nc_47 : (2 * b2) ≤ 79 := (nI_leI (a := (2 * b2)) (b := 79) (by omega) (by omega)).mp c_47
          refine lv_aload_n hx hb dL_play_153 rfl (lv_at hl 2 rfl) ?_
          refine lv_bipush (v := 7) hx hb dL_play_154 (by decide) ?_
          refine g_ialdN hE hG h_29 7 rfl (by decide) (by decide) dL_play_156 ?_
          rw [show ((upd (upd gm 6 (nI ((pl % (4 * q)) + 1))) 7 (nI (2 * b2))) 7) = (nI (2 * b2)) from pk_us]
          refine lv_bipush (v := 39) hx hb dL_play_157 (by decide) ?_
          refine lv_icmp_le (tgt := 166) hx hb dL_play_159 (by decide) (fun c_48 => ?_) (fun c_48 => ?_)
          · skip
            have nc_48 : (2 * b2) ≤ 39 := (nI_leI (a := (2 * b2)) (b := 39) (by omega) (by omega)).mp c_48
            refine lv_iconst (v := 0) hx hb dL_play_166 (by decide) ?_
            exact j_32 _ _ _ (by rw [if_pos c_46, if_pos c_47, if_pos c_48]) hG
          · skip
            have nc_48 : ¬ ((2 * b2) ≤ 39) := fun h9 => c_48 ((nI_leI (a := (2 * b2)) (b := 39) (by omega) (by omega)).mpr h9)
            refine lv_iconst (v := 1) hx hb dL_play_162 (by decide) ?_
            refine lv_goto (tgt := 167) hx hb dL_play_163 (by decide) ?_
            exact j_32 _ _ _ (by rw [if_pos c_46, if_pos c_47, if_neg c_48]) hG
        · skip
          have nc_47 : ¬ ((2 * b2) ≤ 79) := fun h9 => c_47 ((nI_leI (a := (2 * b2)) (b := 79) (by omega) (by omega)).mpr h9)
          refine lv_iconst (v := 2) hx hb dL_play_149 (by decide) ?_
          refine lv_goto (tgt := 167) hx hb dL_play_150 (by decide) ?_
          exact j_32 _ _ _ (by rw [if_pos c_46, if_neg c_47]) hG
      · skip
        refine lv_iconst (v := 3) hx hb dL_play_136 (by decide) ?_
        refine lv_goto (tgt := 167) hx hb dL_play_137 (by decide) ?_
        exact j_32 _ _ _ (by rw [if_neg c_46]) hG
  refine lv_icmp_ne (tgt := 86) hx hb dL_play_69 (by decide) (fun c_49 => ?_) (fun c_49 => ?_)
  · skip
    refine lv_aload_n hx hb dL_play_86 rfl (lv_at hl 2 rfl) ?_
    refine lv_bipush (v := 10) hx hb dL_play_87 (by decide) ?_
    refine g_ialdN hE hG h_23 10 rfl (by decide) (by decide) dL_play_89 ?_
    rw [show ((upd gm 6 (nI ((pl % (4 * q)) + 1))) 10) = (gm 10) from (pk_un (by omega))]
    rw [hm10]
    refine lv_iconst (v := 2) hx hb dL_play_90 (by decide) ?_
    refine lv_icmp_ne (tgt := 108) hx hb dL_play_91 (by decide) (fun c_50 => ?_) (fun c_50 => ?_)
    · skip
      have nc_50 : ¬ (t = 2) := fun h9 => c_50 ((nI_eq (a := t) (b := 2) (by omega) (by omega)).mpr h9)
      refine lv_iconst (v := 0) hx hb dL_play_108 (by decide) ?_
      exact j_26 _ _ _ (by rw [if_neg c_49, if_neg c_50]) hG
    · skip
      have nc_50 : t = 2 := (nI_eq (a := t) (b := 2) (by omega) (by omega)).mp c_50
      refine lv_aload_n hx hb dL_play_94 rfl (lv_at hl 2 rfl) ?_
      refine lv_bipush (v := 7) hx hb dL_play_95 (by decide) ?_
      refine g_ialdN hE hG h_23 7 rfl (by decide) (by decide) dL_play_97 ?_
      rw [show ((upd gm 6 (nI ((pl % (4 * q)) + 1))) 7) = (gm 7) from (pk_un (by omega))]
      rw [hm7]
      refine lv_bipush (v := 10) hx hb dL_play_98 (by decide) ?_
      refine lv_icmp_le (tgt := 108) hx hb dL_play_100 (by decide) (fun c_51 => ?_) (fun c_51 => ?_)
      · skip
        have nc_51 : (2 * b) ≤ 10 := (nI_leI (a := (2 * b)) (b := 10) (by omega) (by omega)).mp c_51
        refine lv_iconst (v := 0) hx hb dL_play_108 (by decide) ?_
        exact j_26 _ _ _ (by rw [if_neg c_49, if_pos c_50, if_pos c_51]) hG
      · skip
        have nc_51 : ¬ ((2 * b) ≤ 10) := fun h9 => c_51 ((nI_leI (a := (2 * b)) (b := 10) (by omega) (by omega)).mpr h9)
        refine lv_bipush (v := (-2)) hx hb dL_play_103 (by decide) ?_
        refine lv_goto (tgt := 109) hx hb dL_play_105 (by decide) ?_
        exact j_26 _ _ _ (by rw [if_neg c_49, if_pos c_50, if_neg c_51]) hG
  · skip
    refine lv_aload_n hx hb dL_play_72 rfl (lv_at hl 2 rfl) ?_
    refine lv_bipush (v := 7) hx hb dL_play_73 (by decide) ?_
    refine g_ialdN hE hG h_23 7 rfl (by decide) (by decide) dL_play_75 ?_
    rw [show ((upd gm 6 (nI ((pl % (4 * q)) + 1))) 7) = (gm 7) from (pk_un (by omega))]
    rw [hm7]
    refine lv_sipush (v := 160) hx hb dL_play_76 (by decide) ?_
    refine lv_icmp_ge (tgt := 86) hx hb dL_play_79 (by decide) (fun c_52 => ?_) (fun c_52 => ?_)
    · skip
      have nc_52 : 160 ≤ (2 * b) := (nI_leI (a := 160) (b := (2 * b)) (by omega) (by omega)).mp c_52
      refine lv_aload_n hx hb dL_play_86 rfl (lv_at hl 2 rfl) ?_
      refine lv_bipush (v := 10) hx hb dL_play_87 (by decide) ?_
      refine g_ialdN hE hG h_23 10 rfl (by decide) (by decide) dL_play_89 ?_
      rw [show ((upd gm 6 (nI ((pl % (4 * q)) + 1))) 10) = (gm 10) from (pk_un (by omega))]
      rw [hm10]
      refine lv_iconst (v := 2) hx hb dL_play_90 (by decide) ?_
      refine lv_icmp_ne (tgt := 108) hx hb dL_play_91 (by decide) (fun c_53 => ?_) (fun c_53 => ?_)
      · skip
        have nc_53 : ¬ (t = 2) := fun h9 => c_53 ((nI_eq (a := t) (b := 2) (by omega) (by omega)).mpr h9)
        refine lv_iconst (v := 0) hx hb dL_play_108 (by decide) ?_
        exact j_26 _ _ _ (by rw [if_pos c_49, if_pos c_52, if_neg c_53]) hG
      · skip
        have nc_53 : t = 2 := (nI_eq (a := t) (b := 2) (by omega) (by omega)).mp c_53
        refine lv_aload_n hx hb dL_play_94 rfl (lv_at hl 2 rfl) ?_
        refine lv_bipush (v := 7) hx hb dL_play_95 (by decide) ?_
        refine g_ialdN hE hG h_23 7 rfl (by decide) (by decide) dL_play_97 ?_
        rw [show ((upd gm 6 (nI ((pl % (4 * q)) + 1))) 7) = (gm 7) from (pk_un (by omega))]
        rw [hm7]
        refine lv_bipush (v := 10) hx hb dL_play_98 (by decide) ?_
        refine lv_icmp_le (tgt := 108) hx hb dL_play_100 (by decide) (fun c_54 => ?_) (fun c_54 => ?_)
        · skip
          have nc_54 : (2 * b) ≤ 10 := (nI_leI (a := (2 * b)) (b := 10) (by omega) (by omega)).mp c_54
          refine lv_iconst (v := 0) hx hb dL_play_108 (by decide) ?_
          exact j_26 _ _ _ (by rw [if_pos c_49, if_pos c_52, if_pos c_53, if_pos c_54]) hG
        · skip
          have nc_54 : ¬ ((2 * b) ≤ 10) := fun h9 => c_54 ((nI_leI (a := (2 * b)) (b := 10) (by omega) (by omega)).mpr h9)
          refine lv_bipush (v := (-2)) hx hb dL_play_103 (by decide) ?_
          refine lv_goto (tgt := 109) hx hb dL_play_105 (by decide) ?_
          exact j_26 _ _ _ (by rw [if_pos c_49, if_pos c_52, if_pos c_53, if_neg c_54]) hG
    · skip
      have nc_52 : ¬ (160 ≤ (2 * b)) := fun h9 => c_52 ((nI_leI (a := 160) (b := (2 * b)) (by omega) (by omega)).mpr h9)
      refine lv_iconst (v := 2) hx hb dL_play_82 (by decide) ?_
      refine lv_goto (tgt := 109) hx hb dL_play_83 (by decide) ?_
      exact j_26 _ _ _ (by rw [if_pos c_49, if_neg c_52]) hG
