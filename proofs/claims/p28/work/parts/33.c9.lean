/-! GongCycles: drum, beats -/
/-- what is known of what is played; B: gongs at most -/
def jP (d : gDt) (B : Nat) : Prop := ¬ d 9 2 = 0 → d 9 2 = 1 ∧ (∃ i p g : Nat, i < nP d ∧ d 9 3 = nI i ∧ d 9 4 = nI p ∧ p ≤ lenN d i ∧ d 9 7 = nI g ∧ g ≤ B) ∧ (d 9 8 = 0 ∨ d 9 8 = 1 ∨ d 9 8 = 2) ∧ ∃ b : Nat, 10 ≤ b ∧ b ≤ 160 ∧ d 9 5 = nI b
theorem nI_sub {a b : Nat} (h : b ≤ a) (ha : a < 2 ^ 31) : nI a - nI b = nI (a - b) := by
  obtain ⟨c, rfl⟩ : ∃ c, a = c + b := ⟨a - b, by omega⟩
  rw [← nI_add, Int32.add_sub_cancel, Nat.add_sub_cancel]
theorem sub_go {x y z : Int32} (h : z = x - y) : x = z + y := by rw [h, Int32.sub_add_cancel]
theorem two_mul_nI (p : Nat) : (2 : Int32) * nI p = nI (2 * p) := by rw [show (2 : Int32) = nI 2 from rfl, pk_mul]
theorem cE_end {d : gDt} {cy ge : Int32} {B : Nat} (hOk : mOk d) (hB : B ≤ 2 ^ 28) (hj : jP d B) (hg : ¬ d 9 2 = 0) (hce : cE d ge) (hcy : cY d cy) : cE (gD d 9 (upd (d 9) 9 (if d 9 9 ≤ 0 then (if nI (lenN d (d 9 3).toNatClampNeg) < 2 * d 9 4 then d 9 7 + 2 else d 9 7 + 1) else d 9 9))) (f_hge cy (d 9 4) ge) := by
  intro _
  obtain ⟨-, ⟨i, p, g, hi, h3, h4, hp, h7, hgB⟩, -, -⟩ := hj hg
  obtain ⟨j, hj, e3, ecy⟩ := hcy hg
  have b1 := hOk.1.2.1
  obtain ⟨-, hL4, hL64, hLm⟩ := mOk_len hOk hi
  have hij : j = i := (nI_eq (by omega) (by omega)).mp (e3.symm.trans h3)
  subst hij
  have hL : lenN d (d 9 3).toNatClampNeg = lenN d j := by rw [h3, nI_clamp (by omega)]
  show ((if d 9 9 ≤ 0 then (if nI (lenN d (d 9 3).toNatClampNeg) < 2 * d 9 4 then d 9 7 + 2 else d 9 7 + 1) else d 9 9) = 0 ∧ f_hge cy (d 9 4) ge = 0) ∨ (¬ (if d 9 9 ≤ 0 then (if nI (lenN d (d 9 3).toNatClampNeg) < 2 * d 9 4 then d 9 7 + 2 else d 9 7 + 1) else d 9 9) = 0 ∧ f_hge cy (d 9 4) ge = (if d 9 9 ≤ 0 then (if nI (lenN d (d 9 3).toNatClampNeg) < 2 * d 9 4 then d 9 7 + 2 else d 9 7 + 1) else d 9 9) - d 9 7 ∧ (f_hge cy (d 9 4) ge = 1 ∨ f_hge cy (d 9 4) ge = 2))
  rw [hL, h4, h7, ecy, two_mul_nI]
  refine Or.inr ?_
  unfold f_hge
  rw [show nI (lenN d j) / 2 = nI (lenN d j / 2) from pk_div (d := 2) (by omega) (by decide) (by decide)]
  rcases hce hg with ⟨e9, eg⟩ | ⟨e9, eg, e12⟩
  · rw [e9, eg, if_pos (by decide), if_pos rfl]
    by_cases hc : lenN d j < 2 * p
    · rw [if_pos ((nI_ltI (by omega) (by omega)).mpr hc), if_pos ((nI_ltI (by omega) (by omega)).mpr (by omega))]
      refine ⟨?_, ?_, Or.inr rfl⟩
      · rw [show (2 : Int32) = nI 2 from rfl, nI_add]
        exact nI_ne0 (by omega) (by omega)
      · rw [Int32.add_comm, Int32.add_sub_cancel]
    · rw [if_neg (fun h => hc ((nI_ltI (by omega) (by omega)).mp h)), if_neg (fun h => hc (by have := (nI_ltI (by omega) (by omega)).mp h; omega))]
      refine ⟨?_, ?_, Or.inl rfl⟩
      · rw [show (1 : Int32) = nI 1 from rfl, nI_add]
        exact nI_ne0 (by omega) (by omega)
      · rw [Int32.add_comm, Int32.add_sub_cancel]
  · have hge : ¬ ge = 0 := by rcases e12 with e | e <;> (rw [e]; decide)
    have h9 : ∃ q : Nat, 1 ≤ q ∧ q ≤ 2 ^ 29 ∧ d 9 9 = nI q := by
      have := sub_go eg
      rw [h7] at this
      rcases e12 with e | e
      · rw [e, show (1 : Int32) = nI 1 from rfl, nI_add] at this; exact ⟨1 + g, by omega, by omega, this⟩
      · rw [e, show (2 : Int32) = nI 2 from rfl, nI_add] at this; exact ⟨2 + g, by omega, by omega, this⟩
    obtain ⟨q, hq1, hq2, e9q⟩ := h9
    have hn : ¬ d 9 9 ≤ 0 := by rw [e9q]; exact nI_not_le0 hq1 (by omega)
    rw [if_neg hn, if_neg hge]
    rw [h7] at eg
    exact ⟨e9, eg, e12⟩
theorem cW_drum {tc : Nat → ClassId} {w w' : gW} {ca : Nat → Nat} {d : gDt} {tk : Int64} {st sf : Nat → Int64} {x cy ge : Int32} {B : Nat} (hC : cW tc w ca d tk st) (hOk : mOk d) (hB : B ≤ 2 ^ 28) (hj : jP d B) (hg : ¬ d 9 2 = 0) (z4 : w 4 = some ((ca 4), .inl (tc 1, 4, .inr (.inl sf)))) (hsf : ∀ j, j < 4 → sf j = st j) (hce : cE d ge) (hcy : cY d cy) (ew : w' = gU w 3 (ca 3, .inr (4, [.int (d 9 3), .int cy, .int (d 9 4), .int (d 9 5), .int (d 9 6), .int (d 9 7), .int (f_htp (d 9 8) x), .int (f_hgo (d 9 2) x), .int (f_hhe cy (d 9 4) ge x), .long tk, .ref (ca 4)]))) : cW tc w' ca (m_drum d x) tk st := by
  have hw : ∀ k, 10 ≤ k → k < 1000 → w' k = w k := fun k h1 h2 => gU_at ew (by omega)
  obtain ⟨⟨z0, z1, z2, z5, z6⟩, -⟩ := id hC
  have y0 := (gU_at ew (by decide)).trans z0
  have y1 := (gU_at ew (by decide)).trans z1
  have y2 := (gU_at ew (by decide)).trans z2
  have y5 := (gU_at ew (by decide)).trans z5
  have y6 := (gU_at ew (by decide)).trans z6
  have y4 := (gU_at ew (by decide)).trans z4
  have y3 := gU_s ew
  unfold m_drum
  by_cases h4 : x = 4
  · have h3 : ¬ x = 3 := by rw [h4]; decide
    rw [if_pos h4]
    have e1 : f_htp (d 9 8) x = d 9 8 := by unfold f_htp; rw [if_neg h3, if_pos h4]
    have e2 : f_hgo (d 9 2) x = 0 := by unfold f_hgo; rw [if_neg h3, if_pos h4]
    have e3 : f_hhe cy (d 9 4) ge x = ge := by unfold f_hhe; rw [if_neg h3]
    rw [e1, e2, e3] at y3
    exact cW_hd hC hw rfl rfl (fun _ _ => rfl) rfl rfl rfl rfl rfl rfl rfl y0 y1 y2 y5 y6 ⟨cy, ge, sf, y3, y4, hsf, (fun h => absurd rfl h), (fun h => absurd rfl h)⟩ hOk
  · rw [if_neg h4]
    by_cases h3 : x = 3
    · rw [if_pos h3]
      have e1 : f_htp (d 9 8) x = d 9 8 := by unfold f_htp; rw [if_pos h3]
      have e2 : f_hgo (d 9 2) x = d 9 2 := by unfold f_hgo; rw [if_pos h3]
      have e3 : f_hhe cy (d 9 4) ge x = f_hge cy (d 9 4) ge := by unfold f_hhe; rw [if_pos h3]
      rw [e1, e2, e3] at y3
      exact cW_hd hC hw rfl rfl (fun _ _ => rfl) rfl rfl rfl rfl rfl rfl rfl y0 y1 y2 y5 y6 ⟨cy, f_hge cy (d 9 4) ge, sf, y3, y4, hsf, cE_end hOk hB hj hg hce hcy, cY_fr hcy rfl rfl rfl (fun _ _ => rfl)⟩ hOk
    · rw [if_neg h3]
      have e1 : f_htp (d 9 8) x = x := by unfold f_htp; rw [if_neg h3, if_neg h4]
      have e2 : f_hgo (d 9 2) x = d 9 2 := by unfold f_hgo; rw [if_neg h3, if_neg h4]
      have e3 : f_hhe cy (d 9 4) ge x = ge := by unfold f_hhe; rw [if_neg h3]
      rw [e1, e2, e3] at y3
      exact cW_hd hC hw rfl rfl (fun _ _ => rfl) rfl rfl rfl rfl rfl rfl rfl y0 y1 y2 y5 y6 ⟨cy, ge, sf, y3, y4, hsf, hce, cY_fr hcy rfl rfl rfl (fun _ _ => rfl)⟩ hOk
abbrev rm_X5_drum : Room := { frames := 7, cells := 8, slots := 48, locals := 266 }
theorem nm_X5_drum : gNm yX5_drum 1 := ⟨by decide +kernel, by decide +kernel, by decide +kernel⟩
set_option maxHeartbeats 4000000 in
set_option maxRecDepth 100000 in
theorem c_X5_drum (l : Launch) (hfl : l.stackTraces = false) (D : va_G) (tc : Nat → ClassId) (A : Nat → Prop) (w : gW) (ca : Nat → Nat) (d : gDt) (tk : Int64) (st : Nat → Int64) (x : Int32) (B : Nat) (hC : cW tc w ca d tk st) (hOk : mOk d) (hB : B ≤ 60000) (hj : jP d B) : gM l yX5_drum cX5_drum 2 (some .int) rm_X5_drum D tc A [.ref (ca 0), .int x] w (fun v w' => ¬ m_go (ga_drum d x) (gb_drum d x) (gc_drum d x) = 0 ∧ v = some (.int (d 9 4)) ∧ (∃ ca' : Nat → Nat, ca' 0 = ca 0 ∧ cW tc w' ca' (sL (m_drum d x) 0) tk st) ∧ gK w w') (c_thr gIA gIS gIS (ga_drum d x) (gb_drum d x) (gc_drum d x)) := by
  refine gM_of (by decide +kernel) (Nat.le_of_ble_eq_true rfl) ?_
  intro p e s m args below meth c ls Q hQ hE hG hr hnt hnm hl
  have hx := hE.1
  have hb := hE.2.1
  have hl : lv_has ls 2 [(0, .ref (ca 0)), (1, .int x)] := hl
  obtain ⟨⟨z0, z1, z2, z5, z6⟩, ⟨cy, ge, sf, z3, z4, hsf, hce, hcy⟩, zP, zS, zU, zV, zN⟩ := id hC
  refine lv_iload_n hx hb dX5_drum_0 rfl (lv_at hl 1 rfl) ?_
  refine lv_if_lt (tgt := 9) hx hb dX5_drum_1 (by decide) (fun c_1 => ?_) (fun c_1 => ?_)
  · skip
    subst hQ
    exact g_thr (E := gIA) hfl hE hG hl.1 hnt gTgIA (List.mem_of_getElem? (i := 7) rfl) dX5_drum_9 dX5_drum_12 dX5_drum_13 dX5_drum_15 dX5_drum_18 (by refine ⟨?_, ?_, ?_, ?_, ?_, ?_⟩ <;> exact Nat.le_of_ble_eq_true rfl) rfl (Or.inl ⟨rng_lo c_1, rfl⟩)
  · skip
    refine lv_iload_n hx hb dX5_drum_4 rfl (lv_at hl 1 rfl) ?_
    refine lv_iconst (v := 4) hx hb dX5_drum_5 (by decide) ?_
    refine lv_icmp_le (tgt := 19) hx hb dX5_drum_6 (by decide) (fun c_2 => ?_) (fun c_2 => ?_)
    · skip
      refine lv_aload_n hx hb dX5_drum_19 rfl (lv_at hl 0 rfl) ?_
      refine g_callV (rest := []) (As := []) hE hG hl.1 (c_X5_refuseSilence l hfl D tc A w ca d tk st  hC hOk) z0 rfl mw2_133 mw2_135 mws_3 mw1_1 mw2_136 rfl nm_X5_refuseSilence ⟨⟨Nat.le_of_ble_eq_true rfl, Nat.le_of_ble_eq_true rfl⟩, Nat.le_of_ble_eq_true rfl, Nat.le_of_ble_eq_true rfl⟩ rfl rfl (Nat.le_of_ble_eq_true rfl) dX5_drum_20 (by subst hQ; exact g_out hE hnt rfl (fun E h => Or.inr (Or.inl ⟨f_in_ok c_1 (Int32.not_lt.mpr c_2), h.1, h.2⟩)) (Nat.le_of_ble_eq_true rfl) (Nat.le_of_ble_eq_true rfl)) ?_
      intro v9 w9 H locs h9 hG
      obtain ⟨e8, e9, r_3⟩ := h9
      rw [e9]; clear e9
      rw [e8] at hG; clear e8
      show W p l e _ s m args below meth c H locs _ _ _ (F0 m 23 ls [])
      refine lv_aload_n hx hb dX5_drum_23 rfl (lv_at hl 0 rfl) ?_
      refine g_get hE hG z0 rfl inG5 4 (by decide) mw1_105 rfl dX5_drum_24 ?_
      refine lv_iload_n hx hb dX5_drum_27 rfl (lv_at hl 1 rfl) ?_
      refine g_callV (rest := []) (As := [.int x]) hE hG hl.1 (c_X4_hearDrum l hfl D tc A w 3 (ca 3) (ca 4) (d 9 3) cy (d 9 4) (d 9 5) (d 9 6) (d 9 7) (d 9 8) (d 9 2) ge tk x z3 ) z3 rfl mw2_138 mw2_139 mw2_140 mw1_2 mw2_141 rfl nm_X4_hearDrum ⟨⟨Nat.le_of_ble_eq_true rfl, Nat.le_of_ble_eq_true rfl⟩, Nat.le_of_ble_eq_true rfl, Nat.le_of_ble_eq_true rfl⟩ rfl rfl (Nat.le_of_ble_eq_true rfl) dX5_drum_28 (g_no) ?_
      intro v9 w9 H locs h9 hG
      obtain ⟨e9, ew_4⟩ := h9
      rw [e9]; clear e9; revert w9; intro w_4 hG ew_4
      show W p l e _ s m args below meth c H locs _ _ _ (F0 m 31 ls [])
      have h_5 : w_4 0 = some ((ca 0), .inr (5, [.ref (ca 1), .int (d 9 0), .ref (ca 2), .int (d 9 1), .ref (ca 3), .int (d 9 10), .int (d 9 11), .ref (ca 5), .int (d 9 12), .ref (ca 6), .int (d 9 13)])) := gU_n ew_4 (by decide) z0
      have h_6 : w_4 1 = some ((ca 1), .inl (tc 0, 4, .inl (d 0))) := gU_n ew_4 (by decide) z1
      have h_7 : w_4 2 = some ((ca 2), .inl (tc 3, 6, .inr (.inr (.inr (.inr (c_pf ca (nP d))))))) := gU_n ew_4 (by decide) z2
      have h_8 : w_4 5 = some ((ca 5), .inl (tc 4, 4, .inr (.inr (.inr (.inr (c_sf ca)))))) := gU_n ew_4 (by decide) z5
      have h_9 : w_4 6 = some ((ca 6), .inl (tc 5, 8, .inr (.inr (.inr (.inr (c_uf ca (nU d))))))) := gU_n ew_4 (by decide) z6
      have h_10 : w_4 4 = some ((ca 4), .inl (tc 1, 4, .inr (.inl sf))) := gU_n ew_4 (by decide) z4
      have h_11 : w_4 3 = some ((ca 3), .inr (4, [.int (d 9 3), .int cy, .int (d 9 4), .int (d 9 5), .int (d 9 6), .int (d 9 7), .int (f_htp (d 9 8) x), .int (f_hgo (d 9 2) x), .int (f_hhe cy (d 9 4) ge x), .long tk, .ref (ca 4)])) := gU_s ew_4
      refine lv_aload_n hx hb dX5_drum_31 rfl (lv_at hl 0 rfl) ?_
      refine g_get hE hG h_5 rfl inG5 4 (by decide) mw1_105 rfl dX5_drum_32 ?_
      refine g_getN hE hG h_11 rfl inG4 2 (by decide) (List.mem_of_getElem? (i := 1) rfl) rfl dX5_drum_35 ?_
      subst hQ
      exact g_iret hE hG hr (Nat.le_of_ble_eq_true rfl) (Nat.le_of_ble_eq_true rfl) dX5_drum_38 ⟨m_go_i (f_in_ok c_1 (Int32.not_lt.mpr c_2)) r_3 one_nz, rfl, ⟨ca, rfl, cW_l (cW_drum hC hOk (by omega) hj r_3 z4 hsf hce hcy ew_4) 0⟩, gK_u (gK_rf w) ew_4 (by omega)⟩
    · skip
      subst hQ
      exact g_thr (E := gIA) hfl hE hG hl.1 hnt gTgIA (List.mem_of_getElem? (i := 7) rfl) dX5_drum_9 dX5_drum_12 dX5_drum_13 dX5_drum_15 dX5_drum_18 (by refine ⟨?_, ?_, ?_, ?_, ?_, ?_⟩ <;> exact Nat.le_of_ble_eq_true rfl) rfl (Or.inl ⟨rng_hi (Int32.not_le.mp c_2), rfl⟩)
theorem npl_eq {p n : Nat} (hp : p ≤ n) (hn : n ≤ 64) : f_npl (nI n) (nI p) = m_npl (nI n) (nI p) := by
  unfold f_npl m_npl
  by_cases h : p = n
  · subst h
    rw [if_pos (Int32.le_refl _), if_pos rfl]
  · rw [if_neg (fun g => h (by have := (nI_leI (by omega) (by omega)).mp g; omega)), if_neg (fun g => h ((nI_eq (by omega) (by omega)).mp g))]
theorem npl_n {p n : Nat} (hp : p ≤ n) (hn : n ≤ 64) (h4 : 4 ≤ n) : ∃ q, q ≤ n ∧ m_npl (nI n) (nI p) = nI q := by
  unfold m_npl
  by_cases h : p = n
  · subst h
    rw [if_pos rfl]
    exact ⟨1, by omega, rfl⟩
  · rw [if_neg (fun g => h ((nI_eq (by omega) (by omega)).mp g))]
    exact ⟨p + 1, by omega, nI_1 p⟩
theorem nbl_eq {t : Int32} {b : Nat} (ht : t = 0 ∨ t = 1 ∨ t = 2) (h1 : 10 ≤ b) (h2 : b ≤ 160) : f_nbl t (nI b) = m_nbl t (nI b) ∧ ∃ q, 10 ≤ q ∧ q ≤ 160 ∧ m_nbl t (nI b) = nI q := by
  have e2 : nI b + 2 = nI (b + 2) := by rw [show (2 : Int32) = nI 2 from rfl, nI_add]
  have e3 : nI b - 2 = nI (b - 2) := nI_sub (a := b) (b := 2) (by omega) (by omega)
  have e4 : nI b + -2 = nI (b - 2) := by rw [← e3]; exact (Int32.sub_eq_add_neg _ _).symm
  have k160 : (160 : Int32) = nI 160 := rfl
  have k10 : (10 : Int32) = nI 10 := rfl
  rcases ht with rfl | rfl | rfl
  · unfold f_nbl m_nbl
    simp only [show ¬ (0 : Int32) = 1 by decide, show ¬ (0 : Int32) = 2 by decide, if_false, if_true, Int32.add_zero]
    rw [k160, k10, if_pos ((nI_leI (by omega) (by omega)).mpr h2), if_pos ((nI_leI (by omega) (by omega)).mpr h1)]
    exact ⟨rfl, b, h1, h2, rfl⟩
  · unfold f_nbl m_nbl
    simp only [show ¬ (1 : Int32) = 0 by decide, if_false, if_true]
    rw [e2, k160, k10]
    by_cases h : b + 2 ≤ 160
    · rw [if_neg (fun g => by have := (nI_ltI (by omega) (by omega)).mp g; omega), if_pos ((nI_leI (by omega) (by omega)).mpr h), if_pos ((nI_leI (by omega) (by omega)).mpr (by omega))]
      exact ⟨rfl, b + 2, by omega, h, rfl⟩
    · rw [if_pos ((nI_ltI (by omega) (by omega)).mpr (by omega)), if_neg (fun g => h ((nI_leI (by omega) (by omega)).mp g))]
      exact ⟨rfl, 160, by omega, by omega, rfl⟩
  · unfold f_nbl m_nbl
    simp only [show ¬ (2 : Int32) = 1 by decide, show ¬ (2 : Int32) = 0 by decide, if_false, if_true]
    rw [e4, e3, k160, k10]
    rw [if_pos ((nI_leI (by omega) (by omega)).mpr (show b - 2 ≤ 160 by omega))]
    by_cases h : 10 ≤ b - 2
    · rw [if_neg (fun g => by have := (nI_ltI (by omega) (by omega)).mp g; omega), if_pos ((nI_leI (by omega) (by omega)).mpr h)]
      exact ⟨rfl, b - 2, h, by omega, rfl⟩
    · rw [if_pos ((nI_ltI (by omega) (by omega)).mpr (by omega)), if_neg (fun g => h ((nI_leI (by omega) (by omega)).mp g))]
      exact ⟨rfl, 10, by omega, by omega, rfl⟩
theorem den_eq {j : Nat} {b : Int32} (hj : j < 4) : f_den (nI j) b = m_den (nI j) b := by
  rcases (show j = 0 ∨ j = 1 ∨ j = 2 ∨ j = 3 by omega) with rfl | rfl | rfl | rfl <;> rfl
theorem sts_fm {lv : Int32} {sf st : Nat → Int64} (h : ∀ j, j < 4 → sf j = st j) : ∀ j, j < 4 → f_sts lv sf j = m_sts lv st j := by
  intro j hj
  unfold f_sts m_sts
  rw [if_pos hj, if_pos hj, h j hj, den_eq hj]
theorem cW_beat {tc : Nat → ClassId} {w w' : gW} {ca : Nat → Nat} {d : gDt} {tk : Int64} {st sf : Nat → Int64} {cy ge : Int32} {B : Nat} (hC : cW tc w ca d tk st) (hOk : mOk d) (hB : B ≤ 2 ^ 28) (hj : jP d B) (hg : ¬ d 9 2 = 0) (hsf : ∀ j, j < 4 → sf j = st j) (hce : cE d ge) (hcy : cY d cy) (ew : w' = gU (gU w 4 (ca 4, .inl (tc 1, 4, .inr (.inl (f_sts (d 9 6) sf))))) 3 (ca 3, .inr (4, [.int (d 9 3), .int cy, .int (f_npl cy (d 9 4)), .int (f_nbl (d 9 8) (d 9 5)), .int (f_blv cy (d 9 4) (d 9 8) (d 9 5) (d 9 6)), .int (f_bgg cy (d 9 4) (d 9 7)), .int (d 9 8), .int (f_bgo cy (d 9 4) (d 9 2) ge), .int (f_bge cy (d 9 4) ge), .long (tk + (d 9 5).toInt64), .ref (ca 4)]))) : cW tc w' ca (mB d) (tk + (d 9 5).toInt64) (m_sts (d 9 6) st) ∧ jP (mB d) (B + 1) := by
  have hw : ∀ k, 10 ≤ k → k < 1000 → w' k = w k := fun k h1 h2 => by rw [ew, gU_ne _ _ (by omega), gU_ne _ _ (by omega)]
  obtain ⟨⟨z0, z1, z2, z5, z6⟩, -⟩ := id hC
  have y0 := (show w' 0 = w 0 by rw [ew, gU_ne _ _ (by decide), gU_ne _ _ (by decide)]).trans z0
  have y1 := (show w' 1 = w 1 by rw [ew, gU_ne _ _ (by decide), gU_ne _ _ (by decide)]).trans z1
  have y2 := (show w' 2 = w 2 by rw [ew, gU_ne _ _ (by decide), gU_ne _ _ (by decide)]).trans z2
  have y5 := (show w' 5 = w 5 by rw [ew, gU_ne _ _ (by decide), gU_ne _ _ (by decide)]).trans z5
  have y6 := (show w' 6 = w 6 by rw [ew, gU_ne _ _ (by decide), gU_ne _ _ (by decide)]).trans z6
  have y4 : w' 4 = some (ca 4, .inl (tc 1, 4, .inr (.inl (f_sts (d 9 6) sf)))) := by rw [ew, gU_ne _ _ (by decide), gU_same]
  have y3 := gU_s ew
  obtain ⟨h2, ⟨i, p, g, hi, h3, h4, hp, h7, hgB⟩, h8, b, hb1, hb2, h5⟩ := hj hg
  obtain ⟨i', hi', e3, ecy⟩ := hcy hg
  have b1 := hOk.1.2.1
  obtain ⟨-, hL4, hL64, hLm⟩ := mOk_len hOk hi
  have hij : i' = i := (nI_eq (by omega) (by omega)).mp (e3.symm.trans h3)
  subst hij
  have hL : mLen d = cy := by unfold mLen; rw [h3, nI_clamp (by omega), ecy]
  have hpl : f_npl cy (d 9 4) = mPl d := by unfold mPl; rw [hL, ecy, h4]; exact npl_eq hp hL64
  have hbl : f_nbl (d 9 8) (d 9 5) = mBl d := by unfold mBl; rw [h5]; exact (nbl_eq h8 hb1 hb2).1
  obtain ⟨b', hb1', hb2', hb'⟩ := (nbl_eq h8 hb1 hb2).2
  rw [← h5] at hb'
  obtain ⟨p', hp', hpp⟩ := npl_n hp hL64 hL4
  rw [← ecy, ← h4, ← hL] at hpp
  have hOkB := mOk_B hOk
  unfold f_blv f_bgg f_bgo f_bge at y3
  rw [hpl, hbl] at y3
  by_cases hq : mPl d = mLen d
  · have hB9 : mB d = gD d 9 (upd (upd (upd (upd (upd (d 9) 4 (mPl d)) 5 (mBl d)) 6 (m_lvl (mBl d))) 7 (d 9 7 + 1)) 2 (if d 9 7 + 1 = d 9 9 then 0 else 1)) := by unfold mB; rw [if_pos hq]
    have hq' : mPl d = cy := hq.trans hL
    rw [if_pos hq', if_pos hq', if_pos hq', if_pos hq'] at y3
    have hgo : f_ggo (d 9 2) ge = if d 9 7 + 1 = d 9 9 then 0 else 1 := by
      unfold f_ggo
      rcases hce hg with ⟨e9, eg⟩ | ⟨e9, eg, e12⟩
      · rw [eg, if_pos (by decide), e9, h7, h2, nI_1, if_neg (nI_ne0 (by omega) (by omega))]
      · have := sub_go eg
        rcases e12 with e | e
        · rw [e, if_neg (by decide), if_pos (by decide), if_pos]
          rw [this, e, Int32.add_comm]
        · rw [e, if_neg (by decide), if_neg (by decide), if_neg]
          rw [this, e, h7, nI_1, show (2 : Int32) = nI 2 from rfl, nI_add]
          exact fun h => by have := (nI_eq (by omega) (by omega)).mp h; omega
    rw [hgo] at y3
    have hce' : cE (mB d) (f_gge ge) := by
      rw [hB9]
      intro hz
      have hz : ¬ (if d 9 7 + 1 = d 9 9 then (0 : Int32) else 1) = 0 := hz
      have hz9 : ¬ d 9 7 + 1 = d 9 9 := one_ne hz
      show (d 9 9 = 0 ∧ f_gge ge = 0) ∨ (¬ d 9 9 = 0 ∧ f_gge ge = d 9 9 - (d 9 7 + 1) ∧ (f_gge ge = 1 ∨ f_gge ge = 2))
      unfold f_gge
      rcases hce hg with ⟨e9, eg⟩ | ⟨e9, eg, e12⟩
      · left
        rw [eg, if_pos (by decide)]
        exact ⟨e9, rfl⟩
      · right
        have := sub_go eg
        rcases e12 with e | e
        · exact absurd (by rw [this, e, Int32.add_comm]) hz9
        · refine ⟨e9, ?_, Or.inl (by rw [e]; decide)⟩
          rw [e, if_neg (by decide), this, e, h7, nI_1, show (2 : Int32) = nI 2 from rfl, nI_add, nI_sub (by omega) (by omega), show 2 + g - (g + 1) = 1 by omega]
          rfl
    have hcy' : cY (mB d) cy := fun _ => ⟨i', by rw [nP_B]; exact hi, by rw [mB_s d (by decide)]; exact h3, by rw [ecy, hB9]; rfl⟩
    constructor
    · rw [hB9] at hce' hcy' ⊢
      exact cW_hd hC hw rfl rfl (fun _ _ => rfl) rfl rfl rfl rfl rfl rfl rfl y0 y1 y2 y5 y6 ⟨cy, f_gge ge, f_sts (d 9 6) sf, y3, y4, sts_fm hsf, hce', hcy'⟩ hOk
    · rw [hB9]
      intro hz
      have hz : ¬ (if d 9 7 + 1 = d 9 9 then (0 : Int32) else 1) = 0 := hz
      refine ⟨?_, ⟨i', p', g + 1, hi, h3, hpp, hp', ?_, by omega⟩, h8, b', hb1', hb2', hb'⟩
      · show (if d 9 7 + 1 = d 9 9 then (0 : Int32) else 1) = 1
        exact if_neg (one_ne hz)
      · show d 9 7 + 1 = nI (g + 1)
        rw [h7]; exact nI_1 g
  · have hB9 : mB d = gD d 9 (upd (upd (d 9) 4 (mPl d)) 5 (mBl d)) := by unfold mB; rw [if_neg hq]
    have hq' : ¬ mPl d = cy := fun h => hq (h.trans hL.symm)
    rw [if_neg hq', if_neg hq', if_neg hq', if_neg hq'] at y3
    have hcy' : cY (mB d) cy := fun _ => ⟨i', by rw [nP_B]; exact hi, by rw [mB_s d (by decide)]; exact h3, by rw [ecy, hB9]; rfl⟩
    constructor
    · rw [hB9] at hcy' ⊢
      exact cW_hd hC hw rfl rfl (fun _ _ => rfl) rfl rfl rfl rfl rfl rfl rfl y0 y1 y2 y5 y6 ⟨cy, ge, f_sts (d 9 6) sf, y3, y4, sts_fm hsf, hce, hcy'⟩ hOk
    · rw [hB9]
      exact fun _ => ⟨h2, ⟨i', p', g, hi, h3, hpp, hp', h7, by omega⟩, h8, b', hb1', hb2', hb'⟩
abbrev rm_X5_beats : Room := { frames := 7, cells := 8, slots := 48, locals := 266 }
theorem nm_X5_beats : gNm yX5_beats 1 := ⟨by decide +kernel, by decide +kernel, by decide +kernel⟩
set_option maxHeartbeats 4000000 in
set_option maxRecDepth 100000 in
theorem c_X5_beats (l : Launch) (hfl : l.stackTraces = false) (D : va_G) (tc : Nat → ClassId) (A : Nat → Prop) (w : gW) (ca : Nat → Nat) (d : gDt) (tk : Int64) (st : Nat → Int64) (x : Int32) (B : Nat) (hC : cW tc w ca d tk st) (hOk : mOk d) (hB : B ≤ 60000) (hj : jP d B) : gM l yX5_beats cX5_beats 3 (some .int) rm_X5_beats D tc A [.ref (ca 0), .int x] w (fun v w' => ¬ m_go (ga_beats d x) (gb_beats d x) (gc_beats d x) = 0 ∧ v = some (.int (nI (m_bt x.toNatClampNeg (sL d 0) tk st).1)) ∧ (∃ ca' : Nat → Nat, ca' 0 = ca 0 ∧ cW tc w' ca' (m_bt x.toNatClampNeg (sL d 0) tk st).2.1 (m_bt x.toNatClampNeg (sL d 0) tk st).2.2.1 ((m_bt x.toNatClampNeg (sL d 0) tk st).2.2.2)) ∧ gK w w') (c_thr gIA gIS gIS (ga_beats d x) (gb_beats d x) (gc_beats d x)) := by
  refine gM_of (by decide +kernel) (Nat.le_of_ble_eq_true rfl) ?_
  intro p e s m args below meth c ls Q hQ hE hG hr hnt hnm hl
  have hx := hE.1
  have hb := hE.2.1
  have hl : lv_has ls 3 [(0, .ref (ca 0)), (1, .int x)] := hl
  obtain ⟨⟨z0, z1, z2, z5, z6⟩, ⟨cy, ge, sf, z3, z4, hsf, hce, hcy⟩, zP, zS, zU, zV, zN⟩ := id hC
  refine lv_iload_n hx hb dX5_beats_0 rfl (lv_at hl 1 rfl) ?_
  refine lv_iconst (v := 1) hx hb dX5_beats_1 (by decide) ?_
  refine lv_icmp_lt (tgt := 11) hx hb dX5_beats_2 (by decide) (fun c_1 => ?_) (fun c_1 => ?_)
  · skip
    subst hQ
    exact g_thr (E := gIA) hfl hE hG hl.1 hnt gTgIA (List.mem_of_getElem? (i := 8) rfl) dX5_beats_11 dX5_beats_14 dX5_beats_15 dX5_beats_17 dX5_beats_20 (by refine ⟨?_, ?_, ?_, ?_, ?_, ?_⟩ <;> exact Nat.le_of_ble_eq_true rfl) rfl (Or.inl ⟨rng_lo c_1, rfl⟩)
  · skip
    refine lv_iload_n hx hb dX5_beats_5 rfl (lv_at hl 1 rfl) ?_
    refine lv_bipush (v := 100) hx hb dX5_beats_6 (by decide) ?_
    refine lv_icmp_le (tgt := 21) hx hb dX5_beats_8 (by decide) (fun c_2 => ?_) (fun c_2 => ?_)
    · skip
      refine lv_aload_n hx hb dX5_beats_21 rfl (lv_at hl 0 rfl) ?_
      refine g_callV (rest := []) (As := []) hE hG hl.1 (c_X5_refuseSilence l hfl D tc A w ca d tk st  hC hOk) z0 rfl mw2_133 mw2_135 mws_3 mw1_1 mw2_136 rfl nm_X5_refuseSilence ⟨⟨Nat.le_of_ble_eq_true rfl, Nat.le_of_ble_eq_true rfl⟩, Nat.le_of_ble_eq_true rfl, Nat.le_of_ble_eq_true rfl⟩ rfl rfl (Nat.le_of_ble_eq_true rfl) dX5_beats_22 (by subst hQ; exact g_out hE hnt rfl (fun E h => Or.inr (Or.inl ⟨f_in_ok c_1 (Int32.not_lt.mpr c_2), h.1, h.2⟩)) (Nat.le_of_ble_eq_true rfl) (Nat.le_of_ble_eq_true rfl)) ?_
      intro v9 w9 H locs h9 hG
      obtain ⟨e8, e9, r_3⟩ := h9
      rw [e9]; clear e9
      rw [e8] at hG; clear e8
      show W p l e _ s m args below meth c H locs _ _ _ (F0 m 25 ls [])
      refine lv_iconst (v := 0) hx hb dX5_beats_25 (by decide) ?_
      refine lv_istore_n (lv' := [(2, .int 0), (0, .ref (ca 0)), (1, .int x)]) hx hb dX5_beats_26 rfl hl (by decide) rfl (fun ls hl => ?_)
      have hin := f_in_ok c_1 (Int32.not_lt.mpr c_2)
      obtain ⟨y, hy1, hy2, hxy⟩ := nI_bet (a := 1) (b := 100) (by decide) (f_in_ne hin).1 (f_in_ne hin).2 (by decide)
      subst hxy
      have hl : lv_has ls 3 [(2, .int (nI 0)), (0, .ref (ca 0)), (1, .int (nI y))] := hl
      have hloop : ∀ (k n9 : Nat) (d9 : gDt) (tk9 : Int64) (st9 : Nat → Int64) (w8 : gW) (H : Heap) (locs : List Loc) (ls : Array Slot), k + n9 = y → n9 + (m_bt k d9 tk9 st9).1 = (m_bt y (sL d 0) tk st).1 → (m_bt k d9 tk9 st9).2 = (m_bt y (sL d 0) tk st).2 → cW tc w8 ca d9 tk9 st9 → gK w w8 → mOk d9 → jP d9 (B + n9) → gS D A s.heap w8 H locs → lv_has ls 3 [(2, .int (nI n9)), (0, .ref (ca 0)), (1, .int (nI y))] → W p l e rm_X5_beats s m args below meth c H locs (0 + rm_X5_refuseSilence.cells) (0 + rm_X5_refuseSilence.slots) Q (F0 m 27 ls []) := by
        intro k
        induction k with
        | zero =>
          intro n9 d9 tk9 st9 w8 H locs ls hkn hr1 hr2 hM9 hF9 hOk9 hj9 hG hl
          obtain ⟨⟨q0, q1, q2, q5, q6⟩, ⟨cy9, ge9, sf9, q3, q4, hsf9, hce9, hcy9⟩, -⟩ := id hM9
          refine lv_iload_n hx hb dX5_beats_27 rfl (lv_at hl 0 rfl) ?_
          refine lv_iload_n hx hb dX5_beats_28 rfl (lv_at hl 2 rfl) ?_
          refine lv_icmp_ge (tgt := 55) hx hb dX5_beats_29 (by decide) (fun c9 => ?_) (fun c9 => (c9 (nI_le (by omega) (by omega))).elim)
          refine lv_iload_n hx hb dX5_beats_55 rfl (lv_at hl 0 rfl) ?_
          subst hQ
          have hyc : (nI y).toNatClampNeg = y := nI_clamp (by omega)
          have hr1 : n9 = (m_bt y (sL d 0) tk st).1 := hr1
          have hr2 : (d9, tk9, st9) = (m_bt y (sL d 0) tk st).2 := hr2
          exact g_iret hE hG hr (Nat.le_of_ble_eq_true rfl) (Nat.le_of_ble_eq_true rfl) dX5_beats_56 ⟨m_go_i hin r_3 one_nz, (by rw [hyc, ← hr1]), ⟨ca, rfl, (by rw [hyc, ← hr2]; exact hM9)⟩, hF9⟩
        | succ k ih =>
          intro n9 d9 tk9 st9 w8 H locs ls hkn hr1 hr2 hM9 hF9 hOk9 hj9 hG hl
          obtain ⟨⟨q0, q1, q2, q5, q6⟩, ⟨cy9, ge9, sf9, q3, q4, hsf9, hce9, hcy9⟩, -⟩ := id hM9
          refine lv_iload_n hx hb dX5_beats_27 rfl (lv_at hl 0 rfl) ?_
          refine lv_iload_n hx hb dX5_beats_28 rfl (lv_at hl 2 rfl) ?_
          refine lv_icmp_ge (tgt := 55) hx hb dX5_beats_29 (by decide) (fun c9 => absurd c9 (nI_ge (by omega) (by omega))) (fun c9 => ?_)
          refine lv_aload_n hx hb dX5_beats_32 rfl (lv_at hl 1 rfl) ?_
          refine g_get hE hG q0 rfl inG5 4 (by decide) mw1_105 rfl dX5_beats_33 ?_
          refine g_getN hE hG q3 rfl inG4 7 (by decide) (List.mem_of_getElem? (i := 5) rfl) rfl dX5_beats_36 ?_
          refine lv_if_eq (tgt := 55) hx hb dX5_beats_39 (by decide) (fun c_4 => ?_) (fun c_4 => ?_)
          · skip
            refine lv_iload_n hx hb dX5_beats_55 rfl (lv_at hl 0 rfl) ?_
            subst hQ
            have hyc : (nI y).toNatClampNeg = y := nI_clamp (by omega)
            have hb9 : m_bt (k + 1) d9 tk9 st9 = (0, d9, tk9, st9) := by show (if _ then _ else _) = _; rw [if_pos c_4]
            rw [hb9] at hr1 hr2
            have hr1 : n9 = (m_bt y (sL d 0) tk st).1 := hr1
            have hr2 : (d9, tk9, st9) = (m_bt y (sL d 0) tk st).2 := hr2
            exact g_iret hE hG hr (Nat.le_of_ble_eq_true rfl) (Nat.le_of_ble_eq_true rfl) dX5_beats_56 ⟨m_go_i hin r_3 one_nz, (by rw [hyc, ← hr1]), ⟨ca, rfl, (by rw [hyc, ← hr2]; exact hM9)⟩, hF9⟩
          · skip
            refine lv_aload_n hx hb dX5_beats_42 rfl (lv_at hl 1 rfl) ?_
            refine g_get hE hG q0 rfl inG5 4 (by decide) mw1_105 rfl dX5_beats_43 ?_
            refine g_callV (rest := []) (As := []) hE hG hl.1 (c_X4_playBeat l hfl D tc A w8 3 4 (ca 3) (ca 4) (d9 9 3) cy9 (d9 9 4) (d9 9 5) (d9 9 6) (d9 9 7) (d9 9 8) (d9 9 2) ge9 tk9 sf9 q3 q4 ) q3 rfl mw2_157 mw2_158 mw2_159 mw1_2 mw2_160 rfl nm_X4_playBeat ⟨⟨Nat.le_of_ble_eq_true rfl, Nat.le_of_ble_eq_true rfl⟩, Nat.le_of_ble_eq_true rfl, Nat.le_of_ble_eq_true rfl⟩ rfl rfl (Nat.le_of_ble_eq_true rfl) dX5_beats_46 (g_no) ?_
            intro v9 w7 H locs h9 hG
            obtain ⟨e9, ew7⟩ := h9
            rw [e9]; clear e9
            show W p l e _ s m args below meth c H locs _ _ _ (F0 m 49 ls [])
            refine lv_iinc (v := (nI (n9 + 1))) (lv' := [(2, .int (nI (n9 + 1))), (0, .ref (ca 0)), (1, .int (nI y))]) hx hb dX5_beats_49 hl (k := 0) rfl (nI_1 n9) (by decide) rfl (fun ls hl => ?_)
            refine lv_goto (tgt := 27) hx hb dX5_beats_52 (by decide) ?_
            have h8 := cW_beat hM9 hOk9 (by omega) hj9 c_4 hsf9 hce9 hcy9 ew7
            exact ih (n9 + 1) (mB d9) (tk9 + (d9 9 5).toInt64) (m_sts (d9 9 6) st9) w7 _ _ _ (by omega) (by rw [← hr1]; show _ = n9 + (if _ then _ else _ : Nat × gDt × Int64 × (Nat → Int64)).1; rw [if_neg c_4]; show _ = n9 + (_ + 1); omega) (by rw [← hr2]; show _ = (if _ then _ else _ : Nat × gDt × Int64 × (Nat → Int64)).2; rw [if_neg c_4]) h8.1 (gK_tr hF9 (fun k hk => by rw [ew7, gU_ne _ _ (by omega), gU_ne _ _ (by omega)])) (mOk_B hOk9) h8.2 hG (lv_sub hl [0, 1, 2] rfl)
      exact hloop y 0 (sL d 0) tk st w _ _ _ rfl (Nat.zero_add _) rfl (cW_l hC 0) (gK_rf w) hOk hj hG (lv_sub hl [0, 1, 2] rfl)
    · skip
      subst hQ
      exact g_thr (E := gIA) hfl hE hG hl.1 hnt gTgIA (List.mem_of_getElem? (i := 8) rfl) dX5_beats_11 dX5_beats_14 dX5_beats_15 dX5_beats_17 dX5_beats_20 (by refine ⟨?_, ?_, ?_, ?_, ?_, ?_⟩ <;> exact Nat.le_of_ble_eq_true rfl) rfl (Or.inl ⟨rng_hi (Int32.not_le.mp c_2), rfl⟩)
