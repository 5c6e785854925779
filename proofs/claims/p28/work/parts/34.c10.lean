/-! GongCycles: piece, player -/
/-- what stands of pieces that aren't made yet -/
def fOk (d : gDt) : Prop := ∀ i, nP d ≤ i → i < 6 → d 2 i = 0 ∧ ∀ j, 1 ≤ j → j ≤ 64 → d 3 (65 * i + j) = 0
theorem cW_ca {tc : Nat → ClassId} {w : gW} {ca ca' : Nat → Nat} {d : gDt} {tk : Int64} {st : Nat → Int64} (hC : cW tc w ca d tk st) (hOk : mOk d) (h : ∀ k x, w k = some x → ca' k = ca k) : cW tc w ca' d tk st := by
  obtain ⟨⟨z0, z1, z2, z5, z6⟩, ⟨cy, ge, sf, z3, z4, hsf, hce, hcy⟩, zP, zS, zU, zV, zN⟩ := hC
  have e0 := h _ _ z0
  have e1 := h _ _ z1
  have e2 := h _ _ z2
  have e3 := h _ _ z3
  have e4 := h _ _ z4
  have e5 := h _ _ z5
  have e6 := h _ _ z6
  have b2 := hOk.1.2.2
  have hp : c_pf ca' (nP d) = c_pf ca (nP d) := by
    funext i
    unfold c_pf
    by_cases hi : i < nP d
    · rw [if_pos hi, if_pos hi, h _ _ (zP i hi).1]
    · rw [if_neg hi, if_neg hi]
  have hs : c_sf ca' = c_sf ca := by
    funext i
    unfold c_sf
    by_cases hi : i < 4
    · rw [if_pos hi, if_pos hi, h _ _ (zS i hi).1]
    · rw [if_neg hi, if_neg hi]
  have hu : c_uf ca' (nU d) = c_uf ca (nU d) := by
    funext i
    unfold c_uf
    by_cases hi : i < nU d
    · rw [if_pos hi, if_pos hi, h _ _ (zU i hi).1]
    · rw [if_neg hi, if_neg hi]
  refine ⟨⟨by rw [e0, e1, e2, e3, e5, e6]; exact z0, by rw [e1]; exact z1, by rw [e2, hp]; exact z2, by rw [e5, hs]; exact z5, by rw [e6, hu]; exact z6⟩, ⟨cy, ge, sf, by rw [e3, e4]; exact z3, by rw [e4]; exact z4, hsf, hce, hcy⟩, ?_, ?_, ?_, ?_, zN⟩
  · intro i hi
    obtain ⟨a, b, f, e, g⟩ := zP i hi
    have k1 := h _ _ a
    have k2 := h _ _ b
    have k3 := h _ _ e
    exact ⟨by rw [k1, k2]; exact a, by rw [k2, k3]; exact b, f, by rw [k3]; exact e, g⟩
  · intro i hi
    obtain ⟨a, f, e, g⟩ := zS i hi
    have k1 := h _ _ a
    have k3 := h _ _ e
    exact ⟨by rw [k1, k3]; exact a, f, by rw [k3]; exact e, g⟩
  · intro u hu
    obtain ⟨a, g, e, b⟩ := zU u hu
    have k1 := h _ _ a
    have k3 := h _ _ e
    refine ⟨by rw [k1, k3]; exact a, g, by rw [k3]; exact e, ?_⟩
    intro i hi
    rw [b i hi]
    by_cases hz : d 7 (6 * u + i) = 0
    · rw [if_pos hz, if_pos hz]
    · rw [if_neg hz, if_neg hz, h _ _ (zV u i (by omega) hi hz).2.2.1]
  · intro u i hu hi hz
    obtain ⟨a1, a2, a, f, e, g⟩ := zV u i hu hi hz
    have k1 := h _ _ a
    have k3 := h _ _ e
    exact ⟨a1, a2, by rw [k1, k3]; exact a, f, by rw [k3]; exact e, g⟩
theorem ca_ext3 (ca : Nat → Nat) (a b c x y z : Nat) (hab : b ≠ a) (hac : c ≠ a) (hbc : c ≠ b) : ∃ ca' : Nat → Nat, ca' a = x ∧ ca' b = y ∧ ca' c = z ∧ ∀ k, k ≠ a → k ≠ b → k ≠ c → ca' k = ca k := by
  refine ⟨fun k => if k = a then x else if k = b then y else if k = c then z else ca k, if_pos rfl, ?_, ?_, ?_⟩
  · show (if b = a then x else if b = b then y else if b = c then z else ca b) = y
    rw [if_neg hab, if_pos rfl]
  · show (if c = a then x else if c = b then y else if c = c then z else ca c) = z
    rw [if_neg hac, if_neg hbc, if_pos rfl]
  · intro k h1 h2 h3
    show (if k = a then x else if k = b then y else if k = c then z else ca k) = ca k
    rw [if_neg h1, if_neg h2, if_neg h3]
theorem ca_ext2 (ca : Nat → Nat) (a b x y : Nat) (hab : b ≠ a) : ∃ ca' : Nat → Nat, ca' a = x ∧ ca' b = y ∧ ∀ k, k ≠ a → k ≠ b → ca' k = ca k := by
  refine ⟨fun k => if k = a then x else if k = b then y else ca k, if_pos rfl, ?_, ?_⟩
  · show (if b = a then x else if b = b then y else ca b) = y
    rw [if_neg hab, if_pos rfl]
  · intro k h1 h2
    show (if k = a then x else if k = b then y else ca k) = ca k
    rw [if_neg h1, if_neg h2]
theorem nP_up {d : gDt} {f : Nat → Int32} (hOk : mOk d) : nP (gD (gD d 1 f) 9 (upd (d 9) 1 (d 9 1 + 1))) = nP d + 1 := by
  have := hOk.1.2.1
  show (d 9 1 + 1).toNatClampNeg = nP d + 1
  rw [hOk.2.1.2.1, nI_1, nI_clamp (by omega)]
theorem nU_up {d : gDt} {f : Nat → Int32} (hOk : mOk d) : nU (gD (gD d 6 f) 9 (upd (d 9) 13 (d 9 13 + 1))) = nU d + 1 := by
  have := hOk.1.2.2
  show (d 9 13 + 1).toNatClampNeg = nU d + 1
  rw [hOk.2.1.2.2, nI_1, nI_clamp (by omega)]
theorem cW_piece {tc : Nat → ClassId} {w w' : gW} {ca : Nat → Nat} {d : gDt} {tk : Int64} {st : Nat → Int64} {i q1 q2 q3 : Nat} (hC : cW tc w ca d tk st) (hOk : mOk d) (hF : fOk d) (hi : i < nF d) (hn : nP d < 6)
    (hw : ∀ k, k ≠ 0 → k ≠ 2 → k ≠ 10 + nP d → k ≠ 20 + nP d → k ≠ 30 + nP d → w' k = w k) (y0 : w' 0 = some ((ca 0), .inr (5, [.ref (ca 1), .int (d 9 0), .ref (ca 2), .int (d 9 1 + 1), .ref (ca 3), .int (d 9 10), .int (d 9 11), .ref (ca 5), .int (d 9 12), .ref (ca 6), .int (d 9 13)])))
    (y2 : w' 2 = some (ca 2, .inl (tc 3, 6, .inr (.inr (.inr (.inr (va_up (c_pf ca (nP d)) (nP d) (some q1)))))))) (y10 : w' (10 + nP d) = some (q1, .inr (2, [.ref q2, .int 0]))) (y20 : w' (20 + nP d) = some (q2, .inr (1, [.ref q3]))) (y30 : w' (30 + nP d) = some (q3, .inl (tc 0, (d 0 i).toNatClampNeg, .inl (fun _ => 0)))) : ∃ ca' : Nat → Nat, ca' 0 = ca 0 ∧ cW tc w' ca' (gD (gD d 1 (upd (d 1) (d 9 1).toNatClampNeg (nI i))) 9 (upd (d 9) 1 (d 9 1 + 1))) tk st := by
  have n9 := hC.2.2.2.2.2.2.1 (nP d) (Nat.le_refl _) hn
  obtain ⟨ca', a1, a2, a3, ao⟩ := ca_ext3 ca (10 + nP d) (20 + nP d) (30 + nP d) q1 q2 q3 (by omega) (by omega) (by omega)
  have hC' : cW tc w ca' d tk st := cW_ca hC hOk (fun k x hx => ao k (fun e => by rw [e, n9.1] at hx; cases hx) (fun e => by rw [e, n9.2.1] at hx; cases hx) (fun e => by rw [e, n9.2.2] at hx; cases hx))
  have k0 := ao 0 (by omega) (by omega) (by omega)
  have k1 := ao 1 (by omega) (by omega) (by omega)
  have k2 := ao 2 (by omega) (by omega) (by omega)
  have k3 := ao 3 (by omega) (by omega) (by omega)
  have k5 := ao 5 (by omega) (by omega) (by omega)
  have k6 := ao 6 (by omega) (by omega) (by omega)
  obtain ⟨⟨z0, z1, z2, z5, z6⟩, ⟨cy, ge, sf, z3, z4, hsf, hce, hcy⟩, zP, zS, zU, zV, zN1, zN2, zN3⟩ := hC'
  have b0 := hOk.1.1
  have b2 := hOk.1.2.2
  have hP := nP_up (f := upd (d 1) (d 9 1).toNatClampNeg (nI i)) hOk
  obtain ⟨-, hL4, hL64, -⟩ := gLen_n (hOk.2.2.1 i hi)
  have hln : lenN (gD (gD d 1 (upd (d 1) (d 9 1).toNatClampNeg (nI i))) 9 (upd (d 9) 1 (d 9 1 + 1))) (nP d) = (d 0 i).toNatClampNeg := by
    show (d 0 (upd (d 1) (nP d) (nI i) (nP d)).toNatClampNeg).toNatClampNeg = _
    rw [upd_e, nI_clamp (by omega)]
  have hl : ∀ j, j < nP d → lenN (gD (gD d 1 (upd (d 1) (d 9 1).toNatClampNeg (nI i))) 9 (upd (d 9) 1 (d 9 1 + 1))) j = lenN d j := by
    intro j hj
    show (d 0 (upd (d 1) (nP d) (nI i) j).toNatClampNeg).toNatClampNeg = _
    rw [upd_n (by omega)]
    rfl
  have hpf : c_pf ca' (nP (gD (gD d 1 (upd (d 1) (d 9 1).toNatClampNeg (nI i))) 9 (upd (d 9) 1 (d 9 1 + 1)))) = va_up (c_pf ca (nP d)) (nP d) (some q1) := by
    rw [hP]
    funext j
    by_cases hj : j = nP d
    · subst hj
      rw [va_up_self]
      unfold c_pf
      rw [if_pos (by omega), a1]
    · rw [va_up_ne _ _ hj]
      unfold c_pf
      by_cases hj2 : j < nP d
      · rw [if_pos (by omega), if_pos hj2, ao _ (by omega) (by omega) (by omega)]
      · rw [if_neg (by omega), if_neg hj2]
  refine ⟨ca', k0, ⟨by rw [k0, k1, k2, k3, k5, k6]; exact y0, by rw [hw 1 (by decide) (by decide) (by omega) (by omega) (by omega)]; exact z1, by rw [k2, hpf]; exact y2, by rw [hw 5 (by decide) (by decide) (by omega) (by omega) (by omega)]; exact z5, by rw [hw 6 (by decide) (by decide) (by omega) (by omega) (by omega)]; exact z6⟩, ⟨cy, ge, sf, by rw [hw 3 (by decide) (by decide) (by omega) (by omega) (by omega)]; exact z3, by rw [hw 4 (by decide) (by decide) (by omega) (by omega) (by omega)]; exact z4, hsf, hce, ?_⟩, ?_, ?_, ?_, ?_, ?_, ?_, ?_⟩
  · intro g
    obtain ⟨j, hj, e1, e2⟩ := hcy g
    exact ⟨j, by rw [hP]; omega, e1, by rw [hl j hj]; exact e2⟩
  · intro j hj
    rw [hP] at hj
    by_cases hjn : j = nP d
    · subst hjn
      have hf := hF (nP d) (Nat.le_refl _) hn
      refine ⟨?_, by rw [a2, a3]; exact y20, fun _ => 0, by rw [a3, hln]; exact y30, ?_⟩
      · rw [a1, a2]
        show _ = some (q1, (Sum.inr (2, [Value.ref q2, Value.int (d 2 (nP d))]) : va_E))
        rw [hf.1]
        exact y10
      · intro q hq
        rw [hln] at hq
        exact (hf.2 (q + 1) (by omega) (by omega)).symm
    · have hj2 : j < nP d := by omega
      exact cP_fr (zP j hj2) (hw _ (by omega) (by omega) (by omega) (by omega) (by omega)) (hw _ (by omega) (by omega) (by omega) (by omega) (by omega)) (hw _ (by omega) (by omega) (by omega) (by omega) (by omega)) (hl j hj2) rfl rfl
  · intro j hj
    exact cS_fr (zS j hj) (hw _ (by omega) (by omega) (by omega) (by omega) (by omega)) (hw _ (by omega) (by omega) (by omega) (by omega) (by omega)) rfl rfl
  · intro u hu
    have hu : u < nU d := hu
    exact cU_fr (zU u hu) (hw _ (by omega) (by omega) (by omega) (by omega) (by omega)) (hw _ (by omega) (by omega) (by omega) (by omega) (by omega)) rfl rfl
  · intro u j hu hj hk
    obtain ⟨c1, c2, c3⟩ := zV u j hu hj hk
    exact ⟨c1, by rw [hP]; omega, cV_fr c3 (hw _ (by omega) (by omega) (by omega) (by omega) (by omega)) (hw _ (by omega) (by omega) (by omega) (by omega) (by omega)) (hl j c2) rfl⟩
  · intro j h1 h9
    rw [hP] at h1
    rw [hw _ (by omega) (by omega) (by omega) (by omega) (by omega), hw _ (by omega) (by omega) (by omega) (by omega) (by omega), hw _ (by omega) (by omega) (by omega) (by omega) (by omega)]
    exact zN1 j (by omega) h9
  · intro u h1 h9
    rw [hw _ (by omega) (by omega) (by omega) (by omega) (by omega), hw _ (by omega) (by omega) (by omega) (by omega) (by omega)]
    exact zN2 u h1 h9
  · intro u j hu hj h9
    rw [hw _ (by omega) (by omega) (by omega) (by omega) (by omega), hw _ (by omega) (by omega) (by omega) (by omega) (by omega)]
    exact zN3 u j hu hj h9
theorem cW_player {tc : Nat → ClassId} {w w' : gW} {ca : Nat → Nat} {d : gDt} {tk : Int64} {st : Nat → Int64} {q1 q2 : Nat} {x : Int32} (hC : cW tc w ca d tk st) (hOk : mOk d) (hn : nU d < 8)
    (hw : ∀ k, k ≠ 0 → k ≠ 6 → k ≠ 40 + nU d → k ≠ 50 + nU d → w' k = w k) (y0 : w' 0 = some ((ca 0), .inr (5, [.ref (ca 1), .int (d 9 0), .ref (ca 2), .int (d 9 1), .ref (ca 3), .int (d 9 10), .int (d 9 11), .ref (ca 5), .int (d 9 12), .ref (ca 6), .int (d 9 13 + 1)])))
    (y6 : w' 6 = some (ca 6, .inl (tc 5, 8, .inr (.inr (.inr (.inr (va_up (c_uf ca (nU d)) (nU d) (some q1)))))))) (y40 : w' (40 + nU d) = some (q1, .inr (3, [.int x, .ref q2]))) (y50 : w' (50 + nU d) = some (q2, .inl (tc 6, 6, .inr (.inr (.inr (.inr (fun _ => none))))))) : ∃ ca' : Nat → Nat, ca' 0 = ca 0 ∧ cW tc w' ca' (gD (gD d 6 (upd (d 6) (d 9 13).toNatClampNeg x)) 9 (upd (d 9) 13 (d 9 13 + 1))) tk st := by
  have n9 := hC.2.2.2.2.2.2.2.1 (nU d) (Nat.le_refl _) hn
  obtain ⟨ca', a1, a2, ao⟩ := ca_ext2 ca (40 + nU d) (50 + nU d) q1 q2 (by omega)
  have hC' : cW tc w ca' d tk st := cW_ca hC hOk (fun k x hx => ao k (fun e => by rw [e, n9.1] at hx; cases hx) (fun e => by rw [e, n9.2] at hx; cases hx))
  have k0 := ao 0 (by omega) (by omega)
  have k1 := ao 1 (by omega) (by omega)
  have k2 := ao 2 (by omega) (by omega)
  have k3 := ao 3 (by omega) (by omega)
  have k5 := ao 5 (by omega) (by omega)
  have k6 := ao 6 (by omega) (by omega)
  obtain ⟨⟨z0, z1, z2, z5, z6⟩, ⟨cy, ge, sf, z3, z4, hsf, hce, hcy⟩, zP, zS, zU, zV, zN1, zN2, zN3⟩ := hC'
  have b1 := hOk.1.2.1
  have hP := nU_up (f := upd (d 6) (d 9 13).toNatClampNeg x) hOk
  have hpf : c_uf ca' (nU (gD (gD d 6 (upd (d 6) (d 9 13).toNatClampNeg x)) 9 (upd (d 9) 13 (d 9 13 + 1)))) = va_up (c_uf ca (nU d)) (nU d) (some q1) := by
    rw [hP]
    funext j
    by_cases hj : j = nU d
    · subst hj
      rw [va_up_self]
      unfold c_uf
      rw [if_pos (by omega), a1]
    · rw [va_up_ne _ _ hj]
      unfold c_uf
      by_cases hj2 : j < nU d
      · rw [if_pos (by omega), if_pos hj2, ao _ (by omega) (by omega)]
      · rw [if_neg (by omega), if_neg hj2]
  refine ⟨ca', k0, ⟨by rw [k0, k1, k2, k3, k5, k6]; exact y0, by rw [hw 1 (by omega) (by omega) (by omega) (by omega)]; exact z1, by rw [hw 2 (by omega) (by omega) (by omega) (by omega)]; exact z2, by rw [hw 5 (by omega) (by omega) (by omega) (by omega)]; exact z5, by rw [k6, hpf]; exact y6⟩, ⟨cy, ge, sf, by rw [hw 3 (by omega) (by omega) (by omega) (by omega)]; exact z3, by rw [hw 4 (by omega) (by omega) (by omega) (by omega)]; exact z4, hsf, hce, hcy⟩, ?_, ?_, ?_, ?_, ?_, ?_, ?_⟩
  · intro j hj
    have hj : j < nP d := hj
    exact cP_fr (zP j hj) (hw _ (by omega) (by omega) (by omega) (by omega)) (hw _ (by omega) (by omega) (by omega) (by omega)) (hw _ (by omega) (by omega) (by omega) (by omega)) rfl rfl rfl
  · intro j hj
    exact cS_fr (zS j hj) (hw _ (by omega) (by omega) (by omega) (by omega)) (hw _ (by omega) (by omega) (by omega) (by omega)) rfl rfl
  · intro u hu
    rw [hP] at hu
    by_cases hun : u = nU d
    · subst hun
      refine ⟨?_, fun _ => none, by rw [a2]; exact y50, ?_⟩
      · rw [a1, a2]
        show _ = some (q1, (Sum.inr (3, [Value.int (upd (d 6) (nU d) x (nU d)), Value.ref q2]) : va_E))
        rw [upd_e]
        exact y40
      · intro i hi
        show none = (if d 7 (6 * nU d + i) = 0 then none else _)
        rw [if_pos]
        by_cases hz : d 7 (6 * nU d + i) = 0
        · exact hz
        · exact absurd (zV (nU d) i hn hi hz).1 (Nat.lt_irrefl _)
    · have hu2 : u < nU d := by omega
      refine cU_fr (zU u hu2) (hw _ (by omega) (by omega) (by omega) (by omega)) (hw _ (by omega) (by omega) (by omega) (by omega)) ?_ rfl
      show upd (d 6) (nU d) x u = d 6 u
      exact upd_n hun
  · intro u j hu hj hk
    obtain ⟨c1, c2, c3⟩ := zV u j hu hj hk
    exact ⟨by rw [hP]; omega, c2, cV_fr c3 (hw _ (by omega) (by omega) (by omega) (by omega)) (hw _ (by omega) (by omega) (by omega) (by omega)) rfl rfl⟩
  · intro j h1 h9
    have h1 : nP d ≤ j := h1
    rw [hw _ (by omega) (by omega) (by omega) (by omega), hw _ (by omega) (by omega) (by omega) (by omega), hw _ (by omega) (by omega) (by omega) (by omega)]
    exact zN1 j h1 h9
  · intro u h1 h9
    rw [hP] at h1
    rw [hw _ (by omega) (by omega) (by omega) (by omega), hw _ (by omega) (by omega) (by omega) (by omega)]
    exact zN2 u (by omega) h9
  · intro u j hu hj h9
    rw [hw _ (by omega) (by omega) (by omega) (by omega), hw _ (by omega) (by omega) (by omega) (by omega)]
    exact zN3 u j hu hj h9
abbrev rm_X5_piece : Room := { frames := 7, cells := 10, slots := 150, locals := 266 }
theorem nm_X5_piece : gNm yX5_piece 1 := ⟨by decide +kernel, by decide +kernel, by decide +kernel⟩
set_option maxHeartbeats 4000000 in
set_option maxRecDepth 100000 in
theorem c_X5_piece (l : Launch) (hfl : l.stackTraces = false) (D : va_G) (tc : Nat → ClassId) (A : Nat → Prop) (w : gW) (ca : Nat → Nat) (d : gDt) (tk : Int64) (st : Nat → Int64) (x : Int32) (hC : cW tc w ca d tk st) (hOk : mOk d) (hF : fOk d) : gM l yX5_piece cX5_piece 3 (some .int) rm_X5_piece D tc A [.ref (ca 0), .int x] w (fun v w' => ¬ m_go (ga_piece d x) (gb_piece d x) (gc_piece d x) = 0 ∧ v = some (.int (d 9 1 + 1 - 1)) ∧ (∃ ca' : Nat → Nat, ca' 0 = ca 0 ∧ cW tc w' ca' (sL (gD (gD d 1 (upd (d 1) (d 9 1).toNatClampNeg x)) 9 (upd (d 9) 1 (d 9 1 + 1))) 0) tk st) ∧ gK w w') (c_thr gIO gIS gIS (ga_piece d x) (gb_piece d x) (gc_piece d x)) := by
  refine gM_of (by decide +kernel) (Nat.le_of_ble_eq_true rfl) ?_
  intro p e s m args below meth c ls Q hQ hE hG hr hnt hnm hl
  have hx := hE.1
  have hb := hE.2.1
  have hl : lv_has ls 3 [(0, .ref (ca 0)), (1, .int x)] := hl
  obtain ⟨⟨z0, z1, z2, z5, z6⟩, ⟨cy, ge, sf, z3, z4, hsf, hce, hcy⟩, zP, zS, zU, zV, zN⟩ := id hC
  refine lv_aload_n hx hb dX5_piece_0 rfl (lv_at hl 0 rfl) ?_
  refine lv_iload_n hx hb dX5_piece_1 rfl (lv_at hl 1 rfl) ?_
  refine g_callV (rest := []) (As := [.int x]) hE hG hl.1 (c_X5_lengthOfForm l hfl D tc A w ca d tk st x hC hOk) z0 rfl mw2_0 mw2_2 mws_1 mw1_1 mw2_3 rfl nm_X5_lengthOfForm ⟨⟨Nat.le_of_ble_eq_true rfl, Nat.le_of_ble_eq_true rfl⟩, Nat.le_of_ble_eq_true rfl, Nat.le_of_ble_eq_true rfl⟩ rfl rfl (Nat.le_of_ble_eq_true rfl) dX5_piece_2 (by subst hQ; exact g_out hE hnt rfl (fun E h => Or.inl h) (Nat.le_of_ble_eq_true rfl) (Nat.le_of_ble_eq_true rfl)) ?_
  intro v9 w9 H locs h9 hG
  obtain ⟨e8, i_1, hi_1, hxi_1, e9⟩ := h9
  rw [e9]; clear e9
  rw [e8] at hG; clear e8
  show W p l e _ s m args below meth c H locs _ _ _ (F0 m 5 ls [.int (d 0 i_1)])
  subst hxi_1
  obtain ⟨hb1, hb2, hb3, hb4⟩ := gLen_n (hOk.2.2.1 i_1 hi_1)
  have b9 := hOk.1.2.1
  rw [hb1]
  refine lv_istore_n (lv' := [(2, .int (nI (d 0 i_1).toNatClampNeg)), (0, .ref (ca 0)), (1, .int (nI i_1))]) hx hb dX5_piece_5 rfl hl (by decide) rfl (fun ls hl => ?_)
  refine lv_aload_n hx hb dX5_piece_6 rfl (lv_at hl 1 rfl) ?_
  refine g_get hE hG z0 rfl inG5 3 (by decide) mw1_104 rfl dX5_piece_7 ?_
  refine lv_aload_n hx hb dX5_piece_10 rfl (lv_at hl 1 rfl) ?_
  refine g_get hE hG z0 rfl inG5 2 (by decide) mw1_103 rfl dX5_piece_11 ?_
  refine g_alen (t0 := 3) (v := 6) hE hG z2 rfl rfl dX5_piece_14 ?_
  refine lv_icmp_lt (tgt := 28) hx hb dX5_piece_15 (by decide) (fun c_2 => ?_) (fun c_2 => ?_)
  · skip
    have hn6 : nP d < 6 := by have h9 := c_2; rw [hOk.2.1.2.1, show (6 : Int32) = nI 6 from rfl, nI_ltI (by omega) (by omega)] at h9; exact h9
    obtain ⟨g1, g2, g3⟩ := zN.1 (nP d) (Nat.le_refl _) hn6
    refine lv_aload_n hx hb dX5_piece_28 rfl (lv_at hl 1 rfl) ?_
    refine g_get hE hG z0 rfl inG5 2 (by decide) mw1_103 rfl dX5_piece_29 ?_
    refine lv_aload_n hx hb dX5_piece_32 rfl (lv_at hl 1 rfl) ?_
    refine g_get hE hG z0 rfl inG5 3 (by decide) mw1_104 rfl dX5_piece_33 ?_
    refine g_new (ci := 2) (fs := [.null, .int 0]) hE hG rfl inG2 tyX2 tyX2_ok mw1_32 mw2_21 mw1_10 (by intro j hj; match j, hj with | 0, _ => rfl | 1, _ => rfl) (Nat.le_of_ble_eq_true rfl) (Nat.le_of_ble_eq_true rfl) (10 + nP d) g1 dX5_piece_36 (fun q_3 H w_4 ew_4 hG => ?_)
    have g_5 : w_4 (20 + nP d) = none := gU_n ew_4 (by omega) g2
    have g_6 : w_4 (30 + nP d) = none := gU_n ew_4 (by omega) g3
    have h_7 : w_4 0 = some ((ca 0), .inr (5, [.ref (ca 1), .int (d 9 0), .ref (ca 2), .int (d 9 1), .ref (ca 3), .int (d 9 10), .int (d 9 11), .ref (ca 5), .int (d 9 12), .ref (ca 6), .int (d 9 13)])) := gU_n ew_4 (by omega) z0
    have h_8 : w_4 1 = some ((ca 1), .inl (tc 0, 4, .inl (d 0))) := gU_n ew_4 (by omega) z1
    have h_9 : w_4 2 = some ((ca 2), .inl (tc 3, 6, .inr (.inr (.inr (.inr (c_pf ca (nP d))))))) := gU_n ew_4 (by omega) z2
    have h_10 : w_4 5 = some ((ca 5), .inl (tc 4, 4, .inr (.inr (.inr (.inr (c_sf ca)))))) := gU_n ew_4 (by omega) z5
    have h_11 : w_4 6 = some ((ca 6), .inl (tc 5, 8, .inr (.inr (.inr (.inr (c_uf ca (nU d))))))) := gU_n ew_4 (by omega) z6
    have h_12 : w_4 3 = some ((ca 3), .inr (4, [.int (d 9 3), .int cy, .int (d 9 4), .int (d 9 5), .int (d 9 6), .int (d 9 7), .int (d 9 8), .int (d 9 2), .int ge, .long tk, .ref (ca 4)])) := gU_n ew_4 (by omega) z3
    have h_13 : w_4 4 = some ((ca 4), .inl (tc 1, 4, .inr (.inl sf))) := gU_n ew_4 (by omega) z4
    have h_14 : w_4 (10 + nP d) = some (q_3, .inr (2, [.null, .int 0])) := gU_s ew_4
    refine lv_dup hx hb dX5_piece_39 rfl ?_
    refine lv_iload_n hx hb dX5_piece_40 rfl (lv_at hl 0 rfl) ?_
    refine g_callI (rest := [.ref q_3, .int (d 9 1), .ref (ca 2)]) (As := [.int (nI (d 0 i_1).toNatClampNeg)]) hE hG hl.1 (c_X2_init l hfl D tc A w_4 (10 + nP d) (20 + nP d) (30 + nP d) q_3 ((d 0 i_1).toNatClampNeg) h_14 g_5 g_6 (by omega) (by omega)) mw2_22 mw2_23 mw1_10 mw2_24 rfl nm_X2_init ⟨⟨Nat.le_of_ble_eq_true rfl, Nat.le_of_ble_eq_true rfl⟩, Nat.le_of_ble_eq_true rfl, Nat.le_of_ble_eq_true rfl⟩ rfl rfl (Nat.le_of_ble_eq_true rfl) dX5_piece_41 ?_
    intro v9 w_15 H locs h9 hG
    obtain ⟨e9, q_16, q_17, ew_15⟩ := h9
    rw [e9]; clear e9
    show W p l e _ s m args below meth c H locs _ _ _ (F0 m 44 ls [.ref q_3, .int (d 9 1), .ref (ca 2)])
    have h_18 : w_15 0 = some ((ca 0), .inr (5, [.ref (ca 1), .int (d 9 0), .ref (ca 2), .int (d 9 1), .ref (ca 3), .int (d 9 10), .int (d 9 11), .ref (ca 5), .int (d 9 12), .ref (ca 6), .int (d 9 13)])) := by rw [ew_15, gU_ne _ _ (by omega), gU_ne _ _ (gU_f g_5 h_7), gU_ne _ _ (gU_f g_6 h_7)]; exact h_7
    have h_19 : w_15 1 = some ((ca 1), .inl (tc 0, 4, .inl (d 0))) := by rw [ew_15, gU_ne _ _ (by omega), gU_ne _ _ (gU_f g_5 h_8), gU_ne _ _ (gU_f g_6 h_8)]; exact h_8
    have h_20 : w_15 2 = some ((ca 2), .inl (tc 3, 6, .inr (.inr (.inr (.inr (c_pf ca (nP d))))))) := by rw [ew_15, gU_ne _ _ (by omega), gU_ne _ _ (gU_f g_5 h_9), gU_ne _ _ (gU_f g_6 h_9)]; exact h_9
    have h_21 : w_15 5 = some ((ca 5), .inl (tc 4, 4, .inr (.inr (.inr (.inr (c_sf ca)))))) := by rw [ew_15, gU_ne _ _ (by omega), gU_ne _ _ (gU_f g_5 h_10), gU_ne _ _ (gU_f g_6 h_10)]; exact h_10
    have h_22 : w_15 6 = some ((ca 6), .inl (tc 5, 8, .inr (.inr (.inr (.inr (c_uf ca (nU d))))))) := by rw [ew_15, gU_ne _ _ (by omega), gU_ne _ _ (gU_f g_5 h_11), gU_ne _ _ (gU_f g_6 h_11)]; exact h_11
    have h_23 : w_15 3 = some ((ca 3), .inr (4, [.int (d 9 3), .int cy, .int (d 9 4), .int (d 9 5), .int (d 9 6), .int (d 9 7), .int (d 9 8), .int (d 9 2), .int ge, .long tk, .ref (ca 4)])) := by rw [ew_15, gU_ne _ _ (by omega), gU_ne _ _ (gU_f g_5 h_12), gU_ne _ _ (gU_f g_6 h_12)]; exact h_12
    have h_24 : w_15 4 = some ((ca 4), .inl (tc 1, 4, .inr (.inl sf))) := by rw [ew_15, gU_ne _ _ (by omega), gU_ne _ _ (gU_f g_5 h_13), gU_ne _ _ (gU_f g_6 h_13)]; exact h_13
    have h_25 : w_15 (30 + nP d) = some (q_17, .inl (tc 0, ((d 0 i_1).toNatClampNeg), .inl (fun _ => 0))) := by rw [ew_15, gU_ne _ _ (by omega), gU_ne _ _ (by omega), gU_same]
    have h_26 : w_15 (20 + nP d) = some (q_16, .inr (1, [.ref q_17])) := by rw [ew_15, gU_ne _ _ (by omega), gU_same]
    have h_27 : w_15 (10 + nP d) = some (q_3, .inr (2, [.ref q_16, .int 0])) := by rw [ew_15, gU_same]
    refine g_aast (t0 := 3) (ci := 2) hE hG h_20 rfl h_27 rfl (arr_in (n := 6) (by decide) (by rw [hOk.2.1.2.1]; exact nI_pos (by omega)) (Int32.not_le.mpr c_2)) dX5_piece_44 (fun H locs w_28 ew_28 hG => ?_)
    have h_29 : w_28 0 = some ((ca 0), .inr (5, [.ref (ca 1), .int (d 9 0), .ref (ca 2), .int (d 9 1), .ref (ca 3), .int (d 9 10), .int (d 9 11), .ref (ca 5), .int (d 9 12), .ref (ca 6), .int (d 9 13)])) := gU_n ew_28 (by decide) h_18
    have h_30 : w_28 1 = some ((ca 1), .inl (tc 0, 4, .inl (d 0))) := gU_n ew_28 (by decide) h_19
    have h_31 : w_28 5 = some ((ca 5), .inl (tc 4, 4, .inr (.inr (.inr (.inr (c_sf ca)))))) := gU_n ew_28 (by decide) h_21
    have h_32 : w_28 6 = some ((ca 6), .inl (tc 5, 8, .inr (.inr (.inr (.inr (c_uf ca (nU d))))))) := gU_n ew_28 (by decide) h_22
    have h_33 : w_28 3 = some ((ca 3), .inr (4, [.int (d 9 3), .int cy, .int (d 9 4), .int (d 9 5), .int (d 9 6), .int (d 9 7), .int (d 9 8), .int (d 9 2), .int ge, .long tk, .ref (ca 4)])) := gU_n ew_28 (by decide) h_23
    have h_34 : w_28 4 = some ((ca 4), .inl (tc 1, 4, .inr (.inl sf))) := gU_n ew_28 (by decide) h_24
    have h_35 : w_28 (30 + nP d) = some (q_17, .inl (tc 0, ((d 0 i_1).toNatClampNeg), .inl (fun _ => 0))) := gU_n ew_28 (by omega) h_25
    have h_36 : w_28 (20 + nP d) = some (q_16, .inr (1, [.ref q_17])) := gU_n ew_28 (by omega) h_26
    have h_37 : w_28 (10 + nP d) = some (q_3, .inr (2, [.ref q_16, .int 0])) := gU_n ew_28 (by omega) h_27
    have h_38 : w_28 2 = some ((ca 2), .inl (tc 3, 6, .inr (.inr (.inr (.inr (va_up (c_pf ca (nP d)) (d 9 1).toNatClampNeg (some q_3))))))) := gU_s ew_28
    refine lv_aload_n hx hb dX5_piece_45 rfl (lv_at hl 1 rfl) ?_
    refine lv_dup hx hb dX5_piece_46 rfl ?_
    refine g_get hE hG h_29 rfl inG5 3 (by decide) mw1_104 rfl dX5_piece_47 ?_
    refine lv_iconst (v := 1) hx hb dX5_piece_50 (by decide) ?_
    refine lv_iadd hx hb dX5_piece_51 ?_
    refine g_put hE hG h_29 rfl inG5 tyX5 tyX5_ok nmX5 3 (by decide) mw1_104 rfl rfl rfl (Nat.le_of_ble_eq_true rfl) dX5_piece_52 (fun H locs w_39 ew_39 hG => ?_)
    have h_40 : w_39 1 = some ((ca 1), .inl (tc 0, 4, .inl (d 0))) := gU_n ew_39 (by decide) h_30
    have h_41 : w_39 5 = some ((ca 5), .inl (tc 4, 4, .inr (.inr (.inr (.inr (c_sf ca)))))) := gU_n ew_39 (by decide) h_31
    have h_42 : w_39 6 = some ((ca 6), .inl (tc 5, 8, .inr (.inr (.inr (.inr (c_uf ca (nU d))))))) := gU_n ew_39 (by decide) h_32
    have h_43 : w_39 3 = some ((ca 3), .inr (4, [.int (d 9 3), .int cy, .int (d 9 4), .int (d 9 5), .int (d 9 6), .int (d 9 7), .int (d 9 8), .int (d 9 2), .int ge, .long tk, .ref (ca 4)])) := gU_n ew_39 (by decide) h_33
    have h_44 : w_39 4 = some ((ca 4), .inl (tc 1, 4, .inr (.inl sf))) := gU_n ew_39 (by decide) h_34
    have h_45 : w_39 (30 + nP d) = some (q_17, .inl (tc 0, ((d 0 i_1).toNatClampNeg), .inl (fun _ => 0))) := gU_n ew_39 (by omega) h_35
    have h_46 : w_39 (20 + nP d) = some (q_16, .inr (1, [.ref q_17])) := gU_n ew_39 (by omega) h_36
    have h_47 : w_39 (10 + nP d) = some (q_3, .inr (2, [.ref q_16, .int 0])) := gU_n ew_39 (by omega) h_37
    have h_48 : w_39 2 = some ((ca 2), .inl (tc 3, 6, .inr (.inr (.inr (.inr (va_up (c_pf ca (nP d)) (d 9 1).toNatClampNeg (some q_3))))))) := gU_n ew_39 (by decide) h_38
    have h_49 : w_39 0 = some ((ca 0), .inr (5, [.ref (ca 1), .int (d 9 0), .ref (ca 2), .int ((d 9 1) + 1), .ref (ca 3), .int (d 9 10), .int (d 9 11), .ref (ca 5), .int (d 9 12), .ref (ca 6), .int (d 9 13)])) := gU_s ew_39
    refine lv_aload_n hx hb dX5_piece_55 rfl (lv_at hl 1 rfl) ?_
    refine g_get hE hG h_49 rfl inG5 3 (by decide) mw1_104 rfl dX5_piece_56 ?_
    refine lv_iconst (v := 1) hx hb dX5_piece_59 (by decide) ?_
    refine lv_isub hx hb dX5_piece_60 ?_
    subst hQ
    exact g_iret hE hG hr (Nat.le_of_ble_eq_true rfl) (Nat.le_of_ble_eq_true rfl) dX5_piece_61 ⟨m_go_i (isForm_s hOk hi_1) (by unfold gb_piece; rw [if_neg (Int32.not_le.mpr c_2)]; decide) one_nz, rfl, (by obtain ⟨c9, e9, h9⟩ := (cW_piece hC hOk hF hi_1 hn6 (fun k j0 j1 j2 j3 j4 => by rw [ew_39, ew_28, ew_15, ew_4, gU_ne _ _ (by omega), gU_ne _ _ (by omega), gU_ne _ _ (by omega), gU_ne _ _ (by omega), gU_ne _ _ (by omega), gU_ne _ _ (by omega)]) h_49 h_48 h_47 h_46 h_45); exact ⟨c9, e9, cW_l h9 0⟩), (fun k hk => by rw [ew_39, ew_28, ew_15, ew_4, gU_ne _ _ (by omega), gU_ne _ _ (by omega), gU_ne _ _ (by omega), gU_ne _ _ (by omega), gU_ne _ _ (by omega), gU_ne _ _ (by omega)])⟩
  · skip
    subst hQ
    exact g_thr (E := gIS) hfl hE hG hl.1 hnt gTgIS (List.mem_of_getElem? (i := 3) rfl) dX5_piece_18 dX5_piece_21 dX5_piece_22 dX5_piece_24 dX5_piece_27 (by refine ⟨?_, ?_, ?_, ?_, ?_, ?_⟩ <;> exact Nat.le_of_ble_eq_true rfl) rfl (Or.inr (Or.inl ⟨isForm_s hOk hi_1, by unfold gb_piece; rw [if_pos (Int32.not_lt.mp c_2)], rfl⟩))
abbrev rm_X5_player : Room := { frames := 7, cells := 10, slots := 60, locals := 266 }
theorem nm_X5_player : gNm yX5_player 1 := ⟨by decide +kernel, by decide +kernel, by decide +kernel⟩
set_option maxHeartbeats 4000000 in
set_option maxRecDepth 100000 in
theorem c_X5_player (l : Launch) (hfl : l.stackTraces = false) (D : va_G) (tc : Nat → ClassId) (A : Nat → Prop) (w : gW) (ca : Nat → Nat) (d : gDt) (tk : Int64) (st : Nat → Int64) (x : Int32) (hC : cW tc w ca d tk st) (hOk : mOk d) : gM l yX5_player cX5_player 2 (some .int) rm_X5_player D tc A [.ref (ca 0), .int x] w (fun v w' => ¬ m_go (ga_player d x) (gb_player d x) (gc_player d x) = 0 ∧ v = some (.int (d 9 13 + 1 - 1)) ∧ (∃ ca' : Nat → Nat, ca' 0 = ca 0 ∧ cW tc w' ca' (sL (gD (gD d 6 (upd (d 6) (d 9 13).toNatClampNeg x)) 9 (upd (d 9) 13 (d 9 13 + 1))) 0) tk st) ∧ gK w w') (c_thr gIA gIS gIS (ga_player d x) (gb_player d x) (gc_player d x)) := by
  refine gM_of (by decide +kernel) (Nat.le_of_ble_eq_true rfl) ?_
  intro p e s m args below meth c ls Q hQ hE hG hr hnt hnm hl
  have hx := hE.1
  have hb := hE.2.1
  have hl : lv_has ls 2 [(0, .ref (ca 0)), (1, .int x)] := hl
  obtain ⟨⟨z0, z1, z2, z5, z6⟩, ⟨cy, ge, sf, z3, z4, hsf, hce, hcy⟩, zP, zS, zU, zV, zN⟩ := id hC
  refine lv_iload_n hx hb dX5_player_0 rfl (lv_at hl 1 rfl) ?_
  refine lv_if_lt (tgt := 10) hx hb dX5_player_1 (by decide) (fun c_1 => ?_) (fun c_1 => ?_)
  · skip
    subst hQ
    exact g_thr (E := gIA) hfl hE hG hl.1 hnt gTgIA (List.mem_of_getElem? (i := 16) rfl) dX5_player_10 dX5_player_13 dX5_player_14 dX5_player_16 dX5_player_19 (by refine ⟨?_, ?_, ?_, ?_, ?_, ?_⟩ <;> exact Nat.le_of_ble_eq_true rfl) rfl (Or.inl ⟨rng_lo c_1, rfl⟩)
  · skip
    refine lv_iload_n hx hb dX5_player_4 rfl (lv_at hl 1 rfl) ?_
    refine lv_bipush (v := 15) hx hb dX5_player_5 (by decide) ?_
    refine lv_icmp_le (tgt := 20) hx hb dX5_player_7 (by decide) (fun c_2 => ?_) (fun c_2 => ?_)
    · skip
      refine lv_aload_n hx hb dX5_player_20 rfl (lv_at hl 0 rfl) ?_
      refine g_get hE hG z0 rfl inG5 10 (by decide) mw1_111 rfl dX5_player_21 ?_
      refine lv_aload_n hx hb dX5_player_24 rfl (lv_at hl 0 rfl) ?_
      refine g_get hE hG z0 rfl inG5 9 (by decide) mw1_110 rfl dX5_player_25 ?_
      refine g_alen (t0 := 5) (v := 8) hE hG z6 rfl rfl dX5_player_28 ?_
      refine lv_icmp_lt (tgt := 42) hx hb dX5_player_29 (by decide) (fun c_3 => ?_) (fun c_3 => ?_)
      · skip
        have b9 := hOk.1.2.2
        have hn8 : nU d < 8 := by have h9 := c_3; rw [hOk.2.1.2.2, show (8 : Int32) = nI 8 from rfl, nI_ltI (by omega) (by omega)] at h9; exact h9
        obtain ⟨g1, g2⟩ := zN.2.1 (nU d) (Nat.le_refl _) hn8
        refine lv_aload_n hx hb dX5_player_42 rfl (lv_at hl 0 rfl) ?_
        refine g_get hE hG z0 rfl inG5 9 (by decide) mw1_110 rfl dX5_player_43 ?_
        refine lv_aload_n hx hb dX5_player_46 rfl (lv_at hl 0 rfl) ?_
        refine g_get hE hG z0 rfl inG5 10 (by decide) mw1_111 rfl dX5_player_47 ?_
        refine g_new (ci := 3) (fs := [.int 0, .null]) hE hG rfl inG3 tyX3 tyX3_ok mw1_85 mw2_89 mw1_13 (by intro j hj; match j, hj with | 0, _ => rfl | 1, _ => rfl) (Nat.le_of_ble_eq_true rfl) (Nat.le_of_ble_eq_true rfl) (40 + nU d) g1 dX5_player_50 (fun q_4 H w_5 ew_5 hG => ?_)
        have g_6 : w_5 (50 + nU d) = none := gU_n ew_5 (by omega) g2
        have h_7 : w_5 0 = some ((ca 0), .inr (5, [.ref (ca 1), .int (d 9 0), .ref (ca 2), .int (d 9 1), .ref (ca 3), .int (d 9 10), .int (d 9 11), .ref (ca 5), .int (d 9 12), .ref (ca 6), .int (d 9 13)])) := gU_n ew_5 (by omega) z0
        have h_8 : w_5 1 = some ((ca 1), .inl (tc 0, 4, .inl (d 0))) := gU_n ew_5 (by omega) z1
        have h_9 : w_5 2 = some ((ca 2), .inl (tc 3, 6, .inr (.inr (.inr (.inr (c_pf ca (nP d))))))) := gU_n ew_5 (by omega) z2
        have h_10 : w_5 5 = some ((ca 5), .inl (tc 4, 4, .inr (.inr (.inr (.inr (c_sf ca)))))) := gU_n ew_5 (by omega) z5
        have h_11 : w_5 6 = some ((ca 6), .inl (tc 5, 8, .inr (.inr (.inr (.inr (c_uf ca (nU d))))))) := gU_n ew_5 (by omega) z6
        have h_12 : w_5 3 = some ((ca 3), .inr (4, [.int (d 9 3), .int cy, .int (d 9 4), .int (d 9 5), .int (d 9 6), .int (d 9 7), .int (d 9 8), .int (d 9 2), .int ge, .long tk, .ref (ca 4)])) := gU_n ew_5 (by omega) z3
        have h_13 : w_5 4 = some ((ca 4), .inl (tc 1, 4, .inr (.inl sf))) := gU_n ew_5 (by omega) z4
        have h_14 : w_5 (40 + nU d) = some (q_4, .inr (3, [.int 0, .null])) := gU_s ew_5
        refine lv_dup hx hb dX5_player_53 rfl ?_
        refine lv_iload_n hx hb dX5_player_54 rfl (lv_at hl 1 rfl) ?_
        refine g_callI (rest := [.ref q_4, .int (d 9 13), .ref (ca 6)]) (As := [.int x]) hE hG hl.1 (c_X3_init l hfl D tc A w_5 (40 + nU d) (50 + nU d) q_4 x h_14 g_6) mw2_90 mw2_91 mw1_13 mw2_92 rfl nm_X3_init ⟨⟨Nat.le_of_ble_eq_true rfl, Nat.le_of_ble_eq_true rfl⟩, Nat.le_of_ble_eq_true rfl, Nat.le_of_ble_eq_true rfl⟩ rfl rfl (Nat.le_of_ble_eq_true rfl) dX5_player_55 ?_
        intro v9 w_15 H locs h9 hG
        obtain ⟨e9, q_16, ew_15⟩ := h9
        rw [e9]; clear e9
        show W p l e _ s m args below meth c H locs _ _ _ (F0 m 58 ls [.ref q_4, .int (d 9 13), .ref (ca 6)])
        have h_17 : w_15 0 = some ((ca 0), .inr (5, [.ref (ca 1), .int (d 9 0), .ref (ca 2), .int (d 9 1), .ref (ca 3), .int (d 9 10), .int (d 9 11), .ref (ca 5), .int (d 9 12), .ref (ca 6), .int (d 9 13)])) := by rw [ew_15, gU_ne _ _ (by omega), gU_ne _ _ (gU_f g_6 h_7)]; exact h_7
        have h_18 : w_15 1 = some ((ca 1), .inl (tc 0, 4, .inl (d 0))) := by rw [ew_15, gU_ne _ _ (by omega), gU_ne _ _ (gU_f g_6 h_8)]; exact h_8
        have h_19 : w_15 2 = some ((ca 2), .inl (tc 3, 6, .inr (.inr (.inr (.inr (c_pf ca (nP d))))))) := by rw [ew_15, gU_ne _ _ (by omega), gU_ne _ _ (gU_f g_6 h_9)]; exact h_9
        have h_20 : w_15 5 = some ((ca 5), .inl (tc 4, 4, .inr (.inr (.inr (.inr (c_sf ca)))))) := by rw [ew_15, gU_ne _ _ (by omega), gU_ne _ _ (gU_f g_6 h_10)]; exact h_10
        have h_21 : w_15 6 = some ((ca 6), .inl (tc 5, 8, .inr (.inr (.inr (.inr (c_uf ca (nU d))))))) := by rw [ew_15, gU_ne _ _ (by omega), gU_ne _ _ (gU_f g_6 h_11)]; exact h_11
        have h_22 : w_15 3 = some ((ca 3), .inr (4, [.int (d 9 3), .int cy, .int (d 9 4), .int (d 9 5), .int (d 9 6), .int (d 9 7), .int (d 9 8), .int (d 9 2), .int ge, .long tk, .ref (ca 4)])) := by rw [ew_15, gU_ne _ _ (by omega), gU_ne _ _ (gU_f g_6 h_12)]; exact h_12
        have h_23 : w_15 4 = some ((ca 4), .inl (tc 1, 4, .inr (.inl sf))) := by rw [ew_15, gU_ne _ _ (by omega), gU_ne _ _ (gU_f g_6 h_13)]; exact h_13
        have h_24 : w_15 (50 + nU d) = some (q_16, .inl (tc 6, 6, .inr (.inr (.inr (.inr (fun _ => none)))))) := by rw [ew_15, gU_ne _ _ (by omega), gU_same]
        have h_25 : w_15 (40 + nU d) = some (q_4, .inr (3, [.int x, .ref q_16])) := by rw [ew_15, gU_same]
        refine g_aast (t0 := 5) (ci := 3) hE hG h_21 rfl h_25 rfl (arr_in (n := 8) (by decide) (by rw [hOk.2.1.2.2]; exact nI_pos (by omega)) (Int32.not_le.mpr c_3)) dX5_player_58 (fun H locs w_26 ew_26 hG => ?_)
        have h_27 : w_26 0 = some ((ca 0), .inr (5, [.ref (ca 1), .int (d 9 0), .ref (ca 2), .int (d 9 1), .ref (ca 3), .int (d 9 10), .int (d 9 11), .ref (ca 5), .int (d 9 12), .ref (ca 6), .int (d 9 13)])) := gU_n ew_26 (by decide) h_17
        have h_28 : w_26 1 = some ((ca 1), .inl (tc 0, 4, .inl (d 0))) := gU_n ew_26 (by decide) h_18
        have h_29 : w_26 2 = some ((ca 2), .inl (tc 3, 6, .inr (.inr (.inr (.inr (c_pf ca (nP d))))))) := gU_n ew_26 (by decide) h_19
        have h_30 : w_26 5 = some ((ca 5), .inl (tc 4, 4, .inr (.inr (.inr (.inr (c_sf ca)))))) := gU_n ew_26 (by decide) h_20
        have h_31 : w_26 3 = some ((ca 3), .inr (4, [.int (d 9 3), .int cy, .int (d 9 4), .int (d 9 5), .int (d 9 6), .int (d 9 7), .int (d 9 8), .int (d 9 2), .int ge, .long tk, .ref (ca 4)])) := gU_n ew_26 (by decide) h_22
        have h_32 : w_26 4 = some ((ca 4), .inl (tc 1, 4, .inr (.inl sf))) := gU_n ew_26 (by decide) h_23
        have h_33 : w_26 (50 + nU d) = some (q_16, .inl (tc 6, 6, .inr (.inr (.inr (.inr (fun _ => none)))))) := gU_n ew_26 (by omega) h_24
        have h_34 : w_26 (40 + nU d) = some (q_4, .inr (3, [.int x, .ref q_16])) := gU_n ew_26 (by omega) h_25
        have h_35 : w_26 6 = some ((ca 6), .inl (tc 5, 8, .inr (.inr (.inr (.inr (va_up (c_uf ca (nU d)) (d 9 13).toNatClampNeg (some q_4))))))) := gU_s ew_26
        refine lv_aload_n hx hb dX5_player_59 rfl (lv_at hl 0 rfl) ?_
        refine lv_dup hx hb dX5_player_60 rfl ?_
        refine g_get hE hG h_27 rfl inG5 10 (by decide) mw1_111 rfl dX5_player_61 ?_
        refine lv_iconst (v := 1) hx hb dX5_player_64 (by decide) ?_
        refine lv_iadd hx hb dX5_player_65 ?_
        refine g_put hE hG h_27 rfl inG5 tyX5 tyX5_ok nmX5 10 (by decide) mw1_111 rfl rfl rfl (Nat.le_of_ble_eq_true rfl) dX5_player_66 (fun H locs w_36 ew_36 hG => ?_)
        have h_37 : w_36 1 = some ((ca 1), .inl (tc 0, 4, .inl (d 0))) := gU_n ew_36 (by decide) h_28
        have h_38 : w_36 2 = some ((ca 2), .inl (tc 3, 6, .inr (.inr (.inr (.inr (c_pf ca (nP d))))))) := gU_n ew_36 (by decide) h_29
        have h_39 : w_36 5 = some ((ca 5), .inl (tc 4, 4, .inr (.inr (.inr (.inr (c_sf ca)))))) := gU_n ew_36 (by decide) h_30
        have h_40 : w_36 3 = some ((ca 3), .inr (4, [.int (d 9 3), .int cy, .int (d 9 4), .int (d 9 5), .int (d 9 6), .int (d 9 7), .int (d 9 8), .int (d 9 2), .int ge, .long tk, .ref (ca 4)])) := gU_n ew_36 (by decide) h_31
        have h_41 : w_36 4 = some ((ca 4), .inl (tc 1, 4, .inr (.inl sf))) := gU_n ew_36 (by decide) h_32
        have h_42 : w_36 (50 + nU d) = some (q_16, .inl (tc 6, 6, .inr (.inr (.inr (.inr (fun _ => none)))))) := gU_n ew_36 (by omega) h_33
        have h_43 : w_36 (40 + nU d) = some (q_4, .inr (3, [.int x, .ref q_16])) := gU_n ew_36 (by omega) h_34
        have h_44 : w_36 6 = some ((ca 6), .inl (tc 5, 8, .inr (.inr (.inr (.inr (va_up (c_uf ca (nU d)) (d 9 13).toNatClampNeg (some q_4))))))) := gU_n ew_36 (by decide) h_35
        have h_45 : w_36 0 = some ((ca 0), .inr (5, [.ref (ca 1), .int (d 9 0), .ref (ca 2), .int (d 9 1), .ref (ca 3), .int (d 9 10), .int (d 9 11), .ref (ca 5), .int (d 9 12), .ref (ca 6), .int ((d 9 13) + 1)])) := gU_s ew_36
        refine lv_aload_n hx hb dX5_player_69 rfl (lv_at hl 0 rfl) ?_
        refine g_get hE hG h_45 rfl inG5 10 (by decide) mw1_111 rfl dX5_player_70 ?_
        refine lv_iconst (v := 1) hx hb dX5_player_73 (by decide) ?_
        refine lv_isub hx hb dX5_player_74 ?_
        subst hQ
        exact g_iret hE hG hr (Nat.le_of_ble_eq_true rfl) (Nat.le_of_ble_eq_true rfl) dX5_player_75 ⟨m_go_i (f_in_ok c_1 (Int32.not_lt.mpr c_2)) (by unfold gb_player; rw [if_neg (Int32.not_le.mpr c_3)]; decide) one_nz, rfl, (by obtain ⟨c9, e9, h9⟩ := (cW_player hC hOk hn8 (fun k j0 j1 j2 j3 => by rw [ew_36, ew_26, ew_15, ew_5, gU_ne _ _ (by omega), gU_ne _ _ (by omega), gU_ne _ _ (by omega), gU_ne _ _ (by omega), gU_ne _ _ (by omega)]) h_45 h_44 h_43 h_42); exact ⟨c9, e9, cW_l h9 0⟩), (fun k hk => by rw [ew_36, ew_26, ew_15, ew_5, gU_ne _ _ (by omega), gU_ne _ _ (by omega), gU_ne _ _ (by omega), gU_ne _ _ (by omega), gU_ne _ _ (by omega)])⟩
      · skip
        subst hQ
        exact g_thr (E := gIS) hfl hE hG hl.1 hnt gTgIS (List.mem_of_getElem? (i := 17) rfl) dX5_player_32 dX5_player_35 dX5_player_36 dX5_player_38 dX5_player_41 (by refine ⟨?_, ?_, ?_, ?_, ?_, ?_⟩ <;> exact Nat.le_of_ble_eq_true rfl) rfl (Or.inr (Or.inl ⟨f_in_ok c_1 (Int32.not_lt.mpr c_2), by unfold gb_player; rw [if_pos (Int32.not_lt.mp c_3)], rfl⟩))
    · skip
      subst hQ
      exact g_thr (E := gIA) hfl hE hG hl.1 hnt gTgIA (List.mem_of_getElem? (i := 16) rfl) dX5_player_10 dX5_player_13 dX5_player_14 dX5_player_16 dX5_player_19 (by refine ⟨?_, ?_, ?_, ?_, ?_, ?_⟩ <;> exact Nat.le_of_ble_eq_true rfl) rfl (Or.inl ⟨rng_hi (Int32.not_le.mp c_2), rfl⟩)
