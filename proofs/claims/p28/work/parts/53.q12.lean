/-! how the law begins -/
def rK (d : gDt) (gc : Nat → Int64) (gm : Nat → Int32) (k u : Nat) : Prop := (nF d = k ∧ nP d = k ∧ nU d = u) ∧ ∀ i, i < k → d 1 i = nI i ∧ (∃ q, 1 ≤ q ∧ q ≤ 4 ∧ d 0 i = nI (4 * q)) ∧ gm i = d 0 i ∧ gm (2 + i) = d 2 i ∧ (∃ f, f < 32 ∧ d 2 i = nI f) ∧ rRow (gc i) (lenN d i) (fun j => d 3 (65 * i + j))
def rZ (d : gDt) (gc : Nat → Int64) (gm : Nat → Int32) (k : Nat) : Prop := (∀ i, k ≤ i → i < 2 → gm (2 + i) = 0 ∧ gc i = 0) ∧ rB d gm ∧ rT gc 0 (fun _ => 0) ∧ (∀ j, d 7 j = 0) ∧ (∀ s j, s < 4 → j < 7 → d 4 (8 * s + j + 1) = 44000) ∧ ∀ s, s < 4 → d 5 s = 0
def bS (d : gDt) (gc : Nat → Int64) (gm : Nat → Int32) (k B : Nat) : Prop := rK d gc gm k 0 ∧ rZ d gc gm k ∧ iOk d B
theorem rK_len {d : gDt} {gc : Nat → Int64} {gm : Nat → Int32} {k u i : Nat} (h : rK d gc gm k u) (hk : k ≤ 2) (hi : i < k) : ∃ q, 1 ≤ q ∧ q ≤ 4 ∧ lenN d i = 4 * q ∧ d 0 i = nI (4 * q) ∧ gm i = nI (4 * q) := by
  obtain ⟨h3, ⟨q, h4, h5, h6⟩, h7, -⟩ := h.2 i hi
  refine ⟨q, h4, h5, ?_, h6, h7.trans h6⟩
  unfold lenN
  rw [h3, nI_clamp (by omega), h6, nI_clamp (by omega)]
theorem rRow_z {n : Nat} {f : Nat → Int32} (h : ∀ q, q < n → f (q + 1) = 0) : rRow 0 n f := rRow_cg (rRow_0 n) rfl h
theorem piece_new {d d1 d2 : gDt} {gc : Nat → Int64} {gm : Nat → Int32} {k q B B2 : Nat} (h : bS d gc gm k B) (hk : k < 2) (h1 : 1 ≤ q) (h4 : q ≤ 4) (e1 : d1 = sL (gD (gD d 0 (upd (d 0) (d 9 0).toNatClampNeg (nI (4 * q)))) 9 (upd (d 9) 0 (d 9 0 + 1))) 0) (e2 : d2 = sL (gD (gD d1 1 (upd (d1 1) (d1 9 1).toNatClampNeg (nI k))) 9 (upd (d1 9) 1 (d1 9 1 + 1))) 0) (hI2 : iOk d2 B2) : bS d2 gc (upd gm k (nI (4 * q))) (k + 1) B2 ∧ lenN d2 k = 4 * q ∧ ∀ j, 1 ≤ j → j ≤ 64 → d2 3 (65 * k + j) = 0 := by
  obtain ⟨⟨⟨n1, n2, n3⟩, hi⟩, ⟨z1, z2, z3, z4, z5, z6⟩, hI⟩ := h
  have a0 : d 9 0 = nI k := by rw [hI.1.2.1.1, n1]
  have a1 : d 9 1 = nI k := by rw [hI.1.2.1.2.1, n2]
  have b0 : d2 0 = upd (d 0) k (nI (4 * q)) := by
    rw [e2, e1]; show upd (d 0) (d 9 0).toNatClampNeg (nI (4 * q)) = _; rw [a0, nI_clamp (by omega)]
  have b1 : d2 1 = upd (d 1) k (nI k) := by
    rw [e2, e1]; show upd (d 1) (d 9 1).toNatClampNeg (nI k) = _; rw [a1, nI_clamp (by omega)]
  have b2 : d2 2 = d 2 := by rw [e2, e1]; rfl
  have b3 : d2 3 = d 3 := by rw [e2, e1]; rfl
  have c0 : d2 9 0 = nI (k + 1) := by rw [e2, e1]; show d 9 0 + 1 = _; rw [a0, nI_1]
  have c1 : d2 9 1 = nI (k + 1) := by rw [e2, e1]; show d 9 1 + 1 = _; rw [a1, nI_1]
  have c13 : d2 9 13 = d 9 13 := by rw [e2, e1]; rfl
  have f3 := hI.2.1 k (by rw [n2]; exact Nat.le_refl _) (by omega)
  have lk : lenN d2 k = 4 * q := by
    unfold lenN
    rw [b0, b1, pk_us, nI_clamp (by omega), pk_us, nI_clamp (by omega)]
  refine ⟨⟨⟨⟨by unfold nF; rw [c0, nI_clamp (by omega)], by unfold nP; rw [c1, nI_clamp (by omega)], by unfold nU; rw [c13]; exact n3⟩, fun i hi2 => ?_⟩, ⟨fun i g1 g2 => ⟨(pk_un (by omega)).trans (z1 i (by omega) g2).1, (z1 i (by omega) g2).2⟩, ?_, z3, ?_, ?_, ?_⟩, hI2⟩, lk, fun j j1 j2 => by rw [b3]; exact f3.2 j j1 j2⟩
  · by_cases e : i = k
    · subst e
      rw [b0, b1, b2, b3, pk_us, pk_us, pk_us, lk]
      refine ⟨rfl, ⟨q, h1, h4, rfl⟩, rfl, ?_, ⟨0, by decide, f3.1⟩, ?_⟩
      · rw [pk_un (by omega), f3.1]; exact (z1 i (Nat.le_refl _) hk).1
      · rw [(z1 i (Nat.le_refl _) hk).2]
        exact rRow_z (fun q2 hq2 => f3.2 (q2 + 1) (by omega) (by omega))
    · obtain ⟨g1, g2, g3, g4, g5, g6⟩ := hi i (by omega)
      have li : lenN d2 i = lenN d i := by
        unfold lenN
        rw [b0, b1, pk_un e, g1, nI_clamp (by omega), pk_un e]
      rw [b0, b1, b2, b3, pk_un e, pk_un e, pk_un e, pk_un (by omega), li]
      exact ⟨g1, g2, g3, g4, g5, g6⟩
  · have hb : rB d2 gm := by rw [e2, e1]; exact z2
    obtain ⟨⟨m4, m5, m6, m7, m8, m9, m10, m11, m12, m13, m14⟩, hb2⟩ := hb
    exact ⟨⟨(pk_un (by omega)).trans m4, (pk_un (by omega)).trans m5, (pk_un (by omega)).trans m6, (pk_un (by omega)).trans m7, (pk_un (by omega)).trans m8, (pk_un (by omega)).trans m9, (pk_un (by omega)).trans m10, (pk_un (by omega)).trans m11, (pk_un (by omega)).trans m12, (pk_un (by omega)).trans m13, (pk_un (by omega)).trans m14⟩, hb2⟩
  · rw [e2, e1]; exact z4
  · rw [e2, e1]; exact z5
  · rw [e2, e1]; exact z6
theorem tone_rK {d d' : gDt} {gc : Nat → Int64} {gm : Nat → Int32} {K u k n to : Nat} (h : rK d gc gm K u) (hK : K ≤ 2) (hk : k < K) (hn : n < lenN d k) (ht : to < 8) (e0 : d' 0 = d 0) (e1 : d' 1 = d 1) (e2 : d' 2 = d 2) (e9 : d' 9 0 = d 9 0 ∧ d' 9 1 = d 9 1 ∧ d' 9 13 = d 9 13) (h3 : d' 3 (65 * k + (n + 1)) = nI to) (ho : ∀ j, j ≠ 65 * k + (n + 1) → d' 3 j = d 3 j) : rK d' (vp_updL gc k (f_wiL (gc k) (nI (n + 1)) (nI to))) gm K u := by
  refine ⟨⟨by unfold nF; rw [e9.1]; exact h.1.1, by unfold nP; rw [e9.2.1]; exact h.1.2.1, by unfold nU; rw [e9.2.2]; exact h.1.2.2⟩, fun i hi => ?_⟩
  obtain ⟨g1, g2, g3, g4, g5, g6⟩ := h.2 i hi
  obtain ⟨q, -, hq4, hlen, -⟩ := rK_len h hK hi
  obtain ⟨q5, -, hq5, hlen5, -⟩ := rK_len h hK hk
  have li : lenN d' i = lenN d i := by unfold lenN; rw [e0, e1]
  rw [e0, e1, e2, li]
  refine ⟨g1, g2, g3, g4, g5, ?_⟩
  by_cases e : i = k
  · subst e
    rw [pk_uLs]
    exact rRow_wi (f' := fun j => d' 3 (65 * i + j)) g6 (by omega) hn ht h3 (fun q2 hq2 hne => ho _ (by omega))
  · rw [pk_uLn e]
    exact rRow_cg g6 rfl (fun q2 hq2 => ho _ (by omega))
theorem rZ_c {d d' : gDt} {gc : Nat → Int64} {gm : Nat → Int32} {k K : Nat} {x : Int64} (h : rZ d gc gm K) (hk : k < K) (hK : K ≤ 2) (h9 : d' 9 = d 9 ∨ d' 9 = upd (d 9) 14 0) (h7 : d' 7 = d 7) (h4 : d' 4 = d 4) (h5 : d' 5 = d 5) : rZ d' (vp_updL gc k x) gm K := by
  obtain ⟨z1, z2, z3, z4, z5, z6⟩ := h
  refine ⟨fun i g1 g2 => ⟨(z1 i g1 g2).1, (pk_uLn (by omega)).trans (z1 i g1 g2).2⟩, ?_, ⟨(pk_uLn (by omega)).trans z3.1, fun j hj => (pk_uLn (by omega)).trans (z3.2 j hj)⟩, by rw [h7]; exact z4, by rw [h4]; exact z5, by rw [h5]; exact z6⟩
  unfold rB
  rcases h9 with h9 | h9
  · rw [h9]; exact z2
  · rw [h9]; exact z2
theorem tone_new {d : gDt} {gc : Nat → Int64} {gm : Nat → Int32} {k n to B B2 : Nat} (h : bS d gc gm (k + 1) B) (hk : k < 2) (hn : n < lenN d k) (ht : to < 8) (hI2 : iOk (sL (gD d 3 (upd (d 3) ((65 : Int32) * nI k + nI (n + 1)).toNatClampNeg (nI to))) 0) B2) : bS (sL (gD d 3 (upd (d 3) ((65 : Int32) * nI k + nI (n + 1)).toNatClampNeg (nI to))) 0) (vp_updL gc k (f_wiL (gc k) (nI (n + 1)) (nI to))) gm (k + 1) B2 := by
  have ix := tone_ix (i := k) (j := n) h.2.2.1 (by rw [h.1.1.2.1]; omega) hn
  refine ⟨tone_rK h.1 (by omega) (by omega) hn ht rfl rfl rfl ⟨rfl, rfl, rfl⟩ ?_ ?_, rZ_c h.2.1 (by omega) (by omega) (Or.inr rfl) rfl rfl rfl, hI2⟩
  · show upd (d 3) _ _ _ = _
    rw [ix]; exact pk_us
  · intro j hj
    show upd (d 3) _ _ _ = _
    rw [ix]; exact pk_un hj
theorem tone_old {d : gDt} {gc : Nat → Int64} {gm : Nat → Int32} {k n B : Nat} (h : bS d gc gm (k + 1) B) (hk : k < 2) (hn : n < lenN d k) (h0 : d 3 (65 * k + (n + 1)) = 0) : bS d (vp_updL gc k (f_wiL (gc k) (nI (n + 1)) 0)) gm (k + 1) B :=
  ⟨tone_rK (to := 0) h.1 (by omega) (by omega) hn (by decide) rfl rfl rfl ⟨rfl, rfl, rfl⟩ h0 (fun _ _ => rfl), rZ_c h.2.1 (by omega) (by omega) (Or.inl rfl) rfl rfl rfl, h.2.2⟩
/-- players -/
def bP (d : gDt) (gc : Nat → Int64) (gm : Nat → Int32) (u B : Nat) : Prop := rK d gc gm 2 u ∧ rZ d gc gm 2 ∧ (∀ v, v < u → gm (15 + v) = d 6 v ∧ (∃ a, a < 16 ∧ d 6 v = nI a) ∧ ∀ i, i < 2 → gc (2 + 2 * v + i) = -1) ∧ iOk d B
theorem player_new {d d1 : gDt} {gc : Nat → Int64} {gm : Nat → Int32} {u a B B2 : Nat} (h : bP d gc gm u B) (hu : u < 4) (ha : a < 16) (e1 : d1 = sL (gD (gD d 6 (upd (d 6) (d 9 13).toNatClampNeg (nI a))) 9 (upd (d 9) 13 (d 9 13 + 1))) 0) (hI2 : iOk d1 B2) : bP d1 (vp_updL (vp_updL gc (2 + 2 * u) (-1)) (3 + 2 * u) (-1)) (upd gm (15 + u) (nI a)) (u + 1) B2 := by
  obtain ⟨⟨⟨n1, n2, n3⟩, hi⟩, ⟨z1, z2, z3, z4, z5, z6⟩, hv, hI⟩ := h
  have a13 : d 9 13 = nI u := by rw [hI.1.2.1.2.2, n3]
  have b6 : d1 6 = upd (d 6) u (nI a) := by
    rw [e1]; show upd (d 6) (d 9 13).toNatClampNeg (nI a) = _; rw [a13, nI_clamp (by omega)]
  have c13 : d1 9 13 = nI (u + 1) := by rw [e1]; show d 9 13 + 1 = _; rw [a13, nI_1]
  have gcx : ∀ j, j ≠ 2 + 2 * u → j ≠ 3 + 2 * u → vp_updL (vp_updL gc (2 + 2 * u) (-1)) (3 + 2 * u) (-1) j = gc j := fun j j1 j2 => (pk_uLn j2).trans (pk_uLn j1)
  refine ⟨⟨⟨by rw [e1]; exact n1, by rw [e1]; exact n2, by unfold nU; rw [c13, nI_clamp (by omega)]⟩, fun i hi2 => ?_⟩, ⟨fun i g1 g2 => absurd g1 (by omega), ?_, ⟨(gcx _ (by omega) (by omega)).trans z3.1, fun j hj => (gcx _ (by omega) (by omega)).trans (z3.2 j hj)⟩, by rw [e1]; exact z4, by rw [e1]; exact z5, by rw [e1]; exact z6⟩, fun v hv2 => ?_, hI2⟩
  · rw [gcx i (by omega) (by omega), pk_un (by omega), pk_un (by omega), e1]
    exact hi i hi2
  · have hb : rB d1 gm := by rw [e1]; exact z2
    obtain ⟨⟨m4, m5, m6, m7, m8, m9, m10, m11, m12, m13, m14⟩, hb2⟩ := hb
    exact ⟨⟨(pk_un (by omega)).trans m4, (pk_un (by omega)).trans m5, (pk_un (by omega)).trans m6, (pk_un (by omega)).trans m7, (pk_un (by omega)).trans m8, (pk_un (by omega)).trans m9, (pk_un (by omega)).trans m10, (pk_un (by omega)).trans m11, (pk_un (by omega)).trans m12, (pk_un (by omega)).trans m13, (pk_un (by omega)).trans m14⟩, hb2⟩
  · rw [b6]
    by_cases e : v = u
    · subst e
      rw [pk_us, pk_us]
      refine ⟨rfl, ⟨a, ha, rfl⟩, fun i hi2 => ?_⟩
      match i, hi2 with
      | 0, _ => exact (pk_uLn (by omega)).trans pk_uLs
      | 1, _ => rw [show 2 + 2 * v + 1 = 3 + 2 * v by omega]; exact pk_uLs
    · obtain ⟨g1, g2, g3⟩ := hv v (by omega)
      rw [pk_un (by omega), pk_un e]
      exact ⟨g1, g2, fun i hi2 => (gcx _ (by omega) (by omega)).trans (g3 i hi2)⟩
theorem bS_bP {d : gDt} {gc : Nat → Int64} {gm : Nat → Int32} {B : Nat} (h : bS d gc gm 2 B) : bP d gc gm 0 B := ⟨h.1, h.2.1, fun v hv => absurd hv (by omega), h.2.2⟩
theorem bP_rl {d : gDt} {gc : Nat → Int64} {gm : Nat → Int32} {B : Nat} (h : bP d gc gm 4 B) : rl d 0 (fun _ => 0) gc gm (f_cp 28 (fun _ => 0) (fun _ => 44000)) := by
  obtain ⟨h1, ⟨z1, z2, z3, z4, z5, z6⟩, hv, hI⟩ := h
  refine ⟨h1, z2, z3, fun u hu => ?_, fun s k hs hk => ?_, fun s hs => ?_⟩
  · obtain ⟨g1, g2, g3⟩ := hv u hu
    exact ⟨g1, g2, fun i hi => Or.inl ⟨z4 _, g3 i hi⟩⟩
  · rw [z5 s k hs hk]; unfold f_cp; rw [if_pos (by omega)]
  · rw [z6 s hs]; unfold f_cp; rw [if_neg (by omega)]
theorem bS_0 : bS (sL d_0 0) (fun _ => 0) (upd (fun _ => 0) 5 (-1)) 0 0 := by
  refine ⟨⟨⟨rfl, rfl, rfl⟩, fun i hi => absurd hi (Nat.not_lt_zero i)⟩, ⟨fun i _ hi => ⟨pk_un (by omega), rfl⟩, ⟨⟨rfl, rfl, rfl, rfl, rfl, rfl, rfl, rfl, rfl, rfl, rfl⟩, Or.inl rfl, ⟨0, by decide, rfl⟩, ⟨0, by decide, rfl⟩, ⟨0, by decide, rfl⟩, ⟨0, by decide, rfl⟩, fun h => absurd rfl h⟩, ⟨rfl, fun _ _ => rfl⟩, fun _ => rfl, fun s j hs hj => ?_, fun _ _ => rfl⟩, I_0⟩
  show d_0 4 (8 * s + j + 1) = 44000
  rw [← pit_0 s hs j hj]
  unfold f_cp
  rw [if_pos hj]
