/-! what is covered: both sides -/
theorem q_nIor (a b : Nat) : nI a ||| nI b = nI (a ||| b) := by
  apply Int32.toBitVec_inj.mp; rw [Int32.toBitVec_or]; show BitVec.ofNat 32 a ||| BitVec.ofNat 32 b = BitVec.ofNat 32 (a ||| b); apply BitVec.eq_of_getLsbD_eq; intro i hi; simp [BitVec.getLsbD_ofNat, Nat.testBit_or, hi]
def pcN (k : Nat) : Nat := k % 2 + k / 2 % 2 + k / 4 % 2 + k / 8 % 2
theorem pc_or : ∀ S : Nat, S < 16 → ∀ pt : Nat, pt < 4 → S.testBit pt = false → pcN (S ||| 2 ^ pt) = pcN S + 1 := by decide +kernel
theorem or_has : ∀ S : Nat, S < 16 → ∀ pt : Nat, pt < 4 → S.testBit pt = true → S ||| 2 ^ pt = S := by decide +kernel
theorem pc_bits : ∀ k : Nat, k < 16 → m_bits k = nI (pcN k) ∧ pcN k ≤ 4 := by decide +kernel
/-- the parts that the first k players can have -/
def rch (kn : Nat → Bool) (gP : Nat → Nat) : Nat → Nat → Prop
  | 0, S => S = 0
  | k + 1, S => rch kn gP k S ∨ ∃ pt, pt < 4 ∧ (kn k && (gP k).testBit pt) = true ∧ ∃ T, rch kn gP k T ∧ S = T ||| 2 ^ pt
theorem rch_lt {kn : Nat → Bool} {gP : Nat → Nat} : ∀ k S, rch kn gP k S → S < 16 := by
  intro k
  induction k with
  | zero => intro S h; have h : S = 0 := h; omega
  | succ k ih =>
    intro S h
    rcases h with h | ⟨pt, hp, -, T, hT, rfl⟩
    · exact ih S h
    · exact or_lt16 _ (ih T hT) _ hp
theorem cvI_rch {kn : Nat → Bool} {gP e : Nat → Nat} : ∀ k, (cvI kn gP e k).2.2 = true → rch kn gP k (cvI kn gP e k).1 ∧ (cvI kn gP e k).2.1 = pcN (cvI kn gP e k).1 := by
  intro k
  induction k with
  | zero => intro _; exact ⟨rfl, (by show 0 = pcN 0; decide)⟩
  | succ k ih =>
    by_cases h : e k < 4
    · rw [cvI_s h]
      intro hc
      have hc : ((cvI kn gP e k).2.2 && (kn k && (gP k).testBit (e k)) && !((cvI kn gP e k).1.testBit (e k))) = true := hc
      rw [Bool.and_eq_true, Bool.and_eq_true, Bool.not_eq_true'] at hc
      obtain ⟨⟨h1, h2⟩, h3⟩ := hc
      obtain ⟨i1, i2⟩ := ih h1
      refine ⟨Or.inr ⟨e k, h, h2, _, i1, rfl⟩, ?_⟩
      show (cvI kn gP e k).2.1 + 1 = pcN ((cvI kn gP e k).1 ||| 2 ^ (e k))
      rw [pc_or _ (cvI_lt kn gP e k).1 _ h h3, i2]
    · rw [cvI_n h]
      intro hc
      exact ⟨Or.inl (ih hc).1, (ih hc).2⟩
theorem cvI_cg {kn : Nat → Bool} {gP e e' : Nat → Nat} : ∀ k, (∀ j, j < k → e' j = e j) → cvI kn gP e' k = cvI kn gP e k := by
  intro k
  induction k with
  | zero => intro _; rfl
  | succ k ih =>
    intro h
    have h1 := ih (fun j hj => h j (by omega))
    have h2 := h k (by omega)
    by_cases g : e k < 4
    · rw [cvI_s g, cvI_s (by rw [h2]; exact g), h1, h2]
    · rw [cvI_n g, cvI_n (by rw [h2]; exact g), h1]
theorem rch_cvI {kn : Nat → Bool} {gP : Nat → Nat} : ∀ k S, rch kn gP k S → ∃ e : Nat → Nat, (∀ j, e j < 5) ∧ (cvI kn gP e k).2.2 = true ∧ (cvI kn gP e k).1 = S := by
  intro k
  induction k with
  | zero => intro S h; exact ⟨fun _ => 4, fun _ => (by show 4 < 5; decide), rfl, (h : S = 0).symm⟩
  | succ k ih =>
    have left : ∀ S, rch kn gP k S → ∃ e : Nat → Nat, (∀ j, e j < 5) ∧ (cvI kn gP e (k + 1)).2.2 = true ∧ (cvI kn gP e (k + 1)).1 = S := by
      intro S h
      obtain ⟨e, h1, h2, h3⟩ := ih S h
      have hc : cvI kn gP (fun j => if j = k then 4 else e j) k = cvI kn gP e k := cvI_cg k (fun j hj => if_neg (by omega))
      refine ⟨fun j => if j = k then 4 else e j, fun j => ?_, ?_⟩
      · by_cases hj : j = k
        · simp [hj]
        · simp [hj]; exact h1 j
      · rw [cvI_n (by simp), hc]; exact ⟨h2, h3⟩
    intro S h
    rcases h with h | ⟨pt, hp, ha, T, hT, rfl⟩
    · exact left S h
    · have hT16 := rch_lt k T hT
      by_cases hb : T.testBit pt = true
      · rw [or_has T hT16 pt hp hb]; exact left T hT
      · obtain ⟨e, h1, h2, h3⟩ := ih T hT
        have hc : cvI kn gP (fun j => if j = k then pt else e j) k = cvI kn gP e k := cvI_cg k (fun j hj => if_neg (by omega))
        refine ⟨fun j => if j = k then pt else e j, fun j => ?_, ?_⟩
        · by_cases hj : j = k
          · simp [hj]; omega
          · simp [hj]; exact h1 j
        · have hk : (if k = k then pt else e k) = pt := if_pos rfl
          rw [cvI_s (by show (if k = k then pt else e k) < 4; rw [hk]; exact hp), hc]
          show ((cvI kn gP e k).1 ||| 2 ^ (if k = k then pt else e k), (cvI kn gP e k).2.1 + 1, (cvI kn gP e k).2.2 && (kn k && (gP k).testBit (if k = k then pt else e k)) && !((cvI kn gP e k).1.testBit (if k = k then pt else e k))).2.2 = true ∧ _
          rw [hk]
          refine ⟨?_, ?_⟩
          · show ((cvI kn gP e k).2.2 && (kn k && (gP k).testBit pt) && !((cvI kn gP e k).1.testBit pt)) = true
            rw [h2, ha, h3]
            simp [hb]
          · show (cvI kn gP e k).1 ||| 2 ^ pt = T ||| 2 ^ pt
            rw [h3]
theorem cvM_max {kn : Nat → Bool} {gP : Nat → Nat} : ∀ N, (∀ w, w < N → (cvI kn gP (wyD w) 4).2.2 = true → (cvI kn gP (wyD w) 4).2.1 ≤ cvM kn gP N) ∧ (cvM kn gP N = 0 ∨ ∃ w, w < N ∧ (cvI kn gP (wyD w) 4).2.2 = true ∧ (cvI kn gP (wyD w) 4).2.1 = cvM kn gP N) := by
  intro N
  induction N with
  | zero => exact ⟨fun w h => absurd h (by omega), Or.inl rfl⟩
  | succ N ih =>
    obtain ⟨i1, i2⟩ := ih
    by_cases hc : (cvI kn gP (wyD N) 4).2.2 = true ∧ cvM kn gP N < (cvI kn gP (wyD N) 4).2.1
    · have e : cvM kn gP (N + 1) = (cvI kn gP (wyD N) 4).2.1 := by
        show (if (cvI kn gP (wyD N) 4).2.2 && decide (cvM kn gP N < (cvI kn gP (wyD N) 4).2.1) then _ else _) = _
        rw [hc.1]; simp [hc.2]
      rw [e]
      refine ⟨fun w hw hg => ?_, Or.inr ⟨N, by omega, hc.1, rfl⟩⟩
      rcases Nat.lt_or_ge w N with h | h
      · exact Nat.le_of_lt (Nat.lt_of_le_of_lt (i1 w h hg) hc.2)
      · obtain rfl : w = N := by omega
        exact Nat.le_refl _
    · have e : cvM kn gP (N + 1) = cvM kn gP N := by
        show (if (cvI kn gP (wyD N) 4).2.2 && decide (cvM kn gP N < (cvI kn gP (wyD N) 4).2.1) then _ else _) = _
        cases h2 : (cvI kn gP (wyD N) 4).2.2
        · rfl
        · have h3 : ¬ cvM kn gP N < (cvI kn gP (wyD N) 4).2.1 := fun h => hc ⟨h2, h⟩
          simp [h3]
      rw [e]
      refine ⟨fun w hw hg => ?_, ?_⟩
      · rcases Nat.lt_or_ge w N with h | h
        · exact i1 w h hg
        · obtain rfl : w = N := by omega
          exact Nat.le_of_not_lt (fun h3 => hc ⟨hg, h3⟩)
      · rcases i2 with h | ⟨w, h1, h2⟩
        · exact Or.inl h
        · exact Or.inr ⟨w, by omega, h2⟩
theorem wy_dig {e : Nat → Nat} (h : ∀ j, e j < 5) : e 0 + 5 * e 1 + 25 * e 2 + 125 * e 3 < 625 ∧ ∀ j, j < 4 → wyD (e 0 + 5 * e 1 + 25 * e 2 + 125 * e 3) j = e j := by
  have h0 := h 0
  have h1 := h 1
  have h2 := h 2
  have h3 := h 3
  refine ⟨by omega, fun j hj => ?_⟩
  unfold wyD
  match j, hj with
  | 0, _ => show _ / 1 % 5 = _; omega
  | 1, _ => show _ / 5 % 5 = _; omega
  | 2, _ => show _ / 25 % 5 = _; omega
  | 3, _ => show _ / 125 % 5 = _; omega
theorem cvM_rch (kn : Nat → Bool) (gP : Nat → Nat) : (∀ S, rch kn gP 4 S → pcN S ≤ cvM kn gP 625) ∧ (cvM kn gP 625 = 0 ∨ ∃ S, rch kn gP 4 S ∧ pcN S = cvM kn gP 625) := by
  obtain ⟨h1, h2⟩ := cvM_max (kn := kn) (gP := gP) 625
  refine ⟨fun S hS => ?_, ?_⟩
  · obtain ⟨e, he, hc, hs⟩ := rch_cvI 4 S hS
    obtain ⟨hw, hd⟩ := wy_dig he
    have hg := cvI_cg (kn := kn) (gP := gP) 4 hd
    have h3 := h1 _ hw (by rw [hg]; exact hc)
    rw [hg, (cvI_rch 4 hc).2, hs] at h3
    exact h3
  · rcases h2 with h | ⟨w, -, hc, hn⟩
    · exact Or.inl h
    · exact Or.inr ⟨_, (cvI_rch 4 hc).1, by rw [← (cvI_rch 4 hc).2, hn]⟩
/-! the class's sets -/
theorem wI_one : ∀ s : Nat, s < 16 → ∀ q : Nat, q < 4 → ((1 : Int32) <<< ((nI s ||| ((1 : Int32) <<< (nI q &&& 31))) &&& 31)) = nI (2 ^ (s ||| 2 ^ q)) := by decide +kernel
theorem bit_a : ∀ a : Nat, a < 16 → ∀ q : Nat, q < 4 → ((((nI a >>> (nI q &&& 31)) &&& 1) = 1) ↔ a.testBit q = true) := by decide +kernel
theorem sm16 : ∀ q : Nat, q < 16 → ((nI q &&& 31).toBitVec.smod 32).toNat = q := by decide +kernel
theorem bit_g {G q : Nat} (hG : G < 2 ^ 16) (hq : q < 16) : (((nI G >>> (nI q &&& 31)) &&& 1) = 1) ↔ G.testBit q = true := by
  have h2 : G / 2 ^ q ≤ G := Nat.div_le_self _ _
  rw [pk_shrN (by omega) _ q (sm16 q hq), pk_andN (by omega) 1 (by decide), show (1 : Int32) = nI 1 from rfl, nI_eq (by omega) (by decide), Nat.testBit_eq_decide_div_mod_eq]
  simp
theorem wI_sets {P s : Nat} (hP : P < 16) (hs : s < 16) {C : Nat} (hC : C < 2 ^ 16) : ∀ q, q ≤ 4 → ∃ H, H < 2 ^ 16 ∧ m_wI (nI P) (nI s) (nI C) q = nI H ∧ ∀ S, H.testBit S = true ↔ (C.testBit S = true ∨ ∃ pt, pt < q ∧ P.testBit pt = true ∧ S = s ||| 2 ^ pt) := by
  intro q
  induction q with
  | zero => intro _; exact ⟨C, hC, rfl, fun S => ⟨Or.inl, fun h => h.elim id (fun ⟨pt, h, _⟩ => absurd h (by omega))⟩⟩
  | succ q ih =>
    intro hq
    obtain ⟨H, h1, h2, h3⟩ := ih (by omega)
    by_cases hb : P.testBit q = true
    · refine ⟨H ||| 2 ^ (s ||| 2 ^ q), Nat.or_lt_two_pow h1 (Nat.pow_lt_pow_right (by decide) (or_lt16 s hs q (by omega))), ?_, fun S => ?_⟩
      · show m_wI (nI P) (nI s) (nI C) q ||| (if _ then _ else _) = _
        rw [h2, if_pos ((bit_a P hP q (by omega)).mpr hb), wI_one s hs q (by omega), q_nIor]
      · rw [Nat.testBit_or, Nat.testBit_two_pow, Bool.or_eq_true, h3, decide_eq_true_iff]
        constructor
        · rintro ((h | ⟨pt, h4, h5⟩) | h)
          · exact Or.inl h
          · exact Or.inr ⟨pt, by omega, h5⟩
          · exact Or.inr ⟨q, by omega, hb, h.symm⟩
        · rintro (h | ⟨pt, h4, h5, h6⟩)
          · exact Or.inl (Or.inl h)
          · rcases Nat.lt_or_ge pt q with h7 | h7
            · exact Or.inl (Or.inr ⟨pt, h7, h5, h6⟩)
            · obtain rfl : pt = q := by omega
              exact Or.inr h6.symm
    · refine ⟨H, h1, ?_, fun S => ?_⟩
      · show m_wI (nI P) (nI s) (nI C) q ||| (if _ then _ else _) = _
        rw [h2, if_neg (fun h => hb ((bit_a P hP q (by omega)).mp h)), show (0 : Int32) = nI 0 from rfl, q_nIor, Nat.or_zero]
      · rw [h3]
        constructor
        · rintro (h | ⟨pt, h4, h5⟩)
          · exact Or.inl h
          · exact Or.inr ⟨pt, by omega, h5⟩
        · rintro (h | ⟨pt, h4, h5, h6⟩)
          · exact Or.inl h
          · rcases Nat.lt_or_ge pt q with h7 | h7
            · exact Or.inr ⟨pt, h7, h5, h6⟩
            · obtain rfl : pt = q := by omega
              exact absurd h5 hb
theorem wO_sets {P G : Nat} (hP : P < 16) (hG : G < 2 ^ 16) : ∀ j, j ≤ 16 → ∃ H, H < 2 ^ 16 ∧ m_wO (nI G) (nI P) j = nI H ∧ ∀ S, H.testBit S = true ↔ (G.testBit S = true ∨ ∃ pt, pt < 4 ∧ P.testBit pt = true ∧ ∃ T, T < j ∧ G.testBit T = true ∧ S = T ||| 2 ^ pt) := by
  intro j
  induction j with
  | zero => intro _; exact ⟨G, hG, rfl, fun S => ⟨Or.inl, fun h => h.elim id (fun ⟨pt, _, _, T, h, _⟩ => absurd h (by omega))⟩⟩
  | succ j ih =>
    intro hj
    obtain ⟨H, h1, h2, h3⟩ := ih (by omega)
    by_cases hb : G.testBit j = true
    · obtain ⟨H2, g1, g2, g3⟩ := wI_sets hP (s := j) (by omega) h1 4 (by omega)
      refine ⟨H2, g1, ?_, fun S => ?_⟩
      · show (if _ then m_wI (nI P) (nI j) (m_wO (nI G) (nI P) j) 4 else _) = _
        rw [if_pos ((bit_g hG (by omega)).mpr hb), h2, g2]
      · rw [g3, h3]
        constructor
        · rintro ((h | ⟨pt, h4, h5, T, h6, h7⟩) | ⟨pt, h4, h5, h6⟩)
          · exact Or.inl h
          · exact Or.inr ⟨pt, h4, h5, T, by omega, h7⟩
          · exact Or.inr ⟨pt, h4, h5, j, by omega, hb, h6⟩
        · rintro (h | ⟨pt, h4, h5, T, h6, h7, h8⟩)
          · exact Or.inl (Or.inl h)
          · rcases Nat.lt_or_ge T j with h9 | h9
            · exact Or.inl (Or.inr ⟨pt, h4, h5, T, h9, h7, h8⟩)
            · obtain rfl : T = j := by omega
              exact Or.inr ⟨pt, h4, h5, h8⟩
    · refine ⟨H, h1, ?_, fun S => ?_⟩
      · show (if _ then m_wI (nI P) (nI j) (m_wO (nI G) (nI P) j) 4 else _) = _
        rw [if_neg (fun h => hb ((bit_g hG (by omega)).mp h)), h2]
      · rw [h3]
        constructor
        · rintro (h | ⟨pt, h4, h5, T, h6, h7⟩)
          · exact Or.inl h
          · exact Or.inr ⟨pt, h4, h5, T, by omega, h7⟩
        · rintro (h | ⟨pt, h4, h5, T, h6, h7, h8⟩)
          · exact Or.inl h
          · rcases Nat.lt_or_ge T j with h9 | h9
            · exact Or.inr ⟨pt, h4, h5, T, h9, h7, h8⟩
            · obtain rfl : T = j := by omega
              exact absurd h7 hb
theorem cv_sets {d : gDt} {i : Nat} {kn : Nat → Bool} {gP : Nat → Nat} (hkn : ∀ k, k < 4 → kn k = decide (¬ d 7 (6 * k + i) = 0)) (hP : ∀ k, k < 4 → gP k < 16 ∧ d 6 k = nI (gP k)) : ∀ k, k ≤ 4 → ∃ G, G < 2 ^ 16 ∧ m_cv d i k = nI G ∧ ∀ S, G.testBit S = true ↔ rch kn gP k S := by
  intro k
  induction k with
  | zero =>
    intro _
    refine ⟨1, by decide, rfl, fun S => ?_⟩
    rw [show (1 : Nat) = 2 ^ 0 from rfl, Nat.testBit_two_pow, decide_eq_true_iff]
    exact ⟨fun h => h.symm, fun h => (h : S = 0).symm⟩
  | succ k ih =>
    intro hk
    obtain ⟨G, h1, h2, h3⟩ := ih (by omega)
    have hK := hkn k (by omega)
    obtain ⟨hP1, hP2⟩ := hP k (by omega)
    by_cases h7 : d 7 (6 * k + i) = 0
    · have hK : kn k = false := by rw [hK]; simp [h7]
      refine ⟨G, h1, ?_, fun S => ?_⟩
      · show (if _ then _ else _) = _
        rw [if_pos h7, h2]
      · rw [h3]
        constructor
        · exact Or.inl
        · rintro (h | ⟨pt, h4, h5, _⟩)
          · exact h
          · rw [hK] at h5; cases h5
    · have hK : kn k = true := by rw [hK]; simp [h7]
      obtain ⟨H, g1, g2, g3⟩ := wO_sets hP1 h1 16 (by omega)
      refine ⟨H, g1, ?_, fun S => ?_⟩
      · show (if _ then _ else m_wO (m_cv d i k) (d 6 k) 16) = _
        rw [if_neg h7, h2, hP2, g2]
      · rw [g3]
        constructor
        · rintro (h | ⟨pt, h4, h5, T, h6, h8, h9⟩)
          · exact Or.inl ((h3 S).mp h)
          · exact Or.inr ⟨pt, h4, by rw [hK, h5]; rfl, T, (h3 T).mp h8, h9⟩
        · rintro (h | ⟨pt, h4, h5, T, h8, h9⟩)
          · exact Or.inl ((h3 S).mpr h)
          · exact Or.inr ⟨pt, h4, (by rw [hK] at h5; exact h5), T, rch_lt k T h8, (h3 T).mpr h8, h9⟩
theorem most_sets {G : Nat} (hG : G < 2 ^ 16) : ∀ j, j ≤ 16 → ∃ X, X ≤ 4 ∧ m_most (nI G) j = nI X ∧ (∀ S, S < j → G.testBit S = true → pcN S ≤ X) ∧ (X = 0 ∨ ∃ S, S < j ∧ G.testBit S = true ∧ pcN S = X) := by
  intro j
  induction j with
  | zero => intro _; exact ⟨0, by omega, rfl, fun S h => absurd h (by omega), Or.inl rfl⟩
  | succ j ih =>
    intro hj
    obtain ⟨X, h1, h2, h3, h4⟩ := ih (by omega)
    obtain ⟨hb1, hb2⟩ := pc_bits j (by omega)
    by_cases hb : G.testBit j = true
    · by_cases hc : pcN j ≤ X
      · refine ⟨X, h1, ?_, fun S hS hg => ?_, ?_⟩
        · show (if _ then (if m_bits j ≤ m_most (nI G) j then m_most (nI G) j else m_bits j) else _) = _
          rw [if_pos ((bit_g hG (by omega)).mpr hb), h2, hb1, if_pos (nI_le hc (by omega))]
        · rcases Nat.lt_or_ge S j with h9 | h9
          · exact h3 S h9 hg
          · obtain rfl : S = j := by omega
            exact hc
        · rcases h4 with h | ⟨S, h5, h6⟩
          · exact Or.inl h
          · exact Or.inr ⟨S, by omega, h6⟩
      · refine ⟨pcN j, hb2, ?_, fun S hS hg => ?_, Or.inr ⟨j, by omega, hb, rfl⟩⟩
        · show (if _ then (if m_bits j ≤ m_most (nI G) j then m_most (nI G) j else m_bits j) else _) = _
          rw [if_pos ((bit_g hG (by omega)).mpr hb), h2, hb1, if_neg (nI_ge (by omega) (by omega))]
        · rcases Nat.lt_or_ge S j with h9 | h9
          · have := h3 S h9 hg; omega
          · obtain rfl : S = j := by omega
            exact Nat.le_refl _
    · refine ⟨X, h1, ?_, fun S hS hg => ?_, ?_⟩
      · show (if _ then _ else m_most (nI G) j) = _
        rw [if_neg (fun h => hb ((bit_g hG (by omega)).mp h)), h2]
      · rcases Nat.lt_or_ge S j with h9 | h9
        · exact h3 S h9 hg
        · obtain rfl : S = j := by omega
          exact absurd hg hb
      · rcases h4 with h | ⟨S, h5, h6⟩
        · exact Or.inl h
        · exact Or.inr ⟨S, by omega, h6⟩
/-- the law's most is the class's -/
theorem cov_eq {d : gDt} {i : Nat} {kn : Nat → Bool} {gP : Nat → Nat} (hkn : ∀ k, k < 4 → kn k = decide (¬ d 7 (6 * k + i) = 0)) (hP : ∀ k, k < 4 → gP k < 16 ∧ d 6 k = nI (gP k)) : nI (cvM kn gP 625) = m_most (m_cv d i 4) 16 := by
  obtain ⟨G, h1, h2, h3⟩ := cv_sets hkn hP 4 (by omega)
  obtain ⟨X, g1, g2, g3, g4⟩ := most_sets h1 16 (by omega)
  obtain ⟨k1, k2⟩ := cvM_rch kn gP
  rw [h2, g2]
  congr 1
  apply Nat.le_antisymm
  · rcases k2 with h | ⟨S, hS, e⟩
    · omega
    · rw [← e]; exact g3 S (rch_lt 4 S hS) ((h3 S).mpr hS)
  · rcases g4 with h | ⟨S, -, hS, e⟩
    · omega
    · rw [← e]; exact k1 S ((h3 S).mp hS)
