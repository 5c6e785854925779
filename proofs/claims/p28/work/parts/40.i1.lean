/-! what stands between the calls -/
def rOk (d : gDt) : Prop := ∀ u, u < 4 → ∃ r : Nat, r ≤ 50 ∧ d 5 u = nI r
/-- of the data, between two calls; B: gongs of what is played, at most -/
def iOk (d : gDt) (B : Nat) : Prop := mOk d ∧ fOk d ∧ tOk d ∧ pOk d ∧ rOk d ∧ jP d B
theorem jP_le {d : gDt} {B B' : Nat} (h : jP d B) (hB : B ≤ B') : jP d B' := fun g => by
  obtain ⟨h2, ⟨i, p, q, a1, a2, a3, a4, a5, a6⟩, h8, h5⟩ := h g
  exact ⟨h2, ⟨i, p, q, a1, a2, a3, a4, a5, by omega⟩, h8, h5⟩
theorem iOk_l {d : gDt} {B : Nat} (h : iOk d B) (x : Int32) : iOk (sL d x) (B + 100) := ⟨h.1, h.2.1, h.2.2.1, h.2.2.2.1, h.2.2.2.2.1, (jP_le h.2.2.2.2.2 (by omega) : jP d (B + 100))⟩
theorem mOk_9 {d : gDt} {f : Nat → Int32} (h : mOk d) (e0 : f 0 = d 9 0) (e1 : f 1 = d 9 1) (e2 : f 13 = d 9 13) : mOk (gD d 9 f) := mOk_cong h rfl rfl e0 e1 e2
theorem I_form {d : gDt} {B : Nat} {x : Int32} (h : iOk d B) (g : ¬ m_go (ga_form d x) (gb_form d x) (gc_form d x) = 0) : iOk (sL (gD (gD d 0 (upd (d 0) (d 9 0).toNatClampNeg x)) 9 (upd (d 9) 0 (d 9 0 + 1))) 0) (B + 100) := by
  obtain ⟨hM, hF, hT, hp, hr, hj⟩ := h
  obtain ⟨ga, gb, -⟩ := m_go_ne g
  have b0 := hM.1.1
  have b1 := hM.1.2.1
  have hn4 : nF d < 4 := by
    unfold gb_form at gb
    have := one_ne gb
    rw [hM.2.1.1, show (4 : Int32) = nI 4 from rfl, nI_leI (by omega) (by omega)] at this
    omega
  have hg : gLen x := by
    unfold ga_form at ga
    by_cases h1 : f_in x 4 64 = 0
    · rw [if_pos h1] at ga; exact absurd rfl ga
    · rw [if_neg h1] at ga
      obtain ⟨l1, l2⟩ := f_in_ne h1
      obtain ⟨y, y1, y2, rfl⟩ := nI_bet (a := 4) (b := 64) (by omega) l1 l2 (by omega)
      rw [show (4 : Int32) = nI 4 from rfl, pk_rem (by omega) (by decide) (by decide)] at ga
      by_cases h2 : nI (y % 4) = 0
      · have := (nI_eq (a := y % 4) (b := 0) (by omega) (by omega)).mp h2
        exact ⟨y / 4, by omega, by omega, by rw [show 4 * (y / 4) = y by omega]⟩
      · rw [if_neg h2] at ga; exact absurd rfl ga
  have hnF : nF (gD (gD d 0 (upd (d 0) (d 9 0).toNatClampNeg x)) 9 (upd (d 9) 0 (d 9 0 + 1))) = nF d + 1 := by
    show (d 9 0 + 1).toNatClampNeg = nF d + 1
    rw [hM.2.1.1, nI_1, nI_clamp (by omega)]
  refine ⟨⟨⟨?_, hM.1.2.1, hM.1.2.2⟩, ⟨?_, hM.2.1.2.1, hM.2.1.2.2⟩, ?_, ?_⟩, hF, hT, hp, hr, ?_⟩
  · show nF (gD (gD d 0 (upd (d 0) (d 9 0).toNatClampNeg x)) 9 (upd (d 9) 0 (d 9 0 + 1))) ≤ 4
    rw [hnF]; omega
  · show d 9 0 + 1 = nI (nF (gD (gD d 0 (upd (d 0) (d 9 0).toNatClampNeg x)) 9 (upd (d 9) 0 (d 9 0 + 1))))
    rw [hnF, hM.2.1.1, nI_1]
  · intro j hj
    have hj : j < nF (gD (gD d 0 (upd (d 0) (d 9 0).toNatClampNeg x)) 9 (upd (d 9) 0 (d 9 0 + 1))) := hj
    rw [hnF] at hj
    show gLen (upd (d 0) (nF d) x j)
    by_cases hjn : j = nF d
    · rw [hjn, upd_e]; exact hg
    · rw [upd_n hjn]; exact hM.2.2.1 j (by omega)
  · intro i hi
    obtain ⟨j, hj, e⟩ := hM.2.2.2 i hi
    exact ⟨j, by show j < nF (gD (gD d 0 (upd (d 0) (d 9 0).toNatClampNeg x)) 9 (upd (d 9) 0 (d 9 0 + 1))); rw [hnF]; omega, e⟩
  · intro gp
    obtain ⟨h2, ⟨i, p, q, a1, a2, a3, a4, a5, a6⟩, h8, h5⟩ := hj gp
    exact ⟨h2, ⟨i, p, q, a1, a2, a3, by show p ≤ Int32.toNatClampNeg (upd (d 0) (d 9 0).toNatClampNeg x (d 1 i).toNatClampNeg); rw [len_form hM a1]; exact a4, a5, by omega⟩, h8, h5⟩
theorem I_piece {d : gDt} {B : Nat} {x : Int32} (h : iOk d B) (g : ¬ m_go (ga_piece d x) (gb_piece d x) (gc_piece d x) = 0) : iOk (sL (gD (gD d 1 (upd (d 1) (d 9 1).toNatClampNeg x)) 9 (upd (d 9) 1 (d 9 1 + 1))) 0) (B + 100) := by
  obtain ⟨hM, hF, hT, hp, hr, hj⟩ := h
  obtain ⟨ga, gb, -⟩ := m_go_ne g
  obtain ⟨f, hf, rfl⟩ := m_isForm_ne hM ga
  have b1 := hM.1.2.1
  have hn6 : nP d < 6 := by
    unfold gb_piece at gb
    have := one_ne gb
    rw [hM.2.1.2.1, show (6 : Int32) = nI 6 from rfl, nI_leI (by omega) (by omega)] at this
    omega
  have hP := nP_up (f := upd (d 1) (d 9 1).toNatClampNeg (nI f)) hM
  have hl : ∀ j, j < nP d → lenN (gD (gD d 1 (upd (d 1) (d 9 1).toNatClampNeg (nI f))) 9 (upd (d 9) 1 (d 9 1 + 1))) j = lenN d j := by
    intro j hj
    show (d 0 (upd (d 1) (nP d) (nI f) j).toNatClampNeg).toNatClampNeg = _
    rw [upd_n (by omega)]
    rfl
  refine ⟨⟨⟨hM.1.1, ?_, hM.1.2.2⟩, ⟨hM.2.1.1, ?_, hM.2.1.2.2⟩, hM.2.2.1, ?_⟩, ?_, hT, hp, hr, ?_⟩
  · show nP (gD (gD d 1 (upd (d 1) (d 9 1).toNatClampNeg (nI f))) 9 (upd (d 9) 1 (d 9 1 + 1))) ≤ 6
    rw [hP]; omega
  · show d 9 1 + 1 = nI (nP (gD (gD d 1 (upd (d 1) (d 9 1).toNatClampNeg (nI f))) 9 (upd (d 9) 1 (d 9 1 + 1))))
    rw [hP, hM.2.1.2.1, nI_1]
  · intro i hi
    have hi : i < nP (gD (gD d 1 (upd (d 1) (d 9 1).toNatClampNeg (nI f))) 9 (upd (d 9) 1 (d 9 1 + 1))) := hi
    rw [hP] at hi
    by_cases hin : i = nP d
    · exact ⟨f, hf, by show upd (d 1) (nP d) (nI f) i = nI f; rw [hin, upd_e]⟩
    · obtain ⟨j, hj, e⟩ := hM.2.2.2 i (by omega)
      exact ⟨j, hj, by show upd (d 1) (nP d) (nI f) i = nI j; rw [upd_n hin]; exact e⟩
  · intro i hi h6
    have hi : nP (gD (gD d 1 (upd (d 1) (d 9 1).toNatClampNeg (nI f))) 9 (upd (d 9) 1 (d 9 1 + 1))) ≤ i := hi
    rw [hP] at hi
    exact hF i (by omega) h6
  · intro gp
    obtain ⟨h2, ⟨i, p, q, a1, a2, a3, a4, a5, a6⟩, h8, h5⟩ := hj gp
    exact ⟨h2, ⟨i, p, q, by show i < nP (gD (gD d 1 (upd (d 1) (d 9 1).toNatClampNeg (nI f))) 9 (upd (d 9) 1 (d 9 1 + 1))); rw [hP]; omega, a2, a3, by show p ≤ lenN (gD (gD d 1 (upd (d 1) (d 9 1).toNatClampNeg (nI f))) 9 (upd (d 9) 1 (d 9 1 + 1))) i; rw [hl i a1]; exact a4, a5, by omega⟩, h8, h5⟩
theorem I_player {d : gDt} {B : Nat} {x : Int32} (h : iOk d B) (g : ¬ m_go (ga_player d x) (gb_player d x) (gc_player d x) = 0) : iOk (sL (gD (gD d 6 (upd (d 6) (d 9 13).toNatClampNeg x)) 9 (upd (d 9) 13 (d 9 13 + 1))) 0) (B + 100) := by
  obtain ⟨hM, hF, hT, hp, hr, hj⟩ := h
  obtain ⟨ga, gb, -⟩ := m_go_ne g
  have b1 := hM.1.2.2
  have hn8 : nU d < 8 := by
    unfold gb_player at gb
    have := one_ne gb
    rw [hM.2.1.2.2, show (8 : Int32) = nI 8 from rfl, nI_leI (by omega) (by omega)] at this
    omega
  have hP := nU_up (f := upd (d 6) (d 9 13).toNatClampNeg x) hM
  refine ⟨⟨⟨hM.1.1, hM.1.2.1, ?_⟩, ⟨hM.2.1.1, hM.2.1.2.1, ?_⟩, hM.2.2.1, hM.2.2.2⟩, hF, hT, hp, hr, (jP_le hj (by omega) : jP d (B + 100))⟩
  · show nU (gD (gD d 6 (upd (d 6) (d 9 13).toNatClampNeg x)) 9 (upd (d 9) 13 (d 9 13 + 1))) ≤ 8
    rw [hP]; omega
  · show d 9 13 + 1 = nI (nU (gD (gD d 6 (upd (d 6) (d 9 13).toNatClampNeg x)) 9 (upd (d 9) 13 (d 9 13 + 1))))
    rw [hP, hM.2.1.2.2, nI_1]
theorem I_tone {d : gDt} {B : Nat} {x y z : Int32} (h : iOk d B) (g : ¬ m_go (ga_tone d x y z) (gb_tone d x y z) (gc_tone d x y z) = 0) : iOk (sL (gD d 3 (upd (d 3) (65 * x + y).toNatClampNeg z)) 0) (B + 100) := by
  obtain ⟨hM, hF, hT, hp, hr, hj⟩ := h
  obtain ⟨ga, gb, -⟩ := m_go_ne g
  obtain ⟨i, q, hi, q1, q2, rfl, rfl⟩ := m_isPlace_ne hM ga
  have b1 := hM.1.2.1
  have := (mOk_len hM hi).2.2.1
  rw [m_ixc (by omega) (by omega)]
  refine ⟨hM, ?_, ?_, hp, hr, (jP_le hj (by omega) : jP d (B + 100))⟩
  · intro i' h1 h2
    have h1 : nP d ≤ i' := h1
    refine ⟨(hF i' h1 h2).1, ?_⟩
    intro j j1 j2
    show upd (d 3) (65 * i + q) z (65 * i' + j) = 0
    rw [upd_n (by omega)]
    exact (hF i' h1 h2).2 j j1 j2
  · intro j
    show ∃ k : Nat, k ≤ 7 ∧ upd (d 3) (65 * i + q) z j = nI k
    by_cases hjq : j = 65 * i + q
    · rw [hjq, upd_e]
      obtain ⟨l1, l2⟩ := f_in_ne gb
      obtain ⟨k, hk, e⟩ := nI_cnt (n := 8) (by decide) l1 l2
      exact ⟨k, by omega, e⟩
    · rw [upd_n hjq]; exact hT j
theorem I_forbid {d : gDt} {B : Nat} {x y : Int32} (h : iOk d B) (g : ¬ m_go (ga_forbid d x y) (gb_forbid d x y) (gc_forbid d x y) = 0) : iOk (sL (gD d 2 (upd (d 2) x.toNatClampNeg y)) 0) (B + 100) := by
  obtain ⟨hM, hF, hT, hp, hr, hj⟩ := h
  obtain ⟨ga, -, -⟩ := m_go_ne g
  obtain ⟨i, hi, rfl⟩ := m_isPiece_ne hM ga
  have b1 := hM.1.2.1
  rw [nI_clamp (by omega)]
  refine ⟨hM, ?_, hT, hp, hr, (jP_le hj (by omega) : jP d (B + 100))⟩
  intro i' h1 h2
  have h1 : nP d ≤ i' := h1
  exact ⟨by show upd (d 2) i y i' = 0; rw [upd_n (by omega)]; exact (hF i' h1 h2).1, (hF i' h1 h2).2⟩
theorem I_drift {d : gDt} {B : Nat} {x y : Int32} (h : iOk d B) (g : ¬ m_go (ga_drift d x y) (gb_drift d x y) (gc_drift d x y) = 0) : iOk (sL (gD d 5 (upd (d 5) x.toNatClampNeg y)) 0) (B + 100) := by
  obtain ⟨hM, hF, hT, hp, hr, hj⟩ := h
  obtain ⟨-, gb, -⟩ := m_go_ne g
  refine ⟨hM, hF, hT, hp, ?_, (jP_le hj (by omega) : jP d (B + 100))⟩
  intro u hu
  show ∃ r : Nat, r ≤ 50 ∧ upd (d 5) x.toNatClampNeg y u = nI r
  by_cases hux : u = x.toNatClampNeg
  · rw [← hux, upd_e]
    obtain ⟨l1, l2⟩ := f_in_ne gb
    obtain ⟨k, hk, e⟩ := nI_cnt (n := 51) (by decide) l1 l2
    exact ⟨k, by omega, e⟩
  · rw [upd_n hux]; exact hr u hu
theorem I_days {d : gDt} {B : Nat} {y : Int32} (h : iOk d B) : iOk (sL (gD d 9 (upd (d 9) 11 y)) 0) (B + 100) := by
  obtain ⟨hM, hF, hT, hp, hr, hj⟩ := h
  exact ⟨hM, hF, hT, hp, hr, (jP_le hj (by omega) : jP d (B + 100))⟩
theorem I_begin {d : gDt} {B : Nat} {x y : Int32} (h : iOk d B) (g : ¬ m_go (ga_begin d x) (gb_begin d x) (gc_begin d x) = 0) : iOk (sL (gD d 9 (upd (upd (upd (upd (upd (upd (upd (upd (upd (d 9) 2 1) 3 x) 4 0) 5 20) 6 0) 7 0) 8 0) 9 0) 10 y)) 0) (B + 100) := by
  obtain ⟨hM, hF, hT, hp, hr, hj⟩ := h
  obtain ⟨ga, -, -⟩ := m_go_ne g
  obtain ⟨i, hi, rfl⟩ := m_isPiece_ne hM ga
  exact ⟨hM, hF, hT, hp, hr, fun _ => ⟨rfl, ⟨i, 0, 0, hi, rfl, rfl, Nat.zero_le _, rfl, Nat.zero_le _⟩, Or.inl rfl, 20, by omega, by omega, rfl⟩⟩
theorem I_drum {d : gDt} {B : Nat} {x : Int32} (h : iOk d B) (g : ¬ m_go (ga_drum d x) (gb_drum d x) (gc_drum d x) = 0) : iOk (sL (m_drum d x) 0) (B + 100) := by
  obtain ⟨hM, hF, hT, hp, hr, hj⟩ := h
  obtain ⟨ga, gb, -⟩ := m_go_ne g
  unfold m_drum
  by_cases h4 : x = 4
  · rw [if_pos h4]
    exact ⟨hM, hF, hT, hp, hr, fun g9 => absurd rfl g9⟩
  · rw [if_neg h4]
    obtain ⟨h2, ⟨i, p, q, a1, a2, a3, a4, a5, a6⟩, h8, h5⟩ := hj gb
    by_cases h3 : x = 3
    · rw [if_pos h3]
      exact ⟨hM, hF, hT, hp, hr, fun _ => ⟨h2, ⟨i, p, q, a1, a2, a3, a4, a5, by omega⟩, h8, h5⟩⟩
    · rw [if_neg h3]
      refine ⟨hM, hF, hT, hp, hr, fun _ => ⟨h2, ⟨i, p, q, a1, a2, a3, a4, a5, by omega⟩, ?_, h5⟩⟩
      show x = 0 ∨ x = 1 ∨ x = 2
      obtain ⟨l1, l2⟩ := f_in_ne ga
      obtain ⟨k, hk, e⟩ := nI_cnt (n := 5) (by decide) l1 l2
      rcases (show k = 0 ∨ k = 1 ∨ k = 2 ∨ k = 3 ∨ k = 4 by omega) with e9 | e9 | e9 | e9 | e9
      · rw [e9] at e; exact Or.inl e
      · rw [e9] at e; exact Or.inr (Or.inl e)
      · rw [e9] at e; exact Or.inr (Or.inr e)
      · rw [e9] at e; exact absurd e h3
      · rw [e9] at e; exact absurd e h4
theorem jP_B {d : gDt} {B : Nat} (hOk : mOk d) (hj : jP d B) (hg : ¬ d 9 2 = 0) : jP (mB d) (B + 1) := by
  obtain ⟨h2, ⟨i, p, g, hi, h3, h4, hp, h7, hgB⟩, h8, b, hb1, hb2, h5⟩ := hj hg
  have b1 := hOk.1.2.1
  obtain ⟨-, hL4, hL64, hLm⟩ := mOk_len hOk hi
  have hL : mLen d = nI (lenN d i) := by unfold mLen; rw [h3, nI_clamp (by omega)]
  obtain ⟨b', hb1', hb2', hb'⟩ := (nbl_eq h8 hb1 hb2).2
  rw [← h5] at hb'
  obtain ⟨p', hp', hpp⟩ := npl_n hp hL64 hL4
  rw [← h4, ← hL] at hpp
  by_cases hq : mPl d = mLen d
  · have hB9 : mB d = gD d 9 (upd (upd (upd (upd (upd (d 9) 4 (mPl d)) 5 (mBl d)) 6 (m_lvl (mBl d))) 7 (d 9 7 + 1)) 2 (if d 9 7 + 1 = d 9 9 then 0 else 1)) := by unfold mB; rw [if_pos hq]
    rw [hB9]
    intro hz
    have hz : ¬ (if d 9 7 + 1 = d 9 9 then (0 : Int32) else 1) = 0 := hz
    refine ⟨?_, ⟨i, p', g + 1, hi, h3, hpp, hp', ?_, by omega⟩, h8, b', hb1', hb2', hb'⟩
    · show (if d 9 7 + 1 = d 9 9 then (0 : Int32) else 1) = 1
      exact if_neg (one_ne hz)
    · show d 9 7 + 1 = nI (g + 1)
      rw [h7]; exact nI_1 g
  · have hB9 : mB d = gD d 9 (upd (upd (d 9) 4 (mPl d)) 5 (mBl d)) := by unfold mB; rw [if_neg hq]
    rw [hB9]
    exact fun _ => ⟨h2, ⟨i, p', g, hi, h3, hpp, hp', h7, by omega⟩, h8, b', hb1', hb2', hb'⟩
theorem iOk_B {d : gDt} {B : Nat} (h : iOk d B) (hg : ¬ d 9 2 = 0) : iOk (mB d) (B + 1) := by
  obtain ⟨hM, hF, hT, hp, hr, hj⟩ := h
  refine ⟨mOk_B hM, ?_, ?_, ?_, ?_, jP_B hM hj hg⟩
  · unfold fOk; rw [nP_B, mB_o d (by decide), mB_o d (by decide)]; exact hF
  · unfold tOk; rw [mB_o d (by decide)]; exact hT
  · unfold pOk; rw [mB_o d (by decide)]; exact hp
  · unfold rOk; rw [mB_o d (by decide)]; exact hr
theorem I_bt : ∀ (k : Nat) (d : gDt) (tk : Int64) (st : Nat → Int64) (B : Nat), iOk d B → iOk (m_bt k d tk st).2.1 (B + k) := by
  intro k
  induction k with
  | zero => intro d tk st B h; exact h
  | succ k ih =>
    intro d tk st B h
    show iOk (if d 9 2 = 0 then (0, d, tk, st) else ((m_bt k (mB d) (tk + (d 9 5).toInt64) (m_sts (d 9 6) st)).1 + 1, (m_bt k (mB d) (tk + (d 9 5).toInt64) (m_sts (d 9 6) st)).2) : Nat × gDt × Int64 × (Nat → Int64)).2.1 (B + (k + 1))
    by_cases hg : d 9 2 = 0
    · rw [if_pos hg]
      exact ⟨h.1, h.2.1, h.2.2.1, h.2.2.2.1, h.2.2.2.2.1, jP_le h.2.2.2.2.2 (by omega)⟩
    · rw [if_neg hg]
      have := ih (mB d) (tk + (d 9 5).toInt64) (m_sts (d 9 6) st) (B + 1) (iOk_B h hg)
      rw [show B + (k + 1) = B + 1 + k by omega]
      exact this
theorem I_beats {d : gDt} {B : Nat} {x : Int32} {tk : Int64} {st : Nat → Int64} (h : iOk d B) (g : ¬ m_go (ga_beats d x) (gb_beats d x) (gc_beats d x) = 0) : iOk (m_bt x.toNatClampNeg (sL d 0) tk st).2.1 (B + 100) := by
  obtain ⟨ga, -, -⟩ := m_go_ne g
  obtain ⟨l1, l2⟩ := f_in_ne ga
  obtain ⟨y, y1, y2, rfl⟩ := nI_bet (a := 1) (b := 100) (by omega) l1 l2 (by omega)
  rw [nI_clamp (by omega)]
  have h0 : iOk (sL d 0) B := h
  have := I_bt y (sL d 0) tk st B h0
  exact ⟨this.1, this.2.1, this.2.2.1, this.2.2.2.1, this.2.2.2.2.1, jP_le this.2.2.2.2.2 (by omega)⟩
theorem I_pitch {d : gDt} {B : Nat} {x y z : Int32} (h : iOk d B) (g : ¬ m_go (ga_pitch d x y z) (gb_pitch d x y z) (gc_pitch d x y z) = 0) : iOk (sL (gD d 4 (upd (d 4) (8 * x + y).toNatClampNeg z)) 0) (B + 100) := by
  obtain ⟨hM, hF, hT, hp, hr, hj⟩ := h
  obtain ⟨-, gb, -⟩ := m_go_ne g
  refine ⟨hM, hF, hT, ?_, hr, (jP_le hj (by omega) : jP d (B + 100))⟩
  intro u k hu k1 k7
  show ∃ p, 5000 ≤ p ∧ p ≤ 200000 ∧ upd (d 4) (8 * x + y).toNatClampNeg z (8 * u + k) = nI p
  by_cases hk : 8 * u + k = (8 * x + y).toNatClampNeg
  · rw [hk, upd_e]
    obtain ⟨l1, l2⟩ := f_in_ne gb
    obtain ⟨q, q1, q2, e⟩ := nI_bet (a := 5000) (b := 200000) (by omega) l1 l2 (by omega)
    exact ⟨q, q1, q2, e⟩
  · rw [upd_n hk]; exact hp u k hu k1 k7
theorem ag1_r {r p : Nat} (hr : r ≤ 50) (h1 : 5000 ≤ p) (h2 : p ≤ 200000) : ∃ q, 5000 ≤ q ∧ q ≤ 200000 ∧ f_ag1 (nI r) (nI p) = nI q := by
  have hm : p * r ≤ 200000 * 50 := Nat.mul_le_mul h2 hr
  have hd : p * r / 10000 ≤ p := Nat.div_le_of_le_mul (by rw [Nat.mul_comm 10000 p]; exact Nat.mul_le_mul_left p (by omega))
  have e : nI p - nI p * nI r / 10000 = nI (p - p * r / 10000) := by
    rw [pk_mul, show (10000 : Int32) = nI 10000 from rfl, pk_div (by omega) (by omega) (by omega), pk_sub hd]
  unfold f_ag1
  rw [e, show (5000 : Int32) = nI 5000 from rfl]
  by_cases h : p - p * r / 10000 < 5000
  · rw [if_pos ((nI_ltI (by omega) (by omega)).mpr h)]; exact ⟨5000, by omega, by omega, rfl⟩
  · rw [if_neg (fun g => h ((nI_ltI (by omega) (by omega)).mp g))]; exact ⟨_, by omega, by omega, rfl⟩
theorem ags_r {r : Nat} (hr : r ≤ 50) : ∀ (n p : Nat), 5000 ≤ p → p ≤ 200000 → ∃ q, 5000 ≤ q ∧ q ≤ 200000 ∧ f_ags (nI r) n (nI p) = nI q := by
  intro n
  induction n with
  | zero => intro p h1 h2; exact ⟨p, h1, h2, rfl⟩
  | succ n ih =>
    intro p h1 h2
    obtain ⟨q, q1, q2, e⟩ := ag1_r hr h1 h2
    show ∃ q, 5000 ≤ q ∧ q ≤ 200000 ∧ f_ags (nI r) n (f_ag1 (nI r) (nI p)) = nI q
    rw [e]
    exact ih q q1 q2
theorem I_years {d : gDt} {B n : Nat} {y : Int32} (h : iOk d B) : iOk (sL (gD (gD d 4 (m_yrs d n)) 9 (upd (d 9) 12 y)) 0) (B + 100) := by
  obtain ⟨hM, hF, hT, hp, hr, hj⟩ := h
  refine ⟨hM, hF, hT, ?_, hr, (jP_le hj (by omega) : jP d (B + 100))⟩
  intro u k hu k1 k7
  show ∃ p, 5000 ≤ p ∧ p ≤ 200000 ∧ (if 8 * u + k < 32 then f_ags (d 5 ((8 * u + k) / 8)) n (d 4 (8 * u + k)) else d 4 (8 * u + k)) = nI p
  rw [if_pos (by omega), show (8 * u + k) / 8 = u by omega]
  obtain ⟨p, p1, p2, e⟩ := hp u k hu k1 k7
  obtain ⟨r, r1, er⟩ := hr u hu
  rw [e, er]
  exact ags_r r1 n p p1 p2
theorem tun_r (o q : Int64) (p : Int32) : ∃ r, 5000 ≤ r ∧ r ≤ 200000 ∧ m_tun o q p = nI r := by
  unfold m_tun
  generalize p.toInt64 * q / o = v
  by_cases h1 : 0 ≤ lg_cmp v 5000
  · rw [if_pos h1]
    by_cases h2 : lg_cmp v 200000 ≤ 0
    · rw [if_pos h2]
      have l1 := (lg_cmp_ge _ _).mp h1
      have l2 := (lg_cmp_le _ _).mp h2
      rw [Int64.le_iff_toInt_le, show (5000 : Int64).toInt = 5000 by decide] at l1
      rw [Int64.le_iff_toInt_le, show (200000 : Int64).toInt = 200000 by decide] at l2
      refine ⟨v.toInt.toNat, by omega, by omega, ?_⟩
      apply Int32.toInt_inj.mp
      rw [nI_toInt (by omega), Int64.toInt_toInt32, Int.bmod_eq_of_le (by omega) (by omega)]
      omega
    · rw [if_neg h2]; exact ⟨200000, by omega, by omega, rfl⟩
  · rw [if_neg h1]; exact ⟨5000, by omega, by omega, rfl⟩
theorem I_tune {d : gDt} {B : Nat} {x y : Int32} (h : iOk d B) : iOk (sL (gD d 4 (m_tunD d x y)) 0) (B + 100) := by
  obtain ⟨hM, hF, hT, hp, hr, hj⟩ := h
  refine ⟨hM, hF, hT, ?_, hr, (jP_le hj (by omega) : jP d (B + 100))⟩
  intro u k hu k1 k7
  show ∃ p, 5000 ≤ p ∧ p ≤ 200000 ∧ (if 8 * x.toNatClampNeg + 1 ≤ 8 * u + k ∧ 8 * u + k < 8 * x.toNatClampNeg + 1 + 7 then m_tun (d 4 (8 * x.toNatClampNeg + 1)).toInt64 (d 4 (8 * y.toNatClampNeg + 1)).toInt64 (d 4 (8 * u + k)) else d 4 (8 * u + k)) = nI p
  split
  · exact tun_r _ _ _
  · exact hp u k hu k1 k7
theorem I_learn {d : gDt} {B : Nat} {x y o : Int32} (h : iOk d B) : iOk (sL (m_lrn d x y o) 0) (B + 100) := by
  obtain ⟨hM, hF, hT, hp, hr, hj⟩ := h
  exact ⟨hM, hF, hT, hp, hr, (jP_le hj (by omega) : jP d (B + 100))⟩
theorem I_slip {d : gDt} {B : Nat} {f : Nat → Int32} (h : iOk d B) : iOk (sL (gD d 8 f) 0) (B + 100) := by
  obtain ⟨hM, hF, hT, hp, hr, hj⟩ := h
  exact ⟨hM, hF, hT, hp, hr, (jP_le hj (by omega) : jP d (B + 100))⟩
theorem I_0 : iOk d_0 0 := by
  refine ⟨⟨⟨Nat.zero_le _, Nat.zero_le _, Nat.zero_le _⟩, ⟨rfl, rfl, rfl⟩, fun j hj => absurd hj (Nat.not_lt_zero j), fun j hj => absurd hj (Nat.not_lt_zero j)⟩, fun _ _ _ => ⟨rfl, fun _ _ _ => rfl⟩, fun _ => ⟨0, by omega, rfl⟩, ?_, fun _ _ => ⟨0, by omega, rfl⟩, fun g => absurd rfl g⟩
  intro u k hu k1 k7
  refine ⟨44000, by omega, by omega, ?_⟩
  show (if 8 * u + k < 32 then (44000 : Int32) else 0) = nI 44000
  rw [if_pos (by omega)]
  rfl
