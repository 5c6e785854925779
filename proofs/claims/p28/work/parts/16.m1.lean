/-! GongCyclesModel: its state, and its helpers -/
/-- d: 0 lengths, 1 formOf, 2 forbidden, 3 tones, 4 pitches, 5 drifts, 6 able, 7 knows, 8 versions, 9 the numbers: 0 forms, 1 pieces, 2 isPlayed, 3 current, 4 place, 5 beat, 6 level, 7 gongs, 8 drums, 9 ends, 10 begun, 11 day, 12 years, 13 players, 14 last -/
abbrev gDt : Type := Nat → Nat → Int32
def gD (d : gDt) (k : Nat) (f : Nat → Int32) : gDt := fun j => if j = k then f else d j
def mW (tc : Nat → ClassId) (w : gW) (ad : Nat → Nat) (d : gDt) (tk : Int64) (st : Nat → Int64) : Prop := w 1000 = some ((ad 0), .inr (6, [.ref (ad 1), .int (d 9 0), .ref (ad 2), .ref (ad 3), .ref (ad 4), .int (d 9 1), .int (d 9 2), .int (d 9 3), .int (d 9 4), .int (d 9 5), .int (d 9 6), .int (d 9 7), .int (d 9 8), .int (d 9 9), .long tk, .ref (ad 5), .int (d 9 10), .int (d 9 11), .ref (ad 6), .ref (ad 7), .int (d 9 12), .ref (ad 8), .ref (ad 9), .ref (ad 10), .int (d 9 13), .int (d 9 14)])) ∧ w 1001 = some ((ad 1), .inl (tc 0, 4, .inl (d 0))) ∧ w 1002 = some ((ad 2), .inl (tc 0, 6, .inl (d 1))) ∧ w 1003 = some ((ad 3), .inl (tc 0, 6, .inl (d 2))) ∧ w 1004 = some ((ad 4), .inl (tc 0, 390, .inl (d 3))) ∧ w 1005 = some ((ad 5), .inl (tc 1, 4, .inr (.inl st))) ∧ w 1006 = some ((ad 6), .inl (tc 0, 32, .inl (d 4))) ∧ w 1007 = some ((ad 7), .inl (tc 0, 4, .inl (d 5))) ∧ w 1008 = some ((ad 8), .inl (tc 0, 8, .inl (d 6))) ∧ w 1009 = some ((ad 9), .inl (tc 2, 48, .inl (d 7))) ∧ w 1010 = some ((ad 10), .inl (tc 0, 3120, .inl (d 8)))
def gF (w w' : gW) : Prop := ∀ k : Nat, k < 1000 → w' k = w k
theorem gF_rf (w : gW) : gF w w := fun _ _ => rfl
theorem gF_u {w w1 w2 : gW} {k : Nat} {x : Nat × va_E} (h : gF w w1) (e : w2 = gU w1 k x) (hk : 1000 ≤ k) : gF w w2 := fun j hj => by rw [e, gU_ne _ _ (by omega)]; exact h j hj
theorem gF_tr {w w1 w2 : gW} (h : gF w w1) (h2 : gF w1 w2) : gF w w2 := fun j hj => (h2 j hj).trans (h j hj)
def nF (d : gDt) : Nat := (d 9 0).toNatClampNeg
def nP (d : gDt) : Nat := (d 9 1).toNatClampNeg
def nU (d : gDt) : Nat := (d 9 13).toNatClampNeg
/-- the length of a piece -/
def lenN (d : gDt) (i : Nat) : Nat := (d 0 (d 1 i).toNatClampNeg).toNatClampNeg
/-- a length is 4 to 64, a multiple of 4 -/
def gLen (x : Int32) : Prop := ∃ q : Nat, 1 ≤ q ∧ q ≤ 16 ∧ x = nI (4 * q)
/-- what the forms, pieces, players of a state are -/
def mOk (d : gDt) : Prop := (nF d ≤ 4 ∧ nP d ≤ 6 ∧ nU d ≤ 8) ∧ (d 9 0 = nI (nF d) ∧ d 9 1 = nI (nP d) ∧ d 9 13 = nI (nU d)) ∧ (∀ j, j < nF d → gLen (d 0 j)) ∧ (∀ i, i < nP d → ∃ j, j < nF d ∧ d 1 i = nI j)
theorem mW_mk {tc : Nat → ClassId} {w : gW} {ad : Nat → Nat} {d : gDt} {tk : Int64} {st : Nat → Int64} {x : Int32} (o0 : w 1000 = some ((ad 0), .inr (6, [.ref (ad 1), .int (d 9 0), .ref (ad 2), .ref (ad 3), .ref (ad 4), .int (d 9 1), .int (d 9 2), .int (d 9 3), .int (d 9 4), .int (d 9 5), .int (d 9 6), .int (d 9 7), .int (d 9 8), .int (d 9 9), .long tk, .ref (ad 5), .int (d 9 10), .int (d 9 11), .ref (ad 6), .ref (ad 7), .int (d 9 12), .ref (ad 8), .ref (ad 9), .ref (ad 10), .int (d 9 13), .int x]))) (o1 : w 1001 = some ((ad 1), .inl (tc 0, 4, .inl (d 0)))) (o2 : w 1002 = some ((ad 2), .inl (tc 0, 6, .inl (d 1)))) (o3 : w 1003 = some ((ad 3), .inl (tc 0, 6, .inl (d 2)))) (o4 : w 1004 = some ((ad 4), .inl (tc 0, 390, .inl (d 3)))) (o5 : w 1005 = some ((ad 5), .inl (tc 1, 4, .inr (.inl st)))) (o6 : w 1006 = some ((ad 6), .inl (tc 0, 32, .inl (d 4)))) (o7 : w 1007 = some ((ad 7), .inl (tc 0, 4, .inl (d 5)))) (o8 : w 1008 = some ((ad 8), .inl (tc 0, 8, .inl (d 6)))) (o9 : w 1009 = some ((ad 9), .inl (tc 2, 48, .inl (d 7)))) (o10 : w 1010 = some ((ad 10), .inl (tc 0, 3120, .inl (d 8)))) : mW tc w ad (gD d 9 (upd (d 9) 14 x)) tk st := ⟨o0, o1, o2, o3, o4, o5, o6, o7, o8, o9, o10⟩
theorem gLen_n {x : Int32} (h : gLen x) : x = nI x.toNatClampNeg ∧ 4 ≤ x.toNatClampNeg ∧ x.toNatClampNeg ≤ 64 ∧ x.toNatClampNeg % 4 = 0 := by
  obtain ⟨q, h1, h2, rfl⟩ := h
  rw [nI_clamp (by omega)]
  exact ⟨rfl, by omega, by omega, by omega⟩
theorem mOk_len {d : gDt} {i : Nat} (h : mOk d) (hi : i < nP d) : d 0 (d 1 i).toNatClampNeg = nI (lenN d i) ∧ 4 ≤ lenN d i ∧ lenN d i ≤ 64 ∧ lenN d i % 4 = 0 := by
  obtain ⟨j, hj, e⟩ := h.2.2.2 i hi
  have hf := h.1.1
  have h2 := gLen_n (h.2.2.1 j hj)
  unfold lenN
  rw [e, nI_clamp (by omega)]
  exact h2
theorem f_in_ne {a b d : Int32} (h : ¬ f_in a b d = 0) : b ≤ a ∧ a ≤ d := by
  unfold f_in at h
  by_cases h1 : a < b
  · rw [if_pos h1] at h; exact absurd rfl h
  · rw [if_neg h1] at h
    by_cases h2 : d < a
    · rw [if_pos h2] at h; exact absurd rfl h
    · exact ⟨Int32.not_lt.mp h1, Int32.not_lt.mp h2⟩
theorem f_in_z {a b d : Int32} (h : f_in a b d = 0) : ¬ (b ≤ a ∧ a ≤ d) := by
  intro ⟨h1, h2⟩
  unfold f_in at h
  rw [if_neg (Int32.not_lt.mpr h1), if_neg (Int32.not_lt.mpr h2)] at h
  exact absurd h (by decide)
theorem nI_cnt {x : Int32} {n : Nat} (hn : n < 2 ^ 30) (h1 : (0 : Int32) ≤ x) (h2 : x ≤ nI n - 1) : ∃ i, i < n ∧ x = nI i := by
  rw [Int32.le_iff_toInt_le] at h1 h2
  have e0 : (0 : Int32).toInt = 0 := by decide
  have e1 : (1 : Int32).toInt = 1 := by decide
  rw [e0] at h1
  rw [Int32.toInt_sub, nI_toInt (by omega), e1, Int.bmod_eq_of_le (by omega) (by omega)] at h2
  refine ⟨x.toInt.toNat, by omega, ?_⟩
  apply Int32.toInt_inj.mp
  rw [nI_toInt (by omega)]
  omega
theorem nI_bet {x : Int32} {a b : Nat} (hb : b < 2 ^ 30) (h1 : nI a ≤ x) (h2 : x ≤ nI b) (ha : a < 2 ^ 30) : ∃ i, a ≤ i ∧ i ≤ b ∧ x = nI i := by
  rw [Int32.le_iff_toInt_le, nI_toInt (by omega)] at h1 h2
  refine ⟨x.toInt.toNat, by omega, by omega, ?_⟩
  apply Int32.toInt_inj.mp
  rw [nI_toInt (by omega)]
  omega
theorem f_in_nI {a b c : Nat} (ha : a < 2 ^ 31) (hb : b < 2 ^ 31) (hc : c < 2 ^ 31) (h1 : b ≤ a) (h2 : a ≤ c) : f_in (nI a) (nI b) (nI c) = 1 := by
  unfold f_in
  rw [if_neg, if_neg]
  · rw [nI_ltI hc ha]; omega
  · rw [nI_ltI ha hb]; omega
def m_go (a b c : Int32) : Int32 := if a = 0 then 0 else if b = 0 then 0 else if c = 0 then 0 else 1
def m_la (a b c : Int32) : Int32 := if a = 0 then 1 else if b = 0 then 2 else if c = 0 then 3 else 0
theorem m_go_ne {a b c : Int32} (h : ¬ m_go a b c = 0) : ¬ a = 0 ∧ ¬ b = 0 ∧ ¬ c = 0 := by
  unfold m_go at h
  by_cases ha : a = 0
  · rw [if_pos ha] at h; exact absurd rfl h
  · rw [if_neg ha] at h
    by_cases hb : b = 0
    · rw [if_pos hb] at h; exact absurd rfl h
    · rw [if_neg hb] at h
      by_cases hc : c = 0
      · rw [if_pos hc] at h; exact absurd rfl h
      · exact ⟨ha, hb, hc⟩
theorem m_la_ok {a b c : Int32} (h : ¬ m_go a b c = 0) : m_la a b c = 0 := by
  obtain ⟨ha, hb, hc⟩ := m_go_ne h
  unfold m_la
  rw [if_neg ha, if_neg hb, if_neg hc]
theorem m_la_no {a b c : Int32} (h : m_go a b c = 0) : ¬ m_la a b c = 0 := by
  unfold m_go at h
  unfold m_la
  by_cases ha : a = 0
  · rw [if_pos ha]; decide
  · rw [if_neg ha] at h ⊢
    by_cases hb : b = 0
    · rw [if_pos hb]; decide
    · rw [if_neg hb] at h ⊢
      by_cases hc : c = 0
      · rw [if_pos hc]; decide
      · rw [if_neg hc] at h; exact absurd h (by decide)
theorem m_go_b (a b c : Int32) : m_go a b c = 0 ∨ m_go a b c = 1 := by
  unfold m_go
  repeat' split
  all_goals first | exact Or.inl rfl | exact Or.inr rfl
def m_isForm (d : gDt) (x : Int32) : Int32 := (f_in x 0 ((d 9 0) - 1))
theorem m_isForm_b (d : gDt) (x : Int32) : m_isForm d x = 0 ∨ m_isForm d x = 1 := by
  unfold m_isForm
  repeat' split
  all_goals first | exact Or.inl rfl | exact Or.inr rfl | apply f_in_b
def m_isPiece (d : gDt) (x : Int32) : Int32 := (f_in x 0 ((d 9 1) - 1))
theorem m_isPiece_b (d : gDt) (x : Int32) : m_isPiece d x = 0 ∨ m_isPiece d x = 1 := by
  unfold m_isPiece
  repeat' split
  all_goals first | exact Or.inl rfl | exact Or.inr rfl | apply f_in_b
def m_isPlayer (d : gDt) (x : Int32) : Int32 := (f_in x 0 ((d 9 13) - 1))
theorem m_isPlayer_b (d : gDt) (x : Int32) : m_isPlayer d x = 0 ∨ m_isPlayer d x = 1 := by
  unfold m_isPlayer
  repeat' split
  all_goals first | exact Or.inl rfl | exact Or.inr rfl | apply f_in_b
theorem m_isForm_ne {d : gDt} {x : Int32} (hd : mOk d) (h : ¬ m_isForm d x = 0) : ∃ i, i < nF d ∧ x = nI i := by
  unfold m_isForm at h
  obtain ⟨h1, h2⟩ := f_in_ne h
  rw [hd.2.1.1] at h2
  exact nI_cnt (by have := hd.1.1; omega) h1 h2
theorem m_isPiece_ne {d : gDt} {x : Int32} (hd : mOk d) (h : ¬ m_isPiece d x = 0) : ∃ i, i < nP d ∧ x = nI i := by
  unfold m_isPiece at h
  obtain ⟨h1, h2⟩ := f_in_ne h
  rw [hd.2.1.2.1] at h2
  exact nI_cnt (by have := hd.1.2.1; omega) h1 h2
theorem m_isPlayer_ne {d : gDt} {x : Int32} (hd : mOk d) (h : ¬ m_isPlayer d x = 0) : ∃ i, i < nU d ∧ x = nI i := by
  unfold m_isPlayer at h
  obtain ⟨h1, h2⟩ := f_in_ne h
  rw [hd.2.1.2.2] at h2
  exact nI_cnt (by have := hd.1.2.2; omega) h1 h2
theorem mOk_f {d : gDt} {i : Nat} (h : mOk d) (hi : i < nP d) : vp_in (d 1 (nI i).toNatClampNeg) 4 := by
  obtain ⟨j, hj, e⟩ := h.2.2.2 i hi
  have := h.1.1
  have := h.1.2.1
  rw [nI_clamp (by omega), e]
  exact vp_in_nI (by omega) (by decide)
def m_isPlace (d : gDt) (x y : Int32) : Int32 := if m_isPiece d x = 0 then 0 else if f_in y 1 (nI (lenN d x.toNatClampNeg)) = 0 then 0 else 1
theorem m_isPlace_b (d : gDt) (x y : Int32) : m_isPlace d x y = 0 ∨ m_isPlace d x y = 1 := by
  unfold m_isPlace
  repeat' split
  all_goals first | exact Or.inl rfl | exact Or.inr rfl
theorem m_isPlace_ne {d : gDt} {x y : Int32} (hd : mOk d) (h : ¬ m_isPlace d x y = 0) : ∃ i j, i < nP d ∧ 1 ≤ j ∧ j ≤ lenN d i ∧ x = nI i ∧ y = nI j := by
  unfold m_isPlace at h
  by_cases h1 : m_isPiece d x = 0
  · rw [if_pos h1] at h; exact absurd rfl h
  · rw [if_neg h1] at h
    obtain ⟨i, hi, rfl⟩ := m_isPiece_ne hd h1
    have hp := hd.1.2.1
    rw [nI_clamp (by omega)] at h
    by_cases h2 : f_in y 1 (nI (lenN d i)) = 0
    · rw [if_pos h2] at h; exact absurd rfl h
    · obtain ⟨h3, h4⟩ := f_in_ne h2
      obtain ⟨j, hj1, hj2, rfl⟩ := nI_bet (a := 1) (b := lenN d i) (by have := (mOk_len hd hi).2.2.1; omega) h3 h4 (by decide)
      exact ⟨i, j, hi, hj1, hj2, rfl, rfl⟩
theorem m_isPlace_of {d : gDt} {i j : Nat} (hd : mOk d) (hi : i < nP d) (h1 : 1 ≤ j) (h2 : j ≤ lenN d i) : m_isPlace d (nI i) (nI j) = 1 := by
  have hp := hd.1.2.1
  have hl := (mOk_len hd hi).2.2.1
  unfold m_isPlace m_isPiece
  have e : f_in (nI i) 0 (d 9 1 - 1) = 1 := by
    rw [hd.2.1.2.1, show nI (nP d) - 1 = nI (nP d - 1) by rw [show nP d = (nP d - 1) + 1 by omega, nI_pred, Nat.add_sub_cancel]]
    exact f_in_nI (b := 0) (by omega) (by omega) (by omega) (by omega) (by omega)
  rw [e, if_neg (by decide), nI_clamp (by omega), show (1 : Int32) = nI 1 from rfl, f_in_nI (by omega) (by omega) (by omega) h1 h2, if_neg (by decide)]
def m_pos (T : Nat → Int32) (i n : Nat) : Nat → Nat → Nat
  | 0, y => y
  | k + 1, y => if T (65 * i + y) = 0 then m_pos T i n k (if y = 1 then n else y - 1) else y
def m_snd (d : gDt) (i y : Nat) : Int32 := d 3 (65 * i + m_pos (d 3) i (lenN d i) (lenN d i) y)
theorem m_ix {i y : Nat} (hi : i < 6) (hy : y ≤ 64) : (65 : Int32) * nI i + nI y = nI (65 * i + y) := by
  rw [show (65 : Int32) = nI 65 from rfl, pk_mul, nI_add]
theorem m_ixin {i y : Nat} (hi : i < 6) (hy : y ≤ 64) : vp_in ((65 : Int32) * nI i + nI y) 390 := by
  rw [m_ix hi hy]
  exact vp_in_nI (by omega) (by decide)
theorem m_ixc {i y : Nat} (hi : i < 6) (hy : y ≤ 64) : ((65 : Int32) * nI i + nI y).toNatClampNeg = 65 * i + y := by
  rw [m_ix hi hy, nI_clamp (by omega)]
theorem m_y1 {y : Nat} (hy : y < 2 ^ 31) (h : nI y = 1) : y = 1 := (nI_eq (b := 1) hy (by decide)).mp h
