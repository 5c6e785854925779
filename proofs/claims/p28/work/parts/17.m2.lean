/-! GongCyclesModel: its methods -/
/-- the data with what was thrown last -/
def sL (d : gDt) (x : Int32) : gDt := gD d 9 (upd (d 9) 14 x)
theorem and_ne {a b : Prop} [Decidable a] [Decidable b] (h : ¬ (if a then (0 : Int32) else if b then 0 else 1) = 0) : ¬ a ∧ ¬ b := by
  by_cases ha : a
  · rw [if_pos ha] at h; exact absurd rfl h
  · rw [if_neg ha] at h
    by_cases hb : b
    · rw [if_pos hb] at h; exact absurd rfl h
    · exact ⟨ha, hb⟩
theorem one_ne {a : Prop} [Decidable a] (h : ¬ (if a then (0 : Int32) else 1) = 0) : ¬ a := by
  by_cases ha : a
  · rw [if_pos ha] at h; exact absurd rfl h
  · exact ha
theorem and3_ne {a b c : Prop} [Decidable a] [Decidable b] [Decidable c] (h : ¬ (if a then (0 : Int32) else if b then 0 else if c then 1 else 0) = 0) : ¬ a ∧ ¬ b ∧ c := by
  by_cases ha : a
  · rw [if_pos ha] at h; exact absurd rfl h
  · rw [if_neg ha] at h
    by_cases hb : b
    · rw [if_pos hb] at h; exact absurd rfl h
    · rw [if_neg hb] at h
      by_cases hc : c
      · exact ⟨ha, hb, hc⟩
      · rw [if_neg hc] at h; exact absurd rfl h
theorem ix_place {d : gDt} {x y : Int32} (hd : mOk d) (h : ¬ m_isPlace d x y = 0) : vp_in (65 * x + y) 390 := by
  obtain ⟨i, j, hi, h1, h2, rfl, rfl⟩ := m_isPlace_ne hd h
  exact m_ixin (by have := hd.1.2.1; omega) (by have := (mOk_len hd hi).2.2.1; omega)
theorem ix_piece {d : gDt} {x : Int32} (hd : mOk d) (h : ¬ m_isPiece d x = 0) : vp_in x 6 := by
  obtain ⟨i, hi, rfl⟩ := m_isPiece_ne hd h
  exact vp_in_nI (by have := hd.1.2.1; omega) (by decide)
theorem ix_form {d : gDt} {x : Int32} (hd : mOk d) (h : ¬ m_isForm d x = 0) : vp_in x 4 := by
  obtain ⟨i, hi, rfl⟩ := m_isForm_ne hd h
  exact vp_in_nI (by have := hd.1.1; omega) (by decide)
theorem ix_set {x : Int32} (h : ¬ m_isSet x = 0) : vp_in x 4 := by
  unfold m_isSet at h
  obtain ⟨h1, h2⟩ := f_in_ne h
  obtain ⟨i, _, hi, rfl⟩ := nI_bet (a := 0) (b := 3) (by decide) h1 h2 (by decide)
  exact vp_in_nI (by omega) (by decide)
theorem ix_part {x : Int32} (h : ¬ m_isPart x = 0) : vp_in x 4 := by
  unfold m_isPart at h
  obtain ⟨h1, h2⟩ := f_in_ne h
  obtain ⟨i, _, hi, rfl⟩ := nI_bet (a := 0) (b := 3) (by decide) h1 h2 (by decide)
  exact vp_in_nI (by omega) (by decide)
theorem ix_pit {x y : Int32} (h : ¬ m_isSet x = 0) (h2 : ¬ f_in y 1 7 = 0) : vp_in (8 * x + y) 32 := by
  unfold m_isSet at h
  obtain ⟨a1, a2⟩ := f_in_ne h
  obtain ⟨b1, b2⟩ := f_in_ne h2
  obtain ⟨i, _, hi, rfl⟩ := nI_bet (a := 0) (b := 3) (by decide) a1 a2 (by decide)
  obtain ⟨j, _, hj, rfl⟩ := nI_bet (a := 1) (b := 7) (by decide) b1 b2 (by decide)
  rw [show (8 : Int32) = nI 8 from rfl, pk_mul, nI_add]
  exact vp_in_nI (by omega) (by decide)
theorem ix_cnt {x : Int32} {n N : Nat} (e : x = nI n) (h : x < nI N) (hn : n < 2 ^ 30) (hN : N < 2 ^ 30) : vp_in x N := by
  rw [e] at h ⊢
  exact vp_in_nI ((nI_ltI (by omega) (by omega)).mp h) (by omega)
theorem c_lt {x y : Int32} (h : ¬ (if y ≤ x then (0 : Int32) else 1) = 0) : x < y := Int32.not_le.mp (one_ne h)
def ga_form (d : gDt) (x : Int32) : Int32 := (if (f_in x 4 64) = 0 then 0 else (if (x - x / 4 * 4) = 0 then 1 else 0 : Int32) : Int32)
def gb_form (d : gDt) (x : Int32) : Int32 := (if 4 ≤ (d 9 0) then 0 else 1 : Int32)
def gc_form (d : gDt) (x : Int32) : Int32 := 1
def ga_piece (d : gDt) (x : Int32) : Int32 := (m_isForm d x)
def gb_piece (d : gDt) (x : Int32) : Int32 := (if 6 ≤ (d 9 1) then 0 else 1 : Int32)
def gc_piece (d : gDt) (x : Int32) : Int32 := 1
def ga_player (d : gDt) (x : Int32) : Int32 := (f_in x 0 15)
def gb_player (d : gDt) (x : Int32) : Int32 := (if 8 ≤ (d 9 13) then 0 else 1 : Int32)
def gc_player (d : gDt) (x : Int32) : Int32 := 1
def ga_tone (d : gDt) (x y z : Int32) : Int32 := (m_isPlace d x y)
def gb_tone (d : gDt) (x y z : Int32) : Int32 := (f_in z 0 7)
def gc_tone (d : gDt) (x y z : Int32) : Int32 := 1
def ga_forbid (d : gDt) (x y : Int32) : Int32 := (m_isPiece d x)
def gb_forbid (d : gDt) (x y : Int32) : Int32 := (f_in y 0 31)
def gc_forbid (d : gDt) (x y : Int32) : Int32 := 1
def ga_drift (d : gDt) (x y : Int32) : Int32 := (m_isSet x)
def gb_drift (d : gDt) (x y : Int32) : Int32 := (f_in y 0 50)
def gc_drift (d : gDt) (x y : Int32) : Int32 := 1
def ga_pitch (d : gDt) (x y z : Int32) : Int32 := (if (m_isSet x) = 0 then 0 else (if (f_in y 1 7) = 0 then 0 else 1 : Int32) : Int32)
def gb_pitch (d : gDt) (x y z : Int32) : Int32 := (f_in z 5000 200000)
def gc_pitch (d : gDt) (x y z : Int32) : Int32 := 1
def ga_days (d : gDt) (x : Int32) : Int32 := (f_in x 1 100)
def gb_days (d : gDt) (x : Int32) : Int32 := (if (d 9 2) = 0 then 1 else 0 : Int32)
def gc_days (d : gDt) (x : Int32) : Int32 := 1
def ga_strokes (d : gDt) (x : Int32) : Int32 := (m_isPart x)
def gb_strokes (d : gDt) (x : Int32) : Int32 := 1
def gc_strokes (d : gDt) (x : Int32) : Int32 := 1
