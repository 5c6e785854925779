/-! GongCyclesModel: versions, tunings -/
def m_kn (d : gDt) (x y : Int32) : Int32 := if x = -1 then 1 else if d 7 (6 * x + y).toNatClampNeg = 0 then 0 else 1
theorem m_kn_b (d : gDt) (x y : Int32) : m_kn d x y = 0 ∨ m_kn d x y = 1 := by
  unfold m_kn
  repeat' split
  all_goals first | exact Or.inl rfl | exact Or.inr rfl
theorem ix_knI {u i : Nat} (hu : u < 8) (hi : i < 6) : (6 : Int32) * nI u + nI i = nI (6 * u + i) := by
  rw [show (6 : Int32) = nI 6 from rfl, pk_mul, nI_add]
theorem ix_kn {d : gDt} {x y : Int32} (hd : mOk d) (h1 : ¬ m_isPlayer d x = 0) (h2 : ¬ m_isPiece d y = 0) : vp_in (6 * x + y) 48 := by
  obtain ⟨u, hu, rfl⟩ := m_isPlayer_ne hd h1
  obtain ⟨i, hi, rfl⟩ := m_isPiece_ne hd h2
  have := hd.1.2.1
  have := hd.1.2.2
  rw [ix_knI (by omega) (by omega)]
  exact vp_in_nI (by omega) (by decide)
theorem ix_ver {u i y : Nat} (hu : u < 8) (hi : i < 6) (hy : y ≤ 64) : (65 : Int32) * (6 * nI u + nI i) + nI y = nI (65 * (6 * u + i) + y) := by
  rw [ix_knI hu hi, show (65 : Int32) = nI 65 from rfl, pk_mul, nI_add]
theorem isPl_piece {d : gDt} {x y : Int32} (h : ¬ m_isPlace d x y = 0) : ¬ m_isPiece d x = 0 := by
  unfold m_isPlace at h
  intro h1
  rw [if_pos h1] at h
  exact h rfl
def m_tof (d : gDt) (x : Int32) (i y : Nat) : Int32 := if x = -1 then d 3 (65 * i + y) else d 8 (65 * (6 * x.toNatClampNeg + i) + y)
theorem and3b_ne {a b c : Prop} [Decidable a] [Decidable b] [Decidable c] (h : ¬ (if a then (0 : Int32) else if b then 0 else if c then 0 else 1) = 0) : ¬ a ∧ ¬ b ∧ ¬ c := by
  by_cases ha : a
  · rw [if_pos ha] at h; exact absurd rfl h
  · rw [if_neg ha] at h
    exact ⟨ha, and_ne h⟩
def m_beat (d : gDt) (x y z : Int32) : Int32 := if 0 ≤ d 4 (8 * x + z).toNatClampNeg - d 4 (8 * y + z).toNatClampNeg then d 4 (8 * x + z).toNatClampNeg - d 4 (8 * y + z).toNatClampNeg else -(d 4 (8 * x + z).toNatClampNeg - d 4 (8 * y + z).toNatClampNeg)
def ga_beat (d : gDt) (x y z : Int32) : Int32 := (if (m_isSet x) = 0 then 0 else (if (m_isSet y) = 0 then 0 else (if (f_in z 1 7) = 0 then 0 else 1 : Int32) : Int32) : Int32)
def gb_beat (d : gDt) (x y z : Int32) : Int32 := 1
def gc_beat (d : gDt) (x y z : Int32) : Int32 := 1
theorem ix_slip {d : gDt} {x y z : Int32} (hd : mOk d) (h1 : ¬ m_isPlayer d x = 0) (h2 : ¬ m_isPlace d y z = 0) : vp_in (65 * (6 * x + y) + z) 3120 := by
  obtain ⟨u, hu, rfl⟩ := m_isPlayer_ne hd h1
  obtain ⟨i, j, hi, hj1, hj2, rfl, rfl⟩ := m_isPlace_ne hd h2
  have := hd.1.2.1
  have := hd.1.2.2
  have := (mOk_len hd hi).2.2.1
  rw [ix_ver (by omega) (by omega) (by omega)]
  exact vp_in_nI (by omega) (by decide)
def ga_slip (d : gDt) (x y z a : Int32) : Int32 := (if (m_isPlayer d x) = 0 then 0 else (if (m_isPlace d y z) = 0 then 0 else 1 : Int32) : Int32)
def gb_slip (d : gDt) (x y z a : Int32) : Int32 := (f_in a 0 7)
def gc_slip (d : gDt) (x y z a : Int32) : Int32 := (if (if (m_isPlayer d x) = 0 then 0 else (if (m_isPlace d y z) = 0 then 0 else 1 : Int32) : Int32) = 0 then 0 else (if (m_kn d x y) = 0 then 0 else 1 : Int32) : Int32)
def m_unl (d : gDt) (x o : Int32) (i : Nat) : Nat → Nat
  | 0 => 0
  | k + 1 => if m_tof d x i (k + 1) = m_tof d o i (k + 1) then m_unl d x o i k else m_unl d x o i k + 1
def m_unlike (d : gDt) (x o y : Int32) : Int32 := if m_kn d x y = 0 then -1 else if m_kn d o y = 0 then -1 else nI (m_unl d x o y.toNatClampNeg (lenN d y.toNatClampNeg))
theorem m_unl_s {d : gDt} {x o : Int32} {i k : Nat} {v : Int32} (e : v = if m_tof d x i (k + 1) = m_tof d o i (k + 1) then (0 : Int32) else 1) : nI (m_unl d x o i k) + v = nI (m_unl d x o i (k + 1)) := by
  rw [e]
  show _ = nI (if _ then _ else _)
  split
  · exact Int32.add_zero _
  · exact nI_1 _
theorem unl_ne {d : gDt} {x o y : Int32} (h : ¬ (if m_isPlayer d x = 0 then (0 : Int32) else if o = -1 then (if m_isPiece d y = 0 then 0 else 1) else if m_isPlayer d o = 0 then 0 else (if m_isPiece d y = 0 then 0 else 1)) = 0) : ¬ m_isPlayer d x = 0 ∧ (o = -1 ∨ ¬ m_isPlayer d o = 0) ∧ ¬ m_isPiece d y = 0 := by
  by_cases h1 : m_isPlayer d x = 0
  · rw [if_pos h1] at h; exact absurd rfl h
  · rw [if_neg h1] at h
    by_cases h2 : o = -1
    · rw [if_pos h2] at h
      exact ⟨h1, Or.inl h2, one_ne h⟩
    · rw [if_neg h2] at h
      exact ⟨h1, Or.inr (and_ne h).1, (and_ne h).2⟩
def ga_unlike (d : gDt) (x o y : Int32) : Int32 := (if (m_isPlayer d x) = 0 then 0 else (if o = (-1) then (if (m_isPiece d y) = 0 then 0 else 1 : Int32) else (if (m_isPlayer d o) = 0 then 0 else (if (m_isPiece d y) = 0 then 0 else 1 : Int32) : Int32) : Int32) : Int32)
def gb_unlike (d : gDt) (x o y : Int32) : Int32 := 1
def gc_unlike (d : gDt) (x o y : Int32) : Int32 := 1
