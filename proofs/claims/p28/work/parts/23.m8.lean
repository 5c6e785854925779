/-! GongCyclesModel: learn, covered -/
theorem gD_s (d : gDt) (k : Nat) (f : Nat → Int32) : gD d k f k = f := if_pos rfl
def m_lrnV (d : gDt) (x y o : Int32) : Nat → Int32 := f_cpO (65 * (6 * x.toNatClampNeg + y.toNatClampNeg) + 1) (lenN d y.toNatClampNeg) (d 8) (fun j => m_tof d o y.toNatClampNeg (j - 65 * (6 * x.toNatClampNeg + y.toNatClampNeg)))
def m_knc (f : Nat → Int32) (i : Nat) : Nat → Nat
  | 0 => 0
  | k + 1 => if f (6 * k + i) = 0 then m_knc f i k else m_knc f i k + 1
def m_lrn (d : gDt) (x y o : Int32) : gDt := gD (gD d 8 (m_lrnV d x y o)) 7 (upd (d 7) (6 * x + y).toNatClampNeg 1)
theorem lrn_ne {d : gDt} {x o y : Int32} (h : ¬ (if m_isPlayer d x = 0 then (0 : Int32) else if m_isPiece d y = 0 then 0 else if o = -1 then 1 else if m_isPlayer d o = 0 then 0 else 1) = 0) : ¬ m_isPlayer d x = 0 ∧ (o = -1 ∨ ¬ m_isPlayer d o = 0) ∧ ¬ m_isPiece d y = 0 := by
  by_cases h1 : m_isPlayer d x = 0
  · rw [if_pos h1] at h; exact absurd rfl h
  · rw [if_neg h1] at h
    by_cases h3 : m_isPiece d y = 0
    · rw [if_pos h3] at h; exact absurd rfl h
    · rw [if_neg h3] at h
      by_cases h2 : o = -1
      · exact ⟨h1, Or.inl h2, h3⟩
      · rw [if_neg h2] at h
        exact ⟨h1, Or.inr (one_ne h), h3⟩
theorem lrn_st {d : gDt} {u i n : Nat} {o : Int32} (hu : u < 8) (hi : i < 6) (hn : n < 64) (ho : o = -1 ∨ ∃ q, q < 8 ∧ o = nI q) (hne : ¬ o = nI u) :
    upd (f_cpO (65 * (6 * u + i) + 1) n (d 8) (fun j => m_tof d o i (j - 65 * (6 * u + i)))) ((65 : Int32) * (6 * nI u + nI i) + nI (n + 1)).toNatClampNeg (m_tof (gD d 8 (f_cpO (65 * (6 * u + i) + 1) n (d 8) (fun j => m_tof d o i (j - 65 * (6 * u + i))))) o i (n + 1)) = f_cpO (65 * (6 * u + i) + 1) (n + 1) (d 8) (fun j => m_tof d o i (j - 65 * (6 * u + i))) := by
  rw [ix_ver hu hi (by omega), nI_clamp (by omega)]
  have e : m_tof (gD d 8 (f_cpO (65 * (6 * u + i) + 1) n (d 8) (fun j => m_tof d o i (j - 65 * (6 * u + i))))) o i (n + 1) = m_tof d o i (n + 1) := by
    unfold m_tof
    by_cases h : o = -1
    · rw [if_pos h, if_pos h]; rfl
    · rw [if_neg h, if_neg h]
      obtain ⟨q, hq, rfl⟩ := ho.resolve_left h
      rw [nI_clamp (by omega)]
      have hqu : q ≠ u := fun h9 => hne (by rw [h9])
      rw [gD_s]
      unfold f_cpO
      rw [if_neg (by omega)]
  rw [e]
  have h2 := f_cpO_s (65 * (6 * u + i) + 1) n (d 8) (fun j => m_tof d o i (j - 65 * (6 * u + i)))
  rw [show 65 * (6 * u + i) + 1 + n = 65 * (6 * u + i) + (n + 1) by omega, show 65 * (6 * u + i) + (n + 1) - 65 * (6 * u + i) = n + 1 by omega] at h2
  exact h2
theorem m_knc_s {f : Nat → Int32} {i k : Nat} {v : Int32} (hk : k < 8) (hi : i < 6) (e : v = if f ((6 : Int32) * nI k + nI i).toNatClampNeg = 0 then (0 : Int32) else 1) : nI (m_knc f i k) + v = nI (m_knc f i (k + 1)) := by
  rw [ix_knI hk hi, nI_clamp (by omega)] at e
  rw [e]
  show _ = nI (if _ then _ else _)
  split
  · exact Int32.add_zero _
  · exact nI_1 _
def ga_learn (d : gDt) (x y o : Int32) : Int32 := (if (m_isPlayer d x) = 0 then 0 else (if (m_isPiece d y) = 0 then 0 else (if o = (-1) then 1 else (if (m_isPlayer d o) = 0 then 0 else 1 : Int32) : Int32) : Int32) : Int32)
def gb_learn (d : gDt) (x y o : Int32) : Int32 := (if o = x then 0 else 1 : Int32)
def gc_learn (d : gDt) (x y o : Int32) : Int32 := (if (if (m_isPlayer d x) = 0 then 0 else (if (m_isPiece d y) = 0 then 0 else (if o = (-1) then 1 else (if (m_isPlayer d o) = 0 then 0 else 1 : Int32) : Int32) : Int32) : Int32) = 0 then 0 else (if (m_kn d o y) = 0 then 0 else 1 : Int32) : Int32)
def m_wI (a s c : Int32) : Nat → Int32
  | 0 => c
  | k + 1 => m_wI a s c k ||| (if (a >>> (nI k &&& 31)) &&& 1 = 1 then (1 : Int32) <<< ((s ||| ((1 : Int32) <<< (nI k &&& 31))) &&& 31) else 0)
def m_wO (g a : Int32) : Nat → Int32
  | 0 => g
  | k + 1 => if (g >>> (nI k &&& 31)) &&& 1 = 1 then m_wI a (nI k) (m_wO g a k) 4 else m_wO g a k
def m_cv (d : gDt) (i : Nat) : Nat → Int32
  | 0 => 1
  | k + 1 => if d 7 (6 * k + i) = 0 then m_cv d i k else m_wO (m_cv d i k) (d 6 k) 16
def m_bits (k : Nat) : Int32 := (nI k &&& 1) + ((nI k >>> ((1 : Int32) &&& 31)) &&& 1) + ((nI k >>> ((2 : Int32) &&& 31)) &&& 1) + ((nI k >>> ((3 : Int32) &&& 31)) &&& 1)
def m_most (g : Int32) : Nat → Int32
  | 0 => 0
  | k + 1 => if (g >>> (nI k &&& 31)) &&& 1 = 1 then (if m_bits k ≤ m_most g k then m_most g k else m_bits k) else m_most g k
theorem cv_ix {d : gDt} {i k : Nat} (hk : k < 8) (hi : i < 6) : d 7 ((6 : Int32) * nI k + nI i).toNatClampNeg = d 7 (6 * k + i) := by
  rw [ix_knI hk hi, nI_clamp (by omega)]
theorem cv_ab {d : gDt} {k : Nat} (hk : k < 8) : d 6 (nI k).toNatClampNeg = d 6 k := by rw [nI_clamp (by omega)]
def ga_covered (d : gDt) (x : Int32) : Int32 := (m_isPiece d x)
def gb_covered (d : gDt) (x : Int32) : Int32 := 1
def gc_covered (d : gDt) (x : Int32) : Int32 := 1
