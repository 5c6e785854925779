/-! GongCyclesModel: depth, beats, beat, versions, tune -/
def m_dp (y : Int32) : Nat → Nat → Nat → Int32
  | 0, _, _ => -1
  | k + 1, b, c => if y - y / nI b * nI b = 0 then nI c else if nI b - nI b / 2 * 2 = 0 then m_dp y k (b / 2) (c + 1) else -1
theorem m_even {b : Nat} (hb : b < 2 ^ 31) (h : nI b - nI b / 2 * 2 = 0) : b % 2 = 0 := by
  rw [show (2 : Int32) = nI 2 from rfl, pk_rem hb (by decide) (by decide)] at h
  exact (nI_eq (b := 0) (by omega) (by decide)).mp h
def m_depth (d : gDt) (x y : Int32) : Int32 := m_dp y 7 (d 0 x.toNatClampNeg).toNatClampNeg 0
def ga_depth (d : gDt) (x y : Int32) : Int32 := (if (m_isForm d x) = 0 then 0 else (if (f_in y 1 ((d 0) x.toNatClampNeg)) = 0 then 0 else 1 : Int32) : Int32)
def gb_depth (d : gDt) (x y : Int32) : Int32 := 1
def gc_depth (d : gDt) (x y : Int32) : Int32 := 1
def m_bt : Nat → gDt → Int64 → (Nat → Int64) → Nat × gDt × Int64 × (Nat → Int64)
  | 0, d, tk, st => (0, d, tk, st)
  | k + 1, d, tk, st => if d 9 2 = 0 then (0, d, tk, st) else ((m_bt k (mB d) (tk + (d 9 5).toInt64) (m_sts (d 9 6) st)).1 + 1, (m_bt k (mB d) (tk + (d 9 5).toInt64) (m_sts (d 9 6) st)).2)
theorem mB_o (d : gDt) {k : Nat} (h : k ≠ 9) : mB d k = d k := by unfold mB gD; exact if_neg h
theorem mB_s (d : gDt) {j : Nat} (h : j ≠ 2 ∧ j ≠ 4 ∧ j ≠ 5 ∧ j ≠ 6 ∧ j ≠ 7) : mB d 9 j = d 9 j := by
  unfold mB gD
  rw [if_pos rfl]
  split <;> simp [upd, h]
theorem mOk_cong {d d' : gDt} (h : mOk d) (h0 : d' 0 = d 0) (h1 : d' 1 = d 1) (e0 : d' 9 0 = d 9 0) (e1 : d' 9 1 = d 9 1) (e2 : d' 9 13 = d 9 13) : mOk d' := by
  unfold mOk nF nP nU at h ⊢
  rw [h0, h1, e0, e1, e2]
  exact h
theorem mOk_B {d : gDt} (h : mOk d) : mOk (mB d) := mOk_cong h (mB_o d (by decide)) (mB_o d (by decide)) (mB_s d (by decide)) (mB_s d (by decide)) (mB_s d (by decide))
theorem nP_B (d : gDt) : nP (mB d) = nP d := by unfold nP; rw [mB_s d (by decide)]
def ga_beats (d : gDt) (x : Int32) : Int32 := (f_in x 1 100)
def gb_beats (d : gDt) (x : Int32) : Int32 := (d 9 2)
def gc_beats (d : gDt) (x : Int32) : Int32 := 1
