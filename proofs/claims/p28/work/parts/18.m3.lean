/-! GongCyclesModel: playing, strokes -/
def ga_sounds (d : gDt) (x y : Int32) : Int32 := (m_isPlace d x y)
def gb_sounds (d : gDt) (x y : Int32) : Int32 := 1
def gc_sounds (d : gDt) (x y : Int32) : Int32 := 1
def m_now (d : gDt) (x : Int32) : Int32 := if x = 0 then d 9 4 else if x = 1 then d 9 5 else if x = 2 then d 9 6 else if x = 3 then d 9 7 else if x = 4 then (if d 9 2 = 0 then 0 else 1) else d 9 3
def ga_now (d : gDt) (x : Int32) : Int32 := (f_in x 0 5)
def gb_now (d : gDt) (x : Int32) : Int32 := 1
def gc_now (d : gDt) (x : Int32) : Int32 := 1
def m_fst (z : Nat) : Nat := z - 1 + z % 2
def m_stroke (d : gDt) (x a y b t : Int32) : Int32 := m_str a (m_den a b) (if y = nI (m_fst y.toNatClampNeg) then t else m_den a b + t) (m_snd d x.toNatClampNeg (m_fst y.toNatClampNeg)) (m_snd d x.toNatClampNeg (m_fst y.toNatClampNeg + 1))
theorem m_fst_e {z : Nat} (h : 1 ≤ z) (hz : z ≤ 64) : nI z - 1 + (nI z - nI z / 2 * 2) = nI (m_fst z) := by
  rw [show (2 : Int32) = nI 2 from rfl, pk_rem (by omega) (by decide) (by decide), show nI z - 1 = nI (z - 1) by rw [show z = (z - 1) + 1 by omega, nI_pred, Nat.add_sub_cancel], nI_add]
  rfl
theorem m_fst_b {z n : Nat} (h : 1 ≤ z) (hz : z ≤ n) (hn : n % 4 = 0) : 1 ≤ m_fst z ∧ m_fst z + 1 ≤ n := by
  unfold m_fst
  omega
def ga_stroke (d : gDt) (x a y b t : Int32) : Int32 := (if (m_isPlace d x y) = 0 then 0 else (if (m_isPart a) = 0 then 0 else 1 : Int32) : Int32)
def gb_stroke (d : gDt) (x a y b t : Int32) : Int32 := (if (if (m_isPlace d x y) = 0 then 0 else (if (m_isPart a) = 0 then 0 else 1 : Int32) : Int32) = 0 then 0 else (if (f_in b 0 3) = 0 then 0 else (if (f_in t 0 ((m_den a b) - 1)) = 0 then 0 else 1 : Int32) : Int32) : Int32)
def gc_stroke (d : gDt) (x a y b t : Int32) : Int32 := 1
def ga_begin (d : gDt) (x : Int32) : Int32 := (m_isPiece d x)
def gb_begin (d : gDt) (x : Int32) : Int32 := (if (m_isPiece d x) = 0 then 0 else (if (d 9 2) = 0 then (if ((((d 2) x.toNatClampNeg) >>> ((d 9 11) &&& 31)) &&& 1) = 0 then 1 else 0 : Int32) else 0 : Int32) : Int32)
def gc_begin (d : gDt) (x : Int32) : Int32 := 1
def m_drum (d : gDt) (x : Int32) : gDt := if x = 4 then gD d 9 (upd (d 9) 2 0) else if x = 3 then gD d 9 (upd (d 9) 9 (if d 9 9 ≤ 0 then (if nI (lenN d (d 9 3).toNatClampNeg) < 2 * d 9 4 then d 9 7 + 2 else d 9 7 + 1) else d 9 9)) else gD d 9 (upd (d 9) 8 x)
def ga_drum (d : gDt) (x : Int32) : Int32 := (f_in x 0 4)
def gb_drum (d : gDt) (x : Int32) : Int32 := (d 9 2)
def gc_drum (d : gDt) (x : Int32) : Int32 := 1
