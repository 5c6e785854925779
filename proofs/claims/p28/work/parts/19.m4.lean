/-! GongCyclesModel: a beat -/
def m_npl (n pl : Int32) : Int32 := if pl = n then 1 else pl + 1
def m_nbl (dr b : Int32) : Int32 := if b + (if dr = 0 then 0 else (if dr = 1 then 2 else (-2))) ≤ 160 then (if 10 ≤ b + (if dr = 0 then 0 else (if dr = 1 then 2 else (-2))) then b + (if dr = 0 then 0 else (if dr = 1 then 2 else (-2))) else 10) else 160
def m_lvl (b : Int32) : Int32 := if b < 160 then (if b < 80 then (if b < 40 then 0 else 1) else 2) else 3
def m_sts (lv : Int32) (st : Nat → Int64) : Nat → Int64 := fun j => if j < 4 then st j + (m_den (nI j) lv).toInt64 else st j
def mLen (d : gDt) : Int32 := nI (lenN d (d 9 3).toNatClampNeg)
def mPl (d : gDt) : Int32 := m_npl (mLen d) (d 9 4)
def mBl (d : gDt) : Int32 := m_nbl (d 9 8) (d 9 5)
/-- the numbers behind a beat -/
def mB (d : gDt) : gDt := gD d 9 (if mPl d = mLen d then upd (upd (upd (upd (upd (d 9) 4 (mPl d)) 5 (mBl d)) 6 (m_lvl (mBl d))) 7 (d 9 7 + 1)) 2 (if d 9 7 + 1 = d 9 9 then 0 else 1) else upd (upd (d 9) 4 (mPl d)) 5 (mBl d))
theorem m_sts_eq (lv : Int32) (st : Nat → Int64) : (vp_updL (vp_updL (vp_updL (vp_updL st (0 : Int32).toNatClampNeg (st (0 : Int32).toNatClampNeg + (m_den 0 lv).toInt64)) (1 : Int32).toNatClampNeg ((vp_updL st (0 : Int32).toNatClampNeg (st (0 : Int32).toNatClampNeg + (m_den 0 lv).toInt64)) (1 : Int32).toNatClampNeg + (m_den 1 lv).toInt64)) (2 : Int32).toNatClampNeg ((vp_updL (vp_updL st (0 : Int32).toNatClampNeg (st (0 : Int32).toNatClampNeg + (m_den 0 lv).toInt64)) (1 : Int32).toNatClampNeg ((vp_updL st (0 : Int32).toNatClampNeg (st (0 : Int32).toNatClampNeg + (m_den 0 lv).toInt64)) (1 : Int32).toNatClampNeg + (m_den 1 lv).toInt64)) (2 : Int32).toNatClampNeg + (m_den 2 lv).toInt64)) (3 : Int32).toNatClampNeg ((vp_updL (vp_updL (vp_updL st (0 : Int32).toNatClampNeg (st (0 : Int32).toNatClampNeg + (m_den 0 lv).toInt64)) (1 : Int32).toNatClampNeg ((vp_updL st (0 : Int32).toNatClampNeg (st (0 : Int32).toNatClampNeg + (m_den 0 lv).toInt64)) (1 : Int32).toNatClampNeg + (m_den 1 lv).toInt64)) (2 : Int32).toNatClampNeg ((vp_updL (vp_updL st (0 : Int32).toNatClampNeg (st (0 : Int32).toNatClampNeg + (m_den 0 lv).toInt64)) (1 : Int32).toNatClampNeg ((vp_updL st (0 : Int32).toNatClampNeg (st (0 : Int32).toNatClampNeg + (m_den 0 lv).toInt64)) (1 : Int32).toNatClampNeg + (m_den 1 lv).toInt64)) (2 : Int32).toNatClampNeg + (m_den 2 lv).toInt64)) (3 : Int32).toNatClampNeg + (m_den 3 lv).toInt64)) = m_sts lv st := by
  have e0 : (0 : Int32).toNatClampNeg = 0 := by decide
  have e1 : (1 : Int32).toNatClampNeg = 1 := by decide
  have e2 : (2 : Int32).toNatClampNeg = 2 := by decide
  have e3 : (3 : Int32).toNatClampNeg = 3 := by decide
  have n0 : nI 0 = 0 := rfl
  have n1 : nI 1 = 1 := rfl
  have n2 : nI 2 = 2 := rfl
  have n3 : nI 3 = 3 := rfl
  rw [e0, e1, e2, e3]
  funext j
  unfold m_sts vp_updL
  by_cases h3 : j = 3
  · subst h3; simp [n3]
  · by_cases h2 : j = 2
    · subst h2; simp [n2]
    · by_cases h1 : j = 1
      · subst h1; simp [n1]
      · by_cases h0 : j = 0
        · subst h0; simp [n0]
        · simp [h0, h1, h2, h3, show ¬ j < 4 by omega]
