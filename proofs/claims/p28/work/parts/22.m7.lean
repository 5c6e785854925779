/-! GongCyclesModel: tune, years -/
def f_cpO (o i : Nat) (f g : Nat → Int32) : Nat → Int32 := fun j => if o ≤ j ∧ j < o + i then g j else f j
theorem f_cpO_0 (o : Nat) (f g : Nat → Int32) : f_cpO o 0 f g = f := by
  funext j; unfold f_cpO; rw [if_neg (by omega)]
theorem f_cpO_s (o i : Nat) (f g : Nat → Int32) : upd (f_cpO o i f g) (o + i) (g (o + i)) = f_cpO o (i + 1) f g := by
  funext j
  unfold f_cpO
  by_cases h : j = o + i
  · subst h; simp [upd]
  · by_cases h2 : o ≤ j ∧ j < o + i
    · simp only [upd, if_neg h, if_pos h2, if_pos (show o ≤ j ∧ j < o + (i + 1) by omega)]
    · simp only [upd, if_neg h, if_neg h2, if_neg (show ¬ (o ≤ j ∧ j < o + (i + 1)) by omega)]
theorem ix8 {u k : Nat} (hu : u < 4) (hk : k < 8) : (8 : Int32) * nI u + nI k = nI (8 * u + k) := by
  rw [show (8 : Int32) = nI 8 from rfl, pk_mul, nI_add]
theorem ix8c {u k : Nat} (hu : u < 4) (hk : k < 8) : ((8 : Int32) * nI u + nI k).toNatClampNeg = 8 * u + k := by
  rw [ix8 hu hk, nI_clamp (by omega)]
theorem ix8c1 {u : Nat} (hu : u < 4) : ((8 : Int32) * nI u + 1).toNatClampNeg = 8 * u + 1 := ix8c (k := 1) hu (by decide)
theorem ix8in {u k : Nat} (hu : u < 4) (hk : k < 8) : vp_in ((8 : Int32) * nI u + nI k) 32 := by
  rw [ix8 hu hk]
  exact vp_in_nI (by omega) (by decide)
theorem ix8in1 {u : Nat} (hu : u < 4) : vp_in ((8 : Int32) * nI u + 1) 32 := ix8in (k := 1) hu (by decide)
def m_tun (o q : Int64) (p : Int32) : Int32 := if 0 ≤ lg_cmp (p.toInt64 * q / o) 5000 then (if lg_cmp (p.toInt64 * q / o) 200000 ≤ 0 then (p.toInt64 * q / o).toInt32 else 200000) else 5000
theorem tune_rd {u i : Nat} {f g : Nat → Int32} (hu : u < 4) (hi : i < 7) : f_cpO (8 * u + 1) i f g ((8 : Int32) * nI u + nI (i + 1)).toNatClampNeg = f (8 * u + 1 + i) := by
  rw [ix8c hu (by omega)]
  unfold f_cpO
  rw [if_neg (by omega), show 8 * u + (i + 1) = 8 * u + 1 + i by omega]
theorem tune_st {u i : Nat} {o q : Int64} {f : Nat → Int32} {v : Int32} (hu : u < 4) (hi : i < 7) (e : v = m_tun o q (f (8 * u + 1 + i))) : upd (f_cpO (8 * u + 1) i f (fun j => m_tun o q (f j))) ((8 : Int32) * nI u + nI (i + 1)).toNatClampNeg v = f_cpO (8 * u + 1) (i + 1) f (fun j => m_tun o q (f j)) := by
  rw [ix8c hu (by omega), show 8 * u + (i + 1) = 8 * u + 1 + i by omega, e]
  exact f_cpO_s (8 * u + 1) i f (fun j => m_tun o q (f j))
def m_tunD (d : gDt) (x y : Int32) : Nat → Int32 := f_cpO (8 * x.toNatClampNeg + 1) 7 (d 4) (fun j => m_tun (d 4 (8 * x.toNatClampNeg + 1)).toInt64 (d 4 (8 * y.toNatClampNeg + 1)).toInt64 (d 4 j))
/-- the pitches are in their range -/
def pOk (d : gDt) : Prop := ∀ u k : Nat, u < 4 → 1 ≤ k → k ≤ 7 → ∃ p, 5000 ≤ p ∧ p ≤ 200000 ∧ d 4 (8 * u + k) = nI p
theorem pOk_nz {d : gDt} {u : Nat} (h : pOk d) (hu : u < 4) : ¬ (d 4 (8 * u + 1)).toInt64 = 0 := by
  obtain ⟨p, h1, h2, e⟩ := h u 1 hu (by decide) (by decide)
  rw [e, nI_l (by omega), show (0 : Int64) = lN 0 from rfl, lN_eq (by omega) (by decide)]
  omega
theorem set_n {x : Int32} (h : ¬ m_isSet x = 0) : ∃ u, u < 4 ∧ x = nI u := by
  unfold m_isSet at h
  obtain ⟨h1, h2⟩ := f_in_ne h
  obtain ⟨i, _, hi, e⟩ := nI_bet (a := 0) (b := 3) (by decide) h1 h2 (by decide)
  exact ⟨i, by omega, e⟩
def ga_tune (d : gDt) (x y : Int32) : Int32 := (if (m_isSet x) = 0 then 0 else (if (m_isSet y) = 0 then 0 else 1 : Int32) : Int32)
def gb_tune (d : gDt) (x y : Int32) : Int32 := (if x = y then 0 else 1 : Int32)
def gc_tune (d : gDt) (x y : Int32) : Int32 := 1
theorem ag_eq {a : Int32} : (if 5000 ≤ a then a else (5000 : Int32)) = if a < 5000 then 5000 else a := by
  by_cases h : a < 5000
  · rw [if_pos h, if_neg (Int32.not_le.mpr h)]
  · rw [if_neg h, if_pos (Int32.not_lt.mp h)]
def m_yrs (d : gDt) (n : Nat) : Nat → Int32 := f_cp 32 (d 4) (fun j => f_ags (d 5 (j / 8)) n (d 4 j))
theorem yr_in {i : Nat} (hi : i < 32) : vp_in (nI i / 8) 4 := by
  rw [show (8 : Int32) = nI 8 from rfl, pk_div (by omega) (by decide) (by decide)]
  exact vp_in_nI (by omega) (by decide)
theorem yr_st {i n : Nat} {f : Nat → Int32} {r : Nat → Int32} {v : Int32} (hi : i < 32) (e : v = if 5000 ≤ f_cp i (f_cp 32 f (fun j => f_ags (r (j / 8)) n (f j))) (fun j => f_ag1 (r (j / 8)) (f_ags (r (j / 8)) n (f j))) (nI i).toNatClampNeg - f_cp i (f_cp 32 f (fun j => f_ags (r (j / 8)) n (f j))) (fun j => f_ag1 (r (j / 8)) (f_ags (r (j / 8)) n (f j))) (nI i).toNatClampNeg * r (nI i / 8).toNatClampNeg / 10000 then f_cp i (f_cp 32 f (fun j => f_ags (r (j / 8)) n (f j))) (fun j => f_ag1 (r (j / 8)) (f_ags (r (j / 8)) n (f j))) (nI i).toNatClampNeg - f_cp i (f_cp 32 f (fun j => f_ags (r (j / 8)) n (f j))) (fun j => f_ag1 (r (j / 8)) (f_ags (r (j / 8)) n (f j))) (nI i).toNatClampNeg * r (nI i / 8).toNatClampNeg / 10000 else (5000 : Int32)) :
    upd (f_cp i (f_cp 32 f (fun j => f_ags (r (j / 8)) n (f j))) (fun j => f_ag1 (r (j / 8)) (f_ags (r (j / 8)) n (f j)))) (nI i).toNatClampNeg v = f_cp (i + 1) (f_cp 32 f (fun j => f_ags (r (j / 8)) n (f j))) (fun j => f_ag1 (r (j / 8)) (f_ags (r (j / 8)) n (f j))) := by
  rw [ag_eq, nI_clamp (by omega), show (8 : Int32) = nI 8 from rfl, pk_div (by omega) (by decide) (by decide), nI_clamp (by omega)] at e
  rw [nI_clamp (by omega), e]
  have e2 : f_cp i (f_cp 32 f (fun j => f_ags (r (j / 8)) n (f j))) (fun j => f_ag1 (r (j / 8)) (f_ags (r (j / 8)) n (f j))) i = f_ags (r (i / 8)) n (f i) := by simp [f_cp, hi]
  rw [e2]
  exact f_cp_s i _ (fun j => f_ag1 (r (j / 8)) (f_ags (r (j / 8)) n (f j)))
def ga_years (d : gDt) (x : Int32) : Int32 := (f_in x 1 30)
def gb_years (d : gDt) (x : Int32) : Int32 := (if (f_in x 1 30) = 0 then 0 else (if 300 < ((d 9 12) + x) then 0 else 1 : Int32) : Int32)
def gc_years (d : gDt) (x : Int32) : Int32 := 1
