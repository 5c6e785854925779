/-! GongCycles: its state, and its helpers -/
def c_pf (ca : Nat → Nat) (n : Nat) : Nat → Option Nat := fun i => if i < n then some (ca (10 + i)) else none
def c_sf (ca : Nat → Nat) : Nat → Option Nat := fun i => if i < 4 then some (ca (60 + i)) else none
def c_uf (ca : Nat → Nat) (n : Nat) : Nat → Option Nat := fun i => if i < n then some (ca (40 + i)) else none
/-- the piece i of the class -/
def cP (tc : Nat → ClassId) (w : gW) (ca : Nat → Nat) (d : gDt) (i : Nat) : Prop := w (10 + i) = some ((ca (10 + i)), .inr (2, [.ref (ca (20 + i)), .int (d 2 i)])) ∧ w (20 + i) = some ((ca (20 + i)), .inr (1, [.ref (ca (30 + i))])) ∧ ∃ f : Nat → Int32, w (30 + i) = some ((ca (30 + i)), .inl (tc 0, (lenN d i), .inl f)) ∧ ∀ j, j < lenN d i → f j = d 3 (65 * i + j + 1)
def cS (tc : Nat → ClassId) (w : gW) (ca : Nat → Nat) (d : gDt) (s : Nat) : Prop := w (60 + s) = some ((ca (60 + s)), .inr (0, [.ref (ca (70 + s)), .int (d 5 s)])) ∧ ∃ f : Nat → Int32, w (70 + s) = some ((ca (70 + s)), .inl (tc 0, 7, .inl f)) ∧ ∀ j, j < 7 → f j = d 4 (8 * s + j + 1)
def cV (tc : Nat → ClassId) (w : gW) (ca : Nat → Nat) (d : gDt) (u i : Nat) : Prop := w (100 + 10 * u + i) = some ((ca (100 + 10 * u + i)), .inr (1, [.ref (ca (200 + 10 * u + i))])) ∧ ∃ f : Nat → Int32, w (200 + 10 * u + i) = some ((ca (200 + 10 * u + i)), .inl (tc 0, (lenN d i), .inl f)) ∧ ∀ j, j < lenN d i → f j = d 8 (65 * (6 * u + i) + j + 1)
def cU (tc : Nat → ClassId) (w : gW) (ca : Nat → Nat) (d : gDt) (u : Nat) : Prop := w (40 + u) = some ((ca (40 + u)), .inr (3, [.int (d 6 u), .ref (ca (50 + u))])) ∧ ∃ g : Nat → Option Nat, w (50 + u) = some ((ca (50 + u)), .inl (tc 6, 6, .inr (.inr (.inr (.inr g))))) ∧ ∀ i, i < 6 → g i = (if d 7 (6 * u + i) = 0 then none else some (ca (100 + 10 * u + i)))
/-- the end that is told: what the class counts down, what the reference counts up to -/
def cE (d : gDt) (ge : Int32) : Prop := ¬ d 9 2 = 0 → (d 9 9 = 0 ∧ ge = 0) ∨ (¬ d 9 9 = 0 ∧ ge = d 9 9 - d 9 7 ∧ (ge = 1 ∨ ge = 2))
def cY (d : gDt) (cy : Int32) : Prop := ¬ d 9 2 = 0 → ∃ i, i < nP d ∧ d 9 3 = nI i ∧ cy = nI (lenN d i)
/-- what is still free -/
def cN (w : gW) (d : gDt) : Prop := (∀ i, nP d ≤ i → i < 6 → w (10 + i) = none ∧ w (20 + i) = none ∧ w (30 + i) = none) ∧ (∀ u, nU d ≤ u → u < 8 → w (40 + u) = none ∧ w (50 + u) = none) ∧ (∀ u i, u < 8 → i < 6 → d 7 (6 * u + i) = 0 → w (100 + 10 * u + i) = none ∧ w (200 + 10 * u + i) = none)
/-- the class's state: keys below 1000 -/
def cW (tc : Nat → ClassId) (w : gW) (ca : Nat → Nat) (d : gDt) (tk : Int64) (st : Nat → Int64) : Prop := (w 0 = some ((ca 0), .inr (5, [.ref (ca 1), .int (d 9 0), .ref (ca 2), .int (d 9 1), .ref (ca 3), .int (d 9 10), .int (d 9 11), .ref (ca 5), .int (d 9 12), .ref (ca 6), .int (d 9 13)])) ∧ w 1 = some ((ca 1), .inl (tc 0, 4, .inl (d 0))) ∧ w 2 = some ((ca 2), .inl (tc 3, 6, .inr (.inr (.inr (.inr (c_pf ca (nP d))))))) ∧ w 5 = some ((ca 5), .inl (tc 4, 4, .inr (.inr (.inr (.inr (c_sf ca)))))) ∧ w 6 = some ((ca 6), .inl (tc 5, 8, .inr (.inr (.inr (.inr (c_uf ca (nU d)))))))) ∧ (∃ (cy ge : Int32) (sf : Nat → Int64), w 3 = some ((ca 3), .inr (4, [.int (d 9 3), .int cy, .int (d 9 4), .int (d 9 5), .int (d 9 6), .int (d 9 7), .int (d 9 8), .int (d 9 2), .int ge, .long tk, .ref (ca 4)])) ∧ w 4 = some ((ca 4), .inl (tc 1, 4, .inr (.inl sf))) ∧ (∀ j, j < 4 → sf j = st j) ∧ cE d ge ∧ cY d cy) ∧ (∀ i, i < nP d → cP tc w ca d i) ∧ (∀ s, s < 4 → cS tc w ca d s) ∧ (∀ u, u < nU d → cU tc w ca d u) ∧ (∀ u i, u < 8 → i < 6 → ¬ d 7 (6 * u + i) = 0 → u < nU d ∧ i < nP d ∧ cV tc w ca d u i) ∧ cN w d
/-- the keys from 1000 on stand -/
def gK (w w' : gW) : Prop := ∀ k : Nat, 1000 ≤ k → w' k = w k
theorem gK_rf (w : gW) : gK w w := fun _ _ => rfl
theorem gK_u {w w1 w2 : gW} {k : Nat} {x : Nat × va_E} (h : gK w w1) (e : w2 = gU w1 k x) (hk : k < 1000) : gK w w2 := fun j hj => by rw [e, gU_ne _ _ (by omega)]; exact h j hj
theorem gK_tr {w w1 w2 : gW} (h : gK w w1) (h2 : gK w1 w2) : gK w w2 := fun j hj => (h2 j hj).trans (h j hj)
theorem rng_ne {x : Int32} {n : Nat} (hn : n < 2 ^ 30) (h1 : ¬ x < 0) (h2 : ¬ nI n ≤ x) : ∃ i, i < n ∧ x = nI i := by
  rw [Int32.lt_iff_toInt_lt] at h1
  rw [Int32.le_iff_toInt_le, nI_toInt (by omega)] at h2
  have e0 : (0 : Int32).toInt = 0 := by decide
  rw [e0] at h1
  refine ⟨x.toInt.toNat, by omega, ?_⟩
  apply Int32.toInt_inj.mp
  rw [nI_toInt (by omega)]
  omega
theorem nI_prd {n : Nat} (hn : n < 2 ^ 30) : (nI n - 1).toInt = (n : Int) - 1 := by
  have e1 : (1 : Int32).toInt = 1 := by decide
  rw [Int32.toInt_sub, nI_toInt (by omega), e1, Int.bmod_eq_of_le (by omega) (by omega)]
theorem rng_lo {x : Int32} {a c : Int32} (h : x < a) : f_in x a c = 0 := by unfold f_in; rw [if_pos h]
theorem rng_hi {x : Int32} {a c : Int32} (h : c < x) : f_in x a c = 0 := by
  unfold f_in
  by_cases h1 : x < a
  · rw [if_pos h1]
  · rw [if_neg h1, if_pos h]
theorem rng_hn {x : Int32} {n : Nat} (hn : n < 2 ^ 30) (h : nI n ≤ x) : f_in x 0 (nI n - 1) = 0 := by
  apply rng_hi
  rw [Int32.le_iff_toInt_le, nI_toInt (by omega)] at h
  rw [Int32.lt_iff_toInt_lt, nI_prd hn]
  omega
theorem rng_ok {x a c : Int32} (h1 : ¬ x < a) (h2 : ¬ c < x) : f_in x a c = 1 := by unfold f_in; rw [if_neg h1, if_neg h2]
theorem isForm_lo {d : gDt} {x : Int32} (h : x < 0) : m_isForm d x = 0 := rng_lo h
theorem isForm_hi {d : gDt} {x : Int32} (hd : mOk d) (h : d 9 0 ≤ x) : m_isForm d x = 0 := by
  unfold m_isForm
  rw [hd.2.1.1] at h ⊢
  exact rng_hn (by have := hd.1.1; omega) h
theorem isForm_ok {d : gDt} {x : Int32} (hd : mOk d) (h1 : ¬ x < 0) (h2 : ¬ d 9 0 ≤ x) : ∃ i, i < nF d ∧ x = nI i := by
  rw [hd.2.1.1] at h2
  exact rng_ne (by have := hd.1.1; omega) h1 h2
theorem pf_z {ca : Nat → Nat} {d : gDt} {x : Int32} (hd : mOk d) (h0 : ¬ x < 0) (h : m_isPiece d x = 0) : c_pf ca (nP d) x.toNatClampNeg = none := by
  unfold c_pf
  refine if_neg (fun hc => f_in_z h ⟨Int32.not_lt.mp h0, ?_⟩)
  have := hd.1.2.1
  rw [hd.2.1.2.1, Int32.le_iff_toInt_le, nI_prd (by omega)]
  rw [Int32.lt_iff_toInt_lt] at h0
  have e0 : (0 : Int32).toInt = 0 := by decide
  have e9 : x.toNatClampNeg = x.toInt.toNat := rfl
  omega
theorem uf_z {ca : Nat → Nat} {d : gDt} {x : Int32} (hd : mOk d) (h0 : ¬ x < 0) (h : m_isPlayer d x = 0) : c_uf ca (nU d) x.toNatClampNeg = none := by
  unfold c_uf
  refine if_neg (fun hc => f_in_z h ⟨Int32.not_lt.mp h0, ?_⟩)
  have := hd.1.2.2
  rw [hd.2.1.2.2, Int32.le_iff_toInt_le, nI_prd (by omega)]
  rw [Int32.lt_iff_toInt_lt] at h0
  have e0 : (0 : Int32).toInt = 0 := by decide
  have e9 : x.toNatClampNeg = x.toInt.toNat := rfl
  omega
theorem pf_s {ca : Nat → Nat} {n i : Nat} (hi : i < n) (hn : n ≤ 6) : c_pf ca n (nI i).toNatClampNeg = some (ca (10 + i)) := by
  rw [nI_clamp (by omega)]
  exact if_pos hi
theorem uf_s {ca : Nat → Nat} {n i : Nat} (hi : i < n) (hn : n ≤ 8) : c_uf ca n (nI i).toNatClampNeg = some (ca (40 + i)) := by
  rw [nI_clamp (by omega)]
  exact if_pos hi
theorem sf_s {ca : Nat → Nat} {i : Nat} (hi : i < 4) : c_sf ca (nI i).toNatClampNeg = some (ca (60 + i)) := by
  rw [nI_clamp (by omega)]
  exact if_pos hi
theorem isSet_ne {x : Int32} (h : ¬ m_isSet x = 0) : ∃ i, i < 4 ∧ x = nI i := by
  obtain ⟨h1, h2⟩ := f_in_ne h
  exact nI_cnt (n := 4) (by decide) h1 h2
theorem isSet_lo {x : Int32} (h : x < 0) : m_isSet x = 0 := rng_lo h
theorem isSet_hi {x : Int32} (h : 4 ≤ x) : m_isSet x = 0 := rng_hn (n := 4) (by decide) h
theorem arr_in {x : Int32} {n : Nat} (hn : n < 2 ^ 30) (h1 : ¬ x < 0) (h2 : ¬ nI n ≤ x) : vp_in x n := by
  obtain ⟨i, hi, rfl⟩ := rng_ne hn h1 h2
  exact vp_in_nI (by omega) (by omega)
abbrev rm_X5_lengthOfForm : Room := { frames := 6, cells := 1, slots := 6, locals := 230 }
theorem nm_X5_lengthOfForm : gNm yX5_lengthOfForm 1 := ⟨by decide +kernel, by decide +kernel, by decide +kernel⟩
set_option maxHeartbeats 4000000 in
set_option maxRecDepth 100000 in
theorem c_X5_lengthOfForm (l : Launch) (hfl : l.stackTraces = false) (D : va_G) (tc : Nat → ClassId) (A : Nat → Prop) (w : gW) (ca : Nat → Nat) (d : gDt) (tk : Int64) (st : Nat → Int64) (x : Int32) (hC : cW tc w ca d tk st) (hOk : mOk d) : gM l yX5_lengthOfForm cX5_lengthOfForm 2 (some .int) rm_X5_lengthOfForm D tc A [.ref (ca 0), .int x] w (fun v w' => w' = w ∧ ∃ i, i < nF d ∧ x = nI i ∧ v = some (.int (d 0 i))) (fun E => m_isForm d x = 0 ∧ E = gIO) := by
  refine gM_of (by decide +kernel) (Nat.le_of_ble_eq_true rfl) ?_
  intro p e s m args below meth c ls Q hQ hE hG hr hnt hnm hl
  have hx := hE.1
  have hb := hE.2.1
  have hl : lv_has ls 2 [(0, .ref (ca 0)), (1, .int x)] := hl
  obtain ⟨⟨z0, z1, z2, z5, z6⟩, ⟨cy, ge, sf, z3, z4, hsf, hce, hcy⟩, zP, zS, zU, zV, zN⟩ := id hC
  refine lv_iload_n hx hb dX5_lengthOfForm_0 rfl (lv_at hl 1 rfl) ?_
  refine lv_if_lt (tgt := 21) hx hb dX5_lengthOfForm_1 (by decide) (fun c_1 => ?_) (fun c_1 => ?_)
  · skip
    subst hQ
    exact g_thrW (E := gIO) hfl hE hG hl.1 hnt gTgIO (List.mem_of_getElem? (i := 21) rfl) dX5_lengthOfForm_21 dX5_lengthOfForm_24 dX5_lengthOfForm_25 dX5_lengthOfForm_28 dX5_lengthOfForm_31 (by refine ⟨?_, ?_, ?_, ?_, ?_, ?_⟩ <;> exact Nat.le_of_ble_eq_true rfl) rfl ⟨isForm_lo c_1, rfl⟩
  · skip
    refine lv_iload_n hx hb dX5_lengthOfForm_4 rfl (lv_at hl 1 rfl) ?_
    refine lv_aload_n hx hb dX5_lengthOfForm_5 rfl (lv_at hl 0 rfl) ?_
    refine g_get hE hG z0 rfl inG5 1 (by decide) mw1_102 rfl dX5_lengthOfForm_6 ?_
    refine lv_icmp_ge (tgt := 21) hx hb dX5_lengthOfForm_9 (by decide) (fun c_2 => ?_) (fun c_2 => ?_)
    · skip
      subst hQ
      exact g_thrW (E := gIO) hfl hE hG hl.1 hnt gTgIO (List.mem_of_getElem? (i := 21) rfl) dX5_lengthOfForm_21 dX5_lengthOfForm_24 dX5_lengthOfForm_25 dX5_lengthOfForm_28 dX5_lengthOfForm_31 (by refine ⟨?_, ?_, ?_, ?_, ?_, ?_⟩ <;> exact Nat.le_of_ble_eq_true rfl) rfl ⟨isForm_hi hOk c_2, rfl⟩
    · skip
      refine lv_iload_n hx hb dX5_lengthOfForm_12 rfl (lv_at hl 1 rfl) ?_
      refine lv_aload_n hx hb dX5_lengthOfForm_13 rfl (lv_at hl 0 rfl) ?_
      refine g_get hE hG z0 rfl inG5 0 (by decide) mw1_101 rfl dX5_lengthOfForm_14 ?_
      refine g_alen (t0 := 0) (v := 4) hE hG z1 rfl rfl dX5_lengthOfForm_17 ?_
      refine lv_icmp_lt (tgt := 32) hx hb dX5_lengthOfForm_18 (by decide) (fun c9 => ?_) (fun c9 => (c9 (by obtain ⟨i, hi, rfl⟩ := isForm_ok hOk c_1 c_2; have := hOk.1.1; exact nI_lt (b := 4) (by omega) (by omega))).elim)
      refine lv_aload_n hx hb dX5_lengthOfForm_32 rfl (lv_at hl 0 rfl) ?_
      refine g_get hE hG z0 rfl inG5 0 (by decide) mw1_101 rfl dX5_lengthOfForm_33 ?_
      refine lv_iload_n hx hb dX5_lengthOfForm_36 rfl (lv_at hl 1 rfl) ?_
      refine g_iald hE hG z1 (by obtain ⟨i, hi, rfl⟩ := isForm_ok hOk c_1 c_2; have := hOk.1.1; exact vp_in_nI (by omega) (by omega)) dX5_lengthOfForm_37 ?_
      subst hQ
      exact g_iret hE hG hr (Nat.le_of_ble_eq_true rfl) (Nat.le_of_ble_eq_true rfl) dX5_lengthOfForm_38 (by obtain ⟨i, hi, hxi⟩ := isForm_ok hOk c_1 c_2; exact ⟨rfl, i, hi, hxi, by rw [hxi, nI_clamp (by have := hOk.1.1; omega)]⟩)
