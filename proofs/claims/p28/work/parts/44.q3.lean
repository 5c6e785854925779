/-! rows packed by threes; what sounds -/
theorem q_lNbv (n : Nat) : (lN n).toBitVec = BitVec.ofNat 64 n := rfl
theorem q_lNand (a b : Nat) : lN a &&& lN b = lN (a &&& b) := by
  apply Int64.toBitVec_inj.mp; rw [Int64.toBitVec_and, q_lNbv, q_lNbv, q_lNbv]; apply BitVec.eq_of_getLsbD_eq; intro i hi; simp [BitVec.getLsbD_ofNat, Nat.testBit_and, hi]
theorem q_lNor (a b : Nat) : lN a ||| lN b = lN (a ||| b) := by
  apply Int64.toBitVec_inj.mp; rw [Int64.toBitVec_or, q_lNbv, q_lNbv, q_lNbv]; apply BitVec.eq_of_getLsbD_eq; intro i hi; simp [BitVec.getLsbD_ofNat, Nat.testBit_or, hi]
theorem q_lNxor (a b : Nat) : lN a ^^^ lN b = lN (a ^^^ b) := by
  apply Int64.toBitVec_inj.mp; rw [Int64.toBitVec_xor, q_lNbv, q_lNbv, q_lNbv]; apply BitVec.eq_of_getLsbD_eq; intro i hi; simp [BitVec.getLsbD_ofNat, Nat.testBit_xor, hi]
theorem q_lNnat {n : Nat} (h : n < 2 ^ 64) : (lN n).toBitVec.toNat = n := by rw [q_lNbv, BitVec.toNat_ofNat]; exact Nat.mod_eq_of_lt h
theorem q_lshrN {n : Nat} (h : n < 2 ^ 63) (s : Int64) (k : Nat) (hs : (s.toBitVec.smod 64).toNat = k) : lN n >>> s = lN (n / 2 ^ k) := by
  apply Int64.toInt_inj.mp
  have h2 : n / 2 ^ k ≤ n := Nat.div_le_self _ _
  have e : (lN n >>> s).toInt = (lN n).toInt >>> k := by
    show ((lN n).toBitVec.sshiftRight (s.toBitVec.smod 64).toNat).toInt = _
    rw [hs, BitVec.toInt_sshiftRight]
    rfl
  rw [e, pk_lT h, pk_lT (by omega), Int.shiftRight_eq_div_pow]
  rfl
theorem q_lshlN {n : Nat} (s : Int64) (k : Nat) (hs : (s.toBitVec.smod 64).toNat = k) (h : n * 2 ^ k < 2 ^ 64) : lN n <<< s = lN (n * 2 ^ k) := by
  apply Int64.toBitVec_inj.mp
  apply BitVec.eq_of_toNat_eq
  have hn : n < 2 ^ 64 := Nat.lt_of_le_of_lt (Nat.le_mul_of_pos_right n (Nat.two_pow_pos k)) h
  have e : (lN n <<< s).toBitVec.toNat = (lN n).toBitVec.toNat * 2 ^ k % 2 ^ 64 := by
    show ((lN n).toBitVec <<< (s.toBitVec.smod 64).toNat).toNat = _
    rw [hs, BitVec.toNat_shiftLeft, Nat.shiftLeft_eq]
  rw [e, q_lNnat hn, q_lNnat h, Nat.mod_eq_of_lt h]
theorem sh_am : ∀ j : Nat, j < 16 → (((3 * (nI (j + 1) - 1)).toInt64 &&& 63).toBitVec.smod 64).toNat = 3 * j := by decide +kernel
/-- the tone at the place j + 1 of a row -/
def dg (r j : Nat) : Nat := r / 2 ^ (3 * j) % 8
def wr (r j t : Nat) : Nat := (r &&& ((7 * 2 ^ (3 * j)) ^^^ (2 ^ 64 - 1))) ||| (t * 2 ^ (3 * j))
theorem p45 {j : Nat} (hj : j < 16) : 2 ^ (3 * j) ≤ 2 ^ 45 := Nat.pow_le_pow_right (by decide) (by omega)
theorem at_N {r j : Nat} (hr : r < 2 ^ 63) (hj : j < 16) : f_atL (lN r) (nI (j + 1)) = nI (dg r j) := by
  unfold f_atL dg
  rw [q_lshrN hr _ _ (sh_am j hj), show (7 : Int64) = lN 7 from rfl, q_lNand, lN_i, show (7 : Nat) = 2 ^ 3 - 1 from rfl, Nat.and_two_pow_sub_one_eq_mod]
theorem wi_N {r j t : Nat} (hr : r < 2 ^ 63) (hj : j < 16) (ht : t < 8) : f_wiL (lN r) (nI (j + 1)) (nI t) = lN (wr r j t) := by
  unfold f_wiL wr
  have h1 := p45 hj
  have h7 : 7 * 2 ^ (3 * j) < 2 ^ 64 := by omega
  have ht2 : t * 2 ^ (3 * j) < 2 ^ 64 := Nat.lt_of_le_of_lt (Nat.mul_le_mul_right _ (show t ≤ 7 by omega)) h7
  rw [show (7 : Int64) = lN 7 from rfl, q_lshlN _ _ (sh_am j hj) h7, show (-1 : Int64) = lN (2 ^ 64 - 1) from by decide, q_lNxor, q_lNand, nI_l (by omega), q_lshlN _ _ (sh_am j hj) ht2, q_lNor]
theorem wr_bit {r j t i : Nat} (hi : i < 64) : (wr r j t).testBit i = ((r.testBit i && !(decide (3 * j ≤ i) && decide (i - 3 * j < 3))) || (decide (3 * j ≤ i) && t.testBit (i - 3 * j))) := by
  unfold wr
  rw [Nat.testBit_or, Nat.testBit_and, Nat.testBit_xor, Nat.testBit_mul_two_pow, Nat.testBit_mul_two_pow, Nat.testBit_two_pow_sub_one, show (7 : Nat) = 2 ^ 3 - 1 from rfl, Nat.testBit_two_pow_sub_one]
  simp [hi]
theorem dg_bit (r j i : Nat) : (dg r j).testBit i = (decide (i < 3) && r.testBit (3 * j + i)) := by
  unfold dg
  rw [show (8 : Nat) = 2 ^ 3 from rfl, Nat.testBit_mod_two_pow, Nat.testBit_div_two_pow]
  congr 2
  omega
theorem t8_bit {t i : Nat} (ht : t < 8) (hi : 3 ≤ i) : t.testBit i = false := Nat.testBit_lt_two_pow (Nat.lt_of_lt_of_le ht (show 2 ^ 3 ≤ 2 ^ i from Nat.pow_le_pow_right (by decide) hi))
theorem dg_wr_s {r j t : Nat} (hj : j < 16) (ht : t < 8) : dg (wr r j t) j = t := by
  apply Nat.eq_of_testBit_eq
  intro i
  rw [dg_bit]
  by_cases hi : i < 3
  · rw [wr_bit (by omega), show 3 * j + i - 3 * j = i by omega]
    simp [hi]
  · rw [t8_bit ht (by omega)]
    simp [hi]
theorem dg_wr_n {r j q t : Nat} (hj : j < 16) (hq : q < 16) (ht : t < 8) (hn : q ≠ j) : dg (wr r j t) q = dg r q := by
  apply Nat.eq_of_testBit_eq
  intro i
  rw [dg_bit, dg_bit]
  by_cases hi : i < 3
  · rw [wr_bit (by omega)]
    by_cases h3 : 3 * j ≤ 3 * q + i
    · have h4 : ¬ (3 * q + i - 3 * j < 3) := by omega
      rw [t8_bit ht (by omega)]
      simp [hi, h4]
    · simp [hi, h3]
  · simp [hi]
theorem wr_lt {r j t : Nat} (hr : r < 2 ^ 48) (hj : j < 16) (ht : t < 8) : wr r j t < 2 ^ 48 := by
  unfold wr
  have h1 := p45 hj
  refine Nat.or_lt_two_pow (Nat.lt_of_le_of_lt Nat.and_le_left hr) ?_
  exact Nat.lt_of_le_of_lt (Nat.mul_le_mul_right _ (show t ≤ 7 by omega)) (by omega)
theorem dg_lt (r j : Nat) : dg r j < 8 := Nat.mod_lt _ (by decide)
/-- the row x of n places says what f says -/
def rRow (x : Int64) (n : Nat) (f : Nat → Int32) : Prop := ∃ r, r < 2 ^ 48 ∧ x = lN r ∧ ∀ j, j < n → f (j + 1) = nI (dg r j)
theorem rRow_at {x : Int64} {n : Nat} {f : Nat → Int32} (h : rRow x n f) (hn : n ≤ 16) {j : Nat} (hj : j < n) : f_atL x (nI (j + 1)) = f (j + 1) := by
  obtain ⟨r, hr, rfl, hf⟩ := h
  rw [at_N (by omega) (by omega), hf j hj]
theorem rRow_wi {x : Int64} {n t : Nat} {f f' : Nat → Int32} (h : rRow x n f) (hn : n ≤ 16) {j : Nat} (hj : j < n) (ht : t < 8) (h1 : f' (j + 1) = nI t) (h2 : ∀ q, q < n → q ≠ j → f' (q + 1) = f (q + 1)) : rRow (f_wiL x (nI (j + 1)) (nI t)) n f' := by
  obtain ⟨r, hr, rfl, hf⟩ := h
  refine ⟨wr r j t, wr_lt hr (by omega) ht, wi_N (by omega) (by omega) ht, fun q hq => ?_⟩
  by_cases e : q = j
  · subst e; rw [dg_wr_s (by omega) ht, h1]
  · rw [dg_wr_n (by omega) (by omega) ht e, h2 q hq e, hf q hq]
theorem rRow_cg {x : Int64} {n n' : Nat} {f f' : Nat → Int32} (h : rRow x n f) (hn : n' = n) (h2 : ∀ q, q < n → f' (q + 1) = f (q + 1)) : rRow x n' f' := by
  obtain ⟨r, hr, e, hf⟩ := h
  subst hn
  exact ⟨r, hr, e, fun q hq => (h2 q hq).trans (hf q hq)⟩
theorem rRow_0 (n : Nat) : rRow 0 n (fun _ => 0) := ⟨0, by decide, rfl, fun j _ => by unfold dg; rw [Nat.zero_div]; rfl⟩
theorem rRow_nn {x : Int64} {n : Nat} {f : Nat → Int32} (h : rRow x n f) : ¬ lg_cmp x 0 < 0 ∧ 0 ≤ lg_cmp x 0 := by
  obtain ⟨r, hr, rfl, hf⟩ := h
  have h0 : ¬ (lN r < 0) := by rw [show (0 : Int64) = lN 0 from rfl, pk_lLT (by omega) (by decide)]; omega
  unfold lg_cmp
  by_cases e : lN r = 0
  · simp [e]
  · have hp : (0 : Int64) < lN r := by
      rw [show (0 : Int64) = lN 0 from rfl, pk_lLT (by decide) (by omega)]
      exact Nat.pos_of_ne_zero (fun h => e (by rw [h]; rfl))
    simp [h0, e, hp]
theorem md2 {a n : Nat} (hn : 0 < n) (h : a < 2 * n) : a % n = if a < n then a else a - n := by
  by_cases h1 : a < n
  · rw [if_pos h1, Nat.mod_eq_of_lt h1]
  · rw [if_neg h1, Nat.mod_eq_sub_mod (by omega), Nat.mod_eq_of_lt (by omega)]
theorem sd_go {r : Int64} {n z : Nat} {g T : Nat → Int32} (hn : n ≤ 64) (h1 : 1 ≤ z) (hz : z ≤ n) (hT : ∀ j, j < n → f_atL r (nI (j + 1)) = T (j + 1)) (hk : ∀ j, j < n → ∃ k : Nat, k ≤ 7 ∧ T (j + 1) = nI k) (hg : ∀ j, j < n → f_at n g (nI (j + 1)) = T (j + 1)) : ∀ k, k ≤ n → f_sdL r n z k = f_snd n g k (nI ((z + k - 1) % n + 1)) := by
  intro k
  induction k with
  | zero => intro _; rfl
  | succ k ih =>
    intro hkn
    have hm : (z + k) % n < n := Nat.mod_lt _ (by omega)
    obtain ⟨t, ht, et⟩ := hk _ hm
    show (if f_atL r (nI ((z + k) % n + 1)) ≤ 0 then f_sdL r n z k else f_atL r (nI ((z + k) % n + 1))) = (if f_at n g (nI ((z + (k + 1) - 1) % n + 1)) = 0 then f_snd n g k (if nI ((z + (k + 1) - 1) % n + 1) ≤ 1 then nI n else nI ((z + (k + 1) - 1) % n + 1) - 1) else f_at n g (nI ((z + (k + 1) - 1) % n + 1)))
    rw [show z + (k + 1) - 1 = z + k by omega, hT _ hm, hg _ hm, et, ih (by omega)]
    have hp : (if nI ((z + k) % n + 1) ≤ 1 then nI n else nI ((z + k) % n + 1) - 1) = nI ((z + k - 1) % n + 1) := by
      rw [md2 (a := z + k) (by omega) (by omega), md2 (a := z + k - 1) (by omega) (by omega)]
      have hc : ∀ q : Nat, q < 64 → ((nI (q + 1) ≤ 1) ↔ q = 0) := fun q hq => by
        rw [show (1 : Int32) = nI 1 from rfl, nI_leI (by omega) (by decide)]; omega
      by_cases a1 : z + k < n
      · rw [if_pos a1, if_pos (by omega : z + k - 1 < n), if_neg (by rw [hc _ (by omega)]; omega), nI_pred, show z + k - 1 + 1 = z + k by omega]
      · rw [if_neg a1]
        by_cases a2 : z + k = n
        · rw [if_pos (by rw [hc _ (by omega)]; omega), if_pos (by omega : z + k - 1 < n), show z + k - 1 + 1 = n by omega]
        · rw [if_neg (by rw [hc _ (by omega)]; omega), if_neg (by omega : ¬ z + k - 1 < n), nI_pred, show z + k - 1 - n + 1 = z + k - n by omega]
    rw [hp]
    by_cases e0 : t = 0
    · subst e0; rw [if_pos (by decide), if_pos (by decide)]
    · rw [if_neg (by rw [show (0 : Int32) = nI 0 from rfl, nI_leI (by omega) (by decide)]; omega), if_neg (nI_ne0 (by omega) (by omega))]
/-- what sounds, as the law finds it -/
theorem sd_eq {d : gDt} {i z : Nat} {r : Int64} (hOk : mOk d) (hT : tOk d) (hi : i < nP d) (hn : lenN d i ≤ 16) (hr : rRow r (lenN d i) (fun j => d 3 (65 * i + j))) (h1 : 1 ≤ z) (h2 : z ≤ lenN d i) : f_sdL r (lenN d i) z (lenN d i) = m_snd d i z := by
  rw [sd_go (g := fun j => d 3 (65 * i + j + 1)) (T := fun j => d 3 (65 * i + j)) (by omega) h1 h2 (fun j hj => rRow_at hr hn hj) (fun j hj => hT _) (fun j hj => at_s hOk hi (fun j _ => rfl) (by omega) (by omega)) _ (Nat.le_refl _), ← snd_eq hOk hi (fun j _ => rfl) h1 h2]
  congr 2
  rw [show z + lenN d i - 1 = z - 1 + lenN d i by omega, Nat.add_mod_right, Nat.mod_eq_of_lt (by omega)]
  omega
