/-! the law's rows beside the class's data -/
def rA (d : gDt) (gc : Nat → Int64) (gm : Nat → Int32) : Prop := (nF d = 2 ∧ nP d = 2 ∧ nU d = 4) ∧ ∀ i, i < 2 → d 1 i = nI i ∧ (∃ q, 1 ≤ q ∧ q ≤ 4 ∧ d 0 i = nI (4 * q)) ∧ gm i = d 0 i ∧ gm (2 + i) = d 2 i ∧ (∃ f, f < 32 ∧ d 2 i = nI f) ∧ rRow (gc i) (lenN d i) (fun j => d 3 (65 * i + j))
def rB (d : gDt) (gm : Nat → Int32) : Prop := (gm 4 = d 9 2 ∧ gm 5 = d 9 3 ∧ gm 6 = d 9 4 ∧ gm 7 = d 9 5 ∧ gm 8 = d 9 6 ∧ gm 9 = d 9 7 ∧ gm 10 = d 9 8 ∧ gm 11 = d 9 9 ∧ gm 12 = d 9 10 ∧ gm 13 = d 9 11 ∧ gm 14 = d 9 12) ∧ (d 9 2 = 0 ∨ d 9 2 = 1) ∧ (∃ v, v < 4 ∧ d 9 6 = nI v) ∧ (∃ e, e ≤ 100000 ∧ d 9 9 = nI e) ∧ (∃ t, t < 5 ∧ d 9 11 = nI t) ∧ (∃ y, y ≤ 300 ∧ d 9 12 = nI y) ∧ (¬ d 9 2 = 0 → ∃ q, 5 ≤ q ∧ q ≤ 80 ∧ d 9 5 = nI (2 * q))
def rT (gc : Nat → Int64) (tk : Int64) (st : Nat → Int64) : Prop := gc 10 = tk ∧ ∀ k, k < 4 → gc (11 + k) = st k
def rU (d : gDt) (gc : Nat → Int64) (gm : Nat → Int32) : Prop := ∀ u, u < 4 → gm (15 + u) = d 6 u ∧ (∃ a, a < 16 ∧ d 6 u = nI a) ∧ ∀ i, i < 2 → (d 7 (6 * u + i) = 0 ∧ gc (2 + 2 * u + i) = -1) ∨ (¬ d 7 (6 * u + i) = 0 ∧ rRow (gc (2 + 2 * u + i)) (lenN d i) (fun j => d 8 (65 * (6 * u + i) + j)))
def rP (d : gDt) (gp : Nat → Int32) : Prop := (∀ s k, s < 4 → k < 7 → gp (7 * s + k) = d 4 (8 * s + k + 1)) ∧ ∀ s, s < 4 → gp (28 + s) = d 5 s
def rl (d : gDt) (tk : Int64) (st : Nat → Int64) (gc : Nat → Int64) (gm gp : Nat → Int32) : Prop := rA d gc gm ∧ rB d gm ∧ rT gc tk st ∧ rU d gc gm ∧ rP d gp
/-- the class's object, and the law's three rows beside it -/
def hO (tc : Nat → ClassId) (oa ac am ap B : Nat) (w : gW) : Prop := ∃ (d : gDt) (tk : Int64) (st : Nat → Int64) (gc : Nat → Int64) (gm gp : Nat → Int32), cO tc w oa d tk st ∧ w 1000 = some (ac, .inl (tc 1, 15, .inr (.inl gc))) ∧ w 1001 = some (am, .inl (tc 0, 19, .inl gm)) ∧ w 1002 = some (ap, .inl (tc 0, 32, .inl gp)) ∧ iOk d B ∧ rl d tk st gc gm gp
theorem rA_i {d : gDt} {gc : Nat → Int64} {gm : Nat → Int32} {i : Nat} (h : rA d gc gm) (hi : i < 2) : ∃ q, 1 ≤ q ∧ q ≤ 4 ∧ lenN d i = 4 * q ∧ d 0 i = nI (4 * q) ∧ gm i = nI (4 * q) := by
  obtain ⟨-, h2⟩ := h
  obtain ⟨h3, ⟨q, h4, h5, h6⟩, h7, -⟩ := h2 i hi
  refine ⟨q, h4, h5, ?_, h6, h7.trans h6⟩
  unfold lenN
  rw [h3, nI_clamp (by omega), h6, nI_clamp (by omega)]
theorem lg_self (x : Int64) : lg_cmp x x = 0 := by
  unfold lg_cmp
  have h : ¬ x < x := by rw [Int64.lt_iff_toInt_lt]; omega
  simp [h]
theorem now_eq {d : gDt} {gm : Nat → Int32} (h : rB d gm) : m_now d 0 = gm 6 ∧ m_now d 1 = gm 7 ∧ m_now d 2 = gm 8 ∧ m_now d 3 = gm 9 ∧ m_now d 4 = gm 4 ∧ m_now d 5 = gm 5 := by
  obtain ⟨⟨h4, h5, h6, h7, h8, h9, -⟩, h01, -⟩ := h
  refine ⟨?_, ?_, ?_, ?_, ?_, ?_⟩
  · rw [h6]; rfl
  · rw [h7]; rfl
  · rw [h8]; rfl
  · rw [h9]; rfl
  · rw [h4]; show (if d 9 2 = 0 then (0 : Int32) else 1) = d 9 2
    rcases h01 with h | h
    · rw [h]; rfl
    · rw [h]; rfl
  · rw [h5]; rfl
/-! when a call may be made -/
theorem fin_nI {a b n : Nat} (h1 : b ≤ a) (h2 : a ≤ n) (hn : n < 2 ^ 31) : ¬ f_in (nI a) (nI b) (nI n) = 0 := by rw [f_in_nI (by omega) (by omega) hn h1 h2]; decide
theorem go_now {d : gDt} : ∀ k : Nat, k < 6 → ¬ m_go (ga_now d (nI k)) (gb_now d (nI k)) (gc_now d (nI k)) = 0 := fun k hk => m_go_i (fin_nI (b := 0) (n := 5) (by omega) (by omega) (by decide)) one_nz one_nz
theorem go_depth {d : gDt} {i y n : Nat} (hOk : mOk d) (hi : i < nF d) (hn : d 0 i = nI n) (h1 : 1 ≤ y) (h2 : y ≤ n) (h3 : n ≤ 64) : ¬ m_go (ga_depth d (nI i) (nI y)) (gb_depth d (nI i) (nI y)) (gc_depth d (nI i) (nI y)) = 0 := by
  refine m_go_i ?_ one_nz one_nz
  unfold ga_depth
  have := hOk.1.1
  rw [if_neg (isForm_s hOk hi), nI_clamp (by omega), hn, if_neg (show ¬ f_in (nI y) 1 (nI n) = 0 from fin_nI (b := 1) h1 h2 (by omega))]
  decide
theorem isPl_o {d : gDt} {i y : Nat} (hOk : mOk d) (hi : i < nP d) (h1 : 1 ≤ y) (h2 : y ≤ lenN d i) : ¬ m_isPlace d (nI i) (nI y) = 0 := by rw [m_isPlace_of hOk hi h1 h2]; decide
theorem go_sounds {d : gDt} {i y : Nat} (hOk : mOk d) (hi : i < nP d) (h1 : 1 ≤ y) (h2 : y ≤ lenN d i) : ¬ m_go (ga_sounds d (nI i) (nI y)) (gb_sounds d (nI i) (nI y)) (gc_sounds d (nI i) (nI y)) = 0 := m_go_i (isPl_o hOk hi h1 h2) one_nz one_nz
theorem go_stroke {d : gDt} {i a y v t : Nat} (hOk : mOk d) (hi : i < nP d) (h1 : 1 ≤ y) (h2 : y ≤ lenN d i) (ha : a < 4) (hv : v < 4) (ht : t < kk (4 * a + v)) : ¬ m_go (ga_stroke d (nI i) (nI a) (nI y) (nI v) (nI t)) (gb_stroke d (nI i) (nI a) (nI y) (nI v) (nI t)) (gc_stroke d (nI i) (nI a) (nI y) (nI v) (nI t)) = 0 := by
  have hA : ¬ f_in (nI a) 0 3 = 0 := fin_nI (b := 0) (n := 3) (by omega) (by omega) (by decide)
  have hV : ¬ f_in (nI v) 0 3 = 0 := fin_nI (b := 0) (n := 3) (by omega) (by omega) (by decide)
  have hP := isPl_o hOk hi h1 h2
  obtain ⟨k1, k2, k3⟩ := kk_den (4 * a + v) (by omega)
  rw [show (4 * a + v) / 4 = a by omega, show (4 * a + v) % 4 = v by omega] at k1
  refine m_go_i (by rw [sk_gb hP hA]; decide) ?_ one_nz
  rw [sk_o hP hA hV ?_]
  · decide
  · rw [k1, show (1 : Int32) = nI 1 from rfl, pk_sub (by omega)]
    exact fin_nI (b := 0) (by omega) (by omega) (by omega)
theorem isPart_o {a : Nat} (ha : a < 4) : ¬ m_isPart (nI a) = 0 := isSet_s ha
theorem go_beat {d : gDt} {x y z : Nat} (hx : x < 4) (hy : y < 4) (hz : z < 7) : ¬ m_go (ga_beat d (nI x) (nI y) (nI (z + 1))) (gb_beat d (nI x) (nI y) (nI (z + 1))) (gc_beat d (nI x) (nI y) (nI (z + 1))) = 0 := by
  refine m_go_i ?_ one_nz one_nz
  unfold ga_beat
  rw [if_neg (isSet_s hx), if_neg (isSet_s hy), if_neg (show ¬ f_in (nI (z + 1)) 1 7 = 0 from fin_nI (b := 1) (n := 7) (by omega) (by omega) (by decide))]
  decide
theorem go_covered {d : gDt} {i : Nat} (hOk : mOk d) (hi : i < nP d) : ¬ m_go (ga_covered d (nI i)) (gb_covered d (nI i)) (gc_covered d (nI i)) = 0 := m_go_i (isPiece_s hOk hi) one_nz one_nz
theorem go_unlike {d : gDt} {u i : Nat} {o : Int32} (hOk : mOk d) (hu : u < nU d) (hi : i < nP d) (ho : o = -1 ∨ ∃ q, q < nU d ∧ o = nI q) : ¬ m_go (ga_unlike d (nI u) o (nI i)) (gb_unlike d (nI u) o (nI i)) (gc_unlike d (nI u) o (nI i)) = 0 := by
  refine m_go_i (unl_gb (isPlayer_s hOk hu) (isPiece_s hOk hi) ?_) one_nz one_nz
  rcases ho with h | ⟨q, hq, rfl⟩
  · exact Or.inl h
  · exact Or.inr (isPlayer_s hOk hq)
theorem go_begin {d : gDt} {i f t : Nat} (hOk : mOk d) (hi : i < nP d) (h2 : d 9 2 = 0) (hf : d 2 i = nI f) (ht : d 9 11 = nI t) (hb : (nI f >>> (nI t &&& 31)) &&& 1 = 0) : ¬ m_go (ga_begin d (nI i)) (gb_begin d (nI i)) (gc_begin d (nI i)) = 0 := by
  have := hOk.1.2.1
  refine m_go_i (isPiece_s hOk hi) ?_ one_nz
  unfold gb_begin
  rw [if_neg (isPiece_s hOk hi), if_pos h2, nI_clamp (by omega), hf, ht, if_pos hb]
  decide
theorem go_days {d : gDt} {x : Nat} (h1 : 1 ≤ x) (h2 : x ≤ 100) (h9 : d 9 2 = 0) : ¬ m_go (ga_days d (nI x)) (gb_days d (nI x)) (gc_days d (nI x)) = 0 := m_go_i (fin_nI (b := 1) (n := 100) h1 h2 (by decide)) (by unfold gb_days; rw [if_pos h9]; decide) one_nz
theorem go_drum {d : gDt} {x : Nat} (h2 : x ≤ 4) (h9 : d 9 2 = 1) : ¬ m_go (ga_drum d (nI x)) (gb_drum d (nI x)) (gc_drum d (nI x)) = 0 := m_go_i (fin_nI (b := 0) (n := 4) (by omega) h2 (by decide)) (by unfold gb_drum; rw [h9]; decide) one_nz
theorem go_beats {d : gDt} {x : Nat} (h1 : 1 ≤ x) (h2 : x ≤ 100) (h9 : d 9 2 = 1) : ¬ m_go (ga_beats d (nI x)) (gb_beats d (nI x)) (gc_beats d (nI x)) = 0 := m_go_i (fin_nI (b := 1) (n := 100) h1 h2 (by decide)) (by unfold gb_beats; rw [h9]; decide) one_nz
theorem go_pitch {d : gDt} {x y z : Nat} (hx : x < 4) (hy : y < 7) (h1 : 5000 ≤ z) (h2 : z ≤ 200000) : ¬ m_go (ga_pitch d (nI x) (nI (y + 1)) (nI z)) (gb_pitch d (nI x) (nI (y + 1)) (nI z)) (gc_pitch d (nI x) (nI (y + 1)) (nI z)) = 0 := by
  refine m_go_i ?_ (fin_nI (b := 5000) (n := 200000) h1 h2 (Nat.le_of_ble_eq_true rfl)) one_nz
  unfold ga_pitch
  rw [if_neg (isSet_s hx), if_neg (show ¬ f_in (nI (y + 1)) 1 7 = 0 from fin_nI (b := 1) (n := 7) (by omega) (by omega) (by decide))]
  decide
theorem go_drift {d : gDt} {x z : Nat} (hx : x < 4) (h2 : z ≤ 50) : ¬ m_go (ga_drift d (nI x) (nI z)) (gb_drift d (nI x) (nI z)) (gc_drift d (nI x) (nI z)) = 0 := m_go_i (isSet_s hx) (fin_nI (b := 0) (n := 50) (by omega) h2 (by decide)) one_nz
theorem go_years {d : gDt} {x y : Nat} (h1 : 1 ≤ x) (h2 : x ≤ 30) (hy : d 9 12 = nI y) (h3 : y + x ≤ 300) : ¬ m_go (ga_years d (nI x)) (gb_years d (nI x)) (gc_years d (nI x)) = 0 := by
  have hf : ¬ f_in (nI x) 1 30 = 0 := fin_nI (b := 1) (n := 30) h1 h2 (by decide)
  refine m_go_i hf ?_ one_nz
  unfold gb_years
  rw [if_neg hf, hy, nI_add, if_neg (show ¬ (300 : Int32) < nI (y + x) from nI_nlt (b := y + x) (a := 300) (by omega) (by decide))]
  decide
theorem go_tune {d : gDt} {x y : Nat} (hx : x < 4) (hy : y < 4) (hn : x ≠ y) : ¬ m_go (ga_tune d (nI x) (nI y)) (gb_tune d (nI x) (nI y)) (gc_tune d (nI x) (nI y)) = 0 := by
  refine m_go_i ?_ ?_ one_nz
  · unfold ga_tune; rw [if_neg (isSet_s hx), if_neg (isSet_s hy)]; decide
  · unfold gb_tune; rw [if_neg (fun h => hn ((nI_eq (by omega) (by omega)).mp h))]; decide
theorem go_tone {d : gDt} {i y t : Nat} (hOk : mOk d) (hi : i < nP d) (h1 : 1 ≤ y) (h2 : y ≤ lenN d i) (ht : t < 8) : ¬ m_go (ga_tone d (nI i) (nI y) (nI t)) (gb_tone d (nI i) (nI y) (nI t)) (gc_tone d (nI i) (nI y) (nI t)) = 0 := m_go_i (isPl_o hOk hi h1 h2) (fin_nI (b := 0) (n := 7) (by omega) (by omega) (by decide)) one_nz
theorem go_forbid {d : gDt} {i t : Nat} (hOk : mOk d) (hi : i < nP d) (ht : t < 32) : ¬ m_go (ga_forbid d (nI i) (nI t)) (gb_forbid d (nI i) (nI t)) (gc_forbid d (nI i) (nI t)) = 0 := m_go_i (isPiece_s hOk hi) (fin_nI (b := 0) (n := 31) (by omega) (by omega) (by decide)) one_nz
theorem go_slip {d : gDt} {u i y t : Nat} (hOk : mOk d) (hu : u < nU d) (hi : i < nP d) (h1 : 1 ≤ y) (h2 : y ≤ lenN d i) (ht : t < 8) (hk : ¬ d 7 (6 * u + i) = 0) : ¬ m_go (ga_slip d (nI u) (nI i) (nI y) (nI t)) (gb_slip d (nI u) (nI i) (nI y) (nI t)) (gc_slip d (nI u) (nI i) (nI y) (nI t)) = 0 := by
  have := hOk.1.2.1
  have := hOk.1.2.2
  have hU := isPlayer_s hOk hu
  have hP := isPl_o hOk hi h1 h2
  refine m_go_i (sl_gb hU hP) (fin_nI (b := 0) (n := 7) (by omega) (by omega) (by decide)) ?_
  rw [sl_gc hU hP, kn_u (by omega) (by omega), if_neg hk]
  decide
theorem go_learn {d : gDt} {u i : Nat} {o : Int32} (hOk : mOk d) (hu : u < nU d) (hi : i < nP d) (ho : o = -1 ∨ ∃ q, q < nU d ∧ o = nI q ∧ ¬ d 7 (6 * q + i) = 0) (hn : ¬ o = nI u) : ¬ m_go (ga_learn d (nI u) (nI i) o) (gb_learn d (nI u) (nI i) o) (gc_learn d (nI u) (nI i) o) = 0 := by
  have := hOk.1.2.1
  have := hOk.1.2.2
  have hg : ga_learn d (nI u) (nI i) o = 1 := lr_gb (isPlayer_s hOk hu) (isPiece_s hOk hi) (by
    rcases ho with h | ⟨q, hq, rfl, -⟩
    · exact Or.inl h
    · exact Or.inr (isPlayer_s hOk hq))
  refine m_go_i (by rw [hg]; decide) (by unfold gb_learn; rw [if_neg hn]; decide) ?_
  rw [lr_gc hg]
  rcases ho with h | ⟨q, hq, rfl, hk⟩
  · rw [kn_h h]; decide
  · rw [kn_u (by omega) (by omega), if_neg hk]; decide
theorem go_form {d : gDt} {q : Nat} (h1 : 1 ≤ q) (h2 : q ≤ 16) (h4 : nF d < 4) (hOk : mOk d) : ¬ m_go (ga_form d (nI (4 * q))) (gb_form d (nI (4 * q))) (gc_form d (nI (4 * q))) = 0 := by
  refine m_go_i ?_ ?_ one_nz
  · unfold ga_form
    rw [if_neg (show ¬ f_in (nI (4 * q)) 4 64 = 0 from fin_nI (b := 4) (n := 64) (by omega) (by omega) (by decide)), if_pos (show nI (4 * q) - nI (4 * q) / 4 * 4 = 0 from (pk_rem (a := 4 * q) (d := 4) (by omega) (by decide) (by decide)).trans (by rw [show 4 * q % 4 = 0 by omega]; rfl))]
    decide
  · unfold gb_form
    rw [hOk.2.1.1, if_neg (show ¬ (4 : Int32) ≤ nI (nF d) from nI_ge (b := 4) h4 (by decide))]
    decide
theorem go_piece {d : gDt} {i : Nat} (hOk : mOk d) (hi : i < nF d) (h6 : nP d < 6) : ¬ m_go (ga_piece d (nI i)) (gb_piece d (nI i)) (gc_piece d (nI i)) = 0 := m_go_i (isForm_s hOk hi) (by unfold gb_piece; rw [hOk.2.1.2.1, if_neg (show ¬ (6 : Int32) ≤ nI (nP d) from nI_ge (b := 6) h6 (by decide))]; decide) one_nz
theorem go_player {d : gDt} {a : Nat} (hOk : mOk d) (ha : a < 16) (h8 : nU d < 8) : ¬ m_go (ga_player d (nI a)) (gb_player d (nI a)) (gc_player d (nI a)) = 0 := m_go_i (fin_nI (b := 0) (n := 15) (by omega) (by omega) (by decide)) (by unfold gb_player; rw [hOk.2.1.2.2, if_neg (show ¬ (8 : Int32) ≤ nI (nU d) from nI_ge (b := 8) h8 (by decide))]; decide) one_nz
