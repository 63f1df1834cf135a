/-! doubles (4): the share itself -/
section QFS
theorem nr_b {a b lo hi : Nat} (hb : 0 < b) (h1 : lo * b ≤ a) (h2 : a < hi * b) : lo ≤ FP.Core.nearest a b ∧ FP.Core.nearest a b ≤ hi := by
  have d1 : lo ≤ a / b := (Nat.le_div_iff_mul_le hb).mpr h1
  have d2 : a / b < hi := (Nat.div_lt_iff_lt_mul hb).mpr h2
  have d3 : a / b % 2 ≤ 1 := by
    have := Nat.mod_lt (a / b) (show 0 < 2 by omega)
    omega
  unfold FP.Core.nearest
  generalize a / b % 2 = w at d3 ⊢
  generalize a / b = z at d1 d2 ⊢
  split
  · exact ⟨d1, by omega⟩
  · split
    · exact ⟨by omega, by omega⟩
    · exact ⟨by omega, by omega⟩
theorem l2_52 {A : Nat} (h1 : 4503599627370496 ≤ A) (h2 : A < 9007199254740992) : A.log2 = 52 := by
  refine (Nat.log2_eq_iff (by omega)).mpr ⟨?_, ?_⟩
  · have e : (2 : Nat) ^ 52 = 4503599627370496 := rfl
    omega
  · have e : (2 : Nat) ^ (52 + 1) = 9007199254740992 := rfl
    omega
theorem ld_2 {A D : Nat} (h1 : 4503599627370496 ≤ A) (h2 : A < 9007199254740992) (h3 : 4503599627370496 ≤ D) (h4 : D < 9007199254740992) : FP.Core.leading A D = if D ≤ A then 0 else -1 := by
  unfold FP.Core.leading
  rw [l2_52 h1 h2, l2_52 h3 h4]
  dsimp only
  rw [show (((52 : Nat) : Int) - ((52 : Nat) : Int)) = 0 by omega, show ((0 : Int)).toNat = 0 from rfl, show (-(0 : Int)).toNat = 0 from rfl, Nat.pow_zero, Nat.mul_one, Nat.mul_one]
  split
  · rfl
  · rfl
theorem st_1 {N : Nat} {q : Int} (h1 : N < 9007199254740992) (h3 : -200 ≤ q) (h4 : q ≤ 0) : FP.Core.settle FP.Core.b64 false N q = .fin false N q := by
  unfold FP.Core.settle FP.Core.bound
  rw [p_b, if_pos h1, m_b, if_pos (by omega)]
theorem st_2 {q : Int} (h3 : -200 ≤ q) (h4 : q ≤ 0) : FP.Core.settle FP.Core.b64 false 9007199254740992 q = .fin false 4503599627370496 (q + 1) := by
  unfold FP.Core.settle FP.Core.bound
  rw [p_b, if_neg (by omega), m_b, if_pos (by omega), t_b]
theorem st_e {N : Nat} {q : Int} {j : Nat} (h1 : 4503599627370496 ≤ N) (h2 : N ≤ 9007199254740992) (hq : q = -53 - j) (hj : j < 38) : ∃ c j', 4503599627370496 ≤ c ∧ c < 9007199254740992 ∧ j' < 40 ∧ FP.Core.settle FP.Core.b64 false N q = .fin false c (-52 - (j' : Nat)) := by
  by_cases c : N < 9007199254740992
  · exact ⟨N, j + 1, h1, c, by omega, by rw [st_1 c (by omega) (by omega), hq, show (-53 : Int) - (j : Int) = -52 - ((j + 1 : Nat) : Int) by omega]⟩
  · have e : N = 9007199254740992 := by omega
    exact ⟨4503599627370496, j, by omega, by omega, by omega, by rw [e, st_2 (by omega) (by omega), hq, show (-53 : Int) - (j : Int) + 1 = -52 - (j : Int) by omega]⟩
theorem rr_d {A D i : Nat} (h1 : 4503599627370496 ≤ A) (h2 : A < 9007199254740992) (h3 : 4503599627370496 ≤ D) (h4 : D < 9007199254740992) (hi : i ≤ 36) (h0 : i = 0 → A ≤ D) : ∃ c j, 4503599627370496 ≤ c ∧ c < 9007199254740992 ∧ j < 40 ∧ FP.Core.roundRatio FP.Core.b64 false A D (-(i : Int)) = .fin false c (-52 - (j : Nat)) := by
  have hA : ¬ A = 0 := by omega
  have hD : 0 < D := by omega
  unfold FP.Core.roundRatio
  rw [if_neg hA]
  unfold FP.Core.quantum FP.Core.roundAt FP.Core.unitsNum FP.Core.unitsDen
  rw [ld_2 h1 h2 h3 h4, n_b, show ((FP.Core.b64.p : Int) - 1) = 52 from rfl]
  by_cases c : D ≤ A
  · rw [if_pos c, show max (-1074 : Int) (0 + -(i : Int) - 52) = -52 - i by omega, show (-(i : Int) - (-52 - (i : Int))).toNat = 52 by omega, show ((-52 : Int) - (i : Int) - -(i : Int)).toNat = 0 by omega, Nat.pow_zero, Nat.mul_one, show (2 : Nat) ^ 52 = 4503599627370496 from rfl]
    by_cases e : i = 0
    · have eq : A = D := by have := h0 e; omega
      subst eq
      have g := near_1 (a := 4503599627370496) hD
      rw [Nat.mul_comm] at g
      exact ⟨4503599627370496, 0, by omega, by omega, by omega, by rw [g, st_1 (by omega) (by omega) (by omega), e]⟩
    · have hb := nr_b (a := A * 4503599627370496) (b := D) (lo := 4503599627370496) (hi := 9007199254740992) hD (by omega) (by omega)
      obtain ⟨i, rfl⟩ : ∃ k, i = k + 1 := ⟨i - 1, by omega⟩
      exact st_e (j := i) hb.1 hb.2 (by omega) (by omega)
  · rw [if_neg c, show max (-1074 : Int) (-1 + -(i : Int) - 52) = -53 - i by omega, show (-(i : Int) - (-53 - (i : Int))).toNat = 53 by omega, show ((-53 : Int) - (i : Int) - -(i : Int)).toNat = 0 by omega, Nat.pow_zero, Nat.mul_one, show (2 : Nat) ^ 53 = 9007199254740992 from rfl]
    have hb := nr_b (a := A * 9007199254740992) (b := D) (lo := 4503599627370496) (hi := 9007199254740992) hD (by omega) (by omega)
    exact st_e (j := i) hb.1 hb.2 (by omega) (by omega)
theorem i2_d {h : Nat} (hh : h < 2147483648) : FP.i2d (nI h) = dv h 0 := by
  show UInt64.ofNat (FP.Core.encode FP.Core.b64 (FP.Core.round FP.Core.b64 (FP.Core.ofInt (nI h).toInt))) = _
  rw [qz_nI hh]
  unfold FP.Core.ofInt dv
  rw [decide_eq_false (show ¬ ((h : Int) < 0) by omega), Int.natAbs_natCast]
  rfl
theorem lz_le {h m : Nat} (h1 : 0 < h) (h2 : h ≤ m) : lz m ≤ lz h := by
  have : h.log2 ≤ m.log2 := by
    have e1 : 2 ^ h.log2 ≤ h := Nat.log2_self_le (by omega)
    have e2 : m < 2 ^ (m.log2 + 1) := Nat.lt_log2_self
    by_cases c : h.log2 ≤ m.log2
    · exact c
    · have := Nat.pow_le_pow_right (n := 2) (by omega) (show m.log2 + 1 ≤ h.log2 by omega)
      omega
  unfold lz
  omega
theorem lz_g {m : Nat} (h2 : m < 2147483648) (h0 : 0 < m) : 22 ≤ lz m := by
  have e1 : 2 ^ m.log2 ≤ m := Nat.log2_self_le (by omega)
  have : m.log2 ≤ 30 := by
    by_cases c : m.log2 ≤ 30
    · exact c
    · have h3 := Nat.pow_le_pow_right (n := 2) (by omega) (show 31 ≤ m.log2 by omega)
      have e : (2 : Nat) ^ 31 = 2147483648 := rfl
      omega
  unfold lz
  omega
theorem dv_d {h m : Nat} (h1 : 0 < h) (h2 : h ≤ m) (h3 : m < 2147483648) : ∃ c j, 4503599627370496 ≤ c ∧ c < 9007199254740992 ∧ j < 40 ∧ FP.ddiv (FP.i2d (nI h)) (FP.i2d (nI m)) = dv c (-52 - (j : Nat)) := by
  have g1 := (dv_D (n := h) (e := 0) (by omega) (by omega) (by omega)).1
  have g2 := (dv_D (n := m) (e := 0) (by omega) (by omega) (by omega)).1
  have b1 := lg_b (n := h) h1 (by omega)
  have b2 := lg_b (n := m) (by omega) (by omega)
  have l1 := lz_le h1 h2
  have l2 := lz_g h3 (by omega)
  have l3 : lz h ≤ 52 := by unfold lz; omega
  obtain ⟨c, j, r1, r2, r3, r4⟩ := rr_d (A := h * 2 ^ lz h) (D := m * 2 ^ lz m) (i := lz h - lz m) b1.2.1 b1.2.2 b2.2.1 b2.2.2 (by omega) (fun t => by
    rw [show lz h = lz m by omega]
    exact Nat.mul_le_mul_right _ h2)
  refine ⟨c, j, r1, r2, r3, ?_⟩
  show UInt64.ofNat (FP.Core.encode FP.Core.b64 (FP.Core.quotient FP.Core.b64 (FP.Core.decode FP.Core.b64 (FP.i2d (nI h)).toNat) (FP.Core.decode FP.Core.b64 (FP.i2d (nI m)).toNat))) = _
  rw [i2_d (by omega), i2_d h3, g1, g2]
  unfold nf
  rw [if_neg (by omega), if_neg (by omega)]
  have hD : ¬ m * 2 ^ lz m = 0 := by have := b2.2.1; omega
  show UInt64.ofNat (FP.Core.encode FP.Core.b64 (if m * 2 ^ lz m = 0 then (if h * 2 ^ lz h = 0 then FP.Core.Datum.nan else FP.Core.Datum.inf (false != false)) else FP.Core.roundRatio FP.Core.b64 (false != false) (h * 2 ^ lz h) (m * 2 ^ lz m) (0 - (lz h : Int) - (0 - (lz m : Int))))) = _
  rw [if_neg hD, show (0 : Int) - (lz h : Int) - (0 - (lz m : Int)) = -((lz h - lz m : Nat) : Int) by omega, show (false != false) = false from rfl, r4]
  unfold dv
  rw [rr_1 r2 (by omega) (by omega), nf_z r1 r2]
theorem dv_d0 {m : Nat} (h1 : 0 < m) (h3 : m < 2147483648) : FP.ddiv (FP.i2d (nI 0)) (FP.i2d (nI m)) = FP.dconst0 := by
  have g1 := (dv_D (n := 0) (e := 0) (by omega) (by omega) (by omega)).1
  have g2 := (dv_D (n := m) (e := 0) (by omega) (by omega) (by omega)).1
  have b2 := lg_b (n := m) (by omega) (by omega)
  show UInt64.ofNat (FP.Core.encode FP.Core.b64 (FP.Core.quotient FP.Core.b64 (FP.Core.decode FP.Core.b64 (FP.i2d (nI 0)).toNat) (FP.Core.decode FP.Core.b64 (FP.i2d (nI m)).toNat))) = _
  rw [i2_d (by omega), i2_d h3, g1, g2]
  unfold nf
  rw [if_pos rfl, if_neg (by omega)]
  have hD : ¬ m * 2 ^ lz m = 0 := by have := b2.2.1; omega
  show UInt64.ofNat (FP.Core.encode FP.Core.b64 (if m * 2 ^ lz m = 0 then (if (0 : Nat) = 0 then FP.Core.Datum.nan else FP.Core.Datum.inf (false != false)) else FP.Core.roundRatio FP.Core.b64 (false != false) 0 (m * 2 ^ lz m) (-1074 - (0 - (lz m : Int))))) = _
  rw [if_neg hD]
  unfold FP.Core.roundRatio
  rw [if_pos rfl]
  rfl
end QFS
