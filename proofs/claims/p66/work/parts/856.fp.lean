/-! doubles (2): rows of whole -/
section QFQ
theorem lz_z {n : Nat} (h1 : 4503599627370496 ≤ n) (h2 : n < 9007199254740992) : lz n = 0 := by
  have h3 : n < 2 ^ (n.log2 + 1) := Nat.lt_log2_self
  have h4 : ¬ n.log2 ≤ 51 := fun t => by
    have h5 : (2 : Nat) ^ (n.log2 + 1) ≤ 2 ^ 52 := Nat.pow_le_pow_right (by omega) (by omega)
    have e : (2 : Nat) ^ 52 = 4503599627370496 := rfl
    omega
  unfold lz
  omega
theorem nf_z {n : Nat} {e : Int} (h1 : 4503599627370496 ≤ n) (h2 : n < 9007199254740992) : nf n e = .fin false n e := by
  unfold nf
  rw [if_neg (by omega), lz_z h1 h2, Nat.pow_zero, Nat.mul_one, show e - ((0 : Nat) : Int) = e by omega]
theorem c_1 : FP.Core.decode FP.Core.b64 (FP.dconst1).toNat = .fin false 4503599627370496 (-52) := rfl
theorem cq_i (a b : Int) : compare a b = if a < b then .lt else if a = b then .eq else .gt := rfl
theorem cq_l {a b : Int} (h : a < b) : compare a b = .lt := by rw [cq_i, if_pos h]
theorem cq_e {a b : Int} (h : a = b) : compare a b = .eq := by rw [cq_i, if_neg (by omega), if_pos h]
theorem cq_g {a b : Int} (h : b < a) : compare a b = .gt := by rw [cq_i, if_neg (by omega), if_neg (by omega)]
theorem cq_m {n m w : Nat} (hw : 0 < w) : compare ((n * w : Nat) : Int) ((m * w : Nat) : Int) = compare (n : Int) (m : Int) := by
  rcases Nat.lt_trichotomy n m with t | t | t
  · have t2 : n * w < m * w := Nat.mul_lt_mul_of_pos_right t hw
    rw [cq_l (show (n : Int) < m by omega), cq_l (show ((n * w : Nat) : Int) < ((m * w : Nat) : Int) by omega)]
  · subst t
    rw [cq_e rfl, cq_e rfl]
  · have t2 : m * w < n * w := Nat.mul_lt_mul_of_pos_right t hw
    rw [cq_g (show (m : Int) < n by omega), cq_g (show ((m * w : Nat) : Int) < ((n * w : Nat) : Int) by omega)]
theorem sg (c : Nat) : FP.Core.signed false c = (c : Int) := rfl
end QFQ
section QFS
theorem nr_b {a b lo hi : Nat} (hb : 0 < b) (h1 : lo * b ≤ a) (h2 : a < hi * b) : lo ≤ FP.Core.nearest a b ∧ FP.Core.nearest a b ≤ hi := by
  have d1 : lo ≤ a / b := (Nat.le_div_iff_mul_le hb).mpr h1
  have d2 : a / b < hi := (Nat.div_lt_iff_lt_mul hb).mpr h2
  have d3 : a / b % 2 ≤ 1 := by
    have := Nat.mod_lt (a / b) (show 0 < 2 by omega)
    omega
  unfold FP.Core.nearest
  generalize a / b % 2 = w at d3 ⊢
  generalize a / b = z at d1 d2 ⊢
  split
  · exact ⟨d1, by omega⟩
  · split
    · exact ⟨by omega, by omega⟩
    · exact ⟨by omega, by omega⟩
theorem l2_52 {A : Nat} (h1 : 4503599627370496 ≤ A) (h2 : A < 9007199254740992) : A.log2 = 52 := by
  refine (Nat.log2_eq_iff (by omega)).mpr ⟨?_, ?_⟩
  · have e : (2 : Nat) ^ 52 = 4503599627370496 := rfl
    omega
  · have e : (2 : Nat) ^ (52 + 1) = 9007199254740992 := rfl
    omega
theorem ld_2 {A D : Nat} (h1 : 4503599627370496 ≤ A) (h2 : A < 9007199254740992) (h3 : 4503599627370496 ≤ D) (h4 : D < 9007199254740992) : FP.Core.leading A D = if D ≤ A then 0 else -1 := by
  unfold FP.Core.leading
  rw [l2_52 h1 h2, l2_52 h3 h4]
  dsimp only
  rw [show (((52 : Nat) : Int) - ((52 : Nat) : Int)) = 0 by omega, show ((0 : Int)).toNat = 0 from rfl, show (-(0 : Int)).toNat = 0 from rfl, Nat.pow_zero, Nat.mul_one, Nat.mul_one]
  split
  · rfl
  · rfl
theorem st_1 {N : Nat} {q : Int} (h1 : N < 9007199254740992) (h3 : -200 ≤ q) (h4 : q ≤ 0) : FP.Core.settle FP.Core.b64 false N q = .fin false N q := by
  unfold FP.Core.settle FP.Core.bound
  rw [p_b, if_pos h1, m_b, if_pos (by omega)]
theorem st_2 {q : Int} (h3 : -200 ≤ q) (h4 : q ≤ 0) : FP.Core.settle FP.Core.b64 false 9007199254740992 q = .fin false 4503599627370496 (q + 1) := by
  unfold FP.Core.settle FP.Core.bound
  rw [p_b, if_neg (by omega), m_b, if_pos (by omega), t_b]
theorem i2_d {h : Nat} (hh : h < 2147483648) : FP.i2d (nI h) = dv h 0 := by
  show UInt64.ofNat (FP.Core.encode FP.Core.b64 (FP.Core.round FP.Core.b64 (FP.Core.ofInt (nI h).toInt))) = _
  rw [qz_nI hh]
  unfold FP.Core.ofInt dv
  rw [decide_eq_false (show ¬ ((h : Int) < 0) by omega), Int.natAbs_natCast]
  rfl
theorem lz_le {h m : Nat} (h1 : 0 < h) (h2 : h ≤ m) : lz m ≤ lz h := by
  have : h.log2 ≤ m.log2 := by
    have e1 : 2 ^ h.log2 ≤ h := Nat.log2_self_le (by omega)
    have e2 : m < 2 ^ (m.log2 + 1) := Nat.lt_log2_self
    by_cases c : h.log2 ≤ m.log2
    · exact c
    · have := Nat.pow_le_pow_right (n := 2) (by omega) (show m.log2 + 1 ≤ h.log2 by omega)
      omega
  unfold lz
  omega
theorem lz_g {m : Nat} (h2 : m < 2147483648) (h0 : 0 < m) : 22 ≤ lz m := by
  have e1 : 2 ^ m.log2 ≤ m := Nat.log2_self_le (by omega)
  have : m.log2 ≤ 30 := by
    by_cases c : m.log2 ≤ 30
    · exact c
    · have h3 := Nat.pow_le_pow_right (n := 2) (by omega) (show 31 ≤ m.log2 by omega)
      have e : (2 : Nat) ^ 31 = 2147483648 := rfl
      omega
  unfold lz
  omega
theorem dv_d0 {m : Nat} (h1 : 0 < m) (h3 : m < 2147483648) : FP.ddiv (FP.i2d (nI 0)) (FP.i2d (nI m)) = FP.dconst0 := by
  have g1 := (dv_D (n := 0) (e := 0) (by omega) (by omega) (by omega)).1
  have g2 := (dv_D (n := m) (e := 0) (by omega) (by omega) (by omega)).1
  have b2 := lg_b (n := m) (by omega) (by omega)
  show UInt64.ofNat (FP.Core.encode FP.Core.b64 (FP.Core.quotient FP.Core.b64 (FP.Core.decode FP.Core.b64 (FP.i2d (nI 0)).toNat) (FP.Core.decode FP.Core.b64 (FP.i2d (nI m)).toNat))) = _
  rw [i2_d (by omega), i2_d h3, g1, g2]
  unfold nf
  rw [if_pos rfl, if_neg (by omega)]
  have hD : ¬ m * 2 ^ lz m = 0 := by have := b2.2.1; omega
  show UInt64.ofNat (FP.Core.encode FP.Core.b64 (if m * 2 ^ lz m = 0 then (if (0 : Nat) = 0 then FP.Core.Datum.nan else FP.Core.Datum.inf (false != false)) else FP.Core.roundRatio FP.Core.b64 (false != false) 0 (m * 2 ^ lz m) (-1074 - (0 - (lz m : Int))))) = _
  rw [if_neg hD]
  unfold FP.Core.roundRatio
  rw [if_pos rfl]
  rfl
end QFS
