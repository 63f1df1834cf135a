/-! doubles (p66): the share of hits, times all, is within one of the hits -/
section QFT
theorem nr_e {a b : Nat} (hb : 0 < b) : 2 * (FP.Core.nearest a b * b) ≤ 2 * a + b ∧ 2 * a ≤ 2 * (FP.Core.nearest a b * b) + b := by
  have e := Nat.div_add_mod a b
  have r := Nat.mod_lt a hb
  unfold FP.Core.nearest
  generalize a / b = z at e ⊢
  generalize a % b = w at e r ⊢
  have m1 : z * b = b * z := Nat.mul_comm _ _
  have m2 : (z + 1) * b = b * z + b := by rw [Nat.add_mul, Nat.one_mul, m1]
  split
  · omega
  · split
    · omega
    · rcases Nat.mod_two_eq_zero_or_one z with p | p
      · rw [p, Nat.add_zero]
        omega
      · rw [p]
        omega
theorem rr_e {A D i : Nat} (h1 : 4503599627370496 ≤ A) (h2 : A < 9007199254740992) (h3 : 4503599627370496 ≤ D) (h4 : D < 9007199254740992) (hi : i ≤ 36) (h0 : i = 0 → A ≤ D) : ∃ c j, 4503599627370496 ≤ c ∧ c < 9007199254740992 ∧ j < 40 ∧ FP.Core.roundRatio FP.Core.b64 false A D (-(i : Int)) = .fin false c (-52 - (j : Nat)) ∧ 2 * (c * (D * 2 ^ i)) ≤ 2 * (A * 2 ^ (52 + j)) + D * 2 ^ i ∧ 2 * (A * 2 ^ (52 + j)) ≤ 2 * (c * (D * 2 ^ i)) + D * 2 ^ i := by
  have hA : ¬ A = 0 := by omega
  have hD : 0 < D := by omega
  have up : ∀ {N K j : Nat}, 2 * (N * D) ≤ 2 * (A * 2 ^ K) + D → 2 * (A * 2 ^ K) ≤ 2 * (N * D) + D → 2 * (N * (D * 2 ^ j)) ≤ 2 * (A * 2 ^ (K + j)) + D * 2 ^ j ∧ 2 * (A * 2 ^ (K + j)) ≤ 2 * (N * (D * 2 ^ j)) + D * 2 ^ j := fun {N K j} u1 u2 => by
    have v1 := Nat.mul_le_mul_right (2 ^ j) u1
    have v2 := Nat.mul_le_mul_right (2 ^ j) u2
    have e1 : 2 * (N * D) * 2 ^ j = 2 * (N * (D * 2 ^ j)) := by rw [Nat.mul_assoc, Nat.mul_assoc]
    have e2 : (2 * (A * 2 ^ K) + D) * 2 ^ j = 2 * (A * 2 ^ (K + j)) + D * 2 ^ j := by rw [Nat.add_mul, Nat.mul_assoc, Nat.mul_assoc, ← Nat.pow_add]
    have e3 : 2 * (A * 2 ^ K) * 2 ^ j = 2 * (A * 2 ^ (K + j)) := by rw [Nat.mul_assoc, Nat.mul_assoc, ← Nat.pow_add]
    have e4 : (2 * (N * D) + D) * 2 ^ j = 2 * (N * (D * 2 ^ j)) + D * 2 ^ j := by rw [Nat.add_mul, Nat.mul_assoc, Nat.mul_assoc]
    rw [e1, e2] at v1
    rw [e3, e4] at v2
    exact ⟨v1, v2⟩
  have p52 : (2 : Nat) ^ 52 = 4503599627370496 := rfl
  have p53 : (2 : Nat) ^ 53 = 9007199254740992 := rfl
  unfold FP.Core.roundRatio
  rw [if_neg hA]
  unfold FP.Core.quantum FP.Core.roundAt FP.Core.unitsNum FP.Core.unitsDen
  rw [ld_2 h1 h2 h3 h4, n_b, show ((FP.Core.b64.p : Int) - 1) = 52 from rfl]
  by_cases c : D ≤ A
  · rw [if_pos c, show max (-1074 : Int) (0 + -(i : Int) - 52) = -52 - i by omega, show (-(i : Int) - (-52 - (i : Int))).toNat = 52 by omega, show ((-52 : Int) - (i : Int) - -(i : Int)).toNat = 0 by omega, Nat.pow_zero, Nat.mul_one]
    have ne := nr_e (a := A * 2 ^ 52) hD
    have hb := nr_b (a := A * 2 ^ 52) (b := D) (lo := 4503599627370496) (hi := 9007199254740992) hD (by rw [p52]; omega) (by rw [p52]; omega)
    generalize FP.Core.nearest (A * 2 ^ 52) D = N at ne hb ⊢
    by_cases d : N < 9007199254740992
    · have u := up (j := i) ne.1 ne.2
      exact ⟨N, i, hb.1, d, by omega, by rw [st_1 d (by omega) (by omega)], u.1, u.2⟩
    · have e : N = 9007199254740992 := by omega
      have i0 : ¬ i = 0 := fun t => by
        have := h0 t
        have e2 : A = D := by omega
        rw [e, p52, e2] at ne
        omega
      obtain ⟨i, rfl⟩ : ∃ k, i = k + 1 := ⟨i - 1, by omega⟩
      have u := up (j := i) ne.1 ne.2
      rw [e] at u
      have y : D * 2 ^ (i + 1) = D * 2 ^ i * 2 := by rw [Nat.pow_succ, Nat.mul_assoc]
      refine ⟨4503599627370496, i, by omega, by omega, by omega, by rw [e, st_2 (by omega) (by omega), show (-52 : Int) - ((i + 1 : Nat) : Int) + 1 = -52 - (i : Int) by omega], ?_, ?_⟩
      · rw [y]; omega
      · rw [y]; omega
  · rw [if_neg c, show max (-1074 : Int) (-1 + -(i : Int) - 52) = -53 - i by omega, show (-(i : Int) - (-53 - (i : Int))).toNat = 53 by omega, show ((-53 : Int) - (i : Int) - -(i : Int)).toNat = 0 by omega, Nat.pow_zero, Nat.mul_one]
    have ne := nr_e (a := A * 2 ^ 53) hD
    have hb := nr_b (a := A * 2 ^ 53) (b := D) (lo := 4503599627370496) (hi := 9007199254740992) hD (by rw [p53]; omega) (by rw [p53]; omega)
    generalize FP.Core.nearest (A * 2 ^ 53) D = N at ne hb ⊢
    have u := up (j := i) ne.1 ne.2
    by_cases d : N < 9007199254740992
    · refine ⟨N, i + 1, hb.1, d, by omega, by rw [st_1 d (by omega) (by omega), show (-53 : Int) - (i : Int) = -52 - ((i + 1 : Nat) : Int) by omega], ?_, ?_⟩
      · rw [show 52 + (i + 1) = 53 + i by omega]; exact u.1
      · rw [show 52 + (i + 1) = 53 + i by omega]; exact u.2
    · have e : N = 9007199254740992 := by omega
      rw [e] at u
      have y : A * 2 ^ (53 + i) = A * 2 ^ (52 + i) * 2 := by rw [show 53 + i = 52 + i + 1 by omega, Nat.pow_succ, Nat.mul_assoc]
      rw [y] at u
      refine ⟨4503599627370496, i, by omega, by omega, by omega, by rw [e, st_2 (by omega) (by omega), show (-53 : Int) - (i : Int) + 1 = -52 - (i : Int) by omega], ?_, ?_⟩
      · omega
      · omega
theorem dv_e {h m : Nat} (h1 : 0 < h) (h2 : h ≤ m) (h3 : m < 2147483648) : ∃ c j, 4503599627370496 ≤ c ∧ c < 9007199254740992 ∧ j < 40 ∧ FP.ddiv (FP.i2d (nI h)) (FP.i2d (nI m)) = dv c (-52 - (j : Nat)) ∧ 2 * (c * m) ≤ 2 * (h * 2 ^ (52 + j)) + m ∧ 2 * (h * 2 ^ (52 + j)) ≤ 2 * (c * m) + m := by
  have g1 := (dv_D (n := h) (e := 0) (by omega) (by omega) (by omega)).1
  have g2 := (dv_D (n := m) (e := 0) (by omega) (by omega) (by omega)).1
  have b1 := lg_b (n := h) h1 (by omega)
  have b2 := lg_b (n := m) (by omega) (by omega)
  have l1 := lz_le h1 h2
  have l2 := lz_g h3 (by omega)
  have l3 : lz h ≤ 52 := by unfold lz; omega
  obtain ⟨c, j, r1, r2, r3, r4, r5, r6⟩ := rr_e (A := h * 2 ^ lz h) (D := m * 2 ^ lz m) (i := lz h - lz m) b1.2.1 b1.2.2 b2.2.1 b2.2.2 (by omega) (fun t => by
    rw [show lz h = lz m by omega]
    exact Nat.mul_le_mul_right _ h2)
  have hw : 0 < 2 ^ lz h := Nat.pow_pos (by omega)
  have eD : m * 2 ^ lz m * 2 ^ (lz h - lz m) = m * 2 ^ lz h := by
    rw [Nat.mul_assoc, ← Nat.pow_add, show lz m + (lz h - lz m) = lz h by omega]
  have eA : h * 2 ^ lz h * 2 ^ (52 + j) = h * 2 ^ (52 + j) * 2 ^ lz h := by
    rw [Nat.mul_assoc, Nat.mul_comm (2 ^ lz h), ← Nat.mul_assoc]
  rw [eD, eA] at r5 r6
  have q1 : (2 * (c * m)) * 2 ^ lz h ≤ (2 * (h * 2 ^ (52 + j)) + m) * 2 ^ lz h := by
    rw [Nat.add_mul, Nat.mul_assoc, Nat.mul_assoc, Nat.mul_assoc 2 (h * 2 ^ (52 + j))]
    exact r5
  have q2 : (2 * (h * 2 ^ (52 + j))) * 2 ^ lz h ≤ (2 * (c * m) + m) * 2 ^ lz h := by
    rw [Nat.add_mul, Nat.mul_assoc, Nat.mul_assoc 2 (c * m), Nat.mul_assoc c]
    exact r6
  refine ⟨c, j, r1, r2, r3, ?_, Nat.le_of_mul_le_mul_right q1 hw, Nat.le_of_mul_le_mul_right q2 hw⟩
  show UInt64.ofNat (FP.Core.encode FP.Core.b64 (FP.Core.quotient FP.Core.b64 (FP.Core.decode FP.Core.b64 (FP.i2d (nI h)).toNat) (FP.Core.decode FP.Core.b64 (FP.i2d (nI m)).toNat))) = _
  rw [i2_d (by omega), i2_d h3, g1, g2]
  unfold nf
  rw [if_neg (by omega), if_neg (by omega)]
  have hD : ¬ m * 2 ^ lz m = 0 := by have := b2.2.1; omega
  show UInt64.ofNat (FP.Core.encode FP.Core.b64 (if m * 2 ^ lz m = 0 then (if h * 2 ^ lz h = 0 then FP.Core.Datum.nan else FP.Core.Datum.inf (false != false)) else FP.Core.roundRatio FP.Core.b64 (false != false) (h * 2 ^ lz h) (m * 2 ^ lz m) (0 - (lz h : Int) - (0 - (lz m : Int))))) = _
  rw [if_neg hD, show (0 : Int) - (lz h : Int) - (0 - (lz m : Int)) = -((lz h - lz m : Nat) : Int) by omega, show (false != false) = false from rfl, r4]
  unfold dv
  rw [rr_1 r2 (by omega) (by omega), nf_z r1 r2]
theorem mu_L {P L T : Nat} (hP : 0 < P) (hL : P.log2 = L) (h1 : 104 ≤ L) (h2 : L ≤ 105) (hT : 74 ≤ T) (hT2 : T ≤ 200) : ∃ c k, 4503599627370496 ≤ c ∧ c < 9007199254740992 ∧ k ≤ T ∧ FP.Core.roundRatio FP.Core.b64 false P 1 (-(T : Int)) = .fin false c (-(k : Int)) ∧ c * 2 ^ (T - k) ≤ P + 4503599627370496 ∧ P ≤ c * 2 ^ (T - k) + 4503599627370496 := by
  have p52 : (2 : Nat) ^ 52 = 4503599627370496 := rfl
  have p53 : (2 : Nat) ^ 53 = 9007199254740992 := rfl
  have hb0 : 0 < 2 ^ (L - 52) := Nat.pow_pos (by omega)
  have hbm : (2 : Nat) ^ (L - 52) ≤ 2 ^ 53 := Nat.pow_le_pow_right (by omega) (by omega)
  have lo : 4503599627370496 * 2 ^ (L - 52) ≤ P := by
    rw [← p52, ← Nat.pow_add, show 52 + (L - 52) = L by omega, ← hL]
    exact Nat.log2_self_le (by omega)
  have hi : P < 9007199254740992 * 2 ^ (L - 52) := by
    rw [← p53, ← Nat.pow_add, show 53 + (L - 52) = L + 1 by omega, ← hL]
    exact Nat.lt_log2_self
  have ne := nr_e (a := P) hb0
  have hb := nr_b hb0 lo hi
  unfold FP.Core.roundRatio
  rw [if_neg (by omega)]
  unfold FP.Core.quantum FP.Core.roundAt FP.Core.unitsNum FP.Core.unitsDen
  rw [lead_1 hP, hL, n_b, show ((FP.Core.b64.p : Int) - 1) = 52 from rfl, show max (-1074 : Int) ((L : Int) + -(T : Int) - 52) = (L : Int) - T - 52 by omega, show (-(T : Int) - ((L : Int) - T - 52)).toNat = 0 by omega, show ((L : Int) - T - 52 - -(T : Int)).toNat = L - 52 by omega, Nat.pow_zero, Nat.mul_one, Nat.one_mul]
  generalize FP.Core.nearest P (2 ^ (L - 52)) = N at ne hb ⊢
  rw [p53] at hbm
  by_cases d : N < 9007199254740992
  · refine ⟨N, T + 52 - L, hb.1, d, by omega, by rw [st_1 d (by omega) (by omega), show (L : Int) - T - 52 = -((T + 52 - L : Nat) : Int) by omega], ?_, ?_⟩
    · rw [show T - (T + 52 - L) = L - 52 by omega]; omega
    · rw [show T - (T + 52 - L) = L - 52 by omega]; omega
  · have e : N = 9007199254740992 := by omega
    rw [e] at ne
    refine ⟨4503599627370496, T + 51 - L, by omega, by omega, by omega, by rw [e, st_2 (by omega) (by omega), show (L : Int) - T - 52 + 1 = -((T + 51 - L : Nat) : Int) by omega], ?_, ?_⟩
    · rw [show T - (T + 51 - L) = L - 52 + 1 by omega, Nat.pow_succ]; omega
    · rw [show T - (T + 51 - L) = L - 52 + 1 by omega, Nat.pow_succ]; omega
theorem l2_104 {P : Nat} (h1 : 20282409603651670423947251286016 ≤ P) (h2 : P < 81129638414606681695789005144064) : P.log2 = 104 ∨ P.log2 = 105 := by
  have e4 : (2 : Nat) ^ 104 = 20282409603651670423947251286016 := rfl
  have e5 : (2 : Nat) ^ (104 + 1) = 40564819207303340847894502572032 := rfl
  have e6 : (2 : Nat) ^ (105 + 1) = 81129638414606681695789005144064 := rfl
  by_cases c : P < 40564819207303340847894502572032
  · exact Or.inl ((Nat.log2_eq_iff (by omega)).mpr ⟨by rw [e4]; exact h1, by rw [e5]; exact c⟩)
  · exact Or.inr ((Nat.log2_eq_iff (by omega)).mpr ⟨by rw [show (105 : Nat) = 104 + 1 from rfl, e5]; omega, by rw [e6]; exact h2⟩)
/-- the share, times all -/
theorem sh_m {h m : Nat} (h1 : 0 < h) (h2 : h ≤ m) (h3 : m < 2147483648) : qa_nn (FP.ddiv (FP.i2d (nI h)) (FP.i2d (nI m))) ∧ ∃ c k : Nat, 4503599627370496 ≤ c ∧ c < 9007199254740992 ∧ k ≤ 200 ∧ FP.dmul (FP.ddiv (FP.i2d (nI h)) (FP.i2d (nI m))) (FP.i2d (nI m)) = dv c (-(k : Int)) ∧ (h - 1) * 2 ^ k < c ∧ c < (h + 1) * 2 ^ k := by
  obtain ⟨c, j, r1, r2, r3, r4, r5, r6⟩ := dv_e h1 h2 h3
  have b2 := lg_b (n := m) (by omega) (by omega)
  have l2 := lz_g h3 (by omega)
  have l3 : lz m ≤ 52 := by unfold lz; omega
  refine ⟨by rw [r4]; exact dv_nn r2 (by omega) (by omega), ?_⟩
  have hw : 0 < 2 ^ lz m := Nat.pow_pos (by omega)
  -- the exact product
  have hP1 : 4503599627370496 * 4503599627370496 ≤ c * (m * 2 ^ lz m) := Nat.mul_le_mul r1 b2.2.1
  have hP2 : c * (m * 2 ^ lz m) < 9007199254740992 * 9007199254740992 := Nat.mul_lt_mul_of_lt_of_le r2 (by omega) (by omega)
  have eP : c * (m * 2 ^ lz m) = c * m * 2 ^ lz m := by rw [Nat.mul_assoc]
  have eH : h * 2 ^ (52 + j + lz m) = h * 2 ^ (52 + j) * 2 ^ lz m := by rw [Nat.pow_add, Nat.mul_assoc]
  have s5 := Nat.mul_le_mul_right (2 ^ lz m) r5
  have s6 := Nat.mul_le_mul_right (2 ^ lz m) r6
  rw [Nat.add_mul, Nat.mul_assoc, Nat.mul_assoc 2 (h * 2 ^ (52 + j)), ← eP, ← eH] at s5
  rw [Nat.add_mul, Nat.mul_assoc, Nat.mul_assoc 2 (c * m), ← eP, ← eH] at s6
  obtain ⟨L, hL, hL1, hL2⟩ : ∃ L, (c * (m * 2 ^ lz m)).log2 = L ∧ 104 ≤ L ∧ L ≤ 105 := by
    rcases l2_104 (P := c * (m * 2 ^ lz m)) (by omega) (by omega) with e | e
    · exact ⟨104, e, by omega, by omega⟩
    · exact ⟨105, e, by omega, by omega⟩
  obtain ⟨c2, k, u1, u2, u3, u4, u5, u6⟩ := mu_L (T := 52 + j + lz m) (by omega) hL hL1 hL2 (by omega) (by omega)
  have hw2 : 0 < 2 ^ (52 + j + lz m - k) := Nat.pow_pos (by omega)
  have hT : (2 : Nat) ^ 54 ≤ 2 ^ (52 + j + lz m) := Nat.pow_le_pow_right (by omega) (by omega)
  have p54 : (2 : Nat) ^ 54 = 18014398509481984 := rfl
  have b22 := b2.2.2
  have eT : (2 : Nat) ^ (52 + j + lz m) = 2 ^ k * 2 ^ (52 + j + lz m - k) := by rw [← Nat.pow_add, show k + (52 + j + lz m - k) = 52 + j + lz m by omega]
  refine ⟨c2, k, u1, u2, by omega, ?_, ?_, ?_⟩
  · have d1 := (dv_D (n := c) (e := -52 - (j : Nat)) r2 (by omega) (by omega)).1
    have d2 := (dv_D (n := m) (e := 0) (by omega) (by omega) (by omega)).1
    rw [nf_z r1 r2] at d1
    show UInt64.ofNat (FP.Core.encode FP.Core.b64 (FP.Core.round FP.Core.b64 (FP.Core.exactProduct (FP.Core.decode FP.Core.b64 (FP.ddiv (FP.i2d (nI h)) (FP.i2d (nI m))).toNat) (FP.Core.decode FP.Core.b64 (FP.i2d (nI m)).toNat)))) = _
    rw [r4, i2_d h3, d1, d2]
    unfold nf
    rw [if_neg (by omega)]
    show UInt64.ofNat (FP.Core.encode FP.Core.b64 (FP.Core.roundRatio FP.Core.b64 (false != false) (c * (m * 2 ^ lz m)) 1 (-52 - (j : Nat) + (0 - (lz m : Int))))) = _
    rw [show (-52 : Int) - (j : Nat) + (0 - (lz m : Int)) = -((52 + j + lz m : Nat) : Int) by omega, show (false != false) = false from rfl, u4]
    unfold dv
    rw [rr_1 u2 (by omega) (by omega), nf_z u1 u2]
  · refine Nat.lt_of_mul_lt_mul_right (a := 2 ^ (52 + j + lz m - k)) ?_
    rw [Nat.mul_assoc, ← eT, Nat.sub_mul, Nat.one_mul]
    generalize 2 ^ (52 + j + lz m) = W at *
    omega
  · refine Nat.lt_of_mul_lt_mul_right (a := 2 ^ (52 + j + lz m - k)) ?_
    rw [Nat.mul_assoc, ← eT, Nat.add_mul, Nat.one_mul]
    generalize 2 ^ (52 + j + lz m) = W at *
    omega
theorem dv_cmp {c n k : Nat} (h1 : 4503599627370496 ≤ c) (h2 : c < 9007199254740992) (hk : k ≤ 200) (hn : n < 9007199254740992) : FP.dcmp (dv c (-(k : Int))) (dv n 0) = some (compare (c : Int) ((n * 2 ^ k : Nat) : Int)) := by
  have d1 := (dv_D (n := c) (e := -(k : Int)) h2 (by omega) (by omega)).1
  have d2 := (dv_D (n := n) (e := 0) hn (by omega) (by omega)).1
  rw [nf_z h1 h2] at d1
  show FP.Core.order (FP.Core.decode FP.Core.b64 (dv c (-(k : Int))).toNat) (FP.Core.decode FP.Core.b64 (dv n 0).toNat) = _
  rw [d1, d2]
  unfold nf
  by_cases e : n = 0
  · rw [if_pos e]
    show some (compare (FP.Core.signed false (c * 2 ^ (-(k : Int) - min (-(k : Int)) (-1074)).toNat)) (FP.Core.signed false (0 * 2 ^ (-1074 - min (-(k : Int)) (-1074)).toNat))) = _
    rw [sg, sg, Nat.zero_mul, e, Nat.zero_mul]
    have hp : 0 < 2 ^ (-(k : Int) - min (-(k : Int)) (-1074)).toNat := Nat.pow_pos (by omega)
    generalize 2 ^ (-(k : Int) - min (-(k : Int)) (-1074)).toNat = w at hp
    have : 0 < c * w := Nat.mul_pos (by omega) hp
    rw [cq_g (by omega), cq_g (by omega)]
  · rw [if_neg e]
    show some (compare (FP.Core.signed false (c * 2 ^ (-(k : Int) - min (-(k : Int)) (0 - (lz n : Int))).toNat)) (FP.Core.signed false (n * 2 ^ lz n * 2 ^ (0 - (lz n : Int) - min (-(k : Int)) (0 - (lz n : Int))).toNat))) = _
    rw [sg, sg]
    by_cases d : lz n ≤ k
    · rw [show (-(k : Int) - min (-(k : Int)) (0 - (lz n : Int))).toNat = 0 by omega, show ((0 : Int) - (lz n : Int) - min (-(k : Int)) (0 - (lz n : Int))).toNat = k - lz n by omega, Nat.pow_zero, Nat.mul_one, Nat.mul_assoc, ← Nat.pow_add, show lz n + (k - lz n) = k by omega]
    · rw [show (-(k : Int) - min (-(k : Int)) (0 - (lz n : Int))).toNat = lz n - k by omega, show ((0 : Int) - (lz n : Int) - min (-(k : Int)) (0 - (lz n : Int))).toNat = 0 by omega, Nat.pow_zero, Nat.mul_one]
      have e2 : n * 2 ^ lz n = n * 2 ^ k * 2 ^ (lz n - k) := by rw [Nat.mul_assoc, ← Nat.pow_add, show k + (lz n - k) = lz n by omega]
      rw [e2, cq_m (Nat.pow_pos (by omega))]
end QFT
