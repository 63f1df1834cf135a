/-! doubles (2): less one, against one -/
section QFQ
theorem lz_z {n : Nat} (h1 : 4503599627370496 ≤ n) (h2 : n < 9007199254740992) : lz n = 0 := by
  have h3 : n < 2 ^ (n.log2 + 1) := Nat.lt_log2_self
  have h4 : ¬ n.log2 ≤ 51 := fun t => by
    have h5 : (2 : Nat) ^ (n.log2 + 1) ≤ 2 ^ 52 := Nat.pow_le_pow_right (by omega) (by omega)
    have e : (2 : Nat) ^ 52 = 4503599627370496 := rfl
    omega
  unfold lz
  omega
theorem nf_z {n : Nat} {e : Int} (h1 : 4503599627370496 ≤ n) (h2 : n < 9007199254740992) : nf n e = .fin false n e := by
  unfold nf
  rw [if_neg (by omega), lz_z h1 h2, Nat.pow_zero, Nat.mul_one, show e - ((0 : Nat) : Int) = e by omega]
theorem c_1 : FP.Core.decode FP.Core.b64 (FP.dconst1).toNat = .fin false 4503599627370496 (-52) := rfl
/-- less one -/
theorem dv_m1 {n : Nat} (h1 : 4503599627370496 ≤ n) (h2 : n < 9007199254740992) : FP.dsub (dv n (-52)) FP.dconst1 = dv (n - 4503599627370496) (-52) := by
  have h := (dv_D (e := -52) h2 (by omega) (by omega)).1
  rw [nf_z h1 h2] at h
  show UInt64.ofNat (FP.Core.encode FP.Core.b64 (FP.Core.round FP.Core.b64 (FP.Core.exactSum (FP.Core.decode FP.Core.b64 (dv n (-52)).toNat) (FP.Core.negate (FP.Core.decode FP.Core.b64 (FP.dconst1).toNat))))) = _
  rw [h, c_1]
  have eu : FP.Core.sumUnits false n (-52) true 4503599627370496 (-52) (min (-52) (-52)) = ((n - 4503599627370496 : Nat) : Int) := by
    unfold FP.Core.sumUnits FP.Core.inUnits FP.Core.signed
    rw [if_neg (by decide), if_pos rfl, show ((-52 : Int) - min (-52) (-52)).toNat = 0 by omega, Nat.pow_zero, Nat.mul_one, Nat.mul_one]
    omega
  have es : FP.Core.sumSign false (!false) ((n - 4503599627370496 : Nat) : Int) = false := by
    unfold FP.Core.sumSign
    by_cases c : ((n - 4503599627370496 : Nat) : Int) = 0
    · rw [if_pos c]; rfl
    · rw [if_neg c]
      exact decide_eq_false (by omega)
  show UInt64.ofNat (FP.Core.encode FP.Core.b64 (FP.Core.roundRatio FP.Core.b64 (FP.Core.sumSign false (!false) (FP.Core.sumUnits false n (-52) true 4503599627370496 (-52) (min (-52) (-52)))) (FP.Core.sumUnits false n (-52) true 4503599627370496 (-52) (min (-52) (-52))).natAbs 1 (min (-52) (-52)))) = _
  rw [eu, es, Int.natAbs_natCast]
  rfl
/-- less zero -/
theorem dv_m0 {n : Nat} {e : Int} (h2 : n < 9007199254740992) (h3 : -1000 ≤ e) (h4 : e ≤ 900) : FP.dsub (dv n e) (FP.l2d (Int64.ofNat ((0 : Fin 2) : Nat))) = dv n e := by
  have h := (dv_D h2 h3 h4).1
  have c0 : FP.Core.decode FP.Core.b64 (FP.l2d (Int64.ofNat ((0 : Fin 2) : Nat))).toNat = .fin false 0 (-1074) := rfl
  show UInt64.ofNat (FP.Core.encode FP.Core.b64 (FP.Core.round FP.Core.b64 (FP.Core.exactSum (FP.Core.decode FP.Core.b64 (dv n e).toNat) (FP.Core.negate (FP.Core.decode FP.Core.b64 (FP.l2d (Int64.ofNat ((0 : Fin 2) : Nat))).toNat))))) = _
  rw [h, c0]
  have main : ∀ (c : Nat) (q : Int), -1074 ≤ q → FP.Core.round FP.Core.b64 (FP.Core.exactSum (.fin false c q) (FP.Core.negate (.fin false 0 (-1074)))) = FP.Core.roundRatio FP.Core.b64 false (c * 2 ^ (q + 1074).toNat) 1 (-1074) := by
    intro c q hq
    have em : min q (-1074) = -1074 := by omega
    have eu : FP.Core.sumUnits false c q true 0 (-1074) (-1074) = ((c * 2 ^ (q + 1074).toNat : Nat) : Int) := by
      unfold FP.Core.sumUnits FP.Core.inUnits FP.Core.signed
      rw [if_neg (by decide), if_pos rfl, Nat.zero_mul, show q - -1074 = q + 1074 by omega]
      omega
    have es : ∀ m : Nat, FP.Core.sumSign false (!false) (m : Int) = false := fun m => by
      unfold FP.Core.sumSign
      by_cases c : (m : Int) = 0
      · rw [if_pos c]; rfl
      · rw [if_neg c]
        exact decide_eq_false (by omega)
    show FP.Core.roundRatio FP.Core.b64 (FP.Core.sumSign false (!false) (FP.Core.sumUnits false c q true 0 (-1074) (min q (-1074)))) (FP.Core.sumUnits false c q true 0 (-1074) (min q (-1074))).natAbs 1 (min q (-1074)) = _
    rw [em, eu, es, Int.natAbs_natCast]
  unfold nf
  by_cases c : n = 0
  · rw [if_pos c, main _ _ (by omega), c, Nat.zero_mul]
    unfold dv
    rw [rq_0, rq_0]
  · have hb := lg_b (n := n) (by omega) h2
    have hl : lz n ≤ 52 := by unfold lz; omega
    rw [if_neg c, main _ _ (by omega), Nat.mul_assoc, ← Nat.pow_add, show lz n + (e - lz n + 1074).toNat = (e + 1074).toNat by omega]
    have g := dv_E (n := n) (j := (e + 1074).toNat) (e := e) h2 h3 h4
    rw [show e - ((e + 1074).toNat : Int) = -1074 by omega] at g
    exact g
theorem l_1 : FP.l2d (Int64.ofNat ((1 : Fin 2) : Nat)) = FP.dconst1 := rfl
theorem cq_i (a b : Int) : compare a b = if a < b then .lt else if a = b then .eq else .gt := rfl
theorem cq_l {a b : Int} (h : a < b) : compare a b = .lt := by rw [cq_i, if_pos h]
theorem cq_e {a b : Int} (h : a = b) : compare a b = .eq := by rw [cq_i, if_neg (by omega), if_pos h]
theorem cq_g {a b : Int} (h : b < a) : compare a b = .gt := by rw [cq_i, if_neg (by omega), if_neg (by omega)]
theorem cq_m {n m w : Nat} (hw : 0 < w) : compare ((n * w : Nat) : Int) ((m * w : Nat) : Int) = compare (n : Int) (m : Int) := by
  rcases Nat.lt_trichotomy n m with t | t | t
  · have t2 : n * w < m * w := Nat.mul_lt_mul_of_pos_right t hw
    rw [cq_l (show (n : Int) < m by omega), cq_l (show ((n * w : Nat) : Int) < ((m * w : Nat) : Int) by omega)]
  · subst t
    rw [cq_e rfl, cq_e rfl]
  · have t2 : m * w < n * w := Nat.mul_lt_mul_of_pos_right t hw
    rw [cq_g (show (m : Int) < n by omega), cq_g (show ((m * w : Nat) : Int) < ((n * w : Nat) : Int) by omega)]
/-- against one -/
theorem sg (c : Nat) : FP.Core.signed false c = (c : Int) := rfl
theorem dv_c1 {n : Nat} (h2 : n < 9007199254740992) : FP.dcmp (dv n (-52)) FP.dconst1 = some (compare (n : Int) 4503599627370496) := by
  have h := (dv_D (e := -52) h2 (by omega) (by omega)).1
  show FP.Core.order (FP.Core.decode FP.Core.b64 (dv n (-52)).toNat) (FP.Core.decode FP.Core.b64 (FP.dconst1).toNat) = _
  rw [h, c_1]
  unfold nf
  by_cases c : n = 0
  · rw [if_pos c]
    show some (compare (FP.Core.signed false (0 * 2 ^ (-1074 - min (-1074) (-52) : Int).toNat)) (FP.Core.signed false (4503599627370496 * 2 ^ (-52 - min (-1074) (-52) : Int).toNat))) = _
    rw [sg, sg, c, Nat.zero_mul]
    have hp : 0 < 2 ^ (-52 - min (-1074) (-52) : Int).toNat := Nat.pow_pos (by omega)
    generalize 2 ^ (-52 - min (-1074) (-52) : Int).toNat = w at hp
    have g := cq_m (n := 0) (m := 4503599627370496) hp
    rw [Nat.zero_mul] at g
    rw [g]
    rfl
  · rw [if_neg c]
    have em : min (-52 - (lz n : Int)) (-52) = -52 - lz n := by omega
    show some (compare (FP.Core.signed false (n * 2 ^ lz n * 2 ^ (-52 - (lz n : Int) - min (-52 - (lz n : Int)) (-52)).toNat)) (FP.Core.signed false (4503599627370496 * 2 ^ (-52 - min (-52 - (lz n : Int)) (-52)).toNat))) = _
    rw [sg, sg, em, show ((-52 : Int) - (lz n : Int) - (-52 - (lz n : Int))).toNat = 0 by omega, show ((-52 : Int) - (-52 - (lz n : Int))).toNat = lz n by omega, Nat.pow_zero, Nat.mul_one]
    have hp : 0 < 2 ^ lz n := Nat.pow_pos (by omega)
    generalize 2 ^ lz n = w at hp
    rw [cq_m hp]
    rfl
end QFQ
