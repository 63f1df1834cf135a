/-! doubles: exact ones -/
section QFP
theorem t_b : FP.Core.b64.tails = 4503599627370496 := rfl
theorem x_b : FP.Core.b64.exps = 2048 := rfl
theorem n_b : FP.Core.b64.qmin = -1074 := rfl
theorem m_b : FP.Core.b64.qmax = 971 := rfl
theorem p_b : (2 : Nat) ^ FP.Core.b64.p = 9007199254740992 := rfl
theorem enc_n {c : Nat} {q : Int} (h1 : 4503599627370496 ≤ c) : FP.Core.encode FP.Core.b64 (.fin false c q) = ((q + 1074).toNat + 1) * 4503599627370496 + (c - 4503599627370496) := by
  unfold FP.Core.encode FP.Core.assemble
  rw [t_b, x_b, n_b]
  dsimp only
  rw [if_neg (by omega), show q - -1074 = q + 1074 by omega]
  show (0 * 2048 + ((q + 1074).toNat + 1)) * 4503599627370496 + _ = _
  omega
theorem dec_n {c : Nat} {q : Int} (h1 : 4503599627370496 ≤ c) (h2 : c < 9007199254740992) (h3 : -1074 ≤ q) (h4 : q ≤ 971) : FP.Core.decode FP.Core.b64 (((q + 1074).toNat + 1) * 4503599627370496 + (c - 4503599627370496)) = .fin false c q := by
  obtain ⟨e, he⟩ : ∃ e : Nat, e = (q + 1074).toNat + 1 := ⟨_, rfl⟩
  rw [← he]
  have hd : (e * 4503599627370496 + (c - 4503599627370496)) / 4503599627370496 = e := by omega
  have hm : (e * 4503599627370496 + (c - 4503599627370496)) % 4503599627370496 = c - 4503599627370496 := by omega
  unfold FP.Core.decode FP.Core.fieldE FP.Core.fieldT FP.Core.fieldS
  rw [t_b, x_b, n_b, hd, hm, show e % 2048 = e by omega, show e / 2048 = 0 by omega, if_neg (by omega), if_neg (by omega), show 4503599627370496 + (c - 4503599627370496) = c by omega, show (-1074 : Int) + ((e : Int) - 1) = q by omega]
  rfl
def dd (c : Nat) (q : Int) : UInt64 := UInt64.ofNat (FP.Core.encode FP.Core.b64 (.fin false c q))
theorem dd_n {c : Nat} {q : Int} (h1 : 4503599627370496 ≤ c) (h2 : c < 9007199254740992) (h3 : -1074 ≤ q) (h4 : q ≤ 971) : (dd c q).toNat = ((q + 1074).toNat + 1) * 4503599627370496 + (c - 4503599627370496) ∧ FP.Core.decode FP.Core.b64 (dd c q).toNat = .fin false c q := by
  have e : (dd c q).toNat = ((q + 1074).toNat + 1) * 4503599627370496 + (c - 4503599627370496) := by
    unfold dd
    rw [enc_n h1, UInt64.toNat_ofNat']
    exact Nat.mod_eq_of_lt (by omega)
  exact ⟨e, by rw [e, dec_n h1 h2 h3 h4]⟩
theorem dd_0 : (dd 0 (-1074)).toNat = 0 := rfl
theorem dec_0 : FP.Core.decode FP.Core.b64 0 = .fin false 0 (-1074) := rfl
/-- the digits of a whole number, moved to the left -/
def lz (n : Nat) : Nat := 52 - n.log2
theorem lg_b {n : Nat} (h : 0 < n) (h2 : n < 9007199254740992) : n.log2 ≤ 52 ∧ 4503599627370496 ≤ n * 2 ^ lz n ∧ n * 2 ^ lz n < 9007199254740992 := by
  have h1 : 2 ^ n.log2 ≤ n := Nat.log2_self_le (by omega)
  have h3 : n < 2 ^ (n.log2 + 1) := Nat.lt_log2_self
  have h4 : n.log2 ≤ 52 := by
    by_cases c : n.log2 ≤ 52
    · exact c
    · have : (2 : Nat) ^ 53 ≤ 2 ^ n.log2 := Nat.pow_le_pow_right (by omega) (by omega)
      have e : (2 : Nat) ^ 53 = 9007199254740992 := rfl
      omega
  refine ⟨h4, ?_, ?_⟩
  · have e : (2 : Nat) ^ n.log2 * 2 ^ lz n = 4503599627370496 := by
      rw [← Nat.pow_add, show n.log2 + lz n = 52 by unfold lz; omega]
    rw [← e]
    exact Nat.mul_le_mul_right _ h1
  · have e : (2 : Nat) ^ (n.log2 + 1) * 2 ^ lz n = 9007199254740992 := by
      rw [← Nat.pow_add, show n.log2 + 1 + lz n = 53 by unfold lz; omega]
    rw [← e]
    exact Nat.mul_lt_mul_of_pos_right h3 (Nat.pow_pos (by omega))
theorem lead_1 {n : Nat} (h : 0 < n) : FP.Core.leading n 1 = n.log2 := by
  unfold FP.Core.leading
  have e : (1 : Nat).log2 = 0 := rfl
  dsimp only
  rw [e, show ((n.log2 : Int) - ((0 : Nat) : Int)) = (n.log2 : Int) by omega, Int.toNat_natCast, show (-(n.log2 : Int)).toNat = 0 by omega, if_pos]
  have h1 : 2 ^ n.log2 ≤ n := Nat.log2_self_le (by omega)
  omega
theorem log2_mul {n j : Nat} (h : 0 < n) : (n * 2 ^ j).log2 = n.log2 + j := by
  have hp : 0 < 2 ^ j := Nat.pow_pos (by omega)
  have h0 : n * 2 ^ j ≠ 0 := Nat.mul_ne_zero (by omega) (by omega)
  have h1 : 2 ^ n.log2 ≤ n := Nat.log2_self_le (by omega)
  have h3 : n < 2 ^ (n.log2 + 1) := Nat.lt_log2_self
  refine (Nat.log2_eq_iff h0).mpr ⟨?_, ?_⟩
  · rw [Nat.pow_add]
    exact Nat.mul_le_mul_right _ h1
  · rw [show n.log2 + j + 1 = n.log2 + 1 + j by omega, Nat.pow_add]
    exact Nat.mul_lt_mul_of_pos_right h3 hp
theorem near_1 {a b : Nat} (hb : 0 < b) : FP.Core.nearest (a * b) b = a := by
  unfold FP.Core.nearest
  rw [Nat.mul_mod_left, if_pos (by omega), Nat.mul_div_cancel _ hb]
/-- what fits is not changed by rounding -/
theorem rr_x {n j : Nat} {e : Int} (h : 0 < n) (h2 : n < 9007199254740992) (h3 : -1000 ≤ e) (h4 : e ≤ 900) : FP.Core.roundRatio FP.Core.b64 false (n * 2 ^ j) 1 (e - j) = .fin false (n * 2 ^ lz n) (e - lz n) := by
  have hb := lg_b h h2
  have h0 : ¬ n * 2 ^ j = 0 := by
    have hp : 0 < 2 ^ j := Nat.pow_pos (by omega)
    exact Nat.mul_ne_zero (by omega) (by omega)
  have hz : (lz n : Int) = 52 - n.log2 := by unfold lz; omega
  have hq : FP.Core.quantum FP.Core.b64 (n * 2 ^ j) 1 (e - j) = e - lz n := by
    unfold FP.Core.quantum
    rw [lead_1 (by omega), log2_mul h, n_b]
    show max (-1074 : Int) (((n.log2 + j : Nat) : Int) + (e - j) - (((53 : Nat) : Int) - 1)) = _
    omega
  unfold FP.Core.roundRatio
  rw [if_neg h0, hq]
  unfold FP.Core.roundAt
  have hu : FP.Core.nearest (FP.Core.unitsNum (n * 2 ^ j) (e - j) (e - lz n)) (FP.Core.unitsDen 1 (e - j) (e - lz n)) = n * 2 ^ lz n := by
    unfold FP.Core.unitsNum FP.Core.unitsDen
    rw [show e - (j : Int) - (e - lz n) = lz n - j by omega, show e - (lz n : Int) - (e - j) = j - lz n by omega, Nat.one_mul]
    by_cases c : j ≤ lz n
    · rw [show ((lz n : Int) - j).toNat = lz n - j by omega, show ((j : Int) - lz n).toNat = 0 by omega, Nat.mul_assoc, ← Nat.pow_add, show j + (lz n - j) = lz n by omega]
      have := near_1 (a := n * 2 ^ lz n) (b := 2 ^ 0) (by decide)
      rw [show n * 2 ^ lz n * 2 ^ 0 = n * 2 ^ lz n by rw [Nat.pow_zero, Nat.mul_one]] at this
      exact this
    · rw [show ((lz n : Int) - j).toNat = 0 by omega, show ((j : Int) - lz n).toNat = j - lz n by omega, Nat.pow_zero, Nat.mul_one]
      have e2 : n * 2 ^ j = n * 2 ^ lz n * 2 ^ (j - lz n) := by
        rw [Nat.mul_assoc, ← Nat.pow_add, show lz n + (j - lz n) = j by omega]
      rw [e2]
      exact near_1 (Nat.pow_pos (by omega))
  rw [hu]
  unfold FP.Core.settle FP.Core.bound
  rw [p_b, if_pos hb.2.2, m_b, if_pos (by omega)]
/-- the double of a whole number times a power of two -/
def dv (n : Nat) (e : Int) : UInt64 := UInt64.ofNat (FP.Core.encode FP.Core.b64 (FP.Core.roundRatio FP.Core.b64 false n 1 e))
def nf (n : Nat) (e : Int) : FP.Core.Datum := if n = 0 then .fin false 0 (-1074) else .fin false (n * 2 ^ lz n) (e - lz n)
theorem rq_0 {e : Int} : FP.Core.roundRatio FP.Core.b64 false 0 1 e = .fin false 0 (-1074) := by
  unfold FP.Core.roundRatio
  rw [if_pos rfl, n_b]
theorem rr_n {n j : Nat} {e : Int} (h2 : n < 9007199254740992) (h3 : -1000 ≤ e) (h4 : e ≤ 900) : FP.Core.roundRatio FP.Core.b64 false (n * 2 ^ j) 1 (e - j) = nf n e := by
  unfold nf
  by_cases c : n = 0
  · rw [if_pos c, c, Nat.zero_mul, rq_0]
  · rw [if_neg c]
    exact rr_x (by omega) h2 h3 h4
theorem rr_1 {n : Nat} {e : Int} (h2 : n < 9007199254740992) (h3 : -1000 ≤ e) (h4 : e ≤ 900) : FP.Core.roundRatio FP.Core.b64 false n 1 e = nf n e := by
  have g := rr_n (n := n) (j := 0) (e := e) h2 h3 h4
  rw [Nat.pow_zero, Nat.mul_one, show e - ((0 : Nat) : Int) = e by omega] at g
  exact g
theorem dv_D {n : Nat} {e : Int} (h2 : n < 9007199254740992) (h3 : -1000 ≤ e) (h4 : e ≤ 900) : FP.Core.decode FP.Core.b64 (dv n e).toNat = nf n e ∧ (dv n e).toNat < 9218868437227405312 := by
  unfold dv
  rw [rr_1 h2 h3 h4]
  unfold nf
  by_cases c : n = 0
  · rw [if_pos c]
    exact ⟨rfl, by decide⟩
  · rw [if_neg c]
    have hb := lg_b (n := n) (by omega) h2
    have hl : lz n ≤ 52 := by unfold lz; omega
    have g := dd_n (c := n * 2 ^ lz n) (q := e - lz n) hb.2.1 hb.2.2 (by omega) (by omega)
    unfold dd at g
    exact ⟨g.2, by rw [g.1]; omega⟩
theorem dv_E {n j : Nat} {e : Int} (h2 : n < 9007199254740992) (h3 : -1000 ≤ e) (h4 : e ≤ 900) : UInt64.ofNat (FP.Core.encode FP.Core.b64 (FP.Core.roundRatio FP.Core.b64 false (n * 2 ^ j) 1 (e - j))) = dv n e := by
  unfold dv
  rw [rr_n h2 h3 h4, rr_1 h2 h3 h4]
theorem dv_nn {n : Nat} {e : Int} (h2 : n < 9007199254740992) (h3 : -1000 ≤ e) (h4 : e ≤ 900) : qa_nn (dv n e) := by
  have h := (dv_D h2 h3 h4).2
  show dv n e &&& 0x7fffffffffffffff ≤ 0x7ff0000000000000
  rw [UInt64.le_iff_toNat_le, UInt64.toNat_and]
  refine Nat.le_trans Nat.and_le_left ?_
  have e : (0x7ff0000000000000 : UInt64).toNat = 9218868437227405312 := rfl
  omega
/-- twice -/
theorem dv_2 {n : Nat} {e : Int} (h2 : n < 9007199254740992) (h3 : -1000 ≤ e) (h4 : e ≤ 800) : FP.dmul (dv n e) (4611686018427387904 : UInt64) = dv n (e + 1) := by
  have h := (dv_D h2 h3 (by omega)).1
  have c2 : FP.Core.decode FP.Core.b64 ((4611686018427387904 : UInt64).toNat) = .fin false 4503599627370496 (-51) := rfl
  show UInt64.ofNat (FP.Core.encode FP.Core.b64 (FP.Core.round FP.Core.b64 (FP.Core.exactProduct (FP.Core.decode FP.Core.b64 (dv n e).toNat) (FP.Core.decode FP.Core.b64 ((4611686018427387904 : UInt64).toNat))))) = _
  rw [h, c2]
  unfold nf
  by_cases c : n = 0
  · rw [if_pos c, c]
    show UInt64.ofNat (FP.Core.encode FP.Core.b64 (FP.Core.roundRatio FP.Core.b64 false (0 * 4503599627370496) 1 (-1074 + -51))) = _
    unfold dv
    rw [Nat.zero_mul, rq_0, rq_0]
  · rw [if_neg c]
    show UInt64.ofNat (FP.Core.encode FP.Core.b64 (FP.Core.roundRatio FP.Core.b64 false (n * 2 ^ lz n * 4503599627370496) 1 (e - lz n + -51))) = _
    have e1 : n * 2 ^ lz n * 4503599627370496 = n * 2 ^ (lz n + 52) := by
      rw [Nat.pow_add, Nat.mul_assoc]
    rw [e1, show e - (lz n : Int) + -51 = e + 1 - ((lz n + 52 : Nat) : Int) by omega]
    exact dv_E h2 (by omega) (by omega)
theorem dv_s {n : Nat} {e : Int} (h2 : 2 * n < 9007199254740992) (h3 : -1000 ≤ e) (h4 : e ≤ 800) : dv n (e + 1) = dv (2 * n) e := by
  have g := dv_E (n := n) (j := 1) (e := e + 1) (by omega) (by omega) (by omega)
  rw [← g, Nat.pow_one, Nat.mul_comm, show e + 1 - ((1 : Nat) : Int) = e by omega]
  rfl
/-- times 2 to the 52nd -/
theorem dv_52 {n : Nat} (h2 : n < 9007199254740992) : FP.dmul (dv n (-52)) (4841369599423283200 : UInt64) = dv n 0 := by
  have h := (dv_D (e := -52) h2 (by omega) (by omega)).1
  have c2 : FP.Core.decode FP.Core.b64 ((4841369599423283200 : UInt64).toNat) = .fin false 4503599627370496 0 := rfl
  show UInt64.ofNat (FP.Core.encode FP.Core.b64 (FP.Core.round FP.Core.b64 (FP.Core.exactProduct (FP.Core.decode FP.Core.b64 (dv n (-52)).toNat) (FP.Core.decode FP.Core.b64 ((4841369599423283200 : UInt64).toNat))))) = _
  rw [h, c2]
  unfold nf
  by_cases c : n = 0
  · rw [if_pos c, c]
    show UInt64.ofNat (FP.Core.encode FP.Core.b64 (FP.Core.roundRatio FP.Core.b64 false (0 * 4503599627370496) 1 (-1074 + 0))) = _
    unfold dv
    rw [Nat.zero_mul, rq_0, rq_0]
  · rw [if_neg c]
    show UInt64.ofNat (FP.Core.encode FP.Core.b64 (FP.Core.roundRatio FP.Core.b64 false (n * 2 ^ lz n * 4503599627370496) 1 (-52 - lz n + 0))) = _
    have e1 : n * 2 ^ lz n * 4503599627370496 = n * 2 ^ (lz n + 52) := by
      rw [Nat.pow_add, Nat.mul_assoc]
    rw [e1, show (-52 : Int) - (lz n : Int) + 0 = 0 - ((lz n + 52 : Nat) : Int) by omega]
    exact dv_E h2 (by omega) (by omega)
/-- a whole number again -/
theorem dv_l {n : Nat} (h2 : n < 9007199254740992) : FP.d2l (dv n 0) = Int64.ofInt n := by
  have h := (dv_D (e := 0) h2 (by omega) (by omega)).1
  show Int64.ofInt (FP.Core.toInt (-2 ^ 63) (2 ^ 63 - 1) (FP.Core.decode FP.Core.b64 (dv n 0).toNat)) = _
  rw [h]
  unfold nf
  by_cases c : n = 0
  · rw [if_pos c, c]
    unfold FP.Core.toInt FP.Core.truncate FP.Core.signed
    dsimp only
    rw [Nat.zero_mul, Nat.zero_div, if_neg (by decide)]
    rfl
  · rw [if_neg c]
    have et : FP.Core.truncate false (n * 2 ^ lz n) (0 - lz n) = n := by
      unfold FP.Core.truncate FP.Core.signed
      rw [if_neg (by decide), show ((0 : Int) - (lz n : Int)).toNat = 0 by omega, show (-((0 : Int) - (lz n : Int))).toNat = lz n by omega, Nat.pow_zero, Nat.mul_one, Nat.mul_div_cancel _ (Nat.pow_pos (by omega))]
    unfold FP.Core.toInt
    dsimp only
    rw [et]
    congr 1
    have e1 : ((2 : Int) ^ 63) = 9223372036854775808 := rfl
    rw [e1]
    omega
end QFP
