/-! doubles (3): the bits of a share, by the class and by the reference -/
section QFR
variable {σ : qa_T} {c m : Nat} {a1 : UInt64} {a2 a3 : Int32}
theorem nI_m1 {k : Nat} (hk : k < 2147483647) : nI (k + 1) + Int32.ofInt (-1) = nI k := by
  have e1 : (Int32.ofInt (-1)).toInt = -1 := rfl
  rw [qz_eq, qz_add (by rw [e1, qz_nI (by omega)]; omega) (by rw [e1, qz_nI (by omega)]; omega), e1, qz_nI (by omega), qz_nI (by omega)]
  omega
theorem pw_1 {n : Nat} (h : 0 < n) : 2 ≤ 2 ^ n := by
  have := Nat.pow_le_pow_right (n := 2) (by omega) (show 1 ≤ n by omega)
  rw [Nat.pow_one] at this
  exact this
theorem od_l {c : Nat} {q r : Int} (h2 : c < 9007199254740992) (hq : q < r) : FP.Core.order (.fin false c q) (.fin false 4503599627370496 r) = some .lt := by
  have em : min q r = q := by omega
  show some (compare (FP.Core.signed false (c * 2 ^ (q - min q r).toNat)) (FP.Core.signed false (4503599627370496 * 2 ^ (r - min q r).toNat))) = _
  rw [sg, sg, em, show (q - q).toNat = 0 by omega, Nat.pow_zero, Nat.mul_one]
  have hp := pw_1 (n := (r - q).toNat) (by omega)
  generalize 2 ^ (r - q).toNat = w at hp
  rw [cq_l]
  have : 4503599627370496 * 2 ≤ 4503599627370496 * w := Nat.mul_le_mul_left _ hp
  omega
theorem dv_l1 {q : Int} (h1 : 4503599627370496 ≤ c) (h2 : c < 9007199254740992) (h3 : -1000 ≤ q) (h4 : q < -52) : FP.dcmp (dv c q) FP.dconst1 = some .lt := by
  have h := (dv_D h2 h3 (by omega)).1
  rw [nf_z h1 h2] at h
  show FP.Core.order (FP.Core.decode FP.Core.b64 (dv c q).toNat) (FP.Core.decode FP.Core.b64 (FP.dconst1).toNat) = _
  rw [h, c_1]
  exact od_l h2 h4
theorem dv_l2 {q : Int} (h1 : 4503599627370496 ≤ c) (h2 : c < 9007199254740992) (h3 : -1000 ≤ q) (h4 : q < -51) : FP.dcmp (dv c q) (4611686018427387904 : UInt64) = some .lt := by
  have h := (dv_D h2 h3 (by omega)).1
  have c2 : FP.Core.decode FP.Core.b64 ((4611686018427387904 : UInt64).toNat) = .fin false 4503599627370496 (-51) := rfl
  rw [nf_z h1 h2] at h
  show FP.Core.order (FP.Core.decode FP.Core.b64 (dv c q).toNat) (FP.Core.decode FP.Core.b64 ((4611686018427387904 : UInt64).toNat)) = _
  rw [h, c2]
  exact od_l h2 h4
theorem dv_g0 {q : Int} (h1 : 4503599627370496 ≤ c) (h2 : c < 9007199254740992) (h3 : -1000 ≤ q) (h4 : q ≤ 900) : FP.dcmp (dv c q) FP.dconst0 = some .gt := by
  have h := (dv_D h2 h3 h4).1
  have c0 : FP.Core.decode FP.Core.b64 ((FP.dconst0).toNat) = .fin false 0 (-1074) := rfl
  rw [nf_z h1 h2] at h
  show FP.Core.order (FP.Core.decode FP.Core.b64 (dv c q).toNat) (FP.Core.decode FP.Core.b64 ((FP.dconst0).toNat)) = _
  rw [h, c0]
  show some (compare (FP.Core.signed false (c * 2 ^ (q - min q (-1074)).toNat)) (FP.Core.signed false (0 * 2 ^ (-1074 - min q (-1074)).toNat))) = _
  rw [sg, sg, Nat.zero_mul]
  have hp : 0 < 2 ^ (q - min q (-1074)).toNat := Nat.pow_pos (by omega)
  generalize 2 ^ (q - min q (-1074)).toNat = w at hp
  have : 0 < c * w := Nat.mul_pos (by omega) hp
  rw [cq_g (by omega)]
theorem dv_ge {n : Nat} (h2 : n < 9007199254740992) (h1 : 4503599627370496 ≤ n) : FP.dcmp (dv n (-52)) FP.dconst1 = some .eq ∨ FP.dcmp (dv n (-52)) FP.dconst1 = some .gt := by
  rw [dv_c1 h2]
  by_cases e : n = 4503599627370496
  · exact Or.inl (by rw [cq_e (by omega)])
  · exact Or.inr (by rw [cq_g (by omega)])
theorem dv_lt {n : Nat} (h1 : n < 4503599627370496) : FP.dcmp (dv n (-52)) FP.dconst1 = some .lt := by
  rw [dv_c1 (by omega), cq_l (by omega)]
theorem sh_d : ∀ j : Fin 40, (nI (1023 - j.val)).toInt64 <<< ((((Int8.ofInt 52).toInt32)).toInt64 &&& 63) = Int64.ofInt (((1023 - j.val) * 4503599627370496 : Nat) : Int) := by decide
/-- by the class -/
theorem cB_39 {i : Nat} (h1 : 4503599627370496 ≤ c) (h2 : c < 9007199254740992) (hi : i < 40) : qa_fX9_bitsOfShare_39 a1 (dv c (-52)) (nI (1023 - i)) σ = some (Int64.ofInt (((1023 - i) * 4503599627370496 + (c - 4503599627370496) : Nat) : Int)) := by
  unfold qa_fX9_bitsOfShare_39
  dsimp only
  rw [dv_m1 h1 h2, dv_52 (by omega), dv_l (by omega), if_neg (not_not_intro (dv_nn (by omega) (by omega) (by omega))), if_neg (not_not_intro (dv_nn (by omega) (by omega) (by omega))), sh_d ⟨i, hi⟩, ← Int64.ofInt_add, ← Int.natCast_add]
theorem cB_15 (h1 : 4503599627370496 ≤ c) (h2 : c < 9007199254740992) : ∀ (j m i : Nat), i + j < 40 → j < m → qa_fX9_bitsOfShare_15 a1 m (dv c (-52 - j)) (nI (1023 - i)) σ = some (Int64.ofInt (((1023 - (i + j)) * 4503599627370496 + (c - 4503599627370496) : Nat) : Int)) := by
  intro j
  induction j with
  | zero =>
    intro m i hi hm
    obtain ⟨m, rfl⟩ : ∃ i, m = i + 1 := ⟨m - 1, by omega⟩
    rw [qa_fX9_bitsOfShare_15, show ((-52 : Int) - ((0 : Nat) : Int)) = -52 by omega]
    rcases dv_ge h2 h1 with e | e
    · rw [e, if_pos (by decide)]
      exact cB_39 h1 h2 (by omega)
    · rw [e, if_pos (by decide)]
      exact cB_39 h1 h2 (by omega)
  | succ j ih =>
    intro m i hi hm
    obtain ⟨m, rfl⟩ : ∃ i, m = i + 1 := ⟨m - 1, by omega⟩
    have g := ih m (i + 1) (by omega) (by omega)
    have e1 : FP.dmul (dv c (-52 - ((j + 1 : Nat) : Int))) (4611686018427387904 : UInt64) = dv c (-52 - j) := by
      rw [dv_2 h2 (by omega) (by omega), show (-52 : Int) - ((j + 1 : Nat) : Int) + 1 = -52 - j by omega]
    have e2 : nI (1023 - i) + Int32.ofInt (-1) = nI (1023 - (i + 1)) := by
      have := nI_m1 (k := 1023 - (i + 1)) (by omega)
      rw [show 1023 - (i + 1) + 1 = 1023 - i by omega] at this
      exact this
    have e3 : ¬ nI (1023 - i) ≤ Int32.ofInt 1 := nI_ge (show 1 < 1023 - i by omega) (by omega)
    rw [qa_fX9_bitsOfShare_15, dv_l1 h1 h2 (by omega) (by omega), if_neg (by decide), if_neg e3]
    dsimp only
    rw [e1, e2, if_neg (not_not_intro (dv_nn (by omega) (by omega) (by omega))), g, show i + 1 + j = i + (j + 1) by omega]
theorem cB (h1 : 4503599627370496 ≤ c) (h2 : c < 9007199254740992) {j : Nat} (hj : j < 40) : qa_fX9_bitsOfShare (dv c (-52 - j)) σ = some (Int64.ofInt (((1023 - j) * 4503599627370496 + (c - 4503599627370496) : Nat) : Int)) := by
  unfold qa_fX9_bitsOfShare
  rw [dv_g0 h1 h2 (by omega) (by omega), if_pos (by decide)]
  have g := cB_15 (a1 := dv c (-52 - j)) (σ := σ) h1 h2 j qa_fu 0 (by omega) (by unfold qa_fu; omega)
  rw [Nat.zero_add] at g
  exact g
/-- by the reference -/
def fz : Nat → Nat → Nat → Nat
  | 0, y, _ => y
  | d + 1, y, r => if 2 * r < 4503599627370496 then fz d (2 * y) (2 * r) else fz d (2 * y + 1) (2 * r - 4503599627370496)
theorem fz_0 {y r y2 r2 : Nat} (h : y2 * 4503599627370496 + r2 = (y * 4503599627370496 + r) * 2) (d : Nat) : (y2 * 4503599627370496 + r2) * 2 ^ d = (y * 4503599627370496 + r) * 2 ^ (d + 1) := by
  rw [h, Nat.mul_assoc, Nat.pow_succ, Nat.mul_comm 2]
theorem fz_e : ∀ (d y r : Nat), r < 4503599627370496 → ∃ r', r' < 4503599627370496 ∧ fz d y r * 4503599627370496 + r' = (y * 4503599627370496 + r) * 2 ^ d := by
  intro d
  induction d with
  | zero => intro y r h; exact ⟨r, h, by rw [fz, Nat.pow_zero, Nat.mul_one]⟩
  | succ d ih =>
    intro y r h
    rw [fz]
    by_cases c : 2 * r < 4503599627370496
    · have e : 2 * y * 4503599627370496 + 2 * r = (y * 4503599627370496 + r) * 2 := by omega
      rw [if_pos c]
      obtain ⟨r', h1, h2⟩ := ih (2 * y) (2 * r) c
      exact ⟨r', h1, h2.trans (fz_0 e d)⟩
    · have e : (2 * y + 1) * 4503599627370496 + (2 * r - 4503599627370496) = (y * 4503599627370496 + r) * 2 := by omega
      have hr : 2 * r - 4503599627370496 < 4503599627370496 := by omega
      rw [if_neg c]
      obtain ⟨r', h1, h2⟩ := ih (2 * y + 1) (2 * r - 4503599627370496) hr
      exact ⟨r', h1, h2.trans (fz_0 e d)⟩
theorem fz_52 {y r : Nat} (h : r < 4503599627370496) : fz 52 y r = y * 4503599627370496 + r := by
  obtain ⟨r', h1, h2⟩ := fz_e 52 y r h
  rw [show (2 : Nat) ^ 52 = 4503599627370496 from rfl] at h2
  omega
theorem rB_72 : ∀ (d m i y r : Nat), i + d = 52 → d < m → r < 4503599627370496 → qa_fX10_bitsOf_72 a1 ((Int8.ofInt 52).toInt32) a3 m (dv r (-52)) (Int64.ofInt (y : Int)) (nI i) σ = some (Int64.ofInt (fz d y r : Int)) := by
  have e52 : ((Int8.ofInt 52).toInt32) = nI 52 := rfl
  intro d
  induction d with
  | zero =>
    intro m i y r hi hm hr
    obtain ⟨m, rfl⟩ : ∃ i, m = i + 1 := ⟨m - 1, by omega⟩
    rw [qa_fX10_bitsOf_72, e52, if_pos (nI_le (by omega) (by omega))]
    rfl
  | succ d ih =>
    intro m i y r hi hm hr
    obtain ⟨m, rfl⟩ : ∃ i, m = i + 1 := ⟨m - 1, by omega⟩
    have e1 : FP.dmul (dv r (-52)) (4611686018427387904 : UInt64) = dv (2 * r) (-52) := by
      rw [dv_2 (by omega) (by omega) (by omega), dv_s (by omega) (by omega) (by omega)]
    rw [qa_fX10_bitsOf_72, e52, if_neg (nI_ge (by omega) (by omega)), fz]
    dsimp only
    rw [e1, if_neg (not_not_intro (dv_nn (by omega) (by omega) (by omega)))]
    unfold qa_fX10_bitsOf_98
    rw [← e52]
    by_cases c : 2 * r < 4503599627370496
    · have g := ih m (i + 1) (2 * y) (2 * r) (by omega) (by omega) c
      rw [if_pos c, dv_lt c, if_pos (by decide), dv_m0 (by omega) (by omega) (by omega), if_neg (not_not_intro (dv_nn (by omega) (by omega) (by omega)))]
      dsimp only
      rw [show ((2 : Int64) * Int64.ofInt (y : Int)) + Int64.ofNat ((0 : Fin 2) : Nat) = Int64.ofInt ((2 * y : Nat) : Int) by
        rw [show (2 : Int64) = Int64.ofInt 2 from rfl, show Int64.ofNat ((0 : Fin 2) : Nat) = Int64.ofInt 0 from rfl, ← Int64.ofInt_mul, ← Int64.ofInt_add]
        congr 1, qk_a1, nI_1]
      exact g
    · have g := ih m (i + 1) (2 * y + 1) (2 * r - 4503599627370496) (by omega) (by omega) (by omega)
      have ge : FP.dcmp (dv (2 * r) (-52)) FP.dconst1 = some .eq ∨ FP.dcmp (dv (2 * r) (-52)) FP.dconst1 = some .gt := dv_ge (by omega) (by omega)
      have hb : ¬ Op.cmpValue (FP.dcmp (dv (2 * r) (-52)) FP.dconst1) .l < 0 := by
        rcases ge with e | e <;> rw [e] <;> decide
      rw [if_neg c, if_neg hb, l_1, dv_m1 (by omega) (by omega), if_neg (not_not_intro (dv_nn (by omega) (by omega) (by omega)))]
      dsimp only
      rw [show ((2 : Int64) * Int64.ofInt (y : Int)) + Int64.ofNat ((1 : Fin 2) : Nat) = Int64.ofInt ((2 * y + 1 : Nat) : Int) by
        rw [show (2 : Int64) = Int64.ofInt 2 from rfl, show Int64.ofNat ((1 : Fin 2) : Nat) = Int64.ofInt 1 from rfl, ← Int64.ofInt_mul, ← Int64.ofInt_add]
        congr 1, qk_a1, nI_1]
      exact g
theorem it_d : ∀ j : Fin 40, (nI (1023 - j.val)).toInt64 = Int64.ofInt ((1023 - j.val : Nat) : Int) := by decide
theorem rB_37 (h1 : 4503599627370496 ≤ c) (h2 : c < 9007199254740992) : ∀ (j m i : Nat), i + j < 40 → j < m → qa_fX10_bitsOf_37 a1 ((Int8.ofInt 52).toInt32) a3 m (dv c (-52 - j)) (nI (1023 - i)) σ = some (Int64.ofInt (((1023 - (i + j)) * 4503599627370496 + (c - 4503599627370496) : Nat) : Int)) := by
  intro j
  induction j with
  | zero =>
    intro m i hi hm
    obtain ⟨m, rfl⟩ : ∃ i, m = i + 1 := ⟨m - 1, by omega⟩
    have hb : 0 ≤ Op.cmpValue (FP.dcmp (dv c (-52)) FP.dconst1) .g := by
      rcases dv_ge h2 h1 with e | e <;> rw [e] <;> decide
    have g := rB_72 (a1 := a1) (a3 := a3) (σ := σ) 52 qa_fu 0 (1023 - i) (c - 4503599627370496) (by omega) (by unfold qa_fu; omega) (by omega)
    rw [fz_52 (by omega)] at g
    rw [qa_fX10_bitsOf_37, show ((-52 : Int) - ((0 : Nat) : Int)) = -52 by omega, if_pos hb, dv_m1 h1 h2, if_neg (not_not_intro (dv_nn (by omega) (by omega) (by omega)))]
    dsimp only
    rw [it_d ⟨i, by omega⟩]
    exact g
  | succ j ih =>
    intro m i hi hm
    obtain ⟨m, rfl⟩ : ∃ i, m = i + 1 := ⟨m - 1, by omega⟩
    have g := ih m (i + 1) (by omega) (by omega)
    have e1 : FP.dmul (dv c (-52 - ((j + 1 : Nat) : Int))) (4611686018427387904 : UInt64) = dv c (-52 - j) := by
      rw [dv_2 h2 (by omega) (by omega), show (-52 : Int) - ((j + 1 : Nat) : Int) + 1 = -52 - j by omega]
    have e2 : nI (1023 - i) + Int32.ofInt (-1) = nI (1023 - (i + 1)) := by
      have := nI_m1 (k := 1023 - (i + 1)) (by omega)
      rw [show 1023 - (i + 1) + 1 = 1023 - i by omega] at this
      exact this
    rw [qa_fX10_bitsOf_37, dv_l1 h1 h2 (by omega) (by omega), if_neg (by decide)]
    dsimp only
    rw [e1, e2, if_neg (not_not_intro (dv_nn (by omega) (by omega) (by omega))), g, show i + 1 + j = i + (j + 1) by omega]
theorem rB (h1 : 4503599627370496 ≤ c) (h2 : c < 9007199254740992) {j : Nat} (hj : j < 40) : qa_fX10_bitsOf (dv c (-52 - j)) ((Int8.ofInt 52).toInt32) ((Int16.ofInt 1023).toInt32) σ = some (Int64.ofInt (((1023 - j) * 4503599627370496 + (c - 4503599627370496) : Nat) : Int)) := by
  unfold qa_fX10_bitsOf
  rw [dv_g0 h1 h2 (by omega) (by omega), if_pos (by decide), show qa_fu = 2999 + 1 from rfl, qa_fX10_bitsOf_14, dv_l2 h1 h2 (by omega) (by omega), if_pos (by decide)]
  have g := rB_37 (a1 := dv c (-52 - j)) (a3 := ((Int16.ofInt 1023).toInt32)) (σ := σ) h1 h2 j qa_fu 0 (by omega) (by unfold qa_fu; omega)
  rw [Nat.zero_add] at g
  exact g
end QFR
