/-! the class reads a text -/
section QCT
variable {σ σ' τ : qa_T} {s t : qs} {B : Nat → Int32} {L i e n k : Nat} {l x v w : Int32}
def cs (σ : qa_T) (l n : Int32) : qa_T := qa_wi (qa_wi σ (10, 19) 2 l) (10, 19) 3 n
def tx_C (σ : qa_T) (B : Nat → Int32) (L : Nat) : Prop := σ.1 (10, 19) 0 = nI L ∧ ∀ i, i < L → σ.1 (10, 20) i = B i
theorem cs_2 : (cs σ l w).1 (10, 19) 2 = l := by
  unfold cs
  rw [wi_ni (by decide), wi_eq]
theorem cs_3 : (cs σ l w).1 (10, 19) 3 = w := by
  unfold cs
  rw [wi_eq]
theorem cs_0 : (cs σ l w).1 (10, 19) 0 = σ.1 (10, 19) 0 := by
  unfold cs
  rw [wi_ni (by decide), wi_ni (by decide)]
theorem cs_4 : (cs σ l w).1 (10, 19) 4 = σ.1 (10, 19) 4 := by
  unfold cs
  rw [wi_ni (by decide), wi_ni (by decide)]
theorem cs_o {p : qa_P} (h : ¬ p = (10, 19)) : (cs σ l w).1 p = σ.1 p := by
  unfold cs
  rw [wi_np h, wi_np h]
theorem cs_w2 : qa_wi (cs σ l w) (10, 19) 2 v = cs σ v w := by
  unfold cs
  rw [wi_3 (i := 3) (j := 2) (by decide), wi_2]
theorem cs_w3 : qa_wi (cs σ l w) (10, 19) 3 v = cs σ l v := by
  unfold cs
  rw [wi_2]
theorem cs_st : qa_fX8_startPart σ = cs σ 0 (-1) := rfl
theorem cs_cs : cs (cs σ l w) x v = cs σ x v := by
  show qa_wi (qa_wi (cs σ l w) (10, 19) 2 x) (10, 19) 3 v = _
  rw [cs_w2, cs_w3]
theorem cs_C (h : tx_C σ B L) : tx_C (cs σ l w) B L := ⟨by rw [cs_0]; exact h.1, fun i hi => by rw [cs_o (by decide)]; exact h.2 i hi⟩
def tx_g (x : Int32) : Bool := decide (48 ≤ x.toInt) && decide (x.toInt ≤ 57)
theorem pm_e : qa_fX8_partMayEnd (cs σ l w) = (decide (l = 110) || !decide (w = -1)) := by
  unfold qa_fX8_partMayEnd qa_fX8_partMayEnd_17
  rw [cs_2, cs_3, qk_b110, qk_am1]
  by_cases c1 : l = 110 <;> by_cases c2 : w = -1 <;> simp [c1, c2]
theorem ac_L : qa_fX8_accept x (cs σ 0 w) = (decide (x = 110) || tx_sl x || decide (x = 116), cs σ x w) := by
  unfold qa_fX8_accept qa_fX8_accept_42 tx_sl
  rw [cs_2, if_neg (not_not_intro rfl), cs_w2, qk_b110, qk_b97, qk_b98, qk_b112, qk_b116]
  by_cases c1 : x = 110 <;> by_cases c2 : x = 97 <;> by_cases c3 : x = 98 <;> by_cases c4 : x = 112 <;> by_cases c5 : x = 116 <;> simp [c1, c2, c3, c4, c5]
theorem ac_E (h : ¬ l = 0) : qa_fX8_accept 59 (cs σ l w) = (decide (l = 110) || !decide (w = -1), cs σ 0 (-1)) := by
  unfold qa_fX8_accept
  rw [cs_2, if_pos h, qk_b59, if_neg (not_not_intro rfl), pm_e, cs_st, cs_cs]
theorem ac_D (h : ¬ l = 0) (hx : ¬ x = 59) : qa_fX8_accept x (cs σ l w) = qa_fX8_acceptDigit x (cs σ l w) := by
  unfold qa_fX8_accept
  rw [cs_2, if_pos h, qk_b59, if_pos hx]
theorem ad_110 : qa_fX8_acceptDigit x (cs σ 110 w) = (false, cs σ 110 w) := by
  unfold qa_fX8_acceptDigit qa_fX8_acceptDigit_28
  rw [cs_2, qk_b110, if_pos rfl]
theorem ad_1 (h : ¬ l = 110) : (if tx_g x = true ∧ (l = 116 → 49 ≤ x.toInt) then qa_fX8_acceptDigit x (cs σ l (-1)) = (true, cs σ l (nI (x.toInt - 48).toNat)) else (qa_fX8_acceptDigit x (cs σ l (-1))).1 = false) := by
  have c48 := qz_lt x 48
  have c57 := qz_lt 57 x
  rw [qk_t48] at c48
  rw [qk_t57] at c57
  unfold qa_fX8_acceptDigit qa_fX8_acceptDigit_28 qa_fX8_acceptDigit_61 tx_g
  rw [cs_2, cs_3, qk_b110, if_neg h, qk_b48, qk_b57, if_pos (show ¬ (-1 : Int32) = 0 by decide)]
  dsimp only
  rw [qk_am1, if_neg (not_not_intro rfl), cs_w3, cs_2, qk_b116]
  by_cases c1 : x.toInt < 48
  · rw [if_pos (c48.mpr c1), decide_eq_false (by omega), Bool.false_and, if_neg (fun t => absurd t.1 (by decide))]
  · rw [if_neg (fun t => c1 (c48.mp t)), decide_eq_true (by omega), Bool.true_and]
    by_cases c2 : 57 < x.toInt
    · rw [if_pos (c57.mpr c2), decide_eq_false (by omega), if_neg (fun t => absurd t.1 (by decide))]
    · have e4 : (x - 48).toInt = x.toInt - 48 := by rw [qz_sub (by rw [qk_t48]; omega) (by rw [qk_t48]; omega), qk_t48]
      have e6 : x - 48 = nI (x.toInt - 48).toNat := by rw [qz_eq, e4, qz_nI (by omega)]; omega
      have e0 : (0 < x - 48) ↔ 49 ≤ x.toInt := by rw [qz_lt, e4, qk_t0]; omega
      rw [if_neg (fun t => c2 (c57.mp t)), decide_eq_true (by omega)]
      by_cases c3 : 49 ≤ x.toInt
      · rw [if_pos ⟨rfl, fun _ => c3⟩, if_pos (e0.mpr c3), e6]
      · rw [if_neg (fun t => c3 (e0.mp t))]
        by_cases c4 : l = 116
        · rw [if_neg (fun t => c3 (t.2 c4)), if_pos c4]
        · rw [if_pos ⟨rfl, fun t => absurd t c4⟩, if_neg c4, e6]
theorem ad_n (h : ¬ l = 110) (hk : k ≤ tx_m l) : (if tx_g x = true ∧ 0 < k ∧ 10 * (k : Int) + (x.toInt - 48) ≤ tx_m l then qa_fX8_acceptDigit x (cs σ l (nI k)) = (true, cs σ l (nI (10 * k + (x.toInt - 48).toNat))) else (qa_fX8_acceptDigit x (cs σ l (nI k))).1 = false) := by
  have c48 := qz_lt x 48
  have c57 := qz_lt 57 x
  rw [qk_t48] at c48
  rw [qk_t57] at c57
  have hm : tx_m l ≤ 100 := by
    unfold tx_m
    split <;> omega
  unfold qa_fX8_acceptDigit qa_fX8_acceptDigit_28 tx_g
  rw [cs_2, cs_3, qk_b110, if_neg h, qk_b48, qk_b57]
  dsimp only
  by_cases c1 : x.toInt < 48
  · rw [if_pos (c48.mpr c1), decide_eq_false (by omega), Bool.false_and, if_neg (fun t => absurd t.1 (by decide))]
  · rw [if_neg (fun t => c1 (c48.mp t)), decide_eq_true (by omega), Bool.true_and]
    by_cases c2 : 57 < x.toInt
    · rw [if_pos (c57.mpr c2), decide_eq_false (by omega), if_neg (fun t => absurd t.1 (by decide))]
    · rw [if_neg (fun t => c2 (c57.mp t)), decide_eq_true (by omega)]
      by_cases c3 : k = 0
      · subst c3
        rw [if_neg (fun t => absurd t.2.1 (by omega)), nI_0, if_neg (not_not_intro rfl)]
      · have ek := qz_nI (k := k) (by omega)
        have n0 : ¬ nI k = 0 := fun t => by rw [t, qk_t0] at ek; omega
        have n1 : ¬ nI k = -1 := fun t => by rw [t, show ((-1 : Int32)).toInt = -1 from rfl] at ek; omega
        have e4 : (x - 48).toInt = x.toInt - 48 := by rw [qz_sub (by rw [qk_t48]; omega) (by rw [qk_t48]; omega), qk_t48]
        have e6 : x - 48 = nI (x.toInt - 48).toNat := by rw [qz_eq, e4, qz_nI (by omega)]; omega
        have e7 : (((Int8.ofInt 10).toInt32) * nI k) + (x - 48) = nI (10 * k + (x.toInt - 48).toNat) := by rw [qk_b10, qk_i10, nI_mul, e6, nI_add]
        rw [if_pos n0, qk_am1, if_pos n1, cs_w3, e7, cs_2, cs_3, qk_b116, qk_b15, qk_b100]
        have en := qz_nI (k := 10 * k + (x.toInt - 48).toNat) (by omega)
        have e15 := qz_lt 15 (nI (10 * k + (x.toInt - 48).toNat))
        have e100 := qz_lt 100 (nI (10 * k + (x.toInt - 48).toNat))
        rw [en, show ((15 : Int32)).toInt = 15 from rfl] at e15
        rw [en, show ((100 : Int32)).toInt = 100 from rfl] at e100
        unfold qa_fX8_acceptDigit_100 tx_m
        by_cases c4 : l = 116
        · rw [if_neg (not_not_intro c4), if_pos c4]
          by_cases c5 : 10 * (k : Int) + (x.toInt - 48) ≤ 100
          · rw [if_pos ⟨rfl, by omega, by omega⟩, if_neg (fun t => by have := e100.mp t; omega)]
          · rw [if_neg (fun t => c5 (by have := t.2.2; omega)), if_pos (e100.mpr (by omega))]
        · rw [if_pos c4, if_neg c4]
          by_cases c5 : 10 * (k : Int) + (x.toInt - 48) ≤ 15
          · rw [if_pos ⟨rfl, by omega, by omega⟩, if_neg (fun t => by have := e15.mp t; omega)]
          · rw [if_neg (fun t => c5 (by have := t.2.2; omega)), if_pos (e15.mpr (by omega))]
end QCT
