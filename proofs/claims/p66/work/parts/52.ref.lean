/-! the reference's own methods, as steps of the row of numbers -/
section QRF
variable {ρ : qa_T} {s : qs} {y : Int32}
theorem nI_mul (a b : Nat) : nI a * nI b = nI (a * b) := by
  unfold nI
  rw [Int32.ofNat_mul]
theorem rf_ix (k w : Nat) : (Int32.ofInt 1) + (((Int8.ofInt 7).toInt32) * nI k) + nI w = nI (1 + 7 * k + w) := by
  rw [qk_a1, qk_b7, qk_i1, qk_i7, nI_mul, nI_add, nI_add]
theorem qb_0 (b : Bool) : (qa_bi b = 0) = (b = false) := by cases b <;> simp [qa_bi]
end QRF
