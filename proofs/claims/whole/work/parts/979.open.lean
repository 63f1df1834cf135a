/-! open: the share of hits, the digest -/
section QMK
variable {σ σ' τ : qa_T} {X : Nat → Int32} {N L : Nat} {k23 : Int32 → qa_T → Option (Bool × qa_T)} {x : Int32}
theorem ca_2627 (h : qJ N X σ) (hN : N + 40000 < 2147483647) : qS N X k23 x (qa_fL_law_2627 L k23 x σ) := sorry
theorem ca_2668 (h : qJ N X σ) (hN : N + 40000 < 2147483647) : qS N X k23 x (qa_fL_law_2668 L k23 x σ) := sorry
end QMK
