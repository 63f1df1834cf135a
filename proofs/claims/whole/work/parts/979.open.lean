/-! the share of hits in the law -/
section QMK
variable {σ σ' τ : qa_T} {X : Nat → Int32} {N L : Nat} {k23 : Int32 → qa_T → Option (Bool × qa_T)} {x : Int32}
theorem ca_2627 (h : qJ N X σ) (hN : N + 40000 < 1073741000) : qS N X k23 x (qa_fL_law_2627 L k23 x σ) := by
  obtain ⟨hX, s, k, f, U, Z, V, L2, B, hC, hR, hI⟩ := h
  have hP := hI.1.1
  obtain ⟨h1, h2, h3, h4, _⟩ := hP.1.2.2.2.2.2.2
  unfold qa_fL_law_2627 qa_fL_law_2665 qa_fX9_hitShare qa_fX10_hitShare qa_fL_law_2682
  dsimp only
  rw [sh_c hC hP (by omega), Option.bind_some, Option.bind_some, qk_a0, sh_r (jr_9 hR) hP (by omega), Option.bind_some, Option.bind_some]
  dsimp only
  rw [if_pos (op_cmp h1 h3 (by omega))]
  exact ⟨_, rfl, qJ_r hX hC hI r9 (jr_9 hR)⟩
end QMK
