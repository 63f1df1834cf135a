/-! the law's calls (11): keep, go back, undo -/
section QMH
variable {σ σ1 σ2 σ' τ ρ : qa_T} {s t : qs} {X : Nat → Int32} {N M k k' f f' j p L L2 L' : Nat} {U V U' V' : Nat → qs} {Z Z' : Nat → Bool} {B B' : Nat → Int32} {k23 : Int32 → qa_T → Option (Bool × qa_T)} {x a b v r code : Int32} {y : Int32}
def qYu (N : Nat) (X : Nat → Int32) (σ : qa_T) (A : qa_T → Option (Int32 × qa_T)) (Rf : qa_T → Option qa_T) : Prop := ∃ code τ τ', A σ = some (code, τ) ∧ τ.1 (0, 0) = X ∧ Rf τ = some τ' ∧ qa_fX10_thrown τ' = code ∧ qJ N X τ'
theorem qYu_0 {A : qa_T → Option (Int32 × qa_T)} {Rf : qa_T → Option qa_T} (hX : σ.1 (0, 0) = X) (hcc : qe_cc σ σ1) (hC : qj_C σ1 t k' f' U' Z' V' L' B') (hA : A σ = some (code, σ1)) (hR : ∃ ρ', Rf σ1 = some ρ' ∧ qj_R ρ' t k' U' Z' V' L' B' ∧ qe_rr σ1 ρ' ∧ ρ'.1 (10, 21) 9 = code) (hI : qj_I N t k' f' U' Z' V' L' B') : qYu N X σ A Rf := by
  obtain ⟨ρ', b1, b2, b3, b4⟩ := hR
  exact ⟨code, σ1, ρ', hA, by rw [cc_0 hcc, hX], b1, b4, qJ_r (σ := σ1) (by rw [cc_0 hcc, hX]) hC hI b3 b2⟩
theorem i01 (h : (decide (0 ≤ a.toInt) && decide (a.toInt ≤ 1)) = true) : a = nI (qn a) ∧ qn a < 2 := by
  rw [Bool.and_eq_true, decide_eq_true_eq, decide_eq_true_eq] at h
  have h1 := qn_int h.1
  exact ⟨qn_of h.1, by omega⟩
theorem w01 : qa_fX9_isWithin a (Int32.ofInt 0) (Int32.ofInt 1) σ = (decide (0 ≤ a.toInt) && decide (a.toInt ≤ 1)) := by rw [iw_x, qk_a0, qk_a1, qk_t0, qk_t1]
theorem x01 : qa_fX10_in a (Int32.ofInt 0) (Int32.ofInt 1) σ = (decide (0 ≤ a.toInt) && decide (a.toInt ≤ 1)) := by rw [in_x, qk_a0, qk_a1, qk_t0, qk_t1]
theorem y_keep (h : qJ N X σ) : qYu N X σ (fun σ => qa_fL_keep a σ) (fun σ => qa_fX10_keep a σ) := by
  obtain ⟨hX, s, k, f, U, Z, V, L2, B, hC, hR, hI⟩ := h
  have hs := hI.1.1.1.1
  by_cases d : (decide (0 ≤ a.toInt) && decide (a.toInt ≤ 1)) = true
  · obtain ⟨d1, d2⟩ := i01 d
    obtain ⟨σ1, p1, p2, p3⟩ := cl_keep d2 hC hs
    obtain ⟨ρ', r1, r2, r3, r4⟩ := rf_keep d2 (jr_cc hR p3)
    rw [← d1] at p1 r1
    refine qYu_0 (code := 0) hX p3 p2 ?_ ⟨ρ', r1, r2, r3, r4⟩ ⟨hI.1, hI.2.1, hI.2.2.1, hI.2.2.2.1, fun i hi hz => ?_, hI.2.2.2.2.2⟩
    · unfold qa_fL_keep
      rw [p1, Option.bind_some]
      rfl
    · unfold qv_V
      by_cases e : i = qn a
      · rw [if_pos e]
        exact hI.1
      · rw [if_neg e]
        refine hI.2.2.2.2.1 i hi ?_
        unfold qv_Z at hz
        rw [if_neg e] at hz
        exact hz
  · have df := Bool.eq_false_iff.mpr d
    refine qYu_0 (code := 1) hX cc_r hC ?_ ⟨qa_wi σ (10, 21) 9 1, ?_, jr_9 hR, r9, wi_eq⟩ hI
    · unfold qa_fL_keep qa_fX9_keep
      rw [w01, df, if_pos (show qa_bi false = 0 from rfl), Option.bind_some]
      rfl
    · unfold qa_fX10_keep qa_fX10_keep_15
      dsimp only
      rw [x01, df, if_pos (show qa_bi false = 0 from rfl), qk_a1, show qa_fu = 2999 + 1 from rfl, qa_fX10_keep_20, if_neg (by decide), wi_eq, if_pos (by decide)]
      unfold qa_fX10_keep_58 qa_fX10_keep_72
      rw [wi_eq, if_pos (by decide)]
theorem y_goBack (h : qJ N X σ) : qYu N X σ (fun σ => qa_fL_goBack a σ) (fun σ => qa_fX10_goBack a σ) := by
  obtain ⟨hX, s, k, f, U, Z, V, L2, B, hC, hR, hI⟩ := h
  have hs := hI.1.1.1.1
  by_cases d : (decide (0 ≤ a.toInt) && decide (a.toInt ≤ 1)) = true
  · obtain ⟨d1, d2⟩ := i01 d
    have hsn : qa_fX9_hasSnapshot a σ = Z (qn a) := by
      unfold qa_fX9_hasSnapshot qa_fX9_hasSnapshot_26
      rw [d1, if_neg (nI_pos (by omega)), if_neg (show ¬ Int32.ofNat 2 ≤ nI (qn a) from nI_ge d2 (by omega)), nI_clamp (by omega), hC.2.2.2.2.1 _ d2, ← d1]
      cases Z (qn a)
      · rw [if_pos (show qa_bi false = 0 from rfl)]
      · rw [if_neg (show ¬ qa_bi true = 0 by decide)]
    have e25 : ∀ ρ : qa_T, qj_R ρ s k U Z V L2 B → ρ.1 (10, 25) a.toNatClampNeg = qa_bi (Z (qn a)) ∧ qa_in a 2 = true := fun ρ h => by
      have e : a.toNatClampNeg = qn a := by
        have := nI_clamp (n := qn a) (by omega)
        rw [← d1] at this
        exact this
      refine ⟨by rw [e, h.2.2.2.1 _ d2], qz_in.mpr ?_⟩
      rw [bin] at d
      omega
    cases hz : Z (qn a)
    · refine qYu_0 (code := 2) hX cc_r hC ?_ ⟨qa_wi σ (10, 21) 9 2, ?_, jr_9 hR, r9, wi_eq⟩ hI
      · unfold qa_fL_goBack qa_fX9_goBack
        rw [w01, d, if_neg (show ¬ qa_bi true = 0 by decide), hsn, hz, if_pos (show qa_bi false = 0 from rfl), Option.bind_some]
        rfl
      · unfold qa_fX10_goBack qa_fX10_goBack_28 qa_fX10_goBack_75
        dsimp only
        rw [x01, d, if_pos (show ¬ qa_bi true = 0 by decide), if_neg (not_not_intro (e25 σ hR).2), (e25 σ hR).1, hz, if_pos (show qa_bi false = 0 from rfl), qk_a2, wi_eq, if_pos (by decide)]
    · have hV := hI.2.2.2.2.1 (qn a) d2 hz
      obtain ⟨σ1, p1, p2, p3⟩ := cl_push hC hI.2.1 hI.2.2.1 hs
      obtain ⟨σ2, q1, q2, q3⟩ := cl_back d2 p2 hz hV.1.1.1
      have hR2 := jr_cc hR (cc_t p3 q3)
      obtain ⟨ρ1, r1, r2, r3, _, r5⟩ := mu_r hR2 hI.2.1
      obtain ⟨ρ2, u1, u2, u3, u4⟩ := rf_back d2 r2 hz hI.1.2.2 hV.2.2
      refine qYu_0 (code := 0) hX (cc_t p3 q3) q2 ?_ ⟨ρ2, ?_, u2, rr_t r3 u3, by rw [u4 9 (by omega), r5]⟩ (ji_push hI hV (Nat.le_refl _))
      · unfold qa_fL_goBack qa_fX9_goBack qa_fX9_goBack_63
        have g1 : ¬ a < 0 := by rw [d1]; exact nI_pos (by omega)
        have g2 : ¬ Int32.ofNat 2 ≤ a := by rw [d1]; exact nI_ge d2 (by omega)
        have g3 : a.toNatClampNeg = qn a := by
          have := nI_clamp (n := qn a) (by omega)
          rw [← d1] at this
          exact this
        rw [w01, d, if_neg (show ¬ qa_bi true = 0 by decide), hsn, hz, if_neg (show ¬ qa_bi true = 0 by decide), p1, Option.bind_some, if_neg g1, if_neg g2, g3, q1, Option.bind_some, Option.bind_some]
        rfl
      · unfold qa_fX10_goBack qa_fX10_goBack_28
        dsimp only
        rw [← d1, nI_0] at u1
        rw [x01, d, if_pos (show ¬ qa_bi true = 0 by decide), if_neg (not_not_intro (e25 σ2 hR2).2), (e25 σ2 hR2).1, hz, if_neg (show ¬ qa_bi true = 0 by decide), qk_a0, wi_eq, if_neg (by decide), r1, Option.bind_some, u1]
  · have df := Bool.eq_false_iff.mpr d
    refine qYu_0 (code := 1) hX cc_r hC ?_ ⟨qa_wi σ (10, 21) 9 1, ?_, jr_9 hR, r9, wi_eq⟩ hI
    · unfold qa_fL_goBack qa_fX9_goBack
      rw [w01, df, if_pos (show qa_bi false = 0 from rfl), Option.bind_some]
      rfl
    · unfold qa_fX10_goBack qa_fX10_goBack_28 qa_fX10_goBack_75
      dsimp only
      rw [x01, df, if_neg (not_not_intro (show qa_bi false = 0 from rfl)), qk_a1, wi_eq, if_pos (by decide)]
theorem y_undo (h : qJ N X σ) : qYu N X σ qa_fL_undo qa_fX10_undo := by
  obtain ⟨hX, s, k, f, U, Z, V, L2, B, hC, hR, hI⟩ := h
  have hs := hI.1.1.1.1
  have hk := hI.2.1
  cases k with
  | zero =>
    refine qYu_0 (code := 1) hX cc_r hC ?_ ⟨qa_wi σ (10, 21) 9 1, ?_, jr_9 hR, r9, wi_eq⟩ hI
    · unfold qa_fL_undo qa_fX9_undo qa_fX9_undo_15
      rw [hC.2.1, if_pos (by decide), qk_a0, if_pos rfl, Option.bind_some]
      rfl
    · unfold qa_fX10_undo qa_fX10_undo_13 qa_fX10_undo_69
      dsimp only
      rw [hR.2.1, nI_0, if_neg (not_not_intro rfl), qk_a1, wi_eq, if_pos (by decide)]
  | succ k =>
    have hU := hI.2.2.2.1 k (by omega)
    obtain ⟨σ1, p1, p2, p3⟩ := cl_pop hC (by omega) hI.2.2.1 hU.1.1.1
    obtain ⟨ρ', r1, r2, r3, r4⟩ := rf_undo (jr_cc hR p3) (by omega) hI.1.2.2 hU.2.2
    refine qYu_0 (code := 0) hX p3 p2 ?_ ⟨ρ', r1, r2, r3, r4⟩ ⟨hU, by omega, hI.2.2.1, fun i hi => hI.2.2.2.1 i (by omega), hI.2.2.2.2⟩
    unfold qa_fL_undo qa_fX9_undo qa_fX9_undo_15
    rw [hC.2.1, if_neg (nI_nle (by omega) (by omega)), qk_a1, if_neg (by decide), p1, Option.bind_some, Option.bind_some]
    rfl
end QMH
