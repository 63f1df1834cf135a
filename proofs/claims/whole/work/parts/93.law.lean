/-! the law's calls (8): the rules of the show -/
section QME
variable {σ σ1 σ2 σ' τ ρ : qa_T} {s t : qs} {X : Nat → Int32} {N M k k' f f' j p L L2 L' : Nat} {U V U' V' : Nat → qs} {Z Z' : Nat → Bool} {B B' : Nat → Int32} {k23 : Int32 → qa_T → Option (Bool × qa_T)} {x a v r code : Int32} {y : Int32}
theorem ta_u {i : Nat} (hi : 163 ≤ i) (hn : qn (s 0) ≤ 16) : qr_ta (upd s i v) = qr_ta s := ta_q (pk_un (by omega)) (pk_un (by omega)) (fun k hk => ⟨pk_un (by omega), pk_un (by omega)⟩)
theorem y_changeMemory (h : qJ N X σ) : qY N X σ (fun σ => qa_fL_changeMemory a σ) (fun σ => qa_fX10_changeMemory a σ) := by
  obtain ⟨hX, s, k, f, U, Z, V, L2, B, hC, hR, hI⟩ := h
  have hP := hI.1
  have hs := hP.1.1.1
  have e1 : ∀ σ : qa_T, qa_fX9_isWithin a ((Int16.ofInt 150).toInt32) ((Int16.ofInt 400).toInt32) σ = (decide (150 ≤ a.toInt) && decide (a.toInt ≤ 400)) := fun σ => by rw [iw_x, qk_c150, qk_c400, qk_t150, qk_t400]
  have e2 : ∀ σ : qa_T, qa_fX10_in a ((Int16.ofInt 150).toInt32) ((Int16.ofInt 400).toInt32) σ = (decide (150 ≤ a.toInt) && decide (a.toInt ≤ 400)) := fun σ => by rw [in_x, qk_c150, qk_c400, qk_t150, qk_t400]
  by_cases c : (decide (150 ≤ a.toInt) && decide (a.toInt ≤ 400)) = true
  · have c' := c
    rw [Bool.and_eq_true, decide_eq_true_eq, decide_eq_true_eq] at c'
    have hse : qi_se (upd s 163 a) := by
      have := hP.1.1.2.2.2.2.2.1
      unfold qi_se at this ⊢
      simp (disch := omega) only [pk_us, pk_un, qz_ue]
      omega
    have hA2 : qi_A N (upd s 163 a) := se_A hP.1.1 (by omega) (by omega) hse
    have hI2 : qi_I N (qr_mr 0 (upd s 163 a)).2 := mr_I hA2
    have hP2 : qi_P N (qr_bg (qr_mr 0 (upd s 163 a)).2) := bg_P hI2 (fun j hj => by rw [mr_o hA2.1 (by omega) (by omega), pk_un (by omega), hP.2.2 j hj])
    obtain ⟨σ1, p1, p2, p3⟩ := cl_push hC hI.2.1 hI.2.2.1 hs
    have q1 : qe_R 1 (qa_wi σ1 (1, 14) 0 a) (upd s 163 a) := ⟨ra_w p2.1.1 (i := 163) (by omega) (by omega) (by omega) rfl rfl, by rw [wi_np (by decide), p2.1.2, ta_u (by omega) (qi_n hs).2]⟩
    have q2 : qe_F 1 σ1 (qa_wi σ1 (1, 14) 0 a) := qe_Fw (by omega)
    have eo : σ1.1 (1, 14) 0 = s 163 := ra_163 p2.1.1
    obtain ⟨σ', w1, w2, w3⟩ := cl_bd (m := 0) (x := a) q1 hA2 (by rw [pk_us]; omega)
    obtain ⟨σ2, m1, m2, m3⟩ := mu_c p2 (qe_Ft q2 w3) w2 hI2
    refine mu_0 (v := s 163) hX m2 (cc_t p3 m3) hR hI hP2 (Nat.le_refl _) ?_ (fun ρ ρ1 r1 r2 r3 => ⟨ρ1.1 (10, 21) 10, ?_⟩)
    · unfold qa_fL_changeMemory qa_fX9_changeMemory
      rw [e1, c, if_neg (show ¬ qa_bi true = 0 by decide), p1, Option.bind_some]
      dsimp only
      rw [w1, Option.bind_some, m1, Option.bind_some, Option.bind_some, eo]
      rfl
    · unfold qa_fX10_changeMemory qa_fX10_changes
      dsimp only
      have g0 := jr_self r3
      have g1 : ρ1.1 (10, 22) (((Int16.ofInt 163).toInt32)).toNatClampNeg = s 163 := by rw [r3.1]; rfl
      have g2 : qa_wi ρ1 (10, 22) (((Int16.ofInt 163).toInt32)).toNatClampNeg a = qw ρ1 (upd s 163 a) (ρ1.1 (10, 21) 10) := by
        have e := qw_wi (ρ := ρ1) (s := s) (y := ρ1.1 (10, 21) 10) 163 a
        rw [← g0] at e
        exact e
      have g3 := rf_mr (ρ := ρ1) (y := ρ1.1 (10, 21) 10) hA2.2.1 hA2.1 hse (b := 0) (by decide) (by decide)
      rw [qk_t0] at g3
      rw [e2, c, if_pos (show ¬ qa_bi true = 0 by decide), qk_a0, r2, Option.bind_some, if_neg (by decide), g1, if_neg (by decide), g2, g3, Option.bind_some]
      dsimp only
      rw [rf_bg hI2.1, Option.bind_some, Option.bind_some]
  · have cf := Bool.eq_false_iff.mpr c
    refine qY_1 (code := 1) hX cc_r hC ?_ (by decide) ⟨0, qa_wi (qa_wi σ (10, 21) 9 0) (10, 21) 9 1, ?_, jr_9 (jr_9 hR), rr_t r9 r9, wi_eq⟩ hI
    · unfold qa_fL_changeMemory qa_fX9_changeMemory
      rw [e1, cf, if_pos (show qa_bi false = 0 from rfl), Option.bind_some]
      rfl
    · unfold qa_fX10_changeMemory qa_fX10_changes
      dsimp only
      rw [e2, cf, if_neg (not_not_intro (show qa_bi false = 0 from rfl))]
      rfl
theorem y_changeAhead (h : qJ N X σ) : qY N X σ (fun σ => qa_fL_changeAhead a σ) (fun σ => qa_fX10_changeAhead a σ) := by
  obtain ⟨hX, s, k, f, U, Z, V, L2, B, hC, hR, hI⟩ := h
  have hP := hI.1
  have hs := hP.1.1.1
  have e1 : ∀ σ : qa_T, qa_fX9_isWithin a (Int32.ofInt 0) (Int32.ofInt 4) σ = (decide (0 ≤ a.toInt) && decide (a.toInt ≤ 4)) := fun σ => by rw [iw_x, qk_a0, qk_a4, qk_t0, qk_t4]
  have e2 : ∀ σ : qa_T, qa_fX10_in a (Int32.ofInt 0) (Int32.ofInt 4) σ = (decide (0 ≤ a.toInt) && decide (a.toInt ≤ 4)) := fun σ => by rw [in_x, qk_a0, qk_a4, qk_t0, qk_t4]
  by_cases c : (decide (0 ≤ a.toInt) && decide (a.toInt ≤ 4)) = true
  · have c' := c
    rw [Bool.and_eq_true, decide_eq_true_eq, decide_eq_true_eq] at c'
    have hse : qi_se (upd s 164 a) := by
      have := hP.1.1.2.2.2.2.2.1
      unfold qi_se at this ⊢
      simp (disch := omega) only [pk_us, pk_un, qz_ue]
      omega
    have hI2 : qi_I N (upd s 164 a) := se_I hP.1 (by omega) (by omega) hse
    have hP2 : qi_P N (qr_bg (upd s 164 a)) := bg_P hI2 (fun j hj => by rw [pk_un (by omega), hP.2.2 j hj])
    obtain ⟨σ1, p1, p2, p3⟩ := cl_push hC hI.2.1 hI.2.2.1 hs
    have q1 : qe_R 1 (qa_wi σ1 (1, 14) 1 a) (upd s 164 a) := ⟨ra_w p2.1.1 (i := 164) (by omega) (by omega) (by omega) rfl rfl, by rw [wi_np (by decide), p2.1.2, ta_u (by omega) (qi_n hs).2]⟩
    have q2 : qe_F 1 σ1 (qa_wi σ1 (1, 14) 1 a) := qe_Fw (by omega)
    have eo : σ1.1 (1, 14) 1 = s 164 := ra_164 p2.1.1
    obtain ⟨σ2, m1, m2, m3⟩ := mu_c p2 q2 q1 hI2
    refine mu_0 (v := s 164) hX m2 (cc_t p3 m3) hR hI hP2 (Nat.le_refl _) ?_ (fun ρ ρ1 r1 r2 r3 => ⟨ρ1.1 (10, 21) 10, ?_⟩)
    · unfold qa_fL_changeAhead qa_fX9_changeAhead
      rw [e1, c, if_neg (show ¬ qa_bi true = 0 by decide), p1, Option.bind_some]
      dsimp only
      rw [m1, Option.bind_some, Option.bind_some, eo]
      rfl
    · unfold qa_fX10_changeAhead qa_fX10_changes
      dsimp only
      have g0 := jr_self r3
      have g1 : ρ1.1 (10, 22) (((Int16.ofInt 164).toInt32)).toNatClampNeg = s 164 := by rw [r3.1]; rfl
      have g2 : qa_wi ρ1 (10, 22) (((Int16.ofInt 164).toInt32)).toNatClampNeg a = qw ρ1 (upd s 164 a) (ρ1.1 (10, 21) 10) := by
        have e := qw_wi (ρ := ρ1) (s := s) (y := ρ1.1 (10, 21) 10) 164 a
        rw [← g0] at e
        exact e
      have g3 := rf_mr (ρ := ρ1) (y := ρ1.1 (10, 21) 10) hI2.1.2.1 hI2.1.1 hse (b := 0) (by decide) (by decide)
      rw [qk_t0, mr_0 hI2] at g3
      dsimp only at g3
      rw [e2, c, if_pos (show ¬ qa_bi true = 0 by decide), qk_a0, r2, Option.bind_some, if_neg (by decide), g1, if_neg (by decide), g2, g3, Option.bind_some]
      dsimp only
      rw [rf_bg hI2.1, Option.bind_some, Option.bind_some]
  · have cf := Bool.eq_false_iff.mpr c
    refine qY_1 (code := 1) hX cc_r hC ?_ (by decide) ⟨0, qa_wi (qa_wi σ (10, 21) 9 0) (10, 21) 9 1, ?_, jr_9 (jr_9 hR), rr_t r9 r9, wi_eq⟩ hI
    · unfold qa_fL_changeAhead qa_fX9_changeAhead
      rw [e1, cf, if_pos (show qa_bi false = 0 from rfl), Option.bind_some]
      rfl
    · unfold qa_fX10_changeAhead qa_fX10_changes
      dsimp only
      rw [e2, cf, if_neg (not_not_intro (show qa_bi false = 0 from rfl))]
      rfl
theorem y_changeOrder (h : qJ N X σ) : qY N X σ (fun σ => qa_fL_changeOrder a σ) (fun σ => qa_fX10_changeOrder a σ) := by
  obtain ⟨hX, s, k, f, U, Z, V, L2, B, hC, hR, hI⟩ := h
  have hP := hI.1
  have hs := hP.1.1.1
  have e1 : ∀ σ : qa_T, qa_fX9_isWithin a (Int32.ofInt 0) (Int32.ofInt 2) σ = (decide (0 ≤ a.toInt) && decide (a.toInt ≤ 2)) := fun σ => by rw [iw_x, qk_a0, qk_a2, qk_t0, qk_t2]
  have e2 : ∀ σ : qa_T, qa_fX10_in a (Int32.ofInt 0) (Int32.ofInt 2) σ = (decide (0 ≤ a.toInt) && decide (a.toInt ≤ 2)) := fun σ => by rw [in_x, qk_a0, qk_a2, qk_t0, qk_t2]
  by_cases c : (decide (0 ≤ a.toInt) && decide (a.toInt ≤ 2)) = true
  · have c' := c
    rw [Bool.and_eq_true, decide_eq_true_eq, decide_eq_true_eq] at c'
    have hse : qi_se (upd s 165 a) := by
      have := hP.1.1.2.2.2.2.2.1
      unfold qi_se at this ⊢
      simp (disch := omega) only [pk_us, pk_un, qz_ue]
      omega
    have hI2 : qi_I N (upd s 165 a) := se_I hP.1 (by omega) (by omega) hse
    have hP2 : qi_P N (qr_bg (upd s 165 a)) := bg_P hI2 (fun j hj => by rw [pk_un (by omega), hP.2.2 j hj])
    obtain ⟨σ1, p1, p2, p3⟩ := cl_push hC hI.2.1 hI.2.2.1 hs
    have q1 : qe_R 1 (qa_wi σ1 (1, 14) 2 a) (upd s 165 a) := ⟨ra_w p2.1.1 (i := 165) (by omega) (by omega) (by omega) rfl rfl, by rw [wi_np (by decide), p2.1.2, ta_u (by omega) (qi_n hs).2]⟩
    have q2 : qe_F 1 σ1 (qa_wi σ1 (1, 14) 2 a) := qe_Fw (by omega)
    have eo : σ1.1 (1, 14) 2 = s 165 := ra_165 p2.1.1
    obtain ⟨σ2, m1, m2, m3⟩ := mu_c p2 q2 q1 hI2
    refine mu_0 (v := s 165) hX m2 (cc_t p3 m3) hR hI hP2 (Nat.le_refl _) ?_ (fun ρ ρ1 r1 r2 r3 => ⟨ρ1.1 (10, 21) 10, ?_⟩)
    · unfold qa_fL_changeOrder qa_fX9_changeOrder
      rw [e1, c, if_neg (show ¬ qa_bi true = 0 by decide), p1, Option.bind_some]
      dsimp only
      rw [m1, Option.bind_some, Option.bind_some, eo]
      rfl
    · unfold qa_fX10_changeOrder qa_fX10_changes
      dsimp only
      have g0 := jr_self r3
      have g1 : ρ1.1 (10, 22) (((Int16.ofInt 165).toInt32)).toNatClampNeg = s 165 := by rw [r3.1]; rfl
      have g2 : qa_wi ρ1 (10, 22) (((Int16.ofInt 165).toInt32)).toNatClampNeg a = qw ρ1 (upd s 165 a) (ρ1.1 (10, 21) 10) := by
        have e := qw_wi (ρ := ρ1) (s := s) (y := ρ1.1 (10, 21) 10) 165 a
        rw [← g0] at e
        exact e
      have g3 := rf_mr (ρ := ρ1) (y := ρ1.1 (10, 21) 10) hI2.1.2.1 hI2.1.1 hse (b := 0) (by decide) (by decide)
      rw [qk_t0, mr_0 hI2] at g3
      dsimp only at g3
      rw [e2, c, if_pos (show ¬ qa_bi true = 0 by decide), qk_a0, r2, Option.bind_some, if_neg (by decide), g1, if_neg (by decide), g2, g3, Option.bind_some]
      dsimp only
      rw [rf_bg hI2.1, Option.bind_some, Option.bind_some]
  · have cf := Bool.eq_false_iff.mpr c
    refine qY_1 (code := 1) hX cc_r hC ?_ (by decide) ⟨0, qa_wi (qa_wi σ (10, 21) 9 0) (10, 21) 9 1, ?_, jr_9 (jr_9 hR), rr_t r9 r9, wi_eq⟩ hI
    · unfold qa_fL_changeOrder qa_fX9_changeOrder
      rw [e1, cf, if_pos (show qa_bi false = 0 from rfl), Option.bind_some]
      rfl
    · unfold qa_fX10_changeOrder qa_fX10_changes
      dsimp only
      rw [e2, cf, if_neg (not_not_intro (show qa_bi false = 0 from rfl))]
      rfl
theorem y_changeGlow (h : qJ N X σ) : qY N X σ (fun σ => qa_fL_changeGlow a σ) (fun σ => qa_fX10_changeGlow a σ) := by
  obtain ⟨hX, s, k, f, U, Z, V, L2, B, hC, hR, hI⟩ := h
  have hP := hI.1
  have hs := hP.1.1.1
  have e1 : ∀ σ : qa_T, qa_fX9_isWithin a (Int32.ofInt 0) ((Int8.ofInt 20).toInt32) σ = (decide (0 ≤ a.toInt) && decide (a.toInt ≤ 20)) := fun σ => by rw [iw_x, qk_a0, qk_b20, qk_t0, qk_t20]
  have e2 : ∀ σ : qa_T, qa_fX10_in a (Int32.ofInt 0) ((Int8.ofInt 20).toInt32) σ = (decide (0 ≤ a.toInt) && decide (a.toInt ≤ 20)) := fun σ => by rw [in_x, qk_a0, qk_b20, qk_t0, qk_t20]
  by_cases c : (decide (0 ≤ a.toInt) && decide (a.toInt ≤ 20)) = true
  · have c' := c
    rw [Bool.and_eq_true, decide_eq_true_eq, decide_eq_true_eq] at c'
    have hse : qi_se (upd s 166 a) := by
      have := hP.1.1.2.2.2.2.2.1
      unfold qi_se at this ⊢
      simp (disch := omega) only [pk_us, pk_un, qz_ue]
      omega
    have hI2 : qi_I N (upd s 166 a) := se_I hP.1 (by omega) (by omega) hse
    have hP2 : qi_P N (qr_bg (upd s 166 a)) := bg_P hI2 (fun j hj => by rw [pk_un (by omega), hP.2.2 j hj])
    obtain ⟨σ1, p1, p2, p3⟩ := cl_push hC hI.2.1 hI.2.2.1 hs
    have q1 : qe_R 1 (qa_wi σ1 (1, 14) 3 a) (upd s 166 a) := ⟨ra_w p2.1.1 (i := 166) (by omega) (by omega) (by omega) rfl rfl, by rw [wi_np (by decide), p2.1.2, ta_u (by omega) (qi_n hs).2]⟩
    have q2 : qe_F 1 σ1 (qa_wi σ1 (1, 14) 3 a) := qe_Fw (by omega)
    have eo : σ1.1 (1, 14) 3 = s 166 := ra_166 p2.1.1
    obtain ⟨σ2, m1, m2, m3⟩ := mu_c p2 q2 q1 hI2
    refine mu_0 (v := s 166) hX m2 (cc_t p3 m3) hR hI hP2 (Nat.le_refl _) ?_ (fun ρ ρ1 r1 r2 r3 => ⟨ρ1.1 (10, 21) 10, ?_⟩)
    · unfold qa_fL_changeGlow qa_fX9_changeGlow
      rw [e1, c, if_neg (show ¬ qa_bi true = 0 by decide), p1, Option.bind_some]
      dsimp only
      rw [m1, Option.bind_some, Option.bind_some, eo]
      rfl
    · unfold qa_fX10_changeGlow qa_fX10_changes
      dsimp only
      have g0 := jr_self r3
      have g1 : ρ1.1 (10, 22) (((Int16.ofInt 166).toInt32)).toNatClampNeg = s 166 := by rw [r3.1]; rfl
      have g2 : qa_wi ρ1 (10, 22) (((Int16.ofInt 166).toInt32)).toNatClampNeg a = qw ρ1 (upd s 166 a) (ρ1.1 (10, 21) 10) := by
        have e := qw_wi (ρ := ρ1) (s := s) (y := ρ1.1 (10, 21) 10) 166 a
        rw [← g0] at e
        exact e
      have g3 := rf_mr (ρ := ρ1) (y := ρ1.1 (10, 21) 10) hI2.1.2.1 hI2.1.1 hse (b := 0) (by decide) (by decide)
      rw [qk_t0, mr_0 hI2] at g3
      dsimp only at g3
      rw [e2, c, if_pos (show ¬ qa_bi true = 0 by decide), qk_a0, r2, Option.bind_some, if_neg (by decide), g1, if_neg (by decide), g2, g3, Option.bind_some]
      dsimp only
      rw [rf_bg hI2.1, Option.bind_some, Option.bind_some]
  · have cf := Bool.eq_false_iff.mpr c
    refine qY_1 (code := 1) hX cc_r hC ?_ (by decide) ⟨0, qa_wi (qa_wi σ (10, 21) 9 0) (10, 21) 9 1, ?_, jr_9 (jr_9 hR), rr_t r9 r9, wi_eq⟩ hI
    · unfold qa_fL_changeGlow qa_fX9_changeGlow
      rw [e1, cf, if_pos (show qa_bi false = 0 from rfl), Option.bind_some]
      rfl
    · unfold qa_fX10_changeGlow qa_fX10_changes
      dsimp only
      rw [e2, cf, if_neg (not_not_intro (show qa_bi false = 0 from rfl))]
      rfl
theorem y_changePace (h : qJ N X σ) : qY N X σ (fun σ => qa_fL_changePace a σ) (fun σ => qa_fX10_changePace a σ) := by
  obtain ⟨hX, s, k, f, U, Z, V, L2, B, hC, hR, hI⟩ := h
  have hP := hI.1
  have hs := hP.1.1.1
  have e1 : ∀ σ : qa_T, qa_fX9_isWithin a (Int32.ofInt 0) ((Int8.ofInt 50).toInt32) σ = (decide (0 ≤ a.toInt) && decide (a.toInt ≤ 50)) := fun σ => by rw [iw_x, qk_a0, qk_b50, qk_t0, qk_t50]
  have e2 : ∀ σ : qa_T, qa_fX10_in a (Int32.ofInt 0) ((Int8.ofInt 50).toInt32) σ = (decide (0 ≤ a.toInt) && decide (a.toInt ≤ 50)) := fun σ => by rw [in_x, qk_a0, qk_b50, qk_t0, qk_t50]
  by_cases c : (decide (0 ≤ a.toInt) && decide (a.toInt ≤ 50)) = true
  · have c' := c
    rw [Bool.and_eq_true, decide_eq_true_eq, decide_eq_true_eq] at c'
    have hse : qi_se (upd s 167 a) := by
      have := hP.1.1.2.2.2.2.2.1
      unfold qi_se at this ⊢
      simp (disch := omega) only [pk_us, pk_un, qz_ue]
      omega
    have hI2 : qi_I N (upd s 167 a) := se_I hP.1 (by omega) (by omega) hse
    have hP2 : qi_P N (qr_bg (upd s 167 a)) := bg_P hI2 (fun j hj => by rw [pk_un (by omega), hP.2.2 j hj])
    obtain ⟨σ1, p1, p2, p3⟩ := cl_push hC hI.2.1 hI.2.2.1 hs
    have q1 : qe_R 1 (qa_wi σ1 (1, 14) 4 a) (upd s 167 a) := ⟨ra_w p2.1.1 (i := 167) (by omega) (by omega) (by omega) rfl rfl, by rw [wi_np (by decide), p2.1.2, ta_u (by omega) (qi_n hs).2]⟩
    have q2 : qe_F 1 σ1 (qa_wi σ1 (1, 14) 4 a) := qe_Fw (by omega)
    have eo : σ1.1 (1, 14) 4 = s 167 := ra_167 p2.1.1
    obtain ⟨σ2, m1, m2, m3⟩ := mu_c p2 q2 q1 hI2
    refine mu_0 (v := s 167) hX m2 (cc_t p3 m3) hR hI hP2 (Nat.le_refl _) ?_ (fun ρ ρ1 r1 r2 r3 => ⟨ρ1.1 (10, 21) 10, ?_⟩)
    · unfold qa_fL_changePace qa_fX9_changePace
      rw [e1, c, if_neg (show ¬ qa_bi true = 0 by decide), p1, Option.bind_some]
      dsimp only
      rw [m1, Option.bind_some, Option.bind_some, eo]
      rfl
    · unfold qa_fX10_changePace qa_fX10_changes
      dsimp only
      have g0 := jr_self r3
      have g1 : ρ1.1 (10, 22) (((Int16.ofInt 167).toInt32)).toNatClampNeg = s 167 := by rw [r3.1]; rfl
      have g2 : qa_wi ρ1 (10, 22) (((Int16.ofInt 167).toInt32)).toNatClampNeg a = qw ρ1 (upd s 167 a) (ρ1.1 (10, 21) 10) := by
        have e := qw_wi (ρ := ρ1) (s := s) (y := ρ1.1 (10, 21) 10) 167 a
        rw [← g0] at e
        exact e
      have g3 := rf_mr (ρ := ρ1) (y := ρ1.1 (10, 21) 10) hI2.1.2.1 hI2.1.1 hse (b := 0) (by decide) (by decide)
      rw [qk_t0, mr_0 hI2] at g3
      dsimp only at g3
      rw [e2, c, if_pos (show ¬ qa_bi true = 0 by decide), qk_a0, r2, Option.bind_some, if_neg (by decide), g1, if_neg (by decide), g2, g3, Option.bind_some]
      dsimp only
      rw [rf_bg hI2.1, Option.bind_some, Option.bind_some]
  · have cf := Bool.eq_false_iff.mpr c
    refine qY_1 (code := 1) hX cc_r hC ?_ (by decide) ⟨0, qa_wi (qa_wi σ (10, 21) 9 0) (10, 21) 9 1, ?_, jr_9 (jr_9 hR), rr_t r9 r9, wi_eq⟩ hI
    · unfold qa_fL_changePace qa_fX9_changePace
      rw [e1, cf, if_pos (show qa_bi false = 0 from rfl), Option.bind_some]
      rfl
    · unfold qa_fX10_changePace qa_fX10_changes
      dsimp only
      rw [e2, cf, if_neg (not_not_intro (show qa_bi false = 0 from rfl))]
      rfl
end QME
