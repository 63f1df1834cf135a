/-! the law's calls (9): the programme, slides, the text, what is kept -/
section QMF
variable {σ σ1 σ2 σ' τ ρ : qa_T} {s t : qs} {X : Nat → Int32} {N M k k' f f' j p L L2 L' : Nat} {U V U' V' : Nat → qs} {Z Z' : Nat → Bool} {B B' : Nat → Int32} {k23 : Int32 → qa_T → Option (Bool × qa_T)} {x a b c1 c2 c3 v r code : Int32} {y : Int32}
theorem e_113 (hR : qj_R ρ s k U Z V L2 B) {w : Int32} : (qa_wi ρ (10, 21) 9 w).1 (10, 22) (((Int8.ofInt 113).toInt32)).toNatClampNeg = s 113 := by
  rw [wi_np (by decide), hR.1]
  rfl
theorem y_insert (h : qJ N X σ) : qY N X σ (fun σ => qa_fL_insert a b σ) (fun σ => qa_fX10_insert a b σ) := by
  obtain ⟨hX, s, k, f, U, Z, V, L2, B, hC, hR, hI⟩ := h
  have hP := hI.1
  have hs := hP.1.1.1
  have hp := hP.1.1.2.1
  have hp0 := qn_int hp.1
  have hp24 := hp.2.1
  have e1 : qa_fX9_isWithin a (Int32.ofInt 0) (σ.1 (1, 9) 0) σ = (decide (0 ≤ a.toInt) && decide (a.toInt ≤ (s 113).toInt)) := by rw [iw_x, qk_a0, qk_t0, ra_113 hC.1.1]
  have e2 : ∀ σ : qa_T, qa_fX10_in a (Int32.ofInt 0) (s 113) σ = (decide (0 ≤ a.toInt) && decide (a.toInt ≤ (s 113).toInt)) := fun σ => by rw [in_x, qk_a0, qk_t0]
  by_cases c : qi_is s b = true
  · obtain ⟨d1, d2, d3⟩ := is_n hs c
    by_cases d : (decide (0 ≤ a.toInt) && decide (a.toInt ≤ (s 113).toInt)) = true
    · have d' := d
      rw [Bool.and_eq_true, decide_eq_true_eq, decide_eq_true_eq] at d'
      have ca : a = nI (qn a) := qn_of d'.1
      have cn := qn_int d'.1
      by_cases g : (s 113).toInt < 24
      · have hI2 := ip_I (p := qn a) (a := qn b) hP.1 d2 (by omega) g
        have hP2 : qi_P N (qr_bg (qr_ip s (qn a) (qn b))) := bg_P hI2 (fun j hj => by rw [ip_o (by omega) (by omega) (by omega), hP.2.2 j hj])
        obtain ⟨σ1, p1, p2, p3⟩ := cl_push hC hI.2.1 hI.2.2.1 hs
        obtain ⟨σ', q1, q2, q3⟩ := cl_put (p := qn a) (a := qn b) p2.1 hs hp g (by omega)
        obtain ⟨σ2, m1, m2, m3⟩ := mu_c p2 q3 q2 hI2
        refine mu_0 (v := qr_bg (qr_ip s (qn a) (qn b)) 113) hX m2 (cc_t p3 m3) hR hI hP2 (Nat.le_refl _) ?_ (fun ρ ρ1 r1 r2 r3 => ⟨ρ1.1 (10, 21) 10, ?_⟩)
        · unfold qa_fL_insert qa_fX9_insert qa_fX9_insert_37 qa_fX9_insert_60
          rw [← ca, ← d1] at q1
          have n24 : ¬ ((Int8.ofInt 24).toInt32) ≤ s 113 := fun t => by
            rw [qk_b24, qz_le, qk_t24] at t
            omega
          rw [e1, d, if_neg (show ¬ qa_bi true = 0 by decide), cl_is hC hs, c, if_neg (show ¬ qa_bi true = 0 by decide), qk_a1, if_neg (by decide), ra_113 hC.1.1, if_neg n24, if_neg (by decide), p1, Option.bind_some, q1, Option.bind_some, m1, Option.bind_some, Option.bind_some, ra_113 m2.1.1]
          rfl
        · unfold qa_fX10_insert
          dsimp only
          rw [rf_i1 r1 hs c]
          dsimp only
          have g5 := rf_ip (ρ := ρ1) (y := ρ1.1 (10, 21) 10) (p := qn a) (a := qn b) hp g (by omega) hI2.1
          rw [← jr_self r3, ← ca, ← d1] at g5
          have n24 : ¬ s 113 = ((Int8.ofInt 24).toInt32) := fun t => by
            rw [t] at g
            revert g
            decide
          rw [if_neg (show ¬ qa_bi true = 0 by decide), e_113 r1, e2, d, if_pos (show ¬ qa_bi true = 0 by decide), if_pos n24, r2, Option.bind_some, g5, Option.bind_some]
      · refine qY_1 (code := 2) hX cc_r hC ?_ (by decide) ⟨0, qa_wi (qa_wi σ (10, 21) 9 0) (10, 21) 9 2, ?_, jr_9 (jr_9 hR), rr_t r9 r9, wi_eq⟩ hI
        · unfold qa_fL_insert qa_fX9_insert qa_fX9_insert_37 qa_fX9_insert_60
          have n24 : ((Int8.ofInt 24).toInt32) ≤ s 113 := by
            rw [qk_b24, qz_le, qk_t24]
            omega
          rw [e1, d, if_neg (show ¬ qa_bi true = 0 by decide), cl_is hC hs, c, if_neg (show ¬ qa_bi true = 0 by decide), qk_a1, if_neg (by decide), ra_113 hC.1.1, if_pos n24, qk_a0, if_pos rfl, Option.bind_some]
          rfl
        · unfold qa_fX10_insert
          dsimp only
          rw [rf_i1 hR hs c]
          dsimp only
          have n24 : s 113 = ((Int8.ofInt 24).toInt32) := by
            rw [qk_b24, qz_eq, qk_t24]
            omega
          rw [if_neg (show ¬ qa_bi true = 0 by decide), e_113 hR, e2, d, if_pos (show ¬ qa_bi true = 0 by decide), if_neg (not_not_intro n24)]
          rfl
    · have df := Bool.eq_false_iff.mpr d
      refine qY_1 (code := 1) hX cc_r hC ?_ (by decide) ⟨0, qa_wi (qa_wi σ (10, 21) 9 0) (10, 21) 9 1, ?_, jr_9 (jr_9 hR), rr_t r9 r9, wi_eq⟩ hI
      · unfold qa_fL_insert qa_fX9_insert qa_fX9_insert_36 qa_fX9_insert_37
        rw [e1, df, if_pos (show qa_bi false = 0 from rfl), qk_a0, if_pos rfl, Option.bind_some]
        rfl
      · unfold qa_fX10_insert qa_fX10_insert_23
        dsimp only
        rw [rf_i1 hR hs c]
        dsimp only
        rw [if_neg (show ¬ qa_bi true = 0 by decide), e_113 hR, e2, df, if_neg (not_not_intro (show qa_bi false = 0 from rfl))]
        rfl
  · have cf := Bool.eq_false_iff.mpr c
    refine qY_1 (code := 1) hX cc_r hC ?_ (by decide) ⟨0, qa_wi (qa_wi σ (10, 21) 9 1) (10, 21) 9 1, ?_, jr_9 (jr_9 hR), rr_t r9 r9, wi_eq⟩ hI
    · unfold qa_fL_insert qa_fX9_insert qa_fX9_insert_36 qa_fX9_insert_37
      rw [e1, cl_is hC hs, cf, if_pos (show qa_bi false = 0 from rfl), qk_a0, if_pos rfl]
      by_cases d : (decide (0 ≤ a.toInt) && decide (a.toInt ≤ (s 113).toInt)) = true
      · rw [d, if_neg (show ¬ qa_bi true = 0 by decide), Option.bind_some]; rfl
      · rw [Bool.eq_false_iff.mpr d, if_pos (show qa_bi false = 0 from rfl), Option.bind_some]; rfl
    · unfold qa_fX10_insert qa_fX10_insert_23
      dsimp only
      rw [rf_i0 hR hs cf]
      dsimp only
      rw [if_pos (show qa_bi false = 0 from rfl)]
      rfl
theorem y_takeOut (h : qJ N X σ) : qY N X σ (fun σ => qa_fL_takeOut a σ) (fun σ => qa_fX10_takeOut a σ) := by
  obtain ⟨hX, s, k, f, U, Z, V, L2, B, hC, hR, hI⟩ := h
  have hP := hI.1
  have hs := hP.1.1.1
  have hp := hP.1.1.2.1
  have hp0 := qn_int hp.1
  have hp24 := hp.2.1
  by_cases c : qi_pl (s 113) a = true
  · obtain ⟨d1, d2, d3⟩ := pl_n c
    have hI2 := rp_I (p := qn a) hP.1 d2
    have hP2 : qi_P N (qr_bg (qr_rp s (qn a))) := bg_P hI2 (fun j hj => by rw [rp_o (by omega) (by omega), hP.2.2 j hj])
    obtain ⟨σ1, p1, p2, p3⟩ := cl_push hC hI.2.1 hI.2.2.1 hs
    obtain ⟨σ', q1, q2, q3⟩ := cl_rm (p := qn a) p2.1 hs hp d2
    obtain ⟨σ2, m1, m2, m3⟩ := mu_c p2 q3 q2 hI2
    refine mu_0 (v := s (114 + qn a)) hX m2 (cc_t p3 m3) hR hI hP2 (Nat.le_refl _) ?_ (fun ρ ρ1 r1 r2 r3 => ⟨ρ1.1 (10, 21) 10, ?_⟩)
    · unfold qa_fL_takeOut qa_fX9_takeOut
      rw [← d1] at q1
      rw [cl_h3 hC, c, if_neg (show ¬ qa_bi true = 0 by decide), p1, Option.bind_some, q1, Option.bind_some]
      dsimp only
      rw [m1, Option.bind_some, Option.bind_some]
      rfl
    · unfold qa_fX10_takeOut
      dsimp only
      obtain ⟨m, hm⟩ : ∃ m, qn (s 113) = m + 1 := ⟨qn (s 113) - 1, by omega⟩
      have e113 : s 113 = nI (m + 1) := by rw [← hm]; exact (qi_p hp).1
      have g0 := jr_self r3
      have g1 : ρ1.1 (10, 22) (((Int8.ofInt 113).toInt32)).toNatClampNeg = s 113 := by rw [r3.1]; rfl
      have g2 : qa_wi ρ1 (10, 22) (((Int8.ofInt 113).toInt32)).toNatClampNeg (s 113 - Int32.ofInt 1) = qw ρ1 (qr_r1 (upd s 113 (nI m)) (qn a) (qn a)) (ρ1.1 (10, 21) 10) := by
        have e := qw_wi (ρ := ρ1) (s := s) (y := ρ1.1 (10, 21) 10) 113 (s 113 - Int32.ofInt 1)
        rw [← g0] at e
        have e2 : qr_r1 (upd s 113 (nI m)) (qn a) (qn a) = upd s 113 (s 113 - Int32.ofInt 1) := by
          funext i
          unfold qr_r1
          rw [if_neg (by omega), qk_a1, e113, nI_pred]
        rw [e2]
        exact e
      have g3 := rf_rp_l (ρ := ρ1) (y := ρ1.1 (10, 21) 10) (v := s (114 + qn a)) (p := qn a) (c := m) (by omega) e113 (by omega) hI2.1 qa_fu (qn a) (Nat.le_refl _) (by omega) (by unfold qa_fu; omega)
      rw [← d1] at g3
      have g4 : qa_in (((Int8.ofInt 114).toInt32) + a) 176 = true ∧ (((Int8.ofInt 114).toInt32) + a).toNatClampNeg = 114 + qn a := by
        rw [d1, show ((Int8.ofInt 114).toInt32) = nI 114 from rfl, nI_add, nI_clamp (by omega), ← d1]
        exact ⟨qz_in.mpr ⟨by rw [qz_nI (by omega)]; omega, by rw [qz_nI (by omega)]; omega⟩, rfl⟩
      rw [e_113 r1, qk_a0, show s 113 - Int32.ofInt 1 = s 113 - 1 from rfl, in_pl hp.1 (by omega), c, if_pos (show ¬ qa_bi true = 0 by decide), r2, Option.bind_some, if_neg (not_not_intro g4.1), g4.2, g1, g2, r3.1, g3]
  · have cf := Bool.eq_false_iff.mpr c
    refine qY_1 (code := 1) hX cc_r hC ?_ (by decide) ⟨0, qa_wi (qa_wi σ (10, 21) 9 0) (10, 21) 9 1, ?_, jr_9 (jr_9 hR), rr_t r9 r9, wi_eq⟩ hI
    · unfold qa_fL_takeOut qa_fX9_takeOut
      rw [cl_h3 hC, cf, if_pos (show qa_bi false = 0 from rfl), Option.bind_some]
      rfl
    · unfold qa_fX10_takeOut
      dsimp only
      rw [e_113 hR, qk_a0, show s 113 - Int32.ofInt 1 = s 113 - 1 from rfl, in_pl hp.1 (by omega), cf, if_neg (not_not_intro (show qa_bi false = 0 from rfl))]
      rfl
end QMF
