/-! the law's calls (7): calls that change the show -/
section QMD
variable {σ σ1 σ2 σ' τ ρ : qa_T} {s t : qs} {X : Nat → Int32} {N M k k' f f' j p L L2 L' : Nat} {U V U' V' : Nat → qs} {Z Z' : Nat → Bool} {B B' : Nat → Int32} {k23 : Int32 → qa_T → Option (Bool × qa_T)} {x a v r code : Int32} {y : Int32}
theorem mu_r (hR : qj_R ρ s k U Z V L2 B) (hk : k ≤ 6) : ∃ ρ1, qa_fX10_save (qa_wi ρ (10, 21) 9 0) = some ρ1 ∧ qj_R ρ1 s (qu_k k) (qu_U k U s) Z V L2 B ∧ qe_rr ρ ρ1 ∧ ρ1.2 = ρ.2 ∧ ρ1.1 (10, 21) 9 = 0 := by
  obtain ⟨ρ1, a1, a2, a3, a4⟩ := rf_save (jr_9 (v := 0) hR) hk
  have a5 := sv_2 a1
  have a6 : ρ1.2 = ρ.2 := a5
  exact ⟨ρ1, a1, a2, rr_t r9 a3, a6, by rw [a4 9 (by omega), wi_eq]⟩
theorem mu_0 {A Rf : qa_T → Option (Int32 × qa_T)} (hX : σ.1 (0, 0) = X) (hC : qj_C σ2 t (qu_k k) (qu_f k f) (qu_U k U s) Z V L2 B) (hcc : qe_cc σ σ2) (hR : qj_R σ s k U Z V L2 B) (hI : qj_I N s k f U Z V L2 B) (hP : qi_P M t) (hM : N ≤ M) (hA : A σ = some (0, wl σ2 v.toInt64)) (hRf : ∀ ρ ρ1, qj_R ρ s k U Z V L2 B → qa_fX10_save (qa_wi ρ (10, 21) 9 0) = some ρ1 → qj_R ρ1 s (qu_k k) (qu_U k U s) Z V L2 B → ∃ y, Rf ρ = some (v, qw ρ1 t y)) : qY M X σ A Rf := by
  have hR1 : qj_R (wl σ2 v.toInt64) s k U Z V L2 B := jw9 (jr_cc hR hcc)
  obtain ⟨ρ1, a1, a2, a3, a4, a5⟩ := mu_r hR1 hI.2.1
  obtain ⟨y, b1⟩ := hRf _ _ hR1 a1 a2
  exact qY_0 (v := v) hX hcc hC hA ⟨qw ρ1 t y, b1, jr_qw a2, rr_t a3 rr_qw, a4, by rw [qw_21 (by decide), a5]⟩ (ji_push hI hP hM)
theorem mu_b {b : Bool} {A : qa_T → Option (Int32 × qa_T)} {Rf : qa_T → Option (Bool × qa_T)} (hX : σ.1 (0, 0) = X) (hC : qj_C σ2 t (qu_k k) (qu_f k f) (qu_U k U s) Z V L2 B) (hcc : qe_cc σ σ2) (hR : qj_R σ s k U Z V L2 B) (hI : qj_I N s k f U Z V L2 B) (hP : qi_P M t) (hM : N ≤ M) (hA : A σ = some (0, wl σ2 (bL b))) (hRf : ∀ ρ ρ1, qj_R ρ s k U Z V L2 B → qa_fX10_save (qa_wi ρ (10, 21) 9 0) = some ρ1 → qj_R ρ1 s (qu_k k) (qu_U k U s) Z V L2 B → ∃ y, Rf ρ = some (b, qw ρ1 t y)) : qYb M X σ A Rf := by
  have hR1 : qj_R (wl σ2 (bL b)) s k U Z V L2 B := jw9 (jr_cc hR hcc)
  obtain ⟨ρ1, a1, a2, a3, a4, a5⟩ := mu_r hR1 hI.2.1
  obtain ⟨y, b1⟩ := hRf _ _ hR1 a1 a2
  exact qYb_0 (b := b) hX hcc hC hA ⟨qw ρ1 t y, b1, jr_qw a2, rr_t a3 rr_qw, a4, by rw [qw_21 (by decide), a5]⟩ (ji_push hI hP hM)
/-- it begins to load, after a step in the show -/
theorem mu_c (hC : qj_C σ s k f U Z V L2 B) (hF : qe_F 1 σ σ1) (h1 : qe_R 1 σ1 t) (hI : qi_I M t) : ∃ σ2, qa_fX1_beginLoading 1 σ1 = some σ2 ∧ qj_C σ2 (qr_bg t) k f U Z V L2 B ∧ qe_cc σ σ2 := by
  obtain ⟨σ2, a1, a2, a3⟩ := cl_bg h1 hI.1
  exact ⟨σ2, a1, jc_1 hC (qe_Ft hF a3) a2, cc_F (qe_Ft hF a3) (by omega) (by omega)⟩
theorem y_ask (h : qJ N X σ) : qY N X σ (fun σ => qa_fL_ask a σ) (fun σ => qa_fX10_ask a σ) := by
  obtain ⟨hX, s, k, f, U, Z, V, L2, B, hC, hR, hI⟩ := h
  have hP := hI.1
  have hs := hP.1.1.1
  have hq := hP.1.1.2.2.2.2.1
  by_cases c : qi_is s a = true
  · obtain ⟨c1, c2, c3⟩ := is_n hs c
    have eca : ∀ ρ : qa_T, qj_R ρ s k U Z V L2 B → qa_fX10_canAsk a (qa_wi ρ (10, 21) 9 0) = some (qr_ca s (qn a)) := fun ρ h => by
      rw [jr_self (jr_9 (v := 0) h), c1, rf_ca hq c3, ← c1]
    have ema : qa_fX1_mayAsk 1 a σ = some (qr_ca s (qn a)) := by
      rw [c1, cl_ma hC.1.1 hs (qi_qdq hq) c3, ← c1]
    by_cases d : qr_ca s (qn a) = true
    · have h5 := (ca_s hP.1.1 c2 d).2.2.2.2
      have h6 := qn_int hq.1
      have hI2 := aq_I hP.1 c2 d
      have hP2 : qi_P N (qr_bg (qr_aq s (qn a))) := bg_P hI2 (fun j hj => by rw [aq_o (by omega) (by omega), hP.2.2 j hj])
      obtain ⟨σ1, p1, p2, p3⟩ := cl_push hC hI.2.1 hI.2.2.1 hs
      obtain ⟨q1, q2⟩ := cl_qu p2.1 hs (qi_qdq hq) (a := qn a) (by omega)
      obtain ⟨σ2, m1, m2, m3⟩ := mu_c p2 q2 q1 hI2
      refine mu_0 (v := qr_bg (qr_aq s (qn a)) 146) hX m2 (cc_t p3 m3) hR hI hP2 (Nat.le_refl _) ?_ (fun ρ ρ1 r1 r2 r3 => ⟨ρ1.1 (10, 21) 10, ?_⟩)
      · unfold qa_fL_ask qa_fX9_ask
        rw [← c1] at m1
        rw [cl_is hC hs, c, if_neg (show ¬ qa_bi true = 0 by decide), ema, Option.bind_some, d, if_neg (show ¬ qa_bi true = 0 by decide), p1, Option.bind_some]
        dsimp only
        rw [m1, Option.bind_some, Option.bind_some, ra_146 m2.1.1]
        rfl
      · unfold qa_fX10_ask
        dsimp only
        rw [rf_i1 r1 hs c]
        dsimp only
        have g := rf_as (ρ := ρ1) (y := ρ1.1 (10, 21) 10) hq hI2.1
        rw [← jr_self r3, ← c1] at g
        rw [if_pos (show ¬ qa_bi true = 0 by decide), eca _ r1, Option.bind_some, d, if_pos (show ¬ qa_bi true = 0 by decide), r2, Option.bind_some, g, Option.bind_some]
    · refine qY_1 (code := 2) hX cc_r hC ?_ (by decide) ⟨0, qa_wi (qa_wi σ (10, 21) 9 0) (10, 21) 9 2, ?_, jr_9 (jr_9 hR), rr_t r9 r9, wi_eq⟩ hI
      · unfold qa_fL_ask qa_fX9_ask
        rw [cl_is hC hs, c, if_neg (show ¬ qa_bi true = 0 by decide), ema, Option.bind_some, Bool.eq_false_iff.mpr d, if_pos (show qa_bi false = 0 from rfl), Option.bind_some]
        rfl
      · unfold qa_fX10_ask
        dsimp only
        rw [rf_i1 hR hs c]
        dsimp only
        rw [if_pos (show ¬ qa_bi true = 0 by decide), eca _ hR, Option.bind_some, Bool.eq_false_iff.mpr d, if_neg (not_not_intro (show qa_bi false = 0 from rfl))]
        rfl
  · have cf := Bool.eq_false_iff.mpr c
    refine qY_1 (code := 1) hX cc_r hC ?_ (by decide) ⟨0, qa_wi σ (10, 21) 9 1, ?_, jr_9 hR, r9, wi_eq⟩ hI
    · unfold qa_fL_ask qa_fX9_ask
      rw [cl_is hC hs, cf, if_pos (show qa_bi false = 0 from rfl), Option.bind_some]
      rfl
    · unfold qa_fX10_ask
      dsimp only
      rw [rf_i0 hR hs cf]
      dsimp only
      rw [if_neg (not_not_intro (show qa_bi false = 0 from rfl))]
      rfl
/-- a slide's cost stays -/
theorem st_c (hs : qi_sl s) {a b : Nat} (ha : a < 16) (hb : b < 16) : qr_st s a (1 + 7 * b) = s (1 + 7 * b) := by
  have g := mr_o (m := (s (1 + 7 * a)).toInt) (i := 1 + 7 * b) hs (Or.inr (Or.inr ⟨b, 0, rfl, Or.inl (by omega)⟩)) (by omega)
  unfold qr_st
  rw [s0_o (by omega) (by omega) (by omega) (by omega) (by omega), g]
theorem bg_c (h : qi_A N s) {b : Nat} (hb : b < 16) : qr_bg s (1 + 7 * b) = s (1 + 7 * b) := by
  obtain ⟨hs, hp, hw, hl, hq, he, hc⟩ := h
  have hn := (qi_n hs).2
  have hi0 := qn_int hs.1
  unfold qr_bg
  split
  · rfl
  · split
    · have h1 := hl.2.1
      exact st_c hs (by unfold qn; omega) hb
    · split
      · unfold qr_b3
        cases e : qr_gd s with
        | none => rfl
        | some a =>
          have := (gd_s hp hs e).1
          dsimp only
          split
          · exact st_c hs (by omega) hb
          · rfl
      · next c =>
        have hq1 := qn_int hq.1
        have hq2 := hq.2.2.1 0 (by omega)
        rw [Nat.add_zero] at hq2
        have hq3 := qn_int hq2.1
        rw [st_c (fg_A (N := N) (a := qn (s 147)) ⟨hs, hp, hw, hl, hq, he, hc⟩).1 (by omega) hb, fg_o (qi_qdq hq) _ (by omega)]
theorem y_burn (h : qJ N X σ) : qY N X σ (fun σ => qa_fL_burn a σ) (fun σ => qa_fX10_burn a σ) := by
  obtain ⟨hX, s, k, f, U, Z, V, L2, B, hC, hR, hI⟩ := h
  have hP := hI.1
  have hs := hP.1.1.1
  by_cases c : qi_is s a = true
  · obtain ⟨c1, c2, c3⟩ := is_n hs c
    have eca : ∀ ρ : qa_T, qj_R ρ s k U Z V L2 B → qa_fX10_canBurn a (qa_wi ρ (10, 21) 9 0) = some (qr_cb s (qn a)) := fun ρ h => by
      rw [jr_self (jr_9 (v := 0) h), c1, rf_cb c3, ← c1]
    have ema : qa_fX1_mayBurn 1 a σ = qr_cb s (qn a) := by
      rw [c1, cl_mb hC.1.1 hs c3, ← c1]
    by_cases d : qr_cb s (qn a) = true
    · have hc := d
      unfold qr_cb at hc
      rw [Bool.and_eq_true] at hc
      have h4 : ¬ s 144 = nI (qn a) := fun t => by
        have h5 := hP.1.1.2.2.2.1.2.2.2.2.2 (qn a) (by omega) (Or.inr (by rw [t, qz_nI (by omega)]))
        have h6 := hc.1
        unfold qr_ld at h6
        rw [h5] at h6
        exact absurd (of_decide_eq_true h6) (by decide)
      have hI2 := bu_I hP.1 c2 d
      have hP2 : qi_P N (qr_bg (qr_bu s (qn a))) := bg_P hI2 (fun j hj => by rw [bu_o (by omega) (by omega), hP.2.2 j hj])
      have ecost : qr_bg (qr_bu s (qn a)) (1 + 7 * qn a) = s (1 + 7 * qn a) := by rw [bg_c hI2.1 c3, bu_o (by omega) (by omega)]
      obtain ⟨σ1, p1, p2, p3⟩ := cl_push hC hI.2.1 hI.2.2.1 hs
      obtain ⟨q1, q2, _⟩ := cl_bu p2.1 hs hP.1.1.2.2.2.2.2.1 (a := qn a) c2 hc.1 h4
      obtain ⟨σ2, m1, m2, m3⟩ := mu_c p2 q2 q1 hI2
      refine mu_0 (v := s (1 + 7 * qn a)) hX m2 (cc_t p3 m3) hR hI hP2 (Nat.le_refl _) ?_ (fun ρ ρ1 r1 r2 r3 => ⟨ρ1.1 (10, 21) 10, ?_⟩)
      · unfold qa_fL_burn qa_fX9_burn
        rw [← c1] at m1
        have e : qa_fX9_at (1, 2) 16 a σ2 = s (1 + 7 * qn a) := by
          rw [c1, at_in c3 (by omega), ra_c m2.1.1 c3, ← c1, ecost]
        rw [cl_is hC hs, c, if_neg (show ¬ qa_bi true = 0 by decide), ema, d, if_neg (show ¬ qa_bi true = 0 by decide), p1, Option.bind_some]
        dsimp only
        rw [m1, Option.bind_some, Option.bind_some, e]
        rfl
      · unfold qa_fX10_burn
        dsimp only
        rw [rf_i1 r1 hs c]
        dsimp only
        have g := rf_bu (ρ := ρ1) (s := s) (y := ρ1.1 (10, 21) 10) (a := qn a) c3
        rw [← jr_self r3, ← c1] at g
        rw [if_pos (show ¬ qa_bi true = 0 by decide), eca _ r1, Option.bind_some, d, if_pos (show ¬ qa_bi true = 0 by decide), r2, Option.bind_some, g, Option.bind_some]
        dsimp only
        rw [rf_bg hI2.1, Option.bind_some]
    · refine qY_1 (code := 2) hX cc_r hC ?_ (by decide) ⟨0, qa_wi (qa_wi σ (10, 21) 9 0) (10, 21) 9 2, ?_, jr_9 (jr_9 hR), rr_t r9 r9, wi_eq⟩ hI
      · unfold qa_fL_burn qa_fX9_burn
        rw [cl_is hC hs, c, if_neg (show ¬ qa_bi true = 0 by decide), ema, Bool.eq_false_iff.mpr d, if_pos (show qa_bi false = 0 from rfl), Option.bind_some]
        rfl
      · unfold qa_fX10_burn
        dsimp only
        rw [rf_i1 hR hs c]
        dsimp only
        rw [if_pos (show ¬ qa_bi true = 0 by decide), eca _ hR, Option.bind_some, Bool.eq_false_iff.mpr d, if_neg (not_not_intro (show qa_bi false = 0 from rfl))]
        rfl
  · have cf := Bool.eq_false_iff.mpr c
    refine qY_1 (code := 1) hX cc_r hC ?_ (by decide) ⟨0, qa_wi σ (10, 21) 9 1, ?_, jr_9 hR, r9, wi_eq⟩ hI
    · unfold qa_fL_burn qa_fX9_burn
      rw [cl_is hC hs, cf, if_pos (show qa_bi false = 0 from rfl), Option.bind_some]
      rfl
    · unfold qa_fX10_burn
      dsimp only
      rw [rf_i0 hR hs cf]
      dsimp only
      rw [if_neg (not_not_intro (show qa_bi false = 0 from rfl))]
      rfl
theorem y_tick (h : qJ N X σ) (hN : N + 1000 < 2147483647) : qY (N + 400) X σ (fun σ => qa_fL_tick a σ) (fun σ => qa_fX10_tick a σ) := by
  obtain ⟨hX, s, k, f, U, Z, V, L2, B, hC, hR, hI⟩ := h
  have hP := hI.1
  have hs := hP.1.1.1
  have e1 : ∀ σ : qa_T, qa_fX9_isWithin a (Int32.ofInt 1) ((Int8.ofInt 100).toInt32) σ = (decide (1 ≤ a.toInt) && decide (a.toInt ≤ 100)) := fun σ => by rw [iw_x, qk_a1, qk_b100, qk_t1, qk_t100]
  have e2 : ∀ σ : qa_T, qa_fX10_in a (Int32.ofInt 1) ((Int8.ofInt 100).toInt32) σ = (decide (1 ≤ a.toInt) && decide (a.toInt ≤ 100)) := fun σ => by rw [in_x, qk_a1, qk_b100, qk_t1, qk_t100]
  by_cases c : (decide (1 ≤ a.toInt) && decide (a.toInt ≤ 100)) = true
  · have c' := c
    rw [Bool.and_eq_true, decide_eq_true_eq, decide_eq_true_eq] at c'
    have ca : a = nI (qn a) := qn_of (by omega)
    have cn := qn_int (x := a) (by omega)
    have h1 := ti_I (qn a) N s hP.1 (by omega)
    have hP2 : qi_P (N + 400) (qr_ti (qn a) s).2 := ⟨qq_I h1.1 (by omega), h1.2 hP.2.1, fun j hj => by rw [hi_ti (qn a) N s hP.1 (by omega) j hj, hP.2.2 j hj]⟩
    obtain ⟨σ1, p1, p2, p3⟩ := cl_push hC hI.2.1 hI.2.2.1 hs
    obtain ⟨σ2, m1, m2, m3⟩ := cl_ps (j := qn a) p2.1 hP.1 (by omega) (by omega)
    refine mu_0 (v := nI (qr_ti (qn a) s).1) hX (jc_1 p2 m3 m2) (cc_t p3 (cc_F m3 (by omega) (by omega))) hR hI hP2 (by omega) ?_ (fun ρ ρ1 r1 r2 r3 => ⟨nI (qr_ti (qn a) s).1, ?_⟩)
    · unfold qa_fL_tick qa_fX9_tick
      rw [← ca] at m1
      rw [e1, c, if_neg (show ¬ qa_bi true = 0 by decide), p1, Option.bind_some, m1, Option.bind_some, Option.bind_some]
      rfl
    · unfold qa_fX10_tick
      dsimp only
      have g := rf_ps (ρ := ρ1) (y := ρ1.1 (10, 21) 10) (j := qn a) hP.1 (by omega) (by omega)
      rw [← jr_self r3, ← ca] at g
      rw [e2, c, if_pos (show ¬ qa_bi true = 0 by decide), qk_a0, r2, Option.bind_some, g, Option.bind_some]
  · have cf := Bool.eq_false_iff.mpr c
    refine qY_1 (code := 1) hX cc_r hC ?_ (by decide) ⟨0, qa_wi (qa_wi σ (10, 21) 9 0) (10, 21) 9 1, ?_, jr_9 (jr_9 hR), rr_t r9 r9, wi_eq⟩ (ji_u hI (by omega))
    · unfold qa_fL_tick qa_fX9_tick
      rw [e1, cf, if_pos (show qa_bi false = 0 from rfl), Option.bind_some]
      rfl
    · unfold qa_fX10_tick
      dsimp only
      rw [e2, cf, if_neg (not_not_intro (show qa_bi false = 0 from rfl))]
      rfl
theorem y_goOn (h : qJ N X σ) (hN : N + 1000 < 2147483647) : qYb (N + 2) X σ qa_fL_goOn qa_fX10_goOn := by
  obtain ⟨hX, s, k, f, U, Z, V, L2, B, hC, hR, hI⟩ := h
  have hP := hI.1
  have hs := hP.1.1.1
  by_cases d : qr_cg s = true
  · obtain ⟨d4, d5⟩ := cg_s hP.1.1.2.1 d
    have hI2 := go_I hP.1 d4 d5 (by omega)
    have hP2 : qi_P (N + 2) (qr_bg (qr_go s).2) := bg_P hI2 (fun j hj => by rw [hi_go hP.1.1 d4 hj, hP.2.2 j hj])
    obtain ⟨σ1, p1, p2, p3⟩ := cl_push hC hI.2.1 hI.2.2.1 hs
    obtain ⟨σ', q1, q2, q3⟩ := cl_go p2.1 hP.1.1 d4
    obtain ⟨σ2, m1, m2, m3⟩ := mu_c p2 q3 q2 hI2
    refine mu_b (b := (qr_go s).1) hX m2 (cc_t p3 m3) hR hI hP2 (by omega) ?_ (fun ρ ρ1 r1 r2 r3 => ⟨ρ1.1 (10, 21) 10 + nI (qr_bt (qr_go s).1), ?_⟩)
    · unfold qa_fL_goOn qa_fX9_goOn qa_fL_goOn_14
      rw [cl_cg hC.1.1, d, if_neg (show ¬ qa_bi true = 0 by decide), p1, Option.bind_some, q1, Option.bind_some]
      dsimp only
      rw [m1, Option.bind_some, Option.bind_some]
      dsimp only
      unfold bL
      cases (qr_go s).1
      · rw [if_pos (show qa_bi false = 0 from rfl), if_pos (show qa_bi false = 0 from rfl)]; rfl
      · rw [if_neg (show ¬ qa_bi true = 0 by decide), if_neg (show ¬ qa_bi true = 0 by decide)]; rfl
    · unfold qa_fX10_goOn qa_fX10_goOn_13
      dsimp only
      have g := rf_go (ρ := ρ1) (y := ρ1.1 (10, 21) 10) hP.1.1 d4
      rw [← jr_self r3] at g
      rw [rf_cgR r1, d, if_neg (show ¬ qa_bi true = 0 by decide), qk_a0, wi_eq, if_pos (by decide), r2, Option.bind_some, g, Option.bind_some]
      dsimp only
      rw [rf_bg hI2.1, Option.bind_some]
  · have df := Bool.eq_false_iff.mpr d
    refine qYb_1 (code := 1) hX cc_r hC ?_ (by decide) ⟨false, qa_wi σ (10, 21) 9 1, ?_, jr_9 hR, r9, wi_eq⟩ (ji_u hI (by omega))
    · unfold qa_fL_goOn qa_fX9_goOn
      rw [cl_cg hC.1.1, df, if_pos (show qa_bi false = 0 from rfl), Option.bind_some]
      rfl
    · unfold qa_fX10_goOn qa_fX10_goOn_13
      dsimp only
      rw [rf_cgR hR, df, if_pos (show qa_bi false = 0 from rfl), qk_a1, wi_eq, if_neg (by decide)]
end QMD
