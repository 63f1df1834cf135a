/-! the law's calls (10): a new slide, the text, what is kept -/
section QMG
variable {σ σ1 σ2 σ' τ ρ : qa_T} {s t : qs} {X : Nat → Int32} {N M k k' f f' j p L L2 L' : Nat} {U V U' V' : Nat → qs} {Z Z' : Nat → Bool} {B B' : Nat → Int32} {k23 : Int32 → qa_T → Option (Bool × qa_T)} {x a b c1 c2 c3 v r code : Int32} {y : Int32}
theorem bin (p q : Prop) [Decidable p] [Decidable q] : ((decide p && decide q) = true) ↔ (p ∧ q) := by
  rw [Bool.and_eq_true, decide_eq_true_eq, decide_eq_true_eq]
theorem y_addSlide (h : qJ N X σ) : qY N X σ (fun σ => qa_fL_addSlide c1 c2 c3 σ) (fun σ => qa_fX10_addSlide c1 c2 c3 σ) := by
  obtain ⟨hX, s, k, f, U, Z, V, L2, B, hC, hR, hI⟩ := h
  have hP := hI.1
  have hs := hP.1.1.1
  have hn := qi_n hs
  have hn0 := qn_int hs.1
  have w1 : ∀ σ : qa_T, qa_fX9_isWithin c1 (Int32.ofInt 1) ((Int8.ofInt 50).toInt32) σ = (decide (1 ≤ c1.toInt) && decide (c1.toInt ≤ 50)) := fun σ => by rw [iw_x, qk_a1, qk_b50, qk_t1, qk_t50]
  have w2 : ∀ σ : qa_T, qa_fX9_isWithin c2 (Int32.ofInt 1) ((Int8.ofInt 20).toInt32) σ = (decide (1 ≤ c2.toInt) && decide (c2.toInt ≤ 20)) := fun σ => by rw [iw_x, qk_a1, qk_b20, qk_t1, qk_t20]
  have w3 : ∀ σ : qa_T, qa_fX9_isWithin c3 (Int32.ofInt 0) ((Int8.ofInt 10).toInt32) σ = (decide (0 ≤ c3.toInt) && decide (c3.toInt ≤ 10)) := fun σ => by rw [iw_x, qk_a0, qk_b10, qk_t0, qk_t10]
  have i1 : ∀ σ : qa_T, qa_fX10_in c1 (Int32.ofInt 1) ((Int8.ofInt 50).toInt32) σ = (decide (1 ≤ c1.toInt) && decide (c1.toInt ≤ 50)) := fun σ => by rw [in_x, qk_a1, qk_b50, qk_t1, qk_t50]
  have i2 : ∀ σ : qa_T, qa_fX10_in c2 (Int32.ofInt 1) ((Int8.ofInt 20).toInt32) σ = (decide (1 ≤ c2.toInt) && decide (c2.toInt ≤ 20)) := fun σ => by rw [in_x, qk_a1, qk_b20, qk_t1, qk_t20]
  have i3 : ∀ σ : qa_T, qa_fX10_in c3 (Int32.ofInt 0) ((Int8.ofInt 10).toInt32) σ = (decide (0 ≤ c3.toInt) && decide (c3.toInt ≤ 10)) := fun σ => by rw [in_x, qk_a0, qk_b10, qk_t0, qk_t10]
  have bad : qa_fX9_addSlide c1 c2 c3 σ = some (.inr 342, σ) → (∀ ρ, qj_R ρ s k U Z V L2 B → qa_fX10_addSlide c1 c2 c3 ρ = some (0, qa_wi (qa_wi ρ (10, 21) 9 0) (10, 21) 9 1)) → qY N X σ (fun σ => qa_fL_addSlide c1 c2 c3 σ) (fun σ => qa_fX10_addSlide c1 c2 c3 σ) := fun h1 h2 => by
    refine qY_1 (code := 1) hX cc_r hC ?_ (by decide) ⟨0, qa_wi (qa_wi σ (10, 21) 9 0) (10, 21) 9 1, h2 σ hR, jr_9 (jr_9 hR), rr_t r9 r9, wi_eq⟩ hI
    unfold qa_fL_addSlide
    rw [h1, Option.bind_some]
    rfl
  by_cases d1 : (decide (1 ≤ c1.toInt) && decide (c1.toInt ≤ 50)) = true
  · by_cases d2 : (decide (1 ≤ c2.toInt) && decide (c2.toInt ≤ 20)) = true
    · by_cases d3 : (decide (0 ≤ c3.toInt) && decide (c3.toInt ≤ 10)) = true
      · by_cases g : (s 0).toInt < 16
        · have hI2 := as_I hP.1 g ((bin _ _).mp d1) ((bin _ _).mp d2) ((bin _ _).mp d3)
          have hst := as_st hP.1 hP.2.1 g hI2
          have hP2 : qi_P N (qr_as s c1 c2 c3) := ⟨hI2, hst.2, fun j hj => by rw [as_o (by omega) (by omega) (by omega) (by omega), hP.2.2 j hj]⟩
          obtain ⟨σ1, p1, p2, p3⟩ := cl_push hC hI.2.1 hI.2.2.1 hs
          obtain ⟨q1, q2, q3⟩ := cl_add (c := c1) (l := c2) (f := c3) p2.1 hs g hP.1.1.2.2.2.1.2.2.2.1
          obtain ⟨σ2, m1, m2, m3⟩ := mu_c p2 q3 q2 hI2
          rw [hst.1] at m2
          refine mu_0 (v := s 0) hX m2 (cc_t p3 m3) hR hI hP2 (Nat.le_refl _) ?_ (fun ρ ρ1 r1 r2 r3 => ⟨ρ1.1 (10, 21) 10, ?_⟩)
          · unfold qa_fL_addSlide qa_fX9_addSlide qa_fX9_addSlide_35 qa_fX9_addSlide_58
            have n16 : ¬ ((Int8.ofInt 16).toInt32) ≤ s 0 := fun t => by
              rw [qk_b16, qz_le, qk_t16] at t
              omega
            rw [w1, d1, if_neg (show ¬ qa_bi true = 0 by decide), w2, d2, if_neg (show ¬ qa_bi true = 0 by decide), w3, d3, if_neg (show ¬ qa_bi true = 0 by decide), qk_a1, if_neg (by decide), ra_n0 hC.1.1, if_neg n16, if_neg (by decide), p1, Option.bind_some]
            dsimp only
            rw [m1, Option.bind_some, Option.bind_some, q1]
            rfl
          · unfold qa_fX10_addSlide
            dsimp only
            have e0 : (qa_wi ρ (10, 21) 9 (Int32.ofInt 0)).1 (10, 22) ((Int32.ofInt 0)).toNatClampNeg = s 0 := by rw [wi_np (by decide), r1.1]; rfl
            have e1 : ρ1.1 (10, 22) ((Int32.ofInt 0)).toNatClampNeg = s 0 := by rw [r3.1]; rfl
            have n16 : ¬ s 0 = ((Int8.ofInt 16).toInt32) := fun t => by
              rw [t] at g
              revert g
              decide
            have g2 : qa_wi ρ1 (10, 22) ((Int32.ofInt 0)).toNatClampNeg (s 0 + Int32.ofInt 1) = qw ρ1 (upd s 0 (s 0 + 1)) (ρ1.1 (10, 21) 10) := by
              have e := qw_wi (ρ := ρ1) (s := s) (y := ρ1.1 (10, 21) 10) 0 (s 0 + Int32.ofInt 1)
              rw [← jr_self r3] at e
              exact e
            have l0 := rf_lay0 (ρ := ρ1) (s := upd s 0 (s 0 + 1)) (y := ρ1.1 (10, 21) 10) (k := qn (s 0)) (v := c1) (by omega)
            have l1 := rf_lay1 (ρ := ρ1) (s := upd (upd s 0 (s 0 + 1)) (1 + 7 * qn (s 0)) c1) (y := ρ1.1 (10, 21) 10) (k := qn (s 0)) (v := c2) (by omega)
            have l2 := rf_lay2 (ρ := ρ1) (s := upd (upd (upd s 0 (s 0 + 1)) (1 + 7 * qn (s 0)) c1) (1 + 7 * qn (s 0) + 1) c2) (y := ρ1.1 (10, 21) 10) (k := qn (s 0)) (v := c3) (by omega)
            rw [← hn.1] at l0 l1 l2
            rw [i1, d1, if_neg (show ¬ qa_bi true = 0 by decide), i2, d2, if_neg (show ¬ qa_bi true = 0 by decide), i3, d3, if_pos (show ¬ qa_bi true = 0 by decide), e0, if_pos n16, show qa_wi ρ (10, 21) 9 (Int32.ofInt 0) = qa_wi ρ (10, 21) 9 0 from rfl, r2, Option.bind_some, e1, g2, qk_a0, qk_a1, qk_a2, l0, Option.bind_some, l1, Option.bind_some, l2, Option.bind_some]
            rfl
        · refine qY_1 (code := 2) hX cc_r hC ?_ (by decide) ⟨0, qa_wi (qa_wi σ (10, 21) 9 0) (10, 21) 9 2, ?_, jr_9 (jr_9 hR), rr_t r9 r9, wi_eq⟩ hI
          · unfold qa_fL_addSlide qa_fX9_addSlide qa_fX9_addSlide_35 qa_fX9_addSlide_58
            have n16 : ((Int8.ofInt 16).toInt32) ≤ s 0 := by
              rw [qk_b16, qz_le, qk_t16]
              omega
            rw [w1, d1, if_neg (show ¬ qa_bi true = 0 by decide), w2, d2, if_neg (show ¬ qa_bi true = 0 by decide), w3, d3, if_neg (show ¬ qa_bi true = 0 by decide), qk_a1, if_neg (by decide), ra_n0 hC.1.1, if_pos n16, qk_a0, if_pos rfl, Option.bind_some]
            rfl
          · unfold qa_fX10_addSlide
            dsimp only
            have e0 : (qa_wi σ (10, 21) 9 (Int32.ofInt 0)).1 (10, 22) ((Int32.ofInt 0)).toNatClampNeg = s 0 := by rw [wi_np (by decide), hR.1]; rfl
            have n16 : s 0 = ((Int8.ofInt 16).toInt32) := by
              have := hs.2.1
              rw [qk_b16, qz_eq, qk_t16]
              omega
            rw [i1, d1, if_neg (show ¬ qa_bi true = 0 by decide), i2, d2, if_neg (show ¬ qa_bi true = 0 by decide), i3, d3, if_pos (show ¬ qa_bi true = 0 by decide), e0, if_neg (not_not_intro n16)]
            rfl
      · have df := Bool.eq_false_iff.mpr d3
        refine bad ?_ (fun ρ hρ => ?_)
        · unfold qa_fX9_addSlide qa_fX9_addSlide_34 qa_fX9_addSlide_35
          rw [w1, d1, if_neg (show ¬ qa_bi true = 0 by decide), w2, d2, if_neg (show ¬ qa_bi true = 0 by decide), w3, df, if_pos (show qa_bi false = 0 from rfl), qk_a0, if_pos rfl]
        · unfold qa_fX10_addSlide qa_fX10_addSlide_35
          dsimp only
          rw [i1, d1, if_neg (show ¬ qa_bi true = 0 by decide), i2, d2, if_neg (show ¬ qa_bi true = 0 by decide), i3, df, if_neg (not_not_intro (show qa_bi false = 0 from rfl))]
          rfl
    · have df := Bool.eq_false_iff.mpr d2
      refine bad ?_ (fun ρ hρ => ?_)
      · unfold qa_fX9_addSlide qa_fX9_addSlide_34 qa_fX9_addSlide_35
        rw [w1, d1, if_neg (show ¬ qa_bi true = 0 by decide), w2, df, if_pos (show qa_bi false = 0 from rfl), qk_a0, if_pos rfl]
      · unfold qa_fX10_addSlide qa_fX10_addSlide_35
        dsimp only
        rw [i1, d1, if_neg (show ¬ qa_bi true = 0 by decide), i2, df, if_pos (show qa_bi false = 0 from rfl)]
        rfl
  · have df := Bool.eq_false_iff.mpr d1
    refine bad ?_ (fun ρ hρ => ?_)
    · unfold qa_fX9_addSlide qa_fX9_addSlide_34 qa_fX9_addSlide_35
      rw [w1, df, if_pos (show qa_bi false = 0 from rfl), qk_a0, if_pos rfl]
    · unfold qa_fX10_addSlide qa_fX10_addSlide_35
      dsimp only
      rw [i1, df, if_pos (show qa_bi false = 0 from rfl)]
      rfl
/-- a character -/
theorem jr_ap (h : qj_R ρ s k U Z V L B) : qj_R (qa_wi (qa_wi ρ (10, 28) L a) (10, 21) 8 (nI (L + 1))) s k U Z V (L + 1) (upd B L a) := by
  obtain ⟨a1, a2, a3, a4, a5, a6, a7⟩ := h
  have o : ∀ p : qa_P, ¬ p = (10, 21) → ¬ p = (10, 28) → (qa_wi (qa_wi ρ (10, 28) L a) (10, 21) 8 (nI (L + 1))).1 p = ρ.1 p := fun p hp hq => by rw [wi_np hp, wi_np hq]
  refine ⟨by rw [o _ (by decide) (by decide)]; exact a1, by rw [wi_ni (by decide), wi_np (by decide)]; exact a2, by rw [o _ (by decide) (by decide)]; exact a3, by rw [o _ (by decide) (by decide)]; exact a4, by rw [o _ (by decide) (by decide)]; exact a5, wi_eq, fun i hi => ?_⟩
  rw [wi_np (by decide)]
  by_cases e : i = L
  · subst e
    rw [wi_eq, pk_us]
  · rw [wi_ni e, pk_un e]
    exact a7 i (by omega)
theorem y_append (h : qJ N X σ) : qY N X σ (fun σ => qa_fL_append a σ) (fun σ => qa_fX10_append a σ) := by
  obtain ⟨hX, s, k, f, U, Z, V, L2, B, hC, hR, hI⟩ := h
  have hL := hI.2.2.2.2.2.1
  have w1 : ∀ σ : qa_T, qa_fX9_isWithin a ((Int8.ofInt 33).toInt32) ((Int8.ofInt 126).toInt32) σ = (decide (33 ≤ a.toInt) && decide (a.toInt ≤ 126)) := fun σ => by rw [iw_x, qk_b33, qk_b126, qk_t33, qk_t126]
  have i1 : ∀ σ : qa_T, qa_fX10_in a ((Int8.ofInt 33).toInt32) ((Int8.ofInt 126).toInt32) σ = (decide (33 ≤ a.toInt) && decide (a.toInt ≤ 126)) := fun σ => by rw [in_x, qk_b33, qk_b126, qk_t33, qk_t126]
  have e60 : ((Int8.ofInt 60).toInt32) = nI 60 := rfl
  by_cases d : (decide (33 ≤ a.toInt) && decide (a.toInt ≤ 126)) = true
  · by_cases g : L2 < 60
    · have h0 : σ.1 (10, 19) 0 = nI L2 := hC.2.2.2.2.2.2.1
      have e1 : qa_fX8_add a σ = qa_wi (qa_wi σ (10, 20) L2 a) (10, 19) 0 (nI (L2 + 1)) := by
        unfold qa_fX8_add qa_fX9_set qa_fX9_set_14
        rw [h0, if_neg (nI_pos (by omega)), if_neg (show ¬ Int32.ofNat 60 ≤ nI L2 from nI_ge g (by omega)), nI_clamp (by omega)]
        dsimp only
        rw [wi_np (by decide), h0, qk_a1, nI_1]
      have hC2 : qj_C (qa_wi (qa_wi σ (10, 20) L2 a) (10, 19) 0 (nI (L2 + 1))) s k f U Z V (L2 + 1) (upd B L2 a) := by
        obtain ⟨a1, a2, a3, a4, a5, a6, a7, a8⟩ := hC
        have o : ∀ p : qa_P, ¬ p = (10, 19) → ¬ p = (10, 20) → (qa_wi (qa_wi σ (10, 20) L2 a) (10, 19) 0 (nI (L2 + 1))).1 p = σ.1 p := fun p hp hq => by rw [wi_np hp, wi_np hq]
        refine ⟨rr_S a1 (fun j hj => o _ (by simp only [Prod.mk.injEq]; omega) (by simp only [Prod.mk.injEq]; omega)), by rw [o _ (by decide) (by decide)]; exact a2, by rw [o _ (by decide) (by decide)]; exact a3, fun i hi => rr_S (a4 i hi) (fun j hj => o _ (by simp only [Prod.mk.injEq]; omega) (by simp only [Prod.mk.injEq]; omega)), fun i hi => by rw [o _ (by decide) (by decide)]; exact a5 i hi, fun i hi hz => rr_S (a6 i hi hz) (fun j hj => o _ (by simp only [Prod.mk.injEq]; omega) (by simp only [Prod.mk.injEq]; omega)), wi_eq, fun i hi => ?_⟩
        rw [wi_np (by decide)]
        by_cases e : i = L2
        · subst e
          rw [wi_eq, pk_us]
        · rw [wi_ni e, pk_un e]
          exact a8 i (by omega)
      have hcc : qe_cc σ (qa_wi (qa_wi σ (10, 20) L2 a) (10, 19) 0 (nI (L2 + 1))) := cc_t (fun p hp => wi_np (fun e => hp (Or.inr (Or.inr (Or.inr (Or.inr e)))))) cc_19
      have hR2 := jw9 (w := (nI (L2 + 1)).toInt64) (jr_cc hR hcc)
      refine qY_0 (v := nI (L2 + 1)) hX hcc hC2 ?_ ⟨qa_wi (qa_wi (qa_wi (wl (qa_wi (qa_wi σ (10, 20) L2 a) (10, 19) 0 (nI (L2 + 1))) (nI (L2 + 1)).toInt64) (10, 21) 9 0) (10, 28) L2 a) (10, 21) 8 (nI (L2 + 1)), ?_, ?_, ?_, rfl, ?_⟩ ⟨hI.1, hI.2.1, hI.2.2.1, hI.2.2.2.1, hI.2.2.2.2.1, by omega, fun i hi => ?_⟩
      · unfold qa_fL_append qa_fX9_append qa_fX9_append_28
        rw [w1, d, if_neg (show ¬ qa_bi true = 0 by decide), h0, e60, if_neg (nI_ge g (by omega)), qk_a1, if_neg (by decide), e1, Option.bind_some]
        dsimp only
        rw [wi_eq]
        rfl
      · unfold qa_fX10_append
        dsimp only
        have h8 : ∀ ρ : qa_T, qj_R ρ s k U Z V L2 B → (qa_wi ρ (10, 21) 9 (Int32.ofInt 0)).1 (10, 21) 8 = nI L2 := fun ρ h => by rw [wi_ni (by decide), h.2.2.2.2.2.1]
        have n60 : ¬ nI L2 = nI 60 := fun t => by
          have := (nI_eq (by omega) (by omega)).mp t
          omega
        rw [i1, d, if_pos (show ¬ qa_bi true = 0 by decide), h8 _ hR2, e60, if_pos n60, qz_ifn g (by omega), nI_clamp (by omega), wi_np (p := (10, 28)) (by decide), h8 _ hR2, qk_a1, nI_1, wi_eq]
        rfl
      · exact jr_ap (jr_9 hR2)
      · exact rr_t r9 (rr_t (rr_w ⟨rfl, by decide, by decide⟩) (rr_w ⟨rfl, by decide, by decide⟩))
      · rw [wi_ni (by decide), wi_np (by decide), wi_eq]
      · by_cases e : i = L2
        · subst e
          rw [pk_us]
          exact (bin _ _).mp d
        · rw [pk_un e]
          exact hI.2.2.2.2.2.2 i (by omega)
    · have eL : L2 = 60 := by omega
      refine qY_1 (code := 2) hX cc_r hC ?_ (by decide) ⟨0, qa_wi (qa_wi σ (10, 21) 9 0) (10, 21) 9 2, ?_, jr_9 (jr_9 hR), rr_t r9 r9, wi_eq⟩ hI
      · unfold qa_fL_append qa_fX9_append qa_fX9_append_28
        rw [w1, d, if_neg (show ¬ qa_bi true = 0 by decide), hC.2.2.2.2.2.2.1, e60, if_pos (nI_le (by omega) (by omega)), qk_a0, if_pos rfl, Option.bind_some]
        rfl
      · unfold qa_fX10_append
        dsimp only
        rw [i1, d, if_pos (show ¬ qa_bi true = 0 by decide), wi_ni (by decide), hR.2.2.2.2.2.1, e60, eL, if_neg (not_not_intro rfl)]
        rfl
  · have df := Bool.eq_false_iff.mpr d
    refine qY_1 (code := 1) hX cc_r hC ?_ (by decide) ⟨0, qa_wi (qa_wi σ (10, 21) 9 0) (10, 21) 9 1, ?_, jr_9 (jr_9 hR), rr_t r9 r9, wi_eq⟩ hI
    · unfold qa_fL_append qa_fX9_append
      rw [w1, df, if_pos (show qa_bi false = 0 from rfl), Option.bind_some]
      rfl
    · unfold qa_fX10_append
      dsimp only
      rw [i1, df, if_neg (not_not_intro (show qa_bi false = 0 from rfl))]
      rfl
theorem y_follow (h : qJ N X σ) (hN : N + 40000 < 2147483647) : qY (N + 24400) X σ qa_fL_follow qa_fX10_follow := by
  obtain ⟨hX, s, k, f, U, Z, V, L2, B, hC, hR, hI⟩ := h
  obtain ⟨σ1, hcc, a1, a2, a3⟩ := cl_fo hC hI hN
  have hR1 := jr_cc hR hcc
  cases hb : (tp B L2).1
  · cases hg : (tg B L2 s).1
    · obtain ⟨d1, d2⟩ := a2 hb hg
      obtain ⟨ρ', r1, r2, _, r3, _⟩ := rf_fw hR1 hI hN
      obtain ⟨⟨r, e1⟩, e2, e3⟩ := r3 hb hg
      refine qY_1 (code := 2) hX hcc d2 ?_ (by decide) ⟨r, ρ', e1, e2, r1, e3⟩ (ji_u hI (by omega))
      unfold qa_fL_follow
      rw [d1, Option.bind_some]
      rfl
    · obtain ⟨d1, d2⟩ := a3 hb hg
      obtain ⟨ρ', r1, r2, _, _, r3⟩ := rf_fw (jw9 (w := (nI (tg B L2 s).2.1).toInt64) hR1) hI hN
      obtain ⟨e1, e2, e3⟩ := r3 hb hg
      have hI2 := ji_push hI (tg_P (B := B) (L := L2) hI.1 hN) (by omega)
      refine qY_0 (v := nI (tg B L2 s).2.1) hX hcc d2 ?_ ⟨ρ', e1, e2, r1, r2, e3⟩ ⟨hI2.1, hI2.2.1, hI2.2.2.1, hI2.2.2.2.1, hI2.2.2.2.2.1, by omega, fun i hi => by omega⟩
      unfold qa_fL_follow
      rw [d1, Option.bind_some]
      rfl
  · obtain ⟨d1, d2⟩ := a1 hb
    obtain ⟨ρ', r1, r2, r3, _, _⟩ := rf_fw hR1 hI hN
    obtain ⟨⟨r, e1⟩, e2, e3⟩ := r3 hb
    refine qY_1 (code := 1) hX hcc d2 ?_ (by decide) ⟨r, ρ', e1, e2, r1, e3⟩ (ji_u hI (by omega))
    unfold qa_fL_follow
    rw [d1, Option.bind_some]
    rfl
end QMG
