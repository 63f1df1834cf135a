/-! the law's calls (5): the next use, burnings, misses -/
section QMB
variable {σ σ1 σ' τ ρ : qa_T} {s t : qs} {X : Nat → Int32} {N M k k' f f' j p L L2 L' : Nat} {U V U' V' : Nat → qs} {Z Z' : Nat → Bool} {B B' : Nat → Int32} {k23 : Int32 → qa_T → Option (Bool × qa_T)} {x a v r code : Int32} {y : Int32}
theorem nf_1 (s : qs) (a : Nat) : ∀ (m k : Nat), 1 ≤ k → 1 ≤ qr_nf s a m k := by
  intro m
  induction m with
  | zero => intro k _; show 1 ≤ 25; omega
  | succ m ih =>
    intro k hk
    rw [qr_nf]
    split
    · exact hk
    · exact ih (k + 1) (by omega)
theorem y_nextUse (h : qJ N X σ) : qY N X σ (fun σ => qa_fL_nextUse a σ) (fun σ => qa_fX10_nextUse a σ) := by
  obtain ⟨hX, s, k, f, U, Z, V, L2, B, hC, hR, hI⟩ := h
  have hs := hI.1.1.1.1
  have hp := hI.1.1.1.2.1
  have hp24 := (qi_p hp).2
  have hp1 := (qi_p hp).1
  by_cases c : qi_is s a = true
  · obtain ⟨c1, c2, c3⟩ := is_n hs c
    have hn1 : 1 ≤ qr_nx s (qn a) := nf_1 s (qn a) _ 1 (by omega)
    have hle := qr_nx_le hp (qn a)
    have hpu := cl_pu (R := 1) hC.1.1 hp c3
    have ec : ∀ ρ : qa_T, ρ.1 (10, 22) = s → (qa_wi ρ (10, 21) 9 0).1 (10, 22) (((Int8.ofInt 113).toInt32)).toNatClampNeg = s 113 := fun τ h => by
      rw [wi_np (by decide), h]
      rfl
    have hnx : ∀ ρ : qa_T, qj_R ρ s k U Z V L2 B → qa_fX10_nextOf a (qa_wi ρ (10, 21) 9 0) = some (nI (qr_nx s (qn a))) := fun ρ h => by
      rw [jr_self (jr_9 (v := 0) h), c1, rf_nx hp, ← c1]
    by_cases d : qr_nx s (qn a) ≤ qn (s 113)
    · refine qY_0 (v := nI (qr_nx s (qn a))) hX cc_r hC ?_ ⟨qa_wi (wl σ (nI (qr_nx s (qn a))).toInt64) (10, 21) 9 0, ?_, jr_9 (jw9 hR), r9, rfl, wi_eq⟩ hI
      · rw [if_pos d, ← c1] at hpu
        unfold qa_fL_nextUse qa_fX9_nextUse qa_fX9_nextUse_35
        rw [cl_is hC hs, c, if_neg (show ¬ qa_bi true = 0 by decide), hpu, Option.bind_some, if_neg (nI_nle hn1 (by omega)), qk_a1, if_neg (by decide), Option.bind_some]
        rfl
      · unfold qa_fX10_nextUse qa_fX10_nextUse_38
        dsimp only
        rw [rf_i1 (jw9 hR) hs c]
        dsimp only
        rw [if_pos (show ¬ qa_bi true = 0 by decide), hnx _ (jw9 hR), Option.bind_some, ec _ (jw9 hR).1, hp1, if_pos (nI_le d (by omega)), Option.bind_some]
    · refine qY_1 (code := 2) hX cc_r hC ?_ (by decide) ⟨0, qa_wi (qa_wi σ (10, 21) 9 0) (10, 21) 9 2, ?_, jr_9 (jr_9 hR), rr_t r9 r9, wi_eq⟩ hI
      · rw [if_neg d, ← c1] at hpu
        unfold qa_fL_nextUse qa_fX9_nextUse qa_fX9_nextUse_35
        rw [cl_is hC hs, c, if_neg (show ¬ qa_bi true = 0 by decide), hpu, Option.bind_some, if_pos (by decide), qk_a0, if_pos rfl, Option.bind_some]
        rfl
      · unfold qa_fX10_nextUse qa_fX10_nextUse_38
        dsimp only
        rw [rf_i1 hR hs c]
        dsimp only
        rw [if_pos (show ¬ qa_bi true = 0 by decide), hnx _ hR, Option.bind_some, ec _ hR.1, hp1, if_neg (nI_ge (by omega) (by omega))]
        rfl
  · have cf := Bool.eq_false_iff.mpr c
    refine qY_1 (code := 1) hX cc_r hC ?_ (by decide) ⟨0, qa_wi σ (10, 21) 9 1, ?_, jr_9 hR, r9, wi_eq⟩ hI
    · unfold qa_fL_nextUse qa_fX9_nextUse
      rw [cl_is hC hs, cf, if_pos (show qa_bi false = 0 from rfl), Option.bind_some]
      rfl
    · unfold qa_fX10_nextUse
      dsimp only
      rw [rf_i0 hR hs cf]
      dsimp only
      rw [if_neg (not_not_intro (show qa_bi false = 0 from rfl))]
      rfl
/-- the burnings for a slide -/
theorem rf_bo (hR : qj_R ρ s k U Z V L2 B) (hP : qi_P N s) {a : Nat} (ha : a < qn (s 0)) : ∃ ρ', qa_fX10_burningsOf (nI a) ρ = some (if qr_ld s a = true ∨ s 144 = nI a then 0 else nI (qr_mr (s (1 + 7 * a)).toInt s).1, ρ') ∧ qj_R ρ' s k U Z V L2 B ∧ qe_rr ρ ρ' ∧ ρ'.2 = ρ.2 ∧ ρ'.1 (10, 21) 9 = ρ.1 (10, 21) 9 := by
  have hs := hP.1.1.1
  have hn := (qi_n hs).2
  have hi := qn_int hs.1
  have e144 : ρ.1 (10, 22) (((Int16.ofInt 144).toInt32)).toNatClampNeg = s 144 := by rw [hR.1]; rfl
  have eld : qa_fX10_loaded (nI a) ρ = some (qr_ld s a) := by rw [jr_self hR, rf_ld (by omega)]
  unfold qa_fX10_burningsOf qa_fX10_burningsOf_20
  rw [eld, Option.bind_some, e144]
  by_cases c : qr_ld s a = true
  · rw [c, if_pos (show ¬ qa_bi true = 0 by decide), if_pos (Or.inl rfl)]
    exact ⟨ρ, rfl, hR, rr_r, rfl, rfl⟩
  · rw [Bool.eq_false_iff.mpr c, if_neg (not_not_intro (show qa_bi false = 0 from rfl))]
    by_cases c2 : s 144 = nI a
    · rw [if_neg (not_not_intro c2), if_pos (Or.inr c2)]
      exact ⟨ρ, rfl, hR, rr_r, rfl, rfl⟩
    · rw [if_pos c2, if_neg (by rintro (t | t); exact absurd t (by decide); exact c2 t)]
      have hc := (hs.2.2 a (by omega)).2.2.2.2.1 (by omega)
      obtain ⟨ρ3, b1, b2, b3⟩ := rf_ka (ρ := ρ) (s := s) (y := ρ.1 (10, 21) 10)
      have g2 := rf_of0 (ρ := ρ3) (s := s) (y := ρ.1 (10, 21) 10) (k := a) (by omega)
      have g3 := rf_mr (ρ := ρ3) (y := ρ.1 (10, 21) 10) hP.1.1.2.1 hs hP.1.1.2.2.2.2.2.1 (b := s (1 + 7 * a)) (by omega) (by omega)
      have g4 := rf_pb (ρ := ρ3) (s := (qr_mr (s (1 + 7 * a)).toInt s).2) (t := s) (y := ρ.1 (10, 21) 10) b3 (fun i hi => mr_o hs (by omega) (by omega))
      rw [jr_self hR, b1, Option.bind_some, qk_a0, g2, Option.bind_some, g3, Option.bind_some]
      dsimp only
      rw [g4, Option.bind_some]
      refine ⟨qw ρ3 s (ρ.1 (10, 21) 10), rfl, jr_qw (O_26 hR b2), ?_, ?_, ?_⟩
      · rw [← jr_self hR]
        exact rr_t (rr_26 b2) rr_qw
      · show ρ3.2 = ρ.2
        exact b2.2
      · rw [qw_21 (by decide), qw_21 (by decide), b2.1 _ (by decide)]
theorem y_burningsFor (h : qJ N X σ) : qY N X σ (fun σ => qa_fL_burningsFor a σ) (fun σ => qa_fX10_burningsFor a σ) := by
  obtain ⟨hX, s, k, f, U, Z, V, L2, B, hC, hR, hI⟩ := h
  have hs := hI.1.1.1.1
  by_cases c : qi_is s a = true
  · obtain ⟨c1, c2, c3⟩ := is_n hs c
    obtain ⟨σ1, a1, a2⟩ := cl_bt (a := qn a) hC.1 hI.1.1.1 c2
    have hF := qe_GF a2
    have hcc := cc_F hF (by omega) (by omega)
    generalize ew : (if qr_ld s (qn a) = true ∨ s 144 = nI (qn a) then (0 : Int32) else nI (qr_mr (s (1 + 7 * qn a)).toInt s).1) = w at a1
    obtain ⟨ρ', b1, b2, b3, b4, b5⟩ := rf_bo (ρ := qa_wi (wl σ1 w.toInt64) (10, 21) 9 0) (jr_9 (jw9 (jr_cc hR hcc))) hI.1 c2
    rw [ew] at b1
    refine qY_0 (v := w) hX hcc (jc_1 hC hF (rr_G hC.1 a2)) ?_ ⟨ρ', ?_, b2, rr_t r9 b3, b4, by rw [b5, wi_eq]⟩ hI
    · unfold qa_fL_burningsFor qa_fX9_burningsFor
      rw [← c1] at a1
      rw [cl_is hC hs, c, if_neg (show ¬ qa_bi true = 0 by decide), a1, Option.bind_some, Option.bind_some]
      rfl
    · unfold qa_fX10_burningsFor qa_fX10_burningsFor_17
      dsimp only
      rw [rf_i1 (jw9 (jr_cc hR hcc)) hs c]
      dsimp only
      rw [← c1] at b1
      rw [if_neg (show ¬ qa_bi true = 0 by decide), b1, Option.bind_some]
  · have cf := Bool.eq_false_iff.mpr c
    refine qY_1 (code := 1) hX cc_r hC ?_ (by decide) ⟨0, qa_wi σ (10, 21) 9 1, ?_, jr_9 hR, r9, wi_eq⟩ hI
    · unfold qa_fL_burningsFor qa_fX9_burningsFor
      rw [cl_is hC hs, cf, if_pos (show qa_bi false = 0 from rfl), Option.bind_some]
      rfl
    · unfold qa_fX10_burningsFor qa_fX10_burningsFor_17
      dsimp only
      rw [rf_i0 hR hs cf]
      dsimp only
      rw [if_pos (show qa_bi false = 0 from rfl)]
      rfl
/-- the misses of a round -/
theorem rf_mq (hR : qj_R ρ s k U Z V L2 B) (hP : qi_P N s) (hx : 0 ≤ x.toInt) (hx2 : x.toInt ≤ 2) (hc : qr_cg s = true) (hN : N + 6000 < 2147483647) : ∃ ρ', qa_fX10_missing x ρ = some (nI (qr_mx s x), ρ') ∧ qj_R ρ' s k U Z V L2 B ∧ qe_rr ρ ρ' ∧ ρ'.2 = ρ.2 ∧ ρ'.1 (10, 21) 9 = ρ.1 (10, 21) 9 := by
  obtain ⟨c4, c5⟩ := cg_s hP.1.1.2.1 hc
  obtain ⟨ρ', y', g1, g2⟩ := rf_mi (ρ := ρ) (y := ρ.1 (10, 21) 10) hP.1 hx hx2 c5 c4 hN
  rw [jr_self hR, g1]
  rw [← jr_self hR]
  refine ⟨qw ρ' s y', rfl, jr_qw (O_26 hR g2), rr_t (rr_26 g2) rr_qw, g2.2, ?_⟩
  rw [qw_21 (by decide), g2.1 _ (by decide)]
theorem rf_cgR (hR : qj_R ρ s k U Z V L2 B) : qa_fX10_canGoOn ρ = qr_cg s := by
  rw [jr_self hR, rf_cg]
theorem y_missesWith (h : qJ N X σ) (hN : N + 6000 < 2147483647) : qY N X σ (fun σ => qa_fL_missesWith a σ) (fun σ => qa_fX10_missesWith a σ) := by
  obtain ⟨hX, s, k, f, U, Z, V, L2, B, hC, hR, hI⟩ := h
  have hs := hI.1.1.1.1
  have e1 : ∀ σ : qa_T, qa_fX9_isWithin a (Int32.ofInt 0) (Int32.ofInt 2) σ = (decide (0 ≤ a.toInt) && decide (a.toInt ≤ 2)) := fun σ => by rw [iw_x, qk_a0, qk_a2, qk_t0, qk_t2]
  have e2 : ∀ σ : qa_T, qa_fX10_in a (Int32.ofInt 0) (Int32.ofInt 2) σ = (decide (0 ≤ a.toInt) && decide (a.toInt ≤ 2)) := fun σ => by rw [in_x, qk_a0, qk_a2, qk_t0, qk_t2]
  by_cases c : (decide (0 ≤ a.toInt) && decide (a.toInt ≤ 2)) = true
  · have c' := c
    rw [Bool.and_eq_true, decide_eq_true_eq, decide_eq_true_eq] at c'
    by_cases d : qr_cg s = true
    · obtain ⟨d4, d5⟩ := cg_s hI.1.1.1.2.1 d
      obtain ⟨σ1, a1, a2⟩ := cl_mi hC.1 hI.1.1 c'.1 c'.2 d5 d4 hN
      have hcc := cc_F a2 (by omega) (by omega)
      obtain ⟨ρ', b1, b2, b3, b4, b5⟩ := rf_mq (ρ := qa_wi (wl σ1 (nI (qr_mx s a)).toInt64) (10, 21) 9 0) (jr_9 (jw9 (jr_cc hR hcc))) hI.1 c'.1 c'.2 d hN
      refine qY_0 (v := nI (qr_mx s a)) hX hcc (jc_2 hC a2) ?_ ⟨ρ', ?_, b2, rr_t r9 b3, b4, by rw [b5, wi_eq]⟩ hI
      · unfold qa_fL_missesWith qa_fX9_missesWith
        rw [e1, c, if_neg (show ¬ qa_bi true = 0 by decide), cl_cg hC.1.1, d, if_neg (show ¬ qa_bi true = 0 by decide), a1, Option.bind_some, Option.bind_some]
        rfl
      · unfold qa_fX10_missesWith qa_fX10_missesWith_26 qa_fX10_missesWith_45
        dsimp only
        rw [e2, c, if_pos (show ¬ qa_bi true = 0 by decide), rf_cgR (jw9 (jr_cc hR hcc)), d, if_neg (show ¬ qa_bi true = 0 by decide), qk_a0, wi_eq, if_neg (by decide), b1, Option.bind_some]
    · have df := Bool.eq_false_iff.mpr d
      refine qY_1 (code := 2) hX cc_r hC ?_ (by decide) ⟨0, qa_wi σ (10, 21) 9 2, ?_, jr_9 hR, r9, wi_eq⟩ hI
      · unfold qa_fL_missesWith qa_fX9_missesWith
        rw [e1, c, if_neg (show ¬ qa_bi true = 0 by decide), cl_cg hC.1.1, df, if_pos (show qa_bi false = 0 from rfl), Option.bind_some]
        rfl
      · unfold qa_fX10_missesWith qa_fX10_missesWith_26 qa_fX10_missesWith_45
        dsimp only
        rw [e2, c, if_pos (show ¬ qa_bi true = 0 by decide), rf_cgR hR, df, if_pos (show qa_bi false = 0 from rfl), qk_a2, wi_eq, if_pos (by decide)]
        rfl
  · have cf := Bool.eq_false_iff.mpr c
    refine qY_1 (code := 1) hX cc_r hC ?_ (by decide) ⟨0, qa_wi σ (10, 21) 9 1, ?_, jr_9 hR, r9, wi_eq⟩ hI
    · unfold qa_fL_missesWith qa_fX9_missesWith
      rw [e1, cf, if_pos (show qa_bi false = 0 from rfl), Option.bind_some]
      rfl
    · unfold qa_fX10_missesWith qa_fX10_missesWith_26 qa_fX10_missesWith_45
      dsimp only
      rw [e2, cf, if_neg (not_not_intro (show qa_bi false = 0 from rfl)), qk_a1, wi_eq, if_pos (by decide)]
      rfl
/-- the best order -/
def qr_b2 (s : qs) (i x : Int32) : Int32 := if nI (qr_mx s i) ≤ nI (qr_mx s x) then i else x
theorem b2_c (s : qs) (i x : Int32) : qr_b2 s i x = i ∨ qr_b2 s i x = x := by
  unfold qr_b2
  split
  · exact Or.inl rfl
  · exact Or.inr rfl
theorem cl_b4 {n : Nat} {i : Int32} (hC : qj_C σ s k f U Z V L2 B) (hP : qi_P N s) (hc : qr_cg s = true) (hx : 0 ≤ x.toInt) (hx2 : x.toInt ≤ 2) (hN : N + 6000 < 2147483647) : ∃ σ', qa_fX9_bestOrder_20 (n + 1) i (nI (qr_mx s i)) x σ = qa_fX9_bestOrder_20 n (qr_b2 s i x) (nI (qr_mx s (qr_b2 s i x))) (x + 1) σ' ∧ qj_C σ' s k f U Z V L2 B ∧ qe_cc σ σ' := by
  obtain ⟨d4, d5⟩ := cg_s hP.1.1.2.1 hc
  obtain ⟨σ1, a1, a2⟩ := cl_mi hC.1 hP.1 hx hx2 d5 d4 hN
  have hcc := cc_F a2 (by omega) (by omega)
  have h3 : ¬ Int32.ofInt 3 ≤ x := fun t => by
    rw [qk_a3, qz_le, show ((3 : Int32)).toInt = 3 from rfl] at t
    omega
  refine ⟨σ1, ?_, jc_2 hC a2, hcc⟩
  rw [qa_fX9_bestOrder_20, if_neg h3, a1, Option.bind_some]
  unfold qa_fX9_bestOrder_43 qr_b2
  dsimp only
  rw [qk_a1]
  by_cases c : nI (qr_mx s i) ≤ nI (qr_mx s x)
  · rw [if_pos c, if_pos c]
  · rw [if_neg c, if_neg c]
theorem rf_b4 {n : Nat} {i : Int32} (hR : qj_R ρ s k U Z V L2 B) (hP : qi_P N s) (hc : qr_cg s = true) (hi : 0 ≤ i.toInt) (hi2 : i.toInt ≤ 2) (hx : 0 ≤ x.toInt) (hx2 : x.toInt ≤ 2) (h9 : ρ.1 (10, 21) 9 = 0) (hN : N + 6000 < 2147483647) : ∃ ρ', qa_fX10_bestOrder_20 (n + 1) i x ρ = qa_fX10_bestOrder_20 n (qr_b2 s i x) (x + 1) ρ' ∧ qj_R ρ' s k U Z V L2 B ∧ qe_rr ρ ρ' ∧ ρ'.2 = ρ.2 ∧ ρ'.1 (10, 21) 9 = 0 := by
  obtain ⟨ρ1, a1, a2, a3, a4, a5⟩ := rf_mq hR hP hx hx2 hc hN
  obtain ⟨ρ2, b1, b2, b3, b4, b5⟩ := rf_mq a2 hP hi hi2 hc hN
  have h3 : ¬ Int32.ofInt 3 ≤ x := fun t => by
    rw [qk_a3, qz_le, show ((3 : Int32)).toInt = 3 from rfl] at t
    omega
  refine ⟨ρ2, ?_, b2, rr_t a3 b3, b4.trans a4, by rw [b5, a5, h9]⟩
  rw [qa_fX10_bestOrder_20, if_neg h3, h9, if_neg (not_not_intro rfl), a1, Option.bind_some]
  dsimp only
  rw [b1, Option.bind_some]
  unfold qa_fX10_bestOrder_50 qr_b2
  dsimp only
  rw [qk_a1]
  by_cases c : nI (qr_mx s i) ≤ nI (qr_mx s x)
  · rw [if_pos c, if_pos c]
  · rw [if_neg c, if_neg c]
theorem cl_b5 {n : Nat} {i w : Int32} : qa_fX9_bestOrder_20 (n + 1) i w (1 + 1 + 1) σ = some (.inl i, σ) := by
  rw [qa_fX9_bestOrder_20, if_pos (by decide)]
theorem rf_b5 {n : Nat} {i : Int32} : qa_fX10_bestOrder_20 (n + 1) i (1 + 1 + 1) ρ = some (i, ρ) := by
  rw [qa_fX10_bestOrder_20, if_pos (by decide)]
  rfl
theorem fu_3 : ∃ n, qa_fu = n + 1 + 1 + 1 := ⟨2997, rfl⟩
theorem y_bestOrder (h : qJ N X σ) (hN : N + 6000 < 2147483647) : qY N X σ qa_fL_bestOrder qa_fX10_bestOrder := by
  obtain ⟨hX, s, k, f, U, Z, V, L2, B, hC, hR, hI⟩ := h
  have hP := hI.1
  by_cases d : qr_cg s = true
  · obtain ⟨d4, d5⟩ := cg_s hP.1.1.2.1 d
    obtain ⟨σ1, a1, a2⟩ := cl_mi (x := 0) hC.1 hP.1 (by decide) (by decide) d5 d4 hN
    have c1 := cc_F a2 (by omega) (by omega)
    obtain ⟨n, hn⟩ := fu_3
    obtain ⟨σ2, g1, g2, g3⟩ := cl_b4 (n := n + 1 + 1) (i := 0) (x := 1) (jc_2 hC a2) hP d (by decide) (by decide) hN
    obtain ⟨σ3, k1, k2, k3⟩ := cl_b4 (n := n + 1) (i := qr_b2 s 0 1) (x := 1 + 1) g2 hP d (by decide) (by decide) hN
    have hcc := cc_t c1 (cc_t g3 k3)
    have hR3 := jr_9 (v := 0) (jw9 (w := (qr_b2 s (qr_b2 s 0 1) (1 + 1)).toInt64) (jr_cc hR hcc))
    obtain ⟨ρ1, p1, p2, p3, p4, p5⟩ := rf_b4 (n := n + 1 + 1) (i := 0) (x := 1) hR3 hP d (by decide) (by decide) (by decide) (by decide) wi_eq hN
    have bi : 0 ≤ (qr_b2 s 0 1).toInt ∧ (qr_b2 s 0 1).toInt ≤ 2 := by
      rcases b2_c s 0 1 with e | e <;> rw [e] <;> decide
    obtain ⟨ρ2, q1, q2, q3, q4, q5⟩ := rf_b4 (n := n + 1) (i := qr_b2 s 0 1) (x := 1 + 1) p2 hP d bi.1 bi.2 (by decide) (by decide) p5 hN
    refine qY_0 (v := qr_b2 s (qr_b2 s 0 1) (1 + 1)) hX hcc k2 ?_ ⟨ρ2, ?_, q2, rr_t r9 (rr_t p3 q3), by rw [q4, p4]; rfl, q5⟩ hI
    · unfold qa_fL_bestOrder qa_fX9_bestOrder
      rw [cl_cg hC.1.1, d, if_neg (show ¬ qa_bi true = 0 by decide), qk_a0, a1, Option.bind_some, qk_a1, hn, g1, k1, cl_b5, Option.bind_some]
      rfl
    · unfold qa_fX10_bestOrder qa_fX10_bestOrder_13
      dsimp only
      rw [rf_cgR (jw9 (jr_cc hR hcc)), d, if_neg (show ¬ qa_bi true = 0 by decide), qk_a0, qk_a1, hn, p1, q1, rf_b5]
  · have df := Bool.eq_false_iff.mpr d
    refine qY_1 (code := 1) hX cc_r hC ?_ (by decide) ⟨0, qa_wi σ (10, 21) 9 1, ?_, jr_9 hR, r9, wi_eq⟩ hI
    · unfold qa_fL_bestOrder qa_fX9_bestOrder
      rw [cl_cg hC.1.1, df, if_pos (show qa_bi false = 0 from rfl), Option.bind_some]
      rfl
    · unfold qa_fX10_bestOrder qa_fX10_bestOrder_13
      dsimp only
      rw [rf_cgR hR, df, if_pos (show qa_bi false = 0 from rfl), qk_a0, qk_a1, show qa_fu = 2999 + 1 from rfl, qa_fX10_bestOrder_20, if_neg (by decide), wi_eq, if_pos (by decide)]
      rfl
end QMB
