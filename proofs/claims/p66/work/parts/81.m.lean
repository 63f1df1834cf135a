/-! the class's calls that change the show, over what holds between calls (p66) -/
section QKB
variable {σ σ1 σ2 σ' : qa_T} {s t : qs} {N M k f L2 : Nat} {U V : Nat → qs} {Z : Nat → Bool} {B : Nat → Int32} {X : Nat → Int32} {a x v c1 c2 c3 : Int32}
theorem ku_k (h : k ≤ 6) : qu_k k ≤ 6 := by
  unfold qu_k
  split <;> omega
theorem ku_f (h : f < 6) : qu_f k f < 6 := by
  unfold qu_f
  split
  · exact h
  · omega
theorem kC (hX : σ.1 (0, 0) = X) (hcc : qe_cc σ σ2) (hC : qj_C σ2 t (qu_k k) (qu_f k f) (qu_U k U s) Z V L2 B) (hk : k ≤ 6) (hf : f < 6) (hP : qi_P M t) (hv : qv M t) : qK M X t σ2 :=
  ⟨by rw [cc_0 hcc, hX], ⟨_, _, _, _, _, _, _, hC, ku_k hk, ku_f hf⟩, hP, hv⟩
theorem k_addSlide (h : qK N X s σ) (d1 : 1 ≤ c1.toInt ∧ c1.toInt ≤ 50) (d2 : 1 ≤ c2.toInt ∧ c2.toInt ≤ 20) (d3 : 0 ≤ c3.toInt ∧ c3.toInt ≤ 10) (g : (s 0).toInt < 16) : ∃ σ', qa_fX9_addSlide c1 c2 c3 σ = some (.inl (s 0), σ') ∧ qK N X (qr_as s c1 c2 c3) σ' := by
  obtain ⟨hX, ⟨k, f, U, Z, V, L, B, hC, hk, hf⟩, hP, hv⟩ := h
  have hs := hP.1.1.1
  have w1 : ∀ σ : qa_T, qa_fX9_isWithin c1 (Int32.ofInt 1) ((Int8.ofInt 50).toInt32) σ = true := fun σ => by rw [iw_x, qk_a1, qk_b50, qk_t1, qk_t50]; exact (bin _ _).mpr d1
  have w2 : ∀ σ : qa_T, qa_fX9_isWithin c2 (Int32.ofInt 1) ((Int8.ofInt 20).toInt32) σ = true := fun σ => by rw [iw_x, qk_a1, qk_b20, qk_t1, qk_t20]; exact (bin _ _).mpr d2
  have w3 : ∀ σ : qa_T, qa_fX9_isWithin c3 (Int32.ofInt 0) ((Int8.ofInt 10).toInt32) σ = true := fun σ => by rw [iw_x, qk_a0, qk_b10, qk_t0, qk_t10]; exact (bin _ _).mpr d3
  have hI2 := as_I hP.1 g d1 d2 d3
  have hst := as_st hP.1 hP.2.1 g hI2
  have hP2 : qi_P N (qr_as s c1 c2 c3) := ⟨hI2, hst.2, fun j hj => by
    have := (qi_n hs).2
    rw [as_o (by omega) (by omega) (by omega) (by omega), hP.2.2 j hj]⟩
  obtain ⟨σ1, p1, p2, p3⟩ := cl_push hC hk hf hs
  obtain ⟨q1, q2, q3⟩ := cl_add (c := c1) (l := c2) (f := c3) p2.1 hs g hP.1.1.2.2.2.1.2.2.2.1
  obtain ⟨σ2, m1, m2, m3⟩ := mu_c p2 q3 q2 hI2
  rw [hst.1] at m2
  refine ⟨σ2, ?_, kC hX (cc_t p3 m3) m2 hk hf hP2 (v_as hP.1.1 hv g)⟩
  unfold qa_fX9_addSlide qa_fX9_addSlide_35 qa_fX9_addSlide_58
  have n16 : ¬ ((Int8.ofInt 16).toInt32) ≤ s 0 := fun t => by
    rw [qk_b16, qz_le, qk_t16] at t
    omega
  rw [w1, if_neg nt, w2, if_neg nt, w3, if_neg nt, qk_a1, if_neg (by decide), ra_n0 hC.1.1, if_neg n16, if_neg (by decide), p1, Option.bind_some]
  dsimp only
  rw [m1, Option.bind_some, q1]
theorem k_insert {p j : Nat} (h : qK N X s σ) (hp : p ≤ qn (s 113)) (hj : j < qn (s 0)) (hc : qn (s 113) < 24) (hN : N + 1000 < 2147483647) : ∃ σ', qa_fX9_insert (nI p) (nI j) σ = some (.inl (qr_bg (qr_ip s p j) 113), σ') ∧ qK N X (qr_bg (qr_ip s p j)) σ' := by
  have ki := k_is h hj
  have hN2 : N + 2 < 2147483647 := by omega
  obtain ⟨hX, ⟨k, f, U, Z, V, L, B, hC, hk, hf⟩, hP, hv⟩ := h
  have hs := hP.1.1.1
  have hp1 := hP.1.1.2.1
  have hp0 := qn_int hp1.1
  have e1 : qa_fX9_isWithin (nI p) (Int32.ofInt 0) (σ.1 (1, 9) 0) σ = true := by
    rw [iw_x, qk_a0, qk_t0, ra_113 hC.1.1, qz_nI (by omega)]
    exact (bin _ _).mpr (by omega)
  have hI2 := ip_I (p := p) (a := j) hP.1 hj (by omega) (by omega)
  have hP2 : qi_P N (qr_bg (qr_ip s p j)) := bg_P hI2 (fun i hi => by rw [ip_o (by omega) (by omega) (by omega), hP.2.2 i hi])
  obtain ⟨σ1, p1, p2, p3⟩ := cl_push hC hk hf hs
  obtain ⟨σ', q1, q2, q3⟩ := cl_put (p := p) (a := j) p2.1 hs hp1 (by omega) (by omega)
  obtain ⟨σ2, m1, m2, m3⟩ := mu_c p2 q3 q2 hI2
  have hct := hP.1.1.2.2.2.2.2.2
  refine ⟨σ2, ?_, kC hX (cc_t p3 m3) m2 hk hf hP2 (v_bg (M := N) hN2 hI2 (v_ip hP.1.1 hv hp hc))⟩
  unfold qa_fX9_insert qa_fX9_insert_37 qa_fX9_insert_60
  have n24 : ¬ ((Int8.ofInt 24).toInt32) ≤ s 113 := fun t => by
    rw [qk_b24, qz_le, qk_t24] at t
    omega
  rw [e1, if_neg nt, ki, if_neg nt, qk_a1, if_neg (by decide), ra_113 hC.1.1, if_neg n24, if_neg (by decide), p1, Option.bind_some, q1, Option.bind_some, m1, Option.bind_some, ra_113 m2.1.1]
theorem k_takeOut {p : Nat} (h : qK N X s σ) (hp : p < qn (s 113)) (hN : N + 1000 < 2147483647) : ∃ σ', qa_fX9_takeOut (nI p) σ = some (.inl (s (114 + p)), σ') ∧ qK N X (qr_bg (qr_rp s p)) σ' := by
  have hN2 : N + 2 < 2147483647 := by omega
  obtain ⟨hX, ⟨k, f, U, Z, V, L, B, hC, hk, hf⟩, hP, hv⟩ := h
  have hs := hP.1.1.1
  have hp1 := hP.1.1.2.1
  have hp0 := qn_int hp1.1
  have hp24 := (qi_p hp1).2
  have e : qa_fX3_has 1 (nI p) σ = true := by
    rw [cl_h3 hC]
    unfold qi_pl
    rw [qz_nI (by omega), Bool.and_eq_true, decide_eq_true_eq, decide_eq_true_eq]
    omega
  have hI2 := rp_I (p := p) hP.1 (by omega)
  have hP2 : qi_P N (qr_bg (qr_rp s p)) := bg_P hI2 (fun j hj => by rw [rp_o (by omega) (by omega), hP.2.2 j hj])
  obtain ⟨σ1, p1, p2, p3⟩ := cl_push hC hk hf hs
  obtain ⟨σ', q1, q2, q3⟩ := cl_rm (p := p) p2.1 hs hp1 (by omega)
  obtain ⟨σ2, m1, m2, m3⟩ := mu_c p2 q3 q2 hI2
  refine ⟨σ2, ?_, kC hX (cc_t p3 m3) m2 hk hf hP2 (v_bg (M := N) hN2 hI2 (v_rp hP.1.1 hv))⟩
  unfold qa_fX9_takeOut
  rw [e, if_neg nt, p1, Option.bind_some, q1, Option.bind_some]
  dsimp only
  rw [m1, Option.bind_some]
theorem k_goOn (h : qK N X s σ) (d : qr_cg s = true) (hN : N + 1000 < 2147483647) : ∃ σ', qa_fX9_goOn σ = some (.inl (qr_go s).1, σ') ∧ qK (N + 2) X (qr_bg (qr_go s).2) σ' := by
  obtain ⟨hX, ⟨k, f, U, Z, V, L, B, hC, hk, hf⟩, hP, hv⟩ := h
  have hs := hP.1.1.1
  obtain ⟨d4, d5⟩ := cg_s hP.1.1.2.1 d
  have hI2 := go_I hP.1 d4 d5 (by omega)
  have hP2 : qi_P (N + 2) (qr_bg (qr_go s).2) := bg_P hI2 (fun j hj => by rw [hi_go hP.1.1 d4 hj, hP.2.2 j hj])
  obtain ⟨σ1, p1, p2, p3⟩ := cl_push hC hk hf hs
  obtain ⟨σ', q1, q2, q3⟩ := cl_go p2.1 hP.1.1 d4
  obtain ⟨σ2, m1, m2, m3⟩ := mu_c p2 q3 q2 hI2
  refine ⟨σ2, ?_, kC hX (cc_t p3 m3) m2 hk hf hP2 (vq_u (v_bg (M := N + 2) (by omega) hI2 (v_go hP.1.1 hv d4 d5 (by omega))) (by omega))⟩
  unfold qa_fX9_goOn
  rw [cl_cg hC.1.1, d, if_neg nt, p1, Option.bind_some, q1, Option.bind_some]
  dsimp only
  rw [m1, Option.bind_some]
theorem k_ask {j : Nat} (h : qK N X s σ) (hj : j < qn (s 0)) (d : qr_ca s j = true) (hN : N + 1000 < 2147483647) : ∃ σ', qa_fX9_ask (nI j) σ = some (.inl (qr_bg (qr_aq s j) 146), σ') ∧ qK N X (qr_bg (qr_aq s j)) σ' := by
  have ki := k_is h hj
  have hN2 : N + 2 < 2147483647 := by omega
  obtain ⟨hX, ⟨k, f, U, Z, V, L, B, hC, hk, hf⟩, hP, hv⟩ := h
  have hs := hP.1.1.1
  have hn := (qi_n hs).2
  have hq := hP.1.1.2.2.2.2.1
  have h5 := (ca_s hP.1.1 hj d).2.2.2.2
  have h6 := qn_int hq.1
  have hI2 := aq_I hP.1 hj d
  have hP2 : qi_P N (qr_bg (qr_aq s j)) := bg_P hI2 (fun i hi => by rw [aq_o (by omega) (by omega), hP.2.2 i hi])
  have ema : qa_fX1_mayAsk 1 (nI j) σ = some (qr_ca s j) := cl_ma hC.1.1 hs (qi_qdq hq) (by omega)
  obtain ⟨σ1, p1, p2, p3⟩ := cl_push hC hk hf hs
  obtain ⟨q1, q2⟩ := cl_qu p2.1 hs (qi_qdq hq) (a := j) (by omega)
  obtain ⟨σ2, m1, m2, m3⟩ := mu_c p2 q2 q1 hI2
  refine ⟨σ2, ?_, kC hX (cc_t p3 m3) m2 hk hf hP2 (v_bg (M := N) hN2 hI2 (v_aq hP.1.1 hv h5))⟩
  unfold qa_fX9_ask
  rw [ki, if_neg nt, ema, Option.bind_some, d, if_neg nt, p1, Option.bind_some]
  dsimp only
  rw [m1, Option.bind_some, ra_146 m2.1.1]
theorem k_burn {j : Nat} (h : qK N X s σ) (hj : j < qn (s 0)) (d : qr_cb s j = true) (hN : N + 1000 < 2147483647) : ∃ σ', qa_fX9_burn (nI j) σ = some (.inl (s (1 + 7 * j)), σ') ∧ qK N X (qr_bg (qr_bu s j)) σ' := by
  have ki := k_is h hj
  have hN2 : N + 2 < 2147483647 := by omega
  obtain ⟨hX, ⟨k, f, U, Z, V, L, B, hC, hk, hf⟩, hP, hv⟩ := h
  have hs := hP.1.1.1
  have hn := (qi_n hs).2
  have hj16 : j < 16 := by omega
  have h4 : ¬ s 144 = nI j := fun t => by
    have h5 := lo_n hP.1.1.2.2.2.1 hj16 t
    rw [(cb_i d).1] at h5
    exact i10 h5.symm
  have hI2 := bu_I hP.1 hj d
  have hP2 : qi_P N (qr_bg (qr_bu s j)) := bg_P hI2 (fun i hi => by rw [bu_o (by omega) (by omega), hP.2.2 i hi])
  have ecost : qr_bg (qr_bu s j) (1 + 7 * j) = s (1 + 7 * j) := by rw [bg_c hI2.1 hj16, bu_o (by omega) (by omega)]
  have ema : qa_fX1_mayBurn 1 (nI j) σ = qr_cb s j := cl_mb hC.1.1 hs hj16
  obtain ⟨σ1, p1, p2, p3⟩ := cl_push hC hk hf hs
  obtain ⟨q1, q2, _⟩ := cl_bu p2.1 hs hP.1.1.2.2.2.2.2.1 (a := j) hj (ld_i.mpr (cb_i d).1) h4
  obtain ⟨σ2, m1, m2, m3⟩ := mu_c p2 q2 q1 hI2
  refine ⟨σ2, ?_, kC hX (cc_t p3 m3) m2 hk hf hP2 (v_bg (M := N) hN2 hI2 (v_bu hP.1.1 hv hj16 d hN2))⟩
  unfold qa_fX9_burn
  have e : qa_fX9_at (1, 2) 16 (nI j) σ2 = s (1 + 7 * j) := by
    rw [at_in hj16 (by omega), ra_c m2.1.1 hj16, ecost]
  rw [ki, if_neg nt, ema, d, if_neg nt, p1, Option.bind_some]
  dsimp only
  rw [m1, Option.bind_some, e]
theorem k_tick {j : Nat} (h : qK N X s σ) (hj : 1 ≤ j) (hj2 : j ≤ 100) (hN : N + 1000 < 2147483647) : ∃ σ', qa_fX9_tick (nI j) σ = some (.inl (nI (qr_ti j s).1), σ') ∧ qK (N + 4 * j) X (qr_ti j s).2 σ' := by
  obtain ⟨hX, ⟨k, f, U, Z, V, L, B, hC, hk, hf⟩, hP, hv⟩ := h
  have hs := hP.1.1.1
  have e1 : ∀ σ : qa_T, qa_fX9_isWithin (nI j) (Int32.ofInt 1) ((Int8.ofInt 100).toInt32) σ = true := fun σ => by
    rw [iw_x, qk_a1, qk_b100, qk_t1, qk_t100, qz_nI (by omega)]
    exact (bin _ _).mpr (by omega)
  have h1 := ti_I j N s hP.1 (by omega)
  have hP2 : qi_P (N + 4 * j) (qr_ti j s).2 := ⟨h1.1, h1.2 hP.2.1, fun i hi => by rw [hi_ti j N s hP.1 (by omega) i hi, hP.2.2 i hi]⟩
  obtain ⟨σ1, p1, p2, p3⟩ := cl_push hC hk hf hs
  obtain ⟨σ2, m1, m2, m3⟩ := cl_ps (j := j) p2.1 hP.1 (by omega) (by omega)
  refine ⟨σ2, ?_, kC hX (cc_t p3 (cc_F m3 (by omega) (by omega))) (jc_1 p2 m3 m2) hk hf hP2 (vq_u (v_ti j N N s hP.1 hv (by omega) (by omega)) (by omega))⟩
  unfold qa_fX9_tick
  rw [e1, if_neg nt, p1, Option.bind_some, m1, Option.bind_some]
theorem k_changeMemory (h : qK N X s σ) (c : 150 ≤ a.toInt ∧ a.toInt ≤ 400) (hN : N + 1000 < 2147483647) : ∃ σ', qa_fX9_changeMemory a σ = some (.inl (s 163), σ') ∧ qK N X (qr_bg (qr_mr 0 (upd s 163 a)).2) σ' := by
  have hN2 : N + 2 < 2147483647 := by omega
  obtain ⟨hX, ⟨k, f, U, Z, V, L, B, hC, hk, hf⟩, hP, hv⟩ := h
  have hs := hP.1.1.1
  have e1 : ∀ σ : qa_T, qa_fX9_isWithin a ((Int16.ofInt 150).toInt32) ((Int16.ofInt 400).toInt32) σ = true := fun σ => by rw [iw_x, qk_c150, qk_c400, qk_t150, qk_t400]; exact (bin _ _).mpr c
  have hse : qi_se (upd s 163 a) := by
    have := hP.1.1.2.2.2.2.2.1
    unfold qi_se at this ⊢
    simp (disch := omega) only [pk_us, pk_un, qz_ue]
    omega
  have hA2 : qi_A N (upd s 163 a) := se_A hP.1.1 (by omega) (by omega) hse
  have hv2 : qv N (upd s 163 a) := v_se hP.1.1 hv (by omega) (by omega)
  have hI2 : qi_I N (qr_mr 0 (upd s 163 a)).2 := mr_I hA2
  have hP2 : qi_P N (qr_bg (qr_mr 0 (upd s 163 a)).2) := bg_P hI2 (fun j hj => by rw [mr_o hA2.1 (by omega) (by omega), pk_un (by omega), hP.2.2 j hj])
  obtain ⟨σ1, p1, p2, p3⟩ := cl_push hC hk hf hs
  have q1 : qe_R 1 (qa_wi σ1 (1, 14) 0 a) (upd s 163 a) := ⟨ra_w p2.1.1 (i := 163) (by omega) (by omega) (by omega) rfl rfl, by rw [wi_np (by decide), p2.1.2, ta_u (by omega) (qi_n hs).2]⟩
  have q2 : qe_F 1 σ1 (qa_wi σ1 (1, 14) 0 a) := qe_Fw (by omega)
  have eo : σ1.1 (1, 14) 0 = s 163 := ra_163 p2.1.1
  obtain ⟨σ', w1, w2, w3⟩ := cl_bd (m := 0) (x := a) q1 hA2 (by rw [pk_us]; omega)
  obtain ⟨σ2, m1, m2, m3⟩ := mu_c p2 (qe_Ft q2 w3) w2 hI2
  refine ⟨σ2, ?_, kC hX (cc_t p3 m3) m2 hk hf hP2 (v_bg (M := N) hN2 hI2 (v_mr hN2 hA2 hv2))⟩
  unfold qa_fX9_changeMemory
  rw [e1, if_neg nt, p1, Option.bind_some]
  dsimp only
  rw [w1, Option.bind_some, m1, Option.bind_some, eo]
theorem k_changeAhead (h : qK N X s σ) (c : 0 ≤ a.toInt ∧ a.toInt ≤ 4) (hN : N + 1000 < 2147483647) : ∃ σ', qa_fX9_changeAhead a σ = some (.inl (s 164), σ') ∧ qK N X (qr_bg (upd s 164 a)) σ' := by
  have hN2 : N + 2 < 2147483647 := by omega
  obtain ⟨hX, ⟨k, f, U, Z, V, L, B, hC, hk, hf⟩, hP, hv⟩ := h
  have hs := hP.1.1.1
  have e1 : ∀ σ : qa_T, qa_fX9_isWithin a (Int32.ofInt 0) (Int32.ofInt 4) σ = true := fun σ => by rw [iw_x, qk_a0, qk_a4, qk_t0, qk_t4]; exact (bin _ _).mpr c
  have hse : qi_se (upd s 164 a) := by
    have := hP.1.1.2.2.2.2.2.1
    unfold qi_se at this ⊢
    simp (disch := omega) only [pk_us, pk_un, qz_ue]
    omega
  have hI2 : qi_I N (upd s 164 a) := se_I hP.1 (by omega) (by omega) hse
  have hP2 : qi_P N (qr_bg (upd s 164 a)) := bg_P hI2 (fun j hj => by rw [pk_un (by omega), hP.2.2 j hj])
  obtain ⟨σ1, p1, p2, p3⟩ := cl_push hC hk hf hs
  have q1 : qe_R 1 (qa_wi σ1 (1, 14) 1 a) (upd s 164 a) := ⟨ra_w p2.1.1 (i := 164) (by omega) (by omega) (by omega) rfl rfl, by rw [wi_np (by decide), p2.1.2, ta_u (by omega) (qi_n hs).2]⟩
  have q2 : qe_F 1 σ1 (qa_wi σ1 (1, 14) 1 a) := qe_Fw (by omega)
  have eo : σ1.1 (1, 14) 1 = s 164 := ra_164 p2.1.1
  obtain ⟨σ2, m1, m2, m3⟩ := mu_c p2 q2 q1 hI2
  refine ⟨σ2, ?_, kC hX (cc_t p3 m3) m2 hk hf hP2 (v_bg (M := N) hN2 hI2 (v_se hP.1.1 hv (by omega) (by omega)))⟩
  unfold qa_fX9_changeAhead
  rw [e1, if_neg nt, p1, Option.bind_some]
  dsimp only
  rw [m1, Option.bind_some, eo]
theorem k_changeOrder (h : qK N X s σ) (c : 0 ≤ a.toInt ∧ a.toInt ≤ 2) (hN : N + 1000 < 2147483647) : ∃ σ', qa_fX9_changeOrder a σ = some (.inl (s 165), σ') ∧ qK N X (qr_bg (upd s 165 a)) σ' := by
  have hN2 : N + 2 < 2147483647 := by omega
  obtain ⟨hX, ⟨k, f, U, Z, V, L, B, hC, hk, hf⟩, hP, hv⟩ := h
  have hs := hP.1.1.1
  have e1 : ∀ σ : qa_T, qa_fX9_isWithin a (Int32.ofInt 0) (Int32.ofInt 2) σ = true := fun σ => by rw [iw_x, qk_a0, qk_a2, qk_t0, qk_t2]; exact (bin _ _).mpr c
  have hse : qi_se (upd s 165 a) := by
    have := hP.1.1.2.2.2.2.2.1
    unfold qi_se at this ⊢
    simp (disch := omega) only [pk_us, pk_un, qz_ue]
    omega
  have hI2 : qi_I N (upd s 165 a) := se_I hP.1 (by omega) (by omega) hse
  have hP2 : qi_P N (qr_bg (upd s 165 a)) := bg_P hI2 (fun j hj => by rw [pk_un (by omega), hP.2.2 j hj])
  obtain ⟨σ1, p1, p2, p3⟩ := cl_push hC hk hf hs
  have q1 : qe_R 1 (qa_wi σ1 (1, 14) 2 a) (upd s 165 a) := ⟨ra_w p2.1.1 (i := 165) (by omega) (by omega) (by omega) rfl rfl, by rw [wi_np (by decide), p2.1.2, ta_u (by omega) (qi_n hs).2]⟩
  have q2 : qe_F 1 σ1 (qa_wi σ1 (1, 14) 2 a) := qe_Fw (by omega)
  have eo : σ1.1 (1, 14) 2 = s 165 := ra_165 p2.1.1
  obtain ⟨σ2, m1, m2, m3⟩ := mu_c p2 q2 q1 hI2
  refine ⟨σ2, ?_, kC hX (cc_t p3 m3) m2 hk hf hP2 (v_bg (M := N) hN2 hI2 (v_se hP.1.1 hv (by omega) (by omega)))⟩
  unfold qa_fX9_changeOrder
  rw [e1, if_neg nt, p1, Option.bind_some]
  dsimp only
  rw [m1, Option.bind_some, eo]
theorem k_changeGlow (h : qK N X s σ) (c : 0 ≤ a.toInt ∧ a.toInt ≤ 20) (hN : N + 1000 < 2147483647) : ∃ σ', qa_fX9_changeGlow a σ = some (.inl (s 166), σ') ∧ qK N X (qr_bg (upd s 166 a)) σ' := by
  have hN2 : N + 2 < 2147483647 := by omega
  obtain ⟨hX, ⟨k, f, U, Z, V, L, B, hC, hk, hf⟩, hP, hv⟩ := h
  have hs := hP.1.1.1
  have e1 : ∀ σ : qa_T, qa_fX9_isWithin a (Int32.ofInt 0) ((Int8.ofInt 20).toInt32) σ = true := fun σ => by rw [iw_x, qk_a0, qk_b20, qk_t0, qk_t20]; exact (bin _ _).mpr c
  have hse : qi_se (upd s 166 a) := by
    have := hP.1.1.2.2.2.2.2.1
    unfold qi_se at this ⊢
    simp (disch := omega) only [pk_us, pk_un, qz_ue]
    omega
  have hI2 : qi_I N (upd s 166 a) := se_I hP.1 (by omega) (by omega) hse
  have hP2 : qi_P N (qr_bg (upd s 166 a)) := bg_P hI2 (fun j hj => by rw [pk_un (by omega), hP.2.2 j hj])
  obtain ⟨σ1, p1, p2, p3⟩ := cl_push hC hk hf hs
  have q1 : qe_R 1 (qa_wi σ1 (1, 14) 3 a) (upd s 166 a) := ⟨ra_w p2.1.1 (i := 166) (by omega) (by omega) (by omega) rfl rfl, by rw [wi_np (by decide), p2.1.2, ta_u (by omega) (qi_n hs).2]⟩
  have q2 : qe_F 1 σ1 (qa_wi σ1 (1, 14) 3 a) := qe_Fw (by omega)
  have eo : σ1.1 (1, 14) 3 = s 166 := ra_166 p2.1.1
  obtain ⟨σ2, m1, m2, m3⟩ := mu_c p2 q2 q1 hI2
  refine ⟨σ2, ?_, kC hX (cc_t p3 m3) m2 hk hf hP2 (v_bg (M := N) hN2 hI2 (v_se hP.1.1 hv (by omega) (by omega)))⟩
  unfold qa_fX9_changeGlow
  rw [e1, if_neg nt, p1, Option.bind_some]
  dsimp only
  rw [m1, Option.bind_some, eo]
theorem k_changePace (h : qK N X s σ) (c : 0 ≤ a.toInt ∧ a.toInt ≤ 50) (hN : N + 1000 < 2147483647) : ∃ σ', qa_fX9_changePace a σ = some (.inl (s 167), σ') ∧ qK N X (qr_bg (upd s 167 a)) σ' := by
  have hN2 : N + 2 < 2147483647 := by omega
  obtain ⟨hX, ⟨k, f, U, Z, V, L, B, hC, hk, hf⟩, hP, hv⟩ := h
  have hs := hP.1.1.1
  have e1 : ∀ σ : qa_T, qa_fX9_isWithin a (Int32.ofInt 0) ((Int8.ofInt 50).toInt32) σ = true := fun σ => by rw [iw_x, qk_a0, qk_b50, qk_t0, qk_t50]; exact (bin _ _).mpr c
  have hse : qi_se (upd s 167 a) := by
    have := hP.1.1.2.2.2.2.2.1
    unfold qi_se at this ⊢
    simp (disch := omega) only [pk_us, pk_un, qz_ue]
    omega
  have hI2 : qi_I N (upd s 167 a) := se_I hP.1 (by omega) (by omega) hse
  have hP2 : qi_P N (qr_bg (upd s 167 a)) := bg_P hI2 (fun j hj => by rw [pk_un (by omega), hP.2.2 j hj])
  obtain ⟨σ1, p1, p2, p3⟩ := cl_push hC hk hf hs
  have q1 : qe_R 1 (qa_wi σ1 (1, 14) 4 a) (upd s 167 a) := ⟨ra_w p2.1.1 (i := 167) (by omega) (by omega) (by omega) rfl rfl, by rw [wi_np (by decide), p2.1.2, ta_u (by omega) (qi_n hs).2]⟩
  have q2 : qe_F 1 σ1 (qa_wi σ1 (1, 14) 4 a) := qe_Fw (by omega)
  have eo : σ1.1 (1, 14) 4 = s 167 := ra_167 p2.1.1
  obtain ⟨σ2, m1, m2, m3⟩ := mu_c p2 q2 q1 hI2
  refine ⟨σ2, ?_, kC hX (cc_t p3 m3) m2 hk hf hP2 (v_bg (M := N) hN2 hI2 (v_se hP.1.1 hv (by omega) (by omega)))⟩
  unfold qa_fX9_changePace
  rw [e1, if_neg nt, p1, Option.bind_some]
  dsimp only
  rw [m1, Option.bind_some, eo]
end QKB
