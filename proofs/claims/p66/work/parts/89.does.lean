/-! what the law of p66 does in a step (2), and its loop -/
section QKJ
variable {σ σ1 σ2 σ' : qa_T} {s t : qs} {N M : Nat} {X : Nat → Int32} {a x v : Int32}
/-- the show goes on -/
theorem l_gone (h : qK N X s σ) (d : qr_cg s = true) (hN : N + 1000 < 2147483647) : ∃ t σ', qa_fL_isGone σ = some (true, σ') ∧ qK (N + 2) X t σ' := by
  obtain ⟨σ1, g1, g2⟩ := k_goOn h d hN
  have hA := qK_i h
  have hs := qK_s h
  have hn := n16 h
  have hp := hA.2.1
  obtain ⟨d4, d5⟩ := cg_s hp d
  obtain ⟨a1, a2⟩ := ga_b hp d4 hs
  have i0 := qn_int hp.1
  have hw := hA.2.2.1
  have w1 := hw.1
  have hA2 := (go_I h.2.2.1.1 d4 d5 (by omega)).1
  have z : ¬ s 113 = 0 := fun t => by
    rw [t, qk_t0] at d4
    omega
  have eix : (s 138 + Int32.ofInt 1) - (s 138 + Int32.ofInt 1) / s 113 * s 113 = nI (qr_ix s 1) := rf_pi hp d4 (k := 1) (by omega) (by omega)
  have hix := (qi_ixb hp d4 1).1
  have o : ∀ i, (112 < i ∧ i < 144) ∨ (162 < i ∧ ¬ i = 171 ∧ ¬ i = 172 ∧ ¬ i = 173) → qr_bg (qr_go s).2 i = (qr_go s).2 i := fun i hi => bg_o hA2 hi
  have e138 : qr_bg (qr_go s).2 138 = nI (qr_ix s 1) := by
    rw [o 138 (by omega)]
    by_cases c : qr_ld s (qr_ga s) = true
    · exact (go_1 hA d4 c).2.1
    · exact (go_0 hA c).2.1
  have h0' : qr_bg (qr_go s).2 0 = s 0 := by
    rw [bg_w hA2 (Or.inl rfl)]
    unfold qr_go
    split
    · dsimp only
      rw [sh_o (by omega) (by omega) (by omega), pk_un (by omega), g0_o (by omega)]
    · dsimp only
      rw [fg_o (go_q hA) _ (by omega), pk_un (by omega), pk_un (by omega), g0_o (by omega)]
  have e2 : qr_bg (qr_go s).2 (1 + 7 * qr_ga s + 2) = s (1 + 7 * qr_ga s + 2) := by
    rw [bg_w hA2 (Or.inr ⟨qr_ga s, 2, by omega, rfl, by omega⟩)]
    unfold qr_go
    split
    · dsimp only
      rw [sh_o (by omega) (by omega) (by omega), pk_un (by omega), g0_o (by omega)]
    · dsimp only
      rw [fg_o (go_q hA) _ (by omega), pk_un (by omega), pk_un (by omega), g0_o (by omega)]
  have a1' : qr_ga s < qn (qr_bg (qr_go s).2 0) := by rw [h0']; exact a1
  refine ⟨_, σ1, ?_, g2⟩
  unfold qa_fL_isGone
  rw [l_show h, Option.bind_some]
  dsimp only
  rw [k_places h, if_neg z, eix, k_slideAt h hix, Option.bind_some]
  dsimp only
  rw [a2, k_isLoaded h a1, Option.bind_some]
  dsimp only
  rw [l_told1 h, Option.bind_some]
  dsimp only
  rw [g1, Option.bind_some]
  dsimp only
  by_cases c : qr_ld s (qr_ga s) = true
  · obtain ⟨q1, q2, q3, q4, q5, q6, q7, q8, q9⟩ := go_1 hA d4 c
    rw [q1, c, if_neg (not_not_intro rfl), if_neg nt]
    unfold qa_fL_isGone_66_1
    rw [k_hits g2, k_hits h, o 169 (by omega), q3, qk_a1, if_neg (not_not_intro rfl), if_neg nt]
    unfold qa_fL_isGone_85_1
    rw [k_misses g2, k_misses h, o 170 (by omega), q4, qk_a0, Int32.add_zero, if_neg (not_not_intro rfl), l_show g2, Option.bind_some]
    dsimp only
    rw [e138, if_neg (not_not_intro rfl)]
    unfold qa_fL_isGone_102_1
    rw [if_neg (by decide), if_neg nt, l_told1 g2, Option.bind_some]
    dsimp only
    have s139 : qr_bg (qr_go s).2 139 = nI (qr_ga s) := by rw [o 139 (by omega), q5]
    rw [s139, if_neg (not_not_intro rfl), k_shownFor g2 (by rw [s139]; exact qr_nI_m (by omega)), Option.bind_some]
    dsimp only
    rw [o 143 (by omega), q6, if_neg (not_not_intro rfl)]
    by_cases c1 : s 139 < 0
    · rw [if_pos c1]
      rfl
    · rw [if_neg c1]
      rw [lt_i, qk_t0] at c1
      by_cases c2 : s 139 = nI (qr_ga s)
      · rw [if_pos c2]
        rfl
      · have cn : ¬ (s 139 = -1 ∨ s 139 = nI (qr_ga s)) := by
          rintro (y | y)
          · rw [qz_m1] at y; omega
          · exact c2 y
        rw [if_neg cn] at q8 q9
        rw [if_neg c2, k_fadeOf g2 a1', Option.bind_some]
        dsimp only
        rw [e2]
        have f0 := (((hs.2.2 (qr_ga s) (by omega)).2.2.2.2.1 (by have := qn_int hs.1; omega)).2.2.2.2).1
        by_cases c3 : s (1 + 7 * qr_ga s + 2) = 0
        · rw [if_neg (not_not_intro c3), l_told2 g2, Option.bind_some]
          dsimp only
          rw [o 140 (by omega), q8, c3, if_pos (show (0 : Int32) ≤ 0 by decide), if_neg (by decide)]
          rfl
        · have c4 : ¬ s (1 + 7 * qr_ga s + 2) ≤ 0 := fun t => by
            rw [qz_l0] at t
            exact c3 (qz_00.mpr (by omega))
          rw [if_pos c3, l_told2 g2, Option.bind_some]
          dsimp only
          rw [o 140 (by omega), q8, if_neg c4, if_neg (not_not_intro rfl), k_fadeOf g2 a1', Option.bind_some]
          dsimp only
          rw [k_fadeLeft g2, o 141 (by omega), q9, e2, if_neg (not_not_intro rfl)]
          rfl
  · obtain ⟨q1, q2, q3, q4, q5, q6⟩ := go_0 hA c
    have cf : qr_ld s (qr_ga s) = false := Bool.eq_false_iff.mpr c
    rw [q1, cf, if_neg (not_not_intro rfl), if_pos (show qa_bi false = 0 from rfl)]
    unfold qa_fL_isGone_66
    rw [k_hits g2, k_hits h, o 169 (by omega), q3, qk_a0, Int32.add_zero, if_neg (not_not_intro rfl), if_pos (show qa_bi false = 0 from rfl)]
    unfold qa_fL_isGone_85
    rw [k_misses g2, k_misses h, o 170 (by omega), q4, qk_a1, if_neg (not_not_intro rfl), l_show g2, Option.bind_some]
    dsimp only
    rw [e138, if_neg (not_not_intro rfl)]
    unfold qa_fL_isGone_102_1
    rw [if_neg (by decide), if_pos (show qa_bi false = 0 from rfl), l_told0 g2, Option.bind_some]
    dsimp only
    rw [o 142 (by omega), q6, if_neg (not_not_intro rfl), l_told1 g2, Option.bind_some]
    dsimp only
    rw [o 139 (by omega), q5, if_neg (not_not_intro rfl)]
    rfl
/-- a slide is added -/
theorem l_add (h : qK N X s σ) (hc : (s 0).toInt < 16) (hN : N + 1000 < 2147483647) : ∃ t σ', qa_fL_does_23 v x (s 0) σ = some (true, σ') ∧ qK N X t σ' := by
  have hs := qK_s h
  have hn0 := qn_int hs.1
  have hn := qi_n hs
  obtain ⟨r1, p1, p2⟩ := l_low (σ := σ) (c := 50) x (by omega) (by omega)
  obtain ⟨r2, q1, q2⟩ := l_low (σ := σ) (c := 8) (v >>> ((Int32.ofInt 3) &&& 31)) (by omega) (by omega)
  obtain ⟨r3, w1, w2⟩ := l_low (σ := σ) (c := 5) (x >>> ((Int32.ofInt 3) &&& 31)) (by omega) (by omega)
  have i1 : ((Int32.ofInt 1) + nI r1).toInt = 1 + r1 := by rw [show (Int32.ofInt 1) = nI 1 from rfl, nI_add, qz_nI (by omega)]; omega
  have i2 : ((Int32.ofInt 1) + nI r2).toInt = 1 + r2 := by rw [show (Int32.ofInt 1) = nI 1 from rfl, nI_add, qz_nI (by omega)]; omega
  have i3 : (nI r3).toInt = r3 := qz_nI (by omega)
  obtain ⟨σ1, g1, g2⟩ := k_addSlide (c1 := (Int32.ofInt 1) + nI r1) (c2 := (Int32.ofInt 1) + nI r2) (c3 := nI r3) h (by omega) (by omega) (by omega) hc
  have e0 : qr_as s ((Int32.ofInt 1) + nI r1) ((Int32.ofInt 1) + nI r2) (nI r3) 0 = s 0 + 1 := by
    unfold qr_as
    simp (disch := omega) only [pk_us, pk_un, qz_ue]
  have e3 : qr_as s ((Int32.ofInt 1) + nI r1) ((Int32.ofInt 1) + nI r2) (nI r3) (1 + 7 * qn (s 0) + 3) = 0 := by
    rw [as_o (by omega) (by omega) (by omega) (by omega)]
    exact (hs.2.2 (qn (s 0)) (by omega)).2.2.2.2.2 (by omega)
  have hj : qn (s 0) < qn (qr_as s ((Int32.ofInt 1) + nI r1) ((Int32.ofInt 1) + nI r2) (nI r3) 0) := by
    have e4 : (s 0 + 1).toInt = (s 0).toInt + 1 := qz_p1 (by omega)
    have e5 := qn_int (x := s 0 + 1) (by omega)
    rw [e0]
    omega
  have hl : qr_ld (qr_as s ((Int32.ofInt 1) + nI r1) ((Int32.ofInt 1) + nI r2) (nI r3)) (qn (s 0)) = false := by
    cases e : qr_ld (qr_as s ((Int32.ofInt 1) + nI r1) ((Int32.ofInt 1) + nI r2) (nI r3)) (qn (s 0))
    · rfl
    · rw [ld_i, e3] at e
      exact absurd e i10
  refine ⟨_, σ1, ?_, g2⟩
  unfold qa_fL_does_23
  rw [show ((Int8.ofInt 50).toInt32) = nI 50 from rfl, p2, Option.bind_some]
  dsimp only
  rw [show ((Int8.ofInt 8).toInt32) = nI 8 from rfl, q2, Option.bind_some]
  dsimp only
  rw [show (Int32.ofInt 5) = nI 5 from rfl, w2, Option.bind_some]
  dsimp only
  rw [g1, Option.bind_some]
  dsimp only
  have kl := k_isLoaded g2 hj
  rw [← hn.1] at kl
  rw [if_neg (not_not_intro rfl), k_slides g2, e0, if_neg (not_not_intro (show s 0 + 1 = s 0 + Int32.ofInt 1 from rfl)), kl, Option.bind_some]
  dsimp only
  rw [hl, if_neg (not_not_intro (show qa_bi false = 0 from rfl))]
theorem l_tick6 (h : qK N X s σ) (hN : N + 1000 < 2147483647) : ∃ t σ', qa_fL_does_481 v x σ = some (true, σ') ∧ qK (N + 24) X t σ' := by
  obtain ⟨r, r1, r2⟩ := l_low (σ := σ) (c := 6) (x >>> ((Int32.ofInt 1) &&& 31)) (by omega) (by omega)
  obtain ⟨t, σ1, g1, g2⟩ := l_ticked (j := 1 + r) h (by omega) (by omega) hN
  refine ⟨t, σ1, ?_, qK_u g2 (by omega)⟩
  unfold qa_fL_does_481
  rw [show ((Int8.ofInt 6).toInt32) = nI 6 from rfl, r2, Option.bind_some]
  dsimp only
  rw [show (Int32.ofInt 1) + nI r = nI (1 + r) from nI_add 1 r, g1, Option.bind_some]
theorem l_does2 (h : qK N X s σ) (h0 : 0 < qn (s 0)) (hN : N + 2000 < 2147483647) : ∃ t σ', qa_fL_does_80 v x (s 0) σ = some (true, σ') ∧ qK (N + 164) X t σ' := by
  have hs := qK_s h
  have hn := qi_n hs
  have hp := (qK_i h).2.1
  have hp24 := qi_p hp
  have i113 := qn_int hp.1
  obtain ⟨j, j1, j2⟩ := l_low (σ := σ) (c := qn (s 0)) (v >>> ((Int32.ofInt 4) &&& 31)) h0 (by omega)
  rw [← hn.1] at j2
  have up : ∀ {t : qs} {σ' : qa_T}, qK N X t σ' → qK (N + 164) X t σ' := fun g => qK_u g (by omega)
  have ins : ∃ t σ', qa_fL_does_164 v x (nI j) (s 113) σ = some (true, σ') ∧ qK (N + 164) X t σ' := by
    unfold qa_fL_does_164
    by_cases c : s 113 = ((Int8.ofInt 24).toInt32)
    · rw [if_pos c]
      exact ⟨s, σ, rfl, up h⟩
    · have c24 : qn (s 113) < 24 := by
        have h24 := hp24.2
        have : ¬ qn (s 113) = 24 := fun t => c (by rw [hp24.1, t]; rfl)
        omega
      obtain ⟨r, r1, r2⟩ := l_low (σ := σ) (c := qn (s 113) + 1) x (by omega) (by omega)
      obtain ⟨t, σ1, g1, g2⟩ := l_inserted (p := r) (j := j) h (by omega) j1 c24 (by omega)
      refine ⟨t, σ1, ?_, up g2⟩
      rw [if_neg c, show s 113 + Int32.ofInt 1 = nI (qn (s 113) + 1) by rw [← nI_add, ← hp24.1]; rfl, r2, Option.bind_some]
      dsimp only
      rw [g1, Option.bind_some]
      dsimp only
      rw [if_neg nt]
      rfl
  have gon : ∃ t σ', qa_fL_does_219 v x (s 113) σ = some (true, σ') ∧ qK (N + 164) X t σ' := by
    unfold qa_fL_does_219
    by_cases c : s 113 = 0
    · rw [if_pos c]
      exact ⟨s, σ, rfl, up h⟩
    · rw [if_neg c, l_told0 h, Option.bind_some]
      dsimp only
      by_cases c2 : 0 ≤ s 142
      · rw [if_pos c2]
        exact ⟨s, σ, rfl, up h⟩
      · have d : qr_cg s = true := by
          unfold qr_cg
          rw [Bool.and_eq_true]
          refine ⟨decide_eq_true (fun t => ?_), decide_eq_true ?_⟩
          · rw [qz_l0] at t
            exact c (qz_00.mpr (by omega))
          · rw [qz_le, qk_t0] at c2
            have := (qK_i h).2.2.2.1.1
            rw [qz_m1]
            omega
        obtain ⟨t, σ1, g1, g2⟩ := l_gone h d (by omega)
        refine ⟨t, σ1, ?_, qK_u g2 (by omega)⟩
        rw [if_neg c2, g1, Option.bind_some]
        dsimp only
        rw [if_neg nt]
        rfl
  unfold qa_fL_does_80
  rw [j2, Option.bind_some]
  dsimp only
  rw [k_places h]
  generalize v &&& ((Int8.ofInt 15).toInt32) = u
  by_cases c0 : u = 0
  · rw [if_pos c0]; exact ins
  rw [if_neg c0]
  by_cases c1 : u = 1
  · rw [if_pos c1]; exact ins
  rw [if_neg c1]
  by_cases c2 : u = 2
  · rw [if_pos c2]; exact ins
  rw [if_neg c2]
  by_cases c3 : u = 3
  · rw [if_pos c3]
    by_cases c : s 113 < Int32.ofInt 3
    · rw [if_pos c]
      exact ⟨s, σ, rfl, up h⟩
    · rw [if_neg c]
      have c' : 0 < qn (s 113) := by
        rw [lt_i, show ((Int32.ofInt 3)).toInt = 3 from rfl] at c
        omega
      obtain ⟨r, r1, r2⟩ := l_low (σ := σ) (c := qn (s 113)) x c' (by omega)
      rw [← hp24.1] at r2
      obtain ⟨t, σ1, g1, g2⟩ := l_taken (p := r) h r1 (by omega)
      refine ⟨t, σ1, ?_, up g2⟩
      rw [r2, Option.bind_some]
      dsimp only
      rw [g1, Option.bind_some]
      dsimp only
      rw [if_neg nt]
      rfl
  rw [if_neg c3]
  by_cases c4 : u = 4
  · rw [if_pos c4]; exact gon
  rw [if_neg c4]
  by_cases c5 : u = 5
  · rw [if_pos c5]; exact gon
  rw [if_neg c5]
  by_cases c6 : u = 6
  · rw [if_pos c6]; exact gon
  rw [if_neg c6]
  by_cases c7 : u = 7
  · rw [if_pos c7]; exact gon
  rw [if_neg c7]
  by_cases c8 : u = 8
  · rw [if_pos c8, k_isLoaded h j1, Option.bind_some]
    dsimp only
    cases e1 : qr_ld s j
    · rw [if_neg (not_not_intro (show qa_bi false = 0 from rfl)), l_told0 h, Option.bind_some]
      dsimp only
      by_cases d1 : s 142 = nI j
      · rw [if_pos d1]
        exact ⟨s, σ, rfl, up h⟩
      · rw [if_neg d1, l_told3 h, Option.bind_some]
        dsimp only
        by_cases d2 : s 144 = nI j
        · rw [if_pos d2]
          exact ⟨s, σ, rfl, up h⟩
        · rw [if_neg d2, l_isAsked h, Option.bind_some]
          dsimp only
          cases e2 : (qr_qp s j).isSome
          · rw [if_neg (not_not_intro (show qa_bi false = 0 from rfl))]
            have ca : qr_ca s j = true := by
              unfold qr_ca
              have e3 : (qr_qp s j).isNone = true := by
                cases e : qr_qp s j
                · rfl
                · rw [e] at e2; cases e2
              rw [e1, decide_eq_false d2, decide_eq_false d1, e3]
              rfl
            obtain ⟨σ1, g1, g2⟩ := k_ask h j1 ca (by omega)
            refine ⟨_, σ1, ?_, up g2⟩
            rw [g1, Option.bind_some]
            dsimp only
            rw [k_asked g2, if_neg (not_not_intro rfl)]
            rfl
          · rw [if_pos nt]
            exact ⟨s, σ, rfl, up h⟩
    · rw [if_pos nt]
      exact ⟨s, σ, rfl, up h⟩
  rw [if_neg c8]
  by_cases c9 : u = 9
  · rw [if_pos c9, k_isLoaded h j1, Option.bind_some]
    dsimp only
    cases e1 : qr_ld s j
    · rw [if_pos (show qa_bi false = 0 from rfl)]
      exact ⟨s, σ, rfl, up h⟩
    · rw [if_neg nt, k_isOnShow h j1, Option.bind_some]
      dsimp only
      cases e2 : qr_os s j
      · have cb : qr_cb s j = true := by
          unfold qr_cb
          rw [e1, e2]
          rfl
        obtain ⟨t, σ1, g1, g2⟩ := l_burnt h j1 cb (by omega)
        refine ⟨t, σ1, ?_, up g2⟩
        rw [if_neg (not_not_intro (show qa_bi false = 0 from rfl)), g1, Option.bind_some]
        dsimp only
        rw [if_neg nt]
        rfl
      · rw [if_pos nt]
        exact ⟨s, σ, rfl, up h⟩
  rw [if_neg c9]
  have hse := (qK_i h).2.2.2.2.2.1
  obtain ⟨se1, se2, se3, se4, se5, se6, se7, se8, se9, se10⟩ := hse
  by_cases c10 : u = 10
  · obtain ⟨r, r1, r2⟩ := l_low (σ := σ) (c := 3) x (by omega) (by omega)
    have ir := qz_nI (k := r) (by omega)
    obtain ⟨σ1, g1, g2⟩ := k_changeOrder (a := nI r) h (by omega) (by omega)
    obtain ⟨r', w1, w2⟩ := l_low (σ := σ1) (c := 3) x (by omega) (by omega)
    have er : nI r' = nI r := by
      unfold qa_fL_low at r2 w2
      rw [if_neg (by decide)] at r2 w2
      have x1 := congrArg Prod.fst (Option.some.inj r2)
      have x2 := congrArg Prod.fst (Option.some.inj w2)
      exact x2.symm.trans x1
    have hI2 := se_I (i := 165) (v := nI r) h.2.2.1.1 (by omega) (by omega) (by
      unfold qi_se
      simp (disch := omega) only [pk_us, pk_un, qz_ue]
      omega)
    refine ⟨_, σ1, ?_, up g2⟩
    rw [if_pos c10, show (Int32.ofInt 3) = nI 3 from rfl, r2, Option.bind_some]
    dsimp only
    rw [g1, Option.bind_some]
    dsimp only
    rw [if_neg (fun t => by rw [qz_le, show (nI 3).toInt = 3 from rfl] at t; omega), w2, Option.bind_some]
    dsimp only
    rw [k_order g2, bg_o hI2.1 (by omega), pk_us, er, if_neg (not_not_intro rfl)]
  rw [if_neg c10]
  by_cases c11 : u = 11
  · rw [if_pos c11]
    by_cases c : x &&& Int32.ofInt 1 = 0
    · rw [if_neg (not_not_intro c)]
      obtain ⟨r, r1, r2⟩ := l_low (σ := σ) (c := 5) (x >>> ((Int32.ofInt 1) &&& 31)) (by omega) (by omega)
      have ir := qz_nI (k := r) (by omega)
      obtain ⟨σ1, g1, g2⟩ := k_changeAhead (a := nI r) h (by omega) (by omega)
      refine ⟨_, σ1, ?_, up g2⟩
      rw [show (Int32.ofInt 5) = nI 5 from rfl, r2, Option.bind_some]
      dsimp only
      rw [g1, Option.bind_some]
      dsimp only
      rw [if_neg (fun t => by rw [lt_i, qk_t0] at t; omega)]
    · rw [if_pos c]
      obtain ⟨r, r1, r2⟩ := l_low (σ := σ) (c := 21) (x >>> ((Int32.ofInt 1) &&& 31)) (by omega) (by omega)
      have ir := qz_nI (k := r) (by omega)
      obtain ⟨σ1, g1, g2⟩ := k_changeGlow (a := nI r) h (by omega) (by omega)
      refine ⟨_, σ1, ?_, up g2⟩
      rw [show ((Int8.ofInt 21).toInt32) = nI 21 from rfl, r2, Option.bind_some]
      dsimp only
      rw [g1, Option.bind_some]
      dsimp only
      rw [if_neg (fun t => by rw [lt_i, qk_t0] at t; omega)]
  rw [if_neg c11]
  by_cases c12 : u = 12
  · rw [if_pos c12]
    by_cases c : x &&& Int32.ofInt 3 = 0
    · rw [if_neg (not_not_intro c)]
      obtain ⟨r, r1, r2⟩ := l_low (σ := σ) (c := 9) (x >>> ((Int32.ofInt 2) &&& 31)) (by omega) (by omega)
      have ir := qz_nI (k := r) (by omega)
      obtain ⟨σ1, g1, g2⟩ := k_changePace (a := nI r) h (by omega) (by omega)
      refine ⟨_, σ1, ?_, up g2⟩
      rw [show ((Int8.ofInt 9).toInt32) = nI 9 from rfl, r2, Option.bind_some]
      dsimp only
      rw [g1, Option.bind_some]
      dsimp only
      rw [if_neg (fun t => by rw [lt_i, qk_t0] at t; omega)]
    · rw [if_pos c]
      obtain ⟨r, r1, r2⟩ := l_low (σ := σ) (c := 100) x (by omega) (by omega)
      have ir : (((Int16.ofInt 150).toInt32) + nI r).toInt = 150 + r := by
        rw [show ((Int16.ofInt 150).toInt32) = nI 150 from rfl, nI_add, qz_nI (by omega)]
        omega
      obtain ⟨σ1, g1, g2⟩ := k_changeMemory (a := ((Int16.ofInt 150).toInt32) + nI r) h (by omega) (by omega)
      refine ⟨_, σ1, ?_, up g2⟩
      rw [show ((Int8.ofInt 100).toInt32) = nI 100 from rfl, r2, Option.bind_some]
      dsimp only
      rw [g1, Option.bind_some]
      dsimp only
      rw [if_neg (fun t => by rw [qz_l0] at t; omega)]
  rw [if_neg c12, l_told0 h, Option.bind_some]
  dsimp only
  have tick : ∃ t σ', qa_fL_does_481 v x σ = some (true, σ') ∧ qK (N + 164) X t σ' := by
    obtain ⟨t, σ1, g1, g2⟩ := l_tick6 (v := v) (x := x) h (by omega)
    exact ⟨t, σ1, g1, qK_u g2 (by omega)⟩
  by_cases c : s 142 < 0
  · rw [if_pos c]
    exact tick
  · rw [if_neg c]
    by_cases d : x &&& Int32.ofInt 1 = 0
    · rw [if_neg (not_not_intro d)]
      exact tick
    · rw [if_pos d]
      obtain ⟨t, σ1, g1, g2⟩ := l_awaited h (fun t => by rw [lt_i, qk_t0, t, qk_tm1] at c; omega) hN
      refine ⟨t, σ1, ?_, g2⟩
      rw [g1, Option.bind_some]
theorem l_does (h : qK N X s σ) (hN : N + 2000 < 2147483647) : ∃ t σ', qa_fL_does v x σ = some (true, σ') ∧ qK (N + 164) X t σ' := by
  have hs := qK_s h
  have hn := qi_n hs
  have i0 := qn_int hs.1
  have add : (s 0).toInt < 16 → ∃ t σ', qa_fL_does_23 v x (s 0) σ = some (true, σ') ∧ qK (N + 164) X t σ' := fun c => by
    obtain ⟨t, σ1, g1, g2⟩ := l_add (v := v) (x := x) h c (by omega)
    exact ⟨t, σ1, g1, qK_u g2 (by omega)⟩
  unfold qa_fL_does
  dsimp only
  rw [k_slides h]
  by_cases c : s 0 < Int32.ofInt 4
  · rw [if_pos c]
    rw [lt_i, show ((Int32.ofInt 4)).toInt = 4 from rfl] at c
    exact add (by omega)
  · rw [if_neg c]
    rw [lt_i, show ((Int32.ofInt 4)).toInt = 4 from rfl] at c
    have two : ∃ t σ', qa_fL_does_80 v x (s 0) σ = some (true, σ') ∧ qK (N + 164) X t σ' := l_does2 h (by omega) hN
    by_cases d : v &&& ((Int8.ofInt 31).toInt32) = 0
    · rw [if_neg (not_not_intro d)]
      by_cases e : ((Int8.ofInt 16).toInt32) ≤ s 0
      · rw [if_pos e]
        exact two
      · rw [if_neg e]
        rw [qz_le, show (((Int8.ofInt 16).toInt32)).toInt = 16 from rfl] at e
        exact add (by omega)
    · rw [if_pos d]
      exact two
theorem l_cell {L : Nat} (hL : L < 2147483648) (a : Int32) (ha : 0 ≤ a.toInt) : ∃ y, qa_fL_cell L a σ = some (y, σ) := by
  unfold qa_fL_cell
  by_cases c : Int32.ofNat L ≤ a
  · rw [if_pos c]
    exact ⟨_, rfl⟩
  · rw [if_neg c]
    have i : qa_in a L = true := qz_in.mpr ⟨ha, by
      rw [qz_le] at c
      have : (Int32.ofNat L).toInt = L := qz_nI hL
      omega⟩
    rw [if_neg (not_not_intro i)]
    exact ⟨_, rfl⟩
theorem l_law {L : Nat} (hL : L < 2147483648) : ∀ (m k N : Nat) (s : qs) (σ : qa_T), qK N X s σ → k ≤ 50 → 50 - k < m → N + 164 * (50 - k) + 20000 < 1073741824 → ∃ σ', qa_fL_law_10 L m (nI k) σ = some (true, σ') := by
  intro m
  induction m with
  | zero => intro k N s σ _ _ hm _; omega
  | succ m ih =>
    intro k N s σ h hk hm hN
    rw [qa_fL_law_10]
    by_cases c : k = 50
    · subst c
      rw [if_pos (by decide)]
      exact ⟨σ, rfl⟩
    · rw [if_neg (fun t => by rw [qz_le, qz_nI (by omega), show (((Int8.ofInt 50).toInt32)).toInt = 50 from rfl] at t; omega)]
      obtain ⟨v, v1⟩ := l_cell (σ := σ) hL (nI k) (by rw [qz_nI (by omega)]; omega)
      obtain ⟨w, w1⟩ := l_cell (σ := σ) hL (nI k + ((Int8.ofInt 14).toInt32)) (by rw [show ((Int8.ofInt 14).toInt32) = nI 14 from rfl, nI_add, qz_nI (by omega)]; omega)
      obtain ⟨t, σ1, g1, g2⟩ := l_does (v := v) (x := w) h (by omega)
      obtain ⟨σ2, p1, p2⟩ := l_memorySo g2 (by omega)
      have q1 := l_askedSo p2
      have next : ∀ τ : qa_T, qK (N + 164) X t τ → ∃ σ', qa_fL_law_75 L (qa_fL_law_10 L m) (nI k) τ = some (true, σ') := fun τ hτ => by
        obtain ⟨σ', e⟩ := ih (k + 1) (N + 164) t τ hτ (by omega) (by omega) (by omega)
        refine ⟨σ', ?_⟩
        unfold qa_fL_law_75
        dsimp only
        rw [← nI_add] at e
        exact e
      rw [v1, Option.bind_some]
      dsimp only
      rw [w1, Option.bind_some]
      dsimp only
      rw [g1, Option.bind_some]
      dsimp only
      rw [if_neg nt, p1, Option.bind_some]
      dsimp only
      rw [if_neg nt, q1, Option.bind_some]
      dsimp only
      rw [if_neg nt]
      split
      · exact next σ2 p2
      · obtain ⟨σ3, r1, r2⟩ := l_roundSo (a := w) p2 (by omega)
        rw [r1, Option.bind_some]
        dsimp only
        rw [if_pos nt]
        exact next σ3 r2
end QKJ
