/-! the class: it goes on, a tick, ticks -/
section QCE
variable {σ σ' : qa_T} {s t : qs} {R N : Nat}
theorem cl_cg (h : qe_A R σ s) : qa_fX1_mayGoOn R σ = qr_cg s := by
  unfold qa_fX1_mayGoOn qa_fX1_mayGoOn_25 qr_cg
  rw [ra_113 h, ra_142 h, qk_am1]
  by_cases c1 : s 113 ≤ 0 <;> by_cases c2 : s 142 = -1 <;> simp [c1, c2]
theorem cl_ad (h : qe_A R σ s) (hs : qi_sl s) (hp : qi_pr s) (h0 : 0 < (s 113).toInt) : qa_fX3_advance R σ = (nI (qr_ga s), qa_wi σ (R, 9) 1 (nI (qr_ix s 1))) := by
  have h1 := hp.2.2.1
  have h2 := hp.2.2.2.1
  have h3 := hp.2.1
  have h4 := (qi_ixb hp h0 1)
  have h5 := (qi_p hp).2
  obtain ⟨a1, a2⟩ := ga_b hp h0 hs
  have key : qa_fX3_advance_24 R (nI (qr_ix s 1)) σ = (nI (qr_ga s), qa_wi σ (R, 9) 1 (nI (qr_ix s 1))) := by
    unfold qa_fX3_advance_24
    dsimp only
    rw [wi_eq, at_in (by omega) (by omega), wi_np (by simp), ra_p h h4.1 (by omega), a2]
  unfold qa_fX3_advance
  rw [ra_113 h, ra_138 h, qk_a1, qk_a0]
  have e1 : (s 138 + 1).toInt = (s 138).toInt + 1 := qz_p1 (by omega)
  by_cases c : s 113 ≤ s 138 + 1
  · rw [if_pos c, ← key]
    congr 1
    rw [qz_le, e1] at c
    have : qr_ix s 1 = 0 := by
      have h6 := h4.2
      rw [show (s 138).toInt + ((1 : Nat) : Int) = (s 113).toInt by omega, Int.emod_self] at h6
      omega
    rw [this]
    rfl
  · rw [if_neg c, ← key]
    congr 1
    rw [qz_le, e1] at c
    have h6 := h4.2
    rw [Int.emod_eq_of_lt (by omega) (by omega)] at h6
    rw [qz_eq, e1, qz_nI (by omega)]
    omega
theorem cl_go (h : qe_R R σ s) (hA : qi_A N s) (h0 : 0 < (s 113).toInt) : ∃ σ', qa_fX1_proceed R σ = some ((qr_go s).1, σ') ∧ qe_R R σ' (qr_go s).2 ∧ qe_F R σ σ' := by
  obtain ⟨hs, hp, hw, hl, hq, he, hc⟩ := hA
  obtain ⟨a1, a2⟩ := ga_b hp h0 hs
  have hn := (qi_n hs).2
  have hi := qn_int hs.1
  have ha : qr_ga s < 16 := by omega
  have h1 : qe_A R (qa_wi σ (R, 9) 1 (nI (qr_ix s 1))) (qr_g0 s) := ra_w h.1 (by omega) (by omega) (by omega) rfl rfl
  have hs1 : qi_sl (qr_g0 s) := qq_sl hs (fun i hi => g0_o (by omega))
  have e1 : qr_ld (qr_g0 s) (qr_ga s) = qr_ld s (qr_ga s) := by
    unfold qr_ld
    rw [g0_o (by omega)]
  unfold qa_fX1_proceed qa_fX1_proceed_82
  rw [cl_ad h.1 hs hp h0]
  dsimp only
  rw [cl_rd h1 hs1 ha, e1, ra_169 h1, ra_170 h1, g0_o (i := 169) (by omega), g0_o (i := 170) (by omega), qk_a1, qk_am1]
  unfold qr_go
  cases c : qr_ld s (qr_ga s)
  · rw [if_pos (show qa_bi false = 0 from rfl), if_neg (show ¬ false = true by decide)]
    have h2 : qe_R R (qa_wi (qa_wi (qa_wi σ (R, 9) 1 (nI (qr_ix s 1))) (R, 15) 2 (s 170 + 1)) (R, 11) 4 (nI (qr_ga s))) (upd (upd (qr_g0 s) 170 (s 170 + 1)) 142 (nI (qr_ga s))) := by
      refine ⟨ra_w (ra_w h1 (i := 170) (by omega) (by omega) (by omega) rfl rfl) (i := 142) (by omega) (by omega) (by omega) rfl rfl, ?_⟩
      rw [wi_np (by simp), wi_np (by simp), wi_np (by simp), h.2]
      have eo : ∀ i, ¬ i = 138 → ¬ i = 170 → ¬ i = 142 → upd (upd (qr_g0 s) 170 (s 170 + 1)) 142 (nI (qr_ga s)) i = s i := fun i h1 h2 h3 => by rw [pk_un h3, pk_un h2, g0_o h1]
      exact (ta_q (eo _ (by omega) (by omega) (by omega)) (eo _ (by omega) (by omega) (by omega)) (fun k hk => ⟨eo _ (by omega) (by omega) (by omega), eo _ (by omega) (by omega) (by omega)⟩)).symm
    have hs2 : qi_sl (upd (upd (qr_g0 s) 170 (s 170 + 1)) 142 (nI (qr_ga s))) := qq_sl hs (fun i hi => by rw [pk_un (by omega), pk_un (by omega), g0_o (by omega)])
    have hqd : qi_qd (upd (upd (qr_g0 s) 170 (s 170 + 1)) 142 (nI (qr_ga s))) := by
      have h1 := qi_qdq hq
      have h2 := h1.2.1
      have eo : ∀ i, ¬ i = 138 → ¬ i = 170 → ¬ i = 142 → upd (upd (qr_g0 s) 170 (s 170 + 1)) 142 (nI (qr_ga s)) i = s i := fun i h1 h2 h3 => by rw [pk_un h3, pk_un h2, g0_o h1]
      unfold qi_qd
      rw [eo 146 (by omega) (by omega) (by omega)]
      refine ⟨h1.1, h1.2.1, fun j k hj hk => ?_⟩
      rw [eo (147 + j) (by omega) (by omega) (by omega), eo (147 + k) (by omega) (by omega) (by omega)]
      exact h1.2.2 j k hj hk
    obtain ⟨σ', b1, b2, b3⟩ := cl_fg (a := qr_ga s) h2 hs2 hqd
    refine ⟨σ', ?_, b2, qe_Ft (qe_Ft (qe_Ft (qe_Fw (by omega)) (qe_Fw (by omega))) (qe_Fw (by omega))) b3⟩
    rw [cl_qp h2.1 hqd, Option.bind_some] at b1 ⊢
    by_cases c2 : qo_i (qr_qp (upd (upd (qr_g0 s) 170 (s 170 + 1)) 142 (nI (qr_ga s))) (qr_ga s)) = -1
    · rw [if_pos c2] at b1 ⊢
      cases b1
      rfl
    · rw [if_neg c2] at b1 ⊢
      rw [b1]
      rfl
  · rw [if_neg (show ¬ qa_bi true = 0 by decide), if_pos rfl]
    have eo : ∀ i, ¬ i = 138 → ¬ i = 169 → upd (qr_g0 s) 169 (s 169 + 1) i = s i := fun i h1 h2 => by rw [pk_un h2, g0_o h1]
    have h2 : qe_R R (qa_wi (qa_wi σ (R, 9) 1 (nI (qr_ix s 1))) (R, 15) 1 (s 169 + 1)) (upd (qr_g0 s) 169 (s 169 + 1)) := by
      refine ⟨ra_w h1 (i := 169) (by omega) (by omega) (by omega) rfl rfl, ?_⟩
      rw [wi_np (by simp), wi_np (by simp), h.2]
      exact (ta_q (eo _ (by omega) (by omega)) (eo _ (by omega) (by omega)) (fun k hk => ⟨eo _ (by omega) (by omega), eo _ (by omega) (by omega)⟩)).symm
    obtain ⟨c1, c2⟩ := cl_sh (a := qr_ga s) h2 (qq_sl hs fun i hi => eo i (by omega) (by omega)) (qq_sw hw (eo _ (by omega) (by omega)) (eo _ (by omega) (by omega)) (eo _ (by omega) (by omega)) (eo _ (by omega) (by omega)) (eo _ (by omega) (by omega))) (by rw [eo 0 (by omega) (by omega)]; exact a1)
    exact ⟨_, rfl, c1, qe_Ft (qe_Ft (qe_Fw (by omega)) (qe_Fw (by omega))) c2⟩
theorem em_c {i : Nat} {v : Int32} (h : ∀ k, k < 16 → ¬ i = 1 + 7 * k + 4) : ∀ k, k ≤ 16 → qr_em (upd s i v) k = upd (qr_em s k) i v := by
  intro k
  induction k with
  | zero => intro _; rfl
  | succ k ih =>
    intro hk
    rw [em_s, em_s, ih (by omega), pk_un (fun t => h k (by omega) t.symm), upd_c (h k (by omega))]
theorem cl_em {n : Nat} (hn : n ≤ 16) (h0 : s 0 = nI n) (hs : qi_sl s) : ∀ (m k : Nat) (σ : qa_T), qe_A R σ (qr_em s k) → k ≤ n → n - k < m → ∃ σ', qa_fX6_coolEmbers_2 R m (nI k) σ = some σ' ∧ qe_A R σ' (qr_em s n) ∧ qe_O (R, 6) σ σ' := by
  intro m
  induction m with
  | zero => intro k σ _ h1 h2; omega
  | succ m ih =>
    intro k σ h hk hm
    have e0 : qr_em s k 0 = nI n := by rw [em_o s (by omega) k (by omega), h0]
    rw [qa_fX6_coolEmbers_2, ra_n0 h, e0]
    unfold qa_fX6_coolEmbers_44 qa_fX6_coolEmbers_38
    by_cases e : k = n
    · subst e
      rw [if_pos (nI_le (Nat.le_refl _) (by omega))]
      exact ⟨σ, rfl, h, qe_Or⟩
    · have hk2 : k < 16 := by omega
      have e4 : qr_em s k (1 + 7 * k + 4) = s (1 + 7 * k + 4) := by rw [em_4, if_neg (by omega)]
      have h2 := (hs.2.2 k hk2).2.1
      rw [if_neg (nI_ge (by omega) (by omega)), if_neg (show ¬ Int32.ofNat 16 ≤ nI k from nI_ge hk2 (by omega)), qz_ifn hk2 (by omega), nI_clamp (by omega), ra_e h hk2, e4, qz_ifn hk2 (by omega), qz_ifn hk2 (by omega), qk_a1, nI_1]
      by_cases c : s (1 + 7 * k + 4) ≤ 0
      · rw [if_pos c]
        refine ih (k + 1) σ (ra_e' h ?_) (by omega) (by omega)
        rw [em_s, if_pos c]
        refine (qz_us ?_).symm
        rw [e4]
        rw [qz_l0] at c
        exact (qz_00.mpr (by omega)).symm
      · rw [if_neg c]
        dsimp only
        obtain ⟨σ', a1, a2, a3⟩ := ih (k + 1) (qa_wi σ (R, 6) k (s (1 + 7 * k + 4) - 1)) (by
          rw [em_s, if_neg c]
          exact ra_w h (by omega) (by omega) (by omega) (by rw [qx_sl hk2 (by omega)]) (by rw [qx_sl hk2 (by omega)])) (by omega) (by omega)
        exact ⟨σ', a1, a2, qe_Ot qe_Ow a3⟩
theorem cl_fd (h : qe_A R σ s) (hw1 : 0 ≤ (s 141).toInt) : qe_A R (qa_fX7_fadeOnce R σ) (qr_fd s) ∧ qe_O (R, 11) σ (qa_fX7_fadeOnce R σ) := by
  unfold qa_fX7_fadeOnce qa_fX7_fadeOnce_17 qa_fX7_fadeOnce_29
  rw [ra_141 h, qk_a1]
  by_cases c : s 141 ≤ 0
  · have c0 : s 141 = 0 := by
      rw [qz_l0] at c
      exact qz_00.mpr (by omega)
    rw [if_pos c, if_neg (not_not_intro c0), qk_am1]
    refine ⟨ra_e' (ra_w (i := 140) h (by omega) (by omega) (by omega) rfl rfl) ?_, qe_Ow⟩
    unfold qr_fd
    rw [if_pos c, Int32.sub_zero, if_pos c, qz_us rfl]
  · rw [if_neg c]
    dsimp only
    have h1 : qe_A R (qa_wi σ (R, 11) 3 (s 141 - 1)) (upd s 141 (s 141 - 1)) := ra_w h (by omega) (by omega) (by omega) rfl rfl
    rw [ra_141 h1, pk_us]
    have c1 : ¬ (s 141).toInt ≤ 0 := fun t => c (qz_l0.mpr t)
    have e1 : (s 141 - 1).toInt = (s 141).toInt - 1 := qz_s1 (by omega)
    by_cases c2 : s 141 - 1 = 0
    · rw [if_neg (not_not_intro c2), qk_am1]
      refine ⟨ra_e' (ra_w (i := 140) h1 (by omega) (by omega) (by omega) rfl rfl) ?_, qe_Ot qe_Ow qe_Ow⟩
      unfold qr_fd
      rw [if_neg c, if_pos (by rw [c2]; exact Int32.le_refl _)]
    · rw [if_pos c2]
      refine ⟨ra_e' h1 ?_, qe_Ow⟩
      unfold qr_fd
      rw [if_neg c, if_neg (fun t => c2 (by rw [qz_l0] at t; exact qz_00.mpr (by omega))), qz_us (f := upd s 141 (s 141 - 1)) (by rw [pk_un (by omega)])]
/-- the tick ahead of the loading -/
theorem cl_t1 (h : qe_R R σ s) (hA : qi_A N s) : ∃ σ', qe_R R σ' (qr_t1 s) ∧ qe_F R σ σ' ∧ qa_fX1_passTick R σ = (let c7 := qa_fX1_loadOnce R σ'
    if (qa_bi c7.1) = 0 then
      qa_fX1_passTick_70 R 0 c7.2
    else
      qa_fX1_passTick_70 R (0 + 1) c7.2) := by
  obtain ⟨hs, hp, hw, hl, hq, he, hc⟩ := hA
  obtain ⟨n1, n2⟩ := qi_n hs
  have h1 : qe_A R (qa_wi σ (R, 15) 0 (s 168 + 1)) (upd s 168 (s 168 + 1)) := ra_w h.1 (by omega) (by omega) (by omega) rfl rfl
  have mid : ∀ (x : Int32) (τ : qa_T), qe_A R τ (upd (upd s 168 (s 168 + 1)) 174 (s 174 + x)) → x = (if s 142 = -1 then 0 else 1) → τ.1 (R, 12) 4 = σ.1 (R, 12) 4 → qe_F R σ τ → ∃ σ', qe_R R σ' (qr_t1 s) ∧ qe_F R σ σ' ∧ qa_fX1_passTick_39 R 0 τ = (let c7 := qa_fX1_loadOnce R σ'
    if (qa_bi c7.1) = 0 then
      qa_fX1_passTick_70 R 0 c7.2
    else
      qa_fX1_passTick_70 R (0 + 1) c7.2) := by
    intro x τ b1 bx b2 b3
    generalize hu : upd (upd s 168 (s 168 + 1)) 174 (s 174 + x) = u at b1
    have uo : ∀ i, ¬ i = 168 → ¬ i = 174 → u i = s i := fun i h1 h2 => by rw [← hu, pk_un h2, pk_un h1]
    have hsu : qi_sl u := qq_sl hs (fun i hi => uo i (by omega) (by omega))
    obtain ⟨τ1, a1, a2, a3⟩ := cl_em (R := R) n2 (by rw [uo 0 (by omega) (by omega)]; exact n1) hsu qa_fu 0 τ b1 (by omega) (by unfold qa_fu; omega)
    have a4 : qa_fX6_coolEmbers R τ = some τ1 := a1
    obtain ⟨f1, f2⟩ := cl_fd a2 (by rw [em_o u (by omega) _ n2, uo 141 (by omega) (by omega)]; exact hw.2.2.2.2.1)
    unfold qa_fX1_passTick_39
    rw [a4, Option.bind_some]
    dsimp only
    rw [qk_a1]
    have e139 : qr_fd (qr_em u (qn (s 0))) 139 = s 139 := by rw [fd_o (by omega) (by omega), em_o u (by omega) _ n2, uo 139 (by omega) (by omega)]
    have e143 : qr_fd (qr_em u (qn (s 0))) 143 = s 143 := by rw [fd_o (by omega) (by omega), em_o u (by omega) _ n2, uo 143 (by omega) (by omega)]
    have e1 : qr_t1 s = upd (qr_fd (qr_em u (qn (s 0)))) 143 (s 143 + (if s 139 = -1 then 0 else 1)) := by
      unfold qr_t1 qr_t0
      rw [← bx, hu, em_c (fun k hk => by omega) _ n2]
      unfold qr_fd
      rw [pk_un (by omega), pk_un (by omega), upd_c (i := 143) (j := 141) (by omega), upd_c (i := 143) (j := 140) (by omega)]
    have hta : ∀ τ2 : qa_T, τ2.1 (R, 12) 4 = (qa_fX7_fadeOnce R τ1).1 (R, 12) 4 → τ2.1 (R, 12) 4 = qr_ta (qr_t1 s) := by
      intro τ2 e
      rw [e, f2.1 _ (by simp), a3.1 _ (by simp), b2, h.2, t1_ta hs]
    have hF := qe_Ft b3 (qe_Ft (qe_OF a3 (by omega)) (qe_OF f2 (by omega)))
    unfold qa_fX7_countShown qa_fX7_countShown_18
    rw [ra_139 f1, e139, ra_143 f1, e143, qk_am1]
    by_cases c : s 139 = -1
    · rw [if_pos c]
      refine ⟨_, ⟨ra_e' f1 ?_, hta _ rfl⟩, hF, rfl⟩
      rw [e1, if_pos c, Int32.add_zero, qz_us e143.symm]
    · rw [if_neg c]
      refine ⟨qa_wi (qa_fX7_fadeOnce R τ1) (R, 11) 1 (s 143 + 1), ⟨ra_e' (ra_w (i := 143) f1 (by omega) (by omega) (by omega) rfl rfl) ?_, hta _ (by rw [wi_np (by simp)])⟩, qe_Ft hF (qe_Fw (by omega)), rfl⟩
      rw [e1, if_neg c]
  unfold qa_fX1_passTick
  rw [ra_168 h.1, qk_a1]
  dsimp only
  rw [ra_142 h1, ra_174 h1, pk_un (by omega), pk_un (by omega), qk_am1, qk_a0]
  by_cases c : s 142 = -1
  · rw [if_pos c]
    refine mid 0 _ (ra_e' h1 ?_) (by rw [if_pos c]) (by rw [wi_np (by simp)]) (qe_Fw (by omega))
    rw [Int32.add_zero, qz_us (f := upd s 168 (s 168 + 1)) (by rw [pk_un (by omega)])]
  · rw [if_neg c]
    exact mid 1 _ (ra_w (i := 174) h1 (by omega) (by omega) (by omega) rfl rfl) (by rw [if_neg c]) (by rw [wi_np (by simp), wi_np (by simp)]) (qe_Ft (qe_Fw (by omega)) (qe_Fw (by omega)))
theorem cl_t2 (h : qe_R R σ s) (hA : qi_A N s) (hN : N + 2 < 2147483647) : (qa_fX1_loadOnce R σ).1 = (qr_t2 s).1 ∧ qe_R R (qa_fX1_loadOnce R σ).2 (qr_t2 s).2 ∧ qe_F R σ (qa_fX1_loadOnce R σ).2 := by
  have hA' := hA
  obtain ⟨hs, hp, hw, hl, hq, he, hc⟩ := hA
  have hn := (qi_n hs).2
  have hi := qn_int hs.1
  unfold qa_fX1_loadOnce qr_t2
  dsimp only
  rw [ra_144 h.1, ra_145 h.1, qk_am1, qk_a1]
  by_cases c1 : s 144 = -1
  · rw [if_neg (not_not_intro c1), if_pos c1]
    exact ⟨rfl, h, qe_Fr⟩
  · rw [if_pos c1, if_neg c1, wi_eq]
    have g1 : 0 ≤ (s 144).toInt := by
      have := hl.2.2.1
      rw [qz_m1] at c1
      omega
    have g2 := hl.2.2.2.2.1 g1
    have g3 := qn_int g1
    have g4 : s 144 = nI (qn (s 144)) := qn_of g1
    have g5 : qn (s 144) < qn (s 0) := by have := hl.2.2.2.1; omega
    have e1 : (s 145 - 1).toInt = (s 145).toInt - 1 := qz_s1 (by omega)
    have h1 : qe_A R (qa_wi σ (R, 12) 1 (s 145 - 1)) (upd s 145 (s 145 - 1)) := ra_w h.1 (by omega) (by omega) (by omega) rfl rfl
    by_cases c2 : s 145 - 1 = 0
    · rw [if_pos (by rw [c2]; exact Int32.le_refl _), if_neg (not_not_intro c2)]
      generalize ha : qn (s 144) = a at g3 g4 g5 ⊢
      have ha2 : a < 16 := by omega
      have e3 : ∀ τ, qa_fX6_setReady R (nI a) true τ = qa_wi τ (R, 5) a 1 := by
        intro τ
        unfold qa_fX6_setReady qa_fX6_setReady_20
        rw [if_neg (nI_pos (by omega)), if_neg (show ¬ Int32.ofNat 16 ≤ nI a from nI_ge ha2 (by omega)), nI_clamp (by omega)]
        rfl
      rw [g4]
      simp only [e3]
      have h2 : qe_A R (qa_wi (qa_wi (qa_wi σ (R, 12) 1 (s 145 - 1)) (R, 12) 0 (-1)) (R, 5) a 1) (upd (upd (upd s 145 (s 145 - 1)) 144 (-1)) (1 + 7 * a + 3) 1) := ra_w (ra_w (i := 144) h1 (by omega) (by omega) (by omega) rfl rfl) (by omega) (by omega) (by omega) (by rw [qx_sl ha2 (by omega)]) (by rw [qx_sl ha2 (by omega)])
      have hv : qi_sl (upd (upd (upd s 145 (s 145 - 1)) 144 (-1)) (1 + 7 * a + 3) 1) := by
        unfold qi_sl
        rw [pk_un (by omega), pk_un (by omega), pk_un (by omega)]
        refine ⟨hs.1, hs.2.1, fun k hk => ?_⟩
        obtain ⟨c1, c2, c3, c4, c5, c6⟩ := hs.2.2 k hk
        by_cases e : k = a
        · subst e
          simp (disch := omega) only [pk_us, pk_un, qz_ue]
          exact ⟨Or.inr trivial, c2, c3, c4, c5, fun h => by omega⟩
        · simp (disch := omega) only [pk_us, pk_un, qz_ue]
          exact ⟨c1, c2, c3, c4, c5, c6⟩
      have h3 : qe_R R (qa_wi (qa_wi (qa_wi σ (R, 12) 1 (s 145 - 1)) (R, 12) 0 (-1)) (R, 5) a 1) (upd (upd (upd s 145 (s 145 - 1)) 144 (-1)) (1 + 7 * a + 3) 1) := by
        refine ⟨h2, ?_⟩
        rw [wi_np (by simp), wi_ni (by omega), wi_ni (by omega), h.2, ← l0_ta hs g4 g5]
        unfold qr_l0
        exact ta_q (us_o (by omega) (by omega)) (us_o (by omega) (by omega)) (fun k hk => by
          rw [pk_un (by omega), pk_un (by omega), pk_un (by omega)] at hk
          exact ⟨us_o (by omega) (by omega), us_o (by omega) (by omega)⟩)
      obtain ⟨u1, u2⟩ := cl_us h3 hv ha2
      have u3 : qe_F R σ (qa_fX6_use R (nI a) (qa_wi (qa_wi (qa_wi σ (R, 12) 1 (s 145 - 1)) (R, 12) 0 (-1)) (R, 5) a 1)) := qe_Ft (qe_Ft (qe_Ft (qe_Fw (by omega)) (qe_Fw (by omega))) (qe_Fw (by omega))) u2
      have u4 : qe_R R (qa_fX6_use R (nI a) (qa_wi (qa_wi (qa_wi σ (R, 12) 1 (s 145 - 1)) (R, 12) 0 (-1)) (R, 5) a 1)) (qr_l0 s a) := u1
      obtain ⟨b1, b2, b3, b4, b5, b6, b7⟩ := l0_A hA' g4 g5 (by omega)
      rw [ra_142 u4.1, l0_o (by omega) (by omega) (by omega) (by omega) (by omega)]
      by_cases c3 : s 142 = nI a
      · rw [if_pos c3, if_neg (not_not_intro c3)]
        obtain ⟨d1, d2⟩ := cl_sh (a := a) u4 b1 b3 (by rw [l0_o (by omega) (by omega) (by omega) (by omega) (by omega)]; exact g5)
        exact ⟨rfl, d1, qe_Ft u3 d2⟩
      · rw [if_neg c3, if_pos c3]
        exact ⟨rfl, u4, u3⟩
    · have c3 : ¬ s 145 - 1 ≤ 0 := fun t => c2 (by rw [qz_l0] at t; exact qz_00.mpr (by omega))
      rw [if_neg c3, if_pos c2]
      refine ⟨rfl, ⟨h1, ?_⟩, qe_Fw (by omega)⟩
      dsimp only
      rw [wi_ni (by omega), h.2]
      exact (ta_q (pk_un (by omega)) (pk_un (by omega)) (fun k hk => ⟨pk_un (by omega), pk_un (by omega)⟩)).symm
theorem cl_t3 (h : qe_R R σ s) (hA : qi_A N s) (hN : N + 2 < 2147483647) (x : Int32) : ∃ σ', qa_fX1_passTick_70 R x σ = some (x + nI (qr_bt (qr_t3 s).1), σ') ∧ qe_R R σ' (qr_bg (qr_t3 s).2) ∧ qe_F R σ σ' := by
  have h3 := t3_A hA hN
  have eP : qa_fX1_paceIsReached R σ = decide (s 142 = -1 ∧ ¬ s 139 = -1 ∧ ¬ s 167 ≤ 0 ∧ ¬ s 143 < s 167 ∧ ¬ s 113 ≤ 0) := by
    unfold qa_fX1_paceIsReached qa_fX1_paceIsReached_49
    rw [cl_cg h.1, ra_167 h.1, ra_139 h.1, ra_143 h.1, qk_am1]
    unfold qr_cg
    by_cases c1 : s 142 = -1 <;> by_cases c2 : s 139 = -1 <;> by_cases c3 : s 167 ≤ 0 <;> by_cases c4 : s 143 < s 167 <;> by_cases c5 : s 113 ≤ 0 <;> simp [c1, c2, c3, c4, c5, qa_bi]
  have fin : ∀ (τ : qa_T) (t : qs) (z : Int32), qe_R R τ t → qi_A (N + 2) t → ∃ σ', qa_fX1_passTick_87 R z τ = some (z, σ') ∧ qe_R R σ' (qr_bg t) ∧ qe_F R τ σ' := by
    intro τ t z b1 b2
    obtain ⟨σ', a1, a2, a3⟩ := cl_bg b1 b2
    refine ⟨σ', ?_, a2, a3⟩
    unfold qa_fX1_passTick_87
    rw [a1]
    rfl
  unfold qa_fX1_passTick_70
  rw [eP]
  by_cases c : s 142 = -1 ∧ ¬ s 139 = -1 ∧ ¬ s 167 ≤ 0 ∧ ¬ s 143 < s 167 ∧ ¬ s 113 ≤ 0
  · have h0 : 0 < (s 113).toInt := by
      have := c.2.2.2.2
      rw [qz_l0] at this
      omega
    have e3 : qr_t3 s = qr_go s := by
      unfold qr_t3
      rw [if_pos c]
    rw [e3] at h3 ⊢
    rw [decide_eq_true c, if_neg (show ¬ qa_bi true = 0 by decide)]
    obtain ⟨τ, a1, a2, a3⟩ := cl_go h hA h0
    rw [a1, Option.bind_some]
    dsimp only
    cases e : (qr_go s).1
    · rw [if_pos (show qa_bi false = 0 from rfl)]
      obtain ⟨σ', b1, b2, b3⟩ := fin τ _ x a2 h3
      exact ⟨σ', by rw [b1]; show some (x, σ') = some (x + nI 0, σ'); rw [nI_0, Int32.add_zero], b2, qe_Ft a3 b3⟩
    · rw [if_neg (show ¬ qa_bi true = 0 by decide), qk_a1]
      obtain ⟨σ', b1, b2, b3⟩ := fin τ _ (x + 1) a2 h3
      exact ⟨σ', b1, b2, qe_Ft a3 b3⟩
  · have e3 : qr_t3 s = (false, s) := by
      unfold qr_t3
      rw [if_neg c]
    rw [e3] at h3 ⊢
    rw [decide_eq_false c, if_pos (show qa_bi false = 0 from rfl)]
    obtain ⟨σ', b1, b2, b3⟩ := fin σ s x h h3
    exact ⟨σ', by rw [b1]; show some (x, σ') = some (x + nI 0, σ'); rw [nI_0, Int32.add_zero], b2, b3⟩
theorem cl_tc (h : qe_R R σ s) (hA : qi_A N s) (hN : N + 4 < 2147483647) : ∃ σ', qa_fX1_passTick R σ = some (nI (qr_tc s).1, σ') ∧ qe_R R σ' (qr_tc s).2 ∧ qe_F R σ σ' := by
  obtain ⟨σ1, a1, a2, a3⟩ := cl_t1 h hA
  obtain ⟨b1, b2, b3⟩ := cl_t2 a1 (t1_A hA) (by omega)
  have hA2 := t2_A (t1_A hA) (by omega)
  rw [a3]
  dsimp only
  rw [b1]
  unfold qr_tc
  dsimp only
  cases e : (qr_t2 (qr_t1 s)).1
  · rw [if_pos (show qa_bi false = 0 from rfl)]
    obtain ⟨σ', c1, c2, c3⟩ := cl_t3 b2 hA2 (by omega) 0
    refine ⟨σ', ?_, c2, qe_Ft a2 (qe_Ft b3 c3)⟩
    rw [c1, Int32.zero_add]
    show _ = some (nI (0 + _), σ')
    rw [Nat.zero_add]
  · rw [if_neg (show ¬ qa_bi true = 0 by decide)]
    obtain ⟨σ', c1, c2, c3⟩ := cl_t3 b2 hA2 (by omega) (0 + 1)
    refine ⟨σ', ?_, c2, qe_Ft a2 (qe_Ft b3 c3)⟩
    rw [c1, Int32.zero_add]
    show some (nI 1 + _, σ') = some (nI (1 + _), σ')
    rw [nI_add]
theorem cl_ti : ∀ (j k f N : Nat) (σ : qa_T) (s : qs) (x : Int32), qe_R R σ s → qi_I N s → N + 4 * j < 2147483647 → k + j < 2147483648 → j < f → ∃ σ', qa_fX1_passTicks_4 R (nI (k + j)) f x (nI k) σ = some (x + nI (qr_ti j s).1, σ') ∧ qe_R R σ' (qr_ti j s).2 ∧ qe_F R σ σ' := by
  intro j
  induction j with
  | zero =>
    intro k f N σ s x h hI hN hk hf
    obtain ⟨f, rfl⟩ : ∃ i, f = i + 1 := ⟨f - 1, by omega⟩
    rw [qa_fX1_passTicks_4, Nat.add_zero, if_pos (nI_le (Nat.le_refl _) (by omega)), ti_0]
    exact ⟨σ, by show some (x, σ) = some (x + nI 0, σ); rw [nI_0, Int32.add_zero], h, qe_Fr⟩
  | succ j ih =>
    intro k f N σ s x h hI hN hk hf
    obtain ⟨f, rfl⟩ : ∃ i, f = i + 1 := ⟨f - 1, by omega⟩
    obtain ⟨τ, a1, a2, a3⟩ := cl_tc h hI.1 (by omega)
    rw [qa_fX1_passTicks_4, if_neg (nI_ge (by omega) (by omega)), a1, Option.bind_some]
    dsimp only
    rw [qk_a1, nI_1, show k + (j + 1) = (k + 1) + j by omega]
    obtain ⟨σ', b1, b2, b3⟩ := ih (k + 1) f (N + 4) τ _ (x + nI (qr_tc s).1) a2 (tc_I hI (by omega)).1 (by omega) (by omega) (by omega)
    rw [ti_s]
    refine ⟨σ', ?_, b2, qe_Ft a3 b3⟩
    rw [b1]
    dsimp only
    rw [Int32.add_assoc, nI_add]
theorem cl_ps {j : Nat} (h : qe_R R σ s) (hI : qi_I N s) (hN : N + 4 * j < 2147483647) (hj : j < 2999) : ∃ σ', qa_fX1_passTicks R (nI j) σ = some (nI (qr_ti j s).1, σ') ∧ qe_R R σ' (qr_ti j s).2 ∧ qe_F R σ σ' := by
  obtain ⟨σ', a1, a2, a3⟩ := cl_ti (R := R) j 0 qa_fu N σ s 0 h hI hN (by omega) (by unfold qa_fu; omega)
  rw [Nat.zero_add, Int32.zero_add] at a1
  exact ⟨σ', a1, a2, a3⟩
end QCE
