/-! an order: on the row of numbers, by the reference, by the class -/
section QOR
variable {ρ σ σ' : qa_T} {s t : qs} {y : Int32} {R N n : Nat} {l : Int32}
theorem bg_f (h : qi_st s) : qr_bg s = s := by
  unfold qr_bg
  by_cases c : s 144 = -1
  · obtain ⟨a, b, c'⟩ := h c
    rw [if_neg (not_not_intro c), if_neg (not_not_intro a), if_pos b, c']
  · rw [if_pos c]
/-- an order -/
def qr_or (l : Int32) (n : Nat) (s : qs) : Bool × qs :=
  if l = 116 then (true, (qr_ti n s).2)
  else if l = 110 then (if qr_cg s = true then (true, qr_bg (qr_go s).2) else (false, s))
  else if l = 97 then (if n < qn (s 0) ∧ qr_ca s n = true then (true, qr_bg (qr_aq s n)) else (false, s))
  else if l = 98 then (if n < qn (s 0) ∧ qr_cb s n = true then (true, qr_bg (qr_bu s n)) else (false, s))
  else (if n < qn (s 0) ∧ (s 113).toInt < 24 then (true, qr_bg (qr_ip s (qn (s 113)) n)) else (false, s))
def tx_L (l : Int32) : Prop := l = 116 ∨ l = 110 ∨ l = 97 ∨ l = 98 ∨ l = 112
theorem cg_s (h : qi_pr s) (c : qr_cg s = true) : 0 < (s 113).toInt ∧ s 142 = -1 := by
  unfold qr_cg at c
  rw [Bool.and_eq_true, decide_eq_true_eq, decide_eq_true_eq, qz_l0] at c
  exact ⟨by omega, c.2⟩
theorem bg_P (h : qi_I N s) (h1 : ∀ j, 176 ≤ j → s j = 0) : qi_P N (qr_bg s) := ⟨(bg_I h).1, (bg_I h).2, fun j hj => by rw [hi_bg h.1 hj, h1 j hj]⟩
theorem or_P (h : qi_P N s) (hn : n ≤ 100) (hN : N + 1000 < 2147483647) : qi_P (N + 400) (qr_or l n s).2 := by
  obtain ⟨hI, hst, hh⟩ := h
  have h0 : qi_P (N + 400) s := ⟨qq_I hI (by omega), hst, hh⟩
  have hs := hI.1.1
  have hp := hI.1.2.1
  have hn16 := (qi_n hs).2
  have hn0 := qn_int hs.1
  have hp0 := qn_int hp.1
  have hp24 := (qi_p hp).2
  unfold qr_or
  by_cases c1 : l = 116
  · rw [if_pos c1]
    have h1 := ti_I n N s hI (by omega)
    exact ⟨qq_I h1.1 (by omega), h1.2 hst, fun j hj => by rw [hi_ti n N s hI (by omega) j hj, hh j hj]⟩
  · rw [if_neg c1]
    by_cases c2 : l = 110
    · rw [if_pos c2]
      by_cases c3 : qr_cg s = true
      · obtain ⟨c4, c5⟩ := cg_s hp c3
        rw [if_pos c3]
        have h2 := go_I hI c4 c5 (by omega)
        exact bg_P (qq_I h2 (by omega)) (fun j hj => by rw [hi_go hI.1 c4 hj, hh j hj])
      · rw [if_neg c3]
        exact h0
    · rw [if_neg c2]
      by_cases c3 : l = 97
      · rw [if_pos c3]
        by_cases c4 : n < qn (s 0) ∧ qr_ca s n = true
        · rw [if_pos c4]
          have h5 := (ca_s hI.1 c4.1 c4.2).2.2.2.2
          have h6 := qn_int hI.1.2.2.2.2.1.1
          exact bg_P (qq_I (aq_I hI c4.1 c4.2) (by omega)) (fun j hj => by rw [aq_o (by omega) (by omega), hh j hj])
        · rw [if_neg c4]
          exact h0
      · rw [if_neg c3]
        by_cases c4 : l = 98
        · rw [if_pos c4]
          by_cases c5 : n < qn (s 0) ∧ qr_cb s n = true
          · rw [if_pos c5]
            exact bg_P (qq_I (bu_I hI c5.1 c5.2) (by omega)) (fun j hj => by rw [bu_o (by omega) (by omega), hh j hj])
          · rw [if_neg c5]
            exact h0
        · rw [if_neg c4]
          by_cases c5 : n < qn (s 0) ∧ (s 113).toInt < 24
          · rw [if_pos c5]
            exact bg_P (qq_I (ip_I hI c5.1 (by omega) c5.2) (by omega)) (fun j hj => by rw [ip_o (by omega) (by omega) (by omega), hh j hj])
          · rw [if_neg c5]
            exact h0
theorem or_116 : qr_or 116 n s = (true, (qr_ti n s).2) := by
  unfold qr_or
  rw [if_pos rfl]
theorem or_110 : qr_or 110 n s = (if qr_cg s = true then (true, qr_bg (qr_go s).2) else (false, s)) := by
  unfold qr_or
  rw [if_neg (by decide), if_pos rfl]
theorem or_97 : qr_or 97 n s = (if n < qn (s 0) ∧ qr_ca s n = true then (true, qr_bg (qr_aq s n)) else (false, s)) := by
  unfold qr_or
  rw [if_neg (by decide), if_neg (by decide), if_pos rfl]
theorem or_98 : qr_or 98 n s = (if n < qn (s 0) ∧ qr_cb s n = true then (true, qr_bg (qr_bu s n)) else (false, s)) := by
  unfold qr_or
  rw [if_neg (by decide), if_neg (by decide), if_neg (by decide), if_pos rfl]
theorem or_112 : qr_or 112 n s = (if n < qn (s 0) ∧ (s 113).toInt < 24 then (true, qr_bg (qr_ip s (qn (s 113)) n)) else (false, s)) := by
  unfold qr_or
  rw [if_neg (by decide), if_neg (by decide), if_neg (by decide), if_neg (by decide)]
theorem cl_o7 : ∀ (j k f N : Nat) (σ : qa_T) (s : qs), qe_R R σ s → qi_I N s → N + 4 * j < 2147483647 → k + j < 2147483648 → j < f → ∃ σ', qa_fX1_obey_77 R 116 (nI (k + j)) f (nI k) σ = some (true, σ') ∧ qe_R R σ' (qr_ti j s).2 ∧ qe_F R σ σ' := by
  intro j
  induction j with
  | zero =>
    intro k f N σ s h hI hN hk hf
    obtain ⟨f, rfl⟩ : ∃ i, f = i + 1 := ⟨f - 1, by omega⟩
    rw [qa_fX1_obey_77, if_pos (nI_le (by omega) (by omega))]
    exact ⟨σ, rfl, h, qe_Fr⟩
  | succ j ih =>
    intro k f N σ s h hI hN hk hf
    obtain ⟨f, rfl⟩ : ∃ i, f = i + 1 := ⟨f - 1, by omega⟩
    obtain ⟨τ, a1, a2, a3⟩ := cl_tc h hI.1 (by omega)
    obtain ⟨τ', b1, b2, b3⟩ := ih (k + 1) f (N + 4) τ (qr_tc s).2 a2 (tc_I hI (by omega)).1 (by omega) (by omega) (by omega)
    refine ⟨τ', ?_, ?_, qe_Ft a3 b3⟩
    · rw [qa_fX1_obey_77, if_neg (nI_ge (by omega) (by omega)), a1, Option.bind_some]
      dsimp only
      rw [qk_a1, nI_1, show k + (j + 1) = k + 1 + j by omega]
      exact b1
    · rw [ti_s]
      exact b2
/-- the class obeys -/
theorem cl_ob (h : qe_R R σ s) (hI : qi_I N s) (hL : tx_L l) (hn : n ≤ 100) (hn2 : ¬ l = 116 → n ≤ 15) (hN : N + 1000 < 2147483647) : ∃ σ', qa_fX1_obey R l (nI n) σ = some ((qr_or l n s).1, σ') ∧ qe_R R σ' (qr_or l n s).2 ∧ qe_F R σ σ' := by
  have hs := hI.1.1
  have hp := hI.1.2.1
  have hn16 := (qi_n hs).2
  have hn0 := qn_int hs.1
  have hp0 := qn_int hp.1
  have hp24 := (qi_p hp).2
  have e113 : σ.1 (R, 9) 0 = s 113 := ra_113 h.1
  have has : ∀ b : Bool, (qa_bi (decide (0 ≤ (nI n).toInt) && decide ((nI n).toInt < (s 0).toInt)) = 0) ↔ ¬ n < qn (s 0) := by
    intro b
    rw [qz_nI (by omega), decide_eq_true (by omega), Bool.true_and, qb_0, decide_eq_false_iff_not]
    omega
  unfold qa_fX1_obey
  rcases hL with c | c | c | c | c
  · subst c
    rw [if_neg (by decide), if_neg (by decide), if_neg (by decide), if_neg (by decide), if_pos rfl, or_116]
    have g := cl_o7 n 0 qa_fu N σ s h hI (by omega) (by omega) (by unfold qa_fu; omega)
    rw [Nat.zero_add] at g
    exact g
  · subst c
    rw [if_neg (by decide), if_neg (by decide), if_pos rfl]
    unfold qa_fX1_obeyGoOn
    rw [or_110, cl_cg h.1]
    by_cases c : qr_cg s = true
    · obtain ⟨c4, c5⟩ := cg_s hp c
      obtain ⟨τ, a1, a2, a3⟩ := cl_go h hI.1 c4
      obtain ⟨τ', b1, b2, b3⟩ := cl_bg a2 (go_I hI c4 c5 (by omega)).1
      rw [if_pos c, c, if_pos (by decide), a1, Option.bind_some]
      dsimp only
      rw [b1]
      exact ⟨τ', rfl, b2, qe_Ft a3 b3⟩
    · rw [if_neg c, Bool.eq_false_iff.mpr c, if_neg (by decide)]
      exact ⟨σ, rfl, h, qe_Fr⟩
  · subst c
    rw [if_pos rfl]
    unfold qa_fX1_obeyAsk qa_fX1_obeyAsk_19
    rw [cl_has h.1 hs]
    by_cases c : n < qn (s 0)
    · rw [if_neg (fun t => (has true).mp t c), cl_ma h.1 hs (qi_qdq hI.1.2.2.2.2.1) (by omega), Option.bind_some]
      by_cases c2 : qr_ca s n = true
      · have h5 := (ca_s hI.1 c c2).2.2.2.2
        obtain ⟨a2, a3⟩ := cl_qu h hs (qi_qdq hI.1.2.2.2.2.1) (a := n) (by omega)
        obtain ⟨τ', b1, b2, b3⟩ := cl_bg a2 (aq_I hI c c2).1
        rw [show qr_or 97 n s = (true, qr_bg (qr_aq s n)) by rw [or_97, if_pos ⟨c, c2⟩], c2, if_pos (by decide)]
        dsimp only
        rw [b1]
        exact ⟨τ', rfl, b2, qe_Ft a3 b3⟩
      · rw [show qr_or 97 n s = (false, s) by rw [or_97, if_neg (fun t => c2 t.2)], Bool.eq_false_iff.mpr c2, if_neg (by decide)]
        exact ⟨σ, rfl, h, qe_Fr⟩
    · rw [show qr_or 97 n s = (false, s) by rw [or_97, if_neg (fun t => c t.1)], if_pos ((has true).mpr c)]
      exact ⟨σ, rfl, h, qe_Fr⟩
  · subst c
    rw [if_neg (by decide), if_pos rfl]
    unfold qa_fX1_obeyBurn qa_fX1_obeyBurn_19
    rw [cl_has h.1 hs]
    by_cases c : n < qn (s 0)
    · rw [if_neg (fun t => (has true).mp t c), cl_mb h.1 hs (by omega)]
      by_cases c2 : qr_cb s n = true
      · have hc := c2
        unfold qr_cb at hc
        rw [Bool.and_eq_true] at hc
        have h4 : ¬ s 144 = nI n := fun t => by
          have h5 := hI.1.2.2.2.1.2.2.2.2.2 n (by omega) (Or.inr (by rw [t, qz_nI (by omega)]))
          have h6 := hc.1
          unfold qr_ld at h6
          rw [h5] at h6
          exact absurd (of_decide_eq_true h6) (by decide)
        obtain ⟨a2, a3, _⟩ := cl_bu h hs hI.1.2.2.2.2.2.1 (a := n) c hc.1 h4
        obtain ⟨τ', b1, b2, b3⟩ := cl_bg a2 (bu_I hI c c2).1
        rw [show qr_or 98 n s = (true, qr_bg (qr_bu s n)) by rw [or_98, if_pos ⟨c, c2⟩], c2, if_pos (by decide)]
        dsimp only
        rw [b1]
        exact ⟨τ', rfl, b2, qe_Ft a3 b3⟩
      · rw [show qr_or 98 n s = (false, s) by rw [or_98, if_neg (fun t => c2 t.2)], Bool.eq_false_iff.mpr c2, if_neg (by decide)]
        exact ⟨σ, rfl, h, qe_Fr⟩
    · rw [show qr_or 98 n s = (false, s) by rw [or_98, if_neg (fun t => c t.1)], if_pos ((has true).mpr c)]
      exact ⟨σ, rfl, h, qe_Fr⟩
  · subst c
    rw [if_neg (by decide), if_neg (by decide), if_neg (by decide), if_pos rfl]
    unfold qa_fX1_obeyInsert qa_fX1_obeyInsert_23
    rw [cl_has h.1 hs, e113, qk_b24]
    by_cases c : n < qn (s 0)
    · rw [if_neg (fun t => (has true).mp t c)]
      have c24 : (s 113 < 24) ↔ (s 113).toInt < 24 := by rw [qz_lt, qk_t24]
      by_cases c2 : (s 113).toInt < 24
      · obtain ⟨τ, a1, a2, a3⟩ := cl_put (p := qn (s 113)) (a := n) h hs hp c2 (by omega)
        obtain ⟨τ', b1, b2, b3⟩ := cl_bg a2 (ip_I hI c (by omega) c2).1
        rw [← (qi_p hp).1] at a1
        rw [show qr_or 112 n s = (true, qr_bg (qr_ip s (qn (s 113)) n)) by rw [or_112, if_pos ⟨c, c2⟩], if_pos (c24.mpr c2), a1, Option.bind_some, b1]
        exact ⟨τ', rfl, b2, qe_Ft a3 b3⟩
      · rw [show qr_or 112 n s = (false, s) by rw [or_112, if_neg (fun t => c2 t.2)], if_neg (fun t => c2 (c24.mp t))]
        exact ⟨σ, rfl, h, qe_Fr⟩
    · rw [show qr_or 112 n s = (false, s) by rw [or_112, if_neg (fun t => c t.1)], if_pos ((has true).mpr c)]
      exact ⟨σ, rfl, h, qe_Fr⟩
/-- the reference follows -/
theorem fo_end {x : Int32} (hx : x = 0 ∨ x = 1) {τ : qa_T} : qa_fX10_isFollowed_188 l (nI n) x τ = some (decide (x = 1), τ) := by
  unfold qa_fX10_isFollowed_188
  rcases hx with e | e
  · rw [e, if_pos rfl]; rfl
  · rw [e, if_neg (by decide), if_pos rfl]; rfl
theorem fo_92 : qa_fX10_isFollowed_92 l (nI n) σ = some (false, σ) := by
  unfold qa_fX10_isFollowed_92 qa_fX10_isFollowed_93
  rw [qk_a0, if_pos rfl, fo_end (Or.inl rfl)]
  rfl
theorem fo_182 {x : Int32} (hA : qi_A N s) (hst : qi_st s) : qa_fX10_isFollowed_182 l (nI n) 1 x (qw ρ s y) = some (true, qw ρ s y) := by
  unfold qa_fX10_isFollowed_182
  rw [rf_bg hA, Option.bind_some, bg_f hst, fo_end (Or.inr rfl)]
  rfl
theorem fo_182b {x : Int32} (hA : qi_A N s) : qa_fX10_isFollowed_182 l (nI n) 1 x (qw ρ s y) = some (true, qw ρ (qr_bg s) y) := by
  unfold qa_fX10_isFollowed_182
  rw [rf_bg hA, Option.bind_some, fo_end (Or.inr rfl)]
  rfl
theorem rf_fo (hP : qi_P N s) (hL : tx_L l) (hn : n ≤ 100) (hn2 : ¬ l = 116 → n ≤ 15) (hN : N + 1000 < 2147483647) : ∃ y', qa_fX10_isFollowed l (nI n) (qw ρ s y) = some ((qr_or l n s).1, qw ρ (qr_or l n s).2 y') := by
  obtain ⟨hI, hst, _⟩ := hP
  have hs := hI.1.1
  have hp := hI.1.2.1
  have hn16 := (qi_n hs).2
  have hn0 := qn_int hs.1
  have hp0 := qn_int hp.1
  have hp24 := (qi_p hp).2
  have e0 : (qw ρ s y).1 (10, 22) ((Int32.ofInt 0)).toNatClampNeg = s 0 := by rw [qw_s]; rfl
  have e3 : (qw ρ s y).1 (10, 22) (((Int8.ofInt 113).toInt32)).toNatClampNeg = s 113 := by rw [qw_s]; rfl
  have hle : n ≤ 15 → (s 0 ≤ nI n ↔ ¬ n < qn (s 0)) := fun _ => by
    rw [qz_le, qz_nI (by omega)]
    omega
  have h24 : (24 ≤ s 113) ↔ ¬ (s 113).toInt < 24 := by rw [qz_le, qk_t24]; omega
  unfold qa_fX10_isFollowed qa_fX10_isFollowed_36 qa_fX10_isFollowed_32
  rw [e0, qk_b116, qk_b110, rf_cg]
  rcases hL with c | c | c | c | c
  · subst c
    rw [if_pos rfl, or_116]
    unfold qa_fX10_isFollowed_37 qa_fX10_isFollowed_56 qa_fX10_isFollowed_70 qa_fX10_isFollowed_88 qa_fX10_isFollowed_93 qa_fX10_isFollowed_115 qa_fX10_isFollowed_116
    simp only [qk_am1, qk_a0, qk_a1, qk_a2, qk_a3, qk_a4, qk_a5, qk_b6, qk_b7, qk_b10, qk_b15, qk_b16, qk_b20, qk_b24, qk_b25, qk_b33, qk_b48, qk_b50, qk_b52, qk_b57, qk_b59, qk_b60, qk_b97, qk_b98, qk_b100, qk_b110, qk_b112, qk_b113, qk_b114, qk_b116, qk_b126, qk_c138, qk_c139, qk_c140, qk_c141, qk_c142, qk_c143, qk_c144, qk_c145, qk_c146, qk_c147, qk_c150, qk_c163, qk_c164, qk_c165, qk_c166, qk_c167, qk_c168, qk_c169, qk_c170, qk_c171, qk_c172, qk_c173, qk_c174, qk_c175, qk_c176, qk_c400, qk_c880, qk_c1000, qk_c1023, n_10, if_false, show ((116 : Int32) = 97) = False from eq_false (by decide), show ((116 : Int32) = 98) = False from eq_false (by decide), show ((116 : Int32) = 112) = False from eq_false (by decide), show ((116 : Int32) = 110) = False from eq_false (by decide), not_false_iff, not_true, if_true, if_false]
    rw [rf_ps hI (by omega) (by omega), Option.bind_some]
    have h1 := ti_I n N s hI (by omega)
    exact ⟨_, fo_182 h1.1.1 (h1.2 hst)⟩
  · subst c
    rw [if_neg (by decide), if_neg (not_not_intro rfl)]
    by_cases c : qr_cg s = true
    · obtain ⟨c4, c5⟩ := cg_s hp c
      have g := (go_I hI c4 c5 (by omega)).1
      rw [show qr_or 110 n s = (true, qr_bg (qr_go s).2) by rw [or_110, if_pos c], c, if_neg (by decide)]
      unfold qa_fX10_isFollowed_37 qa_fX10_isFollowed_56 qa_fX10_isFollowed_70 qa_fX10_isFollowed_88 qa_fX10_isFollowed_93 qa_fX10_isFollowed_115 qa_fX10_isFollowed_116
      simp only [qk_am1, qk_a0, qk_a1, qk_a2, qk_a3, qk_a4, qk_a5, qk_b6, qk_b7, qk_b10, qk_b15, qk_b16, qk_b20, qk_b24, qk_b25, qk_b33, qk_b48, qk_b50, qk_b52, qk_b57, qk_b59, qk_b60, qk_b97, qk_b98, qk_b100, qk_b110, qk_b112, qk_b113, qk_b114, qk_b116, qk_b126, qk_c138, qk_c139, qk_c140, qk_c141, qk_c142, qk_c143, qk_c144, qk_c145, qk_c146, qk_c147, qk_c150, qk_c163, qk_c164, qk_c165, qk_c166, qk_c167, qk_c168, qk_c169, qk_c170, qk_c171, qk_c172, qk_c173, qk_c174, qk_c175, qk_c176, qk_c400, qk_c880, qk_c1000, qk_c1023, n_10, if_false, show ((110 : Int32) = 97) = False from eq_false (by decide), show ((110 : Int32) = 98) = False from eq_false (by decide), show ((110 : Int32) = 112) = False from eq_false (by decide), show ((110 : Int32) = 116) = False from eq_false (by decide), not_false_iff, not_true, if_true, if_false]
      rw [rf_go hI.1 c4, Option.bind_some]
      dsimp only
      rw [fo_182b g, ite_self]
      exact ⟨_, rfl⟩
    · rw [show qr_or 110 n s = (false, s) by rw [or_110, if_neg c], Bool.eq_false_iff.mpr c, if_pos (by decide)]
      unfold qa_fX10_isFollowed_37
      rw [qk_a0, if_pos rfl, fo_92]
      exact ⟨_, rfl⟩
  · subst c
    rw [if_neg (by decide), if_pos (by decide)]
    by_cases c : n < qn (s 0)
    · rw [if_neg (fun t => (hle (hn2 (by decide))).mp t c)]
      unfold qa_fX10_isFollowed_37
      rw [qk_a1, if_neg (by decide), qk_b97, if_neg (not_not_intro rfl), rf_ca hI.1.2.2.2.2.1 (by omega), Option.bind_some]
      by_cases c2 : qr_ca s n = true
      · have hA := aq_I hI c c2
        rw [show qr_or 97 n s = (true, qr_bg (qr_aq s n)) by rw [or_97, if_pos ⟨c, c2⟩], c2, if_neg (by decide)]
        unfold qa_fX10_isFollowed_56 qa_fX10_isFollowed_70 qa_fX10_isFollowed_88 qa_fX10_isFollowed_93 qa_fX10_isFollowed_115 qa_fX10_isFollowed_116
        simp only [qk_am1, qk_a0, qk_a1, qk_a2, qk_a3, qk_a4, qk_a5, qk_b6, qk_b7, qk_b10, qk_b15, qk_b16, qk_b20, qk_b24, qk_b25, qk_b33, qk_b48, qk_b50, qk_b52, qk_b57, qk_b59, qk_b60, qk_b97, qk_b98, qk_b100, qk_b110, qk_b112, qk_b113, qk_b114, qk_b116, qk_b126, qk_c138, qk_c139, qk_c140, qk_c141, qk_c142, qk_c143, qk_c144, qk_c145, qk_c146, qk_c147, qk_c150, qk_c163, qk_c164, qk_c165, qk_c166, qk_c167, qk_c168, qk_c169, qk_c170, qk_c171, qk_c172, qk_c173, qk_c174, qk_c175, qk_c176, qk_c400, qk_c880, qk_c1000, qk_c1023, n_10, if_false, show ((97 : Int32) = 98) = False from eq_false (by decide), show ((97 : Int32) = 112) = False from eq_false (by decide), show ((97 : Int32) = 110) = False from eq_false (by decide), not_false_iff, not_true, if_true, if_false]
        rw [rf_as hI.1.2.2.2.2.1 hA.1, Option.bind_some]
        dsimp only
        exact ⟨_, fo_182 (bg_I hA).1.1 (bg_I hA).2⟩
      · rw [show qr_or 97 n s = (false, s) by rw [or_97, if_neg (fun t => c2 t.2)], Bool.eq_false_iff.mpr c2, if_pos (by decide), fo_92]
        exact ⟨_, rfl⟩
    · rw [show qr_or 97 n s = (false, s) by rw [or_97, if_neg (fun t => c t.1)], if_pos ((hle (hn2 (by decide))).mpr c)]
      unfold qa_fX10_isFollowed_37
      rw [qk_a0, if_pos rfl, fo_92]
      exact ⟨_, rfl⟩
  · subst c
    rw [if_neg (by decide), if_pos (by decide)]
    by_cases c : n < qn (s 0)
    · rw [if_neg (fun t => (hle (hn2 (by decide))).mp t c)]
      unfold qa_fX10_isFollowed_37 qa_fX10_isFollowed_56
      rw [qk_a1, if_neg (by decide), qk_b97, if_pos (by decide), qk_b98, if_neg (not_not_intro rfl), rf_cb (by omega), Option.bind_some]
      by_cases c2 : qr_cb s n = true
      · have hA := bu_I hI c c2
        rw [show qr_or 98 n s = (true, qr_bg (qr_bu s n)) by rw [or_98, if_pos ⟨c, c2⟩], c2, if_neg (by decide)]
        unfold qa_fX10_isFollowed_70 qa_fX10_isFollowed_88 qa_fX10_isFollowed_93 qa_fX10_isFollowed_115 qa_fX10_isFollowed_116
        simp only [qk_am1, qk_a0, qk_a1, qk_a2, qk_a3, qk_a4, qk_a5, qk_b6, qk_b7, qk_b10, qk_b15, qk_b16, qk_b20, qk_b24, qk_b25, qk_b33, qk_b48, qk_b50, qk_b52, qk_b57, qk_b59, qk_b60, qk_b97, qk_b98, qk_b100, qk_b110, qk_b112, qk_b113, qk_b114, qk_b116, qk_b126, qk_c138, qk_c139, qk_c140, qk_c141, qk_c142, qk_c143, qk_c144, qk_c145, qk_c146, qk_c147, qk_c150, qk_c163, qk_c164, qk_c165, qk_c166, qk_c167, qk_c168, qk_c169, qk_c170, qk_c171, qk_c172, qk_c173, qk_c174, qk_c175, qk_c176, qk_c400, qk_c880, qk_c1000, qk_c1023, n_10, if_false, show ((98 : Int32) = 97) = False from eq_false (by decide), show ((98 : Int32) = 112) = False from eq_false (by decide), show ((98 : Int32) = 110) = False from eq_false (by decide), not_false_iff, not_true, if_true, if_false]
        rw [rf_bu (by omega), Option.bind_some]
        dsimp only
        exact ⟨_, fo_182b hA.1⟩
      · rw [show qr_or 98 n s = (false, s) by rw [or_98, if_neg (fun t => c2 t.2)], Bool.eq_false_iff.mpr c2, if_pos (by decide), fo_92]
        exact ⟨_, rfl⟩
    · rw [show qr_or 98 n s = (false, s) by rw [or_98, if_neg (fun t => c t.1)], if_pos ((hle (hn2 (by decide))).mpr c)]
      unfold qa_fX10_isFollowed_37
      rw [qk_a0, if_pos rfl, fo_92]
      exact ⟨_, rfl⟩
  · subst c
    rw [if_neg (by decide), if_pos (by decide)]
    by_cases c : n < qn (s 0)
    · rw [if_neg (fun t => (hle (hn2 (by decide))).mp t c)]
      unfold qa_fX10_isFollowed_37 qa_fX10_isFollowed_56 qa_fX10_isFollowed_70
      rw [qk_a1, if_neg (by decide), qk_b97, if_pos (by decide), qk_b98, if_pos (by decide), qk_b112, if_neg (not_not_intro rfl), e3, qk_b24]
      by_cases c2 : (s 113).toInt < 24
      · have hA := ip_I (p := qn (s 113)) hI c (by omega) c2
        rw [show qr_or 112 n s = (true, qr_bg (qr_ip s (qn (s 113)) n)) by rw [or_112, if_pos ⟨c, c2⟩], if_neg (fun t => h24.mp t c2)]
        unfold qa_fX10_isFollowed_88 qa_fX10_isFollowed_93 qa_fX10_isFollowed_115 qa_fX10_isFollowed_116
        simp only [qk_am1, qk_a0, qk_a1, qk_a2, qk_a3, qk_a4, qk_a5, qk_b6, qk_b7, qk_b10, qk_b15, qk_b16, qk_b20, qk_b24, qk_b25, qk_b33, qk_b48, qk_b50, qk_b52, qk_b57, qk_b59, qk_b60, qk_b97, qk_b98, qk_b100, qk_b110, qk_b112, qk_b113, qk_b114, qk_b116, qk_b126, qk_c138, qk_c139, qk_c140, qk_c141, qk_c142, qk_c143, qk_c144, qk_c145, qk_c146, qk_c147, qk_c150, qk_c163, qk_c164, qk_c165, qk_c166, qk_c167, qk_c168, qk_c169, qk_c170, qk_c171, qk_c172, qk_c173, qk_c174, qk_c175, qk_c176, qk_c400, qk_c880, qk_c1000, qk_c1023, n_10, if_false, show ((112 : Int32) = 97) = False from eq_false (by decide), show ((112 : Int32) = 98) = False from eq_false (by decide), show ((112 : Int32) = 110) = False from eq_false (by decide), not_false_iff, not_true, if_true, if_false, qw_s, qk_n113]
        have g := rf_ip (p := qn (s 113)) (a := n) (y := y) (ρ := ρ) hp c2 (by omega) hA.1
        rw [← (qi_p hp).1] at g
        rw [g, Option.bind_some]
        dsimp only
        exact ⟨_, fo_182 (bg_I hA).1.1 (bg_I hA).2⟩
      · rw [show qr_or 112 n s = (false, s) by rw [or_112, if_neg (fun t => c2 t.2)], if_pos (h24.mpr c2), fo_92]
        exact ⟨_, rfl⟩
    · rw [show qr_or 112 n s = (false, s) by rw [or_112, if_neg (fun t => c t.1)], if_pos ((hle (hn2 (by decide))).mpr c)]
      unfold qa_fX10_isFollowed_37
      rw [qk_a0, if_pos rfl, fo_92]
      exact ⟨_, rfl⟩
end QOR
