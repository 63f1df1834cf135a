/-! what always holds, kept by each step (2) -/
section QRN
variable {s t : qs} {N : Nat}
theorem qf_n (s : qs) (a : Nat) : ∀ m k : Nat, qr_qf s a m k = none → ∀ j : Nat, k ≤ j → j < k + m → ¬ s (147 + j) = nI a := by
  intro m
  induction m with
  | zero => intro k _ j h1 h2; omega
  | succ m ih =>
    intro k h j h1 h2
    unfold qr_qf at h
    by_cases e : s (147 + k) = nI a
    · rw [if_pos e] at h; cases h
    · rw [if_neg e] at h
      by_cases e2 : j = k
      · subst e2; exact e
      · exact ih (k + 1) h j (by omega) (by omega)
theorem qf_s (s : qs) (a : Nat) : ∀ m k p : Nat, qr_qf s a m k = some p → k ≤ p ∧ p < k + m ∧ s (147 + p) = nI a := by
  intro m
  induction m with
  | zero => intro k p h; cases h
  | succ m ih =>
    intro k p h
    unfold qr_qf at h
    by_cases e : s (147 + k) = nI a
    · rw [if_pos e] at h; cases h; exact ⟨by omega, by omega, e⟩
    · rw [if_neg e] at h
      obtain ⟨h1, h2, h3⟩ := ih (k + 1) p h
      exact ⟨by omega, by omega, h3⟩
theorem fg_o (h : qi_qd s) (a : Nat) {i : Nat} (hi : i < 146 ∨ 163 ≤ i) : qr_fg s a i = s i := by
  have h1 := h.2.1
  have h2 := qn_int h.1
  unfold qr_fg
  cases qr_qp s a with
  | none => rfl
  | some p =>
    unfold qr_f0
    dsimp only
    rw [if_neg (by omega), if_neg (by omega), if_neg (by omega)]
theorem fg_q (h : qi_qd s) (a : Nat) : qi_qd (qr_fg s a) ∧ ∀ k : Nat, (k : Int) < (qr_fg s a 146).toInt → ¬ qr_fg s a (147 + k) = nI a ∧ ∃ j : Nat, (j : Int) < (s 146).toInt ∧ qr_fg s a (147 + k) = s (147 + j) := by
  have h1 := h.2.1
  have h2 := qn_int h.1
  have h3 := h.2.2
  unfold qr_fg qr_qp
  cases e : qr_qf s a (qn (s 146)) 0 with
  | none =>
    dsimp only
    refine ⟨h, fun k hk => ⟨?_, k, hk, rfl⟩⟩
    exact qf_n s a _ _ e k (by omega) (by omega)
  | some p =>
    dsimp only
    obtain ⟨p1, p2, p3⟩ := qf_s s a _ _ _ e
    have e6 : (qr_f0 s p 146).toInt = (s 146).toInt - 1 := by
      unfold qr_f0
      rw [if_pos rfl, qz_nI (by omega)]
      omega
    have e7 : ∀ k : Nat, (k : Int) < (s 146).toInt - 1 → qr_f0 s p (147 + k) = if p ≤ k then s (147 + (k + 1)) else s (147 + k) := by
      intro k hk
      unfold qr_f0
      rw [if_neg (by omega)]
      by_cases c : p ≤ k
      · rw [if_pos (by omega), if_pos c]; rfl
      · rw [if_neg (by omega), if_neg (by omega), if_neg c]
    refine ⟨⟨by rw [e6]; omega, by rw [e6]; omega, fun j k hj hk => ?_⟩, fun k hk => ?_⟩
    · rw [e6] at hk
      rw [e7 j (by omega), e7 k hk]
      split
      · rw [if_pos (by omega)]
        exact h3 _ _ (by omega) (by omega)
      · split
        · exact h3 _ _ (by omega) (by omega)
        · exact h3 _ _ (by omega) (by omega)
    · rw [e6] at hk
      rw [e7 k hk, ← p3]
      split
      · exact ⟨fun t => h3 p (k + 1) (by omega) (by omega) t.symm, k + 1, by omega, rfl⟩
      · exact ⟨h3 k p (by omega) (by omega), k, by omega, rfl⟩
/-- the next slide's number -/
theorem ga_b (h : qi_pr s) (h0 : 0 < (s 113).toInt) (hs : qi_sl s) : qr_ga s < qn (s 0) ∧ s (114 + qr_ix s 1) = nI (qr_ga s) := by
  have h1 := qi_sa h h0 1
  unfold qr_sa at h1
  have h2 := qn_int h1.1
  have h3 := qn_int hs.1
  unfold qr_ga
  exact ⟨by omega, qn_of h1.1⟩
theorem g0_o {i : Nat} (h : ¬ i = 138) : qr_g0 s i = s i := by
  unfold qr_g0
  rw [pk_un h]
theorem g0_pr (h : qi_pr s) (h0 : 0 < (s 113).toInt) (e0 : t 0 = s 0) (e3 : t 113 = s 113) (e8 : t 138 = nI (qr_ix s 1)) (e : ∀ k : Nat, k < 24 → t (114 + k) = s (114 + k)) : qi_pr t := by
  have h1 := (qi_ixb h h0 1).1
  have h2 := (qi_p h).2
  have h3 := qn_int h.1
  unfold qi_pr
  rw [e0, e3, e8, qz_nI (by omega)]
  refine ⟨h.1, h.2.1, by omega, by omega, fun k hk => ?_⟩
  rw [e k (by omega)]
  exact h.2.2.2.2 k hk
theorem ld_0 (h : qi_sl s) {k : Nat} (hk : k < 16) (e : ¬ qr_ld s k = true) : s (1 + 7 * k + 3) = 0 := by
  unfold qr_ld at e
  rcases (h.2.2 k hk).1 with h1 | h1
  · exact h1
  · rw [h1] at e; exact absurd (decide_eq_true rfl) e
theorem go_A (h : qi_A N s) (h0 : 0 < (s 113).toInt) (h4 : s 142 = -1) (hN : N + 2 < 2147483647) : qi_A (N + 2) (qr_go s).2 := by
  obtain ⟨hs, hp, hw, hl, hq, he, hc⟩ := h
  obtain ⟨a1, a2⟩ := ga_b hp h0 hs
  have hn := (qi_n hs).2
  unfold qr_go
  generalize hga : qr_ga s = a at a1 a2 ⊢
  have ha : a < 16 := by omega
  by_cases hld : qr_ld s a = true
  · rw [if_pos hld]
    dsimp only
    have eo : ∀ i, ¬ i = 138 → ¬ i = 169 → upd (qr_g0 s) 169 (s 169 + 1) i = s i := fun i h1 h2 => by rw [pk_un h2, g0_o h1]
    refine sh_A (N := N + 1) (qq_sl hs fun i hi => eo i (by omega) (by omega)) (g0_pr hp h0 (eo _ (by omega) (by omega)) (eo _ (by omega) (by omega)) ?_ (fun k hk => eo _ (by omega) (by omega))) (qq_sw hw (eo _ (by omega) (by omega)) (eo _ (by omega) (by omega)) (eo _ (by omega) (by omega)) (eo _ (by omega) (by omega)) (eo _ (by omega) (by omega))) ?_ (qq_qu hs hq (eo _ (by omega) (by omega)) (eo _ (by omega) (by omega)) (eo _ (by omega) (by omega)) (fun i h1 h2 => eo _ (by omega) (by omega)) (fun k hk => eo _ (by omega) (by omega))) (qq_se he (fun i h1 h2 => eo _ (by omega) (by omega))) ?_ (by omega) ?_
    · rw [pk_un (by omega)]
      unfold qr_g0
      rw [pk_us]
    · refine qq_lx (s := s) ?_ (eo _ (by omega) (by omega)) (eo _ (by omega) (by omega)) (eo _ (by omega) (by omega)) (eo _ (by omega) (by omega)) (fun k hk => eo _ (by omega) (by omega))
      refine ⟨hl.1, hl.2.1, hl.2.2.1, hl.2.2.2.1, hl.2.2.2.2.1, fun k hk hh => hl.2.2.2.2.2 k hk ?_⟩
      rcases hh with hh | hh
      · exact Or.inl ⟨hh.1, by omega⟩
      · exact Or.inr hh
    · unfold qi_ct at hc ⊢
      rw [pk_us, eo 170 (by omega) (by omega), eo 175 (by omega) (by omega), qz_p1 (by omega)]
      omega
    · rw [eo 0 (by omega) (by omega)]; exact a1
  · rw [if_neg hld]
    dsimp only
    have h30 := ld_0 hs ha hld
    generalize hu : upd (upd (qr_g0 s) 170 (s 170 + 1)) 142 (nI a) = u
    have eo : ∀ i, ¬ i = 138 → ¬ i = 170 → ¬ i = 142 → u i = s i := fun i h1 h2 h3 => by rw [← hu, pk_un h3, pk_un h2, g0_o h1]
    have hqd : qi_qd u := by
      have h1 := qi_qdq hq
      have h2 := h1.2.1
      unfold qi_qd
      rw [eo 146 (by omega) (by omega) (by omega)]
      refine ⟨h1.1, h1.2.1, fun j k hj hk => ?_⟩
      rw [eo (147 + j) (by omega) (by omega) (by omega), eo (147 + k) (by omega) (by omega) (by omega)]
      exact h1.2.2 j k hj hk
    have fo : ∀ i, i < 146 ∨ 163 ≤ i → ¬ i = 138 → ¬ i = 170 → ¬ i = 142 → qr_fg u a i = s i := fun i h0 h1 h2 h3 => by rw [fg_o hqd a h0, eo i h1 h2 h3]
    obtain ⟨f1, f2⟩ := fg_q hqd a
    have e142 : qr_fg u a 142 = nI a := by rw [fg_o hqd a (by omega), ← hu, pk_us]
    refine ⟨qq_sl hs fun i hi => fo i (by omega) (by omega) (by omega) (by omega), g0_pr hp h0 (fo _ (by omega) (by omega) (by omega) (by omega)) (fo _ (by omega) (by omega) (by omega) (by omega)) ?_ (fun k hk => fo _ (by omega) (by omega) (by omega) (by omega)), qq_sw hw (fo _ (by omega) (by omega) (by omega) (by omega)) (fo _ (by omega) (by omega) (by omega) (by omega)) (fo _ (by omega) (by omega) (by omega) (by omega)) (fo _ (by omega) (by omega) (by omega) (by omega)) (fo _ (by omega) (by omega) (by omega) (by omega)), ?_, ?_, qq_se he (fun i h1 h2 => fo _ (by omega) (by omega) (by omega) (by omega)), ?_⟩
    · rw [fg_o hqd a (by omega), ← hu, pk_un (by omega), pk_un (by omega)]
      unfold qr_g0
      rw [pk_us]
    · obtain ⟨l1, l2, l3, l4, l5, l6⟩ := hl
      have hi := qn_int hs.1
      unfold qi_lo qi_lx
      rw [e142, fo 0 (by omega) (by omega) (by omega) (by omega), fo 144 (by omega) (by omega) (by omega) (by omega), fo 145 (by omega) (by omega) (by omega) (by omega), qz_nI (by omega)]
      refine ⟨by omega, by omega, l3, l4, l5, fun k hk hh => ?_⟩
      rw [fo (1 + 7 * k + 3) (by omega) (by omega) (by omega) (by omega)]
      by_cases e : k = a
      · subst e; exact h30
      · exact l6 k hk (by omega)
    · obtain ⟨q1, q2, q3, q4⟩ := hq
      unfold qi_qu
      refine ⟨f1.1, f1.2.1, fun k hk => ?_, f1.2.2⟩
      obtain ⟨g1, j, g2, g3⟩ := f2 k hk
      rw [eo 146 (by omega) (by omega) (by omega)] at g2
      rw [eo (147 + j) (by omega) (by omega) (by omega)] at g3
      obtain ⟨r1, r2, r3, r4, r5⟩ := q3 j g2
      have r6 := qn_int r1
      have r7 := qn_int hs.1
      rw [e142, fo 0 (by omega) (by omega) (by omega) (by omega), fo 144 (by omega) (by omega) (by omega) (by omega), g3, fo (1 + 7 * qn (s (147 + j)) + 3) (by omega) (by omega) (by omega) (by omega)]
      exact ⟨r1, r2, by rw [← g3]; exact g1, r4, r5⟩
    · unfold qi_ct at hc ⊢
      rw [fo 169 (by omega) (by omega) (by omega) (by omega), fo 175 (by omega) (by omega) (by omega) (by omega), fg_o hqd a (by omega), ← hu, pk_un (by omega), pk_us, qz_p1 (by omega)]
      omega
theorem l0_o {a i : Nat} (h1 : ¬ i = 145) (h2 : ¬ i = 144) (h3 : ¬ i = 1 + 7 * a + 3) (h4 : ¬ i = 175) (h5 : ¬ i = 1 + 7 * a + 6) : qr_l0 s a i = s i := by
  unfold qr_l0
  rw [us_o h4 h5, pk_un h3, pk_un h2, pk_un h1]
/-- what holds as the loading of a ends -/
theorem l0_A {a : Nat} (h : qi_A N s) (ha : s 144 = nI a) (ha2 : a < qn (s 0)) (hN : N + 1 < 2147483647) : qi_sl (qr_l0 s a) ∧ qi_pr (qr_l0 s a) ∧ qi_sw (qr_l0 s a) ∧ qi_lx a (qr_l0 s a) ∧ qi_qu (qr_l0 s a) ∧ qi_se (qr_l0 s a) ∧ qi_ct (N + 1) (qr_l0 s a) := by
  obtain ⟨hs, hp, hw, hl, hq, he, hc⟩ := h
  have hn := (qi_n hs).2
  have hi := qn_int hs.1
  have ha3 : a < 16 := by omega
  have e144 : qr_l0 s a 144 = -1 := by
    unfold qr_l0
    rw [us_o (by omega) (by omega)]
    simp (disch := omega) only [pk_us, pk_un, qz_ue]
  have e33 : qr_l0 s a (1 + 7 * a + 3) = 1 := by
    unfold qr_l0
    rw [us_o (by omega) (by omega), pk_us]
  have e3 : ∀ k, k < 16 → ¬ k = a → qr_l0 s a (1 + 7 * k + 3) = s (1 + 7 * k + 3) := fun k hk hka => l0_o (by omega) (by omega) (by omega) (by omega) (by omega)
  have hv : qi_sl (upd (upd (upd s 145 (s 145 - 1)) 144 (-1)) (1 + 7 * a + 3) 1) := by
    unfold qi_sl
    rw [pk_un (by omega), pk_un (by omega), pk_un (by omega)]
    refine ⟨hs.1, hs.2.1, fun k hk => ?_⟩
    obtain ⟨c1, c2, c3, c4, c5, c6⟩ := hs.2.2 k hk
    by_cases e : k = a
    · subst e
      simp (disch := omega) only [pk_us, pk_un, qz_ue]
      exact ⟨Or.inr trivial, c2, c3, c4, c5, fun h => by omega⟩
    · simp (disch := omega) only [pk_us, pk_un, qz_ue]
      exact ⟨c1, c2, c3, c4, c5, c6⟩
  refine ⟨us_sl (N := N) hv (qq_ct hc ?_ ?_ ?_) (by omega) ha3, ?_, ?_, ?_, ?_, ?_, us_ct (qq_ct hc ?_ ?_ ?_) (by omega) ha3⟩
  · simp (disch := omega) only [pk_us, pk_un, qz_ue]
  · simp (disch := omega) only [pk_us, pk_un, qz_ue]
  · simp (disch := omega) only [pk_us, pk_un, qz_ue]
  · exact qq_pr hp (l0_o (by omega) (by omega) (by omega) (by omega) (by omega)) (fun i h1 h2 => l0_o (by omega) (by omega) (by omega) (by omega) (by omega))
  · exact qq_sw hw (l0_o (by omega) (by omega) (by omega) (by omega) (by omega)) (l0_o (by omega) (by omega) (by omega) (by omega) (by omega)) (l0_o (by omega) (by omega) (by omega) (by omega) (by omega)) (l0_o (by omega) (by omega) (by omega) (by omega) (by omega)) (l0_o (by omega) (by omega) (by omega) (by omega) (by omega))
  · obtain ⟨l1, l2, l3, l4, l5, l6⟩ := hl
    unfold qi_lx
    rw [l0_o (i := 142) (by omega) (by omega) (by omega) (by omega) (by omega), l0_o (i := 0) (by omega) (by omega) (by omega) (by omega) (by omega), e144, qk_tm1]
    refine ⟨l1, l2, by omega, by omega, fun h => by omega, fun k hk hh => ?_⟩
    have hka : ¬ k = a := by omega
    rw [e3 k hk hka]
    exact l6 k hk (Or.inl ⟨by omega, by omega⟩)
  · obtain ⟨q1, q2, q3, q4⟩ := hq
    unfold qi_qu
    rw [l0_o (i := 142) (by omega) (by omega) (by omega) (by omega) (by omega), l0_o (i := 0) (by omega) (by omega) (by omega) (by omega) (by omega), l0_o (i := 146) (by omega) (by omega) (by omega) (by omega) (by omega), e144]
    refine ⟨q1, q2, fun k hk => ?_, fun j k hj hk => ?_⟩
    · obtain ⟨r1, r2, r3, r4, r5⟩ := q3 k hk
      have r6 := qn_int r1
      have r7 : ¬ qn (s (147 + k)) = a := fun t => r4 (by rw [ha, ← t]; exact qn_of r1)
      rw [l0_o (i := 147 + k) (by omega) (by omega) (by omega) (by omega) (by omega), e3 _ (by omega) r7]
      exact ⟨r1, r2, r3, by rw [qz_m1]; omega, r5⟩
    · rw [l0_o (i := 147 + k) (by omega) (by omega) (by omega) (by omega) (by omega), l0_o (i := 147 + j) (by omega) (by omega) (by omega) (by omega) (by omega)]
      exact q4 j k hj hk
  · exact qq_se he (fun i h1 h2 => l0_o (by omega) (by omega) (by omega) (by omega) (by omega))
  · simp (disch := omega) only [pk_us, pk_un, qz_ue]
  · simp (disch := omega) only [pk_us, pk_un, qz_ue]
  · simp (disch := omega) only [pk_us, pk_un, qz_ue]
theorem t2_A (h : qi_A N s) (hN : N + 2 < 2147483647) : qi_A (N + 2) (qr_t2 s).2 := by
  have h' := h
  obtain ⟨hs, hp, hw, hl, hq, he, hc⟩ := h
  have hn := (qi_n hs).2
  have hi := qn_int hs.1
  unfold qr_t2
  by_cases c1 : s 144 = -1
  · rw [if_pos c1]
    exact qq_A h' (by omega)
  · rw [if_neg c1]
    have g1 : 0 ≤ (s 144).toInt := by
      have := hl.2.2.1
      rw [qz_m1] at c1
      omega
    have g2 := hl.2.2.2.2.1 g1
    have g3 := qn_int g1
    have g4 := qn_of g1
    have g5 : qn (s 144) < qn (s 0) := by have := hl.2.2.2.1; omega
    by_cases c2 : s 145 - 1 = 0
    · rw [if_neg (fun t => t c2)]
      obtain ⟨b1, b2, b3, b4, b5, b6, b7⟩ := l0_A h' g4 g5 (by omega)
      by_cases c3 : s 142 = s 144
      · rw [if_neg (fun t => t c3)]
        exact sh_A (N := N + 1) b1 b2 b3 b4 b5 b6 b7 (by omega) (by rw [l0_o (by omega) (by omega) (by omega) (by omega) (by omega)]; exact g5)
      · rw [if_pos c3]
        dsimp only
        refine qq_A (M := N + 1) ⟨b1, b2, b3, ?_, b5, b6, b7⟩ (by omega)
        refine ⟨b4.1, b4.2.1, b4.2.2.1, b4.2.2.2.1, b4.2.2.2.2.1, fun k hk hh => b4.2.2.2.2.2 k hk ?_⟩
        rcases hh with hh | hh
        · refine Or.inl ⟨hh.1, fun e => ?_⟩
          rw [l0_o (by omega) (by omega) (by omega) (by omega) (by omega)] at hh
          exact c3 (by rw [qz_eq]; omega)
        · exact Or.inr hh
    · rw [if_pos c2]
      dsimp only
      have eo : ∀ i, ¬ i = 145 → upd s 145 (s 145 - 1) i = s i := fun i h => pk_un h
      refine qq_A (M := N) ⟨qq_sl hs fun i hi => eo i (by omega), qq_pr hp (eo _ (by omega)) (fun i h1 h2 => eo _ (by omega)), qq_sw hw (eo _ (by omega)) (eo _ (by omega)) (eo _ (by omega)) (eo _ (by omega)) (eo _ (by omega)), ?_, qq_qu hs hq (eo _ (by omega)) (eo _ (by omega)) (eo _ (by omega)) (fun i h1 h2 => eo _ (by omega)) (fun k hk => eo _ (by omega)), qq_se he (fun i h1 h2 => eo _ (by omega)), qq_ct hc (eo _ (by omega)) (eo _ (by omega)) (eo _ (by omega))⟩ (by omega)
      unfold qi_lo qi_lx
      rw [eo 142 (by omega), eo 144 (by omega), eo 0 (by omega), pk_us]
      refine ⟨hl.1, hl.2.1, hl.2.2.1, hl.2.2.2.1, fun _ => ?_, fun k hk hh => ?_⟩
      · rw [qz_00, qz_s1 (by omega)] at c2
        rw [qz_s1 (by omega)]
        omega
      · rw [eo _ (by omega)]
        exact hl.2.2.2.2.2 k hk hh
theorem t3_A (h : qi_A N s) (hN : N + 2 < 2147483647) : qi_A (N + 2) (qr_t3 s).2 := by
  unfold qr_t3
  split
  · next c =>
    refine go_A h ?_ c.1 hN
    have := c.2.2.2.2
    rw [qz_l0] at this
    omega
  · exact qq_A h (by omega)
end QRN
