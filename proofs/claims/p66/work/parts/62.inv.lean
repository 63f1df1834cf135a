/-! what always holds, kept by each step (5): asking, the programme, slides, settings -/
section QRT
variable {s t : qs} {N : Nat}
/-- more different numbers than there are, there are not -/
theorem pg_h : ∀ (n m : Nat) (f : Nat → Nat), (∀ i, i < m → f i < n) → (∀ i j, i < j → j < m → ¬ f i = f j) → m ≤ n := by
  intro n
  induction n with
  | zero =>
    intro m f h1 h2
    cases m with
    | zero => exact Nat.le_refl _
    | succ m => have := h1 0 (by omega); omega
  | succ n ih =>
    intro m f h1 h2
    by_cases c : ∃ i, i < m ∧ f i = n
    · obtain ⟨i, hi, hf⟩ := c
      have h3 := ih (m - 1) (fun j => if j < i then f j else f (j + 1)) (fun j hj => by
        split
        · have := h1 j (by omega)
          have := h2 j i (by omega) hi
          omega
        · have := h1 (j + 1) (by omega)
          have := h2 i (j + 1) (by omega) (by omega)
          omega) (fun j k hj hk => by
        split
        · split
          · exact h2 j k hj (by omega)
          · exact h2 j (k + 1) (by omega) (by omega)
        · rw [if_neg (by omega)]
          exact h2 (j + 1) (k + 1) (by omega) (by omega))
      omega
    · have h3 := ih m f (fun i hi => by
        have := h1 i hi
        have : ¬ f i = n := fun e => c ⟨i, hi, e⟩
        omega) h2
      omega
theorem ca_s {a : Nat} (h : qi_A N s) (ha : a < qn (s 0)) (hc : qr_ca s a = true) : s (1 + 7 * a + 3) = 0 ∧ ¬ s 144 = nI a ∧ ¬ s 142 = nI a ∧ (∀ k : Nat, (k : Int) < (s 146).toInt → ¬ s (147 + k) = nI a) ∧ (s 146).toInt < 16 := by
  obtain ⟨hs, hp, hw, hl, hq, he, hct⟩ := h
  have hn := (qi_n hs).2
  have hi := qn_int hs.1
  unfold qr_ca at hc
  simp only [Bool.and_eq_true, Bool.not_eq_true', decide_eq_false_iff_not] at hc
  obtain ⟨⟨⟨c1, c2⟩, c3⟩, c4⟩ := hc
  have hq1 := qn_int hq.1
  have c5 : ∀ k : Nat, (k : Int) < (s 146).toInt → ¬ s (147 + k) = nI a := fun k hk => by
    refine qf_n s a (qn (s 146)) 0 ?_ k (by omega) (by omega)
    unfold qr_qp at c4
    cases e : qr_qf s a (qn (s 146)) 0 with
    | none => rfl
    | some p => rw [e] at c4; cases c4
  refine ⟨ld_0 hs (by omega) (by rw [c1]; decide), c2, c3, c5, ?_⟩
  have h1 := pg_h 16 (qn (s 146) + 1) (fun k => if k < qn (s 146) then qn (s (147 + k)) else a) (fun k hk => by
    split
    · have h2 := hq.2.2.1 k (by omega)
      have := qn_int h2.1
      omega
    · omega) (fun j k hj hk => by
    have h2 := hq.2.2.1 j (by omega)
    rw [if_pos (by omega)]
    split
    · have h3 := hq.2.2.1 k (by omega)
      intro e
      exact hq.2.2.2 j k hj (by omega) (by rw [qn_of h2.1, qn_of h3.1, e])
    · intro e
      exact c5 j (by omega) (by rw [qn_of h2.1, e]))
  omega
theorem aq_o {a i : Nat} (h : ¬ i = 146) (h2 : ¬ i = 147 + qn (s 146)) : qr_aq s a i = s i := by
  unfold qr_aq
  simp (disch := omega) only [pk_us, pk_un, qz_ue]
theorem aq_A {a : Nat} (h : qi_A N s) (ha : a < qn (s 0)) (hc : qr_ca s a = true) : qi_A N (qr_aq s a) := by
  obtain ⟨c1, c2, c3, c4, c5⟩ := ca_s h ha hc
  obtain ⟨hs, hp, hw, hl, hq, he, hct⟩ := h
  have hn := (qi_n hs).2
  have hi := qn_int hs.1
  have hq1 := qn_int hq.1
  have e6 : (qr_aq s a 146).toInt = (s 146).toInt + 1 := by
    unfold qr_aq
    rw [pk_us, qz_p1 (by omega)]
  have e7 : qr_aq s a (147 + qn (s 146)) = nI a := by
    unfold qr_aq
    simp (disch := omega) only [pk_us, pk_un, qz_ue]
  refine ⟨qq_sl hs fun i hi => aq_o (by omega) (by omega), qq_pr hp (aq_o (by omega) (by omega)) (fun i h1 h2 => aq_o (by omega) (by omega)), qq_sw hw (aq_o (by omega) (by omega)) (aq_o (by omega) (by omega)) (aq_o (by omega) (by omega)) (aq_o (by omega) (by omega)) (aq_o (by omega) (by omega)), qq_lx hl (aq_o (by omega) (by omega)) (aq_o (by omega) (by omega)) (aq_o (by omega) (by omega)) (aq_o (by omega) (by omega)) (fun k hk => aq_o (by omega) (by omega)), ?_, qq_se he (fun i h1 h2 => aq_o (by omega) (by omega)), qq_ct hct (aq_o (by omega) (by omega)) (aq_o (by omega) (by omega)) (aq_o (by omega) (by omega))⟩
  unfold qi_qu
  rw [e6, aq_o (i := 142) (by omega) (by omega), aq_o (i := 144) (by omega) (by omega), aq_o (i := 0) (by omega) (by omega)]
  refine ⟨by omega, by omega, fun k hk => ?_, fun j k hj hk => ?_⟩
  · by_cases e : k = qn (s 146)
    · subst e
      rw [e7, qn_nI (by omega), qz_nI (by omega), aq_o (by omega) (by omega)]
      exact ⟨by omega, by omega, fun t => c3 t.symm, fun t => c2 t.symm, c1⟩
    · obtain ⟨r1, r2, r3, r4, r5⟩ := hq.2.2.1 k (by omega)
      have r6 := qn_int r1
      rw [aq_o (i := 147 + k) (by omega) (by omega), aq_o (by omega) (by omega)]
      exact ⟨r1, r2, r3, r4, r5⟩
  · rw [aq_o (i := 147 + j) (by omega) (by omega)]
    by_cases e : k = qn (s 146)
    · subst e
      rw [e7]
      exact c4 j (by omega)
    · rw [aq_o (i := 147 + k) (by omega) (by omega)]
      exact hq.2.2.2 j k hj (by omega)
theorem ip_o {p a i : Nat} (hp : p ≤ qn (s 113)) (h2 : i < 113 ∨ 138 < i) (hc : qn (s 113) < 24) : qr_ip s p a i = s i := by
  unfold qr_ip
  rw [pk_un (by omega), pk_un (by omega), if_neg (by omega), if_neg (by omega)]
theorem ip_A {p a : Nat} (h : qi_A N s) (ha : a < qn (s 0)) (hp0 : (p : Int) ≤ (s 113).toInt) (hc : (s 113).toInt < 24) : qi_A N (qr_ip s p a) := by
  obtain ⟨hs, hp, hw, hl, hq, he, hct⟩ := h
  have hn := (qi_n hs).2
  have hi := qn_int hs.1
  have hp1 := qn_int hp.1
  have o : ∀ i, i < 113 ∨ 138 < i → qr_ip s p a i = s i := fun i h2 => ip_o (by omega) h2 (by omega)
  refine ⟨qq_sl hs fun i hi => o i (by omega), ?_, qq_sw hw (o _ (by omega)) (o _ (by omega)) (o _ (by omega)) (o _ (by omega)) (o _ (by omega)), qq_lx hl (o _ (by omega)) (o _ (by omega)) (o _ (by omega)) (o _ (by omega)) (fun k hk => o _ (by omega)), qq_qu hs hq (o _ (by omega)) (o _ (by omega)) (o _ (by omega)) (fun i h1 h2 => o _ (by omega)) (fun k hk => o _ (by omega)), qq_se he (fun i h1 h2 => o _ (by omega)), qq_ct hct (o _ (by omega)) (o _ (by omega)) (o _ (by omega))⟩
  obtain ⟨p1, p2, p3, p4, p5⟩ := hp
  have e3 : (qr_ip s p a 113).toInt = (s 113).toInt + 1 := by
    unfold qr_ip
    rw [pk_un (by omega), pk_us, qz_p1 (by omega)]
  have e8 : qr_ip s p a 138 = s 138 + (if s 138 = -1 ∨ (s 138).toInt < (p : Int) then 0 else 1) := by
    unfold qr_ip
    rw [pk_us]
  unfold qi_pr
  rw [e3, e8, o 0 (by omega)]
  refine ⟨by omega, by omega, ?_, ?_, fun k hk => ?_⟩
  · split
    · rw [Int32.add_zero]; exact p3
    · rw [qz_p1 (by omega)]; omega
  · split
    · rw [Int32.add_zero]; omega
    · rw [qz_p1 (by omega)]; omega
  · have e : qr_ip s p a (114 + k) = if k = p then nI a else if p < k then s (114 + (k - 1)) else s (114 + k) := by
      unfold qr_ip
      rw [pk_un (by omega), pk_un (by omega)]
      by_cases c1 : k = p
      · rw [if_pos (by omega), if_pos c1]
      · rw [if_neg (by omega), if_neg c1]
        by_cases c2 : p < k
        · rw [if_pos (by omega), if_pos c2, show 114 + k - 1 = 114 + (k - 1) by omega]
        · rw [if_neg (by omega), if_neg c2]
    rw [e]
    split
    · rw [qz_nI (by omega)]; omega
    · split
      · exact p5 (k - 1) (by omega)
      · exact p5 k (by omega)
theorem rp_o {p i : Nat} (h2 : i < 113 ∨ 138 < i) (hc : qn (s 113) ≤ 24) : qr_rp s p i = s i := by
  unfold qr_rp
  rw [pk_un (by omega), pk_un (by omega), if_neg (by omega), if_neg (by omega)]
theorem rp_A {p : Nat} (h : qi_A N s) (hp0 : (p : Int) < (s 113).toInt) : qi_A N (qr_rp s p) := by
  obtain ⟨hs, hp, hw, hl, hq, he, hct⟩ := h
  have hn := (qi_n hs).2
  have hi := qn_int hs.1
  have hp1 := qn_int hp.1
  have hp2 := (qi_p hp).2
  have o : ∀ i, i < 113 ∨ 138 < i → qr_rp s p i = s i := fun i h2 => rp_o h2 (by omega)
  refine ⟨qq_sl hs fun i hi => o i (by omega), ?_, qq_sw hw (o _ (by omega)) (o _ (by omega)) (o _ (by omega)) (o _ (by omega)) (o _ (by omega)), qq_lx hl (o _ (by omega)) (o _ (by omega)) (o _ (by omega)) (o _ (by omega)) (fun k hk => o _ (by omega)), qq_qu hs hq (o _ (by omega)) (o _ (by omega)) (o _ (by omega)) (fun i h1 h2 => o _ (by omega)) (fun k hk => o _ (by omega)), qq_se he (fun i h1 h2 => o _ (by omega)), qq_ct hct (o _ (by omega)) (o _ (by omega)) (o _ (by omega))⟩
  obtain ⟨p1, p2, p3, p4, p5⟩ := hp
  have e3 : (qr_rp s p 113).toInt = (s 113).toInt - 1 := by
    unfold qr_rp
    rw [pk_un (by omega), pk_us, qz_s1 (by omega)]
  have e8 : qr_rp s p 138 = s 138 - (if s 138 = -1 ∨ (s 138).toInt < (p : Int) then 0 else 1) := by
    unfold qr_rp
    rw [pk_us]
  unfold qi_pr
  rw [e3, e8, o 0 (by omega)]
  refine ⟨by omega, by omega, ?_, ?_, fun k hk => ?_⟩
  · split
    · rw [Int32.sub_zero]; exact p3
    · next c =>
      have c1 : ¬ (s 138).toInt = -1 := fun t => c (Or.inl (qz_m1.mpr t))
      rw [qz_s1 (by omega)]; omega
  · split
    · next c =>
      rw [Int32.sub_zero]
      rcases c with c | c
      · rw [qz_m1] at c; omega
      · omega
    · rw [qz_s1 (by omega)]; omega
  · have e : qr_rp s p (114 + k) = if p ≤ k then s (114 + (k + 1)) else s (114 + k) := by
      unfold qr_rp
      rw [pk_un (by omega), pk_un (by omega)]
      by_cases c1 : p ≤ k
      · rw [if_pos (by omega), if_pos c1]; rfl
      · rw [if_neg (by omega), if_neg (by omega), if_neg c1]
    rw [e]
    split
    · exact p5 (k + 1) (by omega)
    · exact p5 k (by omega)
theorem tm_o {i0 : Nat} (h : qi_I N s) (hA : qi_A N t) (e : ∀ i, (i < 113 ∨ i = 144 ∨ i = 163) → t i = s i) : qi_I N t := by
  have hn := (qi_n h.1.1).2
  refine ⟨hA, ?_⟩
  unfold qi_tm
  rw [ta_q (s := s) (e 0 (by omega)) (e 144 (by omega)) (fun k hk => ⟨e _ (by omega), e _ (by omega)⟩), e 163 (by omega)]
  exact h.2
theorem aq_I {a : Nat} (h : qi_I N s) (ha : a < qn (s 0)) (hc : qr_ca s a = true) : qi_I N (qr_aq s a) := by
  have h5 := (ca_s h.1 ha hc).2.2.2.2
  have h6 := qn_int h.1.2.2.2.2.1.1
  exact tm_o (i0 := 0) h (aq_A h.1 ha hc) (fun i hi => aq_o (by omega) (by omega))
theorem ip_I {p a : Nat} (h : qi_I N s) (ha : a < qn (s 0)) (hp0 : (p : Int) ≤ (s 113).toInt) (hc : (s 113).toInt < 24) : qi_I N (qr_ip s p a) := by
  have hp1 := qn_int h.1.2.1.1
  exact tm_o (i0 := 0) h (ip_A h.1 ha hp0 hc) (fun i hi => ip_o (by omega) (by omega) (by omega))
theorem rp_I {p : Nat} (h : qi_I N s) (hp0 : (p : Int) < (s 113).toInt) : qi_I N (qr_rp s p) := by
  have hp2 := (qi_p h.1.2.1).2
  exact tm_o (i0 := 0) h (rp_A h.1 hp0) (fun i hi => rp_o (by omega) (by omega))
theorem bu_I {a : Nat} (h : qi_I N s) (ha : a < qn (s 0)) (hc : qr_cb s a = true) : qi_I N (qr_bu s a) := by
  obtain ⟨hA, ht⟩ := h
  have hn := (qi_n hA.1).2
  have hi := qn_int hA.1.1
  refine ⟨bu_A hA (by omega), ?_⟩
  unfold qr_cb at hc
  rw [Bool.and_eq_true] at hc
  have h4 : ¬ s 144 = nI a := fun t => by
    have h5 := hA.2.2.2.1.2.2.2.2.2 a (by omega) (Or.inr (by rw [t, qz_nI (by omega)]))
    have h6 := hc.1
    unfold qr_ld at h6
    rw [h5] at h6
    exact absurd (of_decide_eq_true h6) (by decide)
  have h7 := (hA.1.2.2 a (by omega)).2.2.2.2.1 (by omega)
  unfold qi_tm at ht ⊢
  rw [bu_ta hA.1 hA.2.2.2.2.2.1 ha hc.1 h4, bu_o (by omega) (by omega)]
  omega
theorem as_o {c l f : Int32} {i : Nat} (h : ¬ i = 0) (h1 : ¬ i = 1 + 7 * qn (s 0)) (h2 : ¬ i = 1 + 7 * qn (s 0) + 1) (h3 : ¬ i = 1 + 7 * qn (s 0) + 2) : qr_as s c l f i = s i := by
  unfold qr_as
  simp (disch := omega) only [pk_us, pk_un, qz_ue]
theorem as_ta {c l f : Int32} (hs : qi_sl s) (hn : (s 0).toInt < 16) (h4 : (s 144).toInt < (s 0).toInt) : qr_ta (qr_as s c l f) = qr_ta s := by
  have hi := qn_int hs.1
  have h2 : (qr_as s c l f 0).toInt = (s 0).toInt + 1 := by
    unfold qr_as
    rw [pk_un (by omega), pk_un (by omega), pk_un (by omega), pk_us, qz_p1 (by omega)]
  have e2 : qn (qr_as s c l f 0) = qn (s 0) + 1 := by
    unfold qn
    omega
  have e3 : ∀ k, qr_as s c l f (1 + 7 * k + 3) = s (1 + 7 * k + 3) := fun k => as_o (by omega) (by omega) (by omega) (by omega)
  have h1 : qr_tf (qr_as s c l f) (qn (s 0)) = 0 := by
    unfold qr_tf qr_ld
    rw [e3, as_o (i := 144) (by omega) (by omega) (by omega) (by omega), (hs.2.2 (qn (s 0)) (by omega)).2.2.2.2.2 (by omega), if_neg ?_]
    rintro (c | c)
    · exact absurd (of_decide_eq_true c) (by decide)
    · rw [c, qz_nI (by omega)] at h4
      omega
  have h : ∀ k : Nat, k ≤ qn (s 0) → qr_tk (qr_as s c l f) k = qr_tk s k := by
    intro k
    induction k with
    | zero => intro _; rfl
    | succ k ih =>
      intro hk
      unfold qr_tk
      rw [ih (by omega)]
      unfold qr_tf qr_ld
      rw [e3 k, as_o (i := 1 + 7 * k) (by omega) (by omega) (by omega) (by omega), as_o (i := 144) (by omega) (by omega) (by omega) (by omega)]
  unfold qr_ta
  rw [e2, show qr_tk (qr_as s c l f) (qn (s 0) + 1) = qr_tk (qr_as s c l f) (qn (s 0)) + qr_tf (qr_as s c l f) (qn (s 0)) from rfl, h1, Int32.add_zero]
  exact h _ (Nat.le_refl _)
theorem as_I {c l f : Int32} (h : qi_I N s) (hn : (s 0).toInt < 16) (hc : 1 ≤ c.toInt ∧ c.toInt ≤ 50) (hl0 : 1 ≤ l.toInt ∧ l.toInt ≤ 20) (hf : 0 ≤ f.toInt ∧ f.toInt ≤ 10) : qi_I N (qr_as s c l f) := by
  have h' := h
  obtain ⟨⟨hs, hp, hw, hl, hq, he, hct⟩, ht⟩ := h
  have hi := qn_int hs.1
  have e0 : (qr_as s c l f 0).toInt = (s 0).toInt + 1 := by
    unfold qr_as
    rw [pk_un (by omega), pk_un (by omega), pk_un (by omega), pk_us, qz_p1 (by omega)]
  have e3 : ∀ k, qr_as s c l f (1 + 7 * k + 3) = s (1 + 7 * k + 3) := fun k => as_o (by omega) (by omega) (by omega) (by omega)
  have o : ∀ i, 113 ≤ i → qr_as s c l f i = s i := fun i hi => as_o (by omega) (by omega) (by omega) (by omega)
  have ec : ∀ k, k < qn (s 0) → qr_as s c l f (1 + 7 * k) = s (1 + 7 * k) := fun k hk => as_o (by omega) (by omega) (by omega) (by omega)
  refine ⟨⟨?_, ?_, ?_, ?_, ?_, qq_se he (fun i h1 h2 => o _ (by omega)), qq_ct hct (o _ (by omega)) (o _ (by omega)) (o _ (by omega))⟩, ?_⟩
  · unfold qi_sl
    rw [e0]
    refine ⟨by omega, by omega, fun k hk => ?_⟩
    obtain ⟨c1, c2, c3, c4, c5, c6⟩ := hs.2.2 k hk
    rw [e3 k, as_o (i := 1 + 7 * k + 4) (by omega) (by omega) (by omega) (by omega), as_o (i := 1 + 7 * k + 6) (by omega) (by omega) (by omega) (by omega)]
    refine ⟨c1, c2, c3, c4, fun hkn => ?_, fun hkn => c6 (by omega)⟩
    by_cases e : k = qn (s 0)
    · subst e
      unfold qr_as
      simp (disch := omega) only [pk_us, pk_un, qz_ue]
      omega
    · rw [ec k (by omega), as_o (i := 1 + 7 * k + 1) (by omega) (by omega) (by omega) (by omega), as_o (i := 1 + 7 * k + 2) (by omega) (by omega) (by omega) (by omega)]
      exact c5 (by omega)
  · obtain ⟨p1, p2, p3, p4, p5⟩ := hp
    unfold qi_pr
    rw [e0, o 113 (by omega), o 138 (by omega)]
    refine ⟨p1, p2, p3, p4, fun k hk => ?_⟩
    rw [o (114 + k) (by omega)]
    have := p5 k hk
    omega
  · unfold qi_sw at hw ⊢
    rw [e0, o 139 (by omega), o 140 (by omega), o 141 (by omega), o 143 (by omega)]
    obtain ⟨w1, w2, w3, w4, w5, w6, w7, w8⟩ := hw
    exact ⟨w1, by omega, w3, by omega, w5, w6, w7, w8⟩
  · obtain ⟨l1, l2, l3, l4, l5, l6⟩ := hl
    unfold qi_lo qi_lx
    rw [e0, o 142 (by omega), o 144 (by omega), o 145 (by omega)]
    refine ⟨l1, by omega, l3, by omega, l5, fun k hk hh => ?_⟩
    rw [e3 k]
    exact l6 k hk hh
  · obtain ⟨q1, q2, q3, q4⟩ := hq
    unfold qi_qu
    rw [e0, o 142 (by omega), o 144 (by omega), o 146 (by omega)]
    refine ⟨q1, q2, fun k hk => ?_, fun j k hj hk => ?_⟩
    · obtain ⟨r1, r2, r3, r4, r5⟩ := q3 k hk
      rw [o (147 + k) (by omega), e3]
      exact ⟨r1, by omega, r3, r4, r5⟩
    · rw [o (147 + k) (by omega), o (147 + j) (by omega)]
      exact q4 j k hj hk
  · have e1 : qr_ta (qr_as s c l f) = qr_ta s := as_ta hs hn hl.2.2.2.1
    unfold qi_tm
    rw [e1, o 163 (by omega)]
    exact ht
/-- a new slide begins no loading -/
theorem as_st {c l f : Int32} (h : qi_I N s) (hst : qi_st s) (hn : (s 0).toInt < 16) (hI : qi_I N (qr_as s c l f)) : qr_bg (qr_as s c l f) = qr_as s c l f ∧ qi_st (qr_as s c l f) := by
  obtain ⟨⟨hs, hp, hw, hl, hq, he, hct⟩, ht⟩ := h
  have hi := qn_int hs.1
  have o : ∀ i, 113 ≤ i → qr_as s c l f i = s i := fun i hi => as_o (by omega) (by omega) (by omega) (by omega)
  have e3 : ∀ k, qr_as s c l f (1 + 7 * k + 3) = s (1 + 7 * k + 3) := fun k => as_o (by omega) (by omega) (by omega) (by omega)
  have ep : qe_p s (qr_as s c l f) := ⟨o _ (by omega), o _ (by omega), fun k hk => o _ (by omega)⟩
  have key : s 144 = -1 → qr_b3 (qr_as s c l f) = qr_as s c l f := by
    intro h4
    obtain ⟨s1, s2, s3⟩ := hst h4
    have eg : qr_gd (qr_as s c l f) = qr_gd s := by
      unfold qr_gd
      rw [o 113 (by omega), o 164 (by omega)]
      by_cases c0 : qn (s 113) = 0
      · rw [if_pos c0, if_pos c0]
      · rw [if_neg c0, if_neg c0]
        have h1 := qn_int hp.1
        have : ∀ m k : Nat, qr_gf (qr_as s c l f) m k = qr_gf s m k := by
          intro m
          induction m with
          | zero => intro k; rfl
          | succ m ih =>
            intro k
            unfold qr_gf
            rw [qe_sa hp (by omega) ep, ih]
            unfold qr_ld
            rw [e3]
        exact this _ _
    unfold qr_b3 at s3 ⊢
    rw [eg]
    cases eg2 : qr_gd s with
    | none => rfl
    | some a =>
      obtain ⟨g1, g2, g3⟩ := gd_s hp hs eg2
      have e5 : qr_ta (qr_as s c l f) = qr_ta s := as_ta hs hn hl.2.2.2.1
      have e6 : qr_ft (qr_as s c l f (1 + 7 * a)).toInt (qr_as s c l f) = qr_ft (s (1 + 7 * a)).toInt s := by
        unfold qr_ft
        rw [e5, o 163 (by omega), as_o (i := 1 + 7 * a) (by omega) (by omega) (by omega) (by omega)]
      dsimp only
      rw [e6]
      by_cases c4 : qr_ft (s (1 + 7 * a)).toInt s = true
      · rw [eg2] at s3
        dsimp only at s3
        rw [if_pos c4] at s3
        have hA : qi_A N s := ⟨hs, hp, hw, hl, hq, he, hct⟩
        have := (st_A hA g1 h4 g2 (fun k hk => by have := qn_int hq.1; omega)).2
        rw [s3, h4] at this
        exact absurd this.symm (qr_nI_m (by omega))
      · rw [if_neg c4]
  constructor
  · unfold qr_bg
    rw [o 144 (by omega), o 142 (by omega), o 146 (by omega)]
    by_cases h4 : s 144 = -1
    · obtain ⟨s1, s2, s3⟩ := hst h4
      rw [if_neg (not_not_intro h4), if_neg (not_not_intro s1), if_pos s2]
      exact key h4
    · rw [if_pos h4]
  · intro h4
    rw [o 144 (by omega)] at h4
    rw [o 142 (by omega), o 146 (by omega)]
    obtain ⟨s1, s2, s3⟩ := hst h4
    exact ⟨s1, s2, key h4⟩
/-- settings -/
theorem se_A {i : Nat} {v : Int32} (h : qi_A N s) (hi : 163 ≤ i) (hi2 : i ≤ 167) (he : qi_se (upd s i v)) : qi_A N (upd s i v) := by
  obtain ⟨hs, hp, hw, hl, hq, _, hct⟩ := h
  exact ⟨qq_sl hs fun i hi => pk_un (by omega), qq_pr hp (pk_un (by omega)) (fun i h1 h2 => pk_un (by omega)), qq_sw hw (pk_un (by omega)) (pk_un (by omega)) (pk_un (by omega)) (pk_un (by omega)) (pk_un (by omega)), qq_lx hl (pk_un (by omega)) (pk_un (by omega)) (pk_un (by omega)) (pk_un (by omega)) (fun k hk => pk_un (by omega)), qq_qu hs hq (pk_un (by omega)) (pk_un (by omega)) (pk_un (by omega)) (fun i h1 h2 => pk_un (by omega)) (fun k hk => pk_un (by omega)), he, qq_ct hct (pk_un (by omega)) (pk_un (by omega)) (pk_un (by omega))⟩
theorem se_I {i : Nat} {v : Int32} (h : qi_I N s) (hi : 164 ≤ i) (hi2 : i ≤ 167) (he : qi_se (upd s i v)) : qi_I N (upd s i v) :=
  tm_o (i0 := 0) h (se_A h.1 (by omega) hi2 he) (fun j hj => pk_un (by omega))
theorem mr_0 (h : qi_I N s) : qr_mr 0 s = (0, s) := by
  have h1 : qr_ft 0 s = true := by
    unfold qr_ft
    refine decide_eq_true ?_
    have := h.2
    unfold qi_tm at this
    omega
  unfold qr_mr
  cases qr_ln s with
  | nil => rfl
  | cons a l =>
    unfold qr_rm
    rw [if_pos h1]
theorem mr_I (h : qi_A N s) : qi_I N (qr_mr 0 s).2 := by
  refine ⟨mr_A h, ?_⟩
  have h1 := mr_ok (m := 0) h (by have := h.2.2.2.2.2.1.1; split <;> omega)
  unfold qr_ft at h1
  have := of_decide_eq_true h1
  unfold qi_tm
  omega
end QRT
