/-! what always holds, kept by each step -/
section QRL
variable {s t : qs} {N : Nat}
theorem t0_o {i : Nat} (h1 : ¬ i = 168) (h2 : ¬ i = 174) (h3 : ¬ i = 143) : qr_t0 s i = s i := by
  unfold qr_t0
  simp (disch := omega) only [pk_us, pk_un, qz_ue]
theorem em_o (s : qs) {i : Nat} (h : i < 1 ∨ 112 < i ∨ ∃ k w, i = 1 + 7 * k + w ∧ w < 7 ∧ ¬ w = 4) : ∀ k : Nat, k ≤ 16 → qr_em s k i = s i := by
  intro k
  induction k with
  | zero => intro _; rfl
  | succ k ih =>
    intro hk
    unfold qr_em
    rw [pk_un (by rcases h with h | h | ⟨j, w, h, h4, h5⟩ <;> omega), ih (by omega)]
theorem em_4 (s : qs) {j : Nat} : ∀ k : Nat, qr_em s k (1 + 7 * j + 4) = if j < k then (if s (1 + 7 * j + 4) ≤ 0 then 0 else s (1 + 7 * j + 4) - 1) else s (1 + 7 * j + 4) := by
  intro k
  induction k with
  | zero => rw [if_neg (by omega)]; rfl
  | succ k ih =>
    unfold qr_em
    by_cases e : j = k
    · subst e
      rw [pk_us, if_pos (show j < j + 1 by omega)]
    · rw [pk_un (by omega), ih]
      by_cases e2 : j < k
      · rw [if_pos e2, if_pos (show j < k + 1 by omega)]
      · rw [if_neg e2, if_neg (show ¬ j < k + 1 by omega)]
theorem fd_o {i : Nat} (h1 : ¬ i = 141) (h2 : ¬ i = 140) : qr_fd s i = s i := by
  unfold qr_fd
  simp (disch := omega) only [pk_us, pk_un, qz_ue]
theorem t1_o (h : qi_sl s) {i : Nat} (h1 : i < 1 ∨ 112 < i ∨ ∃ k w, i = 1 + 7 * k + w ∧ w < 7 ∧ ¬ w = 4) (h2 : i ≤ 139 ∨ i = 142 ∨ (144 ≤ i ∧ i < 168) ∨ (168 < i ∧ ¬ i = 174)) : qr_t1 s i = s i := by
  have hn := (qi_n h).2
  unfold qr_t1
  rw [fd_o (by omega) (by omega), em_o _ h1 _ hn, t0_o (by omega) (by omega) (by omega)]
theorem t1_4 {j : Nat} (hj : j < 16) : qr_t1 s (1 + 7 * j + 4) = if j < qn (s 0) then (if s (1 + 7 * j + 4) ≤ 0 then 0 else s (1 + 7 * j + 4) - 1) else s (1 + 7 * j + 4) := by
  unfold qr_t1
  rw [fd_o (by omega) (by omega), em_4, t0_o (by omega) (by omega) (by omega)]
theorem qz_m1 {a : Int32} : a = -1 ↔ a.toInt = -1 := by rw [qz_eq, qk_tm1]
theorem qz_00 {a : Int32} : a = 0 ↔ a.toInt = 0 := by rw [qz_eq, qk_t0]
theorem qz_11 {a : Int32} : a = 1 ↔ a.toInt = 1 := by rw [qz_eq, qk_t1]
theorem qz_l0 {a : Int32} : a ≤ 0 ↔ a.toInt ≤ 0 := by rw [qz_le, qk_t0]
theorem qz_s1 {a : Int32} (h : -2147483648 < a.toInt) : (a - 1).toInt = a.toInt - 1 := by
  have := qz_rg a
  rw [qz_sub, qk_t1] <;> rw [qk_t1] <;> omega
theorem qz_p1 {a : Int32} (h : a.toInt < 2147483647) : (a + 1).toInt = a.toInt + 1 := by
  have := qz_rg a
  rw [qz_add, qk_t1] <;> rw [qk_t1] <;> omega
theorem t1_sl (h : qi_sl s) : qi_sl (qr_t1 s) := by
  have hn := (qi_n h).2
  unfold qi_sl
  rw [t1_o h (by omega) (by omega)]
  refine ⟨h.1, h.2.1, fun k hk => ?_⟩
  obtain ⟨c1, c2, c3, c4, c5, c6⟩ := h.2.2 k hk
  rw [t1_o h (i := 1 + 7 * k + 3) (Or.inr (Or.inr ⟨k, 3, rfl, by omega, by omega⟩)) (by omega), t1_o h (i := 1 + 7 * k + 6) (Or.inr (Or.inr ⟨k, 6, rfl, by omega, by omega⟩)) (by omega), t1_o h (i := 1 + 7 * k) (Or.inr (Or.inr ⟨k, 0, rfl, by omega, by omega⟩)) (by omega), t1_o h (i := 1 + 7 * k + 1) (Or.inr (Or.inr ⟨k, 1, rfl, by omega, by omega⟩)) (by omega), t1_o h (i := 1 + 7 * k + 2) (Or.inr (Or.inr ⟨k, 2, rfl, by omega, by omega⟩)) (by omega), t1_4 hk]
  refine ⟨c1, ?_, ?_, c4, c5, c6⟩
  · split
    · split
      · rw [qk_t0]; omega
      · next e => rw [qz_l0] at e; rw [qz_s1 (by omega)]; omega
    · exact c2
  · split
    · split
      · rw [qk_t0]; omega
      · next e => rw [qz_l0] at e; rw [qz_s1 (by omega)]; omega
    · exact c3
theorem t1_141 (h : qi_sl s) : qr_t1 s 141 = s 141 - (if s 141 ≤ 0 then 0 else 1) := by
  have hn := (qi_n h).2
  unfold qr_t1 qr_fd
  rw [em_o _ (by omega) _ hn, em_o _ (by omega) _ hn, t0_o (by omega) (by omega) (by omega), t0_o (by omega) (by omega) (by omega)]
  simp (disch := omega) only [pk_us, pk_un, qz_ue]
theorem t1_140 (h : qi_sl s) : qr_t1 s 140 = if s 141 - (if s 141 ≤ 0 then 0 else 1) ≤ 0 then -1 else s 140 := by
  have hn := (qi_n h).2
  unfold qr_t1 qr_fd
  rw [em_o _ (by omega) _ hn, em_o _ (by omega) _ hn, t0_o (by omega) (by omega) (by omega), t0_o (by omega) (by omega) (by omega)]
  simp (disch := omega) only [pk_us, pk_un, qz_ue]
theorem t1_143 (h : qi_sl s) : qr_t1 s 143 = s 143 + (if s 139 = -1 then 0 else 1) := by
  have hn := (qi_n h).2
  unfold qr_t1
  rw [fd_o (by omega) (by omega), em_o _ (by omega) _ hn]
  unfold qr_t0
  simp (disch := omega) only [pk_us, pk_un, qz_ue]
theorem t1_A (h : qi_A N s) : qi_A N (qr_t1 s) := by
  obtain ⟨hs, hp, hw, hl, hq, he, hc⟩ := h
  have e3 : ∀ k : Nat, k < 16 → qr_t1 s (1 + 7 * k + 3) = s (1 + 7 * k + 3) := fun k hk => t1_o hs (Or.inr (Or.inr ⟨k, 3, rfl, by omega, by omega⟩)) (by omega)
  refine ⟨t1_sl hs, qq_pr hp (t1_o hs (by omega) (by omega)) (fun i h1 h2 => t1_o hs (by omega) (by omega)), ?_, qq_lx hl (t1_o hs (by omega) (by omega)) (t1_o hs (by omega) (by omega)) (t1_o hs (by omega) (by omega)) (t1_o hs (by omega) (by omega)) e3, qq_qu hs hq (t1_o hs (by omega) (by omega)) (t1_o hs (by omega) (by omega)) (t1_o hs (by omega) (by omega)) (fun i h1 h2 => t1_o hs (by omega) (by omega)) e3, qq_se he (fun i h1 h2 => t1_o hs (by omega) (by omega)), qq_ct hc (t1_o hs (by omega) (by omega)) (t1_o hs (by omega) (by omega)) (t1_o hs (by omega) (by omega))⟩
  obtain ⟨w1, w2, w3, w4, w5, w6, w7, w8⟩ := hw
  unfold qi_sw
  rw [t1_o hs (i := 0) (by omega) (by omega), t1_o hs (i := 139) (by omega) (by omega), t1_140 hs, t1_141 hs, t1_143 hs]
  have e1 : (s 141 - (if s 141 ≤ 0 then 0 else 1)).toInt = if (s 141).toInt ≤ 0 then 0 else (s 141).toInt - 1 := by
    by_cases c : (s 141).toInt ≤ 0
    · rw [if_pos (qz_l0.mpr c), if_pos c, Int32.sub_zero]; omega
    · rw [if_neg (fun t => c (qz_l0.mp t)), if_neg c, qz_s1 (by omega)]
  generalize (s 141 - if s 141 ≤ 0 then (0 : Int32) else 1) = v at e1 ⊢
  by_cases c : (s 141).toInt ≤ 0
  · rw [if_pos c] at e1
    rw [if_pos (qz_l0.mpr (by omega)), qk_tm1]
    refine ⟨w1, w2, by omega, by have := hs.1; omega, by omega, by omega, by omega, fun h9 => ?_⟩
    have h10 := w8 h9
    rw [if_pos (qz_m1.mpr h9), h10.2]
    exact ⟨by omega, rfl⟩
  · rw [if_neg c] at e1
    by_cases c2 : v ≤ 0
    · rw [if_pos c2, qk_tm1]
      rw [qz_l0] at c2
      refine ⟨w1, w2, by omega, by have := hs.1; omega, by omega, by omega, by omega, fun h9 => ?_⟩
      have h10 := w8 h9
      omega
    · rw [if_neg c2]
      rw [qz_l0] at c2
      refine ⟨w1, w2, by omega, by omega, by omega, by omega, by omega, fun h9 => ?_⟩
      have h10 := w8 h9
      omega
theorem us_o {a i : Nat} (h1 : ¬ i = 175) (h2 : ¬ i = 1 + 7 * a + 6) : qr_us s a i = s i := by
  unfold qr_us
  simp (disch := omega) only [pk_us, pk_un, qz_ue]
theorem us_sl (h : qi_sl s) (hc : qi_ct N s) (hN : N < 2147483647) {a : Nat} (ha : a < 16) : qi_sl (qr_us s a) := by
  unfold qi_sl
  rw [us_o (i := 0) (by omega) (by omega)]
  refine ⟨h.1, h.2.1, fun k hk => ?_⟩
  obtain ⟨c1, c2, c3, c4, c5, c6⟩ := h.2.2 k hk
  have hu := hc.2.2.2.2
  rw [us_o (i := 1 + 7 * k + 3) (by omega) (by omega), us_o (i := 1 + 7 * k) (by omega) (by omega), us_o (i := 1 + 7 * k + 1) (by omega) (by omega), us_o (i := 1 + 7 * k + 2) (by omega) (by omega), us_o (i := 1 + 7 * k + 4) (by omega) (by omega)]
  refine ⟨c1, c2, c3, ?_, c5, c6⟩
  by_cases e : k = a
  · subst e
    unfold qr_us
    rw [pk_us, qz_p1 (by omega)]
    omega
  · rw [us_o (by omega) (by omega)]
    exact c4
theorem us_ct (hc : qi_ct N s) (hN : N < 2147483647) {a : Nat} (ha : a < 16) : qi_ct (N + 1) (qr_us s a) := by
  unfold qi_ct at hc ⊢
  rw [us_o (i := 169) (by omega) (by omega), us_o (i := 170) (by omega) (by omega)]
  have e : qr_us s a 175 = s 175 + 1 := by
    unfold qr_us
    simp (disch := omega) only [pk_us, pk_un, qz_ue]
  rw [e, qz_p1 (by omega)]
  omega
theorem sf_o {a i : Nat} (h1 : ¬ i = 141) (h2 : ¬ i = 140) : qr_sf s a i = s i := by
  unfold qr_sf
  split
  · rfl
  · simp (disch := omega) only [pk_us, pk_un, qz_ue]
theorem sh_o {a i : Nat} (h1 : i < 139 ∨ 143 < i) (h2 : ¬ i = 175) (h3 : ¬ i = 1 + 7 * a + 6) : qr_sh s a i = s i := by
  unfold qr_sh
  rw [us_o h2 h3]
  simp (disch := omega) only [pk_us, pk_un, qz_ue]
  exact sf_o (by omega) (by omega)
/-- a slide is shown -/
theorem sh_A {a : Nat} (hs : qi_sl s) (hp : qi_pr s) (hw : qi_sw s) (hl : qi_lx a s) (hq : qi_qu s) (he : qi_se s) (hc : qi_ct N s) (hN : N < 2147483647) (ha : a < qn (s 0)) : qi_A (N + 1) (qr_sh s a) := by
  have hn := (qi_n hs).2
  have hi := qn_int hs.1
  have ha2 : a < 16 := by omega
  have e3 : ∀ k : Nat, k < 16 → qr_sh s a (1 + 7 * k + 3) = s (1 + 7 * k + 3) := fun k hk => sh_o (by omega) (by omega) (by omega)
  have e142 : qr_sh s a 142 = -1 := by
    unfold qr_sh
    rw [us_o (by omega) (by omega)]
    simp (disch := omega) only [pk_us, pk_un, qz_ue]
  have e139 : qr_sh s a 139 = nI a := by
    unfold qr_sh
    rw [us_o (by omega) (by omega)]
    simp (disch := omega) only [pk_us, pk_un, qz_ue]
  have e143 : qr_sh s a 143 = 0 := by
    unfold qr_sh
    rw [us_o (by omega) (by omega)]
    simp (disch := omega) only [pk_us, pk_un, qz_ue]
  have e141 : qr_sh s a 141 = qr_sf s a 141 := by
    unfold qr_sh
    rw [us_o (by omega) (by omega)]
    simp (disch := omega) only [pk_us, pk_un, qz_ue]
  have e140 : qr_sh s a 140 = qr_sf s a 140 := by
    unfold qr_sh
    rw [us_o (by omega) (by omega)]
    simp (disch := omega) only [pk_us, pk_un, qz_ue]
  refine ⟨?_, ?_, ?_, ?_, ?_, ?_, ?_⟩
  · unfold qr_sh
    refine us_sl (N := N) (qq_sl hs (fun i h => ?_)) (qq_ct hc ?_ ?_ ?_) hN ha2
    all_goals simp (disch := omega) only [pk_us, pk_un, qz_ue]
    all_goals exact sf_o (by omega) (by omega)
  · exact qq_pr hp (sh_o (by omega) (by omega) (by omega)) (fun i h1 h2 => sh_o (by omega) (by omega) (by omega))
  · obtain ⟨w1, w2, w3, w4, w5, w6, w7, w8⟩ := hw
    obtain ⟨f1, f2⟩ := ((hs.2.2 a ha2).2.2.2.2.1 (by omega)).2.2.2.2
    unfold qi_sw
    rw [sh_o (i := 0) (by omega) (by omega) (by omega), e139, e140, e141, e143, qz_nI (by omega)]
    have e : ∀ x : Int32, x.toInt = -1 → (a : Int) = -1 → False := fun x _ h => by omega
    unfold qr_sf
    by_cases c : s 139 = -1 ∨ s 139 = nI a
    · rw [if_pos c]
      exact ⟨by omega, by omega, w3, w4, w5, w6, w7, fun h => by omega⟩
    · rw [if_neg c]
      simp (disch := omega) only [pk_us, pk_un, qz_ue]
      have c1 : ¬ (s 139).toInt = -1 := fun t => c (Or.inl (qz_m1.mpr t))
      by_cases c2 : s (1 + 7 * a + 2) ≤ 0
      · rw [if_pos c2, qk_tm1]
        rw [qz_l0] at c2
        exact ⟨by omega, by omega, by omega, by omega, by omega, by omega, by omega, fun h => by omega⟩
      · rw [if_neg c2]
        rw [qz_l0] at c2
        exact ⟨by omega, by omega, by omega, by omega, by omega, by omega, by omega, fun h => by omega⟩
  · unfold qi_lo qi_lx
    obtain ⟨l1, l2, l3, l4, l5, l6⟩ := hl
    rw [sh_o (i := 0) (by omega) (by omega) (by omega), e142, sh_o (i := 144) (by omega) (by omega) (by omega), sh_o (i := 145) (by omega) (by omega) (by omega), qk_tm1]
    refine ⟨by omega, by omega, l3, l4, l5, fun k hk h => ?_⟩
    rw [e3 k hk]
    exact l6 k hk (Or.inr (by omega))
  · obtain ⟨q1, q2, q3, q4⟩ := hq
    unfold qi_qu
    rw [sh_o (i := 0) (by omega) (by omega) (by omega), e142, sh_o (i := 144) (by omega) (by omega) (by omega), sh_o (i := 146) (by omega) (by omega) (by omega)]
    refine ⟨q1, q2, fun k hk => ?_, fun j k hj hk => ?_⟩
    · obtain ⟨r1, r2, r3, r4, r5⟩ := q3 k hk
      have r6 := qn_int r1
      rw [sh_o (i := 147 + k) (by omega) (by omega) (by omega), e3 _ (by omega)]
      exact ⟨r1, r2, by rw [qz_m1]; omega, r4, r5⟩
    · rw [sh_o (i := 147 + k) (by omega) (by omega) (by omega), sh_o (i := 147 + j) (by omega) (by omega) (by omega)]
      exact q4 j k hj hk
  · exact qq_se he (fun i h1 h2 => sh_o (by omega) (by omega) (by omega))
  · unfold qr_sh
    refine us_ct (qq_ct hc ?_ ?_ ?_) hN ha2
    all_goals simp (disch := omega) only [pk_us, pk_un, qz_ue]
    all_goals exact sf_o (by omega) (by omega)
end QRL
