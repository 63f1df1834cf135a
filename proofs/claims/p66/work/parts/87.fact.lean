/-! what the calls do to the row of numbers, as far as the law of p66 looks at it -/
section QKH
variable {σ σ1 σ2 σ' : qa_T} {s t : qs} {N M : Nat} {X : Nat → Int32} {a x v : Int32}
theorem st_w (hs : qi_sl s) {b i : Nat} (hb : b < 16) (hi : i = 0 ∨ ∃ k w, k < 16 ∧ i = 1 + 7 * k + w ∧ (w < 3 ∨ w = 6)) : qr_st s b i = s i := by
  have g := mr_o (m := (s (1 + 7 * b)).toInt) (i := i) hs (by
    rcases hi with h | ⟨k, w, _, h, h2⟩
    · exact Or.inl (by omega)
    · exact Or.inr (Or.inr ⟨k, w, h, h2⟩)) (by rcases hi with h | ⟨k, w, h1, h, h2⟩ <;> omega)
  unfold qr_st
  rw [s0_o (by rcases hi with h | ⟨k, w, h1, h, h2⟩ <;> omega) (by rcases hi with h | ⟨k, w, h1, h, h2⟩ <;> omega) (by rcases hi with h | ⟨k, w, h1, h, h2⟩ <;> omega) (by rcases hi with h | ⟨k, w, h1, h, h2⟩ <;> omega) (by rcases hi with h | ⟨k, w, h1, h, h2⟩ <;> omega), g]
theorem bg_w (h : qi_A N s) {i : Nat} (hi : i = 0 ∨ ∃ k w, k < 16 ∧ i = 1 + 7 * k + w ∧ (w < 3 ∨ w = 6)) : qr_bg s i = s i := by
  obtain ⟨hs, hp, hw, hl, hq, he, hc⟩ := h
  have hn := (qi_n hs).2
  have hi0 := qn_int hs.1
  unfold qr_bg
  split
  · rfl
  · split
    · have h1 := hl.2.1
      exact st_w hs (by unfold qn; omega) hi
    · split
      · unfold qr_b3
        cases e : qr_gd s with
        | none => rfl
        | some a =>
          have := (gd_s hp hs e).1
          dsimp only
          split
          · exact st_w hs (by omega) hi
          · rfl
      · next c =>
        have hq1 := qn_int hq.1
        have hq2 := hq.2.2.1 0 (by omega)
        rw [Nat.add_zero] at hq2
        have hq3 := qn_int hq2.1
        rw [st_w (fg_A (N := N) (a := qn (s 147)) ⟨hs, hp, hw, hl, hq, he, hc⟩).1 (by omega) hi, fg_o (qi_qdq hq) _ (by rcases hi with h | ⟨k, w, h1, h, h2⟩ <;> omega)]
/-- going on -/
theorem go_1 (h : qi_A N s) (h0 : 0 < (s 113).toInt) (c : qr_ld s (qr_ga s) = true) : (qr_go s).1 = true ∧ (qr_go s).2 138 = nI (qr_ix s 1) ∧ (qr_go s).2 169 = s 169 + 1 ∧ (qr_go s).2 170 = s 170 ∧ (qr_go s).2 139 = nI (qr_ga s) ∧ (qr_go s).2 143 = 0 ∧ (qr_go s).2 142 = -1 ∧ (qr_go s).2 140 = (if s 139 = -1 ∨ s 139 = nI (qr_ga s) then s 140 else if s (1 + 7 * qr_ga s + 2) ≤ 0 then -1 else s 139) ∧ (qr_go s).2 141 = (if s 139 = -1 ∨ s 139 = nI (qr_ga s) then s 141 else s (1 + 7 * qr_ga s + 2)) := by
  obtain ⟨hs, hp, hw, hl, hq, he, hc⟩ := h
  have hn := (qi_n hs).2
  have ha := (ga_b hp h0 hs).1
  have eo : ∀ i, ¬ i = 138 → ¬ i = 169 → upd (qr_g0 s) 169 (s 169 + 1) i = s i := fun i h1 h2 => by rw [pk_un h2, g0_o h1]
  unfold qr_go
  rw [if_pos c]
  generalize qr_ga s = b at ha ⊢
  refine ⟨rfl, ?_, ?_, ?_, ?_, ?_, ?_, ?_, ?_⟩
  · dsimp only
    rw [sh_o (by omega) (by omega) (by omega), pk_un (by omega)]
    unfold qr_g0
    rw [pk_us]
  · dsimp only
    rw [sh_o (by omega) (by omega) (by omega), pk_us]
  · dsimp only
    rw [sh_o (by omega) (by omega) (by omega), eo _ (by omega) (by omega)]
  · dsimp only
    unfold qr_sh
    rw [us_o (by omega) (by omega)]
    simp (disch := omega) only [pk_us, pk_un, qz_ue]
  · dsimp only
    unfold qr_sh
    rw [us_o (by omega) (by omega)]
    simp (disch := omega) only [pk_us, pk_un, qz_ue]
  · dsimp only
    unfold qr_sh
    rw [us_o (by omega) (by omega)]
    simp (disch := omega) only [pk_us, pk_un, qz_ue]
  · dsimp only
    unfold qr_sh
    rw [us_o (by omega) (by omega), pk_un (by omega), pk_un (by omega), pk_un (by omega)]
    unfold qr_sf
    rw [eo 139 (by omega) (by omega), eo (1 + 7 * b + 2) (by omega) (by omega)]
    by_cases d : s 139 = -1 ∨ s 139 = nI b
    · rw [if_pos d, if_pos d, eo _ (by omega) (by omega)]
    · rw [if_neg d, if_neg d, pk_us]
  · dsimp only
    unfold qr_sh
    rw [us_o (by omega) (by omega), pk_un (by omega), pk_un (by omega), pk_un (by omega)]
    unfold qr_sf
    rw [eo 139 (by omega) (by omega), eo (1 + 7 * b + 2) (by omega) (by omega)]
    by_cases d : s 139 = -1 ∨ s 139 = nI b
    · rw [if_pos d, if_pos d, eo _ (by omega) (by omega)]
    · rw [if_neg d, if_neg d, pk_un (by omega), pk_us]
theorem go_q (h : qi_A N s) : qi_qd (upd (upd (qr_g0 s) 170 (s 170 + 1)) 142 (nI (qr_ga s))) := by
  have hd := qi_qdq h.2.2.2.2.1
  have h2 := hd.2.1
  have eo : ∀ i, ¬ i = 138 → ¬ i = 170 → ¬ i = 142 → upd (upd (qr_g0 s) 170 (s 170 + 1)) 142 (nI (qr_ga s)) i = s i := fun i h1 h2 h3 => by rw [pk_un h3, pk_un h2, g0_o h1]
  unfold qi_qd
  rw [eo 146 (by omega) (by omega) (by omega)]
  refine ⟨hd.1, hd.2.1, fun j k hj hk => ?_⟩
  rw [eo (147 + j) (by omega) (by omega) (by omega), eo (147 + k) (by omega) (by omega) (by omega)]
  exact hd.2.2 j k hj hk
theorem go_0 (h : qi_A N s) (c : ¬ qr_ld s (qr_ga s) = true) : (qr_go s).1 = false ∧ (qr_go s).2 138 = nI (qr_ix s 1) ∧ (qr_go s).2 169 = s 169 ∧ (qr_go s).2 170 = s 170 + 1 ∧ (qr_go s).2 139 = s 139 ∧ (qr_go s).2 142 = nI (qr_ga s) := by
  have hqd := go_q h
  have eo : ∀ i, ¬ i = 138 → ¬ i = 170 → ¬ i = 142 → upd (upd (qr_g0 s) 170 (s 170 + 1)) 142 (nI (qr_ga s)) i = s i := fun i h1 h2 h3 => by rw [pk_un h3, pk_un h2, g0_o h1]
  unfold qr_go
  rw [if_neg c]
  refine ⟨rfl, ?_, ?_, ?_, ?_, ?_⟩
  · dsimp only
    rw [fg_o hqd _ (by omega), pk_un (by omega), pk_un (by omega)]
    unfold qr_g0
    rw [pk_us]
  · dsimp only
    rw [fg_o hqd _ (by omega), eo _ (by omega) (by omega) (by omega)]
  · dsimp only
    rw [fg_o hqd _ (by omega), pk_un (by omega), pk_us]
  · dsimp only
    rw [fg_o hqd _ (by omega), eo _ (by omega) (by omega) (by omega)]
  · dsimp only
    rw [fg_o hqd _ (by omega), pk_us]
/-- what neither going on nor a tick touches, but itself -/
theorem go_k (h : qi_A N s) (h0 : 0 < (s 113).toInt) {i : Nat} (hi : 163 ≤ i ∧ ¬ i = 169 ∧ ¬ i = 170 ∧ ¬ i = 175) : (qr_go s).2 i = s i := by
  obtain ⟨hs, hp, _⟩ := h
  have hn := (qi_n hs).2
  have ha := (ga_b hp h0 hs).1
  unfold qr_go
  split
  · dsimp only
    rw [sh_o (by omega) (by omega) (by omega), pk_un (by omega), g0_o (by omega)]
  · dsimp only
    rw [fg_o (go_q ⟨hs, hp, by assumption⟩) _ (by omega), pk_un (by omega), pk_un (by omega), g0_o (by omega)]
theorem t3_k (h : qi_A N s) {i : Nat} (hi : 163 ≤ i ∧ ¬ i = 169 ∧ ¬ i = 170 ∧ ¬ i = 175) : (qr_t3 s).2 i = s i := by
  unfold qr_t3
  split
  · next c =>
    refine go_k h ?_ hi
    have := c.2.2.2.2
    rw [qz_l0] at this
    omega
  · rfl
theorem tc_t (h : qi_I N s) (hN : N + 4 < 2147483647) : (qr_tc s).2 168 = s 168 + 1 ∧ (qr_tc s).2 174 = s 174 + (if s 142 = -1 then 0 else 1) := by
  have hs := h.1.1
  have hn := (qi_n hs).2
  have a1 := t1_I h
  have a2 := t2_I a1 (by omega)
  have a3 := t3_I a2 (by omega)
  have e : ∀ i, i = 168 ∨ i = 174 → (qr_tc s).2 i = qr_t1 s i := fun i hi => by
    unfold qr_tc
    dsimp only
    rw [bg_o a3.1 (by omega), t3_k a2.1 (by omega), t2_o a1.1 (by omega)]
  rw [e 168 (by omega), e 174 (by omega)]
  unfold qr_t1
  rw [fd_o (by omega) (by omega), fd_o (by omega) (by omega), em_o _ (by omega) _ hn, em_o _ (by omega) _ hn]
  unfold qr_t0
  constructor
  · simp (disch := omega) only [pk_us, pk_un, qz_ue]
  · simp (disch := omega) only [pk_us, pk_un, qz_ue]
theorem tc_le (s : qs) : (qr_tc s).1 ≤ 2 := by
  unfold qr_tc
  dsimp only
  cases (qr_t2 (qr_t1 s)).1 <;> cases (qr_t3 (qr_t2 (qr_t1 s)).2).1 <;> decide
theorem ti_le : ∀ (m : Nat) (s : qs), (qr_ti m s).1 ≤ 2 * m := by
  intro m
  induction m with
  | zero => intro s; exact Nat.le_refl _
  | succ m ih =>
    intro s
    rw [ti_s]
    have h1 := ih (qr_tc s).2
    have h2 := tc_le s
    dsimp only
    omega
/-- ticks, as time and waiting tell them -/
theorem ti_t : ∀ (m M N : Nat) (s : qs), qi_I M s → qv N s → M + 4 * m + 8 < 2147483647 → N + m < 2147483647 → (qr_ti m s).2 168 = s 168 + nI m ∧ (s 174).toInt ≤ ((qr_ti m s).2 174).toInt ∧ ((qr_ti m s).2 174).toInt ≤ (s 174).toInt + m := by
  intro m
  induction m with
  | zero =>
    intro M N s _ _ _ _
    rw [ti_0]
    dsimp only
    refine ⟨?_, Int.le_refl _, by omega⟩
    rw [nI_0, Int32.add_zero]
  | succ m ih =>
    intro M N s hI hv hM hN
    rw [ti_s]
    obtain ⟨e1, e2⟩ := tc_t hI (by omega)
    have hv1 := v_tc hI hv (by omega) (by omega)
    obtain ⟨g1, g2, g3⟩ := ih (M + 4) (N + 1) _ (tc_I hI (by omega)).1 hv1 (by omega) (by omega)
    have h8 := hv.2.2.2.2.2
    have e3 : ((qr_tc s).2 174).toInt = (s 174).toInt + (if s 142 = -1 then 0 else 1) := by
      rw [e2]
      split
      · rw [Int32.add_zero]; omega
      · rw [qz_p1 (by unfold qv_8 at h8; omega)]
    dsimp only
    refine ⟨?_, ?_, ?_⟩
    · rw [g1, e1, Int32.add_assoc, show (1 : Int32) = nI 1 from rfl, nI_add, Nat.add_comm 1 m]
    · split at e3 <;> omega
    · split at e3 <;> omega
/-- the wait, tick by tick -/
theorem tc_w (h : qi_I N s) (h2 : ¬ s 142 = -1) (h4 : ¬ s 144 = -1) (hN : N + 4 < 2147483647) (hw : ¬ qr_wn s = 1) : (qr_tc s).2 142 = s 142 := by
  have hs := h.1.1
  have a1 := t1_I h
  have a2 := t2_I a1 (by omega)
  have a3 := t3_I a2 (by omega)
  have g := (wt_s h h2 h4 hN).2 hw
  have o2 : qr_t1 s 142 = s 142 := t1_o hs (by omega) (by omega)
  have o4 : qr_t1 s 144 = s 144 := t1_o hs (by omega) (by omega)
  have hn := (qi_n hs).2
  have hi0 := qn_int hs.1
  have hl := h.1.2.2.2.1
  have l4 := hl.2.2.2.1
  have q4 : qn (s 144) < 16 := by unfold qn; omega
  -- nothing is shown in it
  have z := g.1
  unfold qr_tc at z
  dsimp only at z
  have z2 : (qr_t2 (qr_t1 s)).1 = false := by
    cases e : (qr_t2 (qr_t1 s)).1
    · rfl
    · rw [e] at z
      have : qr_bt true = 1 := rfl
      omega
  have e2 : (qr_t2 (qr_t1 s)).2 142 = s 142 := by
    unfold qr_t2 at z2 ⊢
    rw [o4] at z2 ⊢
    rw [if_neg h4] at z2 ⊢
    split
    · dsimp only
      rw [pk_un (by omega), o2]
    · next c =>
      rw [if_neg c] at z2
      split
      · dsimp only
        rw [l0_o (by omega) (by omega) (by omega) (by omega) (by omega), o2]
      · next c3 =>
        rw [if_neg c3] at z2
        cases z2
  unfold qr_tc
  dsimp only
  rw [bg_o a3.1 (by omega)]
  unfold qr_t3
  rw [if_neg (fun t => h2 (e2.symm.trans t.1))]
  exact e2
theorem ti_w : ∀ (w N : Nat) (s : qs), qi_I N s → ¬ s 142 = -1 → ¬ s 144 = -1 → qr_wn s = w + 1 → N + 4 * w + 8 < 2147483647 → (qr_ti w s).1 = 0 ∧ (qr_ti w s).2 142 = s 142 ∧ ¬ (qr_ti w s).2 144 = -1 ∧ qr_wn (qr_ti w s).2 = 1 := by
  intro w
  induction w with
  | zero =>
    intro N s _ _ h4 hw _
    exact ⟨rfl, rfl, h4, by rw [ti_0]; exact hw⟩
  | succ w ih =>
    intro N s hI h2 h4 hw hN
    obtain ⟨g1, g2, g3, g4⟩ := (wt_s hI h2 h4 (by omega)).2 (by omega)
    have e := tc_w hI h2 h4 (by omega) (by omega)
    obtain ⟨i1, i2, i3, i4⟩ := ih (N + 4) _ (tc_I hI (by omega)).1 g2 g3 (by omega) (by omega)
    rw [ti_s]
    dsimp only
    exact ⟨by omega, by rw [i2, e], i3, i4⟩
/-- the tick in which it is shown -/
theorem tc_s (h : qi_I N s) (h2 : ¬ s 142 = -1) (h4 : ¬ s 144 = -1) (hN : N + 4 < 2147483647) (hw : qr_wn s = 1) : (qr_tc s).2 139 = s 142 ∧ (qr_tc s).2 143 = 0 := by
  have hA := h.1
  have hWb := W_b hA h2 h4
  have hs := hA.1
  have hn := (qi_n hs).2
  have hi0 := qn_int hs.1
  obtain ⟨l1, l2, l3, l4, l5, l6⟩ := hA.2.2.2.1
  have h2' := h2
  have h4' := h4
  rw [qz_m1] at h2' h4'
  have g1 := l5 (by omega)
  have g3 := qn_int (x := s 142) (by omega)
  have g4 := (hs.2.2 (qn (s 142)) (by omega)).2.2.2.2.1 (by omega)
  have g8 : s 144 = nI (qn (s 144)) := qn_of (by omega)
  have g6 := qn_int (x := s 144) (by omega)
  have a1 := t1_I h
  have a2 := t2_I a1 (by omega)
  have a3 := t3_I a2 (by omega)
  have o2 : qr_t1 s 142 = s 142 := t1_o hs (by omega) (by omega)
  have o4 : qr_t1 s 144 = s 144 := t1_o hs (by omega) (by omega)
  have o5 : qr_t1 s 145 = s 145 := t1_o hs (by omega) (by omega)
  have wn : (qr_wn s : Int) = (qr_W s).toInt := qn_int (by omega)
  have f1 : (s (1 + 7 * qn (s 142) + 1) + 1).toInt = (s (1 + 7 * qn (s 142) + 1)).toInt + 1 := qz_p1 (by omega)
  have f2 : ((s (1 + 7 * qn (s 142) + 1) + 1) / 2).toInt = ((s (1 + 7 * qn (s 142) + 1)).toInt + 1) / 2 := by
    rw [qz_div (by omega) (by decide), f1]
    rfl
  have e1 : (s 145 - 1).toInt = (s 145).toInt - 1 := qz_s1 (by omega)
  have c2 : s 144 = s 142 := by
    by_cases c : s 144 = s 142
    · exact c
    · exfalso
      unfold qr_W at wn
      rw [if_neg c] at wn
      split at wn
      · rw [qz_add (by omega) (by omega)] at wn; omega
      · rw [qz_add (by omega) (by omega), f2] at wn; omega
  have eW : qr_W s = s 145 := by
    unfold qr_W
    rw [if_pos c2]
  have c1 : s 145 - 1 = 0 := by
    rw [qz_00, e1]
    rw [eW] at wn
    omega
  have e2 : qr_t2 (qr_t1 s) = (true, qr_sh (qr_l0 (qr_t1 s) (qn (s 144))) (qn (s 144))) := by
    unfold qr_t2
    rw [o4, o5, o2, if_neg h4, if_neg (not_not_intro c1), if_neg (not_not_intro c2.symm)]
  have e143 : (qr_sh (qr_l0 (qr_t1 s) (qn (s 144))) (qn (s 144))) 143 = 0 := by
    unfold qr_sh
    rw [us_o (by omega) (by omega)]
    simp (disch := omega) only [pk_us, pk_un, qz_ue]
  have e139 : (qr_sh (qr_l0 (qr_t1 s) (qn (s 144))) (qn (s 144))) 139 = nI (qn (s 144)) := by
    unfold qr_sh
    rw [us_o (by omega) (by omega)]
    simp (disch := omega) only [pk_us, pk_un, qz_ue]
  have e3 : qr_t3 (qr_sh (qr_l0 (qr_t1 s) (qn (s 144))) (qn (s 144))) = (false, qr_sh (qr_l0 (qr_t1 s) (qn (s 144))) (qn (s 144))) := by
    unfold qr_t3
    rw [if_neg ?_]
    rintro ⟨_, _, t3, t4, _⟩
    rw [e143, qz_lt, qk_t0] at t4
    rw [qz_l0] at t3
    omega
  rw [e2] at a3
  dsimp only at a3
  rw [e3] at a3
  dsimp only at a3
  unfold qr_tc
  rw [e2]
  dsimp only
  rw [e3]
  dsimp only
  rw [bg_o a3.1 (by omega), bg_o a3.1 (by omega), e139, e143]
  exact ⟨by rw [← g8, c2], rfl⟩
/-- burning by itself: another may begin to load, none is burnt for it -/
theorem bu_bg {j : Nat} (hP : qi_P N s) (hj : j < qn (s 0)) (hc : qr_cb s j = true) : qr_bg (qr_bu s j) = qr_bu s j ∨ ∃ b, b < 16 ∧ qr_bg (qr_bu s j) = qr_s0 (qr_bu s j) b := by
  have hI := bu_I hP.1 hj hc
  obtain ⟨⟨hs, hp, hw, hl, hq, he, hct⟩, ht⟩ := hI
  have hn := (qi_n hs).2
  have hn0 := (qi_n hP.1.1.1).2
  have o : ∀ i, 113 ≤ i → ¬ i = 173 → qr_bu s j i = s i := fun i h1 h2 => bu_o (by omega) h2
  unfold qr_bg
  by_cases c1 : qr_bu s j 144 = -1
  · rw [if_neg (not_not_intro c1)]
    rw [o 144 (by omega) (by omega)] at c1
    obtain ⟨s1, s2, s3⟩ := hP.2.1 c1
    rw [o 142 (by omega) (by omega), o 146 (by omega) (by omega), if_neg (not_not_intro s1), if_pos s2]
    unfold qr_b3
    cases e : qr_gd (qr_bu s j) with
    | none => exact Or.inl rfl
    | some b =>
      obtain ⟨g1, g2, g3⟩ := gd_s hp hs e
      dsimp only
      by_cases f : qr_ft (qr_bu s j (1 + 7 * b)).toInt (qr_bu s j) = true
      · rw [if_pos f]
        refine Or.inr ⟨b, by omega, ?_⟩
        unfold qr_st qr_mr
        have em : (qr_rm (qr_bu s j (1 + 7 * b)).toInt (qr_ln (qr_bu s j)) (qr_bu s j)).2 = qr_bu s j := by
          cases qr_ln (qr_bu s j) with
          | nil => rfl
          | cons x l =>
            unfold qr_rm
            rw [if_pos f]
        rw [em]
      · rw [if_neg f]
        exact Or.inl rfl
  · rw [if_pos c1]
    exact Or.inl rfl
end QKH
