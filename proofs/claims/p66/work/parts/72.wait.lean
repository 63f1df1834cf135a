/-! how long a slide is waited for -/
section QWA
variable {ρ σ σ' : qa_T} {s t : qs} {y : Int32} {R S N : Nat}
def qr_W (s : qs) : Int32 := if s 144 = s 142 then s 145 else s 145 + (if s (1 + 7 * qn (s 142) + 4) ≤ s 145 then s (1 + 7 * qn (s 142) + 1) else (s (1 + 7 * qn (s 142) + 1) + 1) / 2)
def qr_wn (s : qs) : Nat := qn (qr_W s)
/-- what lies behind the row -/
theorem hi_st (h : qi_sl s) {a i : Nat} (ha : a < 16) (hi : 176 ≤ i) : qr_st s a i = s i := by
  unfold qr_st
  rw [s0_o (by omega) (by omega) (by omega) (by omega) (by omega), mr_o h (by omega) (by omega)]
theorem hi_bg (h : qi_A N s) {i : Nat} (hi : 176 ≤ i) : qr_bg s i = s i := by
  obtain ⟨hs, hp, hw, hl, hq, he, hc⟩ := h
  have hn := (qi_n hs).2
  have hi0 := qn_int hs.1
  unfold qr_bg
  split
  · rfl
  · split
    · have h1 := hl.2.1
      exact hi_st hs (by unfold qn; omega) hi
    · split
      · unfold qr_b3
        cases e : qr_gd s with
        | none => rfl
        | some a =>
          have := (gd_s hp hs e).1
          dsimp only
          split
          · exact hi_st hs (by omega) hi
          · rfl
      · next c =>
        have hq1 := qn_int hq.1
        have hq2 := hq.2.2.1 0 (by omega)
        rw [Nat.add_zero] at hq2
        have hq3 := qn_int hq2.1
        rw [hi_st (fg_A (N := N) (a := qn (s 147)) ⟨hs, hp, hw, hl, hq, he, hc⟩).1 (by omega) hi, fg_o (qi_qdq hq) _ (by omega)]
theorem hi_go (h : qi_A N s) {i : Nat} (h0 : 0 < (s 113).toInt) (hi : 176 ≤ i) : (qr_go s).2 i = s i := by
  obtain ⟨hs, hp, hw, hl, hq, he, hc⟩ := h
  have hn := (qi_n hs).2
  have ha := (ga_b hp h0 hs).1
  unfold qr_go
  split
  · dsimp only
    rw [sh_o (by omega) (by omega) (by omega), pk_un (by omega), g0_o (by omega)]
  · dsimp only
    have hd := qi_qdq hq
    have h2 := hd.2.1
    rw [fg_o ?_ _ (by omega), pk_un (by omega), pk_un (by omega), g0_o (by omega)]
    have eo : ∀ i, ¬ i = 138 → ¬ i = 170 → ¬ i = 142 → upd (upd (qr_g0 s) 170 (s 170 + 1)) 142 (nI (qr_ga s)) i = s i := fun i h1 h2 h3 => by rw [pk_un h3, pk_un h2, g0_o h1]
    unfold qi_qd
    rw [eo 146 (by omega) (by omega) (by omega)]
    refine ⟨hd.1, hd.2.1, fun j k hj hk => ?_⟩
    rw [eo (147 + j) (by omega) (by omega) (by omega), eo (147 + k) (by omega) (by omega) (by omega)]
    exact hd.2.2 j k hj hk
theorem t2_o (h : qi_A N s) {i : Nat} (hi : (112 < i ∧ i < 139) ∨ (145 < i ∧ ¬ i = 175)) : (qr_t2 s).2 i = s i := by
  have hs := h.1
  have hl := h.2.2.2.1
  have hn := (qi_n hs).2
  have hi0 := qn_int hs.1
  have h1 := hl.2.2.2.1
  have h2 : qn (s 144) < 16 := by unfold qn; omega
  unfold qr_t2
  split
  · rfl
  · split
    · exact pk_un (by omega)
    · split
      · exact l0_o (by omega) (by omega) (by omega) (by omega) (by omega)
      · dsimp only
        rw [sh_o (by omega) (by omega) (by omega), l0_o (by omega) (by omega) (by omega) (by omega) (by omega)]
theorem hi_tc (h : qi_A N s) (hN : N + 4 < 2147483647) {i : Nat} (hi : 176 ≤ i) : (qr_tc s).2 i = s i := by
  have h1 := t1_A h
  have h2 := t2_A h1 (by omega)
  have h3 := t3_A h2 (by omega)
  unfold qr_tc
  dsimp only
  rw [hi_bg h3 hi]
  have e1 : (qr_t2 (qr_t1 s)).2 i = s i := by rw [t2_o h1 (by omega), t1_o h.1 (by omega) (by omega)]
  rw [← e1]
  generalize (qr_t2 (qr_t1 s)).2 = u at h2 h3 ⊢
  unfold qr_t3
  split
  · next c =>
    refine hi_go h2 ?_ hi
    have := c.2.2.2.2
    rw [qz_l0] at this
    omega
  · rfl
theorem hi_ti : ∀ (m N : Nat) (s : qs), qi_I N s → N + 4 * m < 2147483647 → ∀ i, 176 ≤ i → (qr_ti m s).2 i = s i := by
  intro m
  induction m with
  | zero => intro N s _ _ i _; rfl
  | succ m ih =>
    intro N s h hN i hi
    rw [ti_s]
    dsimp only
    rw [ih (N + 4) _ (tc_I h (by omega)).1 (by omega) i hi, hi_tc h.1 (by omega) hi]
theorem W_b (h : qi_A N s) (h2 : ¬ s 142 = -1) (h4 : ¬ s 144 = -1) : 1 ≤ (qr_W s).toInt ∧ (qr_W s).toInt ≤ 40 := by
  obtain ⟨hs, hp, hw, hl, hq, he, hc⟩ := h
  have hn := (qi_n hs).2
  have hi0 := qn_int hs.1
  obtain ⟨l1, l2, l3, l4, l5, l6⟩ := hl
  rw [qz_m1] at h2 h4
  have g1 := l5 (by omega)
  have g3 := qn_int (x := s 142) (by omega)
  have g4 := (hs.2.2 (qn (s 142)) (by omega)).2.2.2.2.1 (by omega)
  unfold qr_W
  split
  · omega
  · have e1 : (s (1 + 7 * qn (s 142) + 1) + 1).toInt = (s (1 + 7 * qn (s 142) + 1)).toInt + 1 := qz_p1 (by omega)
    have e2 : ((s (1 + 7 * qn (s 142) + 1) + 1) / 2).toInt = ((s (1 + 7 * qn (s 142) + 1)).toInt + 1) / 2 := by
      rw [qz_div (by omega) (by decide), e1]
      rfl
    split
    · rw [qz_add (by omega) (by omega)]; omega
    · rw [qz_add (by omega) (by omega), e2]; omega
/-- a tick while a slide is waited for -/
theorem wt_s (h : qi_I N s) (h2 : ¬ s 142 = -1) (h4 : ¬ s 144 = -1) (hN : N + 4 < 2147483647) : (qr_wn s = 1 → (qr_tc s).1 = 1 ∧ (qr_tc s).2 142 = -1) ∧ (¬ qr_wn s = 1 → (qr_tc s).1 = 0 ∧ ¬ (qr_tc s).2 142 = -1 ∧ ¬ (qr_tc s).2 144 = -1 ∧ qr_wn (qr_tc s).2 = qr_wn s - 1) := by
  have hA := h.1
  have hWb := W_b hA h2 h4
  have hs := hA.1
  have hn := (qi_n hs).2
  have hi0 := qn_int hs.1
  obtain ⟨l1, l2, l3, l4, l5, l6⟩ := hA.2.2.2.1
  have h2' := h2
  have h4' := h4
  rw [qz_m1] at h2' h4'
  have g1 := l5 (by omega)
  have g3 := qn_int (x := s 142) (by omega)
  have g4 := (hs.2.2 (qn (s 142)) (by omega)).2.2.2.2.1 (by omega)
  have g5 := (hs.2.2 (qn (s 142)) (by omega))
  have g6 := qn_int (x := s 144) (by omega)
  have g7 : s 142 = nI (qn (s 142)) := qn_of (by omega)
  have g8 : s 144 = nI (qn (s 144)) := qn_of (by omega)
  have hA1 := t1_A hA
  have o2 : qr_t1 s 142 = s 142 := t1_o hs (by omega) (by omega)
  have o4 : qr_t1 s 144 = s 144 := t1_o hs (by omega) (by omega)
  have o5 : qr_t1 s 145 = s 145 := t1_o hs (by omega) (by omega)
  have ol : ∀ k, qr_t1 s (1 + 7 * k + 1) = s (1 + 7 * k + 1) ∨ ¬ k < 16 := fun k => by
    by_cases c : k < 16
    · exact Or.inl (t1_o hs (Or.inr (Or.inr ⟨k, 1, rfl, by omega, by omega⟩)) (by omega))
    · exact Or.inr c
  have ol2 := (ol (qn (s 142))).resolve_right (by omega)
  have oe := t1_4 (s := s) (j := qn (s 142)) (by omega)
  rw [if_pos (by omega)] at oe
  have i3 := l6 (qn (s 142)) (by omega) (Or.inl ⟨by omega, by omega⟩)
  have o3 : qr_t1 s (1 + 7 * qn (s 142) + 3) = s (1 + 7 * qn (s 142) + 3) := t1_o hs (Or.inr (Or.inr ⟨qn (s 142), 3, rfl, by omega, by omega⟩)) (by omega)
  have o0 : qr_t1 s 0 = s 0 := t1_o hs (by omega) (by omega)
  have e1 : (s 145 - 1).toInt = (s 145).toInt - 1 := qz_s1 (by omega)
  have f1 : (s (1 + 7 * qn (s 142) + 1) + 1).toInt = (s (1 + 7 * qn (s 142) + 1)).toInt + 1 := qz_p1 (by omega)
  have f2 : ((s (1 + 7 * qn (s 142) + 1) + 1) / 2).toInt = ((s (1 + 7 * qn (s 142) + 1)).toInt + 1) / 2 := by
    rw [qz_div (by omega) (by decide), f1]
    rfl
  have noPace : ∀ u : qs, ¬ u 142 = -1 → qr_t3 u = (false, u) := fun u hu => by
    unfold qr_t3
    rw [if_neg (fun t => hu t.1)]
  have wn : (qr_wn s : Int) = (qr_W s).toInt := qn_int (by omega)
  have eoe : (qr_t1 s (1 + 7 * qn (s 142) + 4)).toInt = if (s (1 + 7 * qn (s 142) + 4)).toInt ≤ 0 then 0 else (s (1 + 7 * qn (s 142) + 4)).toInt - 1 := by
    rw [oe]
    by_cases c : s (1 + 7 * qn (s 142) + 4) ≤ 0
    · rw [if_pos c]
      rw [qz_l0] at c
      rw [if_pos c]
      rfl
    · rw [if_neg c]
      have c2 : ¬ (s (1 + 7 * qn (s 142) + 4)).toInt ≤ 0 := fun t => c (qz_l0.mpr t)
      rw [if_neg c2, qz_s1 (by omega)]
  by_cases c1 : s 145 - 1 = 0
  · -- the loading ends
    have c1' : (s 145).toInt = 1 := by
      rw [qz_00, e1] at c1
      omega
    by_cases c2 : s 142 = s 144
    · have eW : qr_W s = s 145 := by
        unfold qr_W
        rw [if_pos c2.symm]
      have e2 : qr_t2 (qr_t1 s) = (true, qr_sh (qr_l0 (qr_t1 s) (qn (s 144))) (qn (s 144))) := by
        unfold qr_t2
        rw [o4, o5, o2, if_neg h4, if_neg (not_not_intro c1), if_neg (not_not_intro c2)]
      have e143 : (qr_sh (qr_l0 (qr_t1 s) (qn (s 144))) (qn (s 144))) 143 = 0 := by
        unfold qr_sh
        rw [us_o (by omega) (by omega)]
        simp (disch := omega) only [pk_us, pk_un, qz_ue]
      have e142 : (qr_sh (qr_l0 (qr_t1 s) (qn (s 144))) (qn (s 144))) 142 = -1 := by
        unfold qr_sh
        rw [us_o (by omega) (by omega)]
        simp (disch := omega) only [pk_us, pk_un, qz_ue]
      have e3 : qr_t3 (qr_sh (qr_l0 (qr_t1 s) (qn (s 144))) (qn (s 144))) = (false, qr_sh (qr_l0 (qr_t1 s) (qn (s 144))) (qn (s 144))) := by
        unfold qr_t3
        rw [if_neg ?_]
        rintro ⟨_, _, t3, t4, _⟩
        rw [e143, qz_lt, qk_t0] at t4
        rw [qz_l0] at t3
        omega
      have e4 : qr_tc s = (1, qr_bg (qr_sh (qr_l0 (qr_t1 s) (qn (s 144))) (qn (s 144)))) := by
        unfold qr_tc
        rw [e2]
        dsimp only
        rw [e3]
        rfl
      have hA3 : qi_A (N + 2) (qr_sh (qr_l0 (qr_t1 s) (qn (s 144))) (qn (s 144))) := by
        have := t2_A hA1 (by omega)
        rw [e2] at this
        exact this
      have e5 : qr_bg (qr_sh (qr_l0 (qr_t1 s) (qn (s 144))) (qn (s 144))) 142 = -1 := by
        have hb : ∀ u : qs, qi_A (N + 2) u → u 142 = -1 → qr_bg u 142 = -1 := by
          intro u hu hu2
          obtain ⟨us, up, uw, ul, uq, ue, uc⟩ := hu
          have un := (qi_n us).2
          have ui := qn_int us.1
          have st : ∀ (v : qs) (a : Nat), qi_sl v → a < 16 → v 142 = -1 → qr_st v a 142 = -1 := fun v a hv ha h => by
            unfold qr_st
            rw [s0_o (by omega) (by omega) (by omega) (by omega) (by omega), mr_o hv (by omega) (by omega)]
            exact h
          unfold qr_bg
          by_cases c1 : u 144 = -1
          · rw [if_neg (not_not_intro c1), if_neg (not_not_intro hu2)]
            by_cases c3 : qn (u 146) = 0
            · rw [if_pos c3]
              unfold qr_b3
              cases e : qr_gd u with
              | none => exact hu2
              | some a =>
                have := (gd_s up us e).1
                dsimp only
                split
                · exact st u a us (by omega) hu2
                · exact hu2
            · rw [if_neg c3]
              have hq1 := qn_int uq.1
              have hq2 := uq.2.2.1 0 (by omega)
              rw [Nat.add_zero] at hq2
              have hq3 := qn_int hq2.1
              exact st _ _ (fg_A (N := N + 2) (a := qn (u 147)) ⟨us, up, uw, ul, uq, ue, uc⟩).1 (by omega) (by rw [fg_o (qi_qdq uq) _ (by omega)]; exact hu2)
          · rw [if_pos c1]
            exact hu2
        exact hb _ hA3 e142
      have hw1 : qr_wn s = 1 := by rw [eW] at wn; omega
      refine ⟨fun _ => by rw [e4]; exact ⟨rfl, e5⟩, fun c => absurd hw1 c⟩
    · have e2 : qr_t2 (qr_t1 s) = (false, qr_l0 (qr_t1 s) (qn (s 144))) := by
        unfold qr_t2
        rw [o4, o5, o2, if_neg h4, if_neg (not_not_intro c1), if_pos c2]
      have lo : ∀ i, ¬ i = 145 → ¬ i = 144 → ¬ i = 1 + 7 * qn (s 144) + 3 → ¬ i = 175 → ¬ i = 1 + 7 * qn (s 144) + 6 → qr_l0 (qr_t1 s) (qn (s 144)) i = qr_t1 s i := fun i a b c d e => l0_o a b c d e
      have n142 : ¬ qn (s 142) = qn (s 144) := fun t => c2 (by rw [g7, g8, t])
      have e142 : qr_l0 (qr_t1 s) (qn (s 144)) 142 = s 142 := by rw [lo _ (by omega) (by omega) (by omega) (by omega) (by omega), o2]
      have e144 : qr_l0 (qr_t1 s) (qn (s 144)) 144 = -1 := by
        unfold qr_l0
        rw [us_o (by omega) (by omega)]
        simp (disch := omega) only [pk_us, pk_un, qz_ue]
      have e3 := noPace (qr_l0 (qr_t1 s) (qn (s 144))) (by rw [e142]; exact h2)
      have e4 : qr_tc s = (0, qr_bg (qr_l0 (qr_t1 s) (qn (s 144)))) := by
        unfold qr_tc
        rw [e2]
        dsimp only
        rw [e3]
        rfl
      have hA3 : qi_A (N + 2) (qr_l0 (qr_t1 s) (qn (s 144))) := by
        have := t2_A hA1 (by omega)
        rw [e2] at this
        exact this
      have e5 : qr_bg (qr_l0 (qr_t1 s) (qn (s 144))) = qr_st (qr_l0 (qr_t1 s) (qn (s 144))) (qn (s 142)) := by
        unfold qr_bg
        rw [e144, if_neg (not_not_intro rfl), e142, if_pos h2]
      have k3 : qr_l0 (qr_t1 s) (qn (s 144)) (1 + 7 * qn (s 142) + 3) = 0 := by rw [lo _ (by omega) (by omega) (by omega) (by omega) (by omega), o3, i3]
      have k4 : qr_l0 (qr_t1 s) (qn (s 144)) (1 + 7 * qn (s 142) + 4) = qr_t1 s (1 + 7 * qn (s 142) + 4) := lo _ (by omega) (by omega) (by omega) (by omega) (by omega)
      have k1 : qr_l0 (qr_t1 s) (qn (s 144)) (1 + 7 * qn (s 142) + 1) = s (1 + 7 * qn (s 142) + 1) := by rw [lo _ (by omega) (by omega) (by omega) (by omega) (by omega), ol2]
      generalize hu : qr_l0 (qr_t1 s) (qn (s 144)) = u at e4 e5 hA3 e142 e144 k3 k4 k1
      have eW : (qr_W s).toInt = 1 + (if (s (1 + 7 * qn (s 142) + 4)).toInt ≤ 1 then (s (1 + 7 * qn (s 142) + 1)).toInt else ((s (1 + 7 * qn (s 142) + 1)).toInt + 1) / 2) := by
        unfold qr_W
        rw [if_neg (fun t => c2 t.symm)]
        have c3 : (s (1 + 7 * qn (s 142) + 4) ≤ s 145) ↔ (s (1 + 7 * qn (s 142) + 4)).toInt ≤ 1 := by rw [qz_le, c1']
        by_cases c4 : s (1 + 7 * qn (s 142) + 4) ≤ s 145
        · rw [if_pos c4, if_pos (c3.mp c4), qz_add (by omega) (by omega), c1']
        · rw [if_neg c4, if_neg (fun t => c4 (c3.mpr t)), qz_add (by omega) (by omega), c1', f2]
      have m142 : qr_st u (qn (s 142)) 142 = s 142 := by
        unfold qr_st
        rw [s0_o (by omega) (by omega) (by omega) (by omega) (by omega), mr_o hA3.1 (by omega) (by omega), e142]
      have m144 : qr_st u (qn (s 142)) 144 = nI (qn (s 142)) := by
        unfold qr_st qr_s0
        simp (disch := omega) only [pk_us, pk_un, qz_ue]
      have m145 : qr_st u (qn (s 142)) 145 = qr_du (qr_mr (u (1 + 7 * qn (s 142))).toInt u).2 (qn (s 142)) := by
        unfold qr_st qr_s0
        simp (disch := omega) only [pk_us, pk_un, qz_ue]
      have d4 : (qr_mr (u (1 + 7 * qn (s 142))).toInt u).2 (1 + 7 * qn (s 142) + 4) = qr_t1 s (1 + 7 * qn (s 142) + 4) := by
        unfold qr_mr
        rw [rm_4 (by omega) _ u (qr_li_ln u) hA3 k3, k4]
      have d1 : (qr_mr (u (1 + 7 * qn (s 142))).toInt u).2 (1 + 7 * qn (s 142) + 1) = s (1 + 7 * qn (s 142) + 1) := by
        rw [mr_o hA3.1 (Or.inr (Or.inr ⟨qn (s 142), 1, rfl, by omega⟩)) (by omega), k1]
      have eW2 : (qr_W (qr_st u (qn (s 142)))).toInt = (if (s (1 + 7 * qn (s 142) + 4)).toInt ≤ 1 then (s (1 + 7 * qn (s 142) + 1)).toInt else ((s (1 + 7 * qn (s 142) + 1)).toInt + 1) / 2) := by
        unfold qr_W
        rw [m142, m144, if_pos g7.symm, m145]
        unfold qr_du
        rw [d4, d1]
        have c3 : (qr_t1 s (1 + 7 * qn (s 142) + 4) ≤ 0) ↔ (s (1 + 7 * qn (s 142) + 4)).toInt ≤ 1 := by
          rw [qz_l0, eoe]
          split <;> omega
        by_cases c4 : qr_t1 s (1 + 7 * qn (s 142) + 4) ≤ 0
        · rw [if_pos c4, if_pos (c3.mp c4)]
        · rw [if_neg c4, if_neg (fun t => c4 (c3.mpr t)), f2]
      have w2 : 0 ≤ (qr_W (qr_st u (qn (s 142)))).toInt := by
        rw [eW2]
        split <;> omega
      have wn2 : (qr_wn (qr_st u (qn (s 142))) : Int) = (qr_W (qr_st u (qn (s 142)))).toInt := qn_int w2
      have hw1 : ¬ qr_wn s = 1 := by
        split at eW <;> omega
      refine ⟨fun c => absurd c hw1, fun _ => ?_⟩
      rw [e4]
      dsimp only
      rw [e5, m142, m144]
      refine ⟨rfl, h2, qr_nI_m (by omega), ?_⟩
      omega
  · have e2 : qr_t2 (qr_t1 s) = (false, upd (qr_t1 s) 145 (s 145 - 1)) := by
      unfold qr_t2
      rw [o4, o5, if_neg h4, if_pos c1]
    have c1' : ¬ (s 145).toInt = 1 := fun t => c1 (by rw [qz_00, e1]; omega)
    have e142 : upd (qr_t1 s) 145 (s 145 - 1) 142 = s 142 := by rw [pk_un (by omega), o2]
    have e144 : upd (qr_t1 s) 145 (s 145 - 1) 144 = s 144 := by rw [pk_un (by omega), o4]
    have e3 := noPace (upd (qr_t1 s) 145 (s 145 - 1)) (by rw [e142]; exact h2)
    have e5 : qr_bg (upd (qr_t1 s) 145 (s 145 - 1)) = upd (qr_t1 s) 145 (s 145 - 1) := by
      unfold qr_bg
      rw [if_pos (by rw [e144]; exact h4)]
    have e4 : qr_tc s = (0, upd (qr_t1 s) 145 (s 145 - 1)) := by
      unfold qr_tc
      rw [e2]
      dsimp only
      rw [e3]
      dsimp only
      rw [e5]
      rfl
    have eW2 : (qr_W (upd (qr_t1 s) 145 (s 145 - 1))).toInt = (qr_W s).toInt - 1 := by
      unfold qr_W
      rw [e142, e144, pk_us, pk_un (by omega), pk_un (by omega), ol2]
      by_cases c2 : s 144 = s 142
      · rw [if_pos c2, if_pos c2, e1]
      · rw [if_neg c2, if_neg c2]
        have c3 : (qr_t1 s (1 + 7 * qn (s 142) + 4) ≤ s 145 - 1) ↔ (s (1 + 7 * qn (s 142) + 4) ≤ s 145) := by
          rw [qz_le, qz_le, eoe, e1]
          split <;> omega
        by_cases c4 : s (1 + 7 * qn (s 142) + 4) ≤ s 145
        · rw [if_pos c4, if_pos (c3.mpr c4), qz_add (by omega) (by omega), qz_add (by omega) (by omega), e1]; omega
        · rw [if_neg c4, if_neg (fun t => c4 (c3.mp t)), qz_add (by omega) (by omega), qz_add (by omega) (by omega), e1]; omega
    have hw1 : ¬ qr_wn s = 1 := fun t => by
      have : (qr_W s).toInt = 1 := by omega
      unfold qr_W at this
      split at this
      · omega
      · split at this
        · rw [qz_add (by omega) (by omega)] at this; omega
        · rw [qz_add (by omega) (by omega), f2] at this; omega
    refine ⟨fun c => absurd c hw1, fun _ => ?_⟩
    rw [e4]
    dsimp only
    rw [e142, e144]
    refine ⟨rfl, h2, h4, ?_⟩
    have wn2 : (qr_wn (upd (qr_t1 s) 145 (s 145 - 1)) : Int) = (qr_W (upd (qr_t1 s) 145 (s 145 - 1))).toInt := qn_int (by omega)
    omega
end QWA
