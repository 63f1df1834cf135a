/-! what always holds, kept by each step (4): what begins to load, a tick -/
section QRP
variable {s t : qs} {N : Nat}
theorem ta_q (e0 : t 0 = s 0) (e4 : t 144 = s 144) (e : ∀ k : Nat, k < qn (s 0) → t (1 + 7 * k + 3) = s (1 + 7 * k + 3) ∧ t (1 + 7 * k) = s (1 + 7 * k)) : qr_ta t = qr_ta s := by
  unfold qr_ta
  rw [e0]
  have h : ∀ k : Nat, k ≤ qn (s 0) → qr_tk t k = qr_tk s k := by
    intro k
    induction k with
    | zero => intro _; rfl
    | succ k ih =>
      intro hk
      unfold qr_tk
      rw [ih (by omega)]
      unfold qr_tf qr_ld
      rw [(e k (by omega)).1, (e k (by omega)).2, e4]
  exact h _ (Nat.le_refl _)
theorem fg_A {a : Nat} (h : qi_A N s) : qi_A N (qr_fg s a) := by
  obtain ⟨hs, hp, hw, hl, hq, he, hc⟩ := h
  have hd := qi_qdq hq
  have hn := (qi_n hs).2
  have fo : ∀ i, i < 146 ∨ 163 ≤ i → qr_fg s a i = s i := fun i hi => fg_o hd a hi
  obtain ⟨f1, f2⟩ := fg_q hd a
  refine ⟨qq_sl hs fun i hi => fo i (by omega), qq_pr hp (fo _ (by omega)) (fun i h1 h2 => fo _ (by omega)), qq_sw hw (fo _ (by omega)) (fo _ (by omega)) (fo _ (by omega)) (fo _ (by omega)) (fo _ (by omega)), qq_lx hl (fo _ (by omega)) (fo _ (by omega)) (fo _ (by omega)) (fo _ (by omega)) (fun k hk => fo _ (by omega)), ?_, qq_se he (fun i h1 h2 => fo _ (by omega)), qq_ct hc (fo _ (by omega)) (fo _ (by omega)) (fo _ (by omega))⟩
  unfold qi_qu
  refine ⟨f1.1, f1.2.1, fun k hk => ?_, f1.2.2⟩
  obtain ⟨g1, j, g2, g3⟩ := f2 k hk
  obtain ⟨r1, r2, r3, r4, r5⟩ := hq.2.2.1 j g2
  have r6 := qn_int r1
  have r7 := qn_int hs.1
  rw [fo 142 (by omega), fo 0 (by omega), fo 144 (by omega), g3, fo (1 + 7 * qn (s (147 + j)) + 3) (by omega)]
  exact ⟨r1, r2, r3, r4, r5⟩
theorem gf_s (h : qi_pr s) (h0 : 0 < (s 113).toInt) : ∀ m k a : Nat, qr_gf s m k = some a → (∃ j : Nat, k ≤ j ∧ j < k + m ∧ qr_sa s j = nI a) ∧ ¬ qr_ld s a = true := by
  intro m
  induction m with
  | zero => intro k a e; cases e
  | succ m ih =>
    intro k a e
    unfold qr_gf at e
    by_cases c : qr_ld s (qn (qr_sa s k)) = true
    · rw [if_pos c] at e
      obtain ⟨⟨j, h1, h2, h3⟩, h4⟩ := ih (k + 1) a e
      exact ⟨⟨j, by omega, by omega, h3⟩, h4⟩
    · rw [if_neg c] at e
      cases e
      exact ⟨⟨k, by omega, by omega, qn_of (qi_sa h h0 k).1⟩, c⟩
theorem gd_s (h : qi_pr s) (hs : qi_sl s) {a : Nat} (e : qr_gd s = some a) : a < qn (s 0) ∧ s (1 + 7 * a + 3) = 0 ∧ 0 < (s 113).toInt := by
  unfold qr_gd at e
  have h1 := qn_int h.1
  by_cases c : qn (s 113) = 0
  · rw [if_pos c] at e; cases e
  · rw [if_neg c] at e
    have h0 : 0 < (s 113).toInt := by omega
    obtain ⟨⟨j, h2, h3, h4⟩, h5⟩ := gf_s h h0 _ _ _ e
    have h6 := qi_sa h h0 j
    have h7 := qn_int h6.1
    have h8 := qn_int hs.1
    have h9 := (qi_n hs).2
    have h10 : a = qn (qr_sa s j) := by
      rw [h4, qn_nI]
      have : a < 2147483648 ∨ 2147483648 ≤ a := by omega
      rcases this with h | h
      · exact h
      · exfalso
        unfold qr_gd at *
        have h11 : ∀ m k a : Nat, qr_gf s m k = some a → a < 2147483648 := by
          intro m
          induction m with
          | zero => intro k a e; cases e
          | succ m ih =>
            intro k a e
            unfold qr_gf at e
            split at e
            · exact ih _ _ e
            · cases e; exact qn_lt
        have := h11 _ _ _ e
        omega
    exact ⟨by omega, ld_0 hs (by omega) h5, h0⟩
theorem bg_I (h : qi_I N s) : qi_I N (qr_bg s) ∧ qi_st (qr_bg s) := by
  have h' := h
  obtain ⟨hA, ht⟩ := h
  have hA' := hA
  obtain ⟨hs, hp, hw, hl, hq, he, hc⟩ := hA
  have hn := (qi_n hs).2
  have hi := qn_int hs.1
  have st : ∀ t : qs, ∀ a : Nat, a < 16 → qi_I N t ∧ t 144 = nI a → qi_I N t ∧ qi_st t := by
    intro t a ha h
    refine ⟨h.1, fun e => ?_⟩
    rw [h.2] at e
    exact absurd e (qr_nI_m ha)
  unfold qr_bg
  by_cases c1 : s 144 = -1
  · rw [if_neg (fun t => t c1)]
    by_cases c2 : s 142 = -1
    · rw [if_neg (fun t => t c2)]
      by_cases c3 : qn (s 146) = 0
      · rw [if_pos c3]
        have hb : qr_b3 s = s → qi_I N s ∧ qi_st s := fun e => ⟨h', fun _ => ⟨c2, c3, e⟩⟩
        cases e : qr_gd s with
        | none =>
          have : qr_b3 s = s := by
            unfold qr_b3
            rw [e]
          rw [this]
          exact hb this
        | some a =>
          obtain ⟨g1, g2, g3⟩ := gd_s hp hs e
          by_cases c4 : qr_ft (s (1 + 7 * a)).toInt s = true
          · have : qr_b3 s = qr_st s a := by
              unfold qr_b3
              rw [e]
              dsimp only
              rw [if_pos c4]
            rw [this]
            refine st _ a (by omega) (st_A hA' g1 c1 g2 (fun k hk => ?_))
            have := qn_int hq.1
            omega
          · have : qr_b3 s = s := by
              unfold qr_b3
              rw [e]
              dsimp only
              rw [if_neg c4]
            rw [this]
            exact hb this
      · rw [if_neg c3]
        have hq1 := qn_int hq.1
        have hq2 := hq.2.2.1 0 (by omega)
        rw [Nat.add_zero] at hq2
        obtain ⟨r1, r2, r3, r4, r5⟩ := hq2
        have r6 := qn_int r1
        obtain ⟨f1, f2⟩ := fg_q (qi_qdq hq) (qn (s 147))
        have fo : ∀ i, i < 146 ∨ 163 ≤ i → qr_fg s (qn (s 147)) i = s i := fun i hi => fg_o (qi_qdq hq) _ hi
        refine st _ (qn (s 147)) (by omega) (st_A (fg_A hA') (by rw [fo 0 (by omega)]; omega) (by rw [fo 144 (by omega)]; exact c1) (by rw [fo _ (by omega)]; exact r5) (fun k hk => (f2 k hk).1))
    · rw [if_pos c2]
      obtain ⟨l1, l2, l3, l4, l5, l6⟩ := hl
      have g1 : 0 ≤ (s 142).toInt := by
        rw [qz_m1] at c2
        omega
      have g2 := qn_int g1
      refine st _ (qn (s 142)) (by omega) (st_A hA' (by omega) c1 (l6 _ (by omega) (Or.inl ⟨by omega, by omega⟩)) (fun k hk => ?_))
      rw [← qn_of g1]
      exact (hq.2.2.1 k hk).2.2.1
  · rw [if_pos c1]
    exact ⟨h', fun e => absurd e c1⟩
theorem t1_ta (h : qi_sl s) : qr_ta (qr_t1 s) = qr_ta s := by
  have hn := (qi_n h).2
  exact ta_q (t1_o h (by omega) (by omega)) (t1_o h (by omega) (by omega)) (fun k hk => ⟨t1_o h (Or.inr (Or.inr ⟨k, 3, rfl, by omega, by omega⟩)) (by omega), t1_o h (Or.inr (Or.inr ⟨k, 0, rfl, by omega, by omega⟩)) (by omega)⟩)
theorem sh_ta (h : qi_sl s) {a : Nat} (ha : a < 16) : qr_ta (qr_sh s a) = qr_ta s := by
  have hn := (qi_n h).2
  exact ta_q (sh_o (by omega) (by omega) (by omega)) (sh_o (by omega) (by omega) (by omega)) (fun k hk => ⟨sh_o (by omega) (by omega) (by omega), sh_o (by omega) (by omega) (by omega)⟩)
theorem l0_ta (h : qi_sl s) {a : Nat} (ha : s 144 = nI a) (ha2 : a < qn (s 0)) : qr_ta (qr_l0 s a) = qr_ta s := by
  have hn := (qi_n h).2
  have e144 : qr_l0 s a 144 = -1 := by
    unfold qr_l0
    rw [us_o (by omega) (by omega)]
    simp (disch := omega) only [pk_us, pk_un, qz_ue]
  unfold qr_ta
  rw [l0_o (i := 0) (by omega) (by omega) (by omega) (by omega) (by omega)]
  have h : ∀ k : Nat, k ≤ qn (s 0) → qr_tk (qr_l0 s a) k = qr_tk s k := by
    intro k
    induction k with
    | zero => intro _; rfl
    | succ k ih =>
      intro hk
      unfold qr_tk
      rw [ih (by omega)]
      congr 1
      unfold qr_tf qr_ld
      rw [e144, ha, l0_o (i := 1 + 7 * k) (by omega) (by omega) (by omega) (by omega) (by omega)]
      by_cases e : k = a
      · subst e
        have e33 : qr_l0 s k (1 + 7 * k + 3) = 1 := by
          unfold qr_l0
          rw [us_o (by omega) (by omega), pk_us]
        rw [e33, if_pos (Or.inl (decide_eq_true rfl)), if_pos (Or.inr rfl)]
      · rw [l0_o (i := 1 + 7 * k + 3) (by omega) (by omega) (by omega) (by omega) (by omega)]
        have e1 : ¬ (-1 : Int32) = nI k := fun t => qr_nI_m (by omega) t.symm
        have e2 : ¬ nI a = nI k := fun t => e ((nI_eq (by omega) (by omega)).mp t).symm
        simp only [e1, e2]
  exact h _ (Nat.le_refl _)
theorem t2_ta (h : qi_A N s) : qr_ta (qr_t2 s).2 = qr_ta s := by
  obtain ⟨hs, hp, hw, hl, hq, he, hc⟩ := h
  have hn := (qi_n hs).2
  have hi := qn_int hs.1
  unfold qr_t2
  by_cases c1 : s 144 = -1
  · rw [if_pos c1]
  · rw [if_neg c1]
    have g1 : 0 ≤ (s 144).toInt := by
      have := hl.2.2.1
      rw [qz_m1] at c1
      omega
    have g3 := qn_int g1
    have g5 : qn (s 144) < qn (s 0) := by have := hl.2.2.2.1; omega
    split
    · dsimp only
      refine ta_q ?_ ?_ (fun k hk => ⟨?_, ?_⟩)
      all_goals exact pk_un (by omega)
    · split
      · exact l0_ta hs (qn_of g1) g5
      · dsimp only
        rw [ta_q (s := qr_l0 s (qn (s 144))) (sh_o (by omega) (by omega) (by omega)) (sh_o (by omega) (by omega) (by omega)) (fun k hk => ?_), l0_ta hs (qn_of g1) g5]
        rw [l0_o (by omega) (by omega) (by omega) (by omega) (by omega)] at hk
        exact ⟨sh_o (by omega) (by omega) (by omega), sh_o (by omega) (by omega) (by omega)⟩
theorem go_ta (h : qi_A N s) (h0 : 0 < (s 113).toInt) : qr_ta (qr_go s).2 = qr_ta s := by
  obtain ⟨hs, hp, hw, hl, hq, he, hc⟩ := h
  obtain ⟨a1, a2⟩ := ga_b hp h0 hs
  have hn := (qi_n hs).2
  unfold qr_go
  split
  · dsimp only
    have eo : ∀ i, ¬ i = 138 → ¬ i = 169 → upd (qr_g0 s) 169 (s 169 + 1) i = s i := fun i h1 h2 => by rw [pk_un h2, g0_o h1]
    have so : ∀ i, (i < 113 ∧ ¬ i = 1 + 7 * qr_ga s + 6) ∨ i = 144 → qr_sh (upd (qr_g0 s) 169 (s 169 + 1)) (qr_ga s) i = s i := fun i h => by rw [sh_o (by omega) (by omega) (by omega), eo _ (by omega) (by omega)]
    exact ta_q (so _ (by omega)) (so _ (by omega)) (fun k hk => ⟨so _ (by omega), so _ (by omega)⟩)
  · dsimp only
    have hqd : qi_qd (upd (upd (qr_g0 s) 170 (s 170 + 1)) 142 (nI (qr_ga s))) := by
      have h1 := qi_qdq hq
      have h2 := h1.2.1
      have eo : ∀ i, ¬ i = 138 → ¬ i = 170 → ¬ i = 142 → upd (upd (qr_g0 s) 170 (s 170 + 1)) 142 (nI (qr_ga s)) i = s i := fun i h1 h2 h3 => by rw [pk_un h3, pk_un h2, g0_o h1]
      unfold qi_qd
      rw [eo 146 (by omega) (by omega) (by omega)]
      refine ⟨h1.1, h1.2.1, fun j k hj hk => ?_⟩
      rw [eo (147 + j) (by omega) (by omega) (by omega), eo (147 + k) (by omega) (by omega) (by omega)]
      exact h1.2.2 j k hj hk
    have fo : ∀ i, (i < 113 ∨ i = 144) → qr_fg (upd (upd (qr_g0 s) 170 (s 170 + 1)) 142 (nI (qr_ga s))) (qr_ga s) i = s i := fun i h => by rw [fg_o hqd _ (by omega), pk_un (by omega), pk_un (by omega), g0_o (by omega)]
    exact ta_q (fo _ (by omega)) (fo _ (by omega)) (fun k hk => ⟨fo _ (by omega), fo _ (by omega)⟩)
theorem t1_I (h : qi_I N s) : qi_I N (qr_t1 s) := by
  refine ⟨t1_A h.1, ?_⟩
  unfold qi_tm
  rw [t1_ta h.1.1, t1_o h.1.1 (by omega) (by omega)]
  exact h.2
theorem t2_163 : (qr_t2 s).2 163 = s 163 := by
  unfold qr_t2
  split
  · rfl
  · split
    · dsimp only
      rw [pk_un (by omega)]
    · split
      · dsimp only
        rw [l0_o (by omega) (by omega) (by omega) (by omega) (by omega)]
      · dsimp only
        rw [sh_o (by omega) (by omega) (by omega), l0_o (by omega) (by omega) (by omega) (by omega) (by omega)]
theorem go_163 (h : qi_A N s) : (qr_go s).2 163 = s 163 := by
  have hd := qi_qdq h.2.2.2.2.1
  unfold qr_go
  split
  · dsimp only
    rw [sh_o (by omega) (by omega) (by omega), pk_un (by omega), g0_o (by omega)]
  · dsimp only
    rw [fg_o ?_ _ (by omega), pk_un (by omega), pk_un (by omega), g0_o (by omega)]
    have h2 := hd.2.1
    have eo : ∀ i, ¬ i = 138 → ¬ i = 170 → ¬ i = 142 → upd (upd (qr_g0 s) 170 (s 170 + 1)) 142 (nI (qr_ga s)) i = s i := fun i h1 h2 h3 => by rw [pk_un h3, pk_un h2, g0_o h1]
    unfold qi_qd
    rw [eo 146 (by omega) (by omega) (by omega)]
    refine ⟨hd.1, hd.2.1, fun j k hj hk => ?_⟩
    rw [eo (147 + j) (by omega) (by omega) (by omega), eo (147 + k) (by omega) (by omega) (by omega)]
    exact hd.2.2 j k hj hk
theorem go_I (h : qi_I N s) (h0 : 0 < (s 113).toInt) (h4 : s 142 = -1) (hN : N + 2 < 2147483647) : qi_I (N + 2) (qr_go s).2 := by
  refine ⟨go_A h.1 h0 h4 hN, ?_⟩
  unfold qi_tm
  rw [go_ta h.1 h0, go_163 h.1]
  exact h.2
theorem t3_I (h : qi_I N s) (hN : N + 2 < 2147483647) : qi_I (N + 2) (qr_t3 s).2 := by
  unfold qr_t3
  split
  · next c =>
    refine go_I h ?_ c.1 hN
    have := c.2.2.2.2
    rw [qz_l0] at this
    omega
  · exact qq_I h (by omega)
theorem t2_I (h : qi_I N s) (hN : N + 2 < 2147483647) : qi_I (N + 2) (qr_t2 s).2 := by
  refine ⟨t2_A h.1 hN, ?_⟩
  unfold qi_tm
  rw [t2_ta h.1, t2_163]
  exact h.2
theorem tc_I (h : qi_I N s) (hN : N + 4 < 2147483647) : qi_I (N + 4) (qr_tc s).2 ∧ qi_st (qr_tc s).2 := by
  unfold qr_tc
  exact bg_I (t3_I (t2_I (t1_I h) (by omega)) (by omega))
theorem ti_I : ∀ (m N : Nat) (s : qs), qi_I N s → N + 4 * m < 2147483647 → qi_I (N + 4 * m) (qr_ti m s).2 ∧ (qi_st s → qi_st (qr_ti m s).2) := by
  intro m
  induction m with
  | zero => intro N s h _; exact ⟨h, id⟩
  | succ m ih =>
    intro N s h hN
    unfold qr_ti
    obtain ⟨h1, h2⟩ := tc_I h (by omega)
    obtain ⟨h3, h4⟩ := ih (N + 4) _ h1 (by omega)
    exact ⟨qq_I h3 (by omega), fun _ => h4 h2⟩
end QRP
