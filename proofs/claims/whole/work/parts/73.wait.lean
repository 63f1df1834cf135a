/-! what would be: waiting and misses, of the class and of the reference -/
section QWB
variable {ρ σ σ' : qa_T} {s t : qs} {y : Int32} {R S N : Nat}
theorem cl_wt_l : ∀ (w f x N : Nat) (σ : qa_T) (s : qs), qe_R 2 σ s → qi_I N s → ¬ s 142 = -1 → ¬ s 144 = -1 → qr_wn s = w → N + 4 * w < 2147483647 → x + w ≤ 1000 → w < f → ∃ σ', qa_fX9_waitOnTrial_13 f (nI x) σ = some (nI (x + w - 1), σ') ∧ qe_F 2 σ σ' := by
  intro w
  induction w with
  | zero =>
    intro f x N σ s h hI h2 h4 hw _ _ _
    have := W_b hI.1 h2 h4
    have := qn_int (x := qr_W s) (by omega)
    unfold qr_wn at hw
    omega
  | succ w ih =>
    intro f x N σ s h hI h2 h4 hw hN hx hf
    obtain ⟨f, rfl⟩ : ∃ j, f = j + 1 := ⟨f - 1, by omega⟩
    obtain ⟨b1, b2⟩ := wt_s hI h2 h4 (by omega)
    obtain ⟨τ, a1, a2, a3⟩ := cl_tc h hI.1 (by omega)
    have e1000 : ((Int16.ofInt 1000).toInt32) = nI 1000 := rfl
    rw [qa_fX9_waitOnTrial_13, e1000, if_neg (nI_ge (by omega) (by omega)), a1, Option.bind_some]
    dsimp only
    by_cases c : w = 0
    · subst c
      rw [(b1 hw).1, if_neg (by decide)]
      exact ⟨τ, rfl, a3⟩
    · obtain ⟨c1, c2, c3, c4⟩ := b2 (by omega)
      rw [c1, if_pos (by rw [nI_0]; exact Int32.le_refl _), qk_a1, nI_1]
      obtain ⟨σ', d1, d2⟩ := ih f (x + 1) (N + 4) τ _ a2 (tc_I hI (by omega)).1 c2 c3 (by omega) (by omega) (by omega) (by omega)
      refine ⟨σ', ?_, qe_Ft a3 d2⟩
      rw [d1, show x + 1 + w - 1 = x + (w + 1) - 1 by omega]
theorem cl_wt (h : qe_R 1 σ s) (hI : qi_I N s) (h2 : ¬ s 142 = -1) (h4 : ¬ s 144 = -1) (hN : N + 200 < 2147483647) : ∃ σ', qa_fX9_waitOnTrial σ = some (nI (qr_wn s), σ') ∧ qe_F 2 σ σ' := by
  have hb := W_b hI.1 h2 h4
  have hq := qn_int (x := qr_W s) (by omega)
  obtain ⟨τ, a1, a2, a3⟩ := cl_cp (R := 2) h hI.1.1 (by decide)
  have hq2 : (qr_wn s : Int) = (qr_W s).toInt := hq
  obtain ⟨σ', b1, b2⟩ := cl_wt_l (qr_wn s) qa_fu 1 N τ s a2 hI h2 h4 rfl (by omega) (by omega) (by unfold qa_fu; omega)
  refine ⟨σ', ?_, qe_Ft a3 b2⟩
  unfold qa_fX9_waitOnTrial
  rw [a1, Option.bind_some]
  rw [show 1 + qr_wn s - 1 = qr_wn s by omega] at b1
  exact b1
theorem cl_sw (h : qe_A R σ s) (hA : qi_A N s) (h2 : ¬ s 142 = -1) : qa_fX1_sumOfWait R σ = qr_W s := by
  obtain ⟨hs, hp, hw, hl, hq, he, hc⟩ := hA
  have hn := (qi_n hs).2
  have hi := qn_int hs.1
  obtain ⟨l1, l2, l3, l4, l5, l6⟩ := hl
  rw [qz_m1] at h2
  have g3 := qn_int (x := s 142) (by omega)
  have g7 : s 142 = nI (qn (s 142)) := qn_of (by omega)
  have ha : qn (s 142) < 16 := by omega
  unfold qa_fX1_sumOfWait qr_W
  rw [ra_144 h, ra_142 h, ra_145 h]
  by_cases c : s 144 = s 142
  · rw [if_neg (not_not_intro c), if_pos c]
  · rw [if_pos c, if_neg c]
    congr 1
    unfold qa_fX6_ticksToLoad qa_fX6_ticksToLoad_30
    have e : ∀ p, qa_fX9_at p 16 (s 142) σ = σ.1 p (qn (s 142)) := fun p => by
      conv => lhs; rw [g7]
      exact at_in ha (by omega)
    dsimp only
    rw [e, e, ra_e h ha, ra_l h ha, qk_a1, qk_a2]
/-- the reference's copies -/
theorem wi_qw {p : qa_P} {i : Nat} {v : Int32} (h1 : ¬ p = (10, 22)) (h2 : ¬ p = (10, 21)) : qa_wi (qw ρ s y) p i v = qw (qa_wi ρ p i v) s y := by
  refine Prod.ext (funext fun q => ?_) rfl
  by_cases c : q = p
  · subst c
    simp [qa_wi, qw, h1, h2]
  · by_cases c1 : q = (10, 22)
    · simp [qa_wi, qw, c, c1]
      exact fun t => absurd t.symm h1
    · by_cases c2 : q = (10, 21)
      · subst c2
        simp [qa_wi, qw, c, Ne.symm h2]
      · simp [qa_wi, qw, c, c1, c2]
theorem qw_o {p : qa_P} (h1 : ¬ p = (10, 22)) (h2 : ¬ p = (10, 21)) : (qw ρ s y).1 p = ρ.1 p := by
  unfold qw
  dsimp only
  rw [if_neg h1, if_neg h2]
theorem rf_ka_l : ∀ (f k : Nat) (τ : qa_T), qe_O (10, 26) ρ τ → (∀ i, i < k → τ.1 (10, 26) i = s i) → k ≤ 176 → 176 - k < f → ∃ ρ', qa_fX10_keepsAside_2 f (nI k) (qw τ s y) = some (qw ρ' s y) ∧ qe_O (10, 26) ρ ρ' ∧ ∀ i, i < 176 → ρ'.1 (10, 26) i = s i := by
  intro f
  induction f with
  | zero => intro k τ _ _ _ h; omega
  | succ f ih =>
    intro k τ hO h1 hk hf
    have e176 : ((Int16.ofInt 176).toInt32) = nI 176 := rfl
    rw [qa_fX10_keepsAside_2, e176]
    by_cases e : k = 176
    · subst e
      rw [if_pos (nI_le (Nat.le_refl _) (by omega))]
      exact ⟨τ, rfl, hO, h1⟩
    · rw [if_neg (nI_ge (by omega) (by omega)), qz_ifn (by omega) (by omega), qz_ifn (by omega) (by omega), nI_clamp (by omega), qw_s, wi_qw (by decide) (by decide)]
      dsimp only
      rw [qk_a1, nI_1]
      refine ih (k + 1) _ (qe_Ot hO qe_Ow) (fun i hi => ?_) (by omega) (by omega)
      by_cases c : i = k
      · subst c
        rw [wi_eq]
      · rw [wi_ni c]
        exact h1 i (by omega)
theorem rf_ka : ∃ ρ', qa_fX10_keepsAside (qw ρ s y) = some (qw ρ' s y) ∧ qe_O (10, 26) ρ ρ' ∧ ∀ i, i < 176 → ρ'.1 (10, 26) i = s i := by
  obtain ⟨ρ', a1, a2, a3⟩ := rf_ka_l (ρ := ρ) (s := s) (y := y) qa_fu 0 ρ qe_Or (fun i hi => by omega) (by omega) (by unfold qa_fu; omega)
  exact ⟨ρ', a1, a2, a3⟩
def qr_cb2 (f s : qs) (k : Nat) : qs := fun i => if i < k then f i else s i
theorem cb2_u {f s : qs} {k : Nat} : upd (qr_cb2 f s k) k (f k) = qr_cb2 f s (k + 1) := by
  funext i
  unfold upd qr_cb2
  by_cases c : i = k
  · subst c
    rw [if_pos rfl, if_pos (by omega)]
  · rw [if_neg c]
    by_cases c2 : i < k
    · rw [if_pos c2, if_pos (by omega)]
    · rw [if_neg c2, if_neg (by omega)]
theorem rf_pb_l : ∀ (f k : Nat), k ≤ 176 → 176 - k < f → qa_fX10_putsBack_2 f (nI k) (qw ρ (qr_cb2 (ρ.1 (10, 26)) s k) y) = some (qw ρ (qr_cb2 (ρ.1 (10, 26)) s 176) y) := by
  intro f
  induction f with
  | zero => intro k _ h; omega
  | succ f ih =>
    intro k hk hf
    have e176 : ((Int16.ofInt 176).toInt32) = nI 176 := rfl
    rw [qa_fX10_putsBack_2, e176]
    by_cases e : k = 176
    · subst e
      rw [if_pos (nI_le (Nat.le_refl _) (by omega))]
    · rw [if_neg (nI_ge (by omega) (by omega)), qz_ifn (by omega) (by omega), qz_ifn (by omega) (by omega), nI_clamp (by omega), qw_wi, qw_o (by decide) (by decide), cb2_u]
      dsimp only
      rw [qk_a1, nI_1]
      exact ih (k + 1) (by omega) (by omega)
theorem cb2_0 {f s : qs} : qr_cb2 f s 0 = s := by
  funext i
  unfold qr_cb2
  rw [if_neg (by omega)]
theorem cb2_e {f s t : qs} (h1 : ∀ i, i < 176 → f i = t i) (h2 : ∀ i, 176 ≤ i → s i = t i) : qr_cb2 f s 176 = t := by
  funext i
  unfold qr_cb2
  by_cases c : i < 176
  · rw [if_pos c, h1 i c]
  · rw [if_neg c, h2 i (by omega)]
theorem rf_pb (h1 : ∀ i, i < 176 → ρ.1 (10, 26) i = t i) (h2 : ∀ i, 176 ≤ i → s i = t i) : qa_fX10_putsBack (qw ρ s y) = some (qw ρ t y) := by
  have := rf_pb_l (ρ := ρ) (s := s) (y := y) qa_fu 0 (by omega) (by unfold qa_fu; omega)
  rw [cb2_0, cb2_e h1 h2] at this
  exact this
theorem rf_u2_l : ∀ (f k : Nat) (τ : qa_T), qe_O (10, 27) ρ τ → (∀ i, i < k → τ.1 (10, 27) i = s i) → k ≤ 176 → 176 - k < f → ∃ ρ', qa_fX10_untilShown_2 f (nI k) (qw τ s y) = qa_fX10_untilShown_29 qa_fu 0 (qw ρ' s y) ∧ qe_O (10, 27) ρ ρ' ∧ ∀ i, i < 176 → ρ'.1 (10, 27) i = s i := by
  intro f
  induction f with
  | zero => intro k τ _ _ _ h; omega
  | succ f ih =>
    intro k τ hO h1 hk hf
    have e176 : ((Int16.ofInt 176).toInt32) = nI 176 := rfl
    rw [qa_fX10_untilShown_2, e176]
    by_cases e : k = 176
    · subst e
      rw [if_pos (nI_le (Nat.le_refl _) (by omega)), qk_a0]
      exact ⟨τ, rfl, hO, h1⟩
    · rw [if_neg (nI_ge (by omega) (by omega)), qz_ifn (by omega) (by omega), qz_ifn (by omega) (by omega), nI_clamp (by omega), qw_s, wi_qw (by decide) (by decide)]
      dsimp only
      rw [qk_a1, nI_1]
      refine ih (k + 1) _ (qe_Ot hO qe_Ow) (fun i hi => ?_) (by omega) (by omega)
      by_cases c : i = k
      · subst c
        rw [wi_eq]
      · rw [wi_ni c]
        exact h1 i (by omega)
theorem rf_u5_l {x : Int32} : ∀ (f k : Nat), k ≤ 176 → 176 - k < f → qa_fX10_untilShown_53 f x (nI k) (qw ρ (qr_cb2 (ρ.1 (10, 27)) s k) y) = some (x, qw ρ (qr_cb2 (ρ.1 (10, 27)) s 176) y) := by
  intro f
  induction f with
  | zero => intro k _ h; omega
  | succ f ih =>
    intro k hk hf
    have e176 : ((Int16.ofInt 176).toInt32) = nI 176 := rfl
    rw [qa_fX10_untilShown_53, e176]
    by_cases e : k = 176
    · subst e
      rw [if_pos (nI_le (Nat.le_refl _) (by omega))]
    · rw [if_neg (nI_ge (by omega) (by omega)), qz_ifn (by omega) (by omega), qz_ifn (by omega) (by omega), nI_clamp (by omega), qw_wi, qw_o (by decide) (by decide), cb2_u]
      dsimp only
      rw [qk_a1, nI_1]
      exact ih (k + 1) (by omega) (by omega)
theorem rf_u29 : ∀ (w f x N : Nat) (s : qs) (y : Int32), qi_I N s → ¬ s 142 = -1 → ¬ s 144 = -1 → qr_wn s = w → N + 4 * w < 2147483647 → w < f → ∃ t y', qa_fX10_untilShown_29 f (nI x) (qw ρ s y) = qa_fX10_untilShown_53 qa_fu (nI (x + w)) 0 (qw ρ t y') ∧ ∀ i, 176 ≤ i → t i = s i := by
  intro w
  induction w with
  | zero =>
    intro f x N s y hI h2 h4 hw _ _
    have := W_b hI.1 h2 h4
    have := qn_int (x := qr_W s) (by omega)
    unfold qr_wn at hw
    omega
  | succ w ih =>
    intro f x N s y hI h2 h4 hw hN hf
    obtain ⟨f, rfl⟩ : ∃ j, f = j + 1 := ⟨f - 1, by omega⟩
    obtain ⟨b1, b2⟩ := wt_s hI h2 h4 (by omega)
    rw [qa_fX10_untilShown_29, qw_s, qk_c142, qk_n142, qk_am1, if_neg h2, rf_tc hI.1 (by omega), Option.bind_some]
    dsimp only
    rw [qk_a1, nI_1]
    by_cases c : w = 0
    · subst c
      obtain ⟨f, rfl⟩ : ∃ j, f = j + 1 := ⟨f - 1, by omega⟩
      rw [qa_fX10_untilShown_29, qw_s, qk_c142, qk_n142, qk_am1, if_pos (b1 hw).2, qk_a0]
      exact ⟨_, _, rfl, fun i hi => hi_tc hI.1 (by omega) hi⟩
    · obtain ⟨c1, c2, c3, c4⟩ := b2 (by omega)
      obtain ⟨t, y', d1, d2⟩ := ih f (x + 1) (N + 4) _ (y + nI (qr_tc s).1) (tc_I hI (by omega)).1 c2 c3 (by omega) (by omega) (by omega)
      refine ⟨t, y', ?_, fun i hi => by rw [d2 i hi, hi_tc hI.1 (by omega) hi]⟩
      rw [d1, show x + 1 + w = x + (w + 1) by omega]
theorem rf_un (hI : qi_I N s) (h2 : ¬ s 142 = -1) (h4 : ¬ s 144 = -1) (hN : N + 200 < 2147483647) : ∃ ρ' y', qa_fX10_untilShown (qw ρ s y) = some (nI (qr_wn s), qw ρ' s y') ∧ qe_O (10, 27) ρ ρ' := by
  have hb := W_b hI.1 h2 h4
  have hq : (qr_wn s : Int) = (qr_W s).toInt := qn_int (x := qr_W s) (by omega)
  obtain ⟨ρ', a1, a2, a3⟩ := rf_u2_l (ρ := ρ) (s := s) (y := y) qa_fu 0 ρ qe_Or (fun i hi => by omega) (by omega) (by unfold qa_fu; omega)
  obtain ⟨t, y', b1, b2⟩ := rf_u29 (ρ := ρ') (qr_wn s) qa_fu 0 N s y hI h2 h4 rfl (by omega) (by unfold qa_fu; omega)
  refine ⟨ρ', y', ?_, a2⟩
  have b3 := rf_u5_l (ρ := ρ') (s := t) (y := y') (x := nI (qr_wn s)) qa_fu 0 (by omega) (by unfold qa_fu; omega)
  rw [cb2_0, cb2_e a3 b2] at b3
  unfold qa_fX10_untilShown
  rw [Nat.zero_add] at b1
  rw [← nI_0] at b1 a1
  exact a1.trans (b1.trans b3)
/-- what the beginning of a loading leaves -/
theorem bg_o (h : qi_A N s) {i : Nat} (hi : (112 < i ∧ i < 144) ∨ (162 < i ∧ ¬ i = 171 ∧ ¬ i = 172 ∧ ¬ i = 173)) : qr_bg s i = s i := by
  obtain ⟨hs, hp, hw, hl, hq, he, hc⟩ := h
  have hn := (qi_n hs).2
  have hi0 := qn_int hs.1
  have st : ∀ (v : qs) (a : Nat), qi_sl v → a < 16 → v i = s i → qr_st v a i = s i := fun v a hv ha h => by
    unfold qr_st
    rw [s0_o (by omega) (by omega) (by omega) (by omega) (by omega), mr_o hv (by omega) (by omega)]
    exact h
  unfold qr_bg
  split
  · rfl
  · split
    · have h1 := hl.2.1
      exact st s _ hs (by unfold qn; omega) rfl
    · split
      · unfold qr_b3
        cases e : qr_gd s with
        | none => rfl
        | some a =>
          have := (gd_s hp hs e).1
          dsimp only
          split
          · exact st s a hs (by omega) rfl
          · rfl
      · next c =>
        have hq1 := qn_int hq.1
        have hq2 := hq.2.2.1 0 (by omega)
        rw [Nat.add_zero] at hq2
        have hq3 := qn_int hq2.1
        exact st _ _ (fg_A (N := N) (a := qn (s 147)) ⟨hs, hp, hw, hl, hq, he, hc⟩).1 (by omega) (fg_o (qi_qdq hq) _ (by omega))
/-- a tick with the pace 0 -/
theorem tc_0 (h : qi_A N s) (h7 : s 167 = 0) (hN : N + 4 < 2147483647) : (qr_tc s).2 167 = 0 ∧ (qr_tc s).2 113 = s 113 ∧ (qr_tc s).2 170 = s 170 ∧ (s 142 = -1 → (qr_tc s).2 142 = -1) := by
  have h1 := t1_A h
  have h2 := t2_A h1 (by omega)
  have e7 : (qr_t2 (qr_t1 s)).2 167 = 0 := by rw [t2_o h1 (by omega), t1_o h.1 (by omega) (by omega), h7]
  have e3 : qr_t3 (qr_t2 (qr_t1 s)).2 = (false, (qr_t2 (qr_t1 s)).2) := by
    unfold qr_t3
    rw [if_neg (fun t => t.2.2.1 (by rw [e7]; exact Int32.le_refl _))]
  unfold qr_tc
  dsimp only
  rw [e3]
  dsimp only
  rw [bg_o h2 (by omega), bg_o h2 (by omega), bg_o h2 (by omega), bg_o h2 (by omega), t2_o h1 (i := 113) (by omega), t2_o h1 (i := 170) (by omega), t1_o h.1 (i := 113) (by omega) (by omega), t1_o h.1 (i := 170) (by omega) (by omega)]
  refine ⟨e7, rfl, rfl, fun h4 => ?_⟩
  have e2 : qr_t1 s 142 = -1 := by rw [t1_o h.1 (by omega) (by omega)]; exact h4
  unfold qr_t2
  by_cases c1 : qr_t1 s 144 = -1
  · rw [if_pos c1]; exact e2
  · rw [if_neg c1]
    by_cases c2 : qr_t1 s 145 - 1 = 0
    · rw [if_neg (not_not_intro c2), if_pos (by rw [e2]; exact fun t => c1 t.symm)]
      dsimp only
      rw [l0_o (by omega) (by omega) (by omega) (by omega) (by omega)]
      exact e2
    · rw [if_pos c2]
      dsimp only
      rw [pk_un (by omega)]
      exact e2
theorem ti_0' : ∀ (m N : Nat) (s : qs), qi_I N s → s 167 = 0 → N + 4 * m < 2147483647 → (qr_ti m s).2 167 = 0 ∧ (qr_ti m s).2 113 = s 113 ∧ (qr_ti m s).2 170 = s 170 ∧ (s 142 = -1 → (qr_ti m s).2 142 = -1) := by
  intro m
  induction m with
  | zero => intro N s _ h7 _; exact ⟨h7, rfl, rfl, id⟩
  | succ m ih =>
    intro N s h h7 hN
    obtain ⟨a1, a2, a3, a4⟩ := tc_0 h.1 h7 (by omega)
    obtain ⟨b1, b2, b3, b4⟩ := ih (N + 4) _ (tc_I h (by omega)).1 a1 (by omega)
    rw [ti_s]
    dsimp only
    exact ⟨b1, by rw [b2, a2], by rw [b3, a3], fun h4 => b4 (a4 h4)⟩
/-- waiting to its end -/
theorem wt_e : ∀ (w N : Nat) (s : qs), qi_I N s → ¬ s 142 = -1 → ¬ s 144 = -1 → qr_wn s = w → N + 4 * w < 2147483647 → (qr_ti w s).2 142 = -1 := by
  intro w
  induction w with
  | zero =>
    intro N s hI h2 h4 hw _
    have := W_b hI.1 h2 h4
    have := qn_int (x := qr_W s) (by omega)
    unfold qr_wn at hw
    omega
  | succ w ih =>
    intro N s hI h2 h4 hw hN
    obtain ⟨b1, b2⟩ := wt_s hI h2 h4 (by omega)
    rw [ti_s]
    dsimp only
    by_cases c : w = 0
    · subst c
      exact (b1 hw).2
    · obtain ⟨c1, c2, c3, c4⟩ := b2 (by omega)
      exact ih (N + 4) _ (tc_I hI (by omega)).1 c2 c3 (by omega) (by omega)
end QWB
