/-! what would be: waiting and misses, of the class and of the reference -/
section QWB
variable {ρ σ σ' : qa_T} {s t : qs} {y : Int32} {R S N : Nat}
theorem cl_wt_l : ∀ (w f x N : Nat) (σ : qa_T) (s : qs), qe_R 2 σ s → qi_I N s → ¬ s 142 = -1 → ¬ s 144 = -1 → qr_wn s = w → N + 4 * w < 2147483647 → x + w ≤ 1000 → w < f → ∃ σ', qa_fX9_waitOnTrial_13 f (nI x) σ = some (nI (x + w - 1), σ') ∧ qe_F 2 σ σ' := by
  intro w
  induction w with
  | zero =>
    intro f x N σ s h hI h2 h4 hw _ _ _
    have := W_b hI.1 h2 h4
    have := qn_int (x := qr_W s) (by omega)
    unfold qr_wn at hw
    omega
  | succ w ih =>
    intro f x N σ s h hI h2 h4 hw hN hx hf
    obtain ⟨f, rfl⟩ : ∃ j, f = j + 1 := ⟨f - 1, by omega⟩
    obtain ⟨b1, b2⟩ := wt_s hI h2 h4 (by omega)
    obtain ⟨τ, a1, a2, a3⟩ := cl_tc h hI.1 (by omega)
    have e1000 : ((Int16.ofInt 1000).toInt32) = nI 1000 := rfl
    rw [qa_fX9_waitOnTrial_13, e1000, if_neg (nI_ge (by omega) (by omega)), a1, Option.bind_some]
    dsimp only
    by_cases c : w = 0
    · subst c
      rw [(b1 hw).1, if_neg (by decide)]
      exact ⟨τ, rfl, a3⟩
    · obtain ⟨c1, c2, c3, c4⟩ := b2 (by omega)
      rw [c1, if_pos (by rw [nI_0]; exact Int32.le_refl _), qk_a1, nI_1]
      obtain ⟨σ', d1, d2⟩ := ih f (x + 1) (N + 4) τ _ a2 (tc_I hI (by omega)).1 c2 c3 (by omega) (by omega) (by omega) (by omega)
      refine ⟨σ', ?_, qe_Ft a3 d2⟩
      rw [d1, show x + 1 + w - 1 = x + (w + 1) - 1 by omega]
theorem cl_wt (h : qe_R 1 σ s) (hI : qi_I N s) (h2 : ¬ s 142 = -1) (h4 : ¬ s 144 = -1) (hN : N + 200 < 2147483647) : ∃ σ', qa_fX9_waitOnTrial σ = some (nI (qr_wn s), σ') ∧ qe_F 2 σ σ' := by
  have hb := W_b hI.1 h2 h4
  have hq := qn_int (x := qr_W s) (by omega)
  obtain ⟨τ, a1, a2, a3⟩ := cl_cp (R := 2) h hI.1.1 (by decide)
  have hq2 : (qr_wn s : Int) = (qr_W s).toInt := hq
  obtain ⟨σ', b1, b2⟩ := cl_wt_l (qr_wn s) qa_fu 1 N τ s a2 hI h2 h4 rfl (by omega) (by omega) (by unfold qa_fu; omega)
  refine ⟨σ', ?_, qe_Ft a3 b2⟩
  unfold qa_fX9_waitOnTrial
  rw [a1, Option.bind_some]
  rw [show 1 + qr_wn s - 1 = qr_wn s by omega] at b1
  exact b1
theorem cl_sw (h : qe_A R σ s) (hA : qi_A N s) (h2 : ¬ s 142 = -1) : qa_fX1_sumOfWait R σ = qr_W s := by
  obtain ⟨hs, hp, hw, hl, hq, he, hc⟩ := hA
  have hn := (qi_n hs).2
  have hi := qn_int hs.1
  obtain ⟨l1, l2, l3, l4, l5, l6⟩ := hl
  rw [qz_m1] at h2
  have g3 := qn_int (x := s 142) (by omega)
  have g7 : s 142 = nI (qn (s 142)) := qn_of (by omega)
  have ha : qn (s 142) < 16 := by omega
  unfold qa_fX1_sumOfWait qr_W
  rw [ra_144 h, ra_142 h, ra_145 h]
  by_cases c : s 144 = s 142
  · rw [if_neg (not_not_intro c), if_pos c]
  · rw [if_pos c, if_neg c]
    congr 1
    unfold qa_fX6_ticksToLoad qa_fX6_ticksToLoad_30
    have e : ∀ p, qa_fX9_at p 16 (s 142) σ = σ.1 p (qn (s 142)) := fun p => by
      conv => lhs; rw [g7]
      exact at_in ha (by omega)
    dsimp only
    rw [e, e, ra_e h ha, ra_l h ha, qk_a1, qk_a2]
def qr_cb2 (f s : qs) (k : Nat) : qs := fun i => if i < k then f i else s i
theorem cb2_u {f s : qs} {k : Nat} : upd (qr_cb2 f s k) k (f k) = qr_cb2 f s (k + 1) := by
  funext i
  unfold upd qr_cb2
  by_cases c : i = k
  · subst c
    rw [if_pos rfl, if_pos (by omega)]
  · rw [if_neg c]
    by_cases c2 : i < k
    · rw [if_pos c2, if_pos (by omega)]
    · rw [if_neg c2, if_neg (by omega)]
theorem cb2_0 {f s : qs} : qr_cb2 f s 0 = s := by
  funext i
  unfold qr_cb2
  rw [if_neg (by omega)]
theorem cb2_e {f s t : qs} (h1 : ∀ i, i < 176 → f i = t i) (h2 : ∀ i, 176 ≤ i → s i = t i) : qr_cb2 f s 176 = t := by
  funext i
  unfold qr_cb2
  by_cases c : i < 176
  · rw [if_pos c, h1 i c]
  · rw [if_neg c, h2 i (by omega)]
/-- what the beginning of a loading leaves -/
theorem bg_o (h : qi_A N s) {i : Nat} (hi : (112 < i ∧ i < 144) ∨ (162 < i ∧ ¬ i = 171 ∧ ¬ i = 172 ∧ ¬ i = 173)) : qr_bg s i = s i := by
  obtain ⟨hs, hp, hw, hl, hq, he, hc⟩ := h
  have hn := (qi_n hs).2
  have hi0 := qn_int hs.1
  have st : ∀ (v : qs) (a : Nat), qi_sl v → a < 16 → v i = s i → qr_st v a i = s i := fun v a hv ha h => by
    unfold qr_st
    rw [s0_o (by omega) (by omega) (by omega) (by omega) (by omega), mr_o hv (by omega) (by omega)]
    exact h
  unfold qr_bg
  split
  · rfl
  · split
    · have h1 := hl.2.1
      exact st s _ hs (by unfold qn; omega) rfl
    · split
      · unfold qr_b3
        cases e : qr_gd s with
        | none => rfl
        | some a =>
          have := (gd_s hp hs e).1
          dsimp only
          split
          · exact st s a hs (by omega) rfl
          · rfl
      · next c =>
        have hq1 := qn_int hq.1
        have hq2 := hq.2.2.1 0 (by omega)
        rw [Nat.add_zero] at hq2
        have hq3 := qn_int hq2.1
        exact st _ _ (fg_A (N := N) (a := qn (s 147)) ⟨hs, hp, hw, hl, hq, he, hc⟩).1 (by omega) (fg_o (qi_qdq hq) _ (by omega))
/-- a tick with the pace 0 -/
theorem tc_0 (h : qi_A N s) (h7 : s 167 = 0) (hN : N + 4 < 2147483647) : (qr_tc s).2 167 = 0 ∧ (qr_tc s).2 113 = s 113 ∧ (qr_tc s).2 170 = s 170 ∧ (s 142 = -1 → (qr_tc s).2 142 = -1) := by
  have h1 := t1_A h
  have h2 := t2_A h1 (by omega)
  have e7 : (qr_t2 (qr_t1 s)).2 167 = 0 := by rw [t2_o h1 (by omega), t1_o h.1 (by omega) (by omega), h7]
  have e3 : qr_t3 (qr_t2 (qr_t1 s)).2 = (false, (qr_t2 (qr_t1 s)).2) := by
    unfold qr_t3
    rw [if_neg (fun t => t.2.2.1 (by rw [e7]; exact Int32.le_refl _))]
  unfold qr_tc
  dsimp only
  rw [e3]
  dsimp only
  rw [bg_o h2 (by omega), bg_o h2 (by omega), bg_o h2 (by omega), bg_o h2 (by omega), t2_o h1 (i := 113) (by omega), t2_o h1 (i := 170) (by omega), t1_o h.1 (i := 113) (by omega) (by omega), t1_o h.1 (i := 170) (by omega) (by omega)]
  refine ⟨e7, rfl, rfl, fun h4 => ?_⟩
  have e2 : qr_t1 s 142 = -1 := by rw [t1_o h.1 (by omega) (by omega)]; exact h4
  unfold qr_t2
  by_cases c1 : qr_t1 s 144 = -1
  · rw [if_pos c1]; exact e2
  · rw [if_neg c1]
    by_cases c2 : qr_t1 s 145 - 1 = 0
    · rw [if_neg (not_not_intro c2), if_pos (by rw [e2]; exact fun t => c1 t.symm)]
      dsimp only
      rw [l0_o (by omega) (by omega) (by omega) (by omega) (by omega)]
      exact e2
    · rw [if_pos c2]
      dsimp only
      rw [pk_un (by omega)]
      exact e2
theorem ti_0' : ∀ (m N : Nat) (s : qs), qi_I N s → s 167 = 0 → N + 4 * m < 2147483647 → (qr_ti m s).2 167 = 0 ∧ (qr_ti m s).2 113 = s 113 ∧ (qr_ti m s).2 170 = s 170 ∧ (s 142 = -1 → (qr_ti m s).2 142 = -1) := by
  intro m
  induction m with
  | zero => intro N s _ h7 _; exact ⟨h7, rfl, rfl, id⟩
  | succ m ih =>
    intro N s h h7 hN
    obtain ⟨a1, a2, a3, a4⟩ := tc_0 h.1 h7 (by omega)
    obtain ⟨b1, b2, b3, b4⟩ := ih (N + 4) _ (tc_I h (by omega)).1 a1 (by omega)
    rw [ti_s]
    dsimp only
    exact ⟨b1, by rw [b2, a2], by rw [b3, a3], fun h4 => b4 (a4 h4)⟩
/-- waiting to its end -/
theorem wt_e : ∀ (w N : Nat) (s : qs), qi_I N s → ¬ s 142 = -1 → ¬ s 144 = -1 → qr_wn s = w → N + 4 * w < 2147483647 → (qr_ti w s).2 142 = -1 := by
  intro w
  induction w with
  | zero =>
    intro N s hI h2 h4 hw _
    have := W_b hI.1 h2 h4
    have := qn_int (x := qr_W s) (by omega)
    unfold qr_wn at hw
    omega
  | succ w ih =>
    intro N s hI h2 h4 hw hN
    obtain ⟨b1, b2⟩ := wt_s hI h2 h4 (by omega)
    rw [ti_s]
    dsimp only
    by_cases c : w = 0
    · subst c
      exact (b1 hw).2
    · obtain ⟨c1, c2, c3, c4⟩ := b2 (by omega)
      exact ih (N + 4) _ (tc_I hI (by omega)).1 c2 c3 (by omega) (by omega)
end QWB
