/-! the law's calls (3): questions that answer or throw -/
section QLZ
variable {σ σ1 σ' τ ρ : qa_T} {s t : qs} {X : Nat → Int32} {N M k k' f f' j p L L2 L' : Nat} {U V U' V' : Nat → qs} {Z Z' : Nat → Bool} {B B' : Nat → Int32} {k23 : Int32 → qa_T → Option (Bool × qa_T)} {x a v r code : Int32} {A Rf : qa_T → Option (Int32 × qa_T)}
theorem rf_to1 {p : Nat} (hR : qj_R ρ s k U Z V L2 B) (ha : a = nI p) (hp : p < 176) (c : s p = -1) : qa_fX10_told a ρ = some (0, qa_wi ρ (10, 21) 9 1) := by
  subst ha
  unfold qa_fX10_told qa_fX10_told_16 qa_fX10_told_36
  dsimp only
  rw [qz_ifn (by omega) (by omega), nI_clamp (by omega), hR.1, c, qk_am1, if_neg (not_not_intro rfl), qk_a1, wi_eq, if_pos (by decide)]
  rfl
theorem rf_to0 {p : Nat} (hR : qj_R ρ s k U Z V L2 B) (ha : a = nI p) (hp : p < 176) (c : ¬ s p = -1) : qa_fX10_told a ρ = some (s p, qa_wi ρ (10, 21) 9 0) := by
  subst ha
  unfold qa_fX10_told qa_fX10_told_16 qa_fX10_told_36
  dsimp only
  rw [qz_ifn (by omega) (by omega), nI_clamp (by omega), hR.1, qk_am1, if_pos c, qk_a0, wi_eq, if_neg (by decide), qz_ifn (by omega) (by omega), wi_np (by decide), hR.1]
theorem y_showPlace (h : qJ N X σ) : qY N X σ qa_fL_showPlace qa_fX10_showPlace := by
  obtain ⟨hX, s, k, f, U, Z, V, L2, B, hC, hR, hI⟩ := h
  by_cases c : s 138 = -1
  · refine qY_1 (code := 1) hX cc_r hC ?_ (by decide) ⟨0, qa_wi σ (10, 21) 9 1, ?_, jr_9 hR, r9, wi_eq⟩ hI
    · unfold qa_fL_showPlace qa_fX9_showPlace qa_fX9_showPlace_19
      rw [ra_138 hC.1.1, c, qk_am1, if_pos rfl, Option.bind_some]
      rfl
    · unfold qa_fX10_showPlace
      rw [rf_to1 (a := (Int16.ofInt 138).toInt32) (p := 138) hR rfl (by omega) c]
      rfl
  · refine qY_0 (v := s 138) hX cc_r hC ?_ ⟨qa_wi (wl σ (s 138).toInt64) (10, 21) 9 0, ?_, jr_9 (jw9 hR), r9, rfl, wi_eq⟩ hI
    · unfold qa_fL_showPlace qa_fX9_showPlace qa_fX9_showPlace_19
      rw [ra_138 hC.1.1, qk_am1, if_neg c, Option.bind_some]
      rfl
    · unfold qa_fX10_showPlace
      rw [rf_to0 (a := (Int16.ofInt 138).toInt32) (p := 138) (jw9 hR) rfl (by omega) c]
      rfl
theorem y_shown (h : qJ N X σ) : qY N X σ qa_fL_shown qa_fX10_shown := by
  obtain ⟨hX, s, k, f, U, Z, V, L2, B, hC, hR, hI⟩ := h
  by_cases c : s 139 = -1
  · refine qY_1 (code := 1) hX cc_r hC ?_ (by decide) ⟨0, qa_wi σ (10, 21) 9 1, ?_, jr_9 hR, r9, wi_eq⟩ hI
    · unfold qa_fL_shown qa_fX9_shown qa_fX9_shown_19
      rw [ra_139 hC.1.1, c, qk_am1, if_pos rfl, Option.bind_some]
      rfl
    · unfold qa_fX10_shown
      rw [rf_to1 (a := (Int16.ofInt 139).toInt32) (p := 139) hR rfl (by omega) c]
      rfl
  · refine qY_0 (v := s 139) hX cc_r hC ?_ ⟨qa_wi (wl σ (s 139).toInt64) (10, 21) 9 0, ?_, jr_9 (jw9 hR), r9, rfl, wi_eq⟩ hI
    · unfold qa_fL_shown qa_fX9_shown qa_fX9_shown_19
      rw [ra_139 hC.1.1, qk_am1, if_neg c, Option.bind_some]
      rfl
    · unfold qa_fX10_shown
      rw [rf_to0 (a := (Int16.ofInt 139).toInt32) (p := 139) (jw9 hR) rfl (by omega) c]
      rfl
theorem y_fading (h : qJ N X σ) : qY N X σ qa_fL_fading qa_fX10_fading := by
  obtain ⟨hX, s, k, f, U, Z, V, L2, B, hC, hR, hI⟩ := h
  by_cases c : s 140 = -1
  · refine qY_1 (code := 1) hX cc_r hC ?_ (by decide) ⟨0, qa_wi σ (10, 21) 9 1, ?_, jr_9 hR, r9, wi_eq⟩ hI
    · unfold qa_fL_fading qa_fX9_fading qa_fX9_fading_19
      rw [ra_140 hC.1.1, c, qk_am1, if_pos rfl, Option.bind_some]
      rfl
    · unfold qa_fX10_fading
      rw [rf_to1 (a := (Int16.ofInt 140).toInt32) (p := 140) hR rfl (by omega) c]
      rfl
  · refine qY_0 (v := s 140) hX cc_r hC ?_ ⟨qa_wi (wl σ (s 140).toInt64) (10, 21) 9 0, ?_, jr_9 (jw9 hR), r9, rfl, wi_eq⟩ hI
    · unfold qa_fL_fading qa_fX9_fading qa_fX9_fading_19
      rw [ra_140 hC.1.1, qk_am1, if_neg c, Option.bind_some]
      rfl
    · unfold qa_fX10_fading
      rw [rf_to0 (a := (Int16.ofInt 140).toInt32) (p := 140) (jw9 hR) rfl (by omega) c]
      rfl
theorem y_awaited (h : qJ N X σ) : qY N X σ qa_fL_awaited qa_fX10_awaited := by
  obtain ⟨hX, s, k, f, U, Z, V, L2, B, hC, hR, hI⟩ := h
  by_cases c : s 142 = -1
  · refine qY_1 (code := 1) hX cc_r hC ?_ (by decide) ⟨0, qa_wi σ (10, 21) 9 1, ?_, jr_9 hR, r9, wi_eq⟩ hI
    · unfold qa_fL_awaited qa_fX9_awaited qa_fX9_awaited_19
      rw [ra_142 hC.1.1, c, qk_am1, if_pos rfl, Option.bind_some]
      rfl
    · unfold qa_fX10_awaited
      rw [rf_to1 (a := (Int16.ofInt 142).toInt32) (p := 142) hR rfl (by omega) c]
      rfl
  · refine qY_0 (v := s 142) hX cc_r hC ?_ ⟨qa_wi (wl σ (s 142).toInt64) (10, 21) 9 0, ?_, jr_9 (jw9 hR), r9, rfl, wi_eq⟩ hI
    · unfold qa_fL_awaited qa_fX9_awaited qa_fX9_awaited_19
      rw [ra_142 hC.1.1, qk_am1, if_neg c, Option.bind_some]
      rfl
    · unfold qa_fX10_awaited
      rw [rf_to0 (a := (Int16.ofInt 142).toInt32) (p := 142) (jw9 hR) rfl (by omega) c]
      rfl
theorem y_loading (h : qJ N X σ) : qY N X σ qa_fL_loading qa_fX10_loading := by
  obtain ⟨hX, s, k, f, U, Z, V, L2, B, hC, hR, hI⟩ := h
  by_cases c : s 144 = -1
  · refine qY_1 (code := 1) hX cc_r hC ?_ (by decide) ⟨0, qa_wi σ (10, 21) 9 1, ?_, jr_9 hR, r9, wi_eq⟩ hI
    · unfold qa_fL_loading qa_fX9_loading qa_fX9_loading_19
      rw [ra_144 hC.1.1, c, qk_am1, if_pos rfl, Option.bind_some]
      rfl
    · unfold qa_fX10_loading
      rw [rf_to1 (a := (Int16.ofInt 144).toInt32) (p := 144) hR rfl (by omega) c]
      rfl
  · refine qY_0 (v := s 144) hX cc_r hC ?_ ⟨qa_wi (wl σ (s 144).toInt64) (10, 21) 9 0, ?_, jr_9 (jw9 hR), r9, rfl, wi_eq⟩ hI
    · unfold qa_fL_loading qa_fX9_loading qa_fX9_loading_19
      rw [ra_144 hC.1.1, qk_am1, if_neg c, Option.bind_some]
      rfl
    · unfold qa_fX10_loading
      rw [rf_to0 (a := (Int16.ofInt 144).toInt32) (p := 144) (jw9 hR) rfl (by omega) c]
      rfl
theorem y_shownFor (h : qJ N X σ) : qY N X σ qa_fL_shownFor qa_fX10_shownFor := by
  obtain ⟨hX, s, k, f, U, Z, V, L2, B, hC, hR, hI⟩ := h
  by_cases c : s 139 = -1
  · refine qY_1 (code := 1) hX cc_r hC ?_ (by decide) ⟨0, qa_wi σ (10, 21) 9 1, ?_, jr_9 hR, r9, wi_eq⟩ hI
    · unfold qa_fL_shownFor qa_fX9_shownFor qa_fX9_shownFor_19
      rw [ra_139 hC.1.1, c, qk_am1, if_pos rfl, Option.bind_some]
      rfl
    · unfold qa_fX10_shownFor qa_fX10_shownFor_27
      rw [rf_to1 (a := (Int16.ofInt 139).toInt32) (p := 139) hR rfl (by omega) c, Option.bind_some]
      dsimp only
      rw [wi_eq, if_pos (by decide)]
      rfl
  · refine qY_0 (v := s 143) hX cc_r hC ?_ ⟨qa_wi (wl σ (s 143).toInt64) (10, 21) 9 0, ?_, jr_9 (jw9 hR), r9, rfl, wi_eq⟩ hI
    · unfold qa_fL_shownFor qa_fX9_shownFor qa_fX9_shownFor_19
      rw [ra_139 hC.1.1, qk_am1, if_neg c, Option.bind_some, ra_143 hC.1.1]
      rfl
    · unfold qa_fX10_shownFor qa_fX10_shownFor_27
      rw [rf_to0 (a := (Int16.ofInt 139).toInt32) (p := 139) (jw9 hR) rfl (by omega) c, Option.bind_some]
      dsimp only
      rw [wi_eq, if_neg (by decide), wi_np (by decide), (jw9 hR).1]
      rfl
theorem in_le {lo hi x : Int32} (h : qa_fX10_in x lo hi σ = true) : lo.toInt ≤ x.toInt ∧ x.toInt ≤ hi.toInt := by
  rw [in_x, Bool.and_eq_true, decide_eq_true_eq, decide_eq_true_eq] at h
  exact h
/-- a place of a line of c -/
def qi_pl (c a : Int32) : Bool := decide (0 ≤ a.toInt) && decide (a.toInt < c.toInt)
theorem pl_n {c : Int32} (h : qi_pl c a = true) : a = nI (qn a) ∧ (qn a : Int) < c.toInt ∧ qn a < qn c := by
  unfold qi_pl at h
  rw [Bool.and_eq_true, decide_eq_true_eq, decide_eq_true_eq] at h
  have h1 := qn_int h.1
  exact ⟨qn_of h.1, by omega, by unfold qn at h1 ⊢; omega⟩
theorem in_pl {c : Int32} (h1 : 0 ≤ c.toInt) (h2 : c.toInt ≤ 100) : qa_fX10_in a 0 (c - 1) σ = qi_pl c a := by
  have e1 : (c - 1).toInt = c.toInt - 1 := by rw [qz_sub (by rw [qk_t1]; omega) (by rw [qk_t1]; omega), qk_t1]
  rw [in_x, e1, qk_t0]
  unfold qi_pl
  by_cases d : a.toInt < c.toInt
  · rw [decide_eq_true d, decide_eq_true (show a.toInt ≤ c.toInt - 1 by omega)]
  · rw [decide_eq_false d, decide_eq_false (show ¬ a.toInt ≤ c.toInt - 1 by omega)]
theorem iw_pl {c : Int32} (h1 : 0 ≤ c.toInt) (h2 : c.toInt ≤ 100) : qa_fX9_isWithin a 0 (c - 1) σ = qi_pl c a := by
  rw [iw_x, ← in_x (σ := σ), in_pl h1 h2]
theorem cl_h3 (h : qj_C σ s k f U Z V L2 B) : qa_fX3_has 1 a σ = qi_pl (s 113) a := by
  unfold qa_fX3_has qa_fX3_has_16 qi_pl
  rw [ra_113 h.1.1]
  have c1 := qz_lt a 0
  have c2 := qz_le (s 113) a
  rw [qk_t0] at c1
  by_cases d1 : a < 0
  · rw [if_pos d1, decide_eq_false (show ¬ 0 ≤ a.toInt by have := c1.mp d1; omega)]; rfl
  · have e1 : 0 ≤ a.toInt := by
      by_cases e : a.toInt < 0
      · exact absurd (c1.mpr e) d1
      · omega
    rw [if_neg d1, decide_eq_true e1]
    by_cases d2 : s 113 ≤ a
    · rw [if_pos d2, decide_eq_false (show ¬ a.toInt < (s 113).toInt by have := c2.mp d2; omega)]; rfl
    · rw [if_neg d2, decide_eq_true (show a.toInt < (s 113).toInt by
        by_cases e : (s 113).toInt ≤ a.toInt
        · exact absurd (c2.mpr e) d2
        · omega)]; rfl
theorem y_slideAt (h : qJ N X σ) : qY N X σ (fun σ => qa_fL_slideAt a σ) (fun σ => qa_fX10_slideAt a σ) := by
  obtain ⟨hX, s, k, f, U, Z, V, L2, B, hC, hR, hI⟩ := h
  have hs := hI.1.1.1.1
  have hp := hI.1.1.1.2.1
  have hp2 := hp.2.1
  have ec : ∀ τ : qa_T, τ.1 (10, 22) = s → (qa_wi τ (10, 21) 9 0).1 (10, 22) (((Int8.ofInt 113).toInt32)).toNatClampNeg = s 113 := fun τ h => by
    rw [wi_np (by decide), h]
    rfl
  have hb : qa_fX3_has 1 a σ = qi_pl (s 113) a := by
    exact cl_h3 hC
  by_cases c : qi_pl (s 113) a = true
  · obtain ⟨c1, c2, c3⟩ := pl_n c
    have c4 : qn a < 24 := by omega
    refine qY_0 (v := s (114 + qn a)) hX cc_r hC ?_ ⟨qa_wi (wl σ (s (114 + qn a)).toInt64) (10, 21) 9 0, ?_, jr_9 (jw9 hR), r9, rfl, wi_eq⟩ hI
    · unfold qa_fL_slideAt qa_fX9_slideAt
      rw [hb, c, if_neg (show ¬ qa_bi true = 0 by decide), Option.bind_some]
      dsimp only
      have e : qa_fX9_at (1, 10) 24 a σ = s (114 + qn a) := by
        rw [c1, at_in c4 (by omega), ra_p hC.1.1 c3 c4, ← c1]
      rw [e]
      rfl
    · unfold qa_fX10_slideAt qa_fX10_slideAt_39
      dsimp only
      rw [qk_a0, ec _ (jw9 hR).1, qk_a1, in_pl hp.1 (by omega), c, if_neg (show ¬ qa_bi true = 0 by decide), c1, show ((Int8.ofInt 114).toInt32) = nI 114 from rfl, nI_add, qz_ifn (by omega) (by omega), nI_clamp (by omega), wi_np (by decide), (jw9 hR).1, ← c1]
  · have cf := Bool.eq_false_iff.mpr c
    refine qY_1 (code := 1) hX cc_r hC ?_ (by decide) ⟨0, qa_wi (qa_wi σ (10, 21) 9 0) (10, 21) 9 1, ?_, jr_9 (jr_9 hR), rr_t r9 r9, wi_eq⟩ hI
    · unfold qa_fL_slideAt qa_fX9_slideAt
      rw [hb, cf, if_pos (show qa_bi false = 0 from rfl), Option.bind_some]
      rfl
    · unfold qa_fX10_slideAt qa_fX10_slideAt_39
      dsimp only
      rw [qk_a0, ec _ hR.1, qk_a1, in_pl hp.1 (by omega), cf, if_pos (show qa_bi false = 0 from rfl)]
      rfl
theorem y_askedAt (h : qJ N X σ) : qY N X σ (fun σ => qa_fL_askedAt a σ) (fun σ => qa_fX10_askedAt a σ) := by
  obtain ⟨hX, s, k, f, U, Z, V, L2, B, hC, hR, hI⟩ := h
  have hs := hI.1.1.1.1
  have hp := hI.1.1.1.2.2.2.2.1
  have hp2 := hp.2.1
  have ec : ∀ τ : qa_T, τ.1 (10, 22) = s → (qa_wi τ (10, 21) 9 0).1 (10, 22) (((Int16.ofInt 146).toInt32)).toNatClampNeg = s 146 := fun τ h => by
    rw [wi_np (by decide), h]
    rfl
  have hb : qa_fX9_isWithin a (Int32.ofInt 0) ((σ.1 (1, 12) 2) - (Int32.ofInt 1)) σ = qi_pl (s 146) a := by
    rw [ra_146 hC.1.1, qk_a0, qk_a1, iw_pl hp.1 (by omega)]
  by_cases c : qi_pl (s 146) a = true
  · obtain ⟨c1, c2, c3⟩ := pl_n c
    have c4 : qn a < 16 := by omega
    refine qY_0 (v := s (147 + qn a)) hX cc_r hC ?_ ⟨qa_wi (wl σ (s (147 + qn a)).toInt64) (10, 21) 9 0, ?_, jr_9 (jw9 hR), r9, rfl, wi_eq⟩ hI
    · unfold qa_fL_askedAt qa_fX9_askedAt
      rw [hb, c, if_neg (show ¬ qa_bi true = 0 by decide), Option.bind_some]
      dsimp only
      have e : qa_fX9_at (1, 13) 16 a σ = s (147 + qn a) := by
        rw [c1, at_in c4 (by omega), ra_q hC.1.1 c3 c4, ← c1]
      rw [e]
      rfl
    · unfold qa_fX10_askedAt qa_fX10_askedAt_41
      dsimp only
      rw [qk_a0, ec _ (jw9 hR).1, qk_a1, in_pl hp.1 (by omega), c, if_neg (show ¬ qa_bi true = 0 by decide), c1, show ((Int16.ofInt 147).toInt32) = nI 147 from rfl, nI_add, qz_ifn (by omega) (by omega), nI_clamp (by omega), wi_np (by decide), (jw9 hR).1, ← c1]
  · have cf := Bool.eq_false_iff.mpr c
    refine qY_1 (code := 1) hX cc_r hC ?_ (by decide) ⟨0, qa_wi (qa_wi σ (10, 21) 9 0) (10, 21) 9 1, ?_, jr_9 (jr_9 hR), rr_t r9 r9, wi_eq⟩ hI
    · unfold qa_fL_askedAt qa_fX9_askedAt
      rw [hb, cf, if_pos (show qa_bi false = 0 from rfl), Option.bind_some]
      rfl
    · unfold qa_fX10_askedAt qa_fX10_askedAt_41
      dsimp only
      rw [qk_a0, ec _ hR.1, qk_a1, in_pl hp.1 (by omega), cf, if_pos (show qa_bi false = 0 from rfl)]
      rfl
end QLZ
