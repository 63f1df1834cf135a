/-! the class's questions, over what holds between calls (p66) -/
section QKA
variable {σ σ1 σ2 σ' : qa_T} {s t : qs} {N M k f L2 : Nat} {U V : Nat → qs} {Z : Nat → Bool} {B : Nat → Int32} {X : Nat → Int32} {a x v : Int32}
/-- what the cells are between calls: the show as the row of numbers s -/
def qC (s : qs) (σ : qa_T) : Prop := ∃ k f U Z V L B, qj_C σ s k f U Z V L B ∧ k ≤ 6 ∧ f < 6
def qK (N : Nat) (X : Nat → Int32) (s : qs) (σ : qa_T) : Prop := σ.1 (0, 0) = X ∧ qC s σ ∧ qi_P N s ∧ qv N s
theorem cc_0 (h : qe_cc σ σ') : σ'.1 (0, 0) = σ.1 (0, 0) := h _ (by unfold qc_c; simp)
theorem qK_A (h : qK N X s σ) : qe_A 1 σ s := by
  obtain ⟨hX, ⟨k, f, U, Z, V, L, B, hC, _⟩, _⟩ := h
  exact hC.1.1
theorem qK_R (h : qK N X s σ) : qe_R 1 σ s := by
  obtain ⟨hX, ⟨k, f, U, Z, V, L, B, hC, _⟩, _⟩ := h
  exact hC.1
theorem qK_s (h : qK N X s σ) : qi_sl s := h.2.2.1.1.1.1
theorem qK_i (h : qK N X s σ) : qi_A N s := h.2.2.1.1.1
theorem qK_u (h : qK N X s σ) (hl : N ≤ M) : qK M X s σ := ⟨h.1, h.2.1, qi_Pu h.2.2.1 hl, vq_u h.2.2.2 hl⟩
theorem is_y {j : Nat} (hs : qi_sl s) (hj : j < qn (s 0)) : qi_is s (nI j) = true := by
  have h1 := (qi_n hs).2
  have h2 := qn_int hs.1
  unfold qi_is
  rw [qz_nI (by omega), Bool.and_eq_true, decide_eq_true_eq, decide_eq_true_eq]
  omega
theorem k_is {j : Nat} (h : qK N X s σ) (hj : j < qn (s 0)) : qa_fX6_has 1 (nI j) σ = true := by
  obtain ⟨hX, ⟨k, f, U, Z, V, L, B, hC, _⟩, hP, _⟩ := h
  rw [cl_is hC hP.1.1.1]
  exact is_y hP.1.1.1 hj
theorem nt : ¬ qa_bi true = 0 := by decide
theorem n16 (h : qK N X s σ) : qn (s 0) ≤ 16 := (qi_n (qK_s h)).2
theorem k_slides (h : qK N X s σ) : qa_fX9_slides σ = s 0 := ra_n0 (qK_A h)
theorem k_places (h : qK N X s σ) : qa_fX9_places σ = s 113 := ra_113 (qK_A h)
theorem k_fadeLeft (h : qK N X s σ) : qa_fX9_fadeLeft σ = s 141 := ra_141 (qK_A h)
theorem k_loadLeft (h : qK N X s σ) : qa_fX9_loadLeft σ = s 145 := ra_145 (qK_A h)
theorem k_asked (h : qK N X s σ) : qa_fX9_asked σ = s 146 := ra_146 (qK_A h)
theorem k_account (h : qK N X s σ) : qa_fX9_takenByAccount σ = qr_ta s := (qK_R h).2
theorem k_memory (h : qK N X s σ) : qa_fX9_memory σ = s 163 := ra_163 (qK_A h)
theorem k_order (h : qK N X s σ) : qa_fX9_order σ = s 165 := ra_165 (qK_A h)
theorem k_glow (h : qK N X s σ) : qa_fX9_glow σ = s 166 := ra_166 (qK_A h)
theorem k_time (h : qK N X s σ) : qa_fX9_time σ = s 168 := ra_168 (qK_A h)
theorem k_hits (h : qK N X s σ) : qa_fX9_hits σ = s 169 := ra_169 (qK_A h)
theorem k_misses (h : qK N X s σ) : qa_fX9_misses σ = s 170 := ra_170 (qK_A h)
theorem k_loads (h : qK N X s σ) : qa_fX9_loads σ = s 171 := ra_171 (qK_A h)
theorem k_warm (h : qK N X s σ) : qa_fX9_warmLoads σ = s 172 := ra_172 (qK_A h)
theorem k_burnings (h : qK N X s σ) : qa_fX9_burnings σ = s 173 := ra_173 (qK_A h)
theorem k_waited (h : qK N X s σ) : qa_fX9_waited σ = s 174 := ra_174 (qK_A h)
theorem k_costOf {j : Nat} (h : qK N X s σ) (hj : j < qn (s 0)) : qa_fX9_costOf (nI j) σ = (.inl (s (1 + 7 * j)), σ) := by
  have := n16 h
  unfold qa_fX9_costOf
  rw [k_is h hj, if_neg nt, at_in (by omega) (by omega), ra_c (qK_A h) (by omega)]
theorem k_loadOf {j : Nat} (h : qK N X s σ) (hj : j < qn (s 0)) : qa_fX9_loadOf (nI j) σ = (.inl (qr_du s j), σ) := by
  have := n16 h
  unfold qa_fX9_loadOf
  rw [k_is h hj, if_neg nt, cl_du (qK_A h) (by omega)]
theorem k_fadeOf {j : Nat} (h : qK N X s σ) (hj : j < qn (s 0)) : qa_fX9_fadeOf (nI j) σ = (.inl (s (1 + 7 * j + 2)), σ) := by
  have := n16 h
  unfold qa_fX9_fadeOf
  rw [k_is h hj, if_neg nt, at_in (by omega) (by omega), ra_f (qK_A h) (by omega)]
theorem k_isLoaded {j : Nat} (h : qK N X s σ) (hj : j < qn (s 0)) : qa_fX9_isLoaded (nI j) σ = (.inl (qr_ld s j), σ) := by
  have := n16 h
  unfold qa_fX9_isLoaded
  rw [k_is h hj, if_neg nt, cl_rd (qK_A h) (qK_s h) (by omega)]
theorem k_isOnShow {j : Nat} (h : qK N X s σ) (hj : j < qn (s 0)) : qa_fX9_isOnShow (nI j) σ = (.inl (qr_os s j), σ) := by
  unfold qa_fX9_isOnShow
  rw [k_is h hj, if_neg nt, cl_be (qK_A h)]
theorem k_glowOf {j : Nat} (h : qK N X s σ) (hj : j < qn (s 0)) : qa_fX9_glowOf (nI j) σ = (.inl (s (1 + 7 * j + 4)), σ) := by
  have := n16 h
  unfold qa_fX9_glowOf
  rw [k_is h hj, if_neg nt, at_in (by omega) (by omega), ra_e (qK_A h) (by omega)]
theorem k_burntTimes {j : Nat} (h : qK N X s σ) (hj : j < qn (s 0)) : qa_fX9_burntTimes (nI j) σ = (.inl (s (1 + 7 * j + 5)), σ) := by
  have := n16 h
  unfold qa_fX9_burntTimes
  rw [k_is h hj, if_neg nt, at_in (by omega) (by omega), ra_b (qK_A h) (by omega)]
theorem k_slideAt {j : Nat} (h : qK N X s σ) (hj : j < qn (s 113)) : qa_fX9_slideAt (nI j) σ = (.inl (s (114 + j)), σ) := by
  have h24 := (qi_p (qK_i h).2.1).2
  have hA := qK_A h
  have h0 := qn_int (qK_i h).2.1.1
  have e : qa_fX3_has 1 (nI j) σ = true := by
    obtain ⟨hX, ⟨k, f, U, Z, V, L, B, hC, _⟩, hP, _⟩ := h
    rw [cl_h3 hC]
    unfold qi_pl
    rw [qz_nI (by omega), Bool.and_eq_true, decide_eq_true_eq, decide_eq_true_eq]
    omega
  unfold qa_fX9_slideAt
  rw [e, if_neg nt, at_in (by omega) (by omega), ra_p hA hj (by omega)]
theorem k_askedAt {j : Nat} (h : qK N X s σ) (hj : j < qn (s 146)) : qa_fX9_askedAt (nI j) σ = (.inl (s (147 + j)), σ) := by
  have hq := (qK_i h).2.2.2.2.1
  have h16 := (qi_q hq).2
  have hA := qK_A h
  have h0 := qn_int hq.1
  have e : qa_fX9_isWithin (nI j) (Int32.ofInt 0) (s 146 - Int32.ofInt 1) σ = true := by
    rw [qk_a0, qk_a1, iw_pl hq.1 (by have := hq.2.1; omega)]
    unfold qi_pl
    rw [qz_nI (by omega), Bool.and_eq_true, decide_eq_true_eq, decide_eq_true_eq]
    omega
  unfold qa_fX9_askedAt
  rw [ra_146 hA, e, if_neg nt, at_in (by omega) (by omega), ra_q hA hj (by omega)]
theorem k_taken (h : qK N X s σ) : qa_fX9_takenBySlides σ = some (qr_ta s) := by
  unfold qa_fX9_takenBySlides
  rw [cl_sc (qK_A h) (qK_s h), Option.bind_some]
/-- a place, a slide, or none -/
theorem k_showPlace (h : qK N X s σ) : qa_fX9_showPlace σ = (if s 138 = -1 then (.inr 348, σ) else (.inl (s 138), σ)) := by
  unfold qa_fX9_showPlace qa_fX9_showPlace_19
  rw [ra_138 (qK_A h), qk_am1]
  split
  · rw [if_pos (by decide)]
  · rw [if_neg (by decide)]
theorem k_shown (h : qK N X s σ) : qa_fX9_shown σ = (if s 139 = -1 then (.inr 348, σ) else (.inl (s 139), σ)) := by
  unfold qa_fX9_shown qa_fX9_shown_19
  rw [ra_139 (qK_A h), qk_am1]
  split
  · rw [if_pos (by decide)]
  · rw [if_neg (by decide)]
theorem k_fading (h : qK N X s σ) : qa_fX9_fading σ = (if s 140 = -1 then (.inr 348, σ) else (.inl (s 140), σ)) := by
  unfold qa_fX9_fading qa_fX9_fading_19
  rw [ra_140 (qK_A h), qk_am1]
  split
  · rw [if_pos (by decide)]
  · rw [if_neg (by decide)]
theorem k_awaited (h : qK N X s σ) : qa_fX9_awaited σ = (if s 142 = -1 then (.inr 348, σ) else (.inl (s 142), σ)) := by
  unfold qa_fX9_awaited qa_fX9_awaited_19
  rw [ra_142 (qK_A h), qk_am1]
  split
  · rw [if_pos (by decide)]
  · rw [if_neg (by decide)]
theorem k_loading (h : qK N X s σ) : qa_fX9_loading σ = (if s 144 = -1 then (.inr 348, σ) else (.inl (s 144), σ)) := by
  unfold qa_fX9_loading qa_fX9_loading_19
  rw [ra_144 (qK_A h), qk_am1]
  split
  · rw [if_pos (by decide)]
  · rw [if_neg (by decide)]
theorem k_shownFor (h : qK N X s σ) (c : ¬ s 139 = -1) : qa_fX9_shownFor σ = (.inl (s 143), σ) := by
  unfold qa_fX9_shownFor qa_fX9_shownFor_19
  rw [ra_139 (qK_A h), qk_am1, if_neg c, if_neg (by decide), ra_143 (qK_A h)]
/-- the law's own questions -/
theorem l_told0 (h : qK N X s σ) : qa_fL_told (Int32.ofInt 0) σ = some (s 142, σ) := by
  unfold qa_fL_told qa_fL_told_39
  rw [if_neg (by decide), k_awaited h]
  by_cases c : s 142 = -1
  · rw [if_pos c, Option.bind_some]
    dsimp only
    rw [if_pos rfl, qk_am1, c]
  · rw [if_neg c, Option.bind_some]
theorem l_told1 (h : qK N X s σ) : qa_fL_told (Int32.ofInt 1) σ = some (s 139, σ) := by
  unfold qa_fL_told qa_fL_told_39
  rw [if_pos (by decide), if_neg (by decide), k_shown h]
  by_cases c : s 139 = -1
  · rw [if_pos c, Option.bind_some]
    dsimp only
    rw [if_pos rfl, qk_am1, c]
  · rw [if_neg c, Option.bind_some]
theorem l_told2 (h : qK N X s σ) : qa_fL_told (Int32.ofInt 2) σ = some (s 140, σ) := by
  unfold qa_fL_told qa_fL_told_39
  rw [if_pos (by decide), if_pos (by decide), if_neg (by decide), k_fading h]
  by_cases c : s 140 = -1
  · rw [if_pos c, Option.bind_some]
    dsimp only
    rw [if_pos rfl, qk_am1, c]
  · rw [if_neg c, Option.bind_some]
theorem l_told3 (h : qK N X s σ) : qa_fL_told (Int32.ofInt 3) σ = some (s 144, σ) := by
  unfold qa_fL_told qa_fL_told_39
  rw [if_pos (by decide), if_pos (by decide), if_pos (by decide), k_loading h]
  by_cases c : s 144 = -1
  · rw [if_pos c, Option.bind_some]
    dsimp only
    rw [if_pos rfl, qk_am1, c]
  · rw [if_neg c, Option.bind_some]
theorem l_show (h : qK N X s σ) : qa_fL_showPlace σ = some (s 138, σ) := by
  unfold qa_fL_showPlace
  rw [k_showPlace h]
  by_cases c : s 138 = -1
  · rw [if_pos c, Option.bind_some]
    dsimp only
    rw [if_pos rfl, qk_am1, c]
  · rw [if_neg c, Option.bind_some]
end QKA
