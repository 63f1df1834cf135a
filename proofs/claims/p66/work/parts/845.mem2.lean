/-! the memory as the law counts it (p66): all slides, and what is held against it -/
section QKF
variable {σ σ1 σ2 σ' : qa_T} {s t : qs} {N M : Nat} {X : Nat → Int32} {a x v x1 x2 x3 x4 : Int32} {K : Int32 → Int32 → Int32 → Int32 → Int32 → Int32 → qa_T → Option (Bool × qa_T)}
theorem zs_mono {f : Nat → Int} {a : Nat} : ∀ k : Nat, a ≤ k → (∀ j, j < k → 0 ≤ f j) → qr_zs f a ≤ qr_zs f k := by
  intro k
  induction k with
  | zero => intro h _; rw [show a = 0 by omega]; exact Int.le_refl _
  | succ k ih =>
    intro ha h
    by_cases e : a = k + 1
    · rw [e]; exact Int.le_refl _
    · have h1 := ih (by omega) (fun j hj => h j (by omega))
      have h2 := h k (by omega)
      have e2 : qr_zs f (k + 1) = qr_zs f k + f k := rfl
      omega
theorem zs_st {f : Nat → Int} {a : Nat} : ∀ k : Nat, a ≤ k → (∀ j, a ≤ j → j < k → f j = 0) → qr_zs f k = qr_zs f a := by
  intro k
  induction k with
  | zero => intro h _; rw [show a = 0 by omega]
  | succ k ih =>
    intro ha h
    by_cases e : a = k + 1
    · rw [e]
    · have h1 := ih (by omega) (fun j hj hj2 => h j hj (by omega))
      have h2 := h k (by omega) (by omega)
      have e2 : qr_zs f (k + 1) = qr_zs f k + f k := rfl
      omega
theorem bs_n (h : qK N X s σ) (hN : N + 1000 < 2147483647) : ∀ k : Nat, k ≤ 16 → (qv_bs s k).toInt = qr_zs (qv_b s) k := by
  have hv := h.2.2.2
  obtain ⟨b1, b2, b3⟩ := vq_b hv (qK_i h).2.2.2.2.2.2
  have h4 := hv.2.2.2.1
  intro k
  induction k with
  | zero => intro _; rfl
  | succ k ih =>
    intro hk
    have h1 := ih (by omega)
    have m1 := zs_mono (f := qv_b s) (a := k + 1) 16 hk (fun j hj => (h4.2 j hj).1)
    have m2 := zs_nn (f := qv_b s) k (fun j hj => (h4.2 j (by omega)).1)
    have e1 := h4.1
    have e2 : qr_zs (qv_b s) (k + 1) = qr_zs (qv_b s) k + (s (1 + 7 * k + 5)).toInt := rfl
    have e3 := (h4.2 k (by omega)).1
    have e4 : qv_bs s (k + 1) = qv_bs s k + s (1 + 7 * k + 5) := rfl
    rw [e4, qz_add (by omega) (by omega), h1, e2]
theorem m_loop (h0 : qn (s 0) ≤ 16) (h1 : s 0 = nI (qn (s 0))) (hend : ∀ (m : Nat) (σ : qa_T), qK N X s σ → qa_fL_isMemorySo_15 (m + 1) (qr_tk s (qn (s 0))) (nI (qv_cn s (qn (s 0)))) (qv_bs s (qn (s 0))) (nI (qv_du (qr_ln s) (qn (s 0)))) (Int32.ofInt 1) (nI (qn (s 0))) σ = some (true, σ)) : ∀ (m k : Nat) (σ : qa_T), qK N X s σ → k ≤ qn (s 0) → qn (s 0) - k < m → ∃ σ', qa_fL_isMemorySo_15 m (qr_tk s k) (nI (qv_cn s k)) (qv_bs s k) (nI (qv_du (qr_ln s) k)) (Int32.ofInt 1) (nI k) σ = some (true, σ') ∧ qK N X s σ' := by
  intro m
  induction m with
  | zero => intro k σ _ _ hm; omega
  | succ m ih =>
    intro k σ h hk hm
    by_cases c : k = qn (s 0)
    · rw [c]
      exact ⟨σ, hend m σ h, h⟩
    · obtain ⟨σ1, b1, b2⟩ := m_body (K := qa_fL_isMemorySo_15 m) (x1 := qr_tk s k) (x2 := nI (qv_cn s k)) (x3 := qv_bs s k) (x4 := nI (qv_du (qr_ln s) k)) h (show k < qn (s 0) by omega)
      obtain ⟨σ2, d1, d2⟩ := ih (k + 1) σ1 b2 (by omega) (by omega)
      refine ⟨σ2, ?_, d2⟩
      rw [qa_fL_isMemorySo_15, k_slides h, if_neg (by rw [h1]; exact nI_ge (by omega) (by omega))]
      have e1 : qv_cn s (k + 1) = qv_cn s k + (if qr_ld s k = true ∨ s 144 = nI k then 1 else 0) := rfl
      have e2 : qr_tk s (k + 1) = qr_tk s k + qr_tf s k := rfl
      have e3 : qv_bs s (k + 1) = qv_bs s k + s (1 + 7 * k + 5) := rfl
      have e4 : qv_du (qr_ln s) (k + 1) = qv_du (qr_ln s) k + qv_f (qr_ln s) k := rfl
      rw [e1, e2, e3, e4, ← nI_add, ← nI_add, ← nI_add] at d1
      exact b1.trans d1
/-- what fades, what is loaded and what is waited for -/
theorem m_416 (h : qK N X s σ) : qa_fL_isMemorySo_416 σ = some (true, σ) := by
  have hl := (qK_i h).2.2.2.1
  have hn := n16 h
  have hs := qK_s h
  have hi := qn_int hs.1
  unfold qa_fL_isMemorySo_416
  rw [l_told3 h, Option.bind_some]
  dsimp only
  by_cases c : s 144 < 0
  · rw [if_pos c]
    rfl
  · rw [qz_lt, qk_t0] at c
    have g := qn_of (x := s 144) (by omega)
    have g3 := qn_int (x := s 144) (by omega)
    have g5 : qn (s 144) < qn (s 0) := by have := hl.2.2.2.1; omega
    rw [if_neg (by rw [qz_lt, qk_t0]; exact c), l_told3 h, Option.bind_some]
    dsimp only
    have h3 := lo_n hl (show qn (s 144) < 16 by omega) g
    have e : qr_ld s (qn (s 144)) = false := by
      cases e : qr_ld s (qn (s 144))
      · rfl
      · rw [ld_i, h3] at e
        exact absurd e i10
    have k1 := k_isLoaded h g5
    rw [← g] at k1
    rw [k1, Option.bind_some]
    dsimp only
    rw [e, if_neg (not_not_intro (show qa_bi false = 0 from rfl))]
    rfl
theorem m_385 (h : qK N X s σ) : qa_fL_isMemorySo_385 σ = some (true, σ) ∧ qa_fL_isMemorySo_385_3 σ = some (true, σ) := by
  have hl := (qK_i h).2.2.2.1
  have hn := n16 h
  have hs := qK_s h
  have hi := qn_int hs.1
  have g : ((qa_fL_told (Int32.ofInt 0) σ).bind fun c14 =>
      if c14.1 < 0 then
        qa_fL_isMemorySo_416 c14.2
      else
        (qa_fL_told (Int32.ofInt 0) c14.2).bind fun c28 =>
        (some (qa_fX9_isLoaded c28.1 c28.2)).bind fun c30 => match c30 with
          | (.inl r32, σ33) =>
            if ¬ (qa_bi r32) = 0 then
              qa_fL_isMemorySo_440 σ33
            else
              (qa_fL_told (Int32.ofInt 3) σ33).bind fun c36 =>
              if c36.1 < 0 then
                qa_fL_isMemorySo_440 c36.2
              else
                qa_fL_isMemorySo_416 c36.2
          | (.inr E34, σ33) =>
            none) = some (true, σ) := by
    rw [l_told0 h, Option.bind_some]
    dsimp only
    by_cases c : s 142 < 0
    · rw [if_pos c]
      exact m_416 h
    · have c' := c
      rw [qz_lt, qk_t0] at c'
      have g := qn_of (x := s 142) (by omega)
      have g3 := qn_int (x := s 142) (by omega)
      have g5 : qn (s 142) < qn (s 0) := by have := hl.2.1; omega
      rw [if_neg c, l_told0 h, Option.bind_some]
      dsimp only
      have h3 := hl.2.2.2.2.2 (qn (s 142)) (by omega) (Or.inl ⟨by omega, by omega⟩)
      have e : qr_ld s (qn (s 142)) = false := by
        cases e : qr_ld s (qn (s 142))
        · rfl
        · rw [ld_i, h3] at e
          exact absurd e i10
      have k1 := k_isLoaded h g5
      rw [← g] at k1
      have h4 := k_not_m h (fun t => by rw [qz_m1] at t; omega)
      rw [qz_m1] at h4
      have h5 := hl.2.2.1
      rw [k1, Option.bind_some]
      dsimp only
      rw [e, if_neg (not_not_intro (show qa_bi false = 0 from rfl)), l_told3 h, Option.bind_some]
      dsimp only
      rw [if_neg (by rw [qz_lt, qk_t0]; omega)]
      exact m_416 h
  constructor
  · unfold qa_fL_isMemorySo_385
    rw [if_neg (by decide)]
    exact g
  · unfold qa_fL_isMemorySo_385_3
    rw [if_neg (by decide)]
    exact g
theorem m_357 (h : qK N X s σ) : qa_fL_isMemorySo_357 σ = some (true, σ) ∧ qa_fL_isMemorySo_357_3 σ = some (true, σ) := by
  have hl := (qK_i h).2.2.2.1
  have h5 := hl.2.2.1
  have g : (if ¬ (qa_fX9_loadLeft σ) = 0 then
        qa_fL_isMemorySo_372 σ
      else
        qa_fL_isMemorySo_372_1 σ) = some (true, σ) := by
    rw [k_loadLeft h]
    by_cases c : s 145 = 0
    · rw [if_neg (not_not_intro c)]
      unfold qa_fL_isMemorySo_372_1
      rw [l_told3 h, Option.bind_some]
      dsimp only
      rw [if_neg (fun t => by
        rw [qz_le, qk_t0] at t
        have := (hl.2.2.2.2.1 t).1
        rw [c, qk_t0] at this
        omega)]
      exact (m_385 h).2
    · rw [if_pos c]
      unfold qa_fL_isMemorySo_372
      rw [l_told3 h, Option.bind_some]
      dsimp only
      have h4 : ¬ s 144 = -1 := fun t => c (h.2.2.2.2.2.1 t)
      rw [qz_m1] at h4
      rw [if_pos (by rw [qz_le, qk_t0]; omega)]
      exact (m_385 h).1
  constructor
  · unfold qa_fL_isMemorySo_357
    rw [if_neg (by decide)]
    exact g
  · unfold qa_fL_isMemorySo_357_3
    rw [if_neg (by decide)]
    exact g
theorem m_325 (h : qK N X s σ) : qa_fL_isMemorySo_325_1 σ = some (true, σ) := by
  have hw := (qK_i h).2.2.1
  have w3 := hw.2.2.1
  have w7 := hw.2.2.2.2.2.2.1
  unfold qa_fL_isMemorySo_325_1
  rw [if_neg (by decide), k_fadeLeft h]
  by_cases c : s 141 = 0
  · rw [if_neg (not_not_intro c)]
    unfold qa_fL_isMemorySo_344_1
    rw [l_told2 h, Option.bind_some]
    dsimp only
    rw [c, qk_t0] at w7
    rw [if_neg (fun t => by rw [qz_le, qk_t0] at t; omega)]
    exact (m_357 h).2
  · rw [if_pos c]
    unfold qa_fL_isMemorySo_344
    rw [l_told2 h, Option.bind_some]
    dsimp only
    have c2 : ¬ (s 141).toInt = 0 := fun t => c (qz_00.mpr t)
    rw [if_pos (by rw [qz_le, qk_t0]; omega)]
    exact (m_357 h).1
theorem l_memorySo (h : qK N X s σ) (hN : N + 1000 < 2147483647) : ∃ σ', qa_fL_isMemorySo σ = some (true, σ') ∧ qK N X s σ' := by
  have hn := n16 h
  have hs := qK_s h
  have hi := qn_int hs.1
  have hv := h.2.2.2
  obtain ⟨b1, b2, b3⟩ := vq_b hv (qK_i h).2.2.2.2.2.2
  have h4 := hv.2.2.2.1
  have h5 := hv.2.2.2.2.1
  have hl := (qK_i h).2.2.2.1
  have eb := bs_n h hN (qn (s 0)) hn
  have eb2 : qr_zs (qv_b s) 16 = qr_zs (qv_b s) (qn (s 0)) := zs_st 16 hn (fun j hj hj2 => by
    unfold qv_b
    rw [(h4.2 j hj2).2 (by omega)]
    rfl)
  have ec2 : qr_zs (qv_c s) 16 = qr_zs (qv_c s) (qn (s 0)) := zs_st 16 hn (fun j hj hj2 => by
    unfold qv_c
    rw [if_neg]
    rintro (y | y)
    · rw [ld_i, (hs.2.2 j hj2).2.2.2.2.2 (by omega)] at y
      exact i10 y
    · have := hl.2.2.2.1
      rw [y, qz_nI (by omega)] at this
      omega)
  have ecn := ti_n hs (qn (s 0))
  have e173 : s 173 = qv_bs s (qn (s 0)) := by rw [qz_eq, eb, ← eb2, h4.1]
  have elen := ln_len s
  have edu := du_all (n := qn (s 0)) (qr_ln s) (ln_nd s) (fun j hj => (ln_mem.mp hj).1)
  have edu2 : qv_du (qr_ln s) (qn (s 0)) = 2 ^ (qr_ln s).length - 1 := by omega
  have f9 : ¬ s 171 < s 172 := fun t => by
    rw [qz_lt] at t
    have := h5.2.2.1
    omega
  have e171 : s 171 - qv_bs s (qn (s 0)) = nI (qv_cn s (qn (s 0))) := by
    have hz := zs_nn (f := qv_c s) (qn (s 0)) (fun j hj => (vc_b s j).1)
    have h51 := h5.1
    rw [← e173, qz_eq, qz_sub (by omega) (by omega), qz_nI (by omega)]
    omega
  have fm : ¬ s 163 < qr_tk s (qn (s 0)) := fun t => by
    rw [qz_lt] at t
    have := h.2.2.1.1.2
    unfold qi_tm qr_ta at this
    omega
  obtain ⟨σ', g1, g2⟩ := m_loop hn (qi_n hs).1 (fun m σ h => by
    rw [qa_fL_isMemorySo_15, k_slides h, if_pos (by rw [← (qi_n hs).1]; exact Int32.le_refl _), if_neg (by decide), edu2, if_neg (not_not_intro (du_a _ (by omega))), k_taken h, Option.bind_some]
    try dsimp only
    rw [if_neg (not_not_intro (show qr_ta s = qr_tk s (qn (s 0)) from rfl)), k_account h, if_neg (not_not_intro (show qr_ta s = qr_tk s (qn (s 0)) from rfl)), k_memory h, if_neg fm, k_burnings h, if_neg (not_not_intro e173), k_loads h, if_neg (not_not_intro e171), k_warm h, if_neg f9]
    exact m_325 h) qa_gu 0 σ h (by omega) (by unfold qa_gu; omega)
  refine ⟨σ', ?_, g2⟩
  unfold qa_fL_isMemorySo
  exact g1
end QKF
