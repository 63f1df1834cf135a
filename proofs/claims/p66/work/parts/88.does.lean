/-! what the law of p66 does in a step (1) -/
section QKI
variable {σ σ1 σ2 σ' : qa_T} {s t : qs} {N M : Nat} {X : Nat → Int32} {a x v : Int32}
theorem b1 : (Int32.ofInt 1) = nI 1 := rfl
theorem lt_i {x y : Int32} : (x < y) = (x.toInt < y.toInt) := propext (qz_lt x y)
/-- a slide is put into the programme -/
theorem l_inserted {p j : Nat} (h : qK N X s σ) (hp : p ≤ qn (s 113)) (hj : j < qn (s 0)) (hc : qn (s 113) < 24) (hN : N + 1000 < 2147483647) : ∃ t σ', qa_fL_isInserted (nI p) (nI j) σ = some (true, σ') ∧ qK N X t σ' := by
  obtain ⟨σ1, g1, g2⟩ := k_insert h hp hj hc hN
  have hp1 := (qK_i h).2.1
  have i0 := qn_int hp1.1
  have hI2 := ip_I (p := p) (a := j) h.2.2.1.1 hj (by omega) (by omega)
  have e113 : qr_bg (qr_ip s p j) 113 = s 113 + 1 := by
    rw [bg_o hI2.1 (by omega)]
    unfold qr_ip
    rw [pk_un (by omega), pk_us]
  have e138 : qr_bg (qr_ip s p j) 138 = s 138 + (if s 138 = -1 ∨ (s 138).toInt < (p : Int) then 0 else 1) := by
    rw [bg_o hI2.1 (by omega)]
    unfold qr_ip
    rw [pk_us]
  have ep : qr_bg (qr_ip s p j) (114 + p) = nI j := by
    rw [bg_o hI2.1 (by omega)]
    unfold qr_ip
    rw [pk_un (by omega), pk_un (by omega), if_pos rfl]
  have hq : p < qn (qr_bg (qr_ip s p j) 113) := by
    rw [e113, (qi_p hp1).1, show (1 : Int32) = nI 1 from rfl, nI_add, qn_nI (by omega)]
    omega
  have m1 := hp1.2.2.1
  have ip := qz_nI (k := p) (by omega)
  refine ⟨_, σ1, ?_, g2⟩
  unfold qa_fL_isInserted
  rw [l_show h, Option.bind_some]
  dsimp only
  rw [k_places h, g1, Option.bind_some]
  dsimp only
  rw [qk_a1, e113, if_neg (not_not_intro rfl), k_places g2, e113, if_neg (not_not_intro rfl), k_slideAt g2 hq, Option.bind_some]
  dsimp only
  rw [ep, if_neg (not_not_intro rfl), l_show g2, Option.bind_some]
  dsimp only
  unfold qa_fL_isInserted_60
  rw [e138]
  by_cases c : s 138 < nI p
  · rw [if_pos c]
    rw [lt_i, ip] at c
    rw [if_pos (Or.inr c), Int32.add_zero, if_neg (not_not_intro rfl)]
  · rw [if_neg c]
    rw [lt_i, ip] at c
    have cn : ¬ (s 138 = -1 ∨ (s 138).toInt < (p : Int)) := by
      rintro (y | y)
      · rw [qz_m1] at y; omega
      · exact c y
    rw [if_neg cn, if_neg (not_not_intro rfl)]
/-- a place is taken out -/
theorem l_taken {p : Nat} (h : qK N X s σ) (hp : p < qn (s 113)) (hN : N + 1000 < 2147483647) : ∃ t σ', qa_fL_isTaken (nI p) σ = some (true, σ') ∧ qK N X t σ' := by
  obtain ⟨σ1, g1, g2⟩ := k_takeOut h hp hN
  have hp1 := (qK_i h).2.1
  have hp24 := qi_p hp1
  have i0 := qn_int hp1.1
  have hI2 := rp_I (p := p) h.2.2.1.1 (by omega)
  have e113 : qr_bg (qr_rp s p) 113 = s 113 - 1 := by
    rw [bg_o hI2.1 (by omega)]
    unfold qr_rp
    rw [pk_un (by omega), pk_us]
  have e138 : qr_bg (qr_rp s p) 138 = s 138 - (if s 138 = -1 ∨ (s 138).toInt < (p : Int) then 0 else 1) := by
    rw [bg_o hI2.1 (by omega)]
    unfold qr_rp
    rw [pk_us]
  have m1 := hp1.2.2.1
  have ip := qz_nI (k := p) (by omega)
  refine ⟨_, σ1, ?_, g2⟩
  unfold qa_fL_isTaken
  rw [l_show h, Option.bind_some]
  dsimp only
  rw [k_places h, k_slideAt h hp, Option.bind_some]
  dsimp only
  rw [g1, Option.bind_some]
  dsimp only
  rw [qk_a1, if_neg (not_not_intro rfl), k_places g2, e113, if_neg (not_not_intro rfl), l_show g2, Option.bind_some]
  dsimp only
  unfold qa_fL_isTaken_53
  rw [e138]
  by_cases c : s 138 < nI p
  · rw [if_pos c]
    rw [lt_i, ip] at c
    rw [if_pos (Or.inr c), Int32.sub_zero, if_neg (not_not_intro rfl)]
  · rw [if_neg c]
    rw [lt_i, ip] at c
    have cn : ¬ (s 138 = -1 ∨ (s 138).toInt < (p : Int)) := by
      rintro (y | y)
      · rw [qz_m1] at y; omega
      · exact c y
    rw [if_neg cn, if_neg (not_not_intro rfl)]
/-- a slide is burnt -/
theorem l_burnt {j : Nat} (h : qK N X s σ) (hj : j < qn (s 0)) (hc : qr_cb s j = true) (hN : N + 1000 < 2147483647) : ∃ t σ', qa_fL_isBurnt (nI j) σ = some (true, σ') ∧ qK N X t σ' := by
  obtain ⟨σ1, g1, g2⟩ := k_burn h hj hc hN
  have hn := n16 h
  have hj16 : j < 16 := by omega
  have hI2 := bu_I h.2.2.1.1 hj hc
  obtain ⟨b1, b2, b3⟩ := vq_b h.2.2.2 (qK_i h).2.2.2.2.2.2
  have hB := bu_bg h.2.2.1 hj hc
  have fB : ∀ i, ¬ i = 144 → ¬ i = 145 → ¬ i = 171 → ¬ i = 172 → (∀ b, b < 16 → ¬ i = 1 + 7 * b + 4) → qr_bg (qr_bu s j) i = qr_bu s j i := fun i x1 x2 x3 x4 x5 => by
    rcases hB with e | ⟨b, hb, e⟩
    · rw [e]
    · rw [e, s0_o x1 x2 x3 x4 (x5 b hb)]
  have eW : ∀ i, (i = 0 ∨ ∃ k w, k < 16 ∧ i = 1 + 7 * k + w ∧ (w < 3 ∨ w = 6)) → qr_bg (qr_bu s j) i = qr_bu s j i := fun i hi => bg_w hI2.1 hi
  have e0 : qr_bg (qr_bu s j) 0 = s 0 := by rw [eW 0 (Or.inl rfl), bu_o (by omega) (by omega)]
  have hj2 : j < qn (qr_bg (qr_bu s j) 0) := by rw [e0]; exact hj
  have e5 : qr_bg (qr_bu s j) (1 + 7 * j + 5) = s (1 + 7 * j + 5) + 1 := by
    rw [fB _ (by omega) (by omega) (by omega) (by omega) (fun b hb => by omega), bu_5 hj16 hj16, if_pos rfl]
  have e3 : qr_bg (qr_bu s j) (1 + 7 * j + 3) = 0 := by
    rw [fB _ (by omega) (by omega) (by omega) (by omega) (fun b hb => by omega), bu_3 hj16, if_pos rfl]
  have ec : qr_bg (qr_bu s j) (1 + 7 * j) = s (1 + 7 * j) := by rw [bg_c hI2.1 hj16, bu_o (by omega) (by omega)]
  have e173 : qr_bg (qr_bu s j) 173 = s 173 + 1 := by
    rw [fB _ (by omega) (by omega) (by omega) (by omega) (fun b hb => by omega), bu_173]
  have e166 : qr_bg (qr_bu s j) 166 = s 166 := by
    rw [fB _ (by omega) (by omega) (by omega) (by omega) (fun b hb => by omega), bu_o (by omega) (by omega)]
  have eg : qr_bg (qr_bu s j) 144 = nI j ∨ qr_bg (qr_bu s j) (1 + 7 * j + 4) = s 166 := by
    rcases hB with e | ⟨b, hb, e⟩
    · right
      rw [e, bu_4 hj16 hj16, if_pos rfl]
    · by_cases c : b = j
      · left
        subst c
        rw [e]
        unfold qr_s0
        simp (disch := omega) only [pk_us, pk_un, qz_ue]
      · right
        rw [e, s0_o (by omega) (by omega) (by omega) (by omega) (by omega), bu_4 hj16 hj16, if_pos rfl]
  have hl : qr_ld (qr_bg (qr_bu s j)) j = false := by
    cases e : qr_ld (qr_bg (qr_bu s j)) j
    · rfl
    · rw [ld_i, e3] at e
      exact absurd e i10
  have f1 : ¬ s 173 + 1 ≤ s 173 := fun t => by
    rw [qz_le, qz_p1 (by omega)] at t
    omega
  refine ⟨_, σ1, ?_, g2⟩
  unfold qa_fL_isBurnt
  rw [k_burntTimes h hj, Option.bind_some]
  dsimp only
  rw [k_burnings h, g1, Option.bind_some]
  dsimp only
  rw [k_costOf g2 hj2, Option.bind_some]
  dsimp only
  rw [ec, if_neg (not_not_intro rfl), k_burntTimes g2 hj2, Option.bind_some]
  dsimp only
  rw [e5, qk_a1, if_neg (not_not_intro rfl), k_burnings g2, e173, if_neg f1, k_isLoaded g2 hj2, Option.bind_some]
  dsimp only
  rw [hl, if_neg (not_not_intro (show qa_bi false = 0 from rfl)), l_told3 g2, Option.bind_some]
  dsimp only
  by_cases c : qr_bg (qr_bu s j) 144 = nI j
  · rw [if_pos c]
    rfl
  · rw [if_neg c, k_glowOf g2 hj2, Option.bind_some]
    dsimp only
    rw [eg.resolve_left c, k_glow g2, e166, if_neg (not_not_intro rfl)]
    rfl
/-- ticks go by -/
theorem l_ticked {j : Nat} (h : qK N X s σ) (hj : 1 ≤ j) (hj2 : j ≤ 100) (hN : N + 1000 < 2147483647) : ∃ t σ', qa_fL_isTicked (nI j) σ = some (true, σ') ∧ qK (N + 4 * j) X t σ' := by
  obtain ⟨σ1, g1, g2⟩ := k_tick h hj hj2 hN
  obtain ⟨e1, e2, e3⟩ := ti_t j N N s h.2.2.1.1 h.2.2.2 (by omega) (by omega)
  have hl := ti_le j s
  have h8 := h.2.2.2.2.2.2.2.2
  have ij := qz_nI (k := j) (by omega)
  refine ⟨_, σ1, ?_, g2⟩
  unfold qa_fL_isTicked
  dsimp only
  rw [k_time h, k_waited h, g1, Option.bind_some]
  dsimp only
  rw [if_neg (fun t => by rw [lt_i, qk_t0, qz_nI (by omega)] at t; omega), k_time g2, if_neg (not_not_intro e1), k_waited g2, if_neg (fun t => by rw [lt_i] at t; omega), if_neg (fun t => by
    rw [lt_i, qz_add (by unfold qv_8 at h8; omega) (by unfold qv_8 at h8; omega), ij] at t
    omega)]
/-- the slide that is waited for is shown -/
theorem l_awaited (h : qK N X s σ) (c : ¬ s 142 = -1) (hN : N + 2000 < 2147483647) : ∃ t σ', qa_fL_isAwaited σ = some (true, σ') ∧ qK (N + 164) X t σ' := by
  have h4 := k_not_m h c
  have hI := h.2.2.1.1
  have hW := W_b hI.1 c h4
  obtain ⟨σ1, p1, p2⟩ := k_byTicks h c (by omega)
  obtain ⟨w, hw⟩ : ∃ w, qr_wn s = w + 1 := ⟨qr_wn s - 1, by have := qn_int (x := qr_W s) (by omega); unfold qr_wn; omega⟩
  have hw40 : w + 1 ≤ 40 := by have := qn_int (x := qr_W s) (by omega); unfold qr_wn at hw; omega
  -- the last tick
  have last : ∀ (M : Nat) (u : qs) (τ : qa_T), qK M X u τ → M + 1000 < 2147483647 → ¬ u 142 = -1 → qr_wn u = 1 → u 142 = s 142 → ∃ t σ', qa_fL_isAwaited_77 (s 142) (Int32.ofInt 1) τ = some (true, σ') ∧ qK (M + 4) X t σ' := fun M u τ hu hM hc2 hw1 hu2 => by
    have hu4 := k_not_m hu hc2
    obtain ⟨σ3, q1, q2⟩ := k_tick (N := M) (j := 1) hu (by omega) (by omega) (by omega)
    obtain ⟨y1, y2⟩ := (wt_s hu.2.2.1.1 hc2 hu4 (by omega)).1 hw1
    obtain ⟨z1, z2⟩ := tc_s hu.2.2.1.1 hc2 hu4 (by omega) hw1
    have et : qr_ti 1 u = ((qr_tc u).1 + 0, (qr_tc u).2) := rfl
    rw [et] at q1 q2
    dsimp only at q1 q2
    refine ⟨_, σ3, ?_, q2⟩
    have q3 : qa_fX9_tick (Int32.ofInt 1) τ = some (.inl (nI ((qr_tc u).1 + 0)), σ3) := q1
    unfold qa_fL_isAwaited_77
    rw [if_neg (by decide), q3, Option.bind_some]
    dsimp only
    rw [y1, if_neg (not_not_intro (show nI (1 + 0) = Int32.ofInt 1 from rfl)), l_told0 q2, Option.bind_some]
    dsimp only
    rw [y2, if_neg (by decide), l_told1 q2, Option.bind_some]
    dsimp only
    rw [z1, hu2, if_neg (not_not_intro rfl), k_shownFor q2 (by rw [z1]; exact hc2), Option.bind_some]
    dsimp only
    rw [z2, if_neg (not_not_intro rfl)]
  have iw := qz_nI (k := w + 1) (by omega)
  have f41 : ¬ ((Int8.ofInt 41).toInt32) ≤ nI (w + 1) := fun t => by
    rw [qz_le, iw, show (((Int8.ofInt 41).toInt32)).toInt = 41 from rfl] at t
    omega
  have start : ∀ F : Option (Bool × qa_T), qa_fL_isAwaited_34_1 (s 142) (nI (w + 1)) σ1 = F → qa_fL_isAwaited σ = F := fun F hF => by
    unfold qa_fL_isAwaited
    rw [l_told0 h, Option.bind_some]
    dsimp only
    rw [p1, Option.bind_some]
    dsimp only
    rw [k_bySums p2 c, Option.bind_some]
    dsimp only
    rw [if_neg (not_not_intro rfl), hw, if_neg (nI_nle (by omega) (by omega)), if_neg f41]
    exact hF
  by_cases e : w = 0
  · subst e
    obtain ⟨t, σ2, q1, q2⟩ := last N s σ1 p2 (by omega) c hw rfl
    refine ⟨t, σ2, start _ ?_, qK_u q2 (by omega)⟩
    unfold qa_fL_isAwaited_34_1
    rw [if_pos (by decide)]
    exact q1
  · obtain ⟨i1, i2, i3, i4⟩ := ti_w w N s hI c h4 hw (by omega)
    obtain ⟨σ2, g1, g2⟩ := k_tick (j := w) p2 (by omega) (by omega) (by omega)
    have c2 : ¬ (qr_ti w s).2 142 = -1 := by rw [i2]; exact c
    obtain ⟨t, σ3, q1, q2⟩ := last (N + 4 * w) (qr_ti w s).2 σ2 g2 (by omega) c2 i4 i2
    refine ⟨t, σ3, start _ ?_, qK_u q2 (by omega)⟩
    unfold qa_fL_isAwaited_34_1
    rw [if_neg (fun t => by rw [qz_le, iw, show ((Int32.ofInt 1)).toInt = 1 from rfl] at t; omega), if_neg (by decide), sub_1 (by omega), g1, Option.bind_some]
    dsimp only
    rw [i1, if_neg (not_not_intro (show nI 0 = 0 from rfl)), l_told0 g2, Option.bind_some]
    dsimp only
    rw [i2, if_neg (not_not_intro rfl), k_bySums g2 c2, Option.bind_some]
    dsimp only
    rw [i4, if_neg (not_not_intro (show nI 1 = Int32.ofInt 1 from rfl))]
    unfold qa_fL_isAwaited_76_1
    exact q1
end QKI
