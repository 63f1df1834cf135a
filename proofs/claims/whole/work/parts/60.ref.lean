/-! the reference's own methods: a tick, ticks -/
section QRR
variable {ρ : qa_T} {s t : qs} {y : Int32} {N : Nat}
noncomputable def rx_2 (σ14 : qa_T) : Option qa_T :=
    if (σ14.1 (10, 22) (((Int16.ofInt 144).toInt32)).toNatClampNeg) = (Int32.ofInt (-1)) then
      qa_fX10_ticks_253  σ14
    else
      let σ26 := qa_wi σ14 (10, 22) (((Int16.ofInt 145).toInt32)).toNatClampNeg ((σ14.1 (10, 22) (((Int16.ofInt 145).toInt32)).toNatClampNeg) - (Int32.ofInt 1))
      if ¬ (σ26.1 (10, 22) (((Int16.ofInt 145).toInt32)).toNatClampNeg) = 0 then
        qa_fX10_ticks_253  σ26
      else
        let v28 : Int32 := (σ26.1 (10, 22) (((Int16.ofInt 144).toInt32)).toNatClampNeg)
        let σ29 := qa_wi σ26 (10, 22) (((Int16.ofInt 144).toInt32)).toNatClampNeg (Int32.ofInt (-1))
        (qa_fX10_lay v28 (Int32.ofInt 3) (Int32.ofInt 1) σ29).bind fun c30 =>
        (qa_fX10_uses v28 c30).bind fun c32 =>
        if ¬ (c32.1 (10, 22) (((Int16.ofInt 142).toInt32)).toNatClampNeg) = v28 then
          qa_fX10_ticks_253  c32
        else
          (qa_fX10_shows v28 c32).bind fun c35 =>
          qa_fX10_ticks_253  c35
theorem rf_170 {v : Int32} : qa_fX10_ticks_170 v 140 (qw ρ s y) = rx_2 (qw ρ (upd s 140 v) y) := by
  unfold qa_fX10_ticks_170 rx_2
  rw [if_neg (not_not_intro qk_in140)]
  dsimp only
  rw [qk_n140, qw_wi]
theorem rf_138 {v : Int32} : qa_fX10_ticks_138 v (s 141) 141 (qw ρ s y) = rx_2 (qw ρ (upd (upd s 141 (s 141 - v)) 140 (if s 141 - v ≤ 0 then -1 else s 140)) y) := by
  unfold qa_fX10_ticks_138
  rw [if_neg (not_not_intro qk_in141)]
  dsimp only
  rw [qk_n141, qw_wi, qw_s, qk_c141, qk_n141, pk_us, qk_c140, qk_n140, qk_am1, rf_170, rf_170, pk_un (by omega)]
  split <;> rfl
theorem rf_t70 {n : Nat} (hn : n ≤ 16) (h0 : s 0 = nI n) : ∀ m k : Nat, k ≤ n → n - k < m → qa_fX10_ticks_70 m (nI k) (qw ρ (qr_em s k) y) = rx_2 (qw ρ (qr_fd (qr_em s n)) y) := by
  intro m
  induction m with
  | zero => intro k h1 h2; omega
  | succ m ih =>
    intro k hk hm
    have e0 : qr_em s k 0 = nI n := by rw [em_o s (by omega) k (by omega), h0]
    rw [qa_fX10_ticks_70, qw_s, qk_a0, qk_n0, e0]
    by_cases e : k = n
    · subst e
      rw [if_pos (nI_le (Nat.le_refl _) (by omega)), qk_c141, qk_n141, qk_a1, rf_138, rf_138]
      unfold qr_fd
      split <;> rfl
    · have hk2 : k < 16 := by omega
      have e4 : qr_em s k (1 + 7 * k + 4) = s (1 + 7 * k + 4) := by rw [em_4, if_neg (by omega)]
      rw [if_neg (nI_ge (by omega) (by omega)), qk_a4, rf_of4 hk2, e4]
      unfold qa_fX10_ticks_104
      rw [qk_a1, nI_1]
      simp only [Option.bind_some, rf_lay4 hk2]
      have h1 := ih (k + 1) (by omega) (by omega)
      rw [em_s] at h1
      by_cases c : s (1 + 7 * k + 4) ≤ 0
      · rw [if_pos c] at h1 ⊢
        exact h1
      · rw [if_neg c] at h1 ⊢
        exact h1
theorem rf_t1 {n : Nat} (hn : n ≤ 16) (h0 : s 0 = nI n) : qa_fX10_ticks (qw ρ s y) = rx_2 (qw ρ (qr_t1 s) y) := by
  have h1 : qr_t0 s 0 = nI n := by rw [t0_o (by omega) (by omega) (by omega), h0]
  have h2 := rf_t70 (ρ := ρ) (y := y) hn h1 qa_fu 0 (by omega) (by unfold qa_fu; omega)
  unfold qr_t1
  rw [h0, qn_nI (by omega), ← h2]
  unfold qa_fX10_ticks qa_fX10_ticks_38 qa_fX10_ticks_66
  simp only [qk_am1, qk_a0, qk_a1, qk_a2, qk_a3, qk_a4, qk_a5, qk_b6, qk_b7, qk_b10, qk_b15, qk_b16, qk_b20, qk_b24, qk_b25, qk_b33, qk_b48, qk_b50, qk_b52, qk_b57, qk_b59, qk_b60, qk_b97, qk_b98, qk_b100, qk_b110, qk_b112, qk_b113, qk_b114, qk_b116, qk_b126, qk_c138, qk_c139, qk_c140, qk_c141, qk_c142, qk_c143, qk_c144, qk_c145, qk_c146, qk_c147, qk_c150, qk_c163, qk_c164, qk_c165, qk_c166, qk_c167, qk_c168, qk_c169, qk_c170, qk_c171, qk_c172, qk_c173, qk_c174, qk_c175, qk_c176, qk_c400, qk_c880, qk_c1000, qk_c1023, qw_s, qk_n0, qk_n1, qk_n2, qk_n3, qk_n4, qk_n5, qk_n6, qk_n7, qk_n10, qk_n15, qk_n16, qk_n20, qk_n24, qk_n25, qk_n33, qk_n48, qk_n50, qk_n52, qk_n57, qk_n59, qk_n60, qk_n97, qk_n98, qk_n100, qk_n110, qk_n112, qk_n113, qk_n114, qk_n116, qk_n126, qk_n138, qk_n139, qk_n140, qk_n141, qk_n142, qk_n143, qk_n144, qk_n145, qk_n146, qk_n147, qk_n150, qk_n163, qk_n164, qk_n165, qk_n166, qk_n167, qk_n168, qk_n169, qk_n170, qk_n171, qk_n172, qk_n173, qk_n174, qk_n175, qk_n176, qk_n400, qk_n880, qk_n1000, qk_n1023, qw_wi, qk_in174, qk_in143, not_true, if_false]
  simp (disch := omega) only [pk_us, pk_un, qz_ue]
  unfold qr_em qr_t0
  by_cases c1 : s 142 = -1 <;> by_cases c2 : s 139 = -1 <;> simp only [c1, c2, if_true, if_false] <;> rfl
theorem rf_t2 (h : qi_A N s) : rx_2 (qw ρ s y) = qa_fX10_ticks_253 (qw ρ (qr_t2 s).2 (y + nI (qr_bt (qr_t2 s).1))) := by
  obtain ⟨hs, hp, hw, hl, hq, he, hc⟩ := h
  have hn := (qi_n hs).2
  have hi := qn_int hs.1
  unfold rx_2 qr_t2
  simp only [qk_am1, qk_a0, qk_a1, qk_a2, qk_a3, qk_a4, qk_a5, qk_b6, qk_b7, qk_b10, qk_b15, qk_b16, qk_b20, qk_b24, qk_b25, qk_b33, qk_b48, qk_b50, qk_b52, qk_b57, qk_b59, qk_b60, qk_b97, qk_b98, qk_b100, qk_b110, qk_b112, qk_b113, qk_b114, qk_b116, qk_b126, qk_c138, qk_c139, qk_c140, qk_c141, qk_c142, qk_c143, qk_c144, qk_c145, qk_c146, qk_c147, qk_c150, qk_c163, qk_c164, qk_c165, qk_c166, qk_c167, qk_c168, qk_c169, qk_c170, qk_c171, qk_c172, qk_c173, qk_c174, qk_c175, qk_c176, qk_c400, qk_c880, qk_c1000, qk_c1023, qw_s, qk_n0, qk_n1, qk_n2, qk_n3, qk_n4, qk_n5, qk_n6, qk_n7, qk_n10, qk_n15, qk_n16, qk_n20, qk_n24, qk_n25, qk_n33, qk_n48, qk_n50, qk_n52, qk_n57, qk_n59, qk_n60, qk_n97, qk_n98, qk_n100, qk_n110, qk_n112, qk_n113, qk_n114, qk_n116, qk_n126, qk_n138, qk_n139, qk_n140, qk_n141, qk_n142, qk_n143, qk_n144, qk_n145, qk_n146, qk_n147, qk_n150, qk_n163, qk_n164, qk_n165, qk_n166, qk_n167, qk_n168, qk_n169, qk_n170, qk_n171, qk_n172, qk_n173, qk_n174, qk_n175, qk_n176, qk_n400, qk_n880, qk_n1000, qk_n1023, qw_wi, pk_us]
  by_cases c1 : s 144 = -1
  · rw [if_pos c1, if_pos c1]
    dsimp only [qr_bt]
    rw [nI_0, Int32.add_zero]
  · rw [if_neg c1, if_neg c1]
    have g1 : 0 ≤ (s 144).toInt := by
      have := hl.2.2.1
      rw [qz_m1] at c1
      omega
    have g3 := qn_int g1
    have ha : qn (s 144) < 16 := by have := hl.2.2.2.1; omega
    have g4 := qn_of g1
    by_cases c2 : s 145 - 1 = 0
    · rw [if_neg (not_not_intro c2), if_neg (not_not_intro c2)]
      have e1 : upd s 145 (s 145 - 1) 144 = nI (qn (s 144)) := by rw [pk_un (by omega)]; exact g4
      have e2 : qr_us (upd (upd (upd s 145 (s 145 - 1)) 144 (-1)) (1 + 7 * qn (s 144) + 3) 1) (qn (s 144)) 142 = s 142 := by
        rw [us_o (by omega) (by omega)]
        simp (disch := omega) only [pk_us, pk_un, qz_ue]
      simp only [e1, rf_lay3 ha, Option.bind_some, rf_us ha, qw_s, e2, rf_sh ha]
      by_cases c3 : s 142 = s 144
      · rw [if_neg (by rw [c3]; exact not_not_intro g4), if_neg (not_not_intro c3)]
        rfl
      · rw [if_pos (by rw [← g4]; exact c3), if_pos c3]
        dsimp only [qr_bt, qr_l0]
        rw [nI_0, Int32.add_zero]
    · rw [if_pos c2, if_pos c2]
      dsimp only [qr_bt]
      rw [nI_0, Int32.add_zero]
theorem rf_t3 (h : qi_A N s) (hN : N + 2 < 2147483647) : qa_fX10_ticks_253 (qw ρ s y) = some (qw ρ (qr_bg (qr_t3 s).2) (y + nI (qr_bt (qr_t3 s).1))) := by
  have h3 := t3_A h hN
  rw [← rf_bg h3]
  unfold qa_fX10_ticks_253 qa_fX10_ticks_322 qr_t3
  simp only [qk_am1, qk_a0, qk_a1, qk_a2, qk_a3, qk_a4, qk_a5, qk_b6, qk_b7, qk_b10, qk_b15, qk_b16, qk_b20, qk_b24, qk_b25, qk_b33, qk_b48, qk_b50, qk_b52, qk_b57, qk_b59, qk_b60, qk_b97, qk_b98, qk_b100, qk_b110, qk_b112, qk_b113, qk_b114, qk_b116, qk_b126, qk_c138, qk_c139, qk_c140, qk_c141, qk_c142, qk_c143, qk_c144, qk_c145, qk_c146, qk_c147, qk_c150, qk_c163, qk_c164, qk_c165, qk_c166, qk_c167, qk_c168, qk_c169, qk_c170, qk_c171, qk_c172, qk_c173, qk_c174, qk_c175, qk_c176, qk_c400, qk_c880, qk_c1000, qk_c1023, qw_s, qk_n0, qk_n1, qk_n2, qk_n3, qk_n4, qk_n5, qk_n6, qk_n7, qk_n10, qk_n15, qk_n16, qk_n20, qk_n24, qk_n25, qk_n33, qk_n48, qk_n50, qk_n52, qk_n57, qk_n59, qk_n60, qk_n97, qk_n98, qk_n100, qk_n110, qk_n112, qk_n113, qk_n114, qk_n116, qk_n126, qk_n138, qk_n139, qk_n140, qk_n141, qk_n142, qk_n143, qk_n144, qk_n145, qk_n146, qk_n147, qk_n150, qk_n163, qk_n164, qk_n165, qk_n166, qk_n167, qk_n168, qk_n169, qk_n170, qk_n171, qk_n172, qk_n173, qk_n174, qk_n175, qk_n176, qk_n400, qk_n880, qk_n1000, qk_n1023]
  by_cases c : s 142 = -1 ∧ ¬ s 139 = -1 ∧ ¬ s 167 ≤ 0 ∧ ¬ s 143 < s 167 ∧ ¬ s 113 ≤ 0
  · have h0 : 0 < (s 113).toInt := by
      have := c.2.2.2.2
      rw [qz_l0] at this
      omega
    rw [if_pos c, if_neg (not_not_intro c.1), if_neg c.2.1, if_neg c.2.2.1, if_neg c.2.2.2.1, if_neg c.2.2.2.2, rf_go h h0, Option.bind_some]
    dsimp only
    cases qa_fX10_begins (qw ρ (qr_go s).2 (y + nI (qr_bt (qr_go s).1))) <;> rfl
  · rw [if_neg c]
    dsimp only [qr_bt]
    rw [nI_0, Int32.add_zero]
    have e : ∀ o : Option qa_T, (o.bind fun c17 => some c17) = o := fun o => by cases o <;> rfl
    rw [e]
    by_cases c1 : s 142 = -1
    · rw [if_neg (not_not_intro c1)]
      by_cases c2 : s 139 = -1
      · rw [if_pos c2]
      · rw [if_neg c2]
        by_cases c3 : s 167 ≤ 0
        · rw [if_pos c3]
        · rw [if_neg c3]
          by_cases c4 : s 143 < s 167
          · rw [if_pos c4]
          · rw [if_neg c4]
            by_cases c5 : s 113 ≤ 0
            · rw [if_pos c5]
            · exact absurd ⟨c1, c2, c3, c4, c5⟩ c
    · rw [if_pos c1]
theorem rf_tc (h : qi_A N s) (hN : N + 4 < 2147483647) : qa_fX10_ticks (qw ρ s y) = some (qw ρ (qr_tc s).2 (y + nI (qr_tc s).1)) := by
  obtain ⟨n1, n2⟩ := qi_n h.1
  rw [rf_t1 n2 n1, rf_t2 (t1_A h), rf_t3 (t2_A (t1_A h) (by omega)) (by omega)]
  unfold qr_tc
  dsimp only
  rw [Int32.add_assoc, nI_add]
theorem rf_ti : ∀ (j k m N : Nat) (s : qs) (y : Int32), qi_I N s → N + 4 * j < 2147483647 → k + j < 2147483648 → j < m → qa_fX10_passes_7 (nI (k + j)) m (nI k) (qw ρ s y) = some (y + nI (qr_ti j s).1, qw ρ (qr_ti j s).2 (y + nI (qr_ti j s).1)) := by
  intro j
  induction j with
  | zero =>
    intro k m N s y h hN hk hm
    obtain ⟨m, rfl⟩ : ∃ i, m = i + 1 := ⟨m - 1, by omega⟩
    rw [qa_fX10_passes_7, Nat.add_zero, if_pos (nI_le (Nat.le_refl _) (by omega)), qw_y, ti_0]
    dsimp only
    rw [nI_0, Int32.add_zero]
  | succ j ih =>
    intro k m N s y h hN hk hm
    obtain ⟨m, rfl⟩ : ∃ i, m = i + 1 := ⟨m - 1, by omega⟩
    rw [qa_fX10_passes_7, if_neg (nI_ge (by omega) (by omega)), rf_tc h.1 (by omega), Option.bind_some]
    dsimp only
    rw [qk_a1, nI_1, show k + (j + 1) = (k + 1) + j by omega, ih (k + 1) m (N + 4) _ _ (tc_I h (by omega)).1 (by omega) (by omega) (by omega)]
    rw [ti_s]
    dsimp only
    rw [Int32.add_assoc, nI_add]
theorem rf_ps {j : Nat} (h : qi_I N s) (hN : N + 4 * j < 2147483647) (hj : j < 2999) : qa_fX10_passes (nI j) (qw ρ s y) = some (nI (qr_ti j s).1, qw ρ (qr_ti j s).2 (nI (qr_ti j s).1)) := by
  have h1 := rf_ti (ρ := ρ) j 0 qa_fu N s 0 h hN (by omega) (by unfold qa_fu; omega)
  rw [Nat.zero_add, Int32.zero_add] at h1
  unfold qa_fX10_passes
  dsimp only
  rw [qw_wy, qk_a0]
  exact h1
end QRR
