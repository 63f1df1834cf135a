/-! the reference's own methods: what begins to load, shows, a tick -/
section QRQ
variable {ρ : qa_T} {s t : qs} {y : Int32} {N : Nat}
theorem rf_b151 (h : qi_A N s) : ∀ x : Option Nat, (∀ a, x = some a → a < qn (s 0)) → qa_fX10_begins_151 (qo_i x) (qw ρ s y) = some (qw ρ (match x with
    | none => s
    | some a => if qr_ft (s (1 + 7 * a)).toInt s = true then qr_st s a else s) y) := by
  intro x hx
  obtain ⟨hs, hp, hw, hl, hq, he, hc⟩ := h
  obtain ⟨n1, n2⟩ := qi_n hs
  have hi := qn_int hs.1
  unfold qo_i qa_fX10_begins_151 qa_fX10_begins_183
  cases x with
  | none => simp only [qk_am1, if_true]
  | some a =>
    have ha := hx a rfl
    have ha2 : a < 16 := by omega
    have hcc := (hs.2.2 a ha2).2.2.2.2.1 (by omega)
    have hft := qr_ft_i hs (b := s (1 + 7 * a)) (by omega) (by omega)
    have hlt : (s 163 < qr_ta s + s (1 + 7 * a)) ↔ ¬ (qr_ta s + s (1 + 7 * a) ≤ s 163) := by
      rw [qz_lt, qz_le]
      omega
    simp only [qk_am1, qk_a0, qk_a1, qk_a2, qk_a3, qk_a4, qk_a5, qk_b6, qk_b7, qk_b10, qk_b15, qk_b16, qk_b20, qk_b24, qk_b25, qk_b33, qk_b48, qk_b50, qk_b52, qk_b57, qk_b59, qk_b60, qk_b97, qk_b98, qk_b100, qk_b110, qk_b112, qk_b113, qk_b114, qk_b116, qk_b126, qk_c138, qk_c139, qk_c140, qk_c141, qk_c142, qk_c143, qk_c144, qk_c145, qk_c146, qk_c147, qk_c150, qk_c163, qk_c164, qk_c165, qk_c166, qk_c167, qk_c168, qk_c169, qk_c170, qk_c171, qk_c172, qk_c173, qk_c174, qk_c175, qk_c176, qk_c400, qk_c880, qk_c1000, qk_c1023, if_neg (qr_nI_m ha2), rf_tk n2 n1, Option.bind_some, rf_of0 ha2, qw_s, qk_n0, qk_n1, qk_n2, qk_n3, qk_n4, qk_n5, qk_n6, qk_n7, qk_n10, qk_n15, qk_n16, qk_n20, qk_n24, qk_n25, qk_n33, qk_n48, qk_n50, qk_n52, qk_n57, qk_n59, qk_n60, qk_n97, qk_n98, qk_n100, qk_n110, qk_n112, qk_n113, qk_n114, qk_n116, qk_n126, qk_n138, qk_n139, qk_n140, qk_n141, qk_n142, qk_n143, qk_n144, qk_n145, qk_n146, qk_n147, qk_n150, qk_n163, qk_n164, qk_n165, qk_n166, qk_n167, qk_n168, qk_n169, qk_n170, qk_n171, qk_n172, qk_n173, qk_n174, qk_n175, qk_n176, qk_n400, qk_n880, qk_n1000, qk_n1023, hlt, hft, rf_st hp hs he ha]
    by_cases c : qr_ft (s (1 + 7 * a)).toInt s = true
    · rw [if_neg (fun t => t c), if_pos c]
    · rw [if_pos c, if_neg c]
theorem rf_b77_0 (h : qi_pr s) (c0 : qn (s 113) = 0) {m : Nat} {x k : Int32} : qa_fX10_begins_77 (m + 1) x k (qw ρ s y) = qa_fX10_begins_151 x (qw ρ s y) := by
  have h1 := qn_int h.1
  rw [qa_fX10_begins_77]
  split
  · rfl
  · rw [qw_s, qk_b113, qk_n113, if_pos (by rw [qz_l0]; omega)]
theorem rf_b77_1 {a : Nat} (ha : a < 16) {m : Nat} {k : Int32} : qa_fX10_begins_77 (m + 1) (nI a) k (qw ρ s y) = qa_fX10_begins_151 (nI a) (qw ρ s y) := by
  rw [qa_fX10_begins_77]
  split
  · rfl
  · split
    · rfl
    · rw [if_pos (by rw [qk_am1]; exact qr_nI_m ha)]
theorem rf_b77 (h : qi_A N s) (c0 : ¬ qn (s 113) = 0) (c : Nat) (hc : s 164 = nI c) (hc2 : c ≤ 4) : ∀ (m k j : Nat), k + j = c + 1 → 1 ≤ k → j + 1 < m → qa_fX10_begins_77 m (-1) (nI k) (qw ρ s y) = qa_fX10_begins_151 (qo_i (qr_gf s j k)) (qw ρ s y) := by
  obtain ⟨hs, hp, hw, hl, hq, he, hct⟩ := h
  have hn := (qi_n hs).2
  have hi := qn_int hs.1
  have hp1 := qn_int hp.1
  have hp2 := (qi_p hp).2
  have h0 : 0 < (s 113).toInt := by omega
  intro m
  induction m with
  | zero => intro k j h1 h2 h3; omega
  | succ m ih =>
    intro k j hk h1 hm
    rw [qa_fX10_begins_77, qw_s, qk_c164, qk_n164, qk_b113, qk_n113, qk_c138, qk_n138, qk_am1]
    cases j with
    | zero =>
      rw [if_pos (by rw [hc]; exact nI_lt (by omega) (by omega))]
      rfl
    | succ j =>
      have h6 := (qi_ixb hp h0 k).1
      have h7 := qi_sa hp h0 k
      have h8 := qn_int h7.1
      have h9 : s (114 + qr_ix s k) = nI (qn (qr_sa s k)) := qn_of h7.1
      rw [if_neg (by rw [hc]; exact nI_nlt (by omega) (by omega)), if_neg (by rw [qz_l0]; omega), if_neg (fun t => t rfl), rf_pj hp h0 h1 (by omega), qz_ifn (by omega) (by omega), nI_clamp (by omega), h9]
      dsimp only
      rw [rf_ld (by omega), Option.bind_some]
      unfold qa_fX10_begins_144 qr_gf
      rw [qk_a1, nI_1]
      by_cases c : qr_ld s (qn (qr_sa s k)) = true
      · rw [c, if_neg (by decide), if_pos rfl]
        exact ih (k + 1) j (by omega) (by omega) (by omega)
      · rw [if_pos (by rw [qb_0]; simpa using c), if_neg c]
        obtain ⟨m, rfl⟩ : ∃ i, m = i + 1 := ⟨m - 1, by omega⟩
        exact rf_b77_1 (by omega)
theorem rf_bg (h : qi_A N s) : qa_fX10_begins (qw ρ s y) = some (qw ρ (qr_bg s) y) := by
  have h' := h
  obtain ⟨hs, hp, hw, hl, hq, he, hc⟩ := h
  have hn := (qi_n hs).2
  have hi := qn_int hs.1
  unfold qa_fX10_begins qa_fX10_begins_183 qr_bg
  simp only [qk_am1, qk_a0, qk_a1, qk_a2, qk_a3, qk_a4, qk_a5, qk_b6, qk_b7, qk_b10, qk_b15, qk_b16, qk_b20, qk_b24, qk_b25, qk_b33, qk_b48, qk_b50, qk_b52, qk_b57, qk_b59, qk_b60, qk_b97, qk_b98, qk_b100, qk_b110, qk_b112, qk_b113, qk_b114, qk_b116, qk_b126, qk_c138, qk_c139, qk_c140, qk_c141, qk_c142, qk_c143, qk_c144, qk_c145, qk_c146, qk_c147, qk_c150, qk_c163, qk_c164, qk_c165, qk_c166, qk_c167, qk_c168, qk_c169, qk_c170, qk_c171, qk_c172, qk_c173, qk_c174, qk_c175, qk_c176, qk_c400, qk_c880, qk_c1000, qk_c1023, qw_s, qk_n0, qk_n1, qk_n2, qk_n3, qk_n4, qk_n5, qk_n6, qk_n7, qk_n10, qk_n15, qk_n16, qk_n20, qk_n24, qk_n25, qk_n33, qk_n48, qk_n50, qk_n52, qk_n57, qk_n59, qk_n60, qk_n97, qk_n98, qk_n100, qk_n110, qk_n112, qk_n113, qk_n114, qk_n116, qk_n126, qk_n138, qk_n139, qk_n140, qk_n141, qk_n142, qk_n143, qk_n144, qk_n145, qk_n146, qk_n147, qk_n150, qk_n163, qk_n164, qk_n165, qk_n166, qk_n167, qk_n168, qk_n169, qk_n170, qk_n171, qk_n172, qk_n173, qk_n174, qk_n175, qk_n176, qk_n400, qk_n880, qk_n1000, qk_n1023]
  by_cases c1 : s 144 = -1
  · rw [if_pos c1, if_neg (not_not_intro c1)]
    by_cases c2 : s 142 = -1
    · rw [if_pos c2, if_neg (not_not_intro c2)]
      have hq1 := qn_int hq.1
      by_cases c3 : qn (s 146) = 0
      · rw [if_pos (by rw [qz_l0]; omega), if_pos c3]
        unfold qr_b3 qr_gd
        by_cases c4 : qn (s 113) = 0
        · rw [show qa_fu = 2999 + 1 from rfl, rf_b77_0 hp c4, if_pos c4]
          exact rf_b151 h' none (fun a e => by cases e)
        · have ha1 := qn_int (x := s 164) he.2.2.1
          have ha2 := he.2.2.2.1
          rw [if_neg c4]
          refine (rf_b77 h' c4 (qn (s 164)) (qn_of he.2.2.1) (by omega) qa_fu 1 (qn (s 164)) (by omega) (by omega) (by unfold qa_fu; omega)).trans ?_
          refine rf_b151 h' (qr_gf s (qn (s 164)) 1) (fun a e => ?_)
          refine (gd_s hp hs ?_).1
          unfold qr_gd
          rw [if_neg c4]
          exact e
      · rw [if_neg (by rw [qz_l0]; omega), if_neg c3]
        have hq2 := hq.2.2.1 0 (by omega)
        rw [Nat.add_zero] at hq2
        obtain ⟨r1, r2, r3, r4, r5⟩ := hq2
        have r6 := qn_int r1
        have hf := fg_A (a := qn (s 147)) h'
        have e7 : s 147 = nI (qn (s 147)) := qn_of r1
        have e1 : qa_fX10_forgets (s 147) (qw ρ s y) = some (qw ρ (qr_fg s (qn (s 147))) y) := by
          rw [e7, rf_fg (qi_qdq hq), qn_nI (by omega)]
        have e2 : qa_fX10_starts (s 147) (qw ρ (qr_fg s (qn (s 147))) y) = some (qw ρ (qr_st (qr_fg s (qn (s 147))) (qn (s 147))) y) := by
          rw [show qa_fX10_starts (s 147) (qw ρ (qr_fg s (qn (s 147))) y) = qa_fX10_starts (nI (qn (s 147))) (qw ρ (qr_fg s (qn (s 147))) y) from congrArg (fun x => qa_fX10_starts x _) e7]
          exact rf_st hf.2.1 hf.1 hf.2.2.2.2.2.1 (by rw [fg_o (i := 0) (qi_qdq hq) (qn (s 147)) (by omega)]; omega)
        rw [e1, Option.bind_some, e2, Option.bind_some]
    · rw [if_neg c2, if_pos c2]
      have g1 : 0 ≤ (s 142).toInt := by
        have := hl.1
        rw [qz_m1] at c2
        omega
      have g2 := qn_int g1
      have g3 := hl.2.1
      have e2 : qa_fX10_starts (s 142) (qw ρ s y) = some (qw ρ (qr_st s (qn (s 142))) y) := by
        rw [show qa_fX10_starts (s 142) (qw ρ s y) = qa_fX10_starts (nI (qn (s 142))) (qw ρ s y) from congrArg (fun x => qa_fX10_starts x _) (qn_of g1)]
        exact rf_st hp hs he (by omega)
      rw [e2, Option.bind_some]
  · rw [if_neg c1, if_pos c1]
theorem rf_us {a : Nat} (ha : a < 16) : qa_fX10_uses (nI a) (qw ρ s y) = some (qw ρ (qr_us s a) y) := by
  unfold qa_fX10_uses qr_us
  simp only [qk_am1, qk_a0, qk_a1, qk_a2, qk_a3, qk_a4, qk_a5, qk_b6, qk_b7, qk_b10, qk_b15, qk_b16, qk_b20, qk_b24, qk_b25, qk_b33, qk_b48, qk_b50, qk_b52, qk_b57, qk_b59, qk_b60, qk_b97, qk_b98, qk_b100, qk_b110, qk_b112, qk_b113, qk_b114, qk_b116, qk_b126, qk_c138, qk_c139, qk_c140, qk_c141, qk_c142, qk_c143, qk_c144, qk_c145, qk_c146, qk_c147, qk_c150, qk_c163, qk_c164, qk_c165, qk_c166, qk_c167, qk_c168, qk_c169, qk_c170, qk_c171, qk_c172, qk_c173, qk_c174, qk_c175, qk_c176, qk_c400, qk_c880, qk_c1000, qk_c1023, qw_s, qk_n0, qk_n1, qk_n2, qk_n3, qk_n4, qk_n5, qk_n6, qk_n7, qk_n10, qk_n15, qk_n16, qk_n20, qk_n24, qk_n25, qk_n33, qk_n48, qk_n50, qk_n52, qk_n57, qk_n59, qk_n60, qk_n97, qk_n98, qk_n100, qk_n110, qk_n112, qk_n113, qk_n114, qk_n116, qk_n126, qk_n138, qk_n139, qk_n140, qk_n141, qk_n142, qk_n143, qk_n144, qk_n145, qk_n146, qk_n147, qk_n150, qk_n163, qk_n164, qk_n165, qk_n166, qk_n167, qk_n168, qk_n169, qk_n170, qk_n171, qk_n172, qk_n173, qk_n174, qk_n175, qk_n176, qk_n400, qk_n880, qk_n1000, qk_n1023, qw_wi, rf_lay6 ha, Option.bind_some, pk_us]
theorem rf_sh {a : Nat} (ha : a < 16) : qa_fX10_shows (nI a) (qw ρ s y) = some (qw ρ (qr_sh s a) (y + 1)) := by
  unfold qa_fX10_shows qa_fX10_shows_68 qa_fX10_shows_69 qr_sh qr_sf
  simp only [qk_am1, qk_a0, qk_a1, qk_a2, qk_a3, qk_a4, qk_a5, qk_b6, qk_b7, qk_b10, qk_b15, qk_b16, qk_b20, qk_b24, qk_b25, qk_b33, qk_b48, qk_b50, qk_b52, qk_b57, qk_b59, qk_b60, qk_b97, qk_b98, qk_b100, qk_b110, qk_b112, qk_b113, qk_b114, qk_b116, qk_b126, qk_c138, qk_c139, qk_c140, qk_c141, qk_c142, qk_c143, qk_c144, qk_c145, qk_c146, qk_c147, qk_c150, qk_c163, qk_c164, qk_c165, qk_c166, qk_c167, qk_c168, qk_c169, qk_c170, qk_c171, qk_c172, qk_c173, qk_c174, qk_c175, qk_c176, qk_c400, qk_c880, qk_c1000, qk_c1023, qw_s, qk_n0, qk_n1, qk_n2, qk_n3, qk_n4, qk_n5, qk_n6, qk_n7, qk_n10, qk_n15, qk_n16, qk_n20, qk_n24, qk_n25, qk_n33, qk_n48, qk_n50, qk_n52, qk_n57, qk_n59, qk_n60, qk_n97, qk_n98, qk_n100, qk_n110, qk_n112, qk_n113, qk_n114, qk_n116, qk_n126, qk_n138, qk_n139, qk_n140, qk_n141, qk_n142, qk_n143, qk_n144, qk_n145, qk_n146, qk_n147, qk_n150, qk_n163, qk_n164, qk_n165, qk_n166, qk_n167, qk_n168, qk_n169, qk_n170, qk_n171, qk_n172, qk_n173, qk_n174, qk_n175, qk_n176, qk_n400, qk_n880, qk_n1000, qk_n1023, rf_of2 ha, Option.bind_some, qw_wi, pk_us, qk_in140, not_true, if_false, rf_us ha, qw_y, qw_wy]
  by_cases c1 : s 139 = -1
  · simp only [if_pos c1, if_pos (Or.inl c1 : s 139 = -1 ∨ s 139 = nI a)]
  · by_cases c2 : s 139 = nI a
    · simp only [if_neg c1, if_pos c2, if_pos (Or.inr c2 : s 139 = -1 ∨ s 139 = nI a)]
    · simp only [if_neg c1, if_neg c2, if_neg (fun t => t.elim c1 c2 : ¬ (s 139 = -1 ∨ s 139 = nI a))]
      split <;> simp (disch := omega) only [pk_us, pk_un, qz_ue]
theorem qi_b01 (b : Bool) {σ : qa_T} : qa_fX10_goesOn_99 (qa_bi b) σ = some (b, σ) := by
  unfold qa_fX10_goesOn_99
  cases b
  · exact if_pos rfl
  · rw [if_neg (by decide)]
    exact if_pos rfl
theorem rf_go (h : qi_A N s) (h0 : 0 < (s 113).toInt) : qa_fX10_goesOn (qw ρ s y) = some ((qr_go s).1, qw ρ (qr_go s).2 (y + nI (qr_bt (qr_go s).1))) := by
  obtain ⟨hs, hp, hw, hl, hq, he, hc⟩ := h
  obtain ⟨a1, a2⟩ := ga_b hp h0 hs
  have hn := (qi_n hs).2
  have ha : qr_ga s < 16 := by omega
  have h6 := (qi_ixb hp h0 1).1
  have h7 := (qi_p hp).2
  have e1 : s 138 + 1 - (s 138 + 1) / s 113 * s 113 = nI (qr_ix s 1) := rf_pi hp h0 (k := 1) (by omega) (by omega)
  have e3 : ¬ s 113 = 0 := fun t => by rw [t] at h0; exact absurd h0 (by decide)
  have e4 : (114 : Int32) + nI (qr_ix s 1) = nI (114 + qr_ix s 1) := nI_add 114 _
  have e5 : upd s 138 (nI (qr_ix s 1)) (114 + qr_ix s 1) = nI (qr_ga s) := by rw [pk_un (by omega), a2]
  have e6 : qr_ld (upd s 138 (nI (qr_ix s 1))) (qr_ga s) = qr_ld s (qr_ga s) := by
    unfold qr_ld
    rw [pk_un (by omega)]
  unfold qa_fX10_goesOn
  simp only [qk_am1, qk_a0, qk_a1, qk_a2, qk_a3, qk_a4, qk_a5, qk_b6, qk_b7, qk_b10, qk_b15, qk_b16, qk_b20, qk_b24, qk_b25, qk_b33, qk_b48, qk_b50, qk_b52, qk_b57, qk_b59, qk_b60, qk_b97, qk_b98, qk_b100, qk_b110, qk_b112, qk_b113, qk_b114, qk_b116, qk_b126, qk_c138, qk_c139, qk_c140, qk_c141, qk_c142, qk_c143, qk_c144, qk_c145, qk_c146, qk_c147, qk_c150, qk_c163, qk_c164, qk_c165, qk_c166, qk_c167, qk_c168, qk_c169, qk_c170, qk_c171, qk_c172, qk_c173, qk_c174, qk_c175, qk_c176, qk_c400, qk_c880, qk_c1000, qk_c1023, qw_s, qk_n0, qk_n1, qk_n2, qk_n3, qk_n4, qk_n5, qk_n6, qk_n7, qk_n10, qk_n15, qk_n16, qk_n20, qk_n24, qk_n25, qk_n33, qk_n48, qk_n50, qk_n52, qk_n57, qk_n59, qk_n60, qk_n97, qk_n98, qk_n100, qk_n110, qk_n112, qk_n113, qk_n114, qk_n116, qk_n126, qk_n138, qk_n139, qk_n140, qk_n141, qk_n142, qk_n143, qk_n144, qk_n145, qk_n146, qk_n147, qk_n150, qk_n163, qk_n164, qk_n165, qk_n166, qk_n167, qk_n168, qk_n169, qk_n170, qk_n171, qk_n172, qk_n173, qk_n174, qk_n175, qk_n176, qk_n400, qk_n880, qk_n1000, qk_n1023, if_neg e3, e1, qw_wi, pk_us, e4, qz_ifn (show 114 + qr_ix s 1 < 176 by omega) (show 176 < 2147483648 by omega), nI_clamp (show 114 + qr_ix s 1 < 2 ^ 31 by omega), e5, rf_ld ha, Option.bind_some, e6]
  unfold qr_go
  cases c : qr_ld s (qr_ga s)
  · have hqd : qi_qd (upd (upd (upd s 138 (nI (qr_ix s 1))) 170 (s 170 + 1)) 142 (nI (qr_ga s))) := by
      have hd := qi_qdq hq
      have h2 := hd.2.1
      unfold qi_qd
      rw [pk_un (by omega), pk_un (by omega), pk_un (by omega)]
      refine ⟨hd.1, hd.2.1, fun j k hj hk => ?_⟩
      rw [pk_un (by omega), pk_un (by omega), pk_un (by omega), pk_un (by omega), pk_un (by omega), pk_un (by omega)]
      exact hd.2.2 j k hj hk
    have e8 : upd s 138 (nI (qr_ix s 1)) 170 = s 170 := pk_un (by omega)
    rw [if_pos (by rfl)]
    simp only [e8, rf_fg hqd, Option.bind_some, qi_b01]
    rw [if_neg (by decide)]
    unfold qr_g0 qr_bt
    rw [nI_0, Int32.add_zero]
  · have e8 : upd s 138 (nI (qr_ix s 1)) 169 = s 169 := pk_un (by omega)
    rw [if_neg (by decide)]
    simp only [e8, rf_sh ha, Option.bind_some, qi_b01]
    rw [if_pos trivial]
    rfl
end QRQ
