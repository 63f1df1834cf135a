/-! the reference's own methods: asking, the programme -/
section QRS
variable {ρ : qa_T} {s t : qs} {y : Int32} {N : Nat}
theorem rf_cg : qa_fX10_canGoOn (qw ρ s y) = qr_cg s := by
  unfold qa_fX10_canGoOn qa_fX10_canGoOn_26 qr_cg
  simp only [qk_am1, qk_a0, qk_a1, qk_a2, qk_a3, qk_a4, qk_a5, qk_b6, qk_b7, qk_b10, qk_b15, qk_b16, qk_b20, qk_b24, qk_b25, qk_b33, qk_b48, qk_b50, qk_b52, qk_b57, qk_b59, qk_b60, qk_b97, qk_b98, qk_b100, qk_b110, qk_b112, qk_b113, qk_b114, qk_b116, qk_b126, qk_c138, qk_c139, qk_c140, qk_c141, qk_c142, qk_c143, qk_c144, qk_c145, qk_c146, qk_c147, qk_c150, qk_c163, qk_c164, qk_c165, qk_c166, qk_c167, qk_c168, qk_c169, qk_c170, qk_c171, qk_c172, qk_c173, qk_c174, qk_c175, qk_c176, qk_c400, qk_c880, qk_c1000, qk_c1023, qw_s, qk_n0, qk_n1, qk_n2, qk_n3, qk_n4, qk_n5, qk_n6, qk_n7, qk_n10, qk_n15, qk_n16, qk_n20, qk_n24, qk_n25, qk_n33, qk_n48, qk_n50, qk_n52, qk_n57, qk_n59, qk_n60, qk_n97, qk_n98, qk_n100, qk_n110, qk_n112, qk_n113, qk_n114, qk_n116, qk_n126, qk_n138, qk_n139, qk_n140, qk_n141, qk_n142, qk_n143, qk_n144, qk_n145, qk_n146, qk_n147, qk_n150, qk_n163, qk_n164, qk_n165, qk_n166, qk_n167, qk_n168, qk_n169, qk_n170, qk_n171, qk_n172, qk_n173, qk_n174, qk_n175, qk_n176, qk_n400, qk_n880, qk_n1000, qk_n1023]
  by_cases c1 : s 113 ≤ 0 <;> by_cases c2 : s 142 = -1 <;> simp [c1, c2]
theorem rf_ia_l {q : Nat} (hq : q ≤ 16) (h6 : s 146 = nI q) (a : Nat) : ∀ (m k : Nat) (b : Bool), k ≤ q → q - k < m → qa_fX10_isAsked_20 (nI a) m (qa_bi b) (nI k) (qw ρ s y) = some (b || (qr_qf s a (q - k) k).isSome) := by
  intro m
  induction m with
  | zero => intro k b h1 h2; omega
  | succ m ih =>
    intro k b hk hm
    rw [qa_fX10_isAsked_20, qw_s, qk_c146, qk_n146, h6]
    by_cases e : k = q
    · subst e
      rw [if_pos (nI_le (Nat.le_refl _) (by omega)), Nat.sub_self]
      cases b
      · rw [if_pos (show qa_bi false = 0 from rfl)]; rfl
      · rw [if_neg (show ¬ qa_bi true = 0 by decide), if_pos (show qa_bi true = 1 from rfl)]; rfl
    · obtain ⟨d, hd⟩ : ∃ d, q - k = d + 1 := ⟨q - k - 1, by omega⟩
      have hd2 : q - (k + 1) = d := by omega
      rw [if_neg (nI_ge (by omega) (by omega))]
      have h1 := fun b => ih (k + 1) b (by omega) (by omega)
      rw [hd2] at h1
      unfold qa_fX10_isAsked_50 qa_fX10_isAsked_55
      rw [qk_a1, qk_a0, nI_1, hd]
      unfold qr_qf
      cases b
      · rw [if_neg (show ¬ ¬ qa_bi false = 0 by decide), qk_c147, qk_i147, nI_add, qz_ifn (by omega) (by omega), nI_clamp (by omega)]
        by_cases c : s (147 + k) = nI a
        · rw [if_neg (not_not_intro c), if_pos c]
          exact h1 true
        · rw [if_pos c, if_neg c]
          exact h1 false
      · rw [if_pos (show ¬ qa_bi true = 0 by decide)]
        exact h1 true
theorem rf_ia (h : qi_qu s) (a : Nat) : qa_fX10_isAsked (nI a) (qw ρ s y) = some (decide (s 142 = nI a) || (qr_qp s a).isSome) := by
  obtain ⟨h1, h2⟩ := qi_q h
  have h3 := fun b => rf_ia_l (ρ := ρ) (y := y) h2 h1 a qa_fu 0 b (by omega) (by unfold qa_fu; omega)
  unfold qa_fX10_isAsked qa_fX10_isAsked_17 qr_qp
  rw [qw_s, qk_c142, qk_n142]
  by_cases c : s 142 = nI a
  · rw [if_neg (not_not_intro c.symm), decide_eq_true c]
    exact h3 true
  · rw [if_pos (fun t => c t.symm), decide_eq_false c]
    exact h3 false
theorem rf_ca (h : qi_qu s) {a : Nat} (ha : a < 16) : qa_fX10_canAsk (nI a) (qw ρ s y) = some (qr_ca s a) := by
  unfold qa_fX10_canAsk qa_fX10_canAsk_32 qr_ca
  rw [rf_ld ha, rf_ia h]
  simp only [qk_am1, qk_a0, qk_a1, qk_a2, qk_a3, qk_a4, qk_a5, qk_b6, qk_b7, qk_b10, qk_b15, qk_b16, qk_b20, qk_b24, qk_b25, qk_b33, qk_b48, qk_b50, qk_b52, qk_b57, qk_b59, qk_b60, qk_b97, qk_b98, qk_b100, qk_b110, qk_b112, qk_b113, qk_b114, qk_b116, qk_b126, qk_c138, qk_c139, qk_c140, qk_c141, qk_c142, qk_c143, qk_c144, qk_c145, qk_c146, qk_c147, qk_c150, qk_c163, qk_c164, qk_c165, qk_c166, qk_c167, qk_c168, qk_c169, qk_c170, qk_c171, qk_c172, qk_c173, qk_c174, qk_c175, qk_c176, qk_c400, qk_c880, qk_c1000, qk_c1023, qw_s, qk_n0, qk_n1, qk_n2, qk_n3, qk_n4, qk_n5, qk_n6, qk_n7, qk_n10, qk_n15, qk_n16, qk_n20, qk_n24, qk_n25, qk_n33, qk_n48, qk_n50, qk_n52, qk_n57, qk_n59, qk_n60, qk_n97, qk_n98, qk_n100, qk_n110, qk_n112, qk_n113, qk_n114, qk_n116, qk_n126, qk_n138, qk_n139, qk_n140, qk_n141, qk_n142, qk_n143, qk_n144, qk_n145, qk_n146, qk_n147, qk_n150, qk_n163, qk_n164, qk_n165, qk_n166, qk_n167, qk_n168, qk_n169, qk_n170, qk_n171, qk_n172, qk_n173, qk_n174, qk_n175, qk_n176, qk_n400, qk_n880, qk_n1000, qk_n1023, Option.bind_some, qb_0]
  cases c1 : qr_ld s a
  · by_cases c2 : s 144 = nI a
    · simp [c2]
    · by_cases c3 : s 142 = nI a
      · simp [c2, c3]
      · cases c4 : qr_qp s a <;> simp [c2, c3]
  · simp
theorem rf_as {a : Nat} (h : qi_qu s) (hA : qi_A N (qr_aq s a)) : qa_fX10_asks (nI a) (qw ρ s y) = some (qr_bg (qr_aq s a) 146, qw ρ (qr_bg (qr_aq s a)) y) := by
  obtain ⟨h1, h2⟩ := qi_q h
  unfold qa_fX10_asks
  have e1 : upd s (147 + qn (s 146)) (nI a) 146 = s 146 := pk_un (by omega)
  rw [qw_s, qk_c146, qk_n146, qk_c147, qk_i147, show nI 147 + s 146 = nI (147 + qn (s 146)) by rw [h1, nI_add, ← h1], qz_ifn (by omega) (by omega), nI_clamp (by omega), qw_wi]
  dsimp only
  rw [qw_s, e1, qw_wi, qk_a1]
  have h3 : upd (upd s (147 + qn (s 146)) (nI a)) 146 (s 146 + 1) = qr_aq s a := rfl
  rw [h3, rf_bg hA, Option.bind_some, qw_s]
/-- moved on by one, down to k -/
def qr_i1 (s : qs) (c k : Nat) : qs := fun i => if 114 + k < i ∧ i ≤ 114 + c then s (i - 1) else s i
theorem rf_ip_l {p a c : Nat} (hc : c < 24) (h3 : s 113 = nI c) (hp : p ≤ c) (hA : qi_A N (qr_ip s p a)) : ∀ (m k : Nat), p ≤ k → k ≤ c → k - p < m → qa_fX10_inserts_8 (nI p) (nI a) m (nI k) (qw ρ (qr_i1 s c k) y) = some (qr_bg (qr_ip s p a) 113, qw ρ (qr_bg (qr_ip s p a)) y) := by
  intro m
  induction m with
  | zero => intro k h1 h2 h3; omega
  | succ m ih =>
    intro k h1 h2 h4
    rw [qa_fX10_inserts_8]
    by_cases e : k = p
    · subst e
      have e3 : upd (qr_i1 s c k) (114 + k) (nI a) 113 = s 113 := by
        rw [pk_un (by omega)]
        unfold qr_i1
        rw [if_neg (by omega)]
      have e8 : upd (upd (qr_i1 s c k) (114 + k) (nI a)) 113 (s 113 + 1) 138 = s 138 := by
        rw [pk_un (by omega), pk_un (by omega)]
        unfold qr_i1
        rw [if_neg (by omega)]
      have ef : ∀ v, upd (upd (upd (qr_i1 s c k) (114 + k) (nI a)) 113 (s 113 + 1)) 138 v = upd (upd (fun i => if i = 114 + k then nI a else if 114 + k < i ∧ i ≤ 114 + qn (s 113) then s (i - 1) else s i) 113 (s 113 + 1)) 138 v := by
        intro v
        congr 2
        funext i
        unfold upd qr_i1
        rw [h3, qn_nI (by omega)]
      rw [if_pos (nI_le (Nat.le_refl _) (by omega)), qk_b114, qk_i114, nI_add, qz_ifn (by omega) (by omega), nI_clamp (by omega), qw_wi]
      simp only [qk_am1, qk_a0, qk_a1, qk_a2, qk_a3, qk_a4, qk_a5, qk_b6, qk_b7, qk_b10, qk_b15, qk_b16, qk_b20, qk_b24, qk_b25, qk_b33, qk_b48, qk_b50, qk_b52, qk_b57, qk_b59, qk_b60, qk_b97, qk_b98, qk_b100, qk_b110, qk_b112, qk_b113, qk_b114, qk_b116, qk_b126, qk_c138, qk_c139, qk_c140, qk_c141, qk_c142, qk_c143, qk_c144, qk_c145, qk_c146, qk_c147, qk_c150, qk_c163, qk_c164, qk_c165, qk_c166, qk_c167, qk_c168, qk_c169, qk_c170, qk_c171, qk_c172, qk_c173, qk_c174, qk_c175, qk_c176, qk_c400, qk_c880, qk_c1000, qk_c1023, qw_s, qk_n0, qk_n1, qk_n2, qk_n3, qk_n4, qk_n5, qk_n6, qk_n7, qk_n10, qk_n15, qk_n16, qk_n20, qk_n24, qk_n25, qk_n33, qk_n48, qk_n50, qk_n52, qk_n57, qk_n59, qk_n60, qk_n97, qk_n98, qk_n100, qk_n110, qk_n112, qk_n113, qk_n114, qk_n116, qk_n126, qk_n138, qk_n139, qk_n140, qk_n141, qk_n142, qk_n143, qk_n144, qk_n145, qk_n146, qk_n147, qk_n150, qk_n163, qk_n164, qk_n165, qk_n166, qk_n167, qk_n168, qk_n169, qk_n170, qk_n171, qk_n172, qk_n173, qk_n174, qk_n175, qk_n176, qk_n400, qk_n880, qk_n1000, qk_n1023, e3, qw_wi, e8]
      unfold qa_fX10_inserts_97 qa_fX10_inserts_98
      simp only [qk_am1, qk_a0, qk_a1, qk_a2, qk_a3, qk_a4, qk_a5, qk_b6, qk_b7, qk_b10, qk_b15, qk_b16, qk_b20, qk_b24, qk_b25, qk_b33, qk_b48, qk_b50, qk_b52, qk_b57, qk_b59, qk_b60, qk_b97, qk_b98, qk_b100, qk_b110, qk_b112, qk_b113, qk_b114, qk_b116, qk_b126, qk_c138, qk_c139, qk_c140, qk_c141, qk_c142, qk_c143, qk_c144, qk_c145, qk_c146, qk_c147, qk_c150, qk_c163, qk_c164, qk_c165, qk_c166, qk_c167, qk_c168, qk_c169, qk_c170, qk_c171, qk_c172, qk_c173, qk_c174, qk_c175, qk_c176, qk_c400, qk_c880, qk_c1000, qk_c1023, qk_in138, not_true, if_false, qk_n0, qk_n1, qk_n2, qk_n3, qk_n4, qk_n5, qk_n6, qk_n7, qk_n10, qk_n15, qk_n16, qk_n20, qk_n24, qk_n25, qk_n33, qk_n48, qk_n50, qk_n52, qk_n57, qk_n59, qk_n60, qk_n97, qk_n98, qk_n100, qk_n110, qk_n112, qk_n113, qk_n114, qk_n116, qk_n126, qk_n138, qk_n139, qk_n140, qk_n141, qk_n142, qk_n143, qk_n144, qk_n145, qk_n146, qk_n147, qk_n150, qk_n163, qk_n164, qk_n165, qk_n166, qk_n167, qk_n168, qk_n169, qk_n170, qk_n171, qk_n172, qk_n173, qk_n174, qk_n175, qk_n176, qk_n400, qk_n880, qk_n1000, qk_n1023, qw_wi, ef]
      have hip : qr_ip s k a = upd (upd (fun i => if i = 114 + k then nI a else if 114 + k < i ∧ i ≤ 114 + qn (s 113) then s (i - 1) else s i) 113 (s 113 + 1)) 138 (s 138 + (if s 138 = -1 ∨ (s 138).toInt < (k : Int) then 0 else 1)) := rfl
      by_cases c1 : s 138 = -1
      · rw [if_pos (Or.inl c1)] at hip
        rw [if_pos c1, ← hip, rf_bg hA, Option.bind_some, qw_s]
      · rw [if_neg c1]
        by_cases c2 : s 138 < nI k
        · have c3 : (s 138).toInt < (k : Int) := by
            rw [qz_lt, qz_nI (by omega)] at c2
            exact c2
          rw [if_pos (Or.inr c3)] at hip
          rw [if_pos c2, ← hip, rf_bg hA, Option.bind_some, qw_s]
        · have c3 : ¬ (s 138).toInt < (k : Int) := by
            rw [qz_lt, qz_nI (by omega)] at c2
            exact c2
          rw [if_neg (fun t => t.elim c1 c3)] at hip
          rw [if_neg c2, ← hip, rf_bg hA, Option.bind_some, qw_s]
    · obtain ⟨k, rfl⟩ : ∃ j, k = j + 1 := ⟨k - 1, by omega⟩
      have e1 : (114 : Int32) + nI (k + 1) = nI (114 + k + 1) := nI_add 114 _
      rw [if_neg (nI_ge (by omega) (by omega)), qk_b114, e1, qk_a1, nI_pred, qz_ifn (by omega) (by omega), qz_ifn (by omega) (by omega), nI_clamp (by omega), nI_clamp (by omega), qw_s, qw_wi]
      dsimp only
      rw [qk_am1, show nI (k + 1) + -1 = nI k by rw [← Int32.sub_eq_add_neg, nI_pred], ← ih k (by omega) (by omega) (by omega)]
      congr 2
      funext i
      unfold upd qr_i1
      by_cases c1 : i = 114 + k + 1
      · rw [if_pos c1, if_neg (by omega), if_pos (by omega), c1]
        rfl
      · rw [if_neg c1]
        by_cases c2 : 114 + (k + 1) < i ∧ i ≤ 114 + c
        · rw [if_pos c2, if_pos (by omega)]
        · rw [if_neg c2, if_neg (by omega)]
theorem rf_ip {p a : Nat} (h : qi_pr s) (hc : (s 113).toInt < 24) (hp : (p : Int) ≤ (s 113).toInt) (hA : qi_A N (qr_ip s p a)) : qa_fX10_inserts (nI p) (nI a) (qw ρ s y) = some (qr_bg (qr_ip s p a) 113, qw ρ (qr_bg (qr_ip s p a)) y) := by
  have h1 := qn_int h.1
  have h2 := qn_of h.1
  have e : qr_i1 s (qn (s 113)) (qn (s 113)) = s := by
    funext i
    unfold qr_i1
    rw [if_neg (by omega)]
  have h3 := rf_ip_l (ρ := ρ) (y := y) (show qn (s 113) < 24 by omega) h2 (show p ≤ qn (s 113) by omega) hA qa_fu (qn (s 113)) (by omega) (by omega) (by unfold qa_fu; omega)
  rw [e, ← h2] at h3
  unfold qa_fX10_inserts
  dsimp only
  rw [qw_s, qk_b113, qk_n113]
  exact h3
/-- moved back by one, from p up to k -/
def qr_r1 (s : qs) (p k : Nat) : qs := fun i => if 114 + p ≤ i ∧ i < 114 + k then s (i + 1) else s i
theorem rf_rp_l {p c : Nat} {v : Int32} (hc : c < 24) (h3 : s 113 = nI (c + 1)) (hp : p ≤ c) (hA : qi_A N (qr_rp s p)) : ∀ (m k : Nat), p ≤ k → k ≤ c → c - k < m → qa_fX10_takeOut_55 (nI p) m v (nI k) (qw ρ (qr_r1 (upd s 113 (nI c)) p k) y) = some (v, qw ρ (qr_bg (qr_rp s p)) y) := by
  intro m
  induction m with
  | zero => intro k h1 h2 h3; omega
  | succ m ih =>
    intro k h1 h2 h4
    have e0 : qr_r1 (upd s 113 (nI c)) p k 113 = nI c := by
      unfold qr_r1
      rw [if_neg (by omega), pk_us]
    rw [qa_fX10_takeOut_55, qw_s, qk_b113, qk_n113, e0]
    by_cases e : k = c
    · subst e
      have e8 : upd (qr_r1 (upd s 113 (nI k)) p k) (114 + k) 0 138 = s 138 := by
        rw [pk_un (by omega)]
        unfold qr_r1
        rw [if_neg (by omega), pk_un (by omega)]
      have ef : ∀ w, upd (upd (qr_r1 (upd s 113 (nI k)) p k) (114 + k) 0) 138 w = upd (upd (fun i => if 114 + p ≤ i ∧ i + 1 < 114 + qn (s 113) then s (i + 1) else if i + 1 = 114 + qn (s 113) then 0 else s i) 113 (s 113 - 1)) 138 w := by
        intro w
        congr 1
        funext i
        unfold upd qr_r1
        rw [h3, qn_nI (by omega), nI_pred]
        dsimp only
        by_cases c1 : i = 113
        · rw [if_neg (by omega), if_neg (by omega), if_pos c1, if_pos c1]
        · rw [if_neg c1]
          by_cases c2 : i = 114 + k
          · rw [if_pos c2, if_neg (show ¬ (114 + p ≤ i ∧ i + 1 < 114 + (k + 1)) by omega), if_pos (show i + 1 = 114 + (k + 1) by omega), if_neg c1]
          · rw [if_neg c2]
            by_cases c4 : 114 + p ≤ i ∧ i < 114 + k
            · rw [if_pos c4, if_neg (show ¬ i + 1 = 113 by omega), if_pos (show 114 + p ≤ i ∧ i + 1 < 114 + (k + 1) by omega), if_neg c1]
            · rw [if_neg c4, if_neg c1, if_neg (by omega), if_neg (by omega)]
      rw [if_pos (nI_le (Nat.le_refl _) (by omega)), qk_b114, qk_i114, nI_add, qz_ifn (by omega) (by omega), nI_clamp (by omega), qw_wi]
      simp only [qk_am1, qk_a0, qk_a1, qk_a2, qk_a3, qk_a4, qk_a5, qk_b6, qk_b7, qk_b10, qk_b15, qk_b16, qk_b20, qk_b24, qk_b25, qk_b33, qk_b48, qk_b50, qk_b52, qk_b57, qk_b59, qk_b60, qk_b97, qk_b98, qk_b100, qk_b110, qk_b112, qk_b113, qk_b114, qk_b116, qk_b126, qk_c138, qk_c139, qk_c140, qk_c141, qk_c142, qk_c143, qk_c144, qk_c145, qk_c146, qk_c147, qk_c150, qk_c163, qk_c164, qk_c165, qk_c166, qk_c167, qk_c168, qk_c169, qk_c170, qk_c171, qk_c172, qk_c173, qk_c174, qk_c175, qk_c176, qk_c400, qk_c880, qk_c1000, qk_c1023, qw_s, qk_n0, qk_n1, qk_n2, qk_n3, qk_n4, qk_n5, qk_n6, qk_n7, qk_n10, qk_n15, qk_n16, qk_n20, qk_n24, qk_n25, qk_n33, qk_n48, qk_n50, qk_n52, qk_n57, qk_n59, qk_n60, qk_n97, qk_n98, qk_n100, qk_n110, qk_n112, qk_n113, qk_n114, qk_n116, qk_n126, qk_n138, qk_n139, qk_n140, qk_n141, qk_n142, qk_n143, qk_n144, qk_n145, qk_n146, qk_n147, qk_n150, qk_n163, qk_n164, qk_n165, qk_n166, qk_n167, qk_n168, qk_n169, qk_n170, qk_n171, qk_n172, qk_n173, qk_n174, qk_n175, qk_n176, qk_n400, qk_n880, qk_n1000, qk_n1023, qw_wi, e8]
      unfold qa_fX10_takeOut_145 qa_fX10_takeOut_146
      simp only [qk_am1, qk_a0, qk_a1, qk_a2, qk_a3, qk_a4, qk_a5, qk_b6, qk_b7, qk_b10, qk_b15, qk_b16, qk_b20, qk_b24, qk_b25, qk_b33, qk_b48, qk_b50, qk_b52, qk_b57, qk_b59, qk_b60, qk_b97, qk_b98, qk_b100, qk_b110, qk_b112, qk_b113, qk_b114, qk_b116, qk_b126, qk_c138, qk_c139, qk_c140, qk_c141, qk_c142, qk_c143, qk_c144, qk_c145, qk_c146, qk_c147, qk_c150, qk_c163, qk_c164, qk_c165, qk_c166, qk_c167, qk_c168, qk_c169, qk_c170, qk_c171, qk_c172, qk_c173, qk_c174, qk_c175, qk_c176, qk_c400, qk_c880, qk_c1000, qk_c1023, qk_in138, not_true, if_false, qk_n0, qk_n1, qk_n2, qk_n3, qk_n4, qk_n5, qk_n6, qk_n7, qk_n10, qk_n15, qk_n16, qk_n20, qk_n24, qk_n25, qk_n33, qk_n48, qk_n50, qk_n52, qk_n57, qk_n59, qk_n60, qk_n97, qk_n98, qk_n100, qk_n110, qk_n112, qk_n113, qk_n114, qk_n116, qk_n126, qk_n138, qk_n139, qk_n140, qk_n141, qk_n142, qk_n143, qk_n144, qk_n145, qk_n146, qk_n147, qk_n150, qk_n163, qk_n164, qk_n165, qk_n166, qk_n167, qk_n168, qk_n169, qk_n170, qk_n171, qk_n172, qk_n173, qk_n174, qk_n175, qk_n176, qk_n400, qk_n880, qk_n1000, qk_n1023, qw_wi, ef]
      have hip : qr_rp s p = upd (upd (fun i => if 114 + p ≤ i ∧ i + 1 < 114 + qn (s 113) then s (i + 1) else if i + 1 = 114 + qn (s 113) then 0 else s i) 113 (s 113 - 1)) 138 (s 138 - (if s 138 = -1 ∨ (s 138).toInt < (p : Int) then 0 else 1)) := rfl
      by_cases c1 : s 138 = -1
      · rw [if_pos (Or.inl c1)] at hip
        rw [if_pos c1, ← hip, rf_bg hA, Option.bind_some]
      · rw [if_neg c1]
        by_cases c2 : s 138 < nI p
        · have c3 : (s 138).toInt < (p : Int) := by
            rw [qz_lt, qz_nI (by omega)] at c2
            exact c2
          rw [if_pos (Or.inr c3)] at hip
          rw [if_pos c2, ← hip, rf_bg hA, Option.bind_some]
        · have c3 : ¬ (s 138).toInt < (p : Int) := by
            rw [qz_lt, qz_nI (by omega)] at c2
            exact c2
          rw [if_neg (fun t => t.elim c1 c3)] at hip
          rw [if_neg c2, ← hip, rf_bg hA, Option.bind_some]
    · have e1 : (114 : Int32) + nI k = nI (114 + k) := nI_add 114 _
      rw [if_neg (nI_ge (by omega) (by omega)), qk_b114, e1, qk_a1, nI_1, qz_ifn (by omega) (by omega), qz_ifn (by omega) (by omega), nI_clamp (by omega), nI_clamp (by omega), qw_wi]
      dsimp only
      rw [nI_1, ← ih (k + 1) (by omega) (by omega) (by omega)]
      congr 2
      funext i
      unfold qr_r1
      by_cases c1 : i = 114 + k
      · rw [qz_ue c1, if_neg (by omega), if_pos (by omega), c1]
      · rw [pk_un c1]
        by_cases c2 : 114 + p ≤ i ∧ i < 114 + k
        · rw [if_pos c2, if_pos (by omega)]
        · rw [if_neg c2, if_neg (by omega)]
end QRS
