/-! the reference's own methods: the order of burning -/
section QRG
variable {ρ : qa_T} {s : qs} {y : Int32}
theorem rf_pi (h : qi_pr s) (h0 : 0 < (s 113).toInt) {k : Nat} (hk : 1 ≤ k) (hk2 : k ≤ 1000) : (s 138 + nI k) - (s 138 + nI k) / s 113 * s 113 = nI (qr_ix s k) := by
  have h1 := qi_ixb h h0 k
  have h2 := h.2.2.1
  have h3 := h.2.2.2.1
  have h4 := h.2.1
  have h5 := qz_nI (k := k) (by omega)
  have h6 : (s 138 + nI k).toInt = (s 138).toInt + k := by rw [qz_add, h5] <;> omega
  have h7 := qn_lt (x := s 113)
  rw [qz_eq, qz_mod (by omega) h0, h6, qz_nI (by omega), h1.2]
theorem rf_pj (h : qi_pr s) (h0 : 0 < (s 113).toInt) {k : Nat} (hk : 1 ≤ k) (hk2 : k ≤ 1000) : ((Int8.ofInt 114).toInt32) + ((s 138 + nI k) - (s 138 + nI k) / s 113 * s 113) = nI (114 + qr_ix s k) := by
  rw [rf_pi h h0 hk hk2, qk_b114, qk_i114, nI_add]
theorem rf_nx_l (h : qi_pr s) (a c : Nat) (hc : s 113 = nI c) (hc2 : c ≤ 24) : ∀ (m k j : Nat), k + j = c + 1 → 1 ≤ k → j < m → qa_fX10_nextOf_2 (nI a) m (nI k) (qw ρ s y) = some (nI (qr_nf s a j k)) := by
  intro m
  induction m with
  | zero => intro k j h1 h2 h3; omega
  | succ m ih =>
    intro k j hk h1 hm
    rw [qa_fX10_nextOf_2, qw_s, qk_b113, qk_n113, qk_c138, qk_n138]
    cases j with
    | zero =>
      rw [if_pos (by rw [hc]; exact nI_lt (by omega) (by omega))]
      rfl
    | succ j =>
      have h5 := qz_nI (k := c) (by omega)
      have h0 : 0 < (s 113).toInt := by rw [hc, h5]; omega
      have h6 := qi_ixb h h0 k
      rw [hc, qn_nI (by omega)] at h6
      rw [rf_pj h h0 h1 (by omega), if_neg (by rw [hc]; exact nI_nlt (by omega) (by omega)), if_neg (fun t => by rw [t] at h0; exact absurd h0 (by decide)), qz_ifn (by omega) (by omega), nI_clamp (by omega)]
      unfold qr_nf qr_sa
      by_cases e : s (114 + qr_ix s k) = nI a
      · rw [if_neg (fun t => t e), if_pos e]
      · rw [if_pos e, if_neg e, qk_a1, nI_1]
        exact ih (k + 1) j (by omega) (by omega) (by omega)
theorem rf_nx (h : qi_pr s) (a : Nat) : qa_fX10_nextOf (nI a) (qw ρ s y) = some (nI (qr_nx s a)) := by
  obtain ⟨h1, h2⟩ := qi_p h
  unfold qa_fX10_nextOf qr_nx
  exact rf_nx_l h a _ h1 h2 qa_fu 1 _ (by omega) (by omega) (by unfold qa_fu; omega)
theorem qr_nf_le (s : qs) (a : Nat) : ∀ (j k c : Nat), k + j = c + 1 → qr_nf s a j k ≤ c ∨ qr_nf s a j k = 25 := by
  intro j
  induction j with
  | zero => intro k c _; exact Or.inr rfl
  | succ j ih =>
    intro k c hk
    unfold qr_nf
    by_cases e : qr_sa s k = nI a
    · rw [if_pos e]; left; omega
    · rw [if_neg e]; exact ih (k + 1) c (by omega)
theorem qr_nx_le {s : qs} (h : qi_pr s) (a : Nat) : qr_nx s a ≤ qn (s 113) ∨ qr_nx s a = 25 := qr_nf_le s a _ _ _ (by omega)
theorem rf_68 {a b : Nat} (ha : a < 16) (hb : b < 16) (x : Int32) (σ : qa_T) : qa_fX10_isFirst_68 (nI a) (nI b) x σ = some (decide (0 < x.toInt) || (decide (x.toInt = 0) && decide (a < b))) := by
  unfold qa_fX10_isFirst_68 qa_fX10_isFirst_82 qa_fX10_isFirst_86
  have h0 : (0 : Int32).toInt = 0 := rfl
  by_cases h1 : 0 < x.toInt
  · rw [if_pos (by rw [qz_lt, h0]; exact h1)]; simp [h1]
  · rw [if_neg (by rw [qz_lt, h0]; exact h1)]
    by_cases h2 : x.toInt = 0
    · rw [if_neg (fun t => t (by rw [qz_eq, h0]; exact h2))]
      by_cases h3 : a < b
      · rw [if_neg (nI_ge h3 (by omega))]; simp [h2, h3]
      · rw [if_pos (nI_le (by omega) (by omega))]; simp [h2, h3]
    · rw [if_pos (by rw [qz_eq, h0]; exact h2)]; simp [h1, h2]
theorem rf_fb (h : qi_pr s) (hs : qi_sl s) {a b : Nat} (ha : a < qn (s 0)) (hb : b < qn (s 0)) : qa_fX10_isFirst (nI a) (nI b) (qw ρ s y) = some (qr_fb s a b) := by
  obtain ⟨h1, h2⟩ := qi_n hs
  have h3 := qn_int hs.1
  obtain ⟨_, _, _, u1, c1, _⟩ := hs.2.2 a (by omega)
  obtain ⟨_, _, _, u2, c2, _⟩ := hs.2.2 b (by omega)
  have c3 := c1 (by omega)
  have c4 := c2 (by omega)
  have r1 := qz_rg (s (1 + 7 * a + 6))
  have r2 := qz_rg (s (1 + 7 * b + 6))
  unfold qa_fX10_isFirst qr_fb qr_w
  simp only [qk_am1, qk_a0, qk_a1, qk_a2, qk_a3, qk_a4, qk_a5, qk_b6, qk_b7, qk_b10, qk_b15, qk_b16, qk_b20, qk_b24, qk_b25, qk_b33, qk_b48, qk_b50, qk_b52, qk_b57, qk_b59, qk_b60, qk_b97, qk_b98, qk_b100, qk_b110, qk_b112, qk_b113, qk_b114, qk_b116, qk_b126, qk_c138, qk_c139, qk_c140, qk_c141, qk_c142, qk_c143, qk_c144, qk_c145, qk_c146, qk_c147, qk_c150, qk_c163, qk_c164, qk_c165, qk_c166, qk_c167, qk_c168, qk_c169, qk_c170, qk_c171, qk_c172, qk_c173, qk_c174, qk_c175, qk_c176, qk_c400, qk_c880, qk_c1000, qk_c1023, qw_s, qk_n165, rf_of6 (show a < 16 by omega), rf_of6 (show b < 16 by omega), rf_of0 (show a < 16 by omega), rf_of0 (show b < 16 by omega), rf_nx h]
  by_cases e0 : s 165 = 0
  · simp only [e0, Option.bind_some]
    rw [if_neg (fun t => t trivial), rf_68 (by omega) (by omega), qz_sub (by omega) (by omega)]
    simp only [if_true, Option.some.injEq]
    congr 1
    · rw [decide_eq_decide]; omega
    · congr 1; rw [decide_eq_decide]; omega
  · rw [if_pos e0]
    simp only [if_neg e0]
    by_cases e1 : s 165 = 1
    · rw [if_neg (fun t => t e1)]
      simp only [if_pos e1, Option.bind_some]
      rw [rf_68 (by omega) (by omega), qz_sub (by omega) (by omega)]
      simp only [Option.some.injEq]
      congr 1
      · rw [decide_eq_decide]; omega
      · congr 1; rw [decide_eq_decide]; omega
    · rw [if_pos e1]
      simp only [if_neg e1, Option.bind_some]
      have w1 := qr_nx_le h a
      have w2 := qr_nx_le h b
      have w3 := (qi_p h).2
      have w4 := qz_nI (k := qr_nx s a) (by omega)
      have w5 := qz_nI (k := qr_nx s b) (by omega)
      rw [rf_68 (by omega) (by omega), qz_sub (by omega) (by omega), w4, w5]
      simp only [Option.some.injEq]
      congr 1
      · rw [decide_eq_decide]; omega
      · congr 1; rw [decide_eq_decide]; omega
/-- the slides that may be burnt, the first to burn ahead -/
def qr_li (s : qs) (l : List Nat) : Prop := l.Pairwise (fun a b => qr_fb s a b = true) ∧ ∀ k, k ∈ l ↔ k < qn (s 0) ∧ qr_cb s k = true
theorem qr_fb_as {s : qs} {a b : Nat} (h1 : qr_fb s a b = true) (h2 : qr_fb s b a = true) : False := by
  unfold qr_fb at h1 h2
  simp only [Bool.or_eq_true, Bool.and_eq_true, decide_eq_true_eq] at h1 h2
  omega
theorem qr_in_mem (s : qs) (a x : Nat) : ∀ l : List Nat, x ∈ qr_in s a l ↔ x = a ∨ x ∈ l := by
  intro l
  induction l with
  | nil => simp [qr_in]
  | cons b l ih =>
    unfold qr_in
    by_cases h : qr_w s b < qr_w s a
    · rw [if_pos h]; simp
    · rw [if_neg h, List.mem_cons, ih, List.mem_cons]
      constructor
      · rintro (h | h | h)
        · exact Or.inr (Or.inl h)
        · exact Or.inl h
        · exact Or.inr (Or.inr h)
      · rintro (h | h | h)
        · exact Or.inr (Or.inl h)
        · exact Or.inl h
        · exact Or.inr (Or.inr h)
theorem qr_lf_mem (s : qs) (x : Nat) : ∀ k : Nat, x ∈ qr_lf s k ↔ x < k ∧ qr_cb s x = true := by
  intro k
  induction k with
  | zero => simp [qr_lf]
  | succ k ih =>
    unfold qr_lf
    by_cases h : qr_cb s k = true
    · rw [if_pos h, qr_in_mem, ih]
      constructor
      · rintro (h2 | ⟨h2, h3⟩)
        · subst h2; exact ⟨by omega, h⟩
        · exact ⟨by omega, h3⟩
      · rintro ⟨h2, h3⟩
        by_cases e : x = k
        · exact Or.inl e
        · exact Or.inr ⟨by omega, h3⟩
    · rw [if_neg h, ih]
      constructor
      · rintro ⟨h2, h3⟩
        exact ⟨by omega, h3⟩
      · rintro ⟨h2, h3⟩
        refine ⟨?_, h3⟩
        by_cases e : x = k
        · subst e; exact absurd h3 h
        · omega
theorem qr_in_pw (s : qs) (a : Nat) : ∀ l : List Nat, l.Pairwise (fun a b => qr_fb s a b = true) → (∀ x ∈ l, x < a) → (qr_in s a l).Pairwise (fun a b => qr_fb s a b = true) := by
  intro l
  induction l with
  | nil => intro _ _; simp [qr_in]
  | cons b l ih =>
    intro hp hx
    obtain ⟨p1, p2⟩ := List.pairwise_cons.mp hp
    have hb := hx b List.mem_cons_self
    unfold qr_in
    by_cases h : qr_w s b < qr_w s a
    · rw [if_pos h, List.pairwise_cons]
      refine ⟨fun x hx2 => ?_, hp⟩
      have : qr_w s x ≤ qr_w s b := by
        rcases List.mem_cons.mp hx2 with rfl | hx3
        · exact Int.le_refl _
        · have := p1 x hx3
          unfold qr_fb at this
          simp only [Bool.or_eq_true, Bool.and_eq_true, decide_eq_true_eq] at this
          omega
      unfold qr_fb
      simp only [Bool.or_eq_true, Bool.and_eq_true, decide_eq_true_eq]
      omega
    · rw [if_neg h, List.pairwise_cons]
      refine ⟨fun x hx2 => ?_, ih p2 (fun x hx2 => hx x (List.mem_cons_of_mem _ hx2))⟩
      rcases (qr_in_mem s a x l).mp hx2 with rfl | hx3
      · unfold qr_fb
        simp only [Bool.or_eq_true, Bool.and_eq_true, decide_eq_true_eq]
        omega
      · exact p1 x hx3
theorem qr_lf_pw (s : qs) : ∀ k : Nat, (qr_lf s k).Pairwise (fun a b => qr_fb s a b = true) := by
  intro k
  induction k with
  | zero => simp [qr_lf]
  | succ k ih =>
    unfold qr_lf
    by_cases h : qr_cb s k = true
    · rw [if_pos h]
      exact qr_in_pw s k _ ih (fun x hx => ((qr_lf_mem s x k).mp hx).1)
    · rw [if_neg h]; exact ih
theorem qr_li_ln (s : qs) : qr_li s (qr_ln s) := ⟨qr_lf_pw s _, fun k => qr_lf_mem s k _⟩
/-- the head of a line, as an int -/
def qr_hd : List Nat → Int32
  | [] => -1
  | a :: _ => nI a
theorem qr_hd_u {s : qs} {l l2 : List Nat} (h : qr_li s l) (h2 : qr_li s l2) : qr_hd l = qr_hd l2 := by
  cases l with
  | nil =>
    cases l2 with
    | nil => rfl
    | cons b l2 =>
      have := (h.2 b).mpr ((h2.2 b).mp List.mem_cons_self)
      cases this
  | cons a l =>
    cases l2 with
    | nil =>
      have := (h2.2 a).mpr ((h.2 a).mp List.mem_cons_self)
      cases this
    | cons b l2 =>
      by_cases e : a = b
      · subst e; rfl
      · have h3 := (h2.2 a).mpr ((h.2 a).mp List.mem_cons_self)
        have h4 := (h.2 b).mpr ((h2.2 b).mp List.mem_cons_self)
        rcases List.mem_cons.mp h3 with e2 | h5
        · exact absurd e2 e
        · rcases List.mem_cons.mp h4 with e2 | h6
          · exact absurd e2.symm e
          · exact (qr_fb_as ((List.pairwise_cons.mp h.1).1 b h6) ((List.pairwise_cons.mp h2.1).1 a h5)).elim
theorem qr_nI_m {k : Nat} (hk : k < 16) : ¬ nI k = (-1 : Int32) := by
  rw [qz_eq, qz_nI (by omega)]
  have : (-1 : Int32).toInt = -1 := rfl
  omega
theorem rf_nb_l (h : qi_pr s) (hs : qi_sl s) (n : Nat) (hn : qn (s 0) = n) : ∀ (m k : Nat), k ≤ n → n - k < m → qa_fX10_nextToBurn_4 m (qr_hd (qr_lf s k)) (nI k) (qw ρ s y) = some (qr_hd (qr_lf s n)) := by
  obtain ⟨h1, h2⟩ := qi_n hs
  intro m
  induction m with
  | zero => intro k h1 h2; omega
  | succ m ih =>
    intro k hk hm
    rw [qa_fX10_nextToBurn_4, qw_s, qk_a0, qk_n0, h1, hn]
    by_cases e : k = n
    · subst e
      rw [if_pos (nI_le (Nat.le_refl _) (by omega))]
    · have hk2 : k < 16 := by omega
      rw [if_neg (nI_ge (by omega) (by omega)), rf_cb hk2]
      have h1 := ih (k + 1) (by omega) (by omega)
      rw [← nI_1, show qr_lf s (k + 1) = if qr_cb s k = true then qr_in s k (qr_lf s k) else qr_lf s k from rfl] at h1
      cases hl : qr_cb s k
      · rw [hl] at h1
        simpa [hl, qb_0, qa_fX10_nextToBurn_40, qa_fX10_nextToBurn_41, qk_a1] using h1
      · rw [if_pos hl] at h1
        cases hL : qr_lf s k with
        | nil =>
          rw [hL] at h1
          simpa [qb_0, qa_fX10_nextToBurn_36, qa_fX10_nextToBurn_41, qk_a1, qk_am1, qr_hd, qr_in] using h1
        | cons b l =>
          have hb := (qr_lf_mem s b k).mp (by rw [hL]; exact List.mem_cons_self)
          rw [hL] at h1
          have h6 := rf_fb (ρ := ρ) (y := y) h hs (a := k) (b := b) (by omega) (by omega)
          have h7 : qr_fb s k b = decide (qr_w s b < qr_w s k) := by
            unfold qr_fb
            rw [show decide (k < b) = false from decide_eq_false (by omega), Bool.and_false, Bool.or_false]
          rw [h7] at h6
          have h8 := qr_nI_m (k := b) (by omega)
          by_cases hw : qr_w s b < qr_w s k
          · simp [qr_in, qr_hd, hw] at h1
            simpa [qb_0, qa_fX10_nextToBurn_36, qa_fX10_nextToBurn_41, qk_a1, qk_am1, qr_hd, h6, hw, h8] using h1
          · simp [qr_in, qr_hd, hw] at h1
            simpa [qb_0, qa_fX10_nextToBurn_40, qa_fX10_nextToBurn_41, qk_a1, qk_am1, qr_hd, h6, hw, h8] using h1
theorem rf_nb (h : qi_pr s) (hs : qi_sl s) {l : List Nat} (hl : qr_li s l) : qa_fX10_nextToBurn (qw ρ s y) = some (qr_hd l) := by
  rw [qr_hd_u hl (qr_li_ln s)]
  have := qi_n hs
  exact rf_nb_l h hs _ rfl qa_fu 0 (by omega) (by unfold qa_fu; omega)
end QRG
