/-! what always holds of the row of numbers -/
section QRI
def qi_sl (s : qs) : Prop := 0 ≤ (s 0).toInt ∧ (s 0).toInt ≤ 16 ∧ ∀ k : Nat, k < 16 → ((s (1 + 7 * k + 3) = 0 ∨ s (1 + 7 * k + 3) = 1) ∧ 0 ≤ (s (1 + 7 * k + 4)).toInt ∧ (s (1 + 7 * k + 4)).toInt ≤ 20 ∧ 0 ≤ (s (1 + 7 * k + 6)).toInt ∧ ((k : Int) < (s 0).toInt → 1 ≤ (s (1 + 7 * k)).toInt ∧ (s (1 + 7 * k)).toInt ≤ 50 ∧ 1 ≤ (s (1 + 7 * k + 1)).toInt ∧ (s (1 + 7 * k + 1)).toInt ≤ 20 ∧ 0 ≤ (s (1 + 7 * k + 2)).toInt ∧ (s (1 + 7 * k + 2)).toInt ≤ 10) ∧ ((s 0).toInt ≤ (k : Int) → s (1 + 7 * k + 3) = 0))
def qi_pr (s : qs) : Prop := 0 ≤ (s 113).toInt ∧ (s 113).toInt ≤ 24 ∧ -1 ≤ (s 138).toInt ∧ (s 138).toInt < (s 113).toInt ∧ ∀ k : Nat, (k : Int) < (s 113).toInt → 0 ≤ (s (114 + k)).toInt ∧ (s (114 + k)).toInt < (s 0).toInt
def qi_sw (s : qs) : Prop := -1 ≤ (s 139).toInt ∧ (s 139).toInt < (s 0).toInt ∧ -1 ≤ (s 140).toInt ∧ (s 140).toInt < (s 0).toInt ∧ 0 ≤ (s 141).toInt ∧ (s 141).toInt ≤ 10 ∧ ((s 140).toInt = -1 ↔ (s 141).toInt = 0) ∧ ((s 139).toInt = -1 → (s 141).toInt = 0 ∧ s 143 = 0)
def qi_lx (x : Nat) (s : qs) : Prop := -1 ≤ (s 142).toInt ∧ (s 142).toInt < (s 0).toInt ∧ -1 ≤ (s 144).toInt ∧ (s 144).toInt < (s 0).toInt ∧ (0 ≤ (s 144).toInt → 1 ≤ (s 145).toInt ∧ (s 145).toInt ≤ 20) ∧ ∀ k : Nat, k < 16 → (((s 142).toInt = (k : Int) ∧ ¬ k = x) ∨ (s 144).toInt = (k : Int)) → s (1 + 7 * k + 3) = 0
abbrev qi_lo (s : qs) : Prop := qi_lx 16 s
def qi_qd (s : qs) : Prop := 0 ≤ (s 146).toInt ∧ (s 146).toInt ≤ 16 ∧ ∀ j k : Nat, j < k → (k : Int) < (s 146).toInt → ¬ s (147 + j) = s (147 + k)
def qi_qu (s : qs) : Prop := 0 ≤ (s 146).toInt ∧ (s 146).toInt ≤ 16 ∧ (∀ k : Nat, (k : Int) < (s 146).toInt → 0 ≤ (s (147 + k)).toInt ∧ (s (147 + k)).toInt < (s 0).toInt ∧ ¬ s (147 + k) = s 142 ∧ ¬ s (147 + k) = s 144 ∧ s (1 + 7 * qn (s (147 + k)) + 3) = 0) ∧ ∀ j k : Nat, j < k → (k : Int) < (s 146).toInt → ¬ s (147 + j) = s (147 + k)
def qi_se (s : qs) : Prop := 150 ≤ (s 163).toInt ∧ (s 163).toInt ≤ 400 ∧ 0 ≤ (s 164).toInt ∧ (s 164).toInt ≤ 4 ∧ 0 ≤ (s 165).toInt ∧ (s 165).toInt ≤ 2 ∧ 0 ≤ (s 166).toInt ∧ (s 166).toInt ≤ 20 ∧ 0 ≤ (s 167).toInt ∧ (s 167).toInt ≤ 50
def qi_ct (N : Nat) (s : qs) : Prop := 0 ≤ (s 169).toInt ∧ (s 169).toInt ≤ N ∧ 0 ≤ (s 170).toInt ∧ (s 170).toInt ≤ N ∧ 0 ≤ (s 175).toInt ∧ (s 175).toInt ≤ N
def qi_tm (s : qs) : Prop := (qr_ta s).toInt ≤ (s 163).toInt
def qi_A (N : Nat) (s : qs) : Prop := qi_sl s ∧ qi_pr s ∧ qi_sw s ∧ qi_lo s ∧ qi_qu s ∧ qi_se s ∧ qi_ct N s
def qi_I (N : Nat) (s : qs) : Prop := qi_A N s ∧ qi_tm s
/-- nothing could begin to load -/
def qi_st (s : qs) : Prop := s 144 = -1 → s 142 = -1 ∧ qn (s 146) = 0 ∧ qr_b3 s = s
/-- a slide's number -/
theorem qi_n {s : qs} (h : qi_sl s) : s 0 = nI (qn (s 0)) ∧ qn (s 0) ≤ 16 := ⟨qn_of h.1, by have := h.2.1; have := qn_int h.1; omega⟩
theorem qi_p {s : qs} (h : qi_pr s) : s 113 = nI (qn (s 113)) ∧ qn (s 113) ≤ 24 := ⟨qn_of h.1, by have := h.2.1; have := qn_int h.1; omega⟩
theorem qi_q {s : qs} (h : qi_qu s) : s 146 = nI (qn (s 146)) ∧ qn (s 146) ≤ 16 := ⟨qn_of h.1, by have := h.2.1; have := qn_int h.1; omega⟩
theorem qi_ixb {s : qs} (h : qi_pr s) (h0 : 0 < (s 113).toInt) (k : Nat) : qr_ix s k < qn (s 113) ∧ ((qr_ix s k : Nat) : Int) = ((s 138).toInt + (k : Int)) % (s 113).toInt := by
  have h1 := Int.emod_nonneg ((s 138).toInt + (k : Int)) (show (s 113).toInt ≠ 0 by omega)
  have h2 := Int.emod_lt_of_pos ((s 138).toInt + (k : Int)) h0
  have h3 := qn_int (x := s 113) (by omega)
  unfold qr_ix
  omega
theorem qi_sa {s : qs} (h : qi_pr s) (h0 : 0 < (s 113).toInt) (k : Nat) : 0 ≤ (qr_sa s k).toInt ∧ (qr_sa s k).toInt < (s 0).toInt := by
  have h1 := (qi_ixb h h0 k).1
  have h3 := qn_int (x := s 113) (by omega)
  exact h.2.2.2.2 (qr_ix s k) (by omega)
theorem qi_qdq {s : qs} (h : qi_qu s) : qi_qd s := ⟨h.1, h.2.1, h.2.2.2⟩
/-- what the parts look at -/
theorem qq_sl {s t : qs} (h : qi_sl s) (e : ∀ i : Nat, i < 113 → t i = s i) : qi_sl t := by
  unfold qi_sl
  rw [e 0 (by omega)]
  refine ⟨h.1, h.2.1, fun k hk => ?_⟩
  rw [e (1 + 7 * k + 3) (by omega), e (1 + 7 * k + 4) (by omega), e (1 + 7 * k + 6) (by omega), e (1 + 7 * k) (by omega), e (1 + 7 * k + 1) (by omega), e (1 + 7 * k + 2) (by omega)]
  exact h.2.2 k hk
theorem qq_pr {s t : qs} (h : qi_pr s) (e0 : t 0 = s 0) (e : ∀ i : Nat, 113 ≤ i → i < 139 → t i = s i) : qi_pr t := by
  unfold qi_pr
  have h2 := h.2.1
  rw [e0, e 113 (by omega) (by omega), e 138 (by omega) (by omega)]
  refine ⟨h.1, h.2.1, h.2.2.1, h.2.2.2.1, fun k hk => ?_⟩
  rw [e (114 + k) (by omega) (by omega)]
  exact h.2.2.2.2 k hk
theorem qq_sw {s t : qs} (h : qi_sw s) (e0 : t 0 = s 0) (e9 : t 139 = s 139) (e1 : t 140 = s 140) (e2 : t 141 = s 141) (e3 : t 143 = s 143) : qi_sw t := by
  unfold qi_sw
  rw [e0, e9, e1, e2, e3]
  exact h
theorem qq_lx {x : Nat} {s t : qs} (h : qi_lx x s) (e0 : t 0 = s 0) (e2 : t 142 = s 142) (e4 : t 144 = s 144) (e5 : t 145 = s 145) (e : ∀ k : Nat, k < 16 → t (1 + 7 * k + 3) = s (1 + 7 * k + 3)) : qi_lx x t := by
  unfold qi_lx
  rw [e0, e2, e4, e5]
  refine ⟨h.1, h.2.1, h.2.2.1, h.2.2.2.1, h.2.2.2.2.1, fun k hk hh => ?_⟩
  rw [e k hk]
  exact h.2.2.2.2.2 k hk hh
theorem qq_qu {s t : qs} (hs : qi_sl s) (h : qi_qu s) (e0 : t 0 = s 0) (e2 : t 142 = s 142) (e4 : t 144 = s 144) (eq : ∀ i : Nat, 146 ≤ i → i < 163 → t i = s i) (e : ∀ k : Nat, k < 16 → t (1 + 7 * k + 3) = s (1 + 7 * k + 3)) : qi_qu t := by
  unfold qi_qu
  have h2 := h.2.1
  have h3 := hs.2.1
  rw [e0, e2, e4, eq 146 (by omega) (by omega)]
  refine ⟨h.1, h.2.1, fun k hk => ?_, fun j k hj hk => ?_⟩
  · have h4 := h.2.2.1 k hk
    rw [eq (147 + k) (by omega) (by omega), e (qn (s (147 + k))) (by have := qn_int h4.1; omega)]
    exact h4
  · rw [eq (147 + j) (by omega) (by omega), eq (147 + k) (by omega) (by omega)]
    exact h.2.2.2 j k hj hk
theorem qq_se {s t : qs} (h : qi_se s) (e : ∀ i : Nat, 163 ≤ i → i ≤ 167 → t i = s i) : qi_se t := by
  unfold qi_se
  rw [e 163 (by omega) (by omega), e 164 (by omega) (by omega), e 165 (by omega) (by omega), e 166 (by omega) (by omega), e 167 (by omega) (by omega)]
  exact h
theorem qq_ct {N : Nat} {s t : qs} (h : qi_ct N s) (e1 : t 169 = s 169) (e2 : t 170 = s 170) (e3 : t 175 = s 175) : qi_ct N t := by
  unfold qi_ct
  rw [e1, e2, e3]
  exact h
theorem qq_cu {M N : Nat} {s : qs} (h : qi_ct M s) (hl : M ≤ N) : qi_ct N s := by
  unfold qi_ct at h ⊢
  omega
theorem qq_A {M N : Nat} {s : qs} (h : qi_A M s) (hl : M ≤ N) : qi_A N s := ⟨h.1, h.2.1, h.2.2.1, h.2.2.2.1, h.2.2.2.2.1, h.2.2.2.2.2.1, qq_cu h.2.2.2.2.2.2 hl⟩
theorem qq_I {M N : Nat} {s : qs} (h : qi_I M s) (hl : M ≤ N) : qi_I N s := ⟨qq_A h.1 hl, h.2⟩
end QRI
