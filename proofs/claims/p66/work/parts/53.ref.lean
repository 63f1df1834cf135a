/-! the reference's own methods: the order of burning -/
section QRG
variable {ρ : qa_T} {s : qs} {y : Int32}
theorem rf_pi (h : qi_pr s) (h0 : 0 < (s 113).toInt) {k : Nat} (hk : 1 ≤ k) (hk2 : k ≤ 1000) : (s 138 + nI k) - (s 138 + nI k) / s 113 * s 113 = nI (qr_ix s k) := by
  have h1 := qi_ixb h h0 k
  have h2 := h.2.2.1
  have h3 := h.2.2.2.1
  have h4 := h.2.1
  have h5 := qz_nI (k := k) (by omega)
  have h6 : (s 138 + nI k).toInt = (s 138).toInt + k := by rw [qz_add, h5] <;> omega
  have h7 := qn_lt (x := s 113)
  rw [qz_eq, qz_mod (by omega) h0, h6, qz_nI (by omega), h1.2]
theorem rf_pj (h : qi_pr s) (h0 : 0 < (s 113).toInt) {k : Nat} (hk : 1 ≤ k) (hk2 : k ≤ 1000) : ((Int8.ofInt 114).toInt32) + ((s 138 + nI k) - (s 138 + nI k) / s 113 * s 113) = nI (114 + qr_ix s k) := by
  rw [rf_pi h h0 hk hk2, qk_b114, qk_i114, nI_add]
theorem qr_nf_le (s : qs) (a : Nat) : ∀ (j k c : Nat), k + j = c + 1 → qr_nf s a j k ≤ c ∨ qr_nf s a j k = 25 := by
  intro j
  induction j with
  | zero => intro k c _; exact Or.inr rfl
  | succ j ih =>
    intro k c hk
    unfold qr_nf
    by_cases e : qr_sa s k = nI a
    · rw [if_pos e]; left; omega
    · rw [if_neg e]; exact ih (k + 1) c (by omega)
theorem qr_nx_le {s : qs} (h : qi_pr s) (a : Nat) : qr_nx s a ≤ qn (s 113) ∨ qr_nx s a = 25 := qr_nf_le s a _ _ _ (by omega)
/-- the slides that may be burnt, the first to burn ahead -/
def qr_li (s : qs) (l : List Nat) : Prop := l.Pairwise (fun a b => qr_fb s a b = true) ∧ ∀ k, k ∈ l ↔ k < qn (s 0) ∧ qr_cb s k = true
theorem qr_fb_as {s : qs} {a b : Nat} (h1 : qr_fb s a b = true) (h2 : qr_fb s b a = true) : False := by
  unfold qr_fb at h1 h2
  simp only [Bool.or_eq_true, Bool.and_eq_true, decide_eq_true_eq] at h1 h2
  omega
theorem qr_in_mem (s : qs) (a x : Nat) : ∀ l : List Nat, x ∈ qr_in s a l ↔ x = a ∨ x ∈ l := by
  intro l
  induction l with
  | nil => simp [qr_in]
  | cons b l ih =>
    unfold qr_in
    by_cases h : qr_w s b < qr_w s a
    · rw [if_pos h]; simp
    · rw [if_neg h, List.mem_cons, ih, List.mem_cons]
      constructor
      · rintro (h | h | h)
        · exact Or.inr (Or.inl h)
        · exact Or.inl h
        · exact Or.inr (Or.inr h)
      · rintro (h | h | h)
        · exact Or.inr (Or.inl h)
        · exact Or.inl h
        · exact Or.inr (Or.inr h)
theorem qr_lf_mem (s : qs) (x : Nat) : ∀ k : Nat, x ∈ qr_lf s k ↔ x < k ∧ qr_cb s x = true := by
  intro k
  induction k with
  | zero => simp [qr_lf]
  | succ k ih =>
    unfold qr_lf
    by_cases h : qr_cb s k = true
    · rw [if_pos h, qr_in_mem, ih]
      constructor
      · rintro (h2 | ⟨h2, h3⟩)
        · subst h2; exact ⟨by omega, h⟩
        · exact ⟨by omega, h3⟩
      · rintro ⟨h2, h3⟩
        by_cases e : x = k
        · exact Or.inl e
        · exact Or.inr ⟨by omega, h3⟩
    · rw [if_neg h, ih]
      constructor
      · rintro ⟨h2, h3⟩
        exact ⟨by omega, h3⟩
      · rintro ⟨h2, h3⟩
        refine ⟨?_, h3⟩
        by_cases e : x = k
        · subst e; exact absurd h3 h
        · omega
theorem qr_in_pw (s : qs) (a : Nat) : ∀ l : List Nat, l.Pairwise (fun a b => qr_fb s a b = true) → (∀ x ∈ l, x < a) → (qr_in s a l).Pairwise (fun a b => qr_fb s a b = true) := by
  intro l
  induction l with
  | nil => intro _ _; simp [qr_in]
  | cons b l ih =>
    intro hp hx
    obtain ⟨p1, p2⟩ := List.pairwise_cons.mp hp
    have hb := hx b List.mem_cons_self
    unfold qr_in
    by_cases h : qr_w s b < qr_w s a
    · rw [if_pos h, List.pairwise_cons]
      refine ⟨fun x hx2 => ?_, hp⟩
      have : qr_w s x ≤ qr_w s b := by
        rcases List.mem_cons.mp hx2 with rfl | hx3
        · exact Int.le_refl _
        · have := p1 x hx3
          unfold qr_fb at this
          simp only [Bool.or_eq_true, Bool.and_eq_true, decide_eq_true_eq] at this
          omega
      unfold qr_fb
      simp only [Bool.or_eq_true, Bool.and_eq_true, decide_eq_true_eq]
      omega
    · rw [if_neg h, List.pairwise_cons]
      refine ⟨fun x hx2 => ?_, ih p2 (fun x hx2 => hx x (List.mem_cons_of_mem _ hx2))⟩
      rcases (qr_in_mem s a x l).mp hx2 with rfl | hx3
      · unfold qr_fb
        simp only [Bool.or_eq_true, Bool.and_eq_true, decide_eq_true_eq]
        omega
      · exact p1 x hx3
theorem qr_lf_pw (s : qs) : ∀ k : Nat, (qr_lf s k).Pairwise (fun a b => qr_fb s a b = true) := by
  intro k
  induction k with
  | zero => simp [qr_lf]
  | succ k ih =>
    unfold qr_lf
    by_cases h : qr_cb s k = true
    · rw [if_pos h]
      exact qr_in_pw s k _ ih (fun x hx => ((qr_lf_mem s x k).mp hx).1)
    · rw [if_neg h]; exact ih
theorem qr_li_ln (s : qs) : qr_li s (qr_ln s) := ⟨qr_lf_pw s _, fun k => qr_lf_mem s k _⟩
/-- the head of a line, as an int -/
def qr_hd : List Nat → Int32
  | [] => -1
  | a :: _ => nI a
theorem qr_hd_u {s : qs} {l l2 : List Nat} (h : qr_li s l) (h2 : qr_li s l2) : qr_hd l = qr_hd l2 := by
  cases l with
  | nil =>
    cases l2 with
    | nil => rfl
    | cons b l2 =>
      have := (h.2 b).mpr ((h2.2 b).mp List.mem_cons_self)
      cases this
  | cons a l =>
    cases l2 with
    | nil =>
      have := (h2.2 a).mpr ((h.2 a).mp List.mem_cons_self)
      cases this
    | cons b l2 =>
      by_cases e : a = b
      · subst e; rfl
      · have h3 := (h2.2 a).mpr ((h.2 a).mp List.mem_cons_self)
        have h4 := (h.2 b).mpr ((h2.2 b).mp List.mem_cons_self)
        rcases List.mem_cons.mp h3 with e2 | h5
        · exact absurd e2 e
        · rcases List.mem_cons.mp h4 with e2 | h6
          · exact absurd e2.symm e
          · exact (qr_fb_as ((List.pairwise_cons.mp h.1).1 b h6) ((List.pairwise_cons.mp h2.1).1 a h5)).elim
theorem qr_nI_m {k : Nat} (hk : k < 16) : ¬ nI k = (-1 : Int32) := by
  rw [qz_eq, qz_nI (by omega)]
  have : (-1 : Int32).toInt = -1 := rfl
  omega
end QRG
