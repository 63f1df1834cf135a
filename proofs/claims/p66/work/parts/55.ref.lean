/-! the reference's own methods: loading begins -/
section QRK
variable {ρ : qa_T} {s t : qs} {y : Int32}
theorem qk_in138 : qa_in 138 176 = true := rfl
theorem qk_in140 : qa_in 140 176 = true := rfl
theorem qk_in141 : qa_in 141 176 = true := rfl
theorem qk_in143 : qa_in 143 176 = true := rfl
theorem qk_in172 : qa_in 172 176 = true := rfl
theorem qk_in174 : qa_in 174 176 = true := rfl
/-- what burning leaves as it is -/
theorem rm_o {m : Int} {i : Nat} : ∀ (l : List Nat) (s : qs), (∀ a ∈ l, a < 16) → (i < 1 ∨ 112 < i ∨ ∃ k w, i = 1 + 7 * k + w ∧ (w < 3 ∨ w = 6)) → ¬ i = 173 → (qr_rm m l s).2 i = s i := by
  intro l
  induction l with
  | nil => intro s _ _ _; rfl
  | cons a l ih =>
    intro s hl hi h3
    unfold qr_rm
    split
    · rfl
    · dsimp only
      rw [ih _ (fun x hx => hl x (List.mem_cons_of_mem _ hx)) hi h3]
      have ha := hl a List.mem_cons_self
      refine bu_o ?_ h3
      rcases hi with h | h | ⟨k, w, h, h4⟩ <;> omega
theorem ln_16 (hs : qi_sl s) : ∀ a ∈ qr_ln s, a < 16 := fun a ha => by
  have h1 := ((qr_li_ln s).2 a).mp ha
  have h2 := (qi_n hs).2
  omega
theorem mr_o {m : Int} {i : Nat} (hs : qi_sl s) (hi : i < 1 ∨ 112 < i ∨ ∃ k w, i = 1 + 7 * k + w ∧ (w < 3 ∨ w = 6)) (h3 : ¬ i = 173) : (qr_mr m s).2 i = s i := rm_o _ s (ln_16 hs) hi h3
theorem rm_k {m : Int} : ∀ (l : List Nat) (s : qs), (∀ a ∈ l, a < 16) → qi_pr s → qi_sl s → qi_se s → qi_pr (qr_rm m l s).2 ∧ qi_sl (qr_rm m l s).2 ∧ qi_se (qr_rm m l s).2 := by
  intro l
  induction l with
  | nil => intro s _ h1 h2 h3; exact ⟨h1, h2, h3⟩
  | cons a l ih =>
    intro s hl h1 h2 h3
    have ha := hl a List.mem_cons_self
    unfold qr_rm
    split
    · exact ⟨h1, h2, h3⟩
    · exact ih _ (fun x hx => hl x (List.mem_cons_of_mem _ hx)) (qe_pr h1 (bu_w ha).1 (bu_o (by omega) (by omega))) (bu_sl ha h2 h3) (bu_se ha h3)
theorem mr_k {m : Int} (h1 : qi_pr s) (h2 : qi_sl s) (h3 : qi_se s) : qi_pr (qr_mr m s).2 ∧ qi_sl (qr_mr m s).2 ∧ qi_se (qr_mr m s).2 := rm_k _ s (ln_16 h2) h1 h2 h3
/-- behind the place p all have moved on by one, up to k -/
def qr_f1 (s : qs) (p k : Nat) : qs := fun i => if 147 + p ≤ i ∧ i + 1 < 147 + k then s (i + 1) else s i
end QRK
