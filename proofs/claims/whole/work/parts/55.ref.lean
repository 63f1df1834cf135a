/-! the reference's own methods: loading begins -/
section QRK
variable {ρ : qa_T} {s t : qs} {y : Int32}
theorem qk_in138 : qa_in 138 176 = true := rfl
theorem qk_in140 : qa_in 140 176 = true := rfl
theorem qk_in141 : qa_in 141 176 = true := rfl
theorem qk_in143 : qa_in 143 176 = true := rfl
theorem qk_in172 : qa_in 172 176 = true := rfl
theorem qk_in174 : qa_in 174 176 = true := rfl
/-- what burning leaves as it is -/
theorem rm_o {m : Int} {i : Nat} : ∀ (l : List Nat) (s : qs), (∀ a ∈ l, a < 16) → (i < 1 ∨ 112 < i ∨ ∃ k w, i = 1 + 7 * k + w ∧ (w < 3 ∨ w = 6)) → ¬ i = 173 → (qr_rm m l s).2 i = s i := by
  intro l
  induction l with
  | nil => intro s _ _ _; rfl
  | cons a l ih =>
    intro s hl hi h3
    unfold qr_rm
    split
    · rfl
    · dsimp only
      rw [ih _ (fun x hx => hl x (List.mem_cons_of_mem _ hx)) hi h3]
      have ha := hl a List.mem_cons_self
      refine bu_o ?_ h3
      rcases hi with h | h | ⟨k, w, h, h4⟩ <;> omega
theorem ln_16 (hs : qi_sl s) : ∀ a ∈ qr_ln s, a < 16 := fun a ha => by
  have h1 := ((qr_li_ln s).2 a).mp ha
  have h2 := (qi_n hs).2
  omega
theorem mr_o {m : Int} {i : Nat} (hs : qi_sl s) (hi : i < 1 ∨ 112 < i ∨ ∃ k w, i = 1 + 7 * k + w ∧ (w < 3 ∨ w = 6)) (h3 : ¬ i = 173) : (qr_mr m s).2 i = s i := rm_o _ s (ln_16 hs) hi h3
theorem rm_k {m : Int} : ∀ (l : List Nat) (s : qs), (∀ a ∈ l, a < 16) → qi_pr s → qi_sl s → qi_se s → qi_pr (qr_rm m l s).2 ∧ qi_sl (qr_rm m l s).2 ∧ qi_se (qr_rm m l s).2 := by
  intro l
  induction l with
  | nil => intro s _ h1 h2 h3; exact ⟨h1, h2, h3⟩
  | cons a l ih =>
    intro s hl h1 h2 h3
    have ha := hl a List.mem_cons_self
    unfold qr_rm
    split
    · exact ⟨h1, h2, h3⟩
    · exact ih _ (fun x hx => hl x (List.mem_cons_of_mem _ hx)) (qe_pr h1 (bu_w ha).1 (bu_o (by omega) (by omega))) (bu_sl ha h2 h3) (bu_se ha h3)
theorem mr_k {m : Int} (h1 : qi_pr s) (h2 : qi_sl s) (h3 : qi_se s) : qi_pr (qr_mr m s).2 ∧ qi_sl (qr_mr m s).2 ∧ qi_se (qr_mr m s).2 := rm_k _ s (ln_16 h2) h1 h2 h3
theorem rf_du {a : Nat} (ha : a < 16) : qa_fX10_due (nI a) (qw ρ s y) = some (qr_du s a) := by
  unfold qa_fX10_due qa_fX10_due_28 qr_du
  simp only [qk_am1, qk_a0, qk_a1, qk_a2, qk_a3, qk_a4, qk_a5, qk_b6, qk_b7, qk_b10, qk_b15, qk_b16, qk_b20, qk_b24, qk_b25, qk_b33, qk_b48, qk_b50, qk_b52, qk_b57, qk_b59, qk_b60, qk_b97, qk_b98, qk_b100, qk_b110, qk_b112, qk_b113, qk_b114, qk_b116, qk_b126, qk_c138, qk_c139, qk_c140, qk_c141, qk_c142, qk_c143, qk_c144, qk_c145, qk_c146, qk_c147, qk_c150, qk_c163, qk_c164, qk_c165, qk_c166, qk_c167, qk_c168, qk_c169, qk_c170, qk_c171, qk_c172, qk_c173, qk_c174, qk_c175, qk_c176, qk_c400, qk_c880, qk_c1000, qk_c1023, rf_of4 ha, rf_of1 ha, Option.bind_some]
  split <;> rfl
theorem rf_st (hp : qi_pr s) (hs : qi_sl s) (he : qi_se s) {a : Nat} (ha : a < qn (s 0)) : qa_fX10_starts (nI a) (qw ρ s y) = some (qw ρ (qr_st s a) y) := by
  have hn := (qi_n hs).2
  have hi := qn_int hs.1
  have ha2 : a < 16 := by omega
  have hc := (hs.2.2 a ha2).2.2.2.2.1 (by omega)
  unfold qa_fX10_starts qa_fX10_starts_68 qr_st qr_s0
  simp only [qk_am1, qk_a0, qk_a1, qk_a2, qk_a3, qk_a4, qk_a5, qk_b6, qk_b7, qk_b10, qk_b15, qk_b16, qk_b20, qk_b24, qk_b25, qk_b33, qk_b48, qk_b50, qk_b52, qk_b57, qk_b59, qk_b60, qk_b97, qk_b98, qk_b100, qk_b110, qk_b112, qk_b113, qk_b114, qk_b116, qk_b126, qk_c138, qk_c139, qk_c140, qk_c141, qk_c142, qk_c143, qk_c144, qk_c145, qk_c146, qk_c147, qk_c150, qk_c163, qk_c164, qk_c165, qk_c166, qk_c167, qk_c168, qk_c169, qk_c170, qk_c171, qk_c172, qk_c173, qk_c174, qk_c175, qk_c176, qk_c400, qk_c880, qk_c1000, qk_c1023, rf_of0 ha2, Option.bind_some, rf_mr hp hs he (show 0 ≤ (s (1 + 7 * a)).toInt by omega) (show (s (1 + 7 * a)).toInt ≤ 1000 by omega), qw_wi, qk_n0, qk_n1, qk_n2, qk_n3, qk_n4, qk_n5, qk_n6, qk_n7, qk_n10, qk_n15, qk_n16, qk_n20, qk_n24, qk_n25, qk_n33, qk_n48, qk_n50, qk_n52, qk_n57, qk_n59, qk_n60, qk_n97, qk_n98, qk_n100, qk_n110, qk_n112, qk_n113, qk_n114, qk_n116, qk_n126, qk_n138, qk_n139, qk_n140, qk_n141, qk_n142, qk_n143, qk_n144, qk_n145, qk_n146, qk_n147, qk_n150, qk_n163, qk_n164, qk_n165, qk_n166, qk_n167, qk_n168, qk_n169, qk_n170, qk_n171, qk_n172, qk_n173, qk_n174, qk_n175, qk_n176, qk_n400, qk_n880, qk_n1000, qk_n1023, rf_du ha2, rf_of4 ha2, qw_s, qk_in172, not_true, if_false, rf_lay4 ha2]
  have e1 : ∀ v, qr_du (upd (qr_mr (s (1 + 7 * a)).toInt s).2 144 v) a = qr_du (qr_mr (s (1 + 7 * a)).toInt s).2 a := by
    intro v
    unfold qr_du
    simp (disch := omega) only [pk_us, pk_un, qz_ue]
  rw [e1]
  simp (disch := omega) only [pk_us, pk_un, qz_ue]
  split <;> rfl
theorem rf_fg3 {a : Nat} {q : Nat} (hq : q ≤ 16) (h6 : s 146 = nI (q + 1)) {m : Nat} : qa_fX10_forgets_61 (nI a) (m + 2) (nI q) (nI q) (qw ρ s y) = some (qw ρ (upd (upd s (147 + q) 0) 146 (nI q)) y) := by
  rw [qa_fX10_forgets_61, qw_s, qk_c146, qk_n146, h6, if_neg (nI_ge (by omega) (by omega)), qk_c147, qk_i147, nI_add, qz_ifn (by omega) (by omega), nI_clamp (by omega), qw_wi, qk_a0, qk_a1, nI_1]
  dsimp only
  rw [qa_fX10_forgets_61, qw_s, qk_c146, qk_n146, pk_un (by omega), h6, if_pos (nI_le (Nat.le_refl _) (by omega)), qw_wi]
/-- behind the place p all have moved on by one, up to k -/
def qr_f1 (s : qs) (p k : Nat) : qs := fun i => if 147 + p ≤ i ∧ i + 1 < 147 + k then s (i + 1) else s i
theorem rf_fg2 {a p q : Nat} (hq : q + 1 ≤ 16) (h6 : s 146 = nI (q + 1)) (hp : p ≤ q) (hd : ∀ k, p < k → k < q + 1 → ¬ s (147 + k) = nI a) : ∀ (m k : Nat), p + 1 ≤ k → k ≤ q + 1 → q + 1 - k < m → qa_fX10_forgets_4 (nI a) m (nI (k - 1)) (nI k) (qw ρ (qr_f1 s p k) y) = some (qw ρ (qr_f0 s p) y) := by
  intro m
  induction m with
  | zero => intro k h1 h2 h3; omega
  | succ m ih =>
    intro k h1 h2 h3
    have e6 : qr_f1 s p k 146 = nI (q + 1) := by
      unfold qr_f1
      rw [if_neg (by omega), h6]
    rw [qa_fX10_forgets_4, qw_s, qk_c146, qk_n146, e6]
    by_cases e : k = q + 1
    · subst e
      rw [if_pos (nI_le (Nat.le_refl _) (by omega)), show q + 1 - 1 = q from rfl, show qa_fu = 2998 + 2 from rfl, rf_fg3 (by omega) e6]
      congr 2
      funext i
      unfold qr_f0 qr_f1 upd
      dsimp only
      rw [h6, qn_nI (by omega)]
      by_cases c1 : i = 146
      · rw [if_pos c1, if_pos c1]; rfl
      · rw [if_neg c1, if_neg c1]
        by_cases c2 : i = 147 + q
        · rw [if_pos c2, if_neg (by omega), if_pos (by omega)]
        · rw [if_neg c2]
          by_cases c3 : 147 + p ≤ i ∧ i + 1 < 147 + (q + 1)
          · rw [if_pos c3, if_pos c3]
          · rw [if_neg c3, if_neg c3, if_neg (by omega)]
    · have e7 : qr_f1 s p k (147 + k) = s (147 + k) := by
        unfold qr_f1
        rw [if_neg (by omega)]
      rw [if_neg (nI_ge (by omega) (by omega)), qk_c147, qk_i147, nI_add, qz_ifn (by omega) (by omega), nI_clamp (by omega), e7, if_neg (hd k (by omega) (by omega)), qz_ifn (by omega) (by omega), nI_add, qz_ifn (by omega) (by omega), nI_clamp (by omega), qw_wi]
      unfold qa_fX10_forgets_53
      dsimp only
      rw [qk_a1, nI_1, nI_1, show k - 1 + 1 = k + 1 - 1 by omega, ← ih (k + 1) (by omega) (by omega) (by omega)]
      congr 2
      funext i
      unfold qr_f1 upd
      dsimp only
      by_cases c2 : i = 147 + (k - 1)
      · rw [if_pos c2, if_pos (by omega), show i + 1 = 147 + k by omega]
      · rw [if_neg c2]
        by_cases c3 : 147 + p ≤ i ∧ i + 1 < 147 + k
        · rw [if_pos c3, if_pos (by omega)]
        · rw [if_neg c3, if_neg (by omega)]
theorem rf_fg1 {a q : Nat} (hq : q ≤ 16) (h6 : s 146 = nI q) (hd : ∀ j k : Nat, j < k → k < q → ¬ s (147 + j) = s (147 + k)) : ∀ (m k : Nat), k ≤ q → q - k < m → qa_fX10_forgets_4 (nI a) m (nI k) (nI k) (qw ρ s y) = some (qw ρ (match qr_qf s a (q - k) k with
    | none => s
    | some p => qr_f0 s p) y) := by
  intro m
  induction m with
  | zero => intro k h1 h2; omega
  | succ m ih =>
    intro k h1 h2
    rw [qa_fX10_forgets_4, qw_s, qk_c146, qk_n146, h6]
    by_cases e : k = q
    · subst e
      rw [if_pos (nI_le (Nat.le_refl _) (by omega)), Nat.sub_self, show qa_fu = 2999 + 1 from rfl, qa_fX10_forgets_61, qw_s, qk_c146, qk_n146, h6, if_pos (nI_le (Nat.le_refl _) (by omega)), qw_wi, qz_us (by rw [h6])]
      rfl
    · obtain ⟨d, hd2⟩ : ∃ d, q - k = d + 1 := ⟨q - k - 1, by omega⟩
      rw [if_neg (nI_ge (by omega) (by omega)), qk_c147, qk_i147, nI_add, qz_ifn (by omega) (by omega), nI_clamp (by omega), hd2]
      unfold qr_qf
      by_cases e3 : s (147 + k) = nI a
      · rw [if_pos e3, if_pos e3]
        obtain ⟨q, rfl⟩ : ∃ j, q = j + 1 := ⟨q - 1, by omega⟩
        unfold qa_fX10_forgets_53
        dsimp only
        rw [qk_a1, nI_1, show nI k = nI (k + 1 - 1) from rfl, ← rf_fg2 (by omega) h6 (show k ≤ q by omega) (fun j h7 h8 t => hd k j h7 h8 (by rw [e3, t])) m (k + 1) (by omega) (by omega) (by omega)]
        congr 2
        funext i
        unfold qr_f1
        rw [if_neg (by omega)]
      · rw [if_neg e3, if_neg e3, qz_ifn (by omega) (by omega), qz_ifn (by omega) (by omega), qw_wi, qz_us rfl]
        unfold qa_fX10_forgets_53
        dsimp only
        rw [qk_a1, nI_1, ih (k + 1) (by omega) (by omega), show q - (k + 1) = d by omega]
theorem rf_fg (h : qi_qd s) (a : Nat) : qa_fX10_forgets (nI a) (qw ρ s y) = some (qw ρ (qr_fg s a) y) := by
  have h3 := qn_int h.1
  have h1 := qn_of h.1
  have h4 := h.2.1
  have h2 : qn (s 146) ≤ 16 := by omega
  unfold qa_fX10_forgets qr_fg qr_qp
  rw [qk_a0, show (0 : Int32) = nI 0 from rfl, rf_fg1 h2 h1 (fun j k h4 h5 => h.2.2 j k h4 (by omega)) qa_fu 0 (by omega) (by unfold qa_fu; omega), Nat.sub_zero]
  rfl
end QRK
