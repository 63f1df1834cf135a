/-! texts: the parts of a text, read by the class and by the reference -/
section QTX
variable {ρ σ σ' τ : qa_T} {s t : qs} {y : Int32} {B : Nat → Int32} {L : Nat}
/-- the reference's place in the buffer, is it wrong, its orders -/
def ro (ρ : qa_T) (a w o : Int32) : qa_T := qa_wi (qa_wi (qa_wi ρ (10, 21) 11 a) (10, 21) 12 w) (10, 21) 13 o
variable {a w o v : Int32}
theorem ro_c (i : Nat) (v : Int32) : qa_wi (qw ρ s y) (10, 21) i v = if i = 10 then qw ρ s v else qw (qa_wi ρ (10, 21) i v) s y := by
  refine Prod.ext (funext fun p => ?_) (by split <;> rfl)
  by_cases c : i = 10
  · subst c
    rw [if_pos rfl, qw_wy]
  · rw [if_neg c]
    by_cases h : p = (10, 22)
    · subst h
      rw [qw_s, wi_np (by decide), qw_s]
    · by_cases h2 : p = (10, 21)
      · subst h2
        funext j
        unfold qw qa_wi
        dsimp only
        rw [if_pos rfl, if_neg (by decide), if_pos rfl, if_neg (by decide), if_pos rfl, if_pos rfl, upd_c (fun e => c e.symm)]
      · rw [wi_np h2, qw_o h h2, qw_o h h2, wi_np h2]
theorem wi_2 {p : qa_P} {i : Nat} {v w : Int32} : qa_wi (qa_wi σ p i v) p i w = qa_wi σ p i w := by
  refine Prod.ext (funext fun q => ?_) rfl
  by_cases h : q = p
  · subst h
    funext j
    by_cases c : j = i
    · subst c
      rw [wi_eq, wi_eq]
    · rw [wi_ni c, wi_ni c, wi_ni c]
  · rw [wi_np h, wi_np h, wi_np h]
theorem wi_3 {p : qa_P} {i j : Nat} {v w : Int32} (h : ¬ i = j) : qa_wi (qa_wi σ p i v) p j w = qa_wi (qa_wi σ p j w) p i v := by
  refine Prod.ext (funext fun q => ?_) rfl
  by_cases hq : q = p
  · subst hq
    unfold qa_wi
    dsimp only
    rw [if_pos rfl, if_pos rfl, if_pos rfl, if_pos rfl, upd_c h]
  · rw [wi_np hq, wi_np hq, wi_np hq, wi_np hq]
theorem ro_11 (v : Int32) : qa_wi (qw (ro ρ a w o) s y) (10, 21) 11 v = qw (ro ρ v w o) s y := by
  rw [ro_c, if_neg (by decide)]
  unfold ro
  rw [wi_3 (i := 13) (j := 11) (by decide), wi_3 (i := 12) (j := 11) (by decide), wi_2]
theorem ro_12 (v : Int32) : qa_wi (qw (ro ρ a w o) s y) (10, 21) 12 v = qw (ro ρ a v o) s y := by
  rw [ro_c, if_neg (by decide)]
  unfold ro
  rw [wi_3 (i := 13) (j := 12) (by decide), wi_2]
theorem ro_13 (v : Int32) : qa_wi (qw (ro ρ a w o) s y) (10, 21) 13 v = qw (ro ρ a w v) s y := by
  rw [ro_c, if_neg (by decide)]
  unfold ro
  rw [wi_2]
theorem qw_21 {i : Nat} (h : ¬ i = 10) : (qw ρ s y).1 (10, 21) i = ρ.1 (10, 21) i := by
  unfold qw
  dsimp only
  rw [if_neg (by decide), if_pos rfl, pk_un h]
theorem ro_a : (qw (ro ρ a w o) s y).1 (10, 21) 11 = a := by
  rw [qw_21 (by decide)]
  unfold ro
  rw [wi_ni (by decide), wi_ni (by decide), wi_eq]
theorem ro_w : (qw (ro ρ a w o) s y).1 (10, 21) 12 = w := by
  rw [qw_21 (by decide)]
  unfold ro
  rw [wi_ni (by decide), wi_eq]
theorem ro_o : (qw (ro ρ a w o) s y).1 (10, 21) 13 = o := by
  rw [qw_21 (by decide)]
  unfold ro
  rw [wi_eq]
theorem ro_8 : (qw (ro ρ a w o) s y).1 (10, 21) 8 = ρ.1 (10, 21) 8 := by
  rw [qw_21 (by decide)]
  unfold ro
  rw [wi_ni (by decide), wi_ni (by decide), wi_ni (by decide)]
theorem ro_28 : (qw (ro ρ a w o) s y).1 (10, 28) = ρ.1 (10, 28) := by
  rw [qw_o (by decide) (by decide)]
  unfold ro
  rw [wi_np (by decide), wi_np (by decide), wi_np (by decide)]
/-- how a text is read: the digits behind a letter -/
def tx_dg (B : Nat → Int32) (q : Nat) : Bool := decide (48 ≤ (B q).toInt) && decide ((B q).toInt ≤ 57)
def tx_d (B : Nat → Int32) (L : Nat) (m : Nat) : Nat → Nat → Nat → Nat × Nat
  | 0, q, n => (q, n)
  | f + 1, q, n => if q < L ∧ tx_dg B q = true ∧ 0 < n ∧ 10 * (n : Int) + ((B q).toInt - 48) ≤ m then tx_d B L m f (q + 1) (10 * n + ((B q).toInt - 48).toNat) else (q, n)
/-- a letter's most; is it a letter of a slide -/
def tx_m (l : Int32) : Nat := if l = 116 then 100 else 15
def tx_sl (l : Int32) : Bool := decide (l = 97) || decide (l = 98) || decide (l = 112)
/-- a part that begins at i: none if it is wrong, with the place; else its end and its number -/
def tx_q (B : Nat → Int32) (L i : Nat) : Nat ⊕ (Nat × Nat) :=
  if i < L ∧ B i = 110 then .inr (i + 1, 0)
  else if i < L ∧ (tx_sl (B i) = true ∨ B i = 116) then
    (if i + 1 < L ∧ tx_dg B (i + 1) = true ∧ (B i = 116 → 49 ≤ (B (i + 1)).toInt) then .inr (tx_d B L (tx_m (B i)) 60 (i + 2) ((B (i + 1)).toInt - 48).toNat) else .inl (i + 1))
  else .inl i
/-- the whole text from i on: is it wrong, and where -/
def tx_p (B : Nat → Int32) (L : Nat) : Nat → Nat → Bool × Nat
  | 0, i => (true, i)
  | f + 1, i => match tx_q B L i with
    | .inl e => (true, e)
    | .inr (e, _) => if e < L then (if B e = 59 then tx_p B L f (e + 1) else (true, e)) else (false, e)
/-- the buffer of the reference -/
def tx_R (ρ : qa_T) (B : Nat → Int32) (L : Nat) : Prop := ρ.1 (10, 21) 8 = nI L ∧ ∀ i, i < L → ρ.1 (10, 28) i = B i
variable {i q n : Nat}
theorem in_x {x lo hi : Int32} : qa_fX10_in x lo hi σ = (decide (lo.toInt ≤ x.toInt) && decide (x.toInt ≤ hi.toInt)) := by
  unfold qa_fX10_in qa_fX10_in_14
  have c1 := qz_lt x lo
  have c2 := qz_lt hi x
  by_cases h1 : x < lo
  · have := c1.mp h1
    rw [if_pos h1, decide_eq_false (by omega), Bool.false_and]
  · have h1' : ¬ x.toInt < lo.toInt := fun t => h1 (c1.mpr t)
    rw [if_neg h1, decide_eq_true (by omega), Bool.true_and]
    by_cases h2 : hi < x
    · have := c2.mp h2
      rw [if_pos h2, decide_eq_false (by omega)]
    · have h2' : ¬ hi.toInt < x.toInt := fun t => h2 (c2.mpr t)
      rw [if_neg h2, decide_eq_true (by omega)]
theorem iw_x {x lo hi : Int32} : qa_fX9_isWithin x lo hi σ = (decide (lo.toInt ≤ x.toInt) && decide (x.toInt ≤ hi.toInt)) := by
  unfold qa_fX9_isWithin qa_fX9_isWithin_14
  have c1 := qz_lt x lo
  have c2 := qz_lt hi x
  by_cases h1 : x < lo
  · have := c1.mp h1
    rw [if_pos h1, decide_eq_false (by omega), Bool.false_and]
  · have h1' : ¬ x.toInt < lo.toInt := fun t => h1 (c1.mpr t)
    rw [if_neg h1, decide_eq_true (by omega), Bool.true_and]
    by_cases h2 : hi < x
    · have := c2.mp h2
      rw [if_pos h2, decide_eq_false (by omega)]
    · have h2' : ¬ hi.toInt < x.toInt := fun t => h2 (c2.mpr t)
      rw [if_neg h2, decide_eq_true (by omega)]
theorem rf_sg {lo hi : Int32} (h : tx_R ρ B L) (hL : L ≤ 60) (hlo : 0 < lo.toInt) (hq : q ≤ 60) : qa_fX10_sign lo hi (qw (ro ρ (nI q) 0 o) s y) = some (if q < L ∧ lo.toInt ≤ (B q).toInt ∧ (B q).toInt ≤ hi.toInt then (B q, qw (ro ρ (nI (q + 1)) 0 o) s y) else ((if q < L then B q else 0), qw (ro ρ (nI q) 1 o) s y)) := by
  have wr : ∀ x : Int32, ¬ (lo.toInt ≤ x.toInt ∧ x.toInt ≤ hi.toInt) → qa_fX10_sign_31 lo hi x (qw (ro ρ (nI q) 0 o) s y) = some (x, qw (ro ρ (nI q) 1 o) s y) := by
    intro x hx
    unfold qa_fX10_sign_31 qa_fX10_sign_49 qa_fX10_sign_74
    have e : qa_fX10_in x lo hi (qw (ro ρ (nI q) 0 o) s y) = false := by
      rw [in_x]
      by_cases c1 : lo.toInt ≤ x.toInt
      · rw [decide_eq_true c1, decide_eq_false (fun t => hx ⟨c1, t⟩)]; rfl
      · rw [decide_eq_false c1]; rfl
    rw [ro_w, if_neg (not_not_intro rfl), e, if_neg (show ¬ ¬ qa_bi false = 0 by decide), ro_12]
    dsimp only
    rw [ro_w, if_neg (show ¬ qa_bi true = 0 by decide), ro_a, qk_a0, Int32.add_zero, ro_11]
    rfl
  unfold qa_fX10_sign qa_fX10_sign_30
  rw [ro_8, h.1, ro_a, ro_w, ro_28]
  by_cases c : q < L
  · rw [if_neg (nI_ge c (by omega)), if_neg (not_not_intro rfl), qz_ifn (by omega) (by omega), nI_clamp (by omega), h.2 q c]
    by_cases c2 : lo.toInt ≤ (B q).toInt ∧ (B q).toInt ≤ hi.toInt
    · rw [if_pos ⟨c, c2⟩]
      unfold qa_fX10_sign_31 qa_fX10_sign_74
      rw [ro_w, if_neg (not_not_intro rfl), in_x, decide_eq_true c2.1, decide_eq_true c2.2, if_pos (show ¬ qa_bi (true && true) = 0 by decide), ro_12]
      dsimp only
      rw [ro_w, if_pos (show qa_bi false = 0 from rfl), ro_a, qk_a1, nI_1, ro_11]
      rfl
    · rw [if_neg (fun t => c2 t.2), if_pos c]
      exact wr _ c2
  · rw [if_pos (nI_le (by omega) (by omega)), if_neg (fun t => c t.1), if_neg c, qk_a0]
    exact wr 0 (by rw [qk_t0]; omega)
theorem rf_num {m : Nat} (h : tx_R ρ B L) (hL : L ≤ 60) (hm : m ≤ 100) (a1 : Int32) : ∀ (j f q n : Nat), L - q ≤ j → n ≤ m → q ≤ 60 → j < f → qa_fX10_number_14 a1 (nI m) f (nI n) (qw (ro ρ (nI q) 0 o) s y) = some (nI (tx_d B L m j q n).2, qw (ro ρ (nI (tx_d B L m j q n).1) 0 o) s y) := by
  intro j
  induction j with
  | zero =>
    intro f q n h1 h2 hq hf
    obtain ⟨f, rfl⟩ : ∃ i, f = i + 1 := ⟨f - 1, by omega⟩
    rw [qa_fX10_number_14]
    unfold qa_fX10_number_96 tx_d
    rw [ro_w, if_neg (not_not_intro rfl), ro_8, h.1, ro_a]
    split
    · rfl
    · rw [if_pos (nI_le (by omega) (by omega))]
  | succ j ih =>
    intro f q n h1 h2 hq hf
    obtain ⟨f, rfl⟩ : ∃ i, f = i + 1 := ⟨f - 1, by omega⟩
    rw [qa_fX10_number_14]
    unfold qa_fX10_number_96 tx_d
    rw [ro_w, if_neg (not_not_intro rfl), ro_8, h.1, ro_a, ro_28]
    have en := qz_nI (k := n) (by omega)
    by_cases c1 : 0 < n
    · rw [if_neg (nI_nle c1 (by omega))]
      by_cases c2 : q < L
      · rw [if_neg (nI_ge c2 (by omega)), qz_ifn (by omega) (by omega), nI_clamp (by omega), h.2 q c2, in_x, qk_b48, qk_b57, qk_t48, qk_t57]
        by_cases c3 : tx_dg B q = true
        · have c3' := c3
          unfold tx_dg at c3'
          rw [c3', if_neg (show ¬ qa_bi true = 0 by decide), qz_ifn (by omega) (by omega)]
          rw [Bool.and_eq_true, decide_eq_true_eq, decide_eq_true_eq] at c3'
          have e1 : ((Int8.ofInt 10).toInt32) * nI n = nI (10 * n) := by rw [qk_b10, qk_i10, nI_mul]
          have e2 := qz_nI (k := 10 * n) (by omega)
          have e3 : (nI (10 * n) + B q).toInt = 10 * n + (B q).toInt := by rw [qz_add (by omega) (by omega), e2]; omega
          have e4 : (nI (10 * n) + B q - 48).toInt = 10 * (n : Int) + ((B q).toInt - 48) := by rw [qz_sub (by rw [qk_t48]; omega) (by rw [qk_t48]; omega), e3, qk_t48]; omega
          have e5 : (nI m < nI (10 * n) + B q - 48) ↔ ¬ (10 * (n : Int) + ((B q).toInt - 48) ≤ m) := by rw [qz_lt, e4, qz_nI (by omega)]; omega
          rw [e1]
          by_cases c4 : 10 * (n : Int) + ((B q).toInt - 48) ≤ m
          · rw [if_neg (fun t => e5.mp t c4), rf_sg h hL (by decide) hq, if_pos ⟨c2, c3'⟩, Option.bind_some, if_pos ⟨c2, c3, c1, c4⟩]
            dsimp only
            have e6 : nI (10 * n) + B q - 48 = nI (10 * n + ((B q).toInt - 48).toNat) := by rw [qz_eq, e4, qz_nI (by omega)]; omega
            rw [e6]
            exact ih f (q + 1) _ (by omega) (by omega) (by omega) (by omega)
          · rw [if_pos (e5.mpr c4), if_neg (fun t => c4 t.2.2.2)]
        · have c3' : (decide ((48 : Int) ≤ (B q).toInt) && decide ((B q).toInt ≤ 57)) = false := by
            unfold tx_dg at c3
            simpa using c3
          rw [c3', if_pos (show qa_bi false = 0 from rfl), if_neg (fun t => c3 t.2.1)]
      · rw [if_pos (nI_le (by omega) (by omega)), if_neg (fun t => c2 t.1)]
    · have : n = 0 := by omega
      subst this
      rw [if_pos (by rw [nI_0]; exact Int32.le_refl _), if_neg (fun t => c1 t.2.2.1)]
/-- an order is read -/
def tx_w (r : Nat ⊕ (Nat × Nat)) : Int32 := match r with
  | .inl _ => 1
  | .inr _ => 0
def tx_e (r : Nat ⊕ (Nat × Nat)) : Nat := match r with
  | .inl e => e
  | .inr (e, _) => e
theorem rf_nu {m k : Nat} (h : tx_R ρ B L) (hL : L ≤ 60) (hm : m ≤ 100) (hm2 : 9 ≤ m) (hk : k ≤ 1) (hq : q ≤ 60) : if q < L ∧ tx_dg B q = true ∧ (48 + k : Int) ≤ (B q).toInt then qa_fX10_number (nI k) (nI m) (qw (ro ρ (nI q) 0 o) s y) = some (nI (tx_d B L m 60 (q + 1) ((B q).toInt - 48).toNat).2, qw (ro ρ (nI (tx_d B L m 60 (q + 1) ((B q).toInt - 48).toNat).1) 0 o) s y) else ∃ v, qa_fX10_number (nI k) (nI m) (qw (ro ρ (nI q) 0 o) s y) = some (v, qw (ro ρ (nI q) 1 o) s y) := by
  have e1 : ((Int8.ofInt 48).toInt32) + nI k = nI (48 + k) := by rw [qk_b48, qk_i48, nI_add]
  have e2 := qz_nI (k := 48 + k) (by omega)
  have hsg := rf_sg (ρ := ρ) (B := B) (L := L) (q := q) (o := o) (s := s) (y := y) (lo := nI (48 + k)) (hi := 57) h hL (by omega) hq
  rw [e2, qk_t57] at hsg
  have cc : (q < L ∧ tx_dg B q = true ∧ (48 + k : Int) ≤ (B q).toInt) ↔ (q < L ∧ ((48 + k : Nat) : Int) ≤ (B q).toInt ∧ (B q).toInt ≤ 57) := by
    unfold tx_dg
    rw [Bool.and_eq_true, decide_eq_true_eq, decide_eq_true_eq]
    omega
  unfold qa_fX10_number
  rw [e1, qk_b57, hsg]
  by_cases c : q < L ∧ tx_dg B q = true ∧ (48 + k : Int) ≤ (B q).toInt
  · rw [if_pos c, if_pos (cc.mp c), Option.bind_some]
    have c2 := cc.mp c
    dsimp only
    have e4 : (B q - 48).toInt = (B q).toInt - 48 := by rw [qz_sub (by rw [qk_t48]; omega) (by rw [qk_t48]; omega), qk_t48]
    have e6 : B q - ((Int8.ofInt 48).toInt32) = nI ((B q).toInt - 48).toNat := by rw [qk_b48, qz_eq, e4, qz_nI (by omega)]; omega
    rw [e6]
    exact rf_num h hL hm (nI k) 60 qa_fu (q + 1) _ (by omega) (by omega) (by omega) (by unfold qa_fu; omega)
  · rw [if_neg c, if_neg (fun t => c (cc.mpr t)), Option.bind_some]
    dsimp only
    rw [show qa_fu = 2999 + 1 from rfl, qa_fX10_number_14, ro_w, if_pos (show ¬ (1 : Int32) = 0 by decide)]
    exact ⟨_, rfl⟩
theorem rf_105 (x : Int32) {b : Bool} {k1 : Nat} (h : tx_R ρ B L) (hL : L ≤ 60) (hi : i < L) : (tx_sl x = true → ∃ v, qa_fX10_isOrdered_105 b x 1 1 (nI i) (qw (ro ρ a 0 o) s y) = qa_fX10_isOrdered_140 b x v (qw (ro ρ (nI (tx_e (if i + 1 < L ∧ tx_dg B (i + 1) = true then .inr (tx_d B L 15 60 (i + 2) ((B (i + 1)).toInt - 48).toNat) else .inl (i + 1)))) (tx_w (if i + 1 < L ∧ tx_dg B (i + 1) = true then .inr (tx_d B L 15 60 (i + 2) ((B (i + 1)).toInt - 48).toNat) else .inl (i + 1))) o) s y) ∧ (i + 1 < L ∧ tx_dg B (i + 1) = true → v = nI (tx_d B L 15 60 (i + 2) ((B (i + 1)).toInt - 48).toNat).2)) ∧ (x = 116 → ∃ v, qa_fX10_isOrdered_105 b x 0 1 (nI i) (qw (ro ρ a 0 o) s y) = qa_fX10_isOrdered_140 b x v (qw (ro ρ (nI (tx_e (if i + 1 < L ∧ tx_dg B (i + 1) = true ∧ 49 ≤ (B (i + 1)).toInt then .inr (tx_d B L 100 60 (i + 2) ((B (i + 1)).toInt - 48).toNat) else .inl (i + 1)))) (tx_w (if i + 1 < L ∧ tx_dg B (i + 1) = true ∧ 49 ≤ (B (i + 1)).toInt then .inr (tx_d B L 100 60 (i + 2) ((B (i + 1)).toInt - 48).toNat) else .inl (i + 1))) o) s y) ∧ (i + 1 < L ∧ tx_dg B (i + 1) = true ∧ 49 ≤ (B (i + 1)).toInt → v = nI (tx_d B L 100 60 (i + 2) ((B (i + 1)).toInt - 48).toNat).2)) := by
  constructor
  · intro hx
    have h1 := rf_nu (ρ := ρ) (B := B) (L := L) (q := i + 1) (m := 15) (k := 0) (o := o) (s := s) (y := y) h hL (by omega) (by omega) (by omega) (by omega)
    unfold qa_fX10_isOrdered_105
    rw [ro_11, nI_1]
    dsimp only
    rw [if_neg (show ¬ (1 : Int32) = 0 by decide), qk_a0, qk_b15, qk_i15]
    rw [nI_0] at h1
    have e : (i + 1 < L ∧ tx_dg B (i + 1) = true ∧ (48 + ((0 : Nat) : Int) : Int) ≤ (B (i + 1)).toInt) ↔ (i + 1 < L ∧ tx_dg B (i + 1) = true) := by
      constructor
      · intro t; exact ⟨t.1, t.2.1⟩
      · intro t
        refine ⟨t.1, t.2, ?_⟩
        have := t.2
        unfold tx_dg at this
        rw [Bool.and_eq_true, decide_eq_true_eq, decide_eq_true_eq] at this
        omega
    by_cases c : i + 1 < L ∧ tx_dg B (i + 1) = true
    · rw [if_pos (e.mpr c)] at h1
      rw [if_pos c, h1, Option.bind_some]
      exact ⟨_, rfl, fun _ => rfl⟩
    · rw [if_neg (fun t => c (e.mp t))] at h1
      obtain ⟨v, h1⟩ := h1
      rw [if_neg c, h1, Option.bind_some]
      exact ⟨v, rfl, fun t => absurd t c⟩
  · intro hx
    have h1 := rf_nu (ρ := ρ) (B := B) (L := L) (q := i + 1) (m := 100) (k := 1) (o := o) (s := s) (y := y) h hL (by omega) (by omega) (by omega) (by omega)
    unfold qa_fX10_isOrdered_105
    rw [ro_11, nI_1]
    dsimp only
    rw [if_pos rfl, qk_b116, if_neg (not_not_intro hx), qk_a1, qk_b100, qk_i100, show (1 : Int32) = nI 1 from rfl]
    have e : (48 + ((1 : Nat) : Int) : Int) = 49 := rfl
    rw [e] at h1
    by_cases c : i + 1 < L ∧ tx_dg B (i + 1) = true ∧ 49 ≤ (B (i + 1)).toInt
    · rw [if_pos c] at h1 ⊢
      rw [h1, Option.bind_some]
      exact ⟨_, rfl, fun _ => rfl⟩
    · rw [if_neg c] at h1 ⊢
      obtain ⟨v, h1⟩ := h1
      rw [h1, Option.bind_some]
      exact ⟨v, rfl, fun t => absurd t c⟩
theorem b_t : qa_bi true = 1 := rfl
theorem b_f : qa_bi false = 0 := rfl
theorem n_10 : ((1 : Int32) = 0) = False := eq_false (by decide)
theorem or_w (x : Int32) {b : Bool} (h1 : tx_sl x = false) (h2 : ¬ x = 110) (h3 : ¬ x = 116) : qa_fX10_isOrdered_31 b x (qw (ro ρ (nI i) 0 o) s y) = qa_fX10_isOrdered_140 b x 0 (qw (ro ρ (nI i) 1 o) s y) := by
  unfold tx_sl at h1
  simp only [Bool.or_eq_false_iff, decide_eq_false_iff_not] at h1
  unfold qa_fX10_isOrdered_31 qa_fX10_isOrdered_55 qa_fX10_isOrdered_80
  simp only [qk_am1, qk_a0, qk_a1, qk_a2, qk_a3, qk_a4, qk_a5, qk_b6, qk_b7, qk_b10, qk_b15, qk_b16, qk_b20, qk_b24, qk_b25, qk_b33, qk_b48, qk_b50, qk_b52, qk_b57, qk_b59, qk_b60, qk_b97, qk_b98, qk_b100, qk_b110, qk_b112, qk_b113, qk_b114, qk_b116, qk_b126, qk_c138, qk_c139, qk_c140, qk_c141, qk_c142, qk_c143, qk_c144, qk_c145, qk_c146, qk_c147, qk_c150, qk_c163, qk_c164, qk_c165, qk_c166, qk_c167, qk_c168, qk_c169, qk_c170, qk_c171, qk_c172, qk_c173, qk_c174, qk_c175, qk_c176, qk_c400, qk_c880, qk_c1000, qk_c1023, b_t, b_f, n_10, not_true, not_false_iff, if_true, if_false, eq_self_iff_true, if_neg h1.1.1, if_neg h1.1.2, if_pos h1.2, ro_w, if_neg h2, if_neg h3]
  unfold qa_fX10_isOrdered_105
  simp only [qk_am1, qk_a0, qk_a1, qk_a2, qk_a3, qk_a4, qk_a5, qk_b6, qk_b7, qk_b10, qk_b15, qk_b16, qk_b20, qk_b24, qk_b25, qk_b33, qk_b48, qk_b50, qk_b52, qk_b57, qk_b59, qk_b60, qk_b97, qk_b98, qk_b100, qk_b110, qk_b112, qk_b113, qk_b114, qk_b116, qk_b126, qk_c138, qk_c139, qk_c140, qk_c141, qk_c142, qk_c143, qk_c144, qk_c145, qk_c146, qk_c147, qk_c150, qk_c163, qk_c164, qk_c165, qk_c166, qk_c167, qk_c168, qk_c169, qk_c170, qk_c171, qk_c172, qk_c173, qk_c174, qk_c175, qk_c176, qk_c400, qk_c880, qk_c1000, qk_c1023, b_t, b_f, n_10, not_true, not_false_iff, if_true, if_false, eq_self_iff_true, ro_12, ro_w, ro_a, if_pos h3, if_true, Int32.add_zero, ro_11]
  rw [if_neg h2, if_neg h3]
theorem or_n {b : Bool} : qa_fX10_isOrdered_31 b 110 (qw (ro ρ (nI i) 0 o) s y) = qa_fX10_isOrdered_140 b 110 0 (qw (ro ρ (nI (i + 1)) 0 o) s y) := by
  unfold qa_fX10_isOrdered_31 qa_fX10_isOrdered_55 qa_fX10_isOrdered_84 qa_fX10_isOrdered_105
  simp only [qk_am1, qk_a0, qk_a1, qk_a2, qk_a3, qk_a4, qk_a5, qk_b6, qk_b7, qk_b10, qk_b15, qk_b16, qk_b20, qk_b24, qk_b25, qk_b33, qk_b48, qk_b50, qk_b52, qk_b57, qk_b59, qk_b60, qk_b97, qk_b98, qk_b100, qk_b110, qk_b112, qk_b113, qk_b114, qk_b116, qk_b126, qk_c138, qk_c139, qk_c140, qk_c141, qk_c142, qk_c143, qk_c144, qk_c145, qk_c146, qk_c147, qk_c150, qk_c163, qk_c164, qk_c165, qk_c166, qk_c167, qk_c168, qk_c169, qk_c170, qk_c171, qk_c172, qk_c173, qk_c174, qk_c175, qk_c176, qk_c400, qk_c880, qk_c1000, qk_c1023, b_t, b_f, n_10, not_true, not_false_iff, if_true, if_false, eq_self_iff_true, ro_w, ro_12, ro_a, ro_11, if_neg (show ¬ (110 : Int32) = 97 by decide), if_neg (show ¬ (110 : Int32) = 98 by decide), if_pos (show ¬ (110 : Int32) = 112 by decide), if_pos (show ¬ (110 : Int32) = 116 by decide), nI_1]
theorem or_s (x : Int32) {b : Bool} (h : tx_sl x = true) : qa_fX10_isOrdered_31 b x (qw (ro ρ (nI i) 0 o) s y) = qa_fX10_isOrdered_105 b x 1 1 (nI i) (qw (ro ρ (nI i) 0 o) s y) := by
  unfold tx_sl at h
  simp only [Bool.or_eq_true, decide_eq_true_eq] at h
  unfold qa_fX10_isOrdered_31 qa_fX10_isOrdered_50 qa_fX10_isOrdered_55 qa_fX10_isOrdered_84
  simp only [qk_am1, qk_a0, qk_a1, qk_a2, qk_a3, qk_a4, qk_a5, qk_b6, qk_b7, qk_b10, qk_b15, qk_b16, qk_b20, qk_b24, qk_b25, qk_b33, qk_b48, qk_b50, qk_b52, qk_b57, qk_b59, qk_b60, qk_b97, qk_b98, qk_b100, qk_b110, qk_b112, qk_b113, qk_b114, qk_b116, qk_b126, qk_c138, qk_c139, qk_c140, qk_c141, qk_c142, qk_c143, qk_c144, qk_c145, qk_c146, qk_c147, qk_c150, qk_c163, qk_c164, qk_c165, qk_c166, qk_c167, qk_c168, qk_c169, qk_c170, qk_c171, qk_c172, qk_c173, qk_c174, qk_c175, qk_c176, qk_c400, qk_c880, qk_c1000, qk_c1023, b_t, b_f, n_10, not_true, not_false_iff, if_true, if_false, eq_self_iff_true, ro_w, ro_12, ro_a]
  rcases h with (h | h) | h
  · rw [if_pos h]
  · rw [if_neg (by rw [h]; decide), if_pos h]
  · rw [if_neg (by rw [h]; decide), if_neg (not_not_intro h), ite_self]
theorem or_t {b : Bool} : qa_fX10_isOrdered_31 b 116 (qw (ro ρ (nI i) 0 o) s y) = qa_fX10_isOrdered_105 b 116 0 1 (nI i) (qw (ro ρ (nI i) 0 o) s y) := by
  unfold qa_fX10_isOrdered_31 qa_fX10_isOrdered_55 qa_fX10_isOrdered_84
  simp only [qk_am1, qk_a0, qk_a1, qk_a2, qk_a3, qk_a4, qk_a5, qk_b6, qk_b7, qk_b10, qk_b15, qk_b16, qk_b20, qk_b24, qk_b25, qk_b33, qk_b48, qk_b50, qk_b52, qk_b57, qk_b59, qk_b60, qk_b97, qk_b98, qk_b100, qk_b110, qk_b112, qk_b113, qk_b114, qk_b116, qk_b126, qk_c138, qk_c139, qk_c140, qk_c141, qk_c142, qk_c143, qk_c144, qk_c145, qk_c146, qk_c147, qk_c150, qk_c163, qk_c164, qk_c165, qk_c166, qk_c167, qk_c168, qk_c169, qk_c170, qk_c171, qk_c172, qk_c173, qk_c174, qk_c175, qk_c176, qk_c400, qk_c880, qk_c1000, qk_c1023, b_t, b_f, n_10, not_true, not_false_iff, if_true, if_false, eq_self_iff_true, ro_w, ro_12, ro_a, if_neg (show ¬ (116 : Int32) = 97 by decide), if_neg (show ¬ (116 : Int32) = 98 by decide), if_pos (show ¬ (116 : Int32) = 112 by decide), if_neg (show ¬ (116 : Int32) = 110 by decide), if_true]
theorem rf_or (h : tx_R ρ B L) (hL : L ≤ 60) (hi : i ≤ 60) (b : Bool) : ∃ x v, qa_fX10_isOrdered b (qw (ro ρ (nI i) 0 o) s y) = qa_fX10_isOrdered_140 b x v (qw (ro ρ (nI (tx_e (tx_q B L i))) (tx_w (tx_q B L i)) o) s y) ∧ ∀ e n, tx_q B L i = .inr (e, n) → x = B i ∧ v = nI n := by
  unfold qa_fX10_isOrdered qa_fX10_isOrdered_30
  rw [ro_8, h.1, ro_a, ro_w, ro_28]
  by_cases c : i < L
  · rw [if_neg (nI_ge c (by omega)), if_neg (not_not_intro rfl), qz_ifn (by omega) (by omega), nI_clamp (by omega), h.2 i c]
    by_cases c1 : B i = 110
    · have e : tx_q B L i = .inr (i + 1, 0) := by
        unfold tx_q
        rw [if_pos ⟨c, c1⟩]
      rw [e, c1, or_n]
      exact ⟨110, 0, rfl, fun e n t => by cases t; exact ⟨rfl, rfl⟩⟩
    · by_cases c2 : tx_sl (B i) = true
      · have n116 : ¬ B i = 116 := fun t => by rw [t] at c2; revert c2; decide
        have e : tx_q B L i = (if i + 1 < L ∧ tx_dg B (i + 1) = true then .inr (tx_d B L 15 60 (i + 2) ((B (i + 1)).toInt - 48).toNat) else .inl (i + 1)) := by
          unfold tx_q
          rw [if_neg (fun t => c1 t.2), if_pos ⟨c, Or.inl c2⟩]
          have em : tx_m (B i) = 15 := by
            unfold tx_m
            rw [if_neg n116]
          rw [em]
          by_cases c4 : i + 1 < L ∧ tx_dg B (i + 1) = true
          · rw [if_pos c4, if_pos ⟨c4.1, c4.2, fun t => absurd t n116⟩]
          · rw [if_neg c4, if_neg (fun t => c4 ⟨t.1, t.2.1⟩)]
        obtain ⟨v, g1, g2⟩ := (rf_105 (ρ := ρ) (a := nI i) (o := o) (s := s) (y := y) (b := b) (k1 := 0) (B i) h hL c).1 c2
        rw [e, or_s _ c2, g1]
        refine ⟨B i, v, rfl, fun e n t => ⟨rfl, ?_⟩⟩
        by_cases c4 : i + 1 < L ∧ tx_dg B (i + 1) = true
        · rw [if_pos c4] at t
          rw [g2 c4, Sum.inr.inj t]
        · rw [if_neg c4] at t
          cases t
      · by_cases c3 : B i = 116
        · have e : tx_q B L i = (if i + 1 < L ∧ tx_dg B (i + 1) = true ∧ 49 ≤ (B (i + 1)).toInt then .inr (tx_d B L 100 60 (i + 2) ((B (i + 1)).toInt - 48).toNat) else .inl (i + 1)) := by
            unfold tx_q
            rw [if_neg (fun t => c1 t.2), if_pos ⟨c, Or.inr c3⟩]
            have em : tx_m (B i) = 100 := by
              unfold tx_m
              rw [if_pos c3]
            rw [em]
            by_cases c4 : i + 1 < L ∧ tx_dg B (i + 1) = true ∧ 49 ≤ (B (i + 1)).toInt
            · rw [if_pos c4, if_pos ⟨c4.1, c4.2.1, fun _ => c4.2.2⟩]
            · rw [if_neg c4, if_neg (fun t => c4 ⟨t.1, t.2.1, t.2.2 c3⟩)]
          obtain ⟨v, g1, g2⟩ := (rf_105 (ρ := ρ) (a := nI i) (o := o) (s := s) (y := y) (b := b) (k1 := 0) (B i) h hL c).2 c3
          rw [e]
          rw [c3] at g1 ⊢
          rw [or_t, g1]
          refine ⟨116, v, rfl, fun e n t => ⟨rfl, ?_⟩⟩
          by_cases c4 : i + 1 < L ∧ tx_dg B (i + 1) = true ∧ 49 ≤ (B (i + 1)).toInt
          · rw [if_pos c4] at t
            rw [g2 c4, Sum.inr.inj t]
          · rw [if_neg c4] at t
            cases t
        · have e : tx_q B L i = .inl i := by
            unfold tx_q
            rw [if_neg (fun t => c1 t.2), if_neg (fun t => t.2.elim c2 c3)]
          rw [e, or_w (B i) (by simpa using c2) c1 c3]
          exact ⟨_, _, rfl, fun e n t => by cases t⟩
  · rw [if_pos (nI_le (by omega) (by omega)), qk_a0, or_w 0 (by decide) (by decide) (by decide)]
    have e : tx_q B L i = .inl i := by
      unfold tx_q
      rw [if_neg (fun t => c t.1), if_neg (fun t => c t.1)]
    rw [e]
    exact ⟨_, _, rfl, fun e n t => by cases t⟩
end QTX
