/-! the class reads a text (2): a part, the whole -/
section QCU
variable {σ σ' τ : qa_T} {s t : qs} {B : Nat → Int32} {L i e n k : Nat} {l x v w : Int32} {α : Type}
def cn (l : Int32) (n : Nat) : Int32 := if l = 110 then -1 else nI n
theorem tx_ds {m : Nat} : ∀ (j q n : Nat), L - q ≤ j → ¬ ((tx_d B L m j q n).1 < L ∧ tx_dg B (tx_d B L m j q n).1 = true ∧ 0 < (tx_d B L m j q n).2 ∧ 10 * ((tx_d B L m j q n).2 : Int) + ((B (tx_d B L m j q n).1).toInt - 48) ≤ m) := by
  intro j
  induction j with
  | zero =>
    intro q n h t
    rw [tx_d] at t
    have := t.1
    omega
  | succ j ih =>
    intro q n h
    rw [tx_d]
    split
    · exact ih _ _ (by omega)
    · rename_i c; exact c
/-- a loop over the text that goes on where a letter is taken -/
def qG (B : Nat → Int32) (L : Nat) (G : Nat → Int32 → qa_T → Option α) : Prop := ∀ (f i : Nat) (σ : qa_T), i < L → tx_C σ B L → ¬ B i = 59 → (qa_fX8_accept (B i) σ).1 = true → G (f + 1) (nI i) σ = G f (nI (i + 1)) (qa_fX8_accept (B i) σ).2
theorem sl_f (h : tx_L l) : ¬ l = 0 ∧ ¬ l = 59 := by
  rcases h with c | c | c | c | c <;> rw [c] <;> exact ⟨by decide, by decide⟩
theorem dg_f {q : Nat} (h : tx_dg B q = true) : ¬ B q = 59 := fun t => by
  unfold tx_dg at h
  rw [t] at h
  revert h
  decide
theorem sc_d {G : Nat → Int32 → qa_T → Option α} (hG : qG B L G) (h : tx_C σ B L) (h0 : ¬ l = 0) (h110 : ¬ l = 110) : ∀ (j f q n : Nat), L - q ≤ f → q ≤ L → n ≤ tx_m l → ∃ f', f' + ((tx_d B L (tx_m l) j q n).1 - q) = f ∧ G f (nI q) (cs σ l (nI n)) = G f' (nI (tx_d B L (tx_m l) j q n).1) (cs σ l (nI (tx_d B L (tx_m l) j q n).2)) := by
  intro j
  induction j with
  | zero => intro f q n hf hq hn; exact ⟨f, by rw [tx_d]; omega, rfl⟩
  | succ j ih =>
    intro f q n hf hq hn
    rw [tx_d]
    by_cases c : q < L ∧ tx_dg B q = true ∧ 0 < n ∧ 10 * (n : Int) + ((B q).toInt - 48) ≤ tx_m l
    · rw [if_pos c]
      have c2 := c.2.1
      unfold tx_dg at c2
      rw [Bool.and_eq_true, decide_eq_true_eq, decide_eq_true_eq] at c2
      obtain ⟨f, rfl⟩ : ∃ i, f = i + 1 := ⟨f - 1, by omega⟩
      have a1 := ad_n (σ := σ) (x := B q) h110 hn
      have cc : tx_g (B q) = true ∧ 0 < n ∧ 10 * (n : Int) + ((B q).toInt - 48) ≤ tx_m l := c.2
      rw [if_pos cc, ← ac_D h0 (dg_f c.2.1)] at a1
      have hb := tx_db (B := B) (L := L) (m := tx_m l) j (q + 1) (10 * n + ((B q).toInt - 48).toNat) (by omega) (by omega)
      obtain ⟨f', b1, b2⟩ := ih f (q + 1) (10 * n + ((B q).toInt - 48).toNat) (by omega) (by omega) (by omega)
      refine ⟨f', by omega, ?_⟩
      rw [hG f q _ c.1 (cs_C h) (dg_f c.2.1) (by rw [a1]), a1]
      exact b2
    · rw [if_neg c]
      exact ⟨f, by omega, rfl⟩
theorem sc_q {G : Nat → Int32 → qa_T → Option α} (hG : qG B L G) (h : tx_C σ B L) {f : Nat} (hf : L - i ≤ f) (c : tx_q B L i = .inr (e, n)) : ∃ f', f' + (e - i) = f ∧ G f (nI i) (cs σ 0 (-1)) = G f' (nI e) (cs σ (B i) (cn (B i) n)) := by
  unfold tx_q at c
  by_cases c1 : i < L ∧ B i = 110
  · rw [if_pos c1] at c
    have h1 := Prod.mk.inj (Sum.inr.inj c)
    obtain ⟨f, rfl⟩ : ∃ i, f = i + 1 := ⟨f - 1, by omega⟩
    have a1 := ac_L (σ := σ) (x := B i) (w := -1)
    refine ⟨f, by omega, ?_⟩
    rw [hG f i _ c1.1 (cs_C h) (by rw [c1.2]; decide) (by rw [a1, c1.2]; rfl), a1, ← h1.1]
    unfold cn
    rw [if_pos c1.2]
  · rw [if_neg c1] at c
    by_cases c2 : i < L ∧ (tx_sl (B i) = true ∨ B i = 116)
    · rw [if_pos c2] at c
      by_cases c3 : i + 1 < L ∧ tx_dg B (i + 1) = true ∧ (B i = 116 → 49 ≤ (B (i + 1)).toInt)
      · rw [if_pos c3] at c
        have h1 := Sum.inr.inj c
        have n110 : ¬ B i = 110 := fun t => c1 ⟨c2.1, t⟩
        obtain ⟨f, rfl⟩ : ∃ i, f = i + 1 := ⟨f - 1, by omega⟩
        obtain ⟨f, rfl⟩ : ∃ i, f = i + 1 := ⟨f - 1, by omega⟩
        have a1 := ac_L (σ := σ) (x := B i) (w := -1)
        have ok : (decide (B i = 110) || tx_sl (B i) || decide (B i = 116)) = true := by
          rcases c2.2 with c4 | c4
          · rw [c4, Bool.or_true, Bool.true_or]
          · rw [decide_eq_true c4, Bool.or_true]
        have hl : tx_L (B i) := by
          rcases c2.2 with c4 | c4
          · unfold tx_sl at c4
            simp only [Bool.or_eq_true, decide_eq_true_eq] at c4
            rcases c4 with (c4 | c4) | c4
            · exact Or.inr (Or.inr (Or.inl c4))
            · exact Or.inr (Or.inr (Or.inr (Or.inl c4)))
            · exact Or.inr (Or.inr (Or.inr (Or.inr c4)))
          · exact Or.inl c4
        obtain ⟨l0, l59⟩ := sl_f hl
        have a2 := ad_1 (σ := σ) (x := B (i + 1)) n110
        have cc : tx_g (B (i + 1)) = true ∧ (B i = 116 → 49 ≤ (B (i + 1)).toInt) := c3.2
        rw [if_pos cc, ← ac_D l0 (dg_f c3.2.1)] at a2
        have h2 := c3.2.1
        unfold tx_dg at h2
        rw [Bool.and_eq_true, decide_eq_true_eq, decide_eq_true_eq] at h2
        have hm : 15 ≤ tx_m (B i) := by
          unfold tx_m
          split <;> omega
        have hb := tx_db (B := B) (L := L) (m := tx_m (B i)) 60 (i + 2) ((B (i + 1)).toInt - 48).toNat (by omega) (by omega)
        obtain ⟨f', b1, b2⟩ := sc_d hG h l0 n110 60 f (i + 2) ((B (i + 1)).toInt - 48).toNat (by omega) (by omega) (by omega)
        rw [h1] at b1 b2 hb
        dsimp only at b1 b2 hb
        refine ⟨f', by omega, ?_⟩
        rw [hG _ i _ c2.1 (cs_C h) l59 (by rw [a1]; exact ok), a1]
        dsimp only
        rw [hG _ (i + 1) _ c3.1 (cs_C h) (dg_f c3.2.1) (by rw [a2]), a2]
        dsimp only
        unfold cn
        rw [if_neg n110]
        exact b2
      · rw [if_neg c3] at c
        cases c
    · rw [if_neg c2] at c
      cases c
theorem at_B (h : tx_C σ B L) (hL : L ≤ 60) (hi : i < L) : qa_fX9_at (10, 20) 60 (nI i) σ = B i := by
  rw [at_in (by omega) (by omega), h.2 i hi]
theorem gE (hL : L ≤ 60) : qG B L qa_fX8_readToError_6 := by
  intro f i σ hi h h59 hb
  rw [qa_fX8_readToError_6, h.1, if_neg (nI_ge hi (by omega)), at_B h hL hi]
  dsimp only
  rw [hb, if_pos (by decide), qk_a1, nI_1]
theorem gP (hL : L ≤ 60) : qG B L qa_fX8_readPart_9 := by
  intro f i σ hi h h59 hb
  rw [qa_fX8_readPart_9, h.1, if_neg (nI_ge hi (by omega)), at_B h hL hi, qk_b59, if_neg h59]
  dsimp only
  rw [qk_a1, nI_1]
/-- at the end of a part nothing else can be taken -/
theorem sc_n (c : tx_q B L i = .inr (e, n)) (h : e < L) (h59 : ¬ B e = 59) (hL : L ≤ 60) : (qa_fX8_accept (B e) (cs σ (B i) (cn (B i) n))).1 = false := by
  obtain ⟨-, -, hl, -, -⟩ := tx_qr c
  obtain ⟨l0, l59⟩ := sl_f hl
  rw [ac_D l0 h59]
  unfold cn
  by_cases c0 : B i = 110
  · rw [c0, ad_110]
  · rw [if_neg c0]
    unfold tx_q at c
    rw [if_neg (fun t => c0 t.2)] at c
    by_cases c2 : i < L ∧ (tx_sl (B i) = true ∨ B i = 116)
    · rw [if_pos c2] at c
      by_cases c3 : i + 1 < L ∧ tx_dg B (i + 1) = true ∧ (B i = 116 → 49 ≤ (B (i + 1)).toInt)
      · rw [if_pos c3] at c
        have h1 := Sum.inr.inj c
        have h2 := c3.2.1
        unfold tx_dg at h2
        rw [Bool.and_eq_true, decide_eq_true_eq, decide_eq_true_eq] at h2
        have hm : 15 ≤ tx_m (B i) := by
          unfold tx_m
          split <;> omega
        have hb := tx_db (B := B) (L := L) (m := tx_m (B i)) 60 (i + 2) ((B (i + 1)).toInt - 48).toNat (by omega) (by omega)
        have hs := tx_ds (B := B) (L := L) (m := tx_m (B i)) 60 (i + 2) ((B (i + 1)).toInt - 48).toNat (by omega)
        rw [h1] at hb hs
        dsimp only at hb hs
        have a := ad_n (σ := σ) (x := B e) c0 hb.2.2
        have cc : ¬ (tx_g (B e) = true ∧ 0 < n ∧ 10 * (n : Int) + ((B e).toInt - 48) ≤ tx_m (B i)) := fun t => hs ⟨h, t⟩
        rw [if_neg cc] at a
        exact a
      · rw [if_neg c3] at c
        cases c
    · rw [if_neg c2] at c
      cases c
theorem rE_end {f : Nat} (h : tx_C σ B L) (hL : L ≤ 60) (hi : L ≤ i) (hi2 : i < 1000) : qa_fX8_readToError_6 (f + 1) (nI i) σ = some (nI L, σ) := by
  rw [qa_fX8_readToError_6, h.1, if_pos (nI_le hi (by omega))]
theorem rE_f {f : Nat} (h : tx_C σ B L) (hL : L ≤ 60) (hi : i < L) (hb : (qa_fX8_accept (B i) σ).1 = false) : ∃ σ', qa_fX8_readToError_6 (f + 1) (nI i) σ = some (nI i, σ') ∧ σ' = (qa_fX8_accept (B i) σ).2 := by
  rw [qa_fX8_readToError_6, h.1, if_neg (nI_ge hi (by omega)), at_B h hL hi]
  dsimp only
  rw [hb, if_neg (by decide)]
  exact ⟨_, rfl, rfl⟩
/-- only the class's cells of reading change -/
theorem ad_o : ∃ l' w', (qa_fX8_acceptDigit x (cs σ l w)).2 = cs σ l' w' := by
  unfold qa_fX8_acceptDigit qa_fX8_acceptDigit_28 qa_fX8_acceptDigit_61 qa_fX8_acceptDigit_100
  rw [cs_2, cs_3]
  dsimp only
  rw [cs_w3, cs_w3]
  repeat' split
  all_goals exact ⟨_, _, rfl⟩
theorem ac_o : ∃ l' w', (qa_fX8_accept x (cs σ l w)).2 = cs σ l' w' := by
  unfold qa_fX8_accept qa_fX8_accept_42
  rw [cs_2, cs_st, cs_cs, cs_w2]
  dsimp only
  by_cases c : l = 0
  · rw [if_neg (not_not_intro c)]
    repeat' split
    all_goals exact ⟨_, _, rfl⟩
  · rw [if_pos c]
    split
    · exact ad_o
    · exact ⟨_, _, rfl⟩
/-- the whole text -/
theorem cl_E (h : tx_C σ B L) (hL : L ≤ 60) : ∀ (m f i : Nat), i ≤ L → L - i < m → L - i < f → ∃ l' w', qa_fX8_readToError_6 f (nI i) (cs σ 0 (-1)) = some (nI (tx_p B L m i).2, cs σ l' w') ∧ ((tx_p B L m i).2 = L → (decide (l' = 110) || !decide (w' = -1)) = !(tx_p B L m i).1) ∧ (tx_p B L m i).2 ≤ L ∧ ((tx_p B L m i).1 = false → (tx_p B L m i).2 = L) := by
  intro m
  induction m with
  | zero => intro f i _ h2; omega
  | succ m ih =>
    intro f i hi hm hf
    cases c : tx_q B L i with
    | inl e =>
      rw [tx_p1 c]
      dsimp only
      obtain ⟨f, rfl⟩ : ∃ i, f = i + 1 := ⟨f - 1, by omega⟩
      unfold tx_q at c
      by_cases c1 : i < L ∧ B i = 110
      · rw [if_pos c1] at c
        cases c
      · rw [if_neg c1] at c
        by_cases c2 : i < L ∧ (tx_sl (B i) = true ∨ B i = 116)
        · rw [if_pos c2] at c
          by_cases c3 : i + 1 < L ∧ tx_dg B (i + 1) = true ∧ (B i = 116 → 49 ≤ (B (i + 1)).toInt)
          · rw [if_pos c3] at c
            cases c
          · rw [if_neg c3] at c
            have e1 := Sum.inl.inj c
            have n110 : ¬ B i = 110 := fun t => c1 ⟨c2.1, t⟩
            obtain ⟨f, rfl⟩ : ∃ i, f = i + 1 := ⟨f - 1, by omega⟩
            have a1 := ac_L (σ := σ) (x := B i) (w := -1)
            have ok : (decide (B i = 110) || tx_sl (B i) || decide (B i = 116)) = true := by
              rcases c2.2 with c4 | c4
              · rw [c4, Bool.or_true, Bool.true_or]
              · rw [decide_eq_true c4, Bool.or_true]
            have hl : tx_L (B i) := by
              rcases c2.2 with c4 | c4
              · unfold tx_sl at c4
                simp only [Bool.or_eq_true, decide_eq_true_eq] at c4
                rcases c4 with (c4 | c4) | c4
                · exact Or.inr (Or.inr (Or.inl c4))
                · exact Or.inr (Or.inr (Or.inr (Or.inl c4)))
                · exact Or.inr (Or.inr (Or.inr (Or.inr c4)))
              · exact Or.inl c4
            obtain ⟨l0, l59⟩ := sl_f hl
            rw [gE hL _ i _ c2.1 (cs_C h) l59 (by rw [a1]; exact ok), a1]
            dsimp only
            by_cases c5 : i + 1 < L
            · have hb : (qa_fX8_accept (B (i + 1)) (cs σ (B i) (-1))).1 = false := by
                by_cases c6 : B (i + 1) = 59
                · rw [c6, ac_E l0, decide_eq_false n110]
                  rfl
                · rw [ac_D l0 c6]
                  have a2 := ad_1 (σ := σ) (x := B (i + 1)) n110
                  have cc : ¬ (tx_g (B (i + 1)) = true ∧ (B i = 116 → 49 ≤ (B (i + 1)).toInt)) := fun t => c3 ⟨c5, t⟩
                  rw [if_neg cc] at a2
                  exact a2
              obtain ⟨σ', g1, g2⟩ := rE_f (f := f) (cs_C (l := B i) (w := -1) h) hL c5 hb
              obtain ⟨l', w', g3⟩ := ac_o (σ := σ) (x := B (i + 1)) (l := B i) (w := -1)
              rw [g1, g2, g3, e1]
              exact ⟨l', w', rfl, fun t => by omega, by omega, fun t => by cases t⟩
            · rw [rE_end (cs_C h) hL (by omega) (by omega)]
              refine ⟨B i, -1, by rw [show e = L by omega], fun _ => ?_, by omega, fun t => by cases t⟩
              rw [decide_eq_false n110]
              rfl
        · rw [if_neg c2] at c
          have e1 := Sum.inl.inj c
          by_cases c5 : i < L
          · have a1 := ac_L (σ := σ) (x := B i) (w := -1)
            have hb : (qa_fX8_accept (B i) (cs σ 0 (-1))).1 = false := by
              rw [a1]
              show (decide (B i = 110) || tx_sl (B i) || decide (B i = 116)) = false
              rw [decide_eq_false (fun t => c1 ⟨c5, t⟩), decide_eq_false (fun t => c2 ⟨c5, Or.inr t⟩), Bool.eq_false_iff.mpr (fun t => c2 ⟨c5, Or.inl t⟩)]
              rfl
            obtain ⟨σ', g1, g2⟩ := rE_f (f := f) (cs_C (l := 0) (w := -1) h) hL c5 hb
            obtain ⟨l', w', g3⟩ := ac_o (σ := σ) (x := B i) (l := 0) (w := -1)
            rw [g1, g2, g3, e1]
            exact ⟨l', w', rfl, fun t => by omega, by omega, fun t => by cases t⟩
          · rw [rE_end (cs_C h) hL (by omega) (by omega)]
            exact ⟨0, -1, by rw [show e = L by omega], fun _ => rfl, by omega, fun t => by cases t⟩
    | inr x =>
      obtain ⟨e, n⟩ := x
      obtain ⟨h1, h2, h3, h4, h5⟩ := tx_qr c
      obtain ⟨l0, l59⟩ := sl_f h3
      obtain ⟨f', b1, b2⟩ := sc_q (gE hL) h (f := f) (by omega) c
      rw [b2, tx_p2 c]
      obtain ⟨f', rfl⟩ : ∃ i, f' = i + 1 := ⟨f' - 1, by omega⟩
      have pm : (decide (B i = 110) || !decide (cn (B i) n = -1)) = true := by
        unfold cn
        by_cases c0 : B i = 110
        · rw [decide_eq_true c0]
          rfl
        · have n1 : ¬ nI n = -1 := fun t => by have ek := qz_nI (k := n) (by omega); rw [t, show ((-1 : Int32)).toInt = -1 from rfl] at ek; omega
          rw [if_neg c0, decide_eq_false n1, Bool.not_false, Bool.or_true]
      by_cases c1 : e < L
      · rw [if_pos c1]
        by_cases c2 : B e = 59
        · rw [if_pos c2]
          have a := ac_E (σ := σ) (w := cn (B i) n) l0
          rw [pm] at a
          rw [qa_fX8_readToError_6, cs_0, h.1, if_neg (nI_ge c1 (by omega)), at_B (cs_C h) hL c1, c2, a]
          dsimp only
          rw [if_pos (by decide), qk_a1, nI_1]
          exact ih f' (e + 1) (by omega) (by omega) (by omega)
        · rw [if_neg c2]
          obtain ⟨σ', g1, g2⟩ := rE_f (f := f') (cs_C (l := B i) (w := cn (B i) n) h) hL c1 (sc_n c c1 c2 hL)
          obtain ⟨l', w', g3⟩ := ac_o (σ := σ) (x := B e) (l := B i) (w := cn (B i) n)
          rw [g1, g2, g3]
          exact ⟨l', w', rfl, fun t => by dsimp only at t; omega, by dsimp only; omega, fun t => by cases t⟩
      · rw [if_neg c1, rE_end (cs_C h) hL (by omega) (by omega)]
        exact ⟨B i, cn (B i) n, by rw [show e = L by omega], fun _ => by rw [pm]; rfl, by dsimp only; omega, fun _ => by dsimp only; omega⟩
end QCU
