/-! a text: its first fault; it is followed -/
section QFO
variable {ρ σ σ' τ : qa_T} {s t : qs} {y o : Int32} {B : Nat → Int32} {L i e n k f N : Nat} {U V : Nat → qs} {Z : Nat → Bool} {a w l x v : Int32}
theorem sv_52 : ∀ (f : Nat) (j : Int32) (τ σ' : qa_T), qa_fX10_save_52 f j τ = some σ' → σ'.2 = τ.2 := by
  intro f
  induction f with
  | zero => intro j τ σ' h; rw [qa_fX10_save_52] at h; cases h
  | succ f ih =>
    intro j τ σ' h
    rw [qa_fX10_save_52] at h
    by_cases c : ((Int16.ofInt 176).toInt32) ≤ j
    · rw [if_pos c] at h
      rw [← Option.some.inj h]
      rfl
    · rw [if_neg c] at h
      by_cases c1 : ¬ qa_in j 176 = true
      · rw [if_pos c1] at h; cases h
      · rw [if_neg c1] at h
        by_cases c2 : ¬ qa_in ((((Int16.ofInt 176).toInt32) * (τ.1 (10, 21) 2)) + j) 1056 = true
        · rw [if_pos c2] at h; cases h
        · rw [if_neg c2] at h
          exact (ih _ _ _ h).trans rfl
theorem sv_11 : ∀ (f : Nat) (j : Int32) (τ σ' : qa_T), qa_fX10_save_11 f j τ = some σ' → σ'.2 = τ.2 := by
  intro f
  induction f with
  | zero => intro j τ σ' h; rw [qa_fX10_save_11] at h; cases h
  | succ f ih =>
    intro j τ σ' h
    rw [qa_fX10_save_11] at h
    by_cases c : ((Int16.ofInt 880).toInt32) ≤ j
    · rw [if_pos c] at h
      exact (sv_52 _ _ _ _ h).trans rfl
    · rw [if_neg c] at h
      by_cases c1 : ¬ qa_in (((Int16.ofInt 176).toInt32) + j) 1056 = true
      · rw [if_pos c1] at h; cases h
      · rw [if_neg c1] at h
        by_cases c2 : ¬ qa_in j 1056 = true
        · rw [if_pos c2] at h; cases h
        · rw [if_neg c2] at h
          exact (ih _ _ _ h).trans rfl
theorem sv_2 (h : qa_fX10_save σ = some σ') : σ'.2 = σ.2 := by
  unfold qa_fX10_save at h
  by_cases c : ¬ (σ.1 (10, 21) 2) = ((Int8.ofInt 6).toInt32)
  · rw [if_pos c] at h
    exact sv_52 _ _ _ _ h
  · rw [if_neg c] at h
    exact sv_11 _ _ _ _ h
theorem qw_21w {i : Nat} {v : Int32} (h : ¬ i = 10) : qa_wi (qw ρ s y) (10, 21) i v = qw (qa_wi ρ (10, 21) i v) s y := by rw [ro_c, if_neg h]
theorem go_in {b : Bool} : qa_fX10_go b (qw ρ s y) = qa_fX10_go_17 b qa_fu 1 (qw (ro ρ 0 0 0) s y) := by
  unfold qa_fX10_go
  dsimp only
  rw [qw_21w (by decide), qw_21w (by decide), qw_21w (by decide)]
  rfl
theorem jr_ro (h : qj_R ρ s k U Z V L B) : qj_R (ro ρ a w o) s k U Z V L B := jr_w (jr_w (jr_w h (Or.inr (Or.inr ⟨rfl, by decide, by decide⟩))) (Or.inr (Or.inr ⟨rfl, by decide, by decide⟩))) (Or.inr (Or.inr ⟨rfl, by decide, by decide⟩))
theorem rr_ro : qe_rr ρ (ro ρ a w o) := rr_t (rr_t (rr_w ⟨rfl, by decide, by decide⟩) (rr_w ⟨rfl, by decide, by decide⟩)) (rr_w ⟨rfl, by decide, by decide⟩)
theorem jr_tR (h : qj_R ρ s k U Z V L B) : tx_R ρ B L := h.2.2.2.2.2
theorem jc_tC (h : qj_C σ s k f U Z V L B) : tx_C σ B L := h.2.2.2.2.2.2
/-- the whole text: wrong, where; followed, orders, the state -/
def tp (B : Nat → Int32) (L : Nat) : Bool × Nat := tx_p B L 61 0
def tg (B : Nat → Int32) (L : Nat) (s : qs) : Bool × Nat × qs := tx_go B L 61 0 0 s
theorem rf_go0 (h : tx_R ρ B L) (hL : L ≤ 60) : ∃ o', qa_fX10_go false (qw ρ s y) = some (true, qw (ro ρ (nI (tp B L).2) (tx_b (tp B L).1) o') s y) := by
  rw [go_in]
  obtain ⟨o', h2⟩ := rf_g0 (s := s) (y := y) h hL 61 qa_fu 0 0 (by omega) (by omega) (by unfold qa_fu; omega)
  exact ⟨o', h2⟩
theorem tp_L (hL : L ≤ 60) (h : (tp B L).1 = false) : (tp B L).2 = L := by
  obtain ⟨l', w', _, _, _, h2⟩ := cl_E (σ := cs (qa_wi (fun p i => B i, fun _ _ => 0) (10, 19) 0 (nI L)) 0 (-1)) (B := B) (L := L) ⟨by rw [cs_0, wi_eq], fun i hi => by rw [cs_o (by decide), wi_np (by decide)]⟩ hL 61 62 0 (by omega) (by omega) (by omega)
  exact h2 h
theorem rf_fe (h : qj_R σ s k U Z V L B) (hL : L ≤ 60) : ∃ σ', qa_fX10_firstError σ = some (nI (tp B L).2, σ') ∧ qj_R σ' s k U Z V L B ∧ qe_rr σ σ' ∧ σ'.2 = σ.2 := by
  have h1 : qj_R (qa_wi σ (10, 21) 9 0) s k U Z V L B := jr_w h (Or.inr (Or.inr ⟨rfl, by decide, by decide⟩))
  unfold qa_fX10_firstError qa_fX10_firstError_29
  dsimp only
  rw [qk_a0, jr_self h1]
  obtain ⟨o', g⟩ := rf_go0 (s := s) (y := (qa_wi σ (10, 21) 9 0).1 (10, 21) 10) (jr_tR h1) hL
  rw [g, Option.bind_some]
  dsimp only
  rw [ro_w, ro_a, ro_8, h1.2.2.2.2.2.1]
  refine ⟨qw (ro (qa_wi σ (10, 21) 9 0) (nI (tp B L).2) (tx_b (tp B L).1) o') s ((qa_wi σ (10, 21) 9 0).1 (10, 21) 10), ?_, jr_qw (jr_ro h1), rr_t (rr_w ⟨rfl, by decide, by decide⟩) (rr_t rr_ro rr_qw), rfl⟩
  cases hb : (tp B L).1
  · rw [if_pos (show tx_b false = 0 from rfl), tp_L hL hb]
  · rw [if_neg (show ¬ tx_b true = 0 by decide)]
theorem jc_cs (h : qj_C σ s k f U Z V L B) : qj_C (cs σ l w) s k f U Z V L B := by
  obtain ⟨a1, a2, a3, a4, a5, a6, a7, a8⟩ := h
  have o : ∀ p : qa_P, ¬ p = (10, 19) → (cs σ l w).1 p = σ.1 p := fun p hp => cs_o hp
  refine ⟨rr_S a1 (fun j hj => o _ (by simp only [Prod.mk.injEq]; omega)), by rw [o _ (by decide)]; exact a2, by rw [o _ (by decide)]; exact a3, fun i hi => rr_S (a4 i hi) (fun j hj => o _ (by simp only [Prod.mk.injEq]; omega)), fun i hi => by rw [o _ (by decide)]; exact a5 i hi, fun i hi hz => rr_S (a6 i hi hz) (fun j hj => o _ (by simp only [Prod.mk.injEq]; omega)), by rw [cs_0]; exact a7, fun i hi => by rw [o _ (by decide)]; exact a8 i hi⟩
theorem jc_19 {j : Nat} (h : qj_C σ s k f U Z V L B) (hj : ¬ j = 0) : qj_C (qa_wi σ (10, 19) j v) s k f U Z V L B := by
  obtain ⟨a1, a2, a3, a4, a5, a6, a7, a8⟩ := h
  have o : ∀ p : qa_P, ¬ p = (10, 19) → (qa_wi σ (10, 19) j v).1 p = σ.1 p := fun p hp => wi_np hp
  refine ⟨rr_S a1 (fun j hj => o _ (by simp only [Prod.mk.injEq]; omega)), by rw [o _ (by decide)]; exact a2, by rw [o _ (by decide)]; exact a3, fun i hi => rr_S (a4 i hi) (fun j hj => o _ (by simp only [Prod.mk.injEq]; omega)), fun i hi => by rw [o _ (by decide)]; exact a5 i hi, fun i hi hz => rr_S (a6 i hi hz) (fun j hj => o _ (by simp only [Prod.mk.injEq]; omega)), by rw [wi_ni (fun t => hj t.symm)]; exact a7, fun i hi => by rw [o _ (by decide)]; exact a8 i hi⟩
theorem cc_cs : qe_cc σ (cs σ l w) := fun p hp => cs_o (fun e => hp (Or.inr (Or.inr (Or.inr (Or.inl e)))))
theorem cc_19 {j : Nat} : qe_cc σ (qa_wi σ (10, 19) j v) := fun p hp => wi_np (fun e => hp (Or.inr (Or.inr (Or.inr (Or.inl e)))))
theorem cl_re (h : tx_C σ B L) (hL : L ≤ 60) : ∃ l' w', qa_fX8_readToError σ = some (nI (tp B L).2, cs σ l' w') ∧ ((tp B L).2 = L → (decide (l' = 110) || !decide (w' = -1)) = !(tp B L).1) ∧ (tp B L).2 ≤ L := by
  unfold qa_fX8_readToError
  rw [cs_st]
  obtain ⟨l', w', h1, h2, h3, _⟩ := cl_E h hL 61 qa_fu 0 (by omega) (by omega) (by unfold qa_fu; omega)
  exact ⟨l', w', h1, h2, h3⟩
theorem cl_fe (h : qj_C σ s k f U Z V L B) (hL : L ≤ 60) : ∃ σ', qa_fX9_firstError σ = some (nI (tp B L).2, σ') ∧ qj_C σ' s k f U Z V L B ∧ qe_cc σ σ' := by
  obtain ⟨l', w', h1, _, _⟩ := cl_re (jc_tC h) hL
  unfold qa_fX9_firstError
  rw [h1]
  exact ⟨_, rfl, jc_cs h, cc_cs⟩
theorem cl_to (h : tx_C σ B L) (hL : L ≤ 60) : ∃ l' w', qa_fX8_tellsOrders σ = some (!(tp B L).1, cs σ l' w') := by
  obtain ⟨l', w', h1, h2, h3⟩ := cl_re h hL
  unfold qa_fX8_tellsOrders qa_fX8_tellsOrders_22
  rw [h1, Option.bind_some]
  dsimp only
  rw [cs_0, h.1, pm_e]
  by_cases c : (tp B L).2 = L
  · rw [c, if_neg (not_not_intro rfl), h2 c]
    cases hb : (tp B L).1
    · rw [if_neg (by decide)]
      exact ⟨_, _, rfl⟩
    · rw [if_pos (by decide)]
      exact ⟨_, _, rfl⟩
  · rw [if_pos (fun t => c ((nI_eq (by omega) (by omega)).mp t))]
    cases hb : (tp B L).1
    · exact absurd (tp_L hL hb) c
    · exact ⟨_, _, rfl⟩
/-- a part is read -/
theorem cl_rp (h : tx_C σ B L) (hL : L ≤ 60) (h4 : σ.1 (10, 19) 4 = nI i) (hi : i ≤ L) (c : tx_q B L i = .inr (e, n)) (he : e < L → B e = 59) : qa_fX8_readPart σ = some (true, qa_wi (cs σ (B i) (cn (B i) n)) (10, 19) 4 (nI (e + 1))) := by
  obtain ⟨h1, h2, h3, h4', h5⟩ := tx_qr c
  obtain ⟨l0, l59⟩ := sl_f h3
  unfold qa_fX8_readPart
  rw [cs_st]
  dsimp only
  rw [cs_4, h4]
  obtain ⟨f', b1, b2⟩ := sc_q (gP hL) h (f := qa_fu) (by unfold qa_fu; omega) c
  obtain ⟨f', rfl⟩ : ∃ i, f' = i + 1 := ⟨f' - 1, by unfold qa_fu at b1; omega⟩
  rw [b2, qa_fX8_readPart_9, cs_0, h.1]
  have e49 : qa_fX8_readPart_49 (nI e) (cs σ (B i) (cn (B i) n)) = some (true, qa_wi (cs σ (B i) (cn (B i) n)) (10, 19) 4 (nI (e + 1))) := by
    unfold qa_fX8_readPart_49
    dsimp only
    rw [wi_ni (by decide), cs_2, if_neg l0, qk_a1, nI_1]
  by_cases c1 : e < L
  · rw [if_neg (nI_ge c1 (by omega)), at_B (cs_C h) hL c1, he c1, if_pos (show (59 : Int32) = ((Int8.ofInt 59).toInt32) from rfl), e49]
  · rw [if_pos (nI_le (by omega) (by omega)), e49]
theorem cl_rp0 (h : tx_C σ B L) (hL : L ≤ 60) (h4 : σ.1 (10, 19) 4 = nI i) (hi : L ≤ i) (hi2 : i < 1000) : qa_fX8_readPart σ = some (false, qa_wi (cs σ 0 (-1)) (10, 19) 4 (nI (i + 1))) := by
  unfold qa_fX8_readPart
  rw [cs_st]
  dsimp only
  rw [cs_4, h4, show qa_fu = 2999 + 1 from rfl, qa_fX8_readPart_9, cs_0, h.1, if_pos (nI_le hi (by omega))]
  unfold qa_fX8_readPart_49
  dsimp only
  rw [wi_ni (by decide), cs_2, if_pos rfl, qk_a1, nI_1]
/-- what reading and trying change -/
def qe_T (σ σ' : qa_T) : Prop := (∀ p : qa_P, (¬ p.1 = 2 ∨ 18 ≤ p.2) → ¬ p = (10, 19) → σ'.1 p = σ.1 p) ∧ σ'.1 (10, 19) 0 = σ.1 (10, 19) 0
theorem qe_Tt {σ'' : qa_T} (h1 : qe_T σ σ') (h2 : qe_T σ' σ'') : qe_T σ σ'' := ⟨fun p hp hq => (h2.1 p hp hq).trans (h1.1 p hp hq), h2.2.trans h1.2⟩
theorem qe_TF (h : qe_F 2 σ σ') : qe_T σ σ' := ⟨fun p hp _ => h.1 p hp, by rw [h.1 _ (Or.inl (by decide))]⟩
theorem qe_Tp : qe_T σ (qa_wi (cs σ l w) (10, 19) 4 v) := ⟨fun p _ hq => by rw [wi_np hq, cs_o hq], by rw [wi_ni (by decide), cs_0]⟩
theorem qe_TC (h : tx_C σ B L) (hT : qe_T σ σ') : tx_C σ' B L := ⟨by rw [hT.2]; exact h.1, fun i hi => by rw [hT.1 _ (Or.inl (by decide)) (by decide)]; exact h.2 i hi⟩
theorem jc_T (h : qj_C σ s k f U Z V L B) (hT : qe_T σ σ') : qj_C σ' s k f U Z V L B := by
  obtain ⟨a1, a2, a3, a4, a5, a6, a7, a8⟩ := h
  have o : ∀ p : qa_P, (¬ p.1 = 2 ∨ 18 ≤ p.2) → ¬ p = (10, 19) → σ'.1 p = σ.1 p := hT.1
  refine ⟨rr_S a1 (fun j hj => o _ (by dsimp only; omega) (by simp only [Prod.mk.injEq]; omega)), by rw [o _ (Or.inr (by decide)) (by decide)]; exact a2, by rw [o _ (Or.inr (by decide)) (by decide)]; exact a3, fun i hi => rr_S (a4 i hi) (fun j hj => o _ (by dsimp only; omega) (by simp only [Prod.mk.injEq]; omega)), fun i hi => by rw [o _ (Or.inl (by decide)) (by decide)]; exact a5 i hi, fun i hi hz => rr_S (a6 i hi hz) (fun j hj => o _ (by dsimp only; omega) (by simp only [Prod.mk.injEq]; omega)), by rw [hT.2]; exact a7, fun i hi => by rw [o _ (Or.inl (by decide)) (by decide)]; exact a8 i hi⟩
theorem cc_T (hT : qe_T σ σ') : qe_cc σ σ' := fun p hp => by
  unfold qc_c at hp
  by_cases c : p = (10, 19)
  · exact absurd (Or.inr (Or.inr (Or.inr (Or.inl c)))) hp
  · refine hT.1 p ?_ c
    by_cases c2 : 18 ≤ p.2
    · exact Or.inr c2
    · exact Or.inl (fun e => hp (Or.inl ⟨by omega, by omega, by omega⟩))
theorem ob_110 : qa_fX1_obey 2 110 x σ = qa_fX1_obey 2 110 (nI 0) σ := by
  unfold qa_fX1_obey
  rw [if_neg (by decide), if_neg (by decide), if_pos rfl, if_neg (by decide), if_neg (by decide), if_pos rfl]
theorem or_110n : qr_or 110 n s = qr_or 110 0 s := by rw [or_110, or_110]
theorem cl_obn (h : qe_R 2 σ s) (hI : qi_I N s) (hL : tx_L l) (hn : n ≤ 100) (hn2 : ¬ l = 116 → n ≤ 15) (hN : N + 1000 < 2147483647) : ∃ σ', qa_fX1_obey 2 l (cn l n) σ = some ((qr_or l n s).1, σ') ∧ qe_R 2 σ' (qr_or l n s).2 ∧ qe_F 2 σ σ' := by
  unfold cn
  by_cases c : l = 110
  · subst c
    rw [if_pos rfl, ob_110, or_110n]
    exact cl_ob h hI hL (by omega) (fun _ => by omega) hN
  · rw [if_neg c]
    exact cl_ob h hI hL hn hn2 hN
/-- the class tries the orders -/
theorem cl_fl (hL : L ≤ 60) : ∀ (m f i N k : Nat) (σ : qa_T) (s : qs), tx_C σ B L → qe_R 2 σ s → σ.1 (10, 19) 4 = nI i → qi_P N s → i ≤ L → L - i < m → m + 1 < f → 2 * k ≤ i → (tx_p B L m i).1 = false → N + 400 * m + 1000 < 2147483647 → ∃ σ', qe_T σ σ' ∧ ((tx_go B L m i k s).1 = true → qa_fX9_follow_30 f (nI k) σ = qa_fX9_follow_76 (nI (tx_go B L m i k s).2.1) σ' ∧ qe_R 2 σ' (tx_go B L m i k s).2.2) ∧ ((tx_go B L m i k s).1 = false → qa_fX9_follow_30 f (nI k) σ = some (.inr 348, σ')) := by
  intro m
  induction m with
  | zero => intro f i N k σ s _ _ _ _ _ h2; omega
  | succ m ih =>
    intro f i N k σ s hC hR h4 hP hi hm hf hk hp hN
    obtain ⟨f, rfl⟩ : ∃ i, f = i + 1 := ⟨f - 1, by omega⟩
    have e60 : ((Int8.ofInt 60).toInt32) = nI 60 := rfl
    cases c : tx_q B L i with
    | inl e =>
      rw [tx_p1 c] at hp
      cases hp
    | inr x =>
      obtain ⟨e, n⟩ := x
      obtain ⟨h1, h2, h3, h4', h5⟩ := tx_qr c
      rw [tx_p2 c] at hp
      have he : e < L → B e = 59 := fun t => by
        rw [if_pos t] at hp
        by_cases c2 : B e = 59
        · exact c2
        · rw [if_neg c2] at hp
          cases hp
      have g1 := cl_rp hC hL h4 hi c he
      have g2 : qe_R 2 (qa_wi (cs σ (B i) (cn (B i) n)) (10, 19) 4 (nI (e + 1))) s := rr_S hR (fun j hj => by rw [wi_np (by simp only [Prod.mk.injEq]; omega), cs_o (by simp only [Prod.mk.injEq]; omega)])
      obtain ⟨τ, b1, b2, b3⟩ := cl_obn g2 hP.1 h3 h4' h5 (by omega)
      have hP2 := or_P (l := B i) hP h4' (by omega)
      have eT : qe_T σ τ := qe_Tt qe_Tp (qe_TF b3)
      have e4 : τ.1 (10, 19) 4 = nI (e + 1) := by rw [b3.1 _ (Or.inl (by decide)), wi_eq]
      have st : qa_fX9_follow_30 (f + 1) (nI k) σ = if qa_bi (qr_or (B i) n s).1 = 0 then some (.inr 348, τ) else qa_fX9_follow_30 f (nI (k + 1)) τ := by
        rw [qa_fX9_follow_30, e60, if_neg (nI_ge (by omega) (by omega)), g1, Option.bind_some]
        dsimp only
        rw [if_neg (by decide), wi_ni (by decide), cs_2, wi_ni (by decide), cs_3, b1, Option.bind_some]
        dsimp only
        rw [qk_a1, nI_1]
      have e0 := tx_g2 (k := k) (f := m) (s := s) c
      by_cases cb : (qr_or (B i) n s).1 = true
      · rw [if_pos cb] at e0
        rw [cb, if_neg (show ¬ qa_bi true = 0 by decide)] at st
        rw [st]
        by_cases c1 : e < L
        · rw [if_pos c1] at hp e0
          rw [if_pos (he c1)] at hp
          rw [e0]
          obtain ⟨σ', d1, d2, d3⟩ := ih f (e + 1) (N + 400) (k + 1) τ _ (qe_TC hC eT) b2 e4 hP2 (by omega) (by omega) (by omega) (by omega) hp (by omega)
          exact ⟨σ', qe_Tt eT d1, d2, d3⟩
        · rw [if_neg c1] at e0
          rw [e0]
          obtain ⟨f, rfl⟩ : ∃ i, f = i + 1 := ⟨f - 1, by omega⟩
          have g3 := cl_rp0 (qe_TC hC eT) hL e4 (by omega) (by omega)
          refine ⟨qa_wi (cs τ 0 (-1)) (10, 19) 4 (nI (e + 1 + 1)), qe_Tt eT qe_Tp, fun _ => ⟨?_, rr_S b2 (fun j hj => by rw [wi_np (by simp only [Prod.mk.injEq]; omega), cs_o (by simp only [Prod.mk.injEq]; omega)])⟩, fun t => by cases t⟩
          rw [qa_fX9_follow_30, e60, if_neg (nI_ge (by omega) (by omega)), g3, Option.bind_some]
          dsimp only
          rw [if_pos (by decide)]
      · rw [if_neg cb] at e0
        rw [Bool.eq_false_iff.mpr cb, if_pos (show qa_bi false = 0 from rfl)] at st
        rw [st, e0]
        exact ⟨τ, eT, (fun t => by cases t), fun _ => rfl⟩
theorem tx_gP : ∀ (m i N k : Nat) (s : qs), qi_P N s → N + 400 * m + 1000 < 2147483647 → qi_P (N + 400 * m) (tx_go B L m i k s).2.2 := by
  intro m
  induction m with
  | zero => intro i N k s h _; exact h
  | succ m ih =>
    intro i N k s h hN
    cases c : tx_q B L i with
    | inl e =>
      rw [tx_go, c]
      exact qi_Pu h (by omega)
    | inr x =>
      obtain ⟨e, n⟩ := x
      obtain ⟨h1, h2, h3, h4', h5⟩ := tx_qr c
      have hP2 := or_P (l := B i) h h4' (by omega)
      rw [tx_g2 c]
      split
      · split
        · rw [show N + 400 * (m + 1) = N + 400 + 400 * m by omega]
          exact ih _ _ _ _ hP2 (by omega)
        · exact qi_Pu hP2 (by omega)
      · exact qi_Pu hP2 (by omega)
theorem tg_P (h : qi_P N s) (hN : N + 40000 < 2147483647) : qi_P (N + 24400) (tg B L s).2.2 := tx_gP 61 0 N 0 s h (by omega)
theorem cl_push2 (h : qj_C σ s k f U Z V L B) (hk : k ≤ 6) (hf : f < 6) (hs : qi_sl s) (e : qa_fX5_push 1 σ = some σ') : ∀ j, j < 16 → σ'.1 (2, j) = σ.1 (2, j) := by
  obtain ⟨a1, a2, a3, a4, a5, a6, a7, a8⟩ := h
  have hm : (f + k) % 6 < 6 := Nat.mod_lt _ (by omega)
  obtain ⟨τ, b1, b2, b3⟩ := cl_cp (R := 3 + (f + k) % 6) a1 hs (by omega)
  have o : ∀ p : qa_P, ¬ p.1 = 3 + (f + k) % 6 → τ.1 p = σ.1 p := fun p hp => b3.1 p (Or.inl hp)
  unfold qa_fX5_push qa_fX5_push_45 qa_fX5_push_80 at e
  rw [a2, a3, nI_add, rm6 (by omega)] at e
  dsimp only at e
  rw [if_neg (nI_pos (by omega)), if_neg (show ¬ Int32.ofNat 6 ≤ nI _ from nI_ge hm (by omega)), nI_clamp (by omega), b1, Option.bind_some] at e
  intro j hj
  split at e
  · rw [← Option.some.inj e, wi_np (by simp only [Prod.mk.injEq]; omega), o _ (by dsimp only; omega)]
  · rw [← Option.some.inj e, wi_np (by simp only [Prod.mk.injEq]; omega), o _ (by dsimp only; omega)]
/-- the class follows a text -/
theorem jc_l0 (h : qj_C σ s k f U Z V L B) : qj_C (qa_wi σ (10, 19) 0 0) s k f U Z V 0 B := by
  obtain ⟨a1, a2, a3, a4, a5, a6, a7, a8⟩ := h
  have o : ∀ p : qa_P, ¬ p = (10, 19) → (qa_wi σ (10, 19) 0 0).1 p = σ.1 p := fun p hp => wi_np hp
  exact ⟨rr_S a1 (fun j hj => o _ (by simp only [Prod.mk.injEq]; omega)), by rw [o _ (by decide)]; exact a2, by rw [o _ (by decide)]; exact a3, fun i hi => rr_S (a4 i hi) (fun j hj => o _ (by simp only [Prod.mk.injEq]; omega)), fun i hi => by rw [o _ (by decide)]; exact a5 i hi, fun i hi hz => rr_S (a6 i hi hz) (fun j hj => o _ (by simp only [Prod.mk.injEq]; omega)), by rw [wi_eq]; rfl, fun i hi => by omega⟩
theorem jr_l0 (h : qj_R σ s k U Z V L B) : qj_R (qa_wi σ (10, 21) 8 0) s k U Z V 0 B := by
  obtain ⟨a1, a2, a3, a4, a5, a6, a7⟩ := h
  unfold qj_R
  rw [wi_np (by decide), wi_ni (by decide), wi_np (by decide), wi_np (by decide), wi_np (by decide), wi_eq]
  exact ⟨a1, a2, a3, a4, a5, rfl, fun i hi => by omega⟩
theorem cl_fo (h : qj_C σ s k f U Z V L B) (hI : qj_I N s k f U Z V L B) (hN : N + 40000 < 2147483647) : ∃ σ', qe_cc σ σ' ∧ ((tp B L).1 = true → qa_fX9_follow σ = some (.inr 342, σ') ∧ qj_C σ' s k f U Z V L B) ∧ ((tp B L).1 = false → (tg B L s).1 = false → qa_fX9_follow σ = some (.inr 348, σ') ∧ qj_C σ' s k f U Z V L B) ∧ ((tp B L).1 = false → (tg B L s).1 = true → qa_fX9_follow σ = some (.inl (nI (tg B L s).2.1), σ') ∧ qj_C σ' (tg B L s).2.2 (qu_k k) (qu_f k f) (qu_U k U s) Z V 0 B) := by
  obtain ⟨hP, hk, hf, hU, hV, hL, hB⟩ := hI
  obtain ⟨l', w', t1⟩ := cl_to (jc_tC h) hL
  unfold qa_fX9_follow
  rw [t1, Option.bind_some]
  dsimp only
  cases hb : (tp B L).1
  · have hs := hP.1.1.1
    obtain ⟨τ, c1, c2, c3⟩ := cl_cp (R := 2) (S := 1) (jc_cs (l := l') (w := w') h).1 hs (by omega)
    rw [if_neg (show ¬ qa_bi (!false) = 0 by decide), c1, Option.bind_some]
    unfold qa_fX8_startReading
    rw [cs_st]
    dsimp only
    rw [qk_a0]
    have h3 : qj_C (qa_wi (cs τ 0 (-1)) (10, 19) 4 0) s k f U Z V L B := jc_19 (jc_cs (jc_2 (jc_cs h) c3)) (by decide)
    have f3 : qe_cc σ (qa_wi (cs τ 0 (-1)) (10, 19) 4 0) := cc_t cc_cs (cc_t (cc_F c3 (by omega) (by omega)) (cc_t cc_cs cc_19))
    obtain ⟨σ', d1, d2, d3⟩ := cl_fl (B := B) hL 61 qa_fu 0 N 0 (qa_wi (cs τ 0 (-1)) (10, 19) 4 0) s (jc_tC h3) (rr_S c2 (fun j hj => by rw [wi_np (by simp only [Prod.mk.injEq]; omega), cs_o (by simp only [Prod.mk.injEq]; omega)])) wi_eq hP (by omega) (by omega) (by unfold qa_fu; omega) (by omega) hb (by omega)
    have h4 := jc_T h3 d1
    have f4 := cc_t f3 (cc_T d1)
    cases hg : (tg B L s).1
    · exact ⟨σ', f4, (fun t => by cases t), fun _ _ => ⟨d3 hg, h4⟩, fun _ t => by cases t⟩
    · obtain ⟨e1, e2⟩ := d2 hg
      obtain ⟨σ1, g1, g2, g3⟩ := cl_push h4 hk hf hs
      have hP2 := cl_push2 h4 hk hf hs g1
      have hP3 := tg_P (B := B) (L := L) hP (by omega)
      obtain ⟨σ2, i1, i2, i3⟩ := cl_cp (R := 1) (S := 2) (rr_S e2 hP2) hP3.1.1.1 (by omega)
      have h5 := jc_1 g2 i3 i2
      refine ⟨qa_wi σ2 (10, 19) 0 0, cc_t f4 (cc_t g3 (cc_t (cc_F i3 (by omega) (by omega)) cc_19)), (fun t => by cases t), (fun _ t => by cases t), fun _ _ => ⟨?_, jc_l0 h5⟩⟩
      rw [nI_0] at e1
      rw [e1]
      unfold qa_fX9_follow_76
      rw [g1, Option.bind_some, i1, Option.bind_some]
      rfl
  · rw [if_pos (show qa_bi (!true) = 0 from rfl)]
    exact ⟨_, cc_cs, fun _ => ⟨rfl, jc_cs h⟩, (fun t => by cases t), (fun t => by cases t)⟩
/-- the reference follows a text -/
theorem rf_go1 (h : tx_R ρ B L) (hL : L ≤ 60) (hp : (tp B L).1 = false) (hP : qi_P N s) (hN : N + 40000 < 2147483647) : ∃ a' w' y', qa_fX10_go true (qw ρ s y) = some ((tg B L s).1, qw (ro ρ a' w' (nI (tg B L s).2.1)) (tg B L s).2.2 y') := by
  rw [go_in]
  obtain ⟨a', w', y', h1, _⟩ := rf_g1 h hL 61 qa_fu 0 N 0 s y (by omega) (by omega) (by unfold qa_fu; omega) hp hP (by omega)
  rw [nI_0] at h1
  exact ⟨a', w', y', h1⟩
theorem O_26 {ρ' : qa_T} (h : qj_R ρ s k U Z V L B) (hO : qe_O (10, 26) ρ ρ') : qj_R ρ' s k U Z V L B := by
  obtain ⟨a1, a2, a3, a4, a5, a6, a7⟩ := h
  unfold qj_R
  rw [hO.1 _ (by decide), hO.1 _ (by decide), hO.1 _ (by decide), hO.1 _ (by decide), hO.1 _ (by decide), hO.1 _ (by decide)]
  exact ⟨a1, a2, a3, a4, a5, a6, a7⟩
theorem rr_26 {ρ' : qa_T} (hO : qe_O (10, 26) ρ ρ') : qe_rr ρ ρ' := fun p hp => hO.1 p (fun e => hp (by subst e; exact ⟨rfl, by decide, by decide⟩))
theorem rf_fw (h : qj_R σ s k U Z V L B) (hI : qj_I N s k f U Z V L B) (hN : N + 40000 < 2147483647) : ∃ σ', qe_rr σ σ' ∧ σ'.2 = σ.2 ∧ ((tp B L).1 = true → (∃ r, qa_fX10_follow σ = some (r, σ')) ∧ qj_R σ' s k U Z V L B ∧ σ'.1 (10, 21) 9 = 1) ∧ ((tp B L).1 = false → (tg B L s).1 = false → (∃ r, qa_fX10_follow σ = some (r, σ')) ∧ qj_R σ' s k U Z V L B ∧ σ'.1 (10, 21) 9 = 2) ∧ ((tp B L).1 = false → (tg B L s).1 = true → qa_fX10_follow σ = some (nI (tg B L s).2.1, σ') ∧ qj_R σ' (tg B L s).2.2 (qu_k k) (qu_U k U s) Z V 0 B ∧ σ'.1 (10, 21) 9 = 0) := by
  obtain ⟨hP, hk, hf, hU, hV, hL, hB⟩ := hI
  have h1 : qj_R (qa_wi σ (10, 21) 9 0) s k U Z V L B := jr_w h (Or.inr (Or.inr ⟨rfl, by decide, by decide⟩))
  have f1 : qe_rr σ (qa_wi σ (10, 21) 9 0) := rr_w ⟨rfl, by decide, by decide⟩
  have p9 : (qa_wi σ (10, 21) 9 0).1 (10, 21) 9 = 0 := wi_eq
  have p2 : (qa_wi σ (10, 21) 9 0).2 = σ.2 := rfl
  unfold qa_fX10_follow
  dsimp only
  rw [qk_a0, qk_a1, qk_a2]
  generalize qa_wi σ (10, 21) 9 0 = ρ at h1 f1 p9 p2 ⊢
  rw [jr_self h1]
  have e9 : ∀ (ρ : qa_T) (a w o : Int32) (s : qs) (y : Int32), (qw (ro ρ a w o) s y).1 (10, 21) 9 = ρ.1 (10, 21) 9 := fun ρ a w o s y => by
    rw [qw_21 (by decide)]
    unfold ro
    rw [wi_ni (by decide), wi_ni (by decide), wi_ni (by decide)]
  obtain ⟨o', g⟩ := rf_go0 (s := s) (y := ρ.1 (10, 21) 10) (jr_tR h1) hL
  rw [g, Option.bind_some]
  dsimp only
  rw [ro_w]
  have h2 : qj_R (ro ρ (nI (tp B L).2) (tx_b (tp B L).1) o') s k U Z V L B := jr_ro h1
  have f2 : qe_rr σ (ro ρ (nI (tp B L).2) (tx_b (tp B L).1) o') := rr_t f1 rr_ro
  have q9 := e9 ρ (nI (tp B L).2) (tx_b (tp B L).1) o' s (ρ.1 (10, 21) 10)
  cases hb : (tp B L).1
  · rw [hb] at h2 f2
    rw [if_pos (show tx_b false = 0 from rfl)]
    generalize e2 : ro ρ (nI (tp B L).2) (tx_b false) o' = ρ2 at h2 f2 ⊢
    have r9 : ρ2.1 (10, 21) 9 = 0 := by
      rw [← e2]
      unfold ro
      rw [wi_ni (by decide), wi_ni (by decide), wi_ni (by decide), p9]
    have r2 : ρ2.2 = σ.2 := by rw [← e2]; exact p2
    obtain ⟨ρ3, b1, b2, b3⟩ := rf_ka (ρ := ρ2) (s := s) (y := ρ.1 (10, 21) 10)
    have h3 := O_26 h2 b2
    obtain ⟨a4, w4, y4, c1⟩ := rf_go1 (ρ := ρ3) (s := s) (y := ρ.1 (10, 21) 10) (jr_tR h3) hL hb hP hN
    have hP4 := tg_P (B := B) (L := L) hP hN
    have c2 := rf_pb (ρ := ro ρ3 a4 w4 (nI (tg B L s).2.1)) (s := (tg B L s).2.2) (t := s) (y := y4) (fun i hi => by
      unfold ro
      rw [wi_np (by decide), wi_np (by decide), wi_np (by decide), b3 i hi]) (fun i hi => by rw [hP4.2.2 i hi, hP.2.2 i hi])
    rw [b1, Option.bind_some, c1, Option.bind_some]
    dsimp only
    rw [c2, Option.bind_some]
    have h5 : qj_R (qw (ro ρ3 a4 w4 (nI (tg B L s).2.1)) s y4) s k U Z V L B := jr_qw (jr_ro h3)
    have f5 : qe_rr σ (qw (ro ρ3 a4 w4 (nI (tg B L s).2.1)) s y4) := rr_t f2 (rr_t (rr_26 b2) (rr_t rr_ro rr_qw))
    have s9 : (qw (ro ρ3 a4 w4 (nI (tg B L s).2.1)) s y4).1 (10, 21) 9 = 0 := by
      rw [e9, b2.1 _ (by decide), r9]
    have s2 : (qw (ro ρ3 a4 w4 (nI (tg B L s).2.1)) s y4).2 = σ.2 := by
      show ρ3.2 = _
      rw [b2.2, r2]
    generalize qw (ro ρ3 a4 w4 (nI (tg B L s).2.1)) s y4 = ρ5 at h5 f5 s9 s2 ⊢
    cases hg : (tg B L s).1
    · rw [if_neg (not_not_intro (show qa_bi false = 0 from rfl))]
      unfold qa_fX10_throwing
      exact ⟨qa_wi ρ5 (10, 21) 9 2, rr_t f5 (rr_w ⟨rfl, by decide, by decide⟩), s2, (fun t => by cases t), (fun _ _ => ⟨⟨_, rfl⟩, jr_w h5 (Or.inr (Or.inr ⟨rfl, by decide, by decide⟩)), wi_eq⟩), (fun _ t => by cases t)⟩
    · rw [if_pos (show ¬ qa_bi true = 0 by decide)]
      obtain ⟨ρ6, d1, d2, d3, d4⟩ := rf_save h5 hk
      have d5 := sv_2 d1
      rw [d1, Option.bind_some, jr_self d2]
      obtain ⟨a7, w7, y7, e1⟩ := rf_go1 (ρ := ρ6) (s := s) (y := ρ6.1 (10, 21) 10) (jr_tR d2) hL hb hP hN
      rw [e1, Option.bind_some]
      dsimp only
      refine ⟨qa_wi (qw (ro ρ6 a7 w7 (nI (tg B L s).2.1)) (tg B L s).2.2 y7) (10, 21) 8 0, rr_t f5 (rr_t d3 (rr_t (rr_t rr_ro rr_qw) (rr_w ⟨rfl, by decide, by decide⟩))), ?_, (fun t => by cases t), (fun _ t => by cases t), fun _ _ => ⟨?_, jr_l0 (jr_qw (jr_ro d2)), ?_⟩⟩
      · exact d5.trans s2
      · rw [wi_ni (by decide), ro_o]
      · rw [wi_ni (by decide), e9, d4 9 (by decide), s9]
  · rw [if_neg (show ¬ tx_b true = 0 by decide)]
    unfold qa_fX10_throwing
    rw [hb] at h2 f2
    exact ⟨qa_wi (qw (ro ρ (nI (tp B L).2) (tx_b true) o') s (ρ.1 (10, 21) 10)) (10, 21) 9 1, rr_t f2 (rr_t rr_qw (rr_w ⟨rfl, by decide, by decide⟩)), p2, (fun _ => ⟨⟨_, rfl⟩, jr_w (jr_qw h2) (Or.inr (Or.inr ⟨rfl, by decide, by decide⟩)), wi_eq⟩), (fun t => by cases t), (fun t => by cases t)⟩
end QFO
