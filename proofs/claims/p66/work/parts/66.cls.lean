/-! the class's line of slides that may be burnt -/
section QCB
variable {σ σ' : qa_T} {s t : qs} {R N : Nat}
/-- nothing but the weights and the line has changed -/
def qe_G (R : Nat) (σ σ' : qa_T) : Prop := (∀ p : qa_P, ¬ p = (R, 16) → ¬ p = (R, 17) → σ'.1 p = σ.1 p) ∧ σ'.2 = σ.2
theorem qe_Gr : qe_G R σ σ := ⟨fun _ _ _ => rfl, rfl⟩
theorem qe_Gt {σ'' : qa_T} (h1 : qe_G R σ σ') (h2 : qe_G R σ' σ'') : qe_G R σ σ'' := ⟨fun p h3 h4 => (h2.1 p h3 h4).trans (h1.1 p h3 h4), h2.2.trans h1.2⟩
theorem qe_GF (h : qe_G R σ σ') : qe_F R σ σ' := ⟨fun p hp => h.1 p (fun e => by subst e; dsimp only at hp; omega) (fun e => by subst e; dsimp only at hp; omega), h.2⟩
theorem ra_G (h : qe_A R σ s) (hG : qe_G R σ σ') : qe_A R σ' s := by
  intro j hj hl
  have h1 := (qy_qx hj).2.1
  rw [hG.1 _ (fun e => by have := congrArg Prod.snd e; dsimp only at this; omega) (fun e => by have := congrArg Prod.snd e; dsimp only at this; omega)]
  exact h j hj hl
theorem rr_G (h : qe_R R σ s) (hG : qe_G R σ σ') : qe_R R σ' s := ⟨ra_G h.1 hG, by rw [hG.1 _ (by simp) (by simp)]; exact h.2⟩
theorem qe_G6 {i : Nat} {v : Int32} : qe_G R σ (qa_wi σ (R, 16) i v) := ⟨fun p h1 _ => wi_np h1, rfl⟩
theorem qe_G7 {i : Nat} {v : Int32} : qe_G R σ (qa_wi σ (R, 17) i v) := ⟨fun p _ h2 => wi_np h2, rfl⟩
def qe_wt (R : Nat) (σ : qa_T) (s : qs) (k : Nat) : Prop := ∀ j, j < k → (σ.1 (R, 16) j).toInt = qr_w s j
theorem cl_wu {n : Nat} (hs : qi_sl s) (he : qi_se s) (h2 : ¬ s 165 = 2) (hn : qn (s 0) = n) : ∀ (m k : Nat) (σ : qa_T), qe_A R σ s → qe_wt R σ s k → k ≤ n → n - k < m → ∃ σ', qa_fX1_weighByUseOrCost_2 R m (nI k) σ = some σ' ∧ qe_G R σ σ' ∧ qe_wt R σ' s n := by
  obtain ⟨n1, n2⟩ := qi_n hs
  intro m
  induction m with
  | zero => intro k σ _ _ h1 h2; omega
  | succ m ih =>
    intro k σ h hw hk hm
    rw [qa_fX1_weighByUseOrCost_2, ra_n0 h, n1, hn]
    by_cases e : k = n
    · subst e
      rw [if_pos (nI_le (Nat.le_refl _) (by omega))]
      exact ⟨σ, rfl, qe_Gr, hw⟩
    · have hk2 : k < 16 := by omega
      have r1 := qz_rg (s (1 + 7 * k + 6))
      have r2 := (hs.2.2 k hk2).2.2.2.1
      rw [if_neg (nI_ge (by omega) (by omega)), ra_165 h]
      unfold qa_fX1_weighByUseOrCost_28 qa_fX1_weighByUseOrCost_64
      rw [at_in hk2 (by omega), at_in hk2 (by omega), ra_c h hk2, ra_u h hk2, qk_a1, nI_1, set_in hk2 (by omega), set_in hk2 (by omega)]
      have key : ∀ v : Int32, v.toInt = qr_w s k → ∃ σ', qa_fX1_weighByUseOrCost_2 R m (nI (k + 1)) (qa_wi σ (R, 16) k v) = some σ' ∧ qe_G R σ σ' ∧ qe_wt R σ' s n := by
        intro v hv
        obtain ⟨σ', a1, a2, a3⟩ := ih (k + 1) (qa_wi σ (R, 16) k v) (ra_G h qe_G6) (fun j hj => by
          by_cases e2 : j = k
          · subst e2
            rw [wi_eq]; exact hv
          · rw [wi_ni e2]
            exact hw j (by omega)) (by omega) (by omega)
        exact ⟨σ', a1, qe_Gt qe_G6 a2, a3⟩
      by_cases c : s 165 = 0
      · rw [if_neg (not_not_intro c), if_neg (by decide)]
        refine key _ ?_
        unfold qr_w
        rw [if_pos c, qz_neg (by omega)]
      · rw [if_pos c, if_pos (by rfl)]
        refine key _ ?_
        unfold qr_w
        have c2 : s 165 = 1 := by
          have h3 := he.2.2.2.2.1
          have h4 := he.2.2.2.2.2.1
          rw [qz_eq] at c h2 ⊢
          rw [qk_t0] at c
          rw [show (2 : Int32).toInt = 2 from rfl] at h2
          rw [qk_t1]
          omega
        rw [if_neg c, if_pos c2]
theorem cl_wn3 {c : Nat} (hs : qi_sl s) (hp : qi_pr s) (h2 : s 165 = 2) (hc : qn (s 113) = c) : ∀ (m k : Nat) (σ : qa_T), qe_A R σ s → (∀ j, j < qn (s 0) → (σ.1 (R, 16) j).toInt = (qr_nf s j (c - k) (k + 1) : Nat)) → k ≤ c → k < m → ∃ σ', qa_fX1_weighByNextUse_37 R m (nI k) σ = some σ' ∧ qe_G R σ σ' ∧ qe_wt R σ' s (qn (s 0)) := by
  have hn := (qi_n hs).2
  have hc2 := (qi_p hp).2
  have hc3 := qn_int hp.1
  have hi := qn_int hs.1
  intro m
  induction m with
  | zero => intro k σ _ _ h1 h2; omega
  | succ m ih =>
    intro k σ h hw hk hm
    rw [qa_fX1_weighByNextUse_37]
    cases k with
    | zero =>
      rw [if_pos (by rw [nI_0]; exact Int32.le_refl _)]
      refine ⟨σ, rfl, qe_Gr, fun j hj => ?_⟩
      rw [hw j hj]
      unfold qr_w qr_nx
      rw [if_neg (by rw [h2]; decide), if_neg (by rw [h2]; decide), hc]
      rfl
    | succ k =>
      have h0 : 0 < (s 113).toInt := by omega
      have h7 := qi_sa hp h0 (k + 1)
      have h8 := qn_int h7.1
      have h9 : qr_sa s (k + 1) = nI (qn (qr_sa s (k + 1))) := qn_of h7.1
      rw [if_neg (nI_nle (by omega) (by omega)), cl_sa h hp (by omega) (by omega), if_neg (by omega), Option.bind_some]
      dsimp only
      rw [h9, set_in (by omega) (by omega), qk_am1, show nI (k + 1) + -1 = nI k by rw [← Int32.sub_eq_add_neg, nI_pred]]
      obtain ⟨σ', a1, a2, a3⟩ := ih k (qa_wi σ (R, 16) (qn (qr_sa s (k + 1))) (nI (k + 1))) (ra_G h qe_G6) (fun j hj => by
        rw [show c - k = (c - (k + 1)) + 1 by omega]
        unfold qr_nf
        by_cases e2 : j = qn (qr_sa s (k + 1))
        · rw [e2, wi_eq, if_pos h9, qz_nI (by omega)]
        · rw [wi_ni e2, if_neg (fun t => e2 (by rw [t, qn_nI (by omega)])), hw j hj]) (by omega) (by omega)
      exact ⟨σ', a1, qe_Gt qe_G6 a2, a3⟩
theorem cl_wn2 {n : Nat} (hs : qi_sl s) (hp : qi_pr s) (h2 : s 165 = 2) (hn : qn (s 0) = n) : ∀ (m k : Nat) (σ : qa_T), qe_A R σ s → (∀ j, j < k → (σ.1 (R, 16) j).toInt = 25) → k ≤ n → n - k < m → ∃ σ', qa_fX1_weighByNextUse_2 R m (nI k) σ = some σ' ∧ qe_G R σ σ' ∧ qe_wt R σ' s n := by
  obtain ⟨n1, n2⟩ := qi_n hs
  have hc2 := (qi_p hp).2
  intro m
  induction m with
  | zero => intro k σ _ _ h1 h2; omega
  | succ m ih =>
    intro k σ h hw hk hm
    rw [qa_fX1_weighByNextUse_2, ra_n0 h, n1, hn]
    by_cases e : k = n
    · subst e
      rw [if_pos (nI_le (Nat.le_refl _) (by omega)), ra_113 h, (qi_p hp).1]
      subst hn
      exact cl_wn3 hs hp h2 rfl qa_fu (qn (s 113)) σ h (fun j hj => by rw [Nat.sub_self, hw j hj]; rfl) (Nat.le_refl _) (by unfold qa_fu; omega)
    · have hk2 : k < 16 := by omega
      rw [if_neg (nI_ge (by omega) (by omega)), set_in hk2 (by omega), qk_a1, nI_1, qk_b25]
      obtain ⟨σ', a1, a2, a3⟩ := ih (k + 1) (qa_wi σ (R, 16) k 25) (ra_G h qe_G6) (fun j hj => by
        by_cases e2 : j = k
        · subst e2
          rw [wi_eq]; rfl
        · rw [wi_ni e2]
          exact hw j (by omega)) (by omega) (by omega)
      exact ⟨σ', a1, qe_Gt qe_G6 a2, a3⟩
/-- a line in its row -/
def qe_ln (R : Nat) (σ : qa_T) (l : List Nat) : Prop := ∀ j a, l[j]? = some a → σ.1 (R, 17) j = nI a
theorem qr_in_get (s : qs) (a : Nat) : ∀ (l : List Nat) (p j : Nat), p ≤ l.length → (∀ i b, i < p → l[i]? = some b → qr_w s a ≤ qr_w s b) → (∀ b, l[p]? = some b → qr_w s b < qr_w s a) → (qr_in s a l)[j]? = if j < p then l[j]? else if j = p then some a else l[j - 1]? := by
  intro l
  induction l with
  | nil =>
    intro p j hp h1 h2
    simp only [List.length_nil] at hp
    have : p = 0 := by omega
    subst this
    unfold qr_in
    cases j with
    | zero => rfl
    | succ j => rw [if_neg (by omega), if_neg (by omega)]; rfl
  | cons b l ih =>
    intro p j hp h1 h2
    unfold qr_in
    cases p with
    | zero =>
      rw [if_pos (h2 b rfl)]
      cases j with
      | zero => rfl
      | succ j => rw [if_neg (by omega), if_neg (by omega)]; rfl
    | succ p =>
      have h3 := h1 0 b (by omega) rfl
      rw [if_neg (by omega)]
      cases j with
      | zero => rw [if_pos (by omega)]; rfl
      | succ j =>
        have h4 := ih p j (by simp only [List.length_cons] at hp; omega) (fun i c hi hc => h1 (i + 1) c (by omega) hc) (fun c hc => h2 c hc)
        show (qr_in s a l)[j]? = _
        rw [h4]
        by_cases c1 : j < p
        · rw [if_pos c1, if_pos (by omega)]; rfl
        · rw [if_neg c1, if_neg (show ¬ j + 1 < p + 1 by omega)]
          by_cases c2 : j = p
          · rw [if_pos c2, if_pos (show j + 1 = p + 1 by omega)]
          · rw [if_neg c2, if_neg (show ¬ j + 1 = p + 1 by omega)]
            obtain ⟨j, rfl⟩ : ∃ i, j = i + 1 := ⟨j - 1, by omega⟩
            rfl
theorem cl_l47 {k26 : Int32 → Int32 → qa_T → Option (Int32 × qa_T)} {a : Nat} {l : List Nat} (ha : a < 16) (hl : l.length < 16) (hm : ∀ b ∈ l, b < a) (hp : l.Pairwise (fun a b => qr_fb s a b = true)) : ∀ (m p : Nat) (σ : qa_T), qe_wt R σ s (a + 1) → p ≤ l.length → (∀ j b, j < p → l[j]? = some b → σ.1 (R, 17) j = nI b) → (∀ j b, p ≤ j → l[j]? = some b → σ.1 (R, 17) (j + 1) = nI b ∧ qr_w s b < qr_w s a) → p < m → ∃ σ', qa_fX1_lineUp_47 R k26 m (nI l.length) (nI a) (nI p) σ = k26 (nI (l.length + 1)) (nI (a + 1)) σ' ∧ qe_G R σ σ' ∧ (∀ j, σ'.1 (R, 16) j = σ.1 (R, 16) j) ∧ qe_ln R σ' (qr_in s a l) := by
  have done : ∀ (p : Nat) (σ : qa_T), p ≤ l.length → (∀ j b, j < p → l[j]? = some b → σ.1 (R, 17) j = nI b) → (∀ j b, p ≤ j → l[j]? = some b → σ.1 (R, 17) (j + 1) = nI b ∧ qr_w s b < qr_w s a) → (∀ i b, i < p → l[i]? = some b → qr_w s a ≤ qr_w s b) → ∃ σ', qa_fX1_lineUp_103 R k26 (nI l.length) (nI a) (nI p) σ = k26 (nI (l.length + 1)) (nI (a + 1)) σ' ∧ qe_G R σ σ' ∧ (∀ j, σ'.1 (R, 16) j = σ.1 (R, 16) j) ∧ qe_ln R σ' (qr_in s a l) := by
    intro p σ hpl h1 h2 h3
    unfold qa_fX1_lineUp_103 qa_fX1_lineUp_115
    dsimp only
    rw [set_in (by omega) (by omega), qk_a1, nI_1, nI_1]
    refine ⟨_, rfl, qe_G7, fun j => by rw [wi_np (by simp)], fun j b hb => ?_⟩
    rw [qr_in_get s a l p j hpl h3 (fun b hb => (h2 p b (Nat.le_refl _) hb).2)] at hb
    by_cases c1 : j < p
    · rw [if_pos c1] at hb
      rw [wi_ni (by omega)]
      exact h1 j b c1 hb
    · rw [if_neg c1] at hb
      by_cases c2 : j = p
      · rw [if_pos c2] at hb
        cases hb
        rw [c2, wi_eq]
      · rw [if_neg c2] at hb
        rw [wi_ni c2]
        have := (h2 (j - 1) b (by omega) hb).1
        rw [show j - 1 + 1 = j by omega] at this
        exact this
  intro m
  induction m with
  | zero => intro p σ _ _ _ _ h; omega
  | succ m ih =>
    intro p σ hw hpl h1 h2 hpm
    rw [qa_fX1_lineUp_47]
    cases p with
    | zero =>
      rw [if_pos (by rw [nI_0]; exact Int32.le_refl _)]
      exact done 0 σ hpl h1 h2 (fun i b hi => by omega)
    | succ p =>
      obtain ⟨b, hb⟩ : ∃ b, l[p]? = some b := ⟨l[p]'(by omega), List.getElem?_eq_getElem (by omega)⟩
      have hbm := hm b (List.mem_of_getElem? hb)
      have hbw := hw b (by omega)
      have haw := hw a (by omega)
      rw [if_neg (nI_nle (by omega) (by omega)), qk_a1, nI_pred, at_in (by omega) (by omega), at_in (by omega) (by omega), h1 p b (by omega) hb, at_in (by omega) (by omega)]
      by_cases c : σ.1 (R, 16) a ≤ σ.1 (R, 16) b
      · rw [if_pos c]
        rw [qz_le, hbw, haw] at c
        refine done (p + 1) σ hpl h1 h2 (fun i x hi hx => ?_)
        by_cases e : i = p
        · subst e
          rw [hb] at hx
          cases hx
          exact c
        · have := List.pairwise_iff_getElem.mp hp i p (by omega) (by omega) (by omega)
          rw [List.getElem?_eq_getElem (by omega)] at hx hb
          rw [Option.some.inj hx, Option.some.inj hb] at this
          unfold qr_fb at this
          simp only [Bool.or_eq_true, Bool.and_eq_true, decide_eq_true_eq] at this
          omega
      · rw [if_neg c]
        rw [qz_le, hbw, haw] at c
        dsimp only
        rw [set_in (by omega) (by omega), qk_am1, show nI (p + 1) + -1 = nI p by rw [← Int32.sub_eq_add_neg, nI_pred]]
        obtain ⟨σ', a1, a2, a3, a4⟩ := ih p (qa_wi σ (R, 17) (p + 1) (nI b)) (fun j hj => by rw [wi_np (by simp)]; exact hw j hj) (by omega) (fun j x hj hx => by
          rw [wi_ni (by omega)]
          exact h1 j x (by omega) hx) (fun j x hj hx => by
          by_cases e : j = p
          · subst e
            rw [hb] at hx
            cases hx
            rw [wi_eq]
            exact ⟨rfl, by omega⟩
          · rw [wi_ni (by omega)]
            exact h2 j x (by omega) hx) (by omega)
        exact ⟨σ', a1, qe_Gt qe_G7 a2, fun j => by rw [a3, wi_np (by simp)], a4⟩
theorem cl_l26 {n : Nat} (hs : qi_sl s) (hn : qn (s 0) = n) : ∀ (m k : Nat) (σ : qa_T), qe_A R σ s → qe_wt R σ s n → qe_ln R σ (qr_lf s k) → k ≤ n → n - k < m → ∃ σ', qa_fX1_lineUp_26 R m (nI (qr_lf s k).length) (nI k) σ = some (nI (qr_lf s n).length, σ') ∧ qe_G R σ σ' ∧ qe_ln R σ' (qr_lf s n) := by
  obtain ⟨n1, n2⟩ := qi_n hs
  intro m
  induction m with
  | zero => intro k σ _ _ _ h1 h2; omega
  | succ m ih =>
    intro k σ h hw hl hk hm
    rw [qa_fX1_lineUp_26, ra_n0 h, n1, hn]
    by_cases e : k = n
    · subst e
      rw [if_pos (nI_le (Nat.le_refl _) (by omega))]
      exact ⟨σ, rfl, qe_Gr, hl⟩
    · have hk2 : k < 16 := by omega
      have e2 : qr_lf s (k + 1) = if qr_cb s k = true then qr_in s k (qr_lf s k) else qr_lf s k := rfl
      rw [if_neg (nI_ge (by omega) (by omega)), cl_mb h hs hk2]
      cases c : qr_cb s k
      · rw [if_pos (by rfl)]
        rw [c, if_neg (by decide)] at e2
        have := ih (k + 1) σ h hw (by rw [e2]; exact hl) (by omega) (by omega)
        rw [e2] at this
        unfold qa_fX1_lineUp_115
        dsimp only
        rw [qk_a1, nI_1]
        exact this
      · rw [if_neg (by decide)]
        rw [c, if_pos rfl] at e2
        have h9 := qr_lf_len s k
        obtain ⟨σ1, a1, a2, a3, a4⟩ := cl_l47 (R := R) (s := s) (k26 := qa_fX1_lineUp_26 R m) hk2 (show (qr_lf s k).length < 16 by omega) (fun b hb => ((qr_lf_mem s b k).mp hb).1) (qr_lf_pw s k) qa_fu (qr_lf s k).length σ (fun j hj => hw j (by omega)) (Nat.le_refl _) (fun j b _ hb => hl j b hb) (fun j b hj hb => by
          rw [List.getElem?_eq_none (by omega)] at hb
          cases hb) (by unfold qa_fu; omega)
        have := ih (k + 1) σ1 (ra_G h a2) (fun j hj => by rw [a3]; exact hw j hj) (by rw [e2]; exact a4) (by omega) (by omega)
        rw [e2, qr_in_len] at this
        obtain ⟨σ', b1, b2, b3⟩ := this
        exact ⟨σ', a1.trans b1, qe_Gt a2 b2, b3⟩
theorem cl_lu (h : qe_A R σ s) (hs : qi_sl s) (hp : qi_pr s) (he : qi_se s) : ∃ σ', qa_fX1_lineUp R σ = some (nI (qr_ln s).length, σ') ∧ qe_G R σ σ' ∧ qe_ln R σ' (qr_ln s) := by
  have hn := (qi_n hs).2
  have fin : ∀ σ1, qe_G R σ σ1 → qe_wt R σ1 s (qn (s 0)) → ∃ σ', qa_fX1_lineUp_22 R σ1 = some (nI (qr_ln s).length, σ') ∧ qe_G R σ σ' ∧ qe_ln R σ' (qr_ln s) := by
    intro σ1 g1 g2
    obtain ⟨σ', a1, a2, a3⟩ := cl_l26 hs rfl qa_fu 0 σ1 (ra_G h g1) g2 (fun j a hj => by cases hj) (by omega) (by unfold qa_fu; omega)
    exact ⟨σ', a1, qe_Gt g1 a2, a3⟩
  unfold qa_fX1_lineUp
  rw [ra_165 h, qk_a2]
  by_cases c : s 165 = 2
  · rw [if_neg (not_not_intro c)]
    obtain ⟨σ1, a1, a2, a3⟩ := cl_wn2 (R := R) hs hp c rfl qa_fu 0 σ h (fun j hj => by omega) (by omega) (by unfold qa_fu; omega)
    have a4 : qa_fX1_weighByNextUse R σ = some σ1 := a1
    rw [a4, Option.bind_some]
    exact fin σ1 a2 a3
  · rw [if_pos c]
    obtain ⟨σ1, a1, a2, a3⟩ := cl_wu (R := R) hs he c rfl qa_fu 0 σ h (fun j hj => by omega) (by omega) (by unfold qa_fu; omega)
    have a4 : qa_fX1_weighByUseOrCost R σ = some σ1 := a1
    rw [a4, Option.bind_some]
    exact fin σ1 a2 a3
end QCB
