/-! the whole object and the whole reference: saved states, slots, the buffer -/
section QPA
variable {ρ σ σ' τ : qa_T} {s t : qs} {y : Int32} {R S N : Nat}
/-- a state between calls -/
def qi_P (N : Nat) (s : qs) : Prop := qi_I N s ∧ qi_st s ∧ ∀ j, 176 ≤ j → s j = 0
def qj_C (τ : qa_T) (s : qs) (k f : Nat) (U : Nat → qs) (Z : Nat → Bool) (V : Nat → qs) (L : Nat) (B : Nat → Int32) : Prop :=
  qe_R 1 τ s ∧ τ.1 (2, 18) 1 = nI k ∧ τ.1 (2, 18) 0 = nI f ∧ (∀ i, i < k → qe_R (3 + (f + i) % 6) τ (U i)) ∧ (∀ i, i < 2 → τ.1 (10, 18) i = qa_bi (Z i)) ∧ (∀ i, i < 2 → Z i = true → qe_R (9 + i) τ (V i)) ∧ τ.1 (10, 19) 0 = nI L ∧ ∀ i, i < L → τ.1 (10, 20) i = B i
def qj_R (τ : qa_T) (s : qs) (k : Nat) (U : Nat → qs) (Z : Nat → Bool) (V : Nat → qs) (L : Nat) (B : Nat → Int32) : Prop :=
  τ.1 (10, 22) = s ∧ τ.1 (10, 21) 2 = nI k ∧ (∀ i, i < k → ∀ j, j < 176 → τ.1 (10, 23) (176 * i + j) = U i j) ∧ (∀ i, i < 2 → τ.1 (10, 25) i = qa_bi (Z i)) ∧ (∀ i, i < 2 → Z i = true → ∀ j, j < 176 → τ.1 (10, 24) (176 * i + j) = V i j) ∧ τ.1 (10, 21) 8 = nI L ∧ ∀ i, i < L → τ.1 (10, 28) i = B i
def qj_I (N : Nat) (s : qs) (k f : Nat) (U : Nat → qs) (Z : Nat → Bool) (V : Nat → qs) (L : Nat) (B : Nat → Int32) : Prop :=
  qi_P N s ∧ k ≤ 6 ∧ f < 6 ∧ (∀ i, i < k → qi_P N (U i)) ∧ (∀ i, i < 2 → Z i = true → qi_P N (V i)) ∧ L ≤ 60 ∧ ∀ i, i < L → 33 ≤ (B i).toInt ∧ (B i).toInt ≤ 126
variable {k f L : Nat} {U V : Nat → qs} {Z : Nat → Bool} {B : Nat → Int32}
theorem qi_Pu {M : Nat} (h : qi_P M s) (hl : M ≤ N) : qi_P N s := ⟨qq_I h.1 hl, h.2⟩
/-- the class's cells, and the reference's -/
def qc_c (p : qa_P) : Prop := (1 ≤ p.1 ∧ p.1 ≤ 10 ∧ p.2 < 18) ∨ p = (2, 18) ∨ p = (10, 18) ∨ p = (10, 19) ∨ p = (10, 20)
def qc_r (p : qa_P) : Prop := p.1 = 10 ∧ 21 ≤ p.2 ∧ p.2 ≤ 28
theorem qc_no {p : qa_P} (h1 : qc_c p) (h2 : qc_r p) : False := by
  obtain ⟨a, b⟩ := p
  unfold qc_c at h1
  unfold qc_r at h2
  simp only [Prod.mk.injEq] at h1 h2
  omega
/-- nothing but the class's cells has changed; nothing but the reference's -/
def qe_cc (σ σ' : qa_T) : Prop := ∀ p, ¬ qc_c p → σ'.1 p = σ.1 p
def qe_rr (σ σ' : qa_T) : Prop := ∀ p, ¬ qc_r p → σ'.1 p = σ.1 p
theorem cc_t {σ'' : qa_T} (h1 : qe_cc σ σ') (h2 : qe_cc σ' σ'') : qe_cc σ σ'' := fun p hp => (h2 p hp).trans (h1 p hp)
theorem rr_t {σ'' : qa_T} (h1 : qe_rr σ σ') (h2 : qe_rr σ' σ'') : qe_rr σ σ'' := fun p hp => (h2 p hp).trans (h1 p hp)
theorem cc_r : qe_cc σ σ := fun _ _ => rfl
theorem rr_r : qe_rr σ σ := fun _ _ => rfl
theorem cc_F (h : qe_F R σ σ') (hR : 1 ≤ R) (hR2 : R ≤ 10) : qe_cc σ σ' := fun p hp => by
  refine h.1 p ?_
  by_cases c : p.1 = R
  · refine Or.inr ?_
    by_cases c2 : 18 ≤ p.2
    · exact c2
    · exact absurd (Or.inl ⟨by omega, by omega, by omega⟩) hp
  · exact Or.inl c
theorem ra_S (h : qe_A R σ s) (hF : ∀ j, j < 16 → σ'.1 (R, j) = σ.1 (R, j)) : qe_A R σ' s := by
  intro i hi hl
  rw [hF _ (qy_qx hi).2.1]
  exact h i hi hl
theorem rr_S (h : qe_R R σ s) (hF : ∀ j, j < 16 → σ'.1 (R, j) = σ.1 (R, j)) : qe_R R σ' s := ⟨ra_S h.1 hF, by rw [hF _ (by omega)]; exact h.2⟩
theorem jc_rr (h : qj_C σ s k f U Z V L B) (hr : qe_rr σ σ') : qj_C σ' s k f U Z V L B := by
  obtain ⟨a1, a2, a3, a4, a5, a6, a7, a8⟩ := h
  have o : ∀ R j, j < 21 ∨ ¬ R = 10 → σ'.1 (R, j) = σ.1 (R, j) := fun R j hj => hr (R, j) (fun t => by
    unfold qc_r at t
    dsimp only at t
    omega)
  refine ⟨rr_S a1 (fun j hj => o _ _ (by omega)), by rw [o _ _ (by omega)]; exact a2, by rw [o _ _ (by omega)]; exact a3, fun i hi => rr_S (a4 i hi) (fun j hj => o _ _ (by omega)), fun i hi => by rw [o _ _ (by omega)]; exact a5 i hi, fun i hi hz => rr_S (a6 i hi hz) (fun j hj => o _ _ (by omega)), by rw [o _ _ (by omega)]; exact a7, fun i hi => by rw [o _ _ (by omega)]; exact a8 i hi⟩
theorem jr_cc (h : qj_R σ s k U Z V L B) (hr : qe_cc σ σ') : qj_R σ' s k U Z V L B := by
  obtain ⟨a1, a2, a3, a4, a5, a6, a7⟩ := h
  have o : ∀ j, 21 ≤ j → j ≤ 28 → σ'.1 (10, j) = σ.1 (10, j) := fun j hj hj2 => hr (10, j) (fun t => qc_no t ⟨rfl, hj, hj2⟩)
  unfold qj_R
  rw [o 22 (by omega) (by omega), o 21 (by omega) (by omega), o 23 (by omega) (by omega), o 25 (by omega) (by omega), o 24 (by omega) (by omega), o 28 (by omega) (by omega)]
  exact ⟨a1, a2, a3, a4, a5, a6, a7⟩
/-- a step in the first region; in the trial's -/
theorem jc_1 (h : qj_C σ s k f U Z V L B) (hF : qe_F 1 σ σ') (h1 : qe_R 1 σ' t) : qj_C σ' t k f U Z V L B := by
  obtain ⟨a1, a2, a3, a4, a5, a6, a7, a8⟩ := h
  have o : ∀ p : qa_P, ¬ p.1 = 1 → σ'.1 p = σ.1 p := fun p hp => hF.1 p (Or.inl hp)
  exact ⟨h1, by rw [o _ (by decide)]; exact a2, by rw [o _ (by decide)]; exact a3, fun i hi => rr_S (a4 i hi) (fun j hj => o _ (by dsimp only; omega)), fun i hi => by rw [o _ (by decide)]; exact a5 i hi, fun i hi hz => rr_S (a6 i hi hz) (fun j hj => o _ (by dsimp only; omega)), by rw [o _ (by decide)]; exact a7, fun i hi => by rw [o _ (by decide)]; exact a8 i hi⟩
theorem jc_2 (h : qj_C σ s k f U Z V L B) (hF : qe_F 2 σ σ') : qj_C σ' s k f U Z V L B := by
  obtain ⟨a1, a2, a3, a4, a5, a6, a7, a8⟩ := h
  have o : ∀ p : qa_P, ¬ p.1 = 2 → σ'.1 p = σ.1 p := fun p hp => hF.1 p (Or.inl hp)
  have o2 : σ'.1 (2, 18) = σ.1 (2, 18) := hF.1 _ (Or.inr (by decide))
  exact ⟨rr_S a1 (fun j hj => o _ (by dsimp only; omega)), by rw [o2]; exact a2, by rw [o2]; exact a3, fun i hi => rr_S (a4 i hi) (fun j hj => o _ (by dsimp only; omega)), fun i hi => by rw [o _ (by decide)]; exact a5 i hi, fun i hi hz => rr_S (a6 i hi hz) (fun j hj => o _ (by dsimp only; omega)), by rw [o _ (by decide)]; exact a7, fun i hi => by rw [o _ (by decide)]; exact a8 i hi⟩
/-- a state is saved -/
def qu_k (k : Nat) : Nat := if k < 6 then k + 1 else 6
def qu_f (k f : Nat) : Nat := if k < 6 then f else (f + 1) % 6
def qu_U (k : Nat) (U : Nat → qs) (s : qs) (i : Nat) : qs := if k < 6 then (if i = k then s else U i) else (if i < 5 then U (i + 1) else s)
theorem rm6 {a : Nat} (h : a < 100) : nI a - nI a / ((Int8.ofInt 6).toInt32) * ((Int8.ofInt 6).toInt32) = nI (a % 6) := by
  rw [qk_b6, qk_i6]
  have h1 := qz_nI (k := a) (by omega)
  have h2 := qz_nI (k := 6) (by omega)
  rw [qz_eq, qz_mod (by omega) (by omega), h1, h2, qz_nI (by omega)]
  omega
theorem cl_push (h : qj_C σ s k f U Z V L B) (hk : k ≤ 6) (hf : f < 6) (hs : qi_sl s) : ∃ σ', qa_fX5_push 1 σ = some σ' ∧ qj_C σ' s (qu_k k) (qu_f k f) (qu_U k U s) Z V L B ∧ qe_cc σ σ' := by
  obtain ⟨a1, a2, a3, a4, a5, a6, a7, a8⟩ := h
  have hm : (f + k) % 6 < 6 := Nat.mod_lt _ (by omega)
  obtain ⟨τ, b1, b2, b3⟩ := cl_cp (R := 3 + (f + k) % 6) a1 hs (by omega)
  have o : ∀ p : qa_P, ¬ p.1 = 3 + (f + k) % 6 → τ.1 p = σ.1 p := fun p hp => b3.1 p (Or.inl hp)
  have o18 : ∀ i, τ.1 (2, 18) i = σ.1 (2, 18) i := fun i => by rw [o _ (by dsimp only; omega)]
  unfold qa_fX5_push qa_fX5_push_45 qa_fX5_push_80
  rw [a2, a3, nI_add, rm6 (by omega)]
  dsimp only
  rw [if_neg (nI_pos (by omega)), if_neg (show ¬ Int32.ofNat 6 ≤ nI _ from nI_ge hm (by omega)), nI_clamp (by omega), b1, Option.bind_some, o18, o18, a2, a3, qk_b6, qk_i6, qk_a1]
  have keep : ∀ (v : qa_T), (∀ p : qa_P, ¬ p = (2, 18) → v.1 p = τ.1 p) → (∀ i, i < k → ¬ (f + i) % 6 = (f + k) % 6 → qe_R (3 + (f + i) % 6) v (U i)) ∧ (∀ i, i < 2 → v.1 (10, 18) i = qa_bi (Z i)) ∧ (∀ i, i < 2 → Z i = true → qe_R (9 + i) v (V i)) ∧ v.1 (10, 19) 0 = nI L ∧ (∀ i, i < L → v.1 (10, 20) i = B i) ∧ qe_R 1 v s ∧ qe_R (3 + (f + k) % 6) v s ∧ qe_cc σ v := by
    intro v hv
    refine ⟨fun i hi hne => ?_, fun i hi => ?_, fun i hi hz => ?_, ?_, fun i hi => ?_, ?_, ?_, ?_⟩
    · refine rr_S (a4 i hi) (fun j hj => ?_)
      rw [hv _ (by simp only [Prod.mk.injEq]; omega), o _ (by dsimp only; omega)]
    · rw [hv _ (by decide), o _ (by dsimp only; omega)]
      exact a5 i hi
    · refine rr_S (a6 i hi hz) (fun j hj => ?_)
      rw [hv _ (by simp only [Prod.mk.injEq]; omega), o _ (by dsimp only; omega)]
    · rw [hv _ (by decide), o _ (by dsimp only; omega)]
      exact a7
    · rw [hv _ (by decide), o _ (by dsimp only; omega)]
      exact a8 i hi
    · refine rr_S a1 (fun j hj => ?_)
      rw [hv _ (by simp only [Prod.mk.injEq]; omega), o _ (by dsimp only; omega)]
    · refine rr_S b2 (fun j hj => ?_)
      rw [hv _ (by simp only [Prod.mk.injEq]; omega)]
    · intro p hp
      rw [hv p (fun e => hp (Or.inr (Or.inl e)))]
      exact cc_F b3 (by omega) (by omega) p hp
  by_cases c : k < 6
  · rw [if_neg (nI_ge (by omega) (by omega)), nI_1]
    obtain ⟨k1, k2, k3, k4, k5, k6, k7, k8⟩ := keep (qa_wi τ (2, 18) 1 (nI (k + 1))) (fun p hp => wi_np hp)
    refine ⟨_, rfl, ⟨k6, ?_, ?_, fun i hi => ?_, k2, k3, k4, k5⟩, k8⟩
    · unfold qu_k
      rw [wi_eq, if_pos c]
    · unfold qu_f
      rw [wi_ni (by omega), o18, a3, if_pos c]
    · unfold qu_k at hi
      rw [if_pos c] at hi
      unfold qu_f qu_U
      rw [if_pos c, if_pos c]
      by_cases e : i = k
      · subst e
        rw [if_pos rfl]
        exact k7
      · rw [if_neg e]
        exact k1 i (by omega) (by omega)
  · have hk6 : k = 6 := by omega
    subst hk6
    have e1 : nI f + 1 - (nI f + 1) / nI 6 * nI 6 = nI ((f + 1) % 6) := by
      rw [nI_1]
      exact rm6 (by omega)
    rw [if_pos (nI_le (by omega) (by omega)), e1]
    obtain ⟨k1, k2, k3, k4, k5, k6, k7, k8⟩ := keep (qa_wi τ (2, 18) 0 (nI ((f + 1) % 6))) (fun p hp => wi_np hp)
    refine ⟨_, rfl, ⟨k6, ?_, ?_, fun i hi => ?_, k2, k3, k4, k5⟩, k8⟩
    · unfold qu_k
      rw [wi_ni (by omega), o18, a2, if_neg c]
    · unfold qu_f
      rw [wi_eq, if_neg c]
    · unfold qu_k at hi
      rw [if_neg c] at hi
      unfold qu_f qu_U
      rw [if_neg c, if_neg c]
      by_cases e : i < 5
      · rw [if_pos e, show ((f + 1) % 6 + i) % 6 = (f + (i + 1)) % 6 by omega]
        exact k1 (i + 1) (by omega) (by omega)
      · rw [if_neg e, show ((f + 1) % 6 + i) % 6 = (f + 6) % 6 by omega]
        exact k7
theorem ji_push {M : Nat} (h : qj_I N s k f U Z V L B) (ht : qi_P M t) (hM : N ≤ M) : qj_I M t (qu_k k) (qu_f k f) (qu_U k U s) Z V L B := by
  obtain ⟨b1, b2, b3, b4, b5, b6, b7⟩ := h
  refine ⟨ht, ?_, ?_, fun i hi => ?_, fun i hi hz => qi_Pu (b5 i hi hz) hM, b6, b7⟩
  · unfold qu_k; split <;> omega
  · unfold qu_f
    split
    · exact b3
    · exact Nat.mod_lt _ (by omega)
  · unfold qu_k at hi
    unfold qu_U
    by_cases c : k < 6
    · rw [if_pos c] at hi ⊢
      split
      · exact qi_Pu b1 hM
      · exact qi_Pu (b4 i (by omega)) hM
    · rw [if_neg c] at hi ⊢
      split
      · exact qi_Pu (b4 (i + 1) (by omega)) hM
      · exact qi_Pu b1 hM
/-- the reference's cells but the row -/
theorem jr_w {p : qa_P} {i : Nat} {v : Int32} (h : qj_R σ s k U Z V L B) (hp : p = (10, 26) ∨ p = (10, 27) ∨ (p = (10, 21) ∧ ¬ i = 2 ∧ ¬ i = 8)) : qj_R (qa_wi σ p i v) s k U Z V L B := by
  obtain ⟨a1, a2, a3, a4, a5, a6, a7⟩ := h
  have o : ∀ j, j = 22 ∨ j = 23 ∨ j = 24 ∨ j = 25 ∨ j = 28 → (qa_wi σ p i v).1 (10, j) = σ.1 (10, j) := fun j hj => wi_np (fun e => by
    subst e
    simp only [Prod.mk.injEq] at hp
    omega)
  have o1 : ∀ j, j = 2 ∨ j = 8 → (qa_wi σ p i v).1 (10, 21) j = σ.1 (10, 21) j := fun j hj => by
    by_cases e : p = (10, 21)
    · subst e
      simp only [Prod.mk.injEq] at hp
      rw [wi_ni (by omega)]
    · rw [wi_np (fun t => e t.symm)]
  unfold qj_R
  rw [o 22 (by omega), o1 2 (by omega), o 23 (by omega), o 25 (by omega), o 24 (by omega), o1 8 (by omega), o 28 (by omega)]
  exact ⟨a1, a2, a3, a4, a5, a6, a7⟩
theorem rr_w {p : qa_P} {i : Nat} {v : Int32} (hp : qc_r p) : qe_rr σ (qa_wi σ p i v) := fun q hq => wi_np (fun e => hq (e ▸ hp))
theorem jr_qw (h : qj_R ρ s k U Z V L B) : qj_R (qw ρ t y) t k U Z V L B := by
  obtain ⟨a1, a2, a3, a4, a5, a6, a7⟩ := h
  unfold qj_R
  rw [qw_s, qw_o (p := (10, 23)) (by decide) (by decide), qw_o (p := (10, 25)) (by decide) (by decide), qw_o (p := (10, 24)) (by decide) (by decide), qw_o (p := (10, 28)) (by decide) (by decide)]
  have e : ∀ j, ¬ j = 10 → (qw ρ t y).1 (10, 21) j = ρ.1 (10, 21) j := fun j hj => by
    unfold qw
    dsimp only
    rw [if_neg (by decide), if_pos rfl, pk_un hj]
  rw [e 2 (by omega), e 8 (by omega)]
  exact ⟨rfl, a2, a3, a4, a5, a6, a7⟩
theorem rr_qw : qe_rr ρ (qw ρ t y) := fun p hp => qw_o (fun e => hp (by subst e; exact ⟨rfl, by decide, by decide⟩)) (fun e => hp (by subst e; exact ⟨rfl, by decide, by decide⟩))
theorem jr_self (h : qj_R ρ s k U Z V L B) : ρ = qw ρ s (ρ.1 (10, 21) 10) := by
  have := qw_self (ρ := ρ)
  rw [h.1] at this
  exact this.symm
/-- the reference saves a state -/
theorem rf_sv5 {c : Nat} (hc : c < 6) : ∀ (f j : Nat) (τ : qa_T), qe_rr σ τ → τ.1 (10, 22) = s → τ.1 (10, 21) 2 = nI c → (∀ p, ¬ p = (10, 23) → τ.1 p = σ.1 p) → (∀ i, τ.1 (10, 23) i = if 176 * c ≤ i ∧ i < 176 * c + j then s (i - 176 * c) else σ.1 (10, 23) i) → j ≤ 176 → 176 - j < f → ∃ σ', qa_fX10_save_52 f (nI j) τ = some σ' ∧ (∀ p, ¬ p = (10, 23) → ¬ p = (10, 21) → σ'.1 p = σ.1 p) ∧ (∀ i, ¬ i = 2 → σ'.1 (10, 21) i = σ.1 (10, 21) i) ∧ σ'.1 (10, 21) 2 = nI (c + 1) ∧ (∀ i, σ'.1 (10, 23) i = if 176 * c ≤ i ∧ i < 176 * c + 176 then s (i - 176 * c) else σ.1 (10, 23) i) := by
  intro f
  induction f with
  | zero => intro j τ _ _ _ _ _ _ h; omega
  | succ f ih =>
    intro j τ h1 h2 h3 h4 h5 hj hf
    have e176 : ((Int16.ofInt 176).toInt32) = nI 176 := rfl
    rw [qa_fX10_save_52, e176, h3, h2]
    by_cases e : j = 176
    · subst e
      rw [if_pos (nI_le (Nat.le_refl _) (by omega)), qk_a1, nI_1]
      refine ⟨_, rfl, fun p p1 p2 => by rw [wi_np p2, h4 p p1], fun i hi => by rw [wi_ni hi, h4 _ (by decide)], wi_eq, fun i => by rw [wi_np (by decide)]; exact h5 i⟩
    · rw [if_neg (nI_ge (by omega) (by omega)), nI_mul, nI_add, qz_ifn (by omega) (by omega), qz_ifn (by omega) (by omega), nI_clamp (by omega), nI_clamp (by omega)]
      dsimp only
      rw [qk_a1, nI_1]
      refine ih (j + 1) _ (rr_t h1 (rr_w ⟨rfl, by decide, by decide⟩)) (by rw [wi_np (by decide)]; exact h2) (by rw [wi_np (by decide)]; exact h3) (fun p hp => by rw [wi_np hp, h4 p hp]) (fun i => ?_) (by omega) (by omega)
      by_cases c1 : i = 176 * c + j
      · subst c1
        rw [wi_eq, if_pos (by omega), show 176 * c + j - 176 * c = j by omega]
      · rw [wi_ni c1, h5 i]
        by_cases c2 : 176 * c ≤ i ∧ i < 176 * c + j
        · rw [if_pos c2, if_pos (by omega)]
        · rw [if_neg c2, if_neg (by omega)]
theorem rf_sv1 (h2 : σ.1 (10, 21) 2 = nI 6) : ∀ (f j : Nat) (τ : qa_T), (∀ p, ¬ p = (10, 23) → τ.1 p = σ.1 p) → (∀ i, τ.1 (10, 23) i = if i < j then σ.1 (10, 23) (176 + i) else σ.1 (10, 23) i) → j ≤ 880 → 880 - j < f → ∃ σ', qa_fX10_save_11 f (nI j) τ = qa_fX10_save_50 σ' ∧ (∀ p, ¬ p = (10, 23) → ¬ p = (10, 21) → σ'.1 p = σ.1 p) ∧ (∀ i, ¬ i = 2 → σ'.1 (10, 21) i = σ.1 (10, 21) i) ∧ σ'.1 (10, 21) 2 = nI 5 ∧ (∀ i, σ'.1 (10, 23) i = if i < 880 then σ.1 (10, 23) (176 + i) else σ.1 (10, 23) i) := by
  intro f
  induction f with
  | zero => intro j τ _ _ _ h; omega
  | succ f ih =>
    intro j τ h4 h5 hj hf
    have e176 : ((Int16.ofInt 176).toInt32) = nI 176 := rfl
    have e880 : ((Int16.ofInt 880).toInt32) = nI 880 := rfl
    rw [qa_fX10_save_11, e176, e880]
    by_cases e : j = 880
    · subst e
      rw [if_pos (nI_le (Nat.le_refl _) (by omega)), h4 (10, 21) (by decide), h2, qk_a1, show nI 6 - 1 = nI 5 from nI_pred 5]
      refine ⟨_, rfl, fun p p1 p2 => by rw [wi_np p2, h4 p p1], fun i hi => by rw [wi_ni hi, h4 _ (by decide)], wi_eq, fun i => by rw [wi_np (by decide)]; exact h5 i⟩
    · rw [if_neg (nI_ge (by omega) (by omega)), nI_add, qz_ifn (by omega) (by omega), qz_ifn (by omega) (by omega), nI_clamp (by omega), nI_clamp (by omega)]
      dsimp only
      rw [qk_a1, nI_1]
      refine ih (j + 1) _ (fun p hp => by rw [wi_np hp, h4 p hp]) (fun i => ?_) (by omega) (by omega)
      by_cases c1 : i = j
      · subst c1
        rw [wi_eq, h5, if_neg (by omega), if_pos (by omega)]
      · rw [wi_ni c1, h5 i]
        by_cases c2 : i < j
        · rw [if_pos c2, if_pos (by omega)]
        · rw [if_neg c2, if_neg (by omega)]
theorem rf_save (h : qj_R σ s k U Z V L B) (hk : k ≤ 6) : ∃ σ', qa_fX10_save σ = some σ' ∧ qj_R σ' s (qu_k k) (qu_U k U s) Z V L B ∧ qe_rr σ σ' ∧ (∀ i, ¬ i = 2 → σ'.1 (10, 21) i = σ.1 (10, 21) i) := by
  obtain ⟨a1, a2, a3, a4, a5, a6, a7⟩ := h
  unfold qa_fX10_save
  rw [a2, qk_b6, qk_i6]
  by_cases c : k = 6
  · subst c
    rw [if_neg (not_not_intro rfl), qk_a0, ← nI_0]
    obtain ⟨τ, b1, b2, b3, b4, b5⟩ := rf_sv1 (σ := σ) a2 qa_fu 0 σ (fun p hp => rfl) (fun i => by rw [if_neg (by omega)]) (by omega) (by unfold qa_fu; omega)
    obtain ⟨σ', c1, c2, c3, c4, c5⟩ := rf_sv5 (σ := τ) (s := s) (c := 5) (by omega) qa_fu 0 τ rr_r (by rw [b2 _ (by decide) (by decide)]; exact a1) b4 (fun p hp => rfl) (fun i => by rw [if_neg (by omega)]) (by omega) (by unfold qa_fu; omega)
    rw [b1]
    refine ⟨σ', c1, ⟨?_, ?_, fun i hi j hj => ?_, fun i hi => ?_, fun i hi hz j hj => ?_, ?_, fun i hi => ?_⟩, fun p hp => ?_, fun i hi => by rw [c3 i hi, b3 i hi]⟩
    · rw [c2 _ (by decide) (by decide), b2 _ (by decide) (by decide)]; exact a1
    · rw [c4]; rfl
    · rw [c5]
      unfold qu_k at hi
      rw [if_neg (by omega)] at hi
      unfold qu_U
      rw [if_neg (show ¬ 6 < 6 by omega)]
      by_cases e : i < 5
      · rw [if_neg (show ¬ (176 * 5 ≤ 176 * i + j ∧ 176 * i + j < 176 * 5 + 176) by omega), b5, if_pos (show 176 * i + j < 880 by omega), if_pos e, show 176 + (176 * i + j) = 176 * (i + 1) + j by omega]
        exact a3 (i + 1) (by omega) j hj
      · rw [if_pos (show 176 * 5 ≤ 176 * i + j ∧ 176 * i + j < 176 * 5 + 176 by omega), if_neg e, show 176 * i + j - 176 * 5 = j by omega]
    · rw [c2 _ (by decide) (by decide), b2 _ (by decide) (by decide)]; exact a4 i hi
    · rw [c2 _ (by decide) (by decide), b2 _ (by decide) (by decide)]; exact a5 i hi hz j hj
    · rw [c3 _ (by omega), b3 _ (by omega)]; exact a6
    · rw [c2 _ (by decide) (by decide), b2 _ (by decide) (by decide)]; exact a7 i hi
    · rw [c2 p (fun e => hp (by subst e; exact ⟨rfl, by decide, by decide⟩)) (fun e => hp (by subst e; exact ⟨rfl, by decide, by decide⟩)), b2 p (fun e => hp (by subst e; exact ⟨rfl, by decide, by decide⟩)) (fun e => hp (by subst e; exact ⟨rfl, by decide, by decide⟩))]
  · rw [if_pos (fun t => c ((nI_eq (by omega) (by omega)).mp t))]
    obtain ⟨σ', c1, c2, c3, c4, c5⟩ := rf_sv5 (σ := σ) (s := s) (c := k) (by omega) qa_fu 0 σ rr_r a1 a2 (fun p hp => rfl) (fun i => by rw [if_neg (by omega)]) (by omega) (by unfold qa_fu; omega)
    refine ⟨σ', c1, ⟨?_, ?_, fun i hi j hj => ?_, fun i hi => ?_, fun i hi hz j hj => ?_, ?_, fun i hi => ?_⟩, fun p hp => ?_, c3⟩
    · rw [c2 _ (by decide) (by decide)]; exact a1
    · unfold qu_k
      rw [c4, if_pos (by omega)]
    · rw [c5]
      unfold qu_k at hi
      rw [if_pos (by omega)] at hi
      unfold qu_U
      rw [if_pos (show k < 6 by omega)]
      by_cases e : i = k
      · subst e
        rw [if_pos (by omega), if_pos rfl, show 176 * i + j - 176 * i = j by omega]
      · rw [if_neg (by omega), if_neg e]
        exact a3 i (by omega) j hj
    · rw [c2 _ (by decide) (by decide)]; exact a4 i hi
    · rw [c2 _ (by decide) (by decide)]; exact a5 i hi hz j hj
    · rw [c3 _ (by omega)]; exact a6
    · rw [c2 _ (by decide) (by decide)]; exact a7 i hi
    · exact c2 p (fun e => hp (by subst e; exact ⟨rfl, by decide, by decide⟩)) (fun e => hp (by subst e; exact ⟨rfl, by decide, by decide⟩))
end QPA
