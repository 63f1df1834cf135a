/-! the whole object and the whole reference: saved states, slots, the buffer -/
section QPA
variable {ρ σ σ' τ : qa_T} {s t : qs} {y : Int32} {R S N : Nat}
/-- a state between calls -/
def qi_P (N : Nat) (s : qs) : Prop := qi_I N s ∧ qi_st s ∧ ∀ j, 176 ≤ j → s j = 0
def qj_C (τ : qa_T) (s : qs) (k f : Nat) (U : Nat → qs) (Z : Nat → Bool) (V : Nat → qs) (L : Nat) (B : Nat → Int32) : Prop :=
  qe_R 1 τ s ∧ τ.1 (2, 18) 1 = nI k ∧ τ.1 (2, 18) 0 = nI f ∧ (∀ i, i < k → qe_R (3 + (f + i) % 6) τ (U i)) ∧ (∀ i, i < 2 → τ.1 (10, 18) i = qa_bi (Z i)) ∧ (∀ i, i < 2 → Z i = true → qe_R (9 + i) τ (V i)) ∧ τ.1 (10, 19) 0 = nI L ∧ ∀ i, i < L → τ.1 (10, 20) i = B i
def qj_I (N : Nat) (s : qs) (k f : Nat) (U : Nat → qs) (Z : Nat → Bool) (V : Nat → qs) (L : Nat) (B : Nat → Int32) : Prop :=
  qi_P N s ∧ k ≤ 6 ∧ f < 6 ∧ (∀ i, i < k → qi_P N (U i)) ∧ (∀ i, i < 2 → Z i = true → qi_P N (V i)) ∧ L ≤ 60 ∧ ∀ i, i < L → 33 ≤ (B i).toInt ∧ (B i).toInt ≤ 126
variable {k f L : Nat} {U V : Nat → qs} {Z : Nat → Bool} {B : Nat → Int32}
theorem qi_Pu {M : Nat} (h : qi_P M s) (hl : M ≤ N) : qi_P N s := ⟨qq_I h.1 hl, h.2⟩
/-- the class's cells, and the reference's -/
def qc_c (p : qa_P) : Prop := (1 ≤ p.1 ∧ p.1 ≤ 10 ∧ p.2 < 18) ∨ p = (2, 18) ∨ p = (10, 18) ∨ p = (10, 19) ∨ p = (10, 20)
def qc_r (p : qa_P) : Prop := p.1 = 10 ∧ 21 ≤ p.2 ∧ p.2 ≤ 28
theorem qc_no {p : qa_P} (h1 : qc_c p) (h2 : qc_r p) : False := by
  obtain ⟨a, b⟩ := p
  unfold qc_c at h1
  unfold qc_r at h2
  simp only [Prod.mk.injEq] at h1 h2
  omega
/-- nothing but the class's cells has changed; nothing but the reference's -/
def qe_cc (σ σ' : qa_T) : Prop := ∀ p, ¬ qc_c p → σ'.1 p = σ.1 p
def qe_rr (σ σ' : qa_T) : Prop := ∀ p, ¬ qc_r p → σ'.1 p = σ.1 p
theorem cc_t {σ'' : qa_T} (h1 : qe_cc σ σ') (h2 : qe_cc σ' σ'') : qe_cc σ σ'' := fun p hp => (h2 p hp).trans (h1 p hp)
theorem rr_t {σ'' : qa_T} (h1 : qe_rr σ σ') (h2 : qe_rr σ' σ'') : qe_rr σ σ'' := fun p hp => (h2 p hp).trans (h1 p hp)
theorem cc_r : qe_cc σ σ := fun _ _ => rfl
theorem rr_r : qe_rr σ σ := fun _ _ => rfl
theorem cc_F (h : qe_F R σ σ') (hR : 1 ≤ R) (hR2 : R ≤ 10) : qe_cc σ σ' := fun p hp => by
  refine h.1 p ?_
  by_cases c : p.1 = R
  · refine Or.inr ?_
    by_cases c2 : 18 ≤ p.2
    · exact c2
    · exact absurd (Or.inl ⟨by omega, by omega, by omega⟩) hp
  · exact Or.inl c
theorem ra_S (h : qe_A R σ s) (hF : ∀ j, j < 16 → σ'.1 (R, j) = σ.1 (R, j)) : qe_A R σ' s := by
  intro i hi hl
  rw [hF _ (qy_qx hi).2.1]
  exact h i hi hl
theorem rr_S (h : qe_R R σ s) (hF : ∀ j, j < 16 → σ'.1 (R, j) = σ.1 (R, j)) : qe_R R σ' s := ⟨ra_S h.1 hF, by rw [hF _ (by omega)]; exact h.2⟩
theorem jc_rr (h : qj_C σ s k f U Z V L B) (hr : qe_rr σ σ') : qj_C σ' s k f U Z V L B := by
  obtain ⟨a1, a2, a3, a4, a5, a6, a7, a8⟩ := h
  have o : ∀ R j, j < 21 ∨ ¬ R = 10 → σ'.1 (R, j) = σ.1 (R, j) := fun R j hj => hr (R, j) (fun t => by
    unfold qc_r at t
    dsimp only at t
    omega)
  refine ⟨rr_S a1 (fun j hj => o _ _ (by omega)), by rw [o _ _ (by omega)]; exact a2, by rw [o _ _ (by omega)]; exact a3, fun i hi => rr_S (a4 i hi) (fun j hj => o _ _ (by omega)), fun i hi => by rw [o _ _ (by omega)]; exact a5 i hi, fun i hi hz => rr_S (a6 i hi hz) (fun j hj => o _ _ (by omega)), by rw [o _ _ (by omega)]; exact a7, fun i hi => by rw [o _ _ (by omega)]; exact a8 i hi⟩
/-- a step in the first region; in the trial's -/
theorem jc_1 (h : qj_C σ s k f U Z V L B) (hF : qe_F 1 σ σ') (h1 : qe_R 1 σ' t) : qj_C σ' t k f U Z V L B := by
  obtain ⟨a1, a2, a3, a4, a5, a6, a7, a8⟩ := h
  have o : ∀ p : qa_P, ¬ p.1 = 1 → σ'.1 p = σ.1 p := fun p hp => hF.1 p (Or.inl hp)
  exact ⟨h1, by rw [o _ (by decide)]; exact a2, by rw [o _ (by decide)]; exact a3, fun i hi => rr_S (a4 i hi) (fun j hj => o _ (by dsimp only; omega)), fun i hi => by rw [o _ (by decide)]; exact a5 i hi, fun i hi hz => rr_S (a6 i hi hz) (fun j hj => o _ (by dsimp only; omega)), by rw [o _ (by decide)]; exact a7, fun i hi => by rw [o _ (by decide)]; exact a8 i hi⟩
theorem jc_2 (h : qj_C σ s k f U Z V L B) (hF : qe_F 2 σ σ') : qj_C σ' s k f U Z V L B := by
  obtain ⟨a1, a2, a3, a4, a5, a6, a7, a8⟩ := h
  have o : ∀ p : qa_P, ¬ p.1 = 2 → σ'.1 p = σ.1 p := fun p hp => hF.1 p (Or.inl hp)
  have o2 : σ'.1 (2, 18) = σ.1 (2, 18) := hF.1 _ (Or.inr (by decide))
  exact ⟨rr_S a1 (fun j hj => o _ (by dsimp only; omega)), by rw [o2]; exact a2, by rw [o2]; exact a3, fun i hi => rr_S (a4 i hi) (fun j hj => o _ (by dsimp only; omega)), fun i hi => by rw [o _ (by decide)]; exact a5 i hi, fun i hi hz => rr_S (a6 i hi hz) (fun j hj => o _ (by dsimp only; omega)), by rw [o _ (by decide)]; exact a7, fun i hi => by rw [o _ (by decide)]; exact a8 i hi⟩
/-- a state is saved -/
def qu_k (k : Nat) : Nat := if k < 6 then k + 1 else 6
def qu_f (k f : Nat) : Nat := if k < 6 then f else (f + 1) % 6
def qu_U (k : Nat) (U : Nat → qs) (s : qs) (i : Nat) : qs := if k < 6 then (if i = k then s else U i) else (if i < 5 then U (i + 1) else s)
theorem rm6 {a : Nat} (h : a < 100) : nI a - nI a / ((Int8.ofInt 6).toInt32) * ((Int8.ofInt 6).toInt32) = nI (a % 6) := by
  rw [qk_b6, qk_i6]
  have h1 := qz_nI (k := a) (by omega)
  have h2 := qz_nI (k := 6) (by omega)
  rw [qz_eq, qz_mod (by omega) (by omega), h1, h2, qz_nI (by omega)]
  omega
theorem cl_push (h : qj_C σ s k f U Z V L B) (hk : k ≤ 6) (hf : f < 6) (hs : qi_sl s) : ∃ σ', qa_fX5_push 1 σ = some σ' ∧ qj_C σ' s (qu_k k) (qu_f k f) (qu_U k U s) Z V L B ∧ qe_cc σ σ' := by
  obtain ⟨a1, a2, a3, a4, a5, a6, a7, a8⟩ := h
  have hm : (f + k) % 6 < 6 := Nat.mod_lt _ (by omega)
  obtain ⟨τ, b1, b2, b3⟩ := cl_cp (R := 3 + (f + k) % 6) a1 hs (by omega)
  have o : ∀ p : qa_P, ¬ p.1 = 3 + (f + k) % 6 → τ.1 p = σ.1 p := fun p hp => b3.1 p (Or.inl hp)
  have o18 : ∀ i, τ.1 (2, 18) i = σ.1 (2, 18) i := fun i => by rw [o _ (by dsimp only; omega)]
  unfold qa_fX5_push qa_fX5_push_45 qa_fX5_push_80
  rw [a2, a3, nI_add, rm6 (by omega)]
  dsimp only
  rw [if_neg (nI_pos (by omega)), if_neg (show ¬ Int32.ofNat 6 ≤ nI _ from nI_ge hm (by omega)), nI_clamp (by omega), b1, Option.bind_some, o18, o18, a2, a3, qk_b6, qk_i6, qk_a1]
  have keep : ∀ (v : qa_T), (∀ p : qa_P, ¬ p = (2, 18) → v.1 p = τ.1 p) → (∀ i, i < k → ¬ (f + i) % 6 = (f + k) % 6 → qe_R (3 + (f + i) % 6) v (U i)) ∧ (∀ i, i < 2 → v.1 (10, 18) i = qa_bi (Z i)) ∧ (∀ i, i < 2 → Z i = true → qe_R (9 + i) v (V i)) ∧ v.1 (10, 19) 0 = nI L ∧ (∀ i, i < L → v.1 (10, 20) i = B i) ∧ qe_R 1 v s ∧ qe_R (3 + (f + k) % 6) v s ∧ qe_cc σ v := by
    intro v hv
    refine ⟨fun i hi hne => ?_, fun i hi => ?_, fun i hi hz => ?_, ?_, fun i hi => ?_, ?_, ?_, ?_⟩
    · refine rr_S (a4 i hi) (fun j hj => ?_)
      rw [hv _ (by simp only [Prod.mk.injEq]; omega), o _ (by dsimp only; omega)]
    · rw [hv _ (by decide), o _ (by dsimp only; omega)]
      exact a5 i hi
    · refine rr_S (a6 i hi hz) (fun j hj => ?_)
      rw [hv _ (by simp only [Prod.mk.injEq]; omega), o _ (by dsimp only; omega)]
    · rw [hv _ (by decide), o _ (by dsimp only; omega)]
      exact a7
    · rw [hv _ (by decide), o _ (by dsimp only; omega)]
      exact a8 i hi
    · refine rr_S a1 (fun j hj => ?_)
      rw [hv _ (by simp only [Prod.mk.injEq]; omega), o _ (by dsimp only; omega)]
    · refine rr_S b2 (fun j hj => ?_)
      rw [hv _ (by simp only [Prod.mk.injEq]; omega)]
    · intro p hp
      rw [hv p (fun e => hp (Or.inr (Or.inl e)))]
      exact cc_F b3 (by omega) (by omega) p hp
  by_cases c : k < 6
  · rw [if_neg (nI_ge (by omega) (by omega)), nI_1]
    obtain ⟨k1, k2, k3, k4, k5, k6, k7, k8⟩ := keep (qa_wi τ (2, 18) 1 (nI (k + 1))) (fun p hp => wi_np hp)
    refine ⟨_, rfl, ⟨k6, ?_, ?_, fun i hi => ?_, k2, k3, k4, k5⟩, k8⟩
    · unfold qu_k
      rw [wi_eq, if_pos c]
    · unfold qu_f
      rw [wi_ni (by omega), o18, a3, if_pos c]
    · unfold qu_k at hi
      rw [if_pos c] at hi
      unfold qu_f qu_U
      rw [if_pos c, if_pos c]
      by_cases e : i = k
      · subst e
        rw [if_pos rfl]
        exact k7
      · rw [if_neg e]
        exact k1 i (by omega) (by omega)
  · have hk6 : k = 6 := by omega
    subst hk6
    have e1 : nI f + 1 - (nI f + 1) / nI 6 * nI 6 = nI ((f + 1) % 6) := by
      rw [nI_1]
      exact rm6 (by omega)
    rw [if_pos (nI_le (by omega) (by omega)), e1]
    obtain ⟨k1, k2, k3, k4, k5, k6, k7, k8⟩ := keep (qa_wi τ (2, 18) 0 (nI ((f + 1) % 6))) (fun p hp => wi_np hp)
    refine ⟨_, rfl, ⟨k6, ?_, ?_, fun i hi => ?_, k2, k3, k4, k5⟩, k8⟩
    · unfold qu_k
      rw [wi_ni (by omega), o18, a2, if_neg c]
    · unfold qu_f
      rw [wi_eq, if_neg c]
    · unfold qu_k at hi
      rw [if_neg c] at hi
      unfold qu_f qu_U
      rw [if_neg c, if_neg c]
      by_cases e : i < 5
      · rw [if_pos e, show ((f + 1) % 6 + i) % 6 = (f + (i + 1)) % 6 by omega]
        exact k1 (i + 1) (by omega) (by omega)
      · rw [if_neg e, show ((f + 1) % 6 + i) % 6 = (f + 6) % 6 by omega]
        exact k7
theorem ji_push {M : Nat} (h : qj_I N s k f U Z V L B) (ht : qi_P M t) (hM : N ≤ M) : qj_I M t (qu_k k) (qu_f k f) (qu_U k U s) Z V L B := by
  obtain ⟨b1, b2, b3, b4, b5, b6, b7⟩ := h
  refine ⟨ht, ?_, ?_, fun i hi => ?_, fun i hi hz => qi_Pu (b5 i hi hz) hM, b6, b7⟩
  · unfold qu_k; split <;> omega
  · unfold qu_f
    split
    · exact b3
    · exact Nat.mod_lt _ (by omega)
  · unfold qu_k at hi
    unfold qu_U
    by_cases c : k < 6
    · rw [if_pos c] at hi ⊢
      split
      · exact qi_Pu b1 hM
      · exact qi_Pu (b4 i (by omega)) hM
    · rw [if_neg c] at hi ⊢
      split
      · exact qi_Pu (b4 (i + 1) (by omega)) hM
      · exact qi_Pu b1 hM
theorem rr_w {p : qa_P} {i : Nat} {v : Int32} (hp : qc_r p) : qe_rr σ (qa_wi σ p i v) := fun q hq => wi_np (fun e => hq (e ▸ hp))
end QPA
