/-! the whole object and the whole reference: undo, keep, go back -/
section QPB
variable {ρ σ σ' τ : qa_T} {s t : qs} {y : Int32} {R S N : Nat} {k f L : Nat} {U V : Nat → qs} {Z : Nat → Bool} {B : Nat → Int32}
/-- the class: a state comes back -/
theorem cl_pop (h : qj_C σ s (k + 1) f U Z V L B) (hk : k < 6) (hf : f < 6) (hs : qi_sl (U k)) : ∃ σ', qa_fX5_popInto 1 σ = some σ' ∧ qj_C σ' (U k) k f U Z V L B ∧ qe_cc σ σ' := by
  obtain ⟨a1, a2, a3, a4, a5, a6, a7, a8⟩ := h
  have hm : (f + k) % 6 < 6 := Nat.mod_lt _ (by omega)
  have g1 : qe_R (3 + (f + k) % 6) (qa_wi σ (2, 18) 1 (nI k)) (U k) := rr_S (a4 k (by omega)) (fun j hj => wi_np (by simp only [Prod.mk.injEq]; omega))
  obtain ⟨τ, b1, b2, b3⟩ := cl_cp (R := 1) g1 hs (by omega)
  have o : ∀ p : qa_P, ¬ p.1 = 1 → ¬ p = (2, 18) → τ.1 p = σ.1 p := fun p hp hp2 => by rw [b3.1 p (Or.inl hp), wi_np hp2]
  have o18 : τ.1 (2, 18) = (qa_wi σ (2, 18) 1 (nI k)).1 (2, 18) := b3.1 _ (Or.inl (by decide))
  refine ⟨τ, ?_, ⟨b2, ?_, ?_, fun i hi => ?_, fun i hi => ?_, fun i hi hz => ?_, ?_, fun i hi => ?_⟩, ?_⟩
  · unfold qa_fX5_popInto qa_fX5_popInto_55
    rw [a2, qk_a1, nI_pred]
    dsimp only
    rw [wi_eq, wi_ni (by omega), a3, nI_add, rm6 (by omega), if_neg (nI_pos (by omega)), if_neg (show ¬ Int32.ofNat 6 ≤ nI _ from nI_ge hm (by omega)), nI_clamp (by omega), b1, Option.bind_some]
  · rw [o18, wi_eq]
  · rw [o18, wi_ni (by omega)]; exact a3
  · exact rr_S (a4 i (by omega)) (fun j hj => o _ (by dsimp only; omega) (by simp only [Prod.mk.injEq]; omega))
  · rw [o _ (by decide) (by decide)]; exact a5 i hi
  · exact rr_S (a6 i hi hz) (fun j hj => o _ (by dsimp only; omega) (by simp only [Prod.mk.injEq]; omega))
  · rw [o _ (by decide) (by decide)]; exact a7
  · rw [o _ (by decide) (by decide)]; exact a8 i hi
  · exact cc_t (fun p hp => wi_np (fun e => hp (Or.inr (Or.inl e)))) (cc_F b3 (by omega) (by omega))
/-- the reference: a row comes back -/
theorem rf_un_l (c : Nat) (hc : c < 6) : ∀ (f j : Nat), σ.1 (10, 21) 2 = nI c → j ≤ 176 → 176 - j < f → qa_fX10_undo_35 f (nI j) (qw σ (qr_cb2 (fun i => σ.1 (10, 23) (176 * c + i)) s j) y) = some (qw σ (qr_cb2 (fun i => σ.1 (10, 23) (176 * c + i)) s 176) y) := by
  intro f
  induction f with
  | zero => intro j _ _ h; omega
  | succ f ih =>
    intro j h2 hj hf
    have e176 : ((Int16.ofInt 176).toInt32) = nI 176 := rfl
    have e21 : ∀ t, (qw σ t y).1 (10, 21) 2 = nI c := fun t => by
      unfold qw
      dsimp only
      rw [if_neg (by decide), if_pos rfl, pk_un (by omega)]
      exact h2
    rw [qa_fX10_undo_35, e176, e21]
    unfold qa_fX10_undo_69
    by_cases e : j = 176
    · subst e
      rw [if_pos (nI_le (Nat.le_refl _) (by omega))]
    · rw [if_neg (nI_ge (by omega) (by omega)), nI_mul, nI_add, qz_ifn (by omega) (by omega), qz_ifn (by omega) (by omega), nI_clamp (by omega), nI_clamp (by omega), qw_wi, qw_o (by decide) (by decide), cb2_u (f := fun i => σ.1 (10, 23) (176 * c + i))]
      dsimp only
      rw [qk_a1, nI_1]
      exact ih (j + 1) h2 (by omega) (by omega)
theorem jr_k {c : Nat} (h : qj_R σ s k U Z V L B) (hc : c ≤ k) : qj_R (qa_wi σ (10, 21) 2 (nI c)) s c U Z V L B := by
  obtain ⟨a1, a2, a3, a4, a5, a6, a7⟩ := h
  unfold qj_R
  rw [wi_np (by decide), wi_eq, wi_np (by decide), wi_np (by decide), wi_np (by decide), wi_ni (by omega), wi_np (by decide)]
  exact ⟨a1, rfl, fun i hi => a3 i (by omega), a4, a5, a6, a7⟩
/-- the reference undoes -/
theorem rf_undo (h : qj_R σ s (k + 1) U Z V L B) (hk : k < 6) (hs0 : ∀ j, 176 ≤ j → s j = 0) (hu0 : ∀ j, 176 ≤ j → U k j = 0) : ∃ σ', qa_fX10_undo σ = some σ' ∧ qj_R σ' (U k) k U Z V L B ∧ qe_rr σ σ' ∧ σ'.1 (10, 21) 9 = 0 := by
  have h1 : qj_R (qa_wi σ (10, 21) 9 0) s (k + 1) U Z V L B := jr_w h (Or.inr (Or.inr ⟨rfl, by omega, by omega⟩))
  have h2 : qj_R (qa_wi (qa_wi σ (10, 21) 9 0) (10, 21) 2 (nI k)) s k U Z V L B := jr_k h1 (by omega)
  have e1 := jr_self h2
  have e2 := rf_un_l (σ := qa_wi (qa_wi σ (10, 21) 9 0) (10, 21) 2 (nI k)) (s := s) (y := (qa_wi (qa_wi σ (10, 21) 9 0) (10, 21) 2 (nI k)).1 (10, 21) 10) k hk qa_fu 0 wi_eq (by omega) (by unfold qa_fu; omega)
  rw [cb2_0, ← e1, cb2_e (t := U k) (fun i hi => by
    rw [wi_np (by decide), wi_np (by decide)]
    exact h.2.2.1 k (by omega) i hi) (fun i hi => by rw [hs0 i hi, hu0 i hi])] at e2
  refine ⟨qw (qa_wi (qa_wi σ (10, 21) 9 0) (10, 21) 2 (nI k)) (U k) ((qa_wi (qa_wi σ (10, 21) 9 0) (10, 21) 2 (nI k)).1 (10, 21) 10), ?_, jr_qw h2, rr_t (rr_t (rr_w ⟨rfl, by decide, by decide⟩) (rr_w ⟨rfl, by decide, by decide⟩)) rr_qw, ?_⟩
  · unfold qa_fX10_undo qa_fX10_undo_13
    rw [h.2.1, if_pos (nI_ne0 (by omega) (by omega)), qk_a0]
    dsimp only
    rw [wi_eq, if_neg (not_not_intro rfl), wi_ni (by omega), h.2.1, qk_a1, nI_pred, ← nI_0]
    exact e2
  · unfold qw
    dsimp only
    rw [if_neg (by decide), if_pos rfl, pk_un (by omega), wi_ni (by omega), wi_eq]
/-- keeping -/
def qv_Z (a : Nat) (Z : Nat → Bool) (i : Nat) : Bool := if i = a then true else Z i
def qv_V (a : Nat) (V : Nat → qs) (s : qs) (i : Nat) : qs := if i = a then s else V i
theorem cl_keep {a : Nat} (ha : a < 2) (h : qj_C σ s k f U Z V L B) (hs : qi_sl s) : ∃ σ', qa_fX9_keep (nI a) σ = some (.inl (), σ') ∧ qj_C σ' s k f U (qv_Z a Z) (qv_V a V s) L B ∧ qe_cc σ σ' := by
  obtain ⟨a1, a2, a3, a4, a5, a6, a7, a8⟩ := h
  have hm : (f + k) % 6 < 6 := Nat.mod_lt _ (by omega)
  obtain ⟨τ, b1, b2, b3⟩ := cl_cp (R := 9 + a) a1 hs (by omega)
  have o : ∀ p : qa_P, (¬ p.1 = 9 + a ∨ 18 ≤ p.2) → ¬ p = (10, 18) → (qa_wi τ (10, 18) a (qa_bi true)).1 p = σ.1 p := fun p hp hp2 => by rw [wi_np hp2, b3.1 p hp]
  refine ⟨qa_wi τ (10, 18) a (qa_bi true), ?_, ⟨?_, ?_, ?_, fun i hi => ?_, fun i hi => ?_, fun i hi hz => ?_, ?_, fun i hi => ?_⟩, ?_⟩
  · unfold qa_fX9_keep qa_fX9_keep_60 qa_fX9_isWithin qa_fX9_isWithin_14
    rw [qk_a0, qk_a1, if_neg (show ¬ nI a < 0 from nI_pos (by omega)), if_neg (show ¬ 1 < nI a from nI_nlt (a := 1) (by omega) (by omega)), if_neg (show ¬ qa_bi true = 0 by decide), if_neg (nI_pos (by omega)), if_neg (show ¬ Int32.ofNat 2 ≤ nI a from nI_ge ha (by omega)), if_neg (show ¬ Int32.ofNat 2 ≤ nI a from nI_ge ha (by omega)), nI_clamp (by omega), b1, Option.bind_some]
  · exact rr_S a1 (fun j hj => o _ (by dsimp only; omega) (by simp only [Prod.mk.injEq]; omega))
  · rw [o _ (Or.inr (by decide)) (by decide)]; exact a2
  · rw [o _ (Or.inr (by decide)) (by decide)]; exact a3
  · exact rr_S (a4 i hi) (fun j hj => o _ (by dsimp only; omega) (by simp only [Prod.mk.injEq]; omega))
  · unfold qv_Z
    by_cases e : i = a
    · rw [e, wi_eq, if_pos rfl]
    · rw [wi_ni e, if_neg e, b3.1 _ (Or.inr (by decide))]
      exact a5 i hi
  · unfold qv_Z at hz
    unfold qv_V
    by_cases e : i = a
    · subst e
      rw [if_pos rfl]
      exact rr_S b2 (fun j hj => wi_np (by simp only [Prod.mk.injEq]; omega))
    · rw [if_neg e] at hz ⊢
      exact rr_S (a6 i hi hz) (fun j hj => o _ (by dsimp only; omega) (by simp only [Prod.mk.injEq]; omega))
  · rw [o _ (Or.inr (by decide)) (by decide)]; exact a7
  · rw [o _ (Or.inr (by decide)) (by decide)]; exact a8 i hi
  · intro p hp
    rw [wi_np (fun e => hp (Or.inr (Or.inr (Or.inl e))))]
    exact cc_F b3 (by omega) (by omega) p hp
theorem rf_kp_l {a : Nat} (ha : a < 2) : ∀ (f j : Nat) (τ : qa_T), (∀ p, ¬ p = (10, 24) → τ.1 p = σ.1 p) → σ.1 (10, 22) = s → σ.1 (10, 21) 9 = 0 → (∀ i, τ.1 (10, 24) i = if 176 * a ≤ i ∧ i < 176 * a + j then s (i - 176 * a) else σ.1 (10, 24) i) → j ≤ 176 → 176 - j < f → ∃ σ', qa_fX10_keep_20 (nI a) f (nI j) τ = some σ' ∧ (∀ p, ¬ p = (10, 24) → ¬ p = (10, 25) → σ'.1 p = σ.1 p) ∧ (∀ i, σ'.1 (10, 25) i = if i = a then 1 else σ.1 (10, 25) i) ∧ (∀ i, σ'.1 (10, 24) i = if 176 * a ≤ i ∧ i < 176 * a + 176 then s (i - 176 * a) else σ.1 (10, 24) i) := by
  intro f
  induction f with
  | zero => intro j _ _ _ _ _ _ h; omega
  | succ f ih =>
    intro j τ h1 h2 h9 h5 hj hf
    have e176 : ((Int16.ofInt 176).toInt32) = nI 176 := rfl
    rw [qa_fX10_keep_20, e176]
    unfold qa_fX10_keep_58 qa_fX10_keep_72
    by_cases e : j = 176
    · subst e
      rw [if_pos (nI_le (Nat.le_refl _) (by omega)), h1 _ (by decide), h9, if_neg (not_not_intro rfl), qz_ifn (by omega) (by omega), nI_clamp (by omega)]
      refine ⟨_, rfl, fun p p1 p2 => by rw [wi_np p2, h1 p p1], fun i => ?_, fun i => by rw [wi_np (by decide)]; exact h5 i⟩
      by_cases c : i = a
      · rw [c, wi_eq, if_pos rfl]; rfl
      · rw [wi_ni c, if_neg c, h1 _ (by decide)]
    · rw [if_neg (nI_ge (by omega) (by omega)), h1 (10, 21) (by decide), h9, if_neg (not_not_intro rfl), nI_mul, nI_add, qz_ifn (by omega) (by omega), qz_ifn (by omega) (by omega), nI_clamp (by omega), nI_clamp (by omega), h1 (10, 22) (by decide), h2]
      dsimp only
      rw [qk_a1, nI_1]
      refine ih (j + 1) _ (fun p hp => by rw [wi_np hp, h1 p hp]) h2 h9 (fun i => ?_) (by omega) (by omega)
      by_cases c1 : i = 176 * a + j
      · subst c1
        rw [wi_eq, if_pos (by omega), show 176 * a + j - 176 * a = j by omega]
      · rw [wi_ni c1, h5 i]
        by_cases c2 : 176 * a ≤ i ∧ i < 176 * a + j
        · rw [if_pos c2, if_pos (by omega)]
        · rw [if_neg c2, if_neg (by omega)]
theorem rf_keep {a : Nat} (ha : a < 2) (h : qj_R σ s k U Z V L B) : ∃ σ', qa_fX10_keep (nI a) σ = some σ' ∧ qj_R σ' s k U (qv_Z a Z) (qv_V a V s) L B ∧ qe_rr σ σ' ∧ σ'.1 (10, 21) 9 = 0 := by
  have h1 : qj_R (qa_wi σ (10, 21) 9 0) s k U Z V L B := jr_w h (Or.inr (Or.inr ⟨rfl, by omega, by omega⟩))
  obtain ⟨a1, a2, a3, a4, a5, a6, a7⟩ := h1
  obtain ⟨σ', b1, b2, b3, b4⟩ := rf_kp_l (σ := qa_wi σ (10, 21) 9 0) (s := s) ha qa_fu 0 _ (fun p hp => rfl) a1 wi_eq (fun i => by rw [if_neg (by omega)]) (by omega) (by unfold qa_fu; omega)
  refine ⟨σ', ?_, ⟨?_, ?_, fun i hi j hj => ?_, fun i hi => ?_, fun i hi hz j hj => ?_, ?_, fun i hi => ?_⟩, fun p hp => ?_, ?_⟩
  · unfold qa_fX10_keep qa_fX10_keep_15 qa_fX10_in qa_fX10_in_14
    rw [qk_a0, qk_a1, if_neg (show ¬ nI a < 0 from nI_pos (by omega)), if_neg (show ¬ 1 < nI a from nI_nlt (a := 1) (by omega) (by omega)), if_neg (show ¬ qa_bi true = 0 by decide)]
    exact b1
  · rw [b2 _ (by decide) (by decide)]; exact a1
  · rw [b2 _ (by decide) (by decide)]; exact a2
  · rw [b2 _ (by decide) (by decide)]; exact a3 i hi j hj
  · rw [b3]
    unfold qv_Z
    by_cases e : i = a
    · rw [if_pos e, if_pos e]; rfl
    · rw [if_neg e, if_neg e]; exact a4 i hi
  · rw [b4]
    unfold qv_Z at hz
    unfold qv_V
    by_cases e : i = a
    · subst e
      rw [if_pos (by omega), if_pos rfl, show 176 * i + j - 176 * i = j by omega]
    · rw [if_neg e] at hz ⊢
      rw [if_neg (by omega)]
      exact a5 i hi hz j hj
  · rw [b2 _ (by decide) (by decide)]; exact a6
  · rw [b2 _ (by decide) (by decide)]; exact a7 i hi
  · rw [b2 p (fun e => hp (by subst e; exact ⟨rfl, by decide, by decide⟩)) (fun e => hp (by subst e; exact ⟨rfl, by decide, by decide⟩)), wi_np (fun e => hp (by subst e; exact ⟨rfl, by decide, by decide⟩))]
  · rw [b2 _ (by decide) (by decide), wi_eq]
/-- going back -/
theorem cl_back {a : Nat} (ha : a < 2) (h : qj_C σ s k f U Z V L B) (hz : Z a = true) (hs : qi_sl (V a)) : ∃ σ', qa_fX1_copyFrom 1 (9 + a) σ = some σ' ∧ qj_C σ' (V a) k f U Z V L B ∧ qe_cc σ σ' := by
  obtain ⟨τ, b1, b2, b3⟩ := cl_cp (R := 1) (h.2.2.2.2.2.1 a ha hz) hs (by omega)
  exact ⟨τ, b1, jc_1 h b3 b2, cc_F b3 (by omega) (by omega)⟩
theorem rf_bk_l {a : Nat} (ha : a < 2) : ∀ (f j : Nat), j ≤ 176 → 176 - j < f → qa_fX10_goBack_44 (nI a) f (nI j) (qw σ (qr_cb2 (fun i => σ.1 (10, 24) (176 * a + i)) s j) y) = some (qw σ (qr_cb2 (fun i => σ.1 (10, 24) (176 * a + i)) s 176) y) := by
  intro f
  induction f with
  | zero => intro j _ h; omega
  | succ f ih =>
    intro j hj hf
    have e176 : ((Int16.ofInt 176).toInt32) = nI 176 := rfl
    rw [qa_fX10_goBack_44, e176]
    unfold qa_fX10_goBack_75
    by_cases e : j = 176
    · subst e
      rw [if_pos (nI_le (Nat.le_refl _) (by omega))]
    · rw [if_neg (nI_ge (by omega) (by omega)), nI_mul, nI_add, qz_ifn (by omega) (by omega), qz_ifn (by omega) (by omega), nI_clamp (by omega), nI_clamp (by omega), qw_wi, qw_o (by decide) (by decide), cb2_u (f := fun i => σ.1 (10, 24) (176 * a + i))]
      dsimp only
      rw [qk_a1, nI_1]
      exact ih (j + 1) (by omega) (by omega)
theorem rf_back {a : Nat} (ha : a < 2) (h : qj_R σ s k U Z V L B) (hz : Z a = true) (hs0 : ∀ j, 176 ≤ j → s j = 0) (hv0 : ∀ j, 176 ≤ j → V a j = 0) : ∃ σ', qa_fX10_goBack_44 (nI a) qa_fu (nI 0) σ = some σ' ∧ qj_R σ' (V a) k U Z V L B ∧ qe_rr σ σ' ∧ (∀ i, ¬ i = 10 → σ'.1 (10, 21) i = σ.1 (10, 21) i) := by
  have e1 := jr_self h
  have e2 := rf_bk_l (σ := σ) (s := s) (y := σ.1 (10, 21) 10) ha qa_fu 0 (by omega) (by unfold qa_fu; omega)
  rw [cb2_0, ← e1, cb2_e (t := V a) (fun i hi => h.2.2.2.2.1 a ha hz i hi) (fun i hi => by rw [hs0 i hi, hv0 i hi])] at e2
  refine ⟨_, e2, jr_qw h, rr_qw, fun i hi => ?_⟩
  unfold qw
  dsimp only
  rw [if_neg (by decide), if_pos rfl, pk_un hi]
end QPB
