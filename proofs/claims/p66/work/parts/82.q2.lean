/-! the class's questions that try on a copy, or line up, over what holds between calls (p66) -/
section QKC
variable {σ σ1 σ2 σ' : qa_T} {s t : qs} {N M k f L2 : Nat} {U V : Nat → qs} {Z : Nat → Bool} {B : Nat → Int32} {X : Nat → Int32} {a x v : Int32}
theorem kG (h : qK N X s σ) (hG : qe_G 1 σ σ') : qK N X s σ' := by
  obtain ⟨hX, ⟨k, f, U, Z, V, L, B, hC, hk, hf⟩, hP, hv⟩ := h
  have hF := qe_GF hG
  exact ⟨by rw [cc_0 (cc_F hF (by omega) (by omega)), hX], ⟨k, f, U, Z, V, L, B, jc_1 hC hF (rr_G hC.1 hG), hk, hf⟩, hP, hv⟩
theorem kT (h : qK N X s σ) (hF : qe_F 2 σ σ') : qK N X s σ' := by
  obtain ⟨hX, ⟨k, f, U, Z, V, L, B, hC, hk, hf⟩, hP, hv⟩ := h
  exact ⟨by rw [cc_0 (cc_F hF (by omega) (by omega)), hX], ⟨k, f, U, Z, V, L, B, jc_2 hC hF, hk, hf⟩, hP, hv⟩
theorem k_nextUse {j : Nat} (h : qK N X s σ) (hj : j < qn (s 0)) (d : qr_nx s j ≤ qn (s 113)) : qa_fX9_nextUse (nI j) σ = some (.inl (nI (qr_nx s j)), σ) := by
  have hp := (qK_i h).2.1
  have hp24 := (qi_p hp).2
  have := n16 h
  have hn1 : 1 ≤ qr_nx s j := nf_1 s j _ 1 (by omega)
  have hpu := cl_pu (R := 1) (qK_A h) hp (show j < 16 by omega)
  rw [if_pos d] at hpu
  unfold qa_fX9_nextUse qa_fX9_nextUse_35
  rw [k_is h hj, if_neg nt, hpu, Option.bind_some, if_neg (nI_nle hn1 (by omega)), qk_a1, if_neg (by decide)]
/-- the place in a line -/
def qv_ix (a : Nat) : List Nat → Nat
  | [] => 0
  | b :: l => if b = a then 0 else qv_ix a l + 1
theorem po_ix {a : Nat} : ∀ (l : List Nat) (i : Nat), a ∈ l → qr_po a l i = nI (i + qv_ix a l) := by
  intro l
  induction l with
  | nil => intro i h; cases h
  | cons b l ih =>
    intro i h
    unfold qr_po qv_ix
    by_cases e : b = a
    · rw [if_pos e, if_pos e]
      rfl
    · rw [if_neg e, if_neg e, ih (i + 1) (by
        rcases List.mem_cons.mp h with x | x
        · exact absurd x.symm e
        · exact x)]
      congr 1
      omega
theorem ix_lt {a : Nat} : ∀ (l : List Nat), a ∈ l → qv_ix a l < l.length := by
  intro l
  induction l with
  | nil => intro h; cases h
  | cons b l ih =>
    intro h
    unfold qv_ix
    rw [List.length_cons]
    by_cases e : b = a
    · rw [if_pos e]
      omega
    · rw [if_neg e]
      have := ih (by
        rcases List.mem_cons.mp h with x | x
        · exact absurd x.symm e
        · exact x)
      omega
theorem ln_len (s : qs) : (qr_ln s).length ≤ qn (s 0) := qr_lf_len s _
theorem ln_mem {j : Nat} : j ∈ qr_ln s ↔ j < qn (s 0) ∧ qr_cb s j = true := (qr_li_ln s).2 j
theorem k_burnPlace {j : Nat} (h : qK N X s σ) (hj : j < qn (s 0)) (d : qr_cb s j = true) : ∃ σ', qa_fX9_burnPlace (nI j) σ = some (.inl (nI (qv_ix j (qr_ln s))), σ') ∧ qK N X s σ' := by
  have := n16 h
  obtain ⟨σ1, a1, a2⟩ := cl_pl (R := 1) (qK_A h) (qK_i h) (show j < 16 by omega)
  have hm := ln_mem.mpr ⟨hj, d⟩
  have hl := ix_lt _ hm
  have hl2 := ln_len s
  rw [po_ix _ _ hm, Nat.zero_add] at a1
  refine ⟨σ1, ?_, kG h a2⟩
  unfold qa_fX9_burnPlace qa_fX9_burnPlace_33
  rw [k_is h hj, if_neg nt, a1, Option.bind_some]
  dsimp only
  have n1 : ¬ nI (qv_ix j (qr_ln s)) = Int32.ofInt (-1) := fun t => by
    have ek := qz_nI (k := qv_ix j (qr_ln s)) (by omega)
    rw [t, show ((Int32.ofInt (-1))).toInt = -1 from rfl] at ek
    omega
  rw [if_neg n1, qk_a1, if_neg (by decide)]
theorem k_burningsFor {j : Nat} (h : qK N X s σ) (hj : j < qn (s 0)) : ∃ σ', qa_fX9_burningsFor (nI j) σ = some (.inl (if qr_ld s j = true ∨ s 144 = nI j then 0 else nI (qr_mr (s (1 + 7 * j)).toInt s).1), σ') ∧ qK N X s σ' := by
  obtain ⟨σ1, a1, a2⟩ := cl_bt (a := j) (qK_R h) (qK_i h) hj
  refine ⟨σ1, ?_, kG h a2⟩
  unfold qa_fX9_burningsFor
  rw [k_is h hj, if_neg nt, a1, Option.bind_some]
theorem k_not_m (h : qK N X s σ) (c : ¬ s 142 = -1) : ¬ s 144 = -1 := fun t => c (h.2.2.1.2.1 t).1
theorem k_byTicks (h : qK N X s σ) (c : ¬ s 142 = -1) (hN : N + 1000 < 2147483647) : ∃ σ', qa_fX9_ticksToShowByTicks σ = some (.inl (nI (qr_wn s)), σ') ∧ qK N X s σ' := by
  obtain ⟨σ1, a1, a2⟩ := cl_wt (qK_R h) h.2.2.1.1 c (k_not_m h c) (by omega)
  refine ⟨σ1, ?_, kT h a2⟩
  unfold qa_fX9_ticksToShowByTicks qa_fX9_ticksToShowByTicks_19
  rw [ra_142 (qK_A h), qk_am1, if_neg c, qk_a1, if_neg (by decide), a1, Option.bind_some]
theorem k_bySums (h : qK N X s σ) (c : ¬ s 142 = -1) : qa_fX9_ticksToShowBySums σ = (.inl (nI (qr_wn s)), σ) := by
  have hW := W_b (qK_i h) c (k_not_m h c)
  have eW : qr_W s = nI (qr_wn s) := qn_of (by omega)
  unfold qa_fX9_ticksToShowBySums qa_fX9_ticksToShowBySums_19
  rw [ra_142 (qK_A h), qk_am1, if_neg c, qk_a1, if_neg (by decide), cl_sw (qK_A h) (qK_i h) c, eW]
theorem k_misses_ (h : qK N X s σ) (c : 0 ≤ x.toInt ∧ x.toInt ≤ 2) (d : qr_cg s = true) (hN : N + 10000 < 2147483647) : ∃ σ', qa_fX9_missesWith x σ = some (.inl (nI (qr_mx s x)), σ') ∧ qK N X s σ' := by
  have e1 : ∀ σ : qa_T, qa_fX9_isWithin x (Int32.ofInt 0) (Int32.ofInt 2) σ = true := fun σ => by rw [iw_x, qk_a0, qk_a2, qk_t0, qk_t2]; exact (bin _ _).mpr c
  obtain ⟨d4, d5⟩ := cg_s (qK_i h).2.1 d
  obtain ⟨σ1, a1, a2⟩ := cl_mi (qK_R h) h.2.2.1.1 c.1 c.2 d5 d4 (by omega)
  refine ⟨σ1, ?_, kT h a2⟩
  unfold qa_fX9_missesWith
  rw [e1, if_neg nt, cl_cg (qK_A h), d, if_neg nt, a1, Option.bind_some]
def qv_bo (s : qs) : Int32 := qr_b2 s (qr_b2 s 0 1) (1 + 1)
theorem k_best (h : qK N X s σ) (d : qr_cg s = true) (hN : N + 10000 < 2147483647) : ∃ σ', qa_fX9_bestOrder σ = some (.inl (qv_bo s), σ') ∧ qK N X s σ' := by
  obtain ⟨hX, ⟨k, f, U, Z, V, L, B, hC, hk, hf⟩, hP, hv⟩ := h
  obtain ⟨d4, d5⟩ := cg_s hP.1.1.2.1 d
  obtain ⟨σ1, a1, a2⟩ := cl_mi (x := 0) hC.1 hP.1 (by decide) (by decide) d5 d4 (by omega)
  have c1 := cc_F a2 (by omega) (by omega)
  obtain ⟨n, hn⟩ := fu_3
  obtain ⟨σ2, g1, g2, g3⟩ := cl_b4 (n := n + 1 + 1) (i := 0) (x := 1) (jc_2 hC a2) hP d (by decide) (by decide) (by omega)
  obtain ⟨σ3, k1, k2, k3⟩ := cl_b4 (n := n + 1) (i := qr_b2 s 0 1) (x := 1 + 1) g2 hP d (by decide) (by decide) (by omega)
  have hcc := cc_t c1 (cc_t g3 k3)
  refine ⟨σ3, ?_, by rw [cc_0 hcc, hX], ⟨_, _, _, _, _, _, _, k2, hk, hf⟩, hP, hv⟩
  unfold qa_fX9_bestOrder
  rw [cl_cg hC.1.1, d, if_neg nt, qk_a0, a1, Option.bind_some, qk_a1, hn, g1, k1, cl_b5]
  rfl
/-- the best order has the fewest misses, and is the lowest -/
theorem bo_s (s : qs) (x : Int32) (hm : ∀ y : Int32, qr_mx s y < 1000) (h : x = 0 ∨ x = 1 ∨ x = 2) : (qv_bo s = 0 ∨ qv_bo s = 1 ∨ qv_bo s = 2) ∧ (qr_mx s (qv_bo s) < qr_mx s x ∨ (qr_mx s x = qr_mx s (qv_bo s) ∧ qv_bo s ≤ x)) := by
  have le : ∀ y z : Int32, nI (qr_mx s y) ≤ nI (qr_mx s z) ↔ qr_mx s y ≤ qr_mx s z := fun y z => nI_leI (by have := hm y; omega) (by have := hm z; omega)
  have b : ∀ y z : Int32, qr_b2 s y z = if qr_mx s y ≤ qr_mx s z then y else z := fun y z => by
    unfold qr_b2
    by_cases c : qr_mx s y ≤ qr_mx s z
    · rw [if_pos ((le y z).mpr c), if_pos c]
    · rw [if_neg (fun t => c ((le y z).mp t)), if_neg c]
  have e : qv_bo s = if qr_mx s (if qr_mx s 0 ≤ qr_mx s 1 then 0 else 1) ≤ qr_mx s 2 then (if qr_mx s 0 ≤ qr_mx s 1 then 0 else 1) else 2 := by
    unfold qv_bo
    rw [b 0 1, b]
    rfl
  rw [e]
  by_cases c1 : qr_mx s 0 ≤ qr_mx s 1
  · simp only [if_pos c1]
    by_cases c2 : qr_mx s 0 ≤ qr_mx s 2
    · simp only [if_pos c2]
      refine ⟨Or.inl trivial, ?_⟩
      rcases h with rfl | rfl | rfl
      · exact Or.inr ⟨rfl, by decide⟩
      · by_cases c3 : qr_mx s 0 = qr_mx s 1
        · exact Or.inr ⟨c3.symm, by decide⟩
        · exact Or.inl (by omega)
      · by_cases c3 : qr_mx s 0 = qr_mx s 2
        · exact Or.inr ⟨c3.symm, by decide⟩
        · exact Or.inl (by omega)
    · simp only [if_neg c2]
      refine ⟨Or.inr (Or.inr trivial), ?_⟩
      rcases h with rfl | rfl | rfl
      · exact Or.inl (by omega)
      · exact Or.inl (by omega)
      · exact Or.inr ⟨rfl, by decide⟩
  · simp only [if_neg c1]
    by_cases c2 : qr_mx s 1 ≤ qr_mx s 2
    · simp only [if_pos c2]
      refine ⟨Or.inr (Or.inl trivial), ?_⟩
      rcases h with rfl | rfl | rfl
      · exact Or.inl (by omega)
      · exact Or.inr ⟨rfl, by decide⟩
      · by_cases c3 : qr_mx s 1 = qr_mx s 2
        · exact Or.inr ⟨c3.symm, by decide⟩
        · exact Or.inl (by omega)
    · simp only [if_neg c2]
      refine ⟨Or.inr (Or.inr trivial), ?_⟩
      rcases h with rfl | rfl | rfl
      · exact Or.inl (by omega)
      · exact Or.inl (by omega)
      · exact Or.inr ⟨rfl, by decide⟩
/-- a round has no more misses than places -/
theorem mi_le : ∀ (k : Nat) (s : qs), (qr_mi k s).1 ≤ k := by
  intro k
  induction k with
  | zero => intro s; exact Nat.le_refl _
  | succ k ih =>
    intro s
    rw [mi_s]
    have h1 := ih (qr_mo s).2
    have h2 : (qr_mo s).1 ≤ 1 := by
      unfold qr_mo
      dsimp only
      cases (qr_go s).1 <;> decide
    dsimp only
    omega
theorem mx_le (s : qs) (x : Int32) : qr_mx s x ≤ qn (s 113) := mi_le _ _
end QKC
