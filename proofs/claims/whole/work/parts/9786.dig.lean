/-! the digest (3): the class; case 62 of the law -/
section QMQ
variable {σ σ1 σ' τ ρ ρ0 ρ' : qa_T} {s t : qs} {X : Nat → Int32} {N k f n L L2 : Nat} {U V : Nat → qs} {Z : Nat → Bool} {B : Nat → Int32} {k23 : Int32 → qa_T → Option (Bool × qa_T)} {x : Int32} {v w b a1 : Int64}
def qF (σ0 : qa_T) (s : qs) (k f : Nat) (U : Nat → qs) (Z : Nat → Bool) (V : Nat → qs) (L : Nat) (B : Nat → Int32) (v : Int64) (F : Option (Int64 × qa_T)) : Prop := ∃ σ', F = some (v, σ') ∧ qj_C σ' s k f U Z V L B ∧ qe_cc σ0 σ'
theorem cD_174 (hC : qj_C σ s k f U Z V L2 B) (hL : L2 ≤ 60) : ∀ (j i m : Nat) (v : Int64), i + j = L2 → j < m → qa_fX9_digest_174 m v (nI i) σ = some (ha B j i v, σ) := by
  intro j
  induction j with
  | zero =>
    intro i m v hi hm
    obtain ⟨m, rfl⟩ : ∃ i, m = i + 1 := ⟨m - 1, by omega⟩
    rw [qa_fX9_digest_174, hC.2.2.2.2.2.2.1, if_pos (nI_le (by omega) (by omega))]
    rfl
  | succ j ih =>
    intro i m v hi hm
    obtain ⟨m, rfl⟩ : ∃ i, m = i + 1 := ⟨m - 1, by omega⟩
    rw [qa_fX9_digest_174, hC.2.2.2.2.2.2.1, if_neg (nI_ge (by omega) (by omega)), at_B (jc_tC hC) hL (by omega), qk_a1, nI_1]
    exact ih (i + 1) m _ (by omega) (by omega)
theorem cD_hs (hC : qj_C σ s k f U Z V L2 B) {i : Nat} (hi : i < 2) : qa_fX9_hasSnapshot (nI i) σ = Z i := by
  unfold qa_fX9_hasSnapshot qa_fX9_hasSnapshot_26
  rw [if_neg (nI_pos (by omega)), if_neg (show ¬ Int32.ofNat 2 ≤ nI i from nI_ge hi (by omega)), nI_clamp (by omega), hC.2.2.2.2.1 _ hi]
  cases Z i
  · rw [if_pos (show qa_bi false = 0 from rfl)]
  · rw [if_neg (show ¬ qa_bi true = 0 by decide)]
theorem cD_127 (hC : qj_C σ s k f U Z V L2 B) (hL : L2 ≤ 60) : qa_fX9_digest_127 qa_fu v (Int32.ofInt 0) σ = some (ha B L2 0 (hx (hx (hx v (bL (Z 0))) (bL (Z 1))) (nI L2).toInt64), σ) := by
  have st : ∀ (m i : Nat) (u : Int64), i < 2 → qa_fX9_digest_127 (m + 1) u (nI i) σ = qa_fX9_digest_127 m (hx u (bL (Z i))) (nI (i + 1)) σ := by
    intro m i u hi
    rw [qa_fX9_digest_127, if_neg (show ¬ Int32.ofInt 2 ≤ nI i from (nI_ge hi (by omega) : ¬ nI 2 ≤ nI i)), cD_hs hC hi]
    unfold qa_fX9_digest_148 bL
    cases Z i
    · rw [if_pos (show qa_bi false = 0 from rfl), if_pos (show qa_bi false = 0 from rfl), qk_a1, nI_1]; rfl
    · rw [if_neg (show ¬ qa_bi true = 0 by decide), if_neg (show ¬ qa_bi true = 0 by decide), qk_a1, nI_1]; rfl
  obtain ⟨m, hm⟩ := fu_3
  rw [hm, show Int32.ofInt 0 = nI 0 from rfl, st _ 0 _ (by omega), st _ 1 _ (by omega), qa_fX9_digest_127, if_pos (by decide), hC.2.2.2.2.2.2.1]
  exact cD_174 hC hL L2 0 qa_fu _ (by omega) (by unfold qa_fu; omega)
theorem cD_acc (hC : qj_C σ s k f U Z V L2 B) (hI : qi_I N s) (hN : 2 * N < 2147483647) (hb : ∀ τ : qa_T, qa_fX9_bitsOfShare (qd_w (s 169) (s 170)) τ = some b) : qa_fX9_mixAccounts v σ = some (hx (hx (ha s 7 168 v) (nI k).toInt64) b) := by
  unfold qa_fX9_mixAccounts
  rw [sh_c hC hI hN, Option.bind_some, hb, Option.bind_some, ra_168 hC.1.1, ra_169 hC.1.1, ra_170 hC.1.1, ra_171 hC.1.1, ra_172 hC.1.1, ra_173 hC.1.1, ra_174 hC.1.1, hC.2.1]
  rfl
theorem cD_114 (hC : qj_C σ s k f U Z V L2 B) (hL : L2 ≤ 60) (hI : qi_I N s) (hN : 2 * N < 2147483647) (hb : ∀ τ : qa_T, qa_fX9_bitsOfShare (qd_w (s 169) (s 170)) τ = some b) : qa_fX9_digest_114 w v σ = some (h5 k b Z L2 B (ha s 7 168 (hx v w)), σ) := by
  unfold qa_fX9_digest_114
  dsimp only
  rw [cD_acc hC hI hN hb, Option.bind_some, cD_127 hC hL]
  rfl
theorem cD_pr (hC : qj_C σ s k f U Z V L2 B) (hp : qi_pr s) : ∀ (j i m : Nat) (v : Int64), i + j = qn (s 113) → j < m → qa_fX9_mixProgramme_19 a1 m v (nI i) σ = some (hx (hx (hx (hx (hx (hx (ha (fun i => s (114 + i)) j i v) (s 138 + 1).toInt64) (s 139 + 1).toInt64) (s 140 + 1).toInt64) (s 141).toInt64) (s 142 + 1).toInt64) (s 143).toInt64) := by
  have hp2 := qi_p hp
  have e : σ.1 (1, 9) 0 = nI (qn (s 113)) := by rw [ra_113 hC.1.1]; exact hp2.1
  intro j
  induction j with
  | zero =>
    intro i m v hi hm
    obtain ⟨m, rfl⟩ : ∃ i, m = i + 1 := ⟨m - 1, by omega⟩
    rw [qa_fX9_mixProgramme_19, e, if_pos (nI_le (by omega) (by omega)), ra_138 hC.1.1, ra_139 hC.1.1, ra_140 hC.1.1, ra_141 hC.1.1, ra_142 hC.1.1, ra_143 hC.1.1]
    rfl
  | succ j ih =>
    intro i m v hi hm
    obtain ⟨m, rfl⟩ : ∃ i, m = i + 1 := ⟨m - 1, by omega⟩
    rw [qa_fX9_mixProgramme_19, e, if_neg (nI_ge (by omega) (by omega)), at_in (by omega) (by omega), ra_p hC.1.1 (by omega) (by omega), qk_a1, nI_1]
    exact ih (i + 1) m _ (by omega) (by omega)
theorem cD_lo (hC : qj_C σ s k f U Z V L2 B) (hs : qi_sl s) (hq : qi_qu s) : ∀ (j i m : Nat) (v : Int64), i + j = qn (s 146) → j < m → qa_fX9_mixLoading_53 a1 m v (nI i) σ = some (h2 s (ha (fun i => s (147 + i)) j i v)) := by
  have hq2 := qi_q hq
  have e : σ.1 (1, 12) 2 = nI (qn (s 146)) := by rw [ra_146 hC.1.1]; exact hq2.1
  intro j
  induction j with
  | zero =>
    intro i m v hi hm
    obtain ⟨m, rfl⟩ : ∃ i, m = i + 1 := ⟨m - 1, by omega⟩
    rw [qa_fX9_mixLoading_53, e, if_pos (nI_le (by omega) (by omega)), cl_sc hC.1.1 hs, Option.bind_some, hC.1.2, ra_163 hC.1.1, ra_164 hC.1.1, ra_165 hC.1.1, ra_166 hC.1.1, ra_167 hC.1.1]
    rfl
  | succ j ih =>
    intro i m v hi hm
    obtain ⟨m, rfl⟩ : ∃ i, m = i + 1 := ⟨m - 1, by omega⟩
    rw [qa_fX9_mixLoading_53, e, if_neg (nI_ge (by omega) (by omega)), at_in (by omega) (by omega), ra_q hC.1.1 (by omega) (by omega), qk_a1, nI_1]
    exact ih (i + 1) m _ (by omega) (by omega)
theorem cD_20 (hL : L2 ≤ 60) (hP : qi_P N s) (hN : 2 * N + 200 < 2147483647) (hb : ∀ τ : qa_T, qa_fX9_bitsOfShare (qd_w (s 169) (s 170)) τ = some b) : ∀ (j i m : Nat) (v : Int64) (σ : qa_T), i + j = qn (s 0) → j < m → qj_C σ s k f U Z V L2 B → qF σ s k f U Z V L2 B (h5 k b Z L2 B (h3 s (h2 s (h1' s (h0' s (hx (hl s j i v) (s 113).toInt64)))))) (qa_fX9_digest_20 m v (nI i) σ) := by
  have hn := qi_n hP.1.1.1
  intro j
  induction j with
  | zero =>
    intro i m v σ hi hm hC
    obtain ⟨m, rfl⟩ : ∃ i, m = i + 1 := ⟨m - 1, by omega⟩
    have e : σ.1 (1, 1) 0 = nI (qn (s 0)) := by rw [ra_n0 hC.1.1]; exact hn.1
    have e1 : qa_fX9_mixProgramme v σ = some (h0' s (hx v (s 113).toInt64)) := by
      unfold qa_fX9_mixProgramme
      dsimp only
      rw [ra_113 hC.1.1]
      exact cD_pr hC hP.1.1.2.1 (qn (s 113)) 0 qa_fu _ (by omega) (by have := (qi_p hP.1.1.2.1).2; unfold qa_fu; omega)
    have e2 : ∀ u, qa_fX9_mixLoading u σ = some (h2 s (h1' s u)) := fun u => by
      unfold qa_fX9_mixLoading
      dsimp only
      rw [ra_144 hC.1.1, ra_145 hC.1.1, ra_146 hC.1.1]
      exact cD_lo hC hP.1.1.1 hP.1.1.2.2.2.2.1 (qn (s 146)) 0 qa_fu _ (by omega) (by have := (qi_q hP.1.1.2.2.2.2.1).2; unfold qa_fu; omega)
    rw [qa_fX9_digest_20, e, if_pos (nI_le (by omega) (by omega)), e1, Option.bind_some, e2, Option.bind_some, ra_142 hC.1.1, qk_am1]
    unfold qa_fX9_digest_78 qa_fX9_digest_93
    by_cases c : s 142 = -1
    · rw [if_pos c, qk_a0, if_pos rfl]
      dsimp only
      rw [if_pos rfl, cD_114 hC hL hP.1 (by omega) hb]
      refine ⟨σ, ?_, hC, cc_r⟩
      unfold h3 hW
      rw [if_pos c]
      rfl
    · have h4 : ¬ s 144 = -1 := fun t => c (hP.2.1 t).1
      obtain ⟨σ1, g1, g2⟩ := cl_wt hC.1 hP.1 c h4 (by omega)
      have hC1 := jc_2 hC g2
      have hWb := W_b hP.1.1 c h4
      have eW : qr_W s = nI (qr_wn s) := qn_of (by omega)
      rw [if_neg c, qk_a1, if_neg (by decide), g1, Option.bind_some]
      dsimp only
      rw [if_neg (by decide), cl_sw hC1.1.1 hP.1.1 c, cD_114 hC1 hL hP.1 (by omega) hb]
      refine ⟨σ1, ?_, hC1, cc_F g2 (by omega) (by omega)⟩
      unfold h3 hW
      rw [if_neg c, eW]
      rfl
  | succ j ih =>
    intro i m v σ hi hm hC
    obtain ⟨m, rfl⟩ : ∃ i, m = i + 1 := ⟨m - 1, by omega⟩
    have e : σ.1 (1, 1) 0 = nI (qn (s 0)) := by rw [ra_n0 hC.1.1]; exact hn.1
    obtain ⟨σ1, g1, g2, g3⟩ := cl_ds (v := v) hC hP (a := i) (by omega)
    obtain ⟨σ2, p1, p2, p3⟩ := ih (i + 1) m (hs_s s i v) σ1 (by omega) (by omega) g2
    rw [qa_fX9_digest_20, e, if_neg (nI_ge (by omega) (by omega)), g1, Option.bind_some, qk_a1, nI_1]
    exact ⟨σ2, p1, p2, cc_t g3 p3⟩
theorem ca_2668 (h : qJ N X σ) (hN : N + 40000 < 1073741000) : qS N X k23 x (qa_fL_law_2668 L k23 x σ) := by
  obtain ⟨hX, s, k, f, U, Z, V, L2, B, hC, hR, hI⟩ := h
  have hP := hI.1
  obtain ⟨h1, h2, h3, h4, _⟩ := hP.1.1.2.2.2.2.2.2
  obtain ⟨b, hb⟩ := op_bits h1 h3 (by omega)
  obtain ⟨σ1, a1, a2, a3⟩ := cD_20 (L2 := L2) hI.2.2.2.2.2.1 hP (by omega) (fun τ => (hb τ τ).1) (qn (s 0)) 0 qa_fu (hx 4447 (s 0).toInt64) σ (by omega) (by have := (qi_n hP.1.1.1).2; unfold qa_fu; omega) hC
  obtain ⟨ρ', b1, b2, b3⟩ := rD_all (jr_cc hR a3) hI.2.2.2.2.2.1 hP (by omega) (fun τ => (hb τ τ).2)
  unfold qa_fL_law_2668 qa_fX9_digest qa_fL_law_2682
  dsimp only
  rw [ra_n0 hC.1.1]
  rw [show qa_fX9_mix 4447 (s 0).toInt64 σ = hx 4447 (s 0).toInt64 from rfl, show Int32.ofInt 0 = nI 0 from rfl, a1, Option.bind_some]
  dsimp only
  rw [b1, Option.bind_some]
  dsimp only
  rw [lg_r, if_pos rfl]
  exact ⟨ρ', rfl, qJ_r (σ := σ1) (by rw [cc_0 a3, hX]) a2 hI b3 b2⟩
end QMQ
