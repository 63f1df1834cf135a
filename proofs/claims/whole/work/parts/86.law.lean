/-! the law's calls: what is kept between them; the plain questions -/
section QLW
variable {σ σ' τ : qa_T} {s t : qs} {X : Nat → Int32} {N M k f L L2 : Nat} {U V : Nat → qs} {Z : Nat → Bool} {B : Nat → Int32} {k23 : Int32 → qa_T → Option (Bool × qa_T)} {x a v : Int32}
def qJ (N : Nat) (X : Nat → Int32) (σ : qa_T) : Prop := σ.1 (0, 0) = X ∧ ∃ s k f U Z V L B, qj_C σ s k f U Z V L B ∧ qj_R σ s k U Z V L B ∧ qj_I N s k f U Z V L B
def qS (N : Nat) (X : Nat → Int32) (k23 : Int32 → qa_T → Option (Bool × qa_T)) (x : Int32) (F : Option (Bool × qa_T)) : Prop := ∃ σ', F = k23 (x + Int32.ofInt 4) σ' ∧ qJ N X σ'
theorem ji_u (h : qj_I N s k f U Z V L B) (hM : N ≤ M) : qj_I M s k f U Z V L B := ⟨qi_Pu h.1 hM, h.2.1, h.2.2.1, fun i hi => qi_Pu (h.2.2.2.1 i hi) hM, fun i hi hz => qi_Pu (h.2.2.2.2.1 i hi hz) hM, h.2.2.2.2.2⟩
theorem qJ_u (h : qJ N X σ) (hM : N ≤ M) : qJ M X σ := by
  obtain ⟨h1, s, k, f, U, Z, V, L, B, hC, hR, hI⟩ := h
  exact ⟨h1, s, k, f, U, Z, V, L, B, hC, hR, ji_u hI hM⟩
theorem r9 : qe_rr σ (qa_wi σ (10, 21) 9 v) := rr_w ⟨rfl, by decide, by decide⟩
theorem jr_9 (h : qj_R σ s k U Z V L B) : qj_R (qa_wi σ (10, 21) 9 v) s k U Z V L B := jr_w h (Or.inr (Or.inr ⟨rfl, by decide, by decide⟩))
theorem cc_0 (h : qe_cc σ σ') : σ'.1 (0, 0) = σ.1 (0, 0) := h _ (by unfold qc_c; simp)
theorem rr_0 (h : qe_rr σ σ') : σ'.1 (0, 0) = σ.1 (0, 0) := h _ (by unfold qc_r; simp)
/-- the reference alone has changed, not the show -/
theorem qJ_r (h1 : σ.1 (0, 0) = X) (hC : qj_C σ s k f U Z V L B) (hI : qj_I N s k f U Z V L B) (hr : qe_rr σ σ') (hR : qj_R σ' s k U Z V L B) : qJ N X σ' := ⟨by rw [rr_0 hr, h1], s, k, f, U, Z, V, L, B, jc_rr hC hr, hR, hI⟩
theorem rf_ru {p : Nat} (hR : qj_R σ s k U Z V L B) (ha : a = nI p) (hp : p < 176) : qa_fX10_rule a σ = some (s p, qa_wi σ (10, 21) 9 0) := by
  subst ha
  unfold qa_fX10_rule
  dsimp only
  rw [qz_ifn (by omega) (by omega), nI_clamp (by omega), wi_np (by decide), hR.1]
  rfl
theorem bi_t {b : Bool} : (qa_bi b = 0) = (b = false) := by cases b <;> simp [qa_bi]
theorem ca_1242 (h : qJ N X σ) : qS N X k23 x (qa_fL_law_1242 L k23 x σ) := by
  obtain ⟨hX, s, k, f, U, Z, V, L2, B, hC, hR, hI⟩ := h
  unfold qa_fL_law_1242 qa_fX10_slides qa_fL_law_2682 qa_fX9_slides
  rw [rf_ru (a := Int32.ofInt 0) (p := 0) hR rfl (by omega), Option.bind_some, Option.bind_some]
  dsimp only
  rw [ra_n0 hC.1.1, if_pos rfl]
  exact ⟨_, rfl, qJ_r hX hC hI r9 (jr_9 hR)⟩
theorem ca_1773 (h : qJ N X σ) : qS N X k23 x (qa_fL_law_1773 L k23 x σ) := by
  obtain ⟨hX, s, k, f, U, Z, V, L2, B, hC, hR, hI⟩ := h
  unfold qa_fL_law_1773 qa_fX10_places qa_fL_law_2682 qa_fX9_places
  rw [rf_ru (a := (Int8.ofInt 113).toInt32) (p := 113) hR rfl (by omega), Option.bind_some, Option.bind_some]
  dsimp only
  rw [ra_113 hC.1.1, if_pos rfl]
  exact ⟨_, rfl, qJ_r hX hC hI r9 (jr_9 hR)⟩
theorem ca_1974 (h : qJ N X σ) : qS N X k23 x (qa_fL_law_1974 L k23 x σ) := by
  obtain ⟨hX, s, k, f, U, Z, V, L2, B, hC, hR, hI⟩ := h
  unfold qa_fL_law_1974 qa_fX10_fadeLeft qa_fL_law_2682 qa_fX9_fadeLeft
  rw [rf_ru (a := (Int16.ofInt 141).toInt32) (p := 141) hR rfl (by omega), Option.bind_some, Option.bind_some]
  dsimp only
  rw [ra_141 hC.1.1, if_pos rfl]
  exact ⟨_, rfl, qJ_r hX hC hI r9 (jr_9 hR)⟩
theorem ca_2119 (h : qJ N X σ) : qS N X k23 x (qa_fL_law_2119 L k23 x σ) := by
  obtain ⟨hX, s, k, f, U, Z, V, L2, B, hC, hR, hI⟩ := h
  unfold qa_fL_law_2119 qa_fX10_loadLeft qa_fL_law_2682 qa_fX9_loadLeft
  rw [rf_ru (a := (Int16.ofInt 145).toInt32) (p := 145) hR rfl (by omega), Option.bind_some, Option.bind_some]
  dsimp only
  rw [ra_145 hC.1.1, if_pos rfl]
  exact ⟨_, rfl, qJ_r hX hC hI r9 (jr_9 hR)⟩
theorem ca_2132 (h : qJ N X σ) : qS N X k23 x (qa_fL_law_2132 L k23 x σ) := by
  obtain ⟨hX, s, k, f, U, Z, V, L2, B, hC, hR, hI⟩ := h
  unfold qa_fL_law_2132 qa_fX10_asked qa_fL_law_2682 qa_fX9_asked
  rw [rf_ru (a := (Int16.ofInt 146).toInt32) (p := 146) hR rfl (by omega), Option.bind_some, Option.bind_some]
  dsimp only
  rw [ra_146 hC.1.1, if_pos rfl]
  exact ⟨_, rfl, qJ_r hX hC hI r9 (jr_9 hR)⟩
theorem ca_2227 (h : qJ N X σ) : qS N X k23 x (qa_fL_law_2227 L k23 x σ) := by
  obtain ⟨hX, s, k, f, U, Z, V, L2, B, hC, hR, hI⟩ := h
  unfold qa_fL_law_2227 qa_fX10_memory qa_fL_law_2682 qa_fX9_memory
  rw [rf_ru (a := (Int16.ofInt 163).toInt32) (p := 163) hR rfl (by omega), Option.bind_some, Option.bind_some]
  dsimp only
  rw [ra_163 hC.1.1, if_pos rfl]
  exact ⟨_, rfl, qJ_r hX hC hI r9 (jr_9 hR)⟩
theorem ca_2240 (h : qJ N X σ) : qS N X k23 x (qa_fL_law_2240 L k23 x σ) := by
  obtain ⟨hX, s, k, f, U, Z, V, L2, B, hC, hR, hI⟩ := h
  unfold qa_fL_law_2240 qa_fX10_ahead qa_fL_law_2682 qa_fX9_ahead
  rw [rf_ru (a := (Int16.ofInt 164).toInt32) (p := 164) hR rfl (by omega), Option.bind_some, Option.bind_some]
  dsimp only
  rw [ra_164 hC.1.1, if_pos rfl]
  exact ⟨_, rfl, qJ_r hX hC hI r9 (jr_9 hR)⟩
theorem ca_2253 (h : qJ N X σ) : qS N X k23 x (qa_fL_law_2253 L k23 x σ) := by
  obtain ⟨hX, s, k, f, U, Z, V, L2, B, hC, hR, hI⟩ := h
  unfold qa_fL_law_2253 qa_fX10_order qa_fL_law_2682 qa_fX9_order
  rw [rf_ru (a := (Int16.ofInt 165).toInt32) (p := 165) hR rfl (by omega), Option.bind_some, Option.bind_some]
  dsimp only
  rw [ra_165 hC.1.1, if_pos rfl]
  exact ⟨_, rfl, qJ_r hX hC hI r9 (jr_9 hR)⟩
theorem ca_2266 (h : qJ N X σ) : qS N X k23 x (qa_fL_law_2266 L k23 x σ) := by
  obtain ⟨hX, s, k, f, U, Z, V, L2, B, hC, hR, hI⟩ := h
  unfold qa_fL_law_2266 qa_fX10_glow qa_fL_law_2682 qa_fX9_glow
  rw [rf_ru (a := (Int16.ofInt 166).toInt32) (p := 166) hR rfl (by omega), Option.bind_some, Option.bind_some]
  dsimp only
  rw [ra_166 hC.1.1, if_pos rfl]
  exact ⟨_, rfl, qJ_r hX hC hI r9 (jr_9 hR)⟩
theorem ca_2279 (h : qJ N X σ) : qS N X k23 x (qa_fL_law_2279 L k23 x σ) := by
  obtain ⟨hX, s, k, f, U, Z, V, L2, B, hC, hR, hI⟩ := h
  unfold qa_fL_law_2279 qa_fX10_pace qa_fL_law_2682 qa_fX9_pace
  rw [rf_ru (a := (Int16.ofInt 167).toInt32) (p := 167) hR rfl (by omega), Option.bind_some, Option.bind_some]
  dsimp only
  rw [ra_167 hC.1.1, if_pos rfl]
  exact ⟨_, rfl, qJ_r hX hC hI r9 (jr_9 hR)⟩
theorem ca_2536 (h : qJ N X σ) : qS N X k23 x (qa_fL_law_2536 L k23 x σ) := by
  obtain ⟨hX, s, k, f, U, Z, V, L2, B, hC, hR, hI⟩ := h
  unfold qa_fL_law_2536 qa_fX10_time qa_fL_law_2682 qa_fX9_time
  rw [rf_ru (a := (Int16.ofInt 168).toInt32) (p := 168) hR rfl (by omega), Option.bind_some, Option.bind_some]
  dsimp only
  rw [ra_168 hC.1.1, if_pos rfl]
  exact ⟨_, rfl, qJ_r hX hC hI r9 (jr_9 hR)⟩
theorem ca_2549 (h : qJ N X σ) : qS N X k23 x (qa_fL_law_2549 L k23 x σ) := by
  obtain ⟨hX, s, k, f, U, Z, V, L2, B, hC, hR, hI⟩ := h
  unfold qa_fL_law_2549 qa_fX10_hits qa_fL_law_2682 qa_fX9_hits
  rw [rf_ru (a := (Int16.ofInt 169).toInt32) (p := 169) hR rfl (by omega), Option.bind_some, Option.bind_some]
  dsimp only
  rw [ra_169 hC.1.1, if_pos rfl]
  exact ⟨_, rfl, qJ_r hX hC hI r9 (jr_9 hR)⟩
theorem ca_2562 (h : qJ N X σ) : qS N X k23 x (qa_fL_law_2562 L k23 x σ) := by
  obtain ⟨hX, s, k, f, U, Z, V, L2, B, hC, hR, hI⟩ := h
  unfold qa_fL_law_2562 qa_fX10_misses qa_fL_law_2682 qa_fX9_misses
  rw [rf_ru (a := (Int16.ofInt 170).toInt32) (p := 170) hR rfl (by omega), Option.bind_some, Option.bind_some]
  dsimp only
  rw [ra_170 hC.1.1, if_pos rfl]
  exact ⟨_, rfl, qJ_r hX hC hI r9 (jr_9 hR)⟩
theorem ca_2575 (h : qJ N X σ) : qS N X k23 x (qa_fL_law_2575 L k23 x σ) := by
  obtain ⟨hX, s, k, f, U, Z, V, L2, B, hC, hR, hI⟩ := h
  unfold qa_fL_law_2575 qa_fX10_loads qa_fL_law_2682 qa_fX9_loads
  rw [rf_ru (a := (Int16.ofInt 171).toInt32) (p := 171) hR rfl (by omega), Option.bind_some, Option.bind_some]
  dsimp only
  rw [ra_171 hC.1.1, if_pos rfl]
  exact ⟨_, rfl, qJ_r hX hC hI r9 (jr_9 hR)⟩
theorem ca_2588 (h : qJ N X σ) : qS N X k23 x (qa_fL_law_2588 L k23 x σ) := by
  obtain ⟨hX, s, k, f, U, Z, V, L2, B, hC, hR, hI⟩ := h
  unfold qa_fL_law_2588 qa_fX10_warmLoads qa_fL_law_2682 qa_fX9_warmLoads
  rw [rf_ru (a := (Int16.ofInt 172).toInt32) (p := 172) hR rfl (by omega), Option.bind_some, Option.bind_some]
  dsimp only
  rw [ra_172 hC.1.1, if_pos rfl]
  exact ⟨_, rfl, qJ_r hX hC hI r9 (jr_9 hR)⟩
theorem ca_2601 (h : qJ N X σ) : qS N X k23 x (qa_fL_law_2601 L k23 x σ) := by
  obtain ⟨hX, s, k, f, U, Z, V, L2, B, hC, hR, hI⟩ := h
  unfold qa_fL_law_2601 qa_fX10_burnings qa_fL_law_2682 qa_fX9_burnings
  rw [rf_ru (a := (Int16.ofInt 173).toInt32) (p := 173) hR rfl (by omega), Option.bind_some, Option.bind_some]
  dsimp only
  rw [ra_173 hC.1.1, if_pos rfl]
  exact ⟨_, rfl, qJ_r hX hC hI r9 (jr_9 hR)⟩
theorem ca_2614 (h : qJ N X σ) : qS N X k23 x (qa_fL_law_2614 L k23 x σ) := by
  obtain ⟨hX, s, k, f, U, Z, V, L2, B, hC, hR, hI⟩ := h
  unfold qa_fL_law_2614 qa_fX10_waited qa_fL_law_2682 qa_fX9_waited
  rw [rf_ru (a := (Int16.ofInt 174).toInt32) (p := 174) hR rfl (by omega), Option.bind_some, Option.bind_some]
  dsimp only
  rw [ra_174 hC.1.1, if_pos rfl]
  exact ⟨_, rfl, qJ_r hX hC hI r9 (jr_9 hR)⟩
theorem ca_1229 (h : qJ N X σ) : qS N X k23 x (qa_fL_law_1229 L k23 x σ) := by
  obtain ⟨hX, s, k, f, U, Z, V, L2, B, hC, hR, hI⟩ := h
  unfold qa_fL_law_1229 qa_fX10_savedStates qa_fL_law_2682 qa_fX9_savedStates
  dsimp only
  rw [hC.2.1, wi_ni (by decide), hR.2.1, if_pos rfl]
  exact ⟨_, rfl, qJ_r hX hC hI r9 (jr_9 hR)⟩
theorem rf_tkq (hR : qj_R σ s k U Z V L B) (hI : qj_I N s k f U Z V L B) : qa_fX10_taken σ = some (qr_ta s) := by
  rw [jr_self hR]
  exact rf_tk (qi_n hI.1.1.1.1).2 (qi_n hI.1.1.1.1).1
theorem ca_2201 (h : qJ N X σ) : qS N X k23 x (qa_fL_law_2201 L k23 x σ) := by
  obtain ⟨hX, s, k, f, U, Z, V, L2, B, hC, hR, hI⟩ := h
  unfold qa_fL_law_2201 qa_fX9_takenBySlides qa_fX10_takenBySlides qa_fL_law_2682
  dsimp only
  rw [cl_sc hC.1.1 hI.1.1.1.1, Option.bind_some, Option.bind_some, qk_a0, rf_tkq (jr_9 hR) hI, Option.bind_some, Option.bind_some]
  dsimp only
  rw [if_pos rfl]
  exact ⟨_, rfl, qJ_r hX hC hI r9 (jr_9 hR)⟩
theorem ca_2214 (h : qJ N X σ) : qS N X k23 x (qa_fL_law_2214 L k23 x σ) := by
  obtain ⟨hX, s, k, f, U, Z, V, L2, B, hC, hR, hI⟩ := h
  unfold qa_fL_law_2214 qa_fX9_takenByAccount qa_fX10_takenByAccount qa_fL_law_2682
  dsimp only
  rw [qk_a0, rf_tkq (jr_9 hR) hI, Option.bind_some, Option.bind_some]
  dsimp only
  rw [hC.1.2, if_pos rfl]
  exact ⟨_, rfl, qJ_r hX hC hI r9 (jr_9 hR)⟩
theorem ca_1063 (h : qJ N X σ) : qS N X k23 x (qa_fL_law_1063 L k23 x σ) := by
  obtain ⟨hX, s, k, f, U, Z, V, L2, B, hC, hR, hI⟩ := h
  unfold qa_fL_law_1063 qa_fX9_clearBuffer qa_fX10_clearBuffer qa_fL_law_2682
  dsimp only
  have hC2 := jc_l0 hC
  have hR2 : qj_R (qa_wi σ (10, 19) 0 0) s k U Z V L2 B := jr_cc hR cc_19
  rw [qk_a0, wi_ni (by decide), wi_np (by decide), hC.2.2.2.2.2.2.1, hR.2.2.2.2.2.1, if_pos rfl]
  refine ⟨_, rfl, ?_, s, k, f, U, Z, V, 0, B, jc_rr hC2 (rr_t r9 (rr_w ⟨rfl, by decide, by decide⟩)), jr_l0 (jr_9 hR2), hI.1, hI.2.1, hI.2.2.1, hI.2.2.2.1, hI.2.2.2.2.1, by omega, fun i hi => by omega⟩
  rw [wi_np (by decide), wi_np (by decide), wi_np (by decide), hX]
theorem ca_1076 (h : qJ N X σ) : qS N X k23 x (qa_fL_law_1076 L k23 x σ) := by
  obtain ⟨hX, s, k, f, U, Z, V, L2, B, hC, hR, hI⟩ := h
  unfold qa_fL_law_1076 qa_fL_law_2682
  obtain ⟨σ1, a1, a2, a3⟩ := cl_fe hC hI.2.2.2.2.2.1
  obtain ⟨σ2, b1, b2, b3, b4⟩ := rf_fe (jr_cc hR a3) hI.2.2.2.2.2.1
  rw [a1, Option.bind_some]
  dsimp only
  rw [b1, Option.bind_some]
  dsimp only
  rw [if_pos rfl]
  exact ⟨σ2, rfl, qJ_r (by rw [cc_0 a3, hX]) a2 hI b3 b2⟩
end QLW
