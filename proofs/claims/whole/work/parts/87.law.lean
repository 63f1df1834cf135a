/-! the law's calls (2): a call that answers or throws -/
section QLX
variable {σ σ1 σ' τ ρ : qa_T} {s t : qs} {X : Nat → Int32} {N M k k' f f' j p L L2 L' : Nat} {U V U' V' : Nat → qs} {Z Z' : Nat → Bool} {B B' : Nat → Int32} {k23 : Int32 → qa_T → Option (Bool × qa_T)} {x a v r code : Int32} {A Rf : qa_T → Option (Int32 × qa_T)}
def qY (N : Nat) (X : Nat → Int32) (σ : qa_T) (A Rf : qa_T → Option (Int32 × qa_T)) : Prop := ∃ code τ r τ', A σ = some (code, τ) ∧ τ.1 (0, 0) = X ∧ Rf τ = some (r, τ') ∧ qa_fX10_thrown τ' = code ∧ (code = 0 → τ'.2 (10, 29) 0 = r.toInt64) ∧ qJ N X τ'
theorem lg_r (x : Int64) : lg_cmp x x = 0 := by
  unfold lg_cmp
  simp
def wl (σ : qa_T) (v : Int64) : qa_T := qa_wl σ (10, 29) ((Int32.ofInt 0)).toNatClampNeg v
theorem wl_v {v : Int64} : (wl σ v).2 (10, 29) 0 = v := by
  unfold wl qa_wl
  simp [vp_updL]
/-- it answers -/
theorem qY_0 (hX : σ.1 (0, 0) = X) (hcc : qe_cc σ σ1) (hC : qj_C σ1 t k' f' U' Z' V' L' B') (hA : A σ = some (0, wl σ1 v.toInt64)) (hR : ∃ ρ', Rf (wl σ1 v.toInt64) = some (v, ρ') ∧ qj_R ρ' t k' U' Z' V' L' B' ∧ qe_rr σ1 ρ' ∧ ρ'.2 = (wl σ1 v.toInt64).2 ∧ ρ'.1 (10, 21) 9 = 0) (hI : qj_I N t k' f' U' Z' V' L' B') : qY N X σ A Rf := by
  obtain ⟨ρ', b1, b2, b3, b4, b5⟩ := hR
  exact ⟨0, wl σ1 v.toInt64, v, ρ', hA, by show σ1.1 (0, 0) = X; rw [cc_0 hcc, hX], b1, b5, fun _ => by rw [b4, wl_v], qJ_r (σ := σ1) (by rw [cc_0 hcc, hX]) hC hI b3 b2⟩
/-- it throws -/
theorem qY_1 (hX : σ.1 (0, 0) = X) (hcc : qe_cc σ σ1) (hC : qj_C σ1 s k f U Z V L2 B) (hA : A σ = some (code, σ1)) (h0 : ¬ code = 0) (hR : ∃ r ρ', Rf σ1 = some (r, ρ') ∧ qj_R ρ' s k U Z V L2 B ∧ qe_rr σ1 ρ' ∧ ρ'.1 (10, 21) 9 = code) (hI : qj_I N s k f U Z V L2 B) : qY N X σ A Rf := by
  obtain ⟨r, ρ', b1, b2, b3, b4⟩ := hR
  exact ⟨code, σ1, r, ρ', hA, by rw [cc_0 hcc, hX], b1, b4, fun t => absurd t h0, qJ_r (σ := σ1) (by rw [cc_0 hcc, hX]) hC hI b3 b2⟩
/-- a slide of that number -/
def qi_is (s : qs) (a : Int32) : Bool := decide (0 ≤ a.toInt) && decide (a.toInt < (s 0).toInt)
theorem is_n (hs : qi_sl s) (h : qi_is s a = true) : a = nI (qn a) ∧ qn a < qn (s 0) ∧ qn a < 16 := by
  unfold qi_is at h
  rw [Bool.and_eq_true, decide_eq_true_eq, decide_eq_true_eq] at h
  have h1 := qn_int h.1
  have h2 := qn_int hs.1
  have h3 := hs.2.1
  exact ⟨qn_of h.1, by omega, by omega⟩
theorem rf_it (hR : qj_R ρ s k U Z V L2 B) (hs : qi_sl s) : qa_fX10_isThere a ρ = (qi_is s a, qa_wi ρ (10, 21) 9 (if qi_is s a = true then 0 else 1)) := by
  unfold qa_fX10_isThere qa_fX10_isThere_22
  have e : ρ.1 (10, 22) ((Int32.ofInt 0)).toNatClampNeg = s 0 := by rw [hR.1]; rfl
  have h1 := hs.1
  have h2 := hs.2.1
  have e1 : (s 0 - 1).toInt = (s 0).toInt - 1 := by rw [qz_sub (by rw [qk_t1]; omega) (by rw [qk_t1]; omega), qk_t1]
  have e2 : (decide (a.toInt ≤ (s 0).toInt - 1)) = decide (a.toInt < (s 0).toInt) := by
    by_cases c : a.toInt < (s 0).toInt
    · rw [decide_eq_true c, decide_eq_true (by omega)]
    · rw [decide_eq_false c, decide_eq_false (by omega)]
  rw [e, in_x, qk_a0, qk_a1, e1, qk_t0, e2]
  dsimp only
  show (if qa_bi (qi_is s a) = 0 then _ else _) = _
  cases hb : qi_is s a
  · rw [if_pos (show qa_bi false = 0 from rfl), wi_eq, if_pos (by decide), if_neg (by decide)]
  · rw [if_neg (show ¬ qa_bi true = 0 by decide), wi_eq, if_neg (by decide), if_pos rfl]
theorem rf_i1 (hR : qj_R ρ s k U Z V L2 B) (hs : qi_sl s) (c : qi_is s a = true) : qa_fX10_isThere a ρ = (true, qa_wi ρ (10, 21) 9 0) := by
  rw [rf_it hR hs, c, if_pos rfl]
theorem rf_i0 (hR : qj_R ρ s k U Z V L2 B) (hs : qi_sl s) (c : qi_is s a = false) : qa_fX10_isThere a ρ = (false, qa_wi ρ (10, 21) 9 1) := by
  rw [rf_it hR hs, c, if_neg (by decide)]
theorem cl_is (h : qj_C σ s k f U Z V L2 B) (hs : qi_sl s) : qa_fX6_has 1 a σ = qi_is s a := cl_has h.1.1 hs a
theorem jw9 (hR : qj_R σ1 s k U Z V L2 B) {w : Int64} : qj_R (wl σ1 w) s k U Z V L2 B := hR
theorem y_costOf (h : qJ N X σ) : qY N X σ (fun σ => qa_fL_costOf a σ) (fun σ => qa_fX10_costOf a σ) := by
  obtain ⟨hX, s, k, f, U, Z, V, L2, B, hC, hR, hI⟩ := h
  have hs := hI.1.1.1.1
  by_cases c : qi_is s a = true
  · obtain ⟨c1, c2, c3⟩ := is_n hs c
    refine qY_0 (v := s (1 + 7 * qn a)) hX cc_r hC ?_ ⟨qa_wi (wl σ (s (1 + 7 * qn a)).toInt64) (10, 21) 9 0, ?_, jr_9 (jw9 hR), r9, rfl, wi_eq⟩ hI
    · unfold qa_fL_costOf qa_fX9_costOf
      rw [cl_is hC hs, c, if_neg (show ¬ qa_bi true = 0 by decide), Option.bind_some]
      dsimp only
      have e : qa_fX9_at (1, 2) 16 a σ = s (1 + 7 * qn a) := by
        rw [c1, at_in c3 (by omega), ra_c hC.1.1 c3, ← c1]
      rw [e]
      rfl
    · unfold qa_fX10_costOf qa_fX10_costOf_18
      have g := jr_self (jr_9 (v := 0) (jw9 (w := (s (1 + 7 * qn a)).toInt64) hR))
      dsimp only
      rw [rf_i1 (jw9 hR) hs c]
      dsimp only
      rw [if_neg (show ¬ qa_bi true = 0 by decide), g, c1, qk_a0, rf_of0 c3, Option.bind_some, ← c1]
  · have cf := Bool.eq_false_iff.mpr c
    refine qY_1 (code := 1) hX cc_r hC ?_ (by decide) ⟨0, qa_wi σ (10, 21) 9 1, ?_, jr_9 hR, r9, wi_eq⟩ hI
    · unfold qa_fL_costOf qa_fX9_costOf
      rw [cl_is hC hs, cf, if_pos (show qa_bi false = 0 from rfl), Option.bind_some]
      rfl
    · unfold qa_fX10_costOf qa_fX10_costOf_18
      dsimp only
      rw [rf_i0 hR hs cf]
      dsimp only
      rw [if_pos (show qa_bi false = 0 from rfl)]
      rfl
theorem y_fadeOf (h : qJ N X σ) : qY N X σ (fun σ => qa_fL_fadeOf a σ) (fun σ => qa_fX10_fadeOf a σ) := by
  obtain ⟨hX, s, k, f, U, Z, V, L2, B, hC, hR, hI⟩ := h
  have hs := hI.1.1.1.1
  by_cases c : qi_is s a = true
  · obtain ⟨c1, c2, c3⟩ := is_n hs c
    refine qY_0 (v := s (1 + 7 * qn a + 2)) hX cc_r hC ?_ ⟨qa_wi (wl σ (s (1 + 7 * qn a + 2)).toInt64) (10, 21) 9 0, ?_, jr_9 (jw9 hR), r9, rfl, wi_eq⟩ hI
    · unfold qa_fL_fadeOf qa_fX9_fadeOf
      rw [cl_is hC hs, c, if_neg (show ¬ qa_bi true = 0 by decide), Option.bind_some]
      dsimp only
      have e : qa_fX9_at (1, 4) 16 a σ = s (1 + 7 * qn a + 2) := by
        rw [c1, at_in c3 (by omega), ra_f hC.1.1 c3, ← c1]
      rw [e]
      rfl
    · unfold qa_fX10_fadeOf qa_fX10_fadeOf_18
      have g := jr_self (jr_9 (v := 0) (jw9 (w := (s (1 + 7 * qn a + 2)).toInt64) hR))
      dsimp only
      rw [rf_i1 (jw9 hR) hs c]
      dsimp only
      rw [if_neg (show ¬ qa_bi true = 0 by decide), g, c1, qk_a2, rf_of2 c3, Option.bind_some, ← c1]
  · have cf := Bool.eq_false_iff.mpr c
    refine qY_1 (code := 1) hX cc_r hC ?_ (by decide) ⟨0, qa_wi σ (10, 21) 9 1, ?_, jr_9 hR, r9, wi_eq⟩ hI
    · unfold qa_fL_fadeOf qa_fX9_fadeOf
      rw [cl_is hC hs, cf, if_pos (show qa_bi false = 0 from rfl), Option.bind_some]
      rfl
    · unfold qa_fX10_fadeOf qa_fX10_fadeOf_18
      dsimp only
      rw [rf_i0 hR hs cf]
      dsimp only
      rw [if_pos (show qa_bi false = 0 from rfl)]
      rfl
theorem y_glowOf (h : qJ N X σ) : qY N X σ (fun σ => qa_fL_glowOf a σ) (fun σ => qa_fX10_glowOf a σ) := by
  obtain ⟨hX, s, k, f, U, Z, V, L2, B, hC, hR, hI⟩ := h
  have hs := hI.1.1.1.1
  by_cases c : qi_is s a = true
  · obtain ⟨c1, c2, c3⟩ := is_n hs c
    refine qY_0 (v := s (1 + 7 * qn a + 4)) hX cc_r hC ?_ ⟨qa_wi (wl σ (s (1 + 7 * qn a + 4)).toInt64) (10, 21) 9 0, ?_, jr_9 (jw9 hR), r9, rfl, wi_eq⟩ hI
    · unfold qa_fL_glowOf qa_fX9_glowOf
      rw [cl_is hC hs, c, if_neg (show ¬ qa_bi true = 0 by decide), Option.bind_some]
      dsimp only
      have e : qa_fX9_at (1, 6) 16 a σ = s (1 + 7 * qn a + 4) := by
        rw [c1, at_in c3 (by omega), ra_e hC.1.1 c3, ← c1]
      rw [e]
      rfl
    · unfold qa_fX10_glowOf qa_fX10_glowOf_18
      have g := jr_self (jr_9 (v := 0) (jw9 (w := (s (1 + 7 * qn a + 4)).toInt64) hR))
      dsimp only
      rw [rf_i1 (jw9 hR) hs c]
      dsimp only
      rw [if_neg (show ¬ qa_bi true = 0 by decide), g, c1, qk_a4, rf_of4 c3, Option.bind_some, ← c1]
  · have cf := Bool.eq_false_iff.mpr c
    refine qY_1 (code := 1) hX cc_r hC ?_ (by decide) ⟨0, qa_wi σ (10, 21) 9 1, ?_, jr_9 hR, r9, wi_eq⟩ hI
    · unfold qa_fL_glowOf qa_fX9_glowOf
      rw [cl_is hC hs, cf, if_pos (show qa_bi false = 0 from rfl), Option.bind_some]
      rfl
    · unfold qa_fX10_glowOf qa_fX10_glowOf_18
      dsimp only
      rw [rf_i0 hR hs cf]
      dsimp only
      rw [if_pos (show qa_bi false = 0 from rfl)]
      rfl
theorem y_burntTimes (h : qJ N X σ) : qY N X σ (fun σ => qa_fL_burntTimes a σ) (fun σ => qa_fX10_burntTimes a σ) := by
  obtain ⟨hX, s, k, f, U, Z, V, L2, B, hC, hR, hI⟩ := h
  have hs := hI.1.1.1.1
  by_cases c : qi_is s a = true
  · obtain ⟨c1, c2, c3⟩ := is_n hs c
    refine qY_0 (v := s (1 + 7 * qn a + 5)) hX cc_r hC ?_ ⟨qa_wi (wl σ (s (1 + 7 * qn a + 5)).toInt64) (10, 21) 9 0, ?_, jr_9 (jw9 hR), r9, rfl, wi_eq⟩ hI
    · unfold qa_fL_burntTimes qa_fX9_burntTimes
      rw [cl_is hC hs, c, if_neg (show ¬ qa_bi true = 0 by decide), Option.bind_some]
      dsimp only
      have e : qa_fX9_at (1, 7) 16 a σ = s (1 + 7 * qn a + 5) := by
        rw [c1, at_in c3 (by omega), ra_b hC.1.1 c3, ← c1]
      rw [e]
      rfl
    · unfold qa_fX10_burntTimes qa_fX10_burntTimes_18
      have g := jr_self (jr_9 (v := 0) (jw9 (w := (s (1 + 7 * qn a + 5)).toInt64) hR))
      dsimp only
      rw [rf_i1 (jw9 hR) hs c]
      dsimp only
      rw [if_neg (show ¬ qa_bi true = 0 by decide), g, c1, qk_a5, rf_of5 c3, Option.bind_some, ← c1]
  · have cf := Bool.eq_false_iff.mpr c
    refine qY_1 (code := 1) hX cc_r hC ?_ (by decide) ⟨0, qa_wi σ (10, 21) 9 1, ?_, jr_9 hR, r9, wi_eq⟩ hI
    · unfold qa_fL_burntTimes qa_fX9_burntTimes
      rw [cl_is hC hs, cf, if_pos (show qa_bi false = 0 from rfl), Option.bind_some]
      rfl
    · unfold qa_fX10_burntTimes qa_fX10_burntTimes_18
      dsimp only
      rw [rf_i0 hR hs cf]
      dsimp only
      rw [if_pos (show qa_bi false = 0 from rfl)]
      rfl
end QLX
