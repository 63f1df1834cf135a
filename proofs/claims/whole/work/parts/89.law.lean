/-! the law's calls (4): questions that try, that answer yes or no -/
section QMA
variable {σ σ1 σ' τ ρ : qa_T} {s t : qs} {X : Nat → Int32} {N M k k' f f' j p L L2 L' : Nat} {U V U' V' : Nat → qs} {Z Z' : Nat → Bool} {B B' : Nat → Int32} {k23 : Int32 → qa_T → Option (Bool × qa_T)} {x a v r code : Int32} {y : Int32}
def bL (b : Bool) : Int64 := if qa_bi b = 0 then Int64.ofNat ((0 : Fin 2) : Nat) else Int64.ofNat ((1 : Fin 2) : Nat)
def qYb (N : Nat) (X : Nat → Int32) (σ : qa_T) (A : qa_T → Option (Int32 × qa_T)) (Rf : qa_T → Option (Bool × qa_T)) : Prop := ∃ code τ r τ', A σ = some (code, τ) ∧ τ.1 (0, 0) = X ∧ Rf τ = some (r, τ') ∧ qa_fX10_thrown τ' = code ∧ (code = 0 → τ'.2 (10, 29) 0 = bL r) ∧ qJ N X τ'
theorem qYb_0 {b : Bool} {A : qa_T → Option (Int32 × qa_T)} {Rf : qa_T → Option (Bool × qa_T)} (hX : σ.1 (0, 0) = X) (hcc : qe_cc σ σ1) (hC : qj_C σ1 t k' f' U' Z' V' L' B') (hA : A σ = some (0, wl σ1 (bL b))) (hR : ∃ ρ', Rf (wl σ1 (bL b)) = some (b, ρ') ∧ qj_R ρ' t k' U' Z' V' L' B' ∧ qe_rr σ1 ρ' ∧ ρ'.2 = (wl σ1 (bL b)).2 ∧ ρ'.1 (10, 21) 9 = 0) (hI : qj_I N t k' f' U' Z' V' L' B') : qYb N X σ A Rf := by
  obtain ⟨ρ', b1, b2, b3, b4, b5⟩ := hR
  exact ⟨0, wl σ1 (bL b), b, ρ', hA, by show σ1.1 (0, 0) = X; rw [cc_0 hcc, hX], b1, b5, fun _ => by rw [b4, wl_v], qJ_r (σ := σ1) (by rw [cc_0 hcc, hX]) hC hI b3 b2⟩
theorem qYb_1 {A : qa_T → Option (Int32 × qa_T)} {Rf : qa_T → Option (Bool × qa_T)} (hX : σ.1 (0, 0) = X) (hcc : qe_cc σ σ1) (hC : qj_C σ1 s k f U Z V L2 B) (hA : A σ = some (code, σ1)) (h0 : ¬ code = 0) (hR : ∃ r ρ', Rf σ1 = some (r, ρ') ∧ qj_R ρ' s k U Z V L2 B ∧ qe_rr σ1 ρ' ∧ ρ'.1 (10, 21) 9 = code) (hI : qj_I N s k f U Z V L2 B) : qYb N X σ A Rf := by
  obtain ⟨r, ρ', b1, b2, b3, b4⟩ := hR
  exact ⟨code, σ1, r, ρ', hA, by rw [cc_0 hcc, hX], b1, b4, fun t => absurd t h0, qJ_r (σ := σ1) (by rw [cc_0 hcc, hX]) hC hI b3 b2⟩
theorem y_loadOf (h : qJ N X σ) : qY N X σ (fun σ => qa_fL_loadOf a σ) (fun σ => qa_fX10_loadOf a σ) := by
  obtain ⟨hX, s, k, f, U, Z, V, L2, B, hC, hR, hI⟩ := h
  have hs := hI.1.1.1.1
  by_cases c : qi_is s a = true
  · obtain ⟨c1, c2, c3⟩ := is_n hs c
    refine qY_0 (v := qr_du s (qn a)) hX cc_r hC ?_ ⟨qa_wi (wl σ (qr_du s (qn a)).toInt64) (10, 21) 9 0, ?_, jr_9 (jw9 hR), r9, rfl, wi_eq⟩ hI
    · unfold qa_fL_loadOf qa_fX9_loadOf
      rw [cl_is hC hs, c, if_neg (show ¬ qa_bi true = 0 by decide), Option.bind_some]
      dsimp only
      have e : qa_fX6_ticksToLoad 1 a (Int32.ofInt 0) σ = qr_du s (qn a) := by
        rw [c1, cl_du hC.1.1 c3, ← c1]
      rw [e]
      rfl
    · unfold qa_fX10_loadOf qa_fX10_loadOf_17
      have g := jr_self (jr_9 (v := 0) (jw9 (w := (qr_du s (qn a)).toInt64) hR))
      dsimp only
      rw [rf_i1 (jw9 hR) hs c]
      dsimp only
      rw [if_neg (show ¬ qa_bi true = 0 by decide), g, c1, rf_du c3, Option.bind_some, ← c1]
  · have cf := Bool.eq_false_iff.mpr c
    refine qY_1 (code := 1) hX cc_r hC ?_ (by decide) ⟨0, qa_wi σ (10, 21) 9 1, ?_, jr_9 hR, r9, wi_eq⟩ hI
    · unfold qa_fL_loadOf qa_fX9_loadOf
      rw [cl_is hC hs, cf, if_pos (show qa_bi false = 0 from rfl), Option.bind_some]
      rfl
    · unfold qa_fX10_loadOf qa_fX10_loadOf_17
      dsimp only
      rw [rf_i0 hR hs cf]
      dsimp only
      rw [if_pos (show qa_bi false = 0 from rfl)]
      rfl
theorem y_isLoaded (h : qJ N X σ) : qYb N X σ (fun σ => qa_fL_isLoaded a σ) (fun σ => qa_fX10_isLoaded a σ) := by
  obtain ⟨hX, s, k, f, U, Z, V, L2, B, hC, hR, hI⟩ := h
  have hs := hI.1.1.1.1
  by_cases c : qi_is s a = true
  · obtain ⟨c1, c2, c3⟩ := is_n hs c
    refine qYb_0 (b := qr_ld s (qn a)) hX cc_r hC ?_ ⟨qa_wi (wl σ (bL (qr_ld s (qn a)))) (10, 21) 9 0, ?_, jr_9 (jw9 hR), r9, rfl, wi_eq⟩ hI
    · unfold qa_fL_isLoaded qa_fX9_isLoaded qa_fL_isLoaded_15
      rw [cl_is hC hs, c, if_neg (show ¬ qa_bi true = 0 by decide), Option.bind_some]
      dsimp only
      have e : qa_fX6_isReady 1 a σ = qr_ld s (qn a) := by
        rw [c1, cl_rd hC.1.1 hs c3, ← c1]
      rw [e]
      unfold bL
      cases qr_ld s (qn a)
      · rw [if_pos (show qa_bi false = 0 from rfl), if_pos (show qa_bi false = 0 from rfl)]; rfl
      · rw [if_neg (show ¬ qa_bi true = 0 by decide), if_neg (show ¬ qa_bi true = 0 by decide)]; rfl
    · unfold qa_fX10_isLoaded qa_fX10_isLoaded_20
      have g := jr_self (jr_9 (v := 0) (jw9 (w := bL (qr_ld s (qn a))) hR))
      dsimp only
      rw [rf_i1 (jw9 hR) hs c]
      dsimp only
      rw [if_neg (show ¬ qa_bi true = 0 by decide)]
      have e2 : qa_fX10_loaded a (qa_wi (wl σ (bL (qr_ld s (qn a)))) (10, 21) 9 0) = some (qr_ld s (qn a)) := by
        rw [g, c1, rf_ld c3, ← c1]
      rw [e2, Option.bind_some]
      cases qr_ld s (qn a)
      · rw [if_pos (show qa_bi false = 0 from rfl)]
      · rw [if_neg (show ¬ qa_bi true = 0 by decide)]
  · have cf := Bool.eq_false_iff.mpr c
    refine qYb_1 (code := 1) hX cc_r hC ?_ (by decide) ⟨false, qa_wi σ (10, 21) 9 1, ?_, jr_9 hR, r9, wi_eq⟩ hI
    · unfold qa_fL_isLoaded qa_fX9_isLoaded
      rw [cl_is hC hs, cf, if_pos (show qa_bi false = 0 from rfl), Option.bind_some]
      rfl
    · unfold qa_fX10_isLoaded qa_fX10_isLoaded_20
      dsimp only
      rw [rf_i0 hR hs cf]
      dsimp only
      rw [if_pos (show qa_bi false = 0 from rfl)]
theorem y_isOnShow (h : qJ N X σ) : qYb N X σ (fun σ => qa_fL_isOnShow a σ) (fun σ => some (qa_fX10_isOnShow a σ)) := by
  obtain ⟨hX, s, k, f, U, Z, V, L2, B, hC, hR, hI⟩ := h
  have hs := hI.1.1.1.1
  by_cases c : qi_is s a = true
  · obtain ⟨c1, c2, c3⟩ := is_n hs c
    refine qYb_0 (b := qr_os s (qn a)) hX cc_r hC ?_ ⟨qa_wi (wl σ (bL (qr_os s (qn a)))) (10, 21) 9 0, ?_, jr_9 (jw9 hR), r9, rfl, wi_eq⟩ hI
    · unfold qa_fL_isOnShow qa_fX9_isOnShow qa_fL_isOnShow_15
      rw [cl_is hC hs, c, if_neg (show ¬ qa_bi true = 0 by decide), Option.bind_some]
      dsimp only
      have e : qa_fX7_bears 1 a σ = qr_os s (qn a) := by
        rw [c1, cl_be hC.1.1, ← c1]
      rw [e]
      unfold bL
      cases qr_os s (qn a)
      · rw [if_pos (show qa_bi false = 0 from rfl), if_pos (show qa_bi false = 0 from rfl)]; rfl
      · rw [if_neg (show ¬ qa_bi true = 0 by decide), if_neg (show ¬ qa_bi true = 0 by decide)]; rfl
    · unfold qa_fX10_isOnShow qa_fX10_isOnShow_20
      have g := jr_self (jr_9 (v := 0) (jw9 (w := bL (qr_os s (qn a))) hR))
      dsimp only
      rw [rf_i1 (jw9 hR) hs c]
      dsimp only
      rw [if_neg (show ¬ qa_bi true = 0 by decide)]
      have e2 : qa_fX10_onShow a (qa_wi (wl σ (bL (qr_os s (qn a)))) (10, 21) 9 0) = qr_os s (qn a) := by
        rw [g, c1, rf_os, ← c1]
      rw [e2]
      cases qr_os s (qn a)
      · rw [if_pos (show qa_bi false = 0 from rfl)]
      · rw [if_neg (show ¬ qa_bi true = 0 by decide)]
  · have cf := Bool.eq_false_iff.mpr c
    refine qYb_1 (code := 1) hX cc_r hC ?_ (by decide) ⟨false, qa_wi σ (10, 21) 9 1, ?_, jr_9 hR, r9, wi_eq⟩ hI
    · unfold qa_fL_isOnShow qa_fX9_isOnShow
      rw [cl_is hC hs, cf, if_pos (show qa_bi false = 0 from rfl), Option.bind_some]
      rfl
    · unfold qa_fX10_isOnShow qa_fX10_isOnShow_20
      dsimp only
      rw [rf_i0 hR hs cf]
      dsimp only
      rw [if_pos (show qa_bi false = 0 from rfl)]
/-- the ticks until it is shown -/
theorem O_27 {ρ' : qa_T} (h : qj_R ρ s k U Z V L B) (hO : qe_O (10, 27) ρ ρ') : qj_R ρ' s k U Z V L B := by
  obtain ⟨a1, a2, a3, a4, a5, a6, a7⟩ := h
  unfold qj_R
  rw [hO.1 _ (by decide), hO.1 _ (by decide), hO.1 _ (by decide), hO.1 _ (by decide), hO.1 _ (by decide), hO.1 _ (by decide)]
  exact ⟨a1, a2, a3, a4, a5, a6, a7⟩
theorem rr_27 {ρ' : qa_T} (hO : qe_O (10, 27) ρ ρ') : qe_rr ρ ρ' := fun p hp => hO.1 p (fun e => hp (by subst e; exact ⟨rfl, by decide, by decide⟩))
theorem rf_tt (hR : qj_R ρ s k U Z V L2 B) (hP : qi_P N s) (c : ¬ s 142 = -1) (hN : N + 200 < 2147483647) : ∃ ρ', qa_fX10_toldTicks ρ = some (nI (qr_wn s), ρ') ∧ qj_R ρ' s k U Z V L2 B ∧ qe_rr ρ ρ' ∧ ρ'.2 = ρ.2 ∧ ρ'.1 (10, 21) 9 = 0 := by
  have h4 : ¬ s 144 = -1 := fun t => c (hP.2.1 t).1
  unfold qa_fX10_toldTicks qa_fX10_toldTicks_23
  rw [rf_to0 (a := (Int16.ofInt 142).toInt32) (p := 142) hR rfl (by omega) c, Option.bind_some]
  dsimp only
  rw [wi_eq, if_neg (by decide)]
  have h9 := jr_9 (v := 0) hR
  have p9 : (qa_wi ρ (10, 21) 9 0).1 (10, 21) 9 = 0 := wi_eq
  have p2 : (qa_wi ρ (10, 21) 9 0).2 = ρ.2 := rfl
  have pr : qe_rr ρ (qa_wi ρ (10, 21) 9 0) := r9
  generalize qa_wi ρ (10, 21) 9 0 = ρ1 at h9 p9 p2 pr ⊢
  obtain ⟨ρ', y', g1, g2⟩ := rf_un (ρ := ρ1) (y := ρ1.1 (10, 21) 10) hP.1 c h4 hN
  rw [jr_self h9, g1, Option.bind_some]
  refine ⟨qw ρ' s y', rfl, jr_qw (O_27 h9 g2), rr_t pr (rr_t (rr_27 g2) rr_qw), by show ρ'.2 = _; rw [g2.2, p2], ?_⟩
  rw [qw_21 (by decide), g2.1 _ (by decide), p9]
theorem rf_tt1 (hR : qj_R ρ s k U Z V L2 B) (c : s 142 = -1) : qa_fX10_toldTicks ρ = some (0, qa_wi ρ (10, 21) 9 1) := by
  unfold qa_fX10_toldTicks qa_fX10_toldTicks_23
  rw [rf_to1 (a := (Int16.ofInt 142).toInt32) (p := 142) hR rfl (by omega) c, Option.bind_some]
  dsimp only
  rw [wi_eq, if_pos (by decide)]
  rfl
theorem y_ticksToShowByTicks (h : qJ N X σ) (hN : N + 200 < 2147483647) : qY N X σ qa_fL_ticksToShowByTicks qa_fX10_ticksToShowByTicks := by
  obtain ⟨hX, s, k, f, U, Z, V, L2, B, hC, hR, hI⟩ := h
  by_cases c : s 142 = -1
  · refine qY_1 (code := 1) hX cc_r hC ?_ (by decide) ⟨0, qa_wi σ (10, 21) 9 1, ?_, jr_9 hR, r9, wi_eq⟩ hI
    · unfold qa_fL_ticksToShowByTicks qa_fX9_ticksToShowByTicks qa_fX9_ticksToShowByTicks_19
      rw [ra_142 hC.1.1, c, qk_am1, if_pos rfl, qk_a0, if_pos rfl, Option.bind_some]
      rfl
    · unfold qa_fX10_ticksToShowByTicks
      rw [rf_tt1 hR c]
      rfl
  · have h4 : ¬ s 144 = -1 := fun t => c (hI.1.2.1 t).1
    obtain ⟨σ1, a1, a2⟩ := cl_wt hC.1 hI.1.1 c h4 hN
    have hcc := cc_F a2 (by omega) (by omega)
    obtain ⟨ρ', b1, b2, b3, b4, b5⟩ := rf_tt (ρ := wl σ1 (nI (qr_wn s)).toInt64) (jr_cc hR hcc) hI.1 c hN
    refine qY_0 (v := nI (qr_wn s)) hX hcc (jc_2 hC a2) ?_ ⟨ρ', ?_, b2, b3, b4, b5⟩ hI
    · unfold qa_fL_ticksToShowByTicks qa_fX9_ticksToShowByTicks qa_fX9_ticksToShowByTicks_19
      rw [ra_142 hC.1.1, qk_am1, if_neg c, qk_a1, if_neg (by decide), a1, Option.bind_some, Option.bind_some]
      rfl
    · unfold qa_fX10_ticksToShowByTicks
      rw [b1]
      rfl
theorem y_ticksToShowBySums (h : qJ N X σ) (hN : N + 200 < 2147483647) : qY N X σ qa_fL_ticksToShowBySums qa_fX10_ticksToShowBySums := by
  obtain ⟨hX, s, k, f, U, Z, V, L2, B, hC, hR, hI⟩ := h
  by_cases c : s 142 = -1
  · refine qY_1 (code := 1) hX cc_r hC ?_ (by decide) ⟨0, qa_wi σ (10, 21) 9 1, ?_, jr_9 hR, r9, wi_eq⟩ hI
    · unfold qa_fL_ticksToShowBySums qa_fX9_ticksToShowBySums qa_fX9_ticksToShowBySums_19
      rw [ra_142 hC.1.1, c, qk_am1, if_pos rfl, qk_a0, if_pos rfl, Option.bind_some]
      rfl
    · unfold qa_fX10_ticksToShowBySums
      rw [rf_tt1 hR c]
      rfl
  · have h4 : ¬ s 144 = -1 := fun t => c (hI.1.2.1 t).1
    have hW := W_b hI.1.1.1 c h4
    have eW : qr_W s = nI (qr_wn s) := qn_of (by omega)
    obtain ⟨ρ', b1, b2, b3, b4, b5⟩ := rf_tt (ρ := wl σ (nI (qr_wn s)).toInt64) hR hI.1 c hN
    refine qY_0 (v := nI (qr_wn s)) hX cc_r hC ?_ ⟨ρ', ?_, b2, b3, b4, b5⟩ hI
    · unfold qa_fL_ticksToShowBySums qa_fX9_ticksToShowBySums qa_fX9_ticksToShowBySums_19
      rw [ra_142 hC.1.1, qk_am1, if_neg c, qk_a1, if_neg (by decide), cl_sw hC.1.1 hI.1.1.1 c, Option.bind_some, eW]
      rfl
    · unfold qa_fX10_ticksToShowBySums
      rw [b1]
      rfl
end QMA
