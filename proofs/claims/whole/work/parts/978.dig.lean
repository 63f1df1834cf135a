/-! the digest -/
section QMO
variable {σ σ1 σ' τ ρ ρ0 ρ' : qa_T} {s t : qs} {X : Nat → Int32} {N k f n L L2 : Nat} {U V : Nat → qs} {Z : Nat → Bool} {B : Nat → Int32} {k23 : Int32 → qa_T → Option (Bool × qa_T)} {x a1 : Int32} {v w : Int64}
def hx (v a : Int64) : Int64 := 31 * v + a
/-- a state of the reference within the digest, its number so far -/
def qD (ρ0 : qa_T) (s : qs) (k : Nat) (U : Nat → qs) (Z : Nat → Bool) (V : Nat → qs) (L : Nat) (B : Nat → Int32) (v : Int64) (ρ : qa_T) : Prop := qj_R ρ s k U Z V L B ∧ qe_rr ρ0 ρ ∧ ρ.2 (10, 21) 14 = v
theorem mx_D (h : qD ρ0 s k U Z V L B v ρ) : qD ρ0 s k U Z V L B (hx v w) (qa_fX10_mix w ρ) := by
  refine ⟨h.1, h.2.1, ?_⟩
  unfold qa_fX10_mix hx
  rw [h.2.2]
  show (qa_wl ρ (10, 21) 14 (31 * v + w)).2 (10, 21) 14 = _
  unfold qa_wl
  simp [vp_updL]
theorem mix_c : qa_fX9_mix v w σ = hx v w := rfl
def hs_n (s : qs) (a : Nat) : Int32 := if qr_nx s a ≤ qn (s 113) then nI (qr_nx s a) else 0
def hs_p (s : qs) (a : Nat) : Int32 := if qr_cb s a = true then nI (qr_ct s a (qn (s 0))) else -1
def hs_b (s : qs) (a : Nat) : Int32 := if qr_ld s a = true ∨ s 144 = nI a then 0 else nI (qr_mr (s (1 + 7 * a)).toInt s).1
def hs_s (s : qs) (a : Nat) (v : Int64) : Int64 := hx (hx (hx (hx (hx (hx (hx (hx (hx (hx v (s (1 + 7 * a)).toInt64) (qr_du s a).toInt64) (s (1 + 7 * a + 2)).toInt64) (bL (qr_ld s a))) (bL (qr_os s a))) (s (1 + 7 * a + 4)).toInt64) (s (1 + 7 * a + 5)).toInt64) (hs_n s a).toInt64) (hs_p s a + 1).toInt64) (hs_b s a).toInt64
/-- a slide, by the class -/
theorem cl_ds {a : Nat} (hC : qj_C σ s k f U Z V L2 B) (hP : qi_P N s) (ha : a < qn (s 0)) : ∃ σ', qa_fX9_mixSlide v (nI a) σ = some (hs_s s a v, σ') ∧ qj_C σ' s k f U Z V L2 B ∧ qe_cc σ σ' := by
  have hs := hP.1.1.1
  have hp := hP.1.1.2.1
  have ha16 : a < 16 := by have := (qi_n hs).2; omega
  obtain ⟨σ1, a1, a2⟩ := cl_pl (R := 1) (a := a) hC.1.1 hP.1.1 ha16
  have hF := qe_GF a2
  have hC1 := jc_1 hC hF (rr_G hC.1 a2)
  rw [po_s ha] at a1
  obtain ⟨σ2, b1, b2⟩ := cl_bt (a := a) hC1.1 hP.1.1 ha
  have hF2 := qe_GF b2
  refine ⟨σ2, ?_, jc_1 hC1 hF2 (rr_G hC1.1 b2), cc_t (cc_F hF (by omega) (by omega)) (cc_F hF2 (by omega) (by omega))⟩
  unfold qa_fX9_mixSlide qa_fX9_mixSlide_84 qa_fX9_mixSlide_110
  dsimp only
  rw [cl_rd hC.1.1 hs ha16, cl_be hC.1.1, cl_pu hC.1.1 hp ha16, a1, at_in ha16 (by omega), at_in ha16 (by omega), at_in ha16 (by omega), at_in ha16 (by omega), cl_du hC.1.1 ha16, ra_c hC.1.1 ha16, ra_f hC.1.1 ha16, ra_e hC.1.1 ha16, ra_b hC.1.1 ha16]
  simp only [Option.bind_some, b1, mix_c, qk_a1]
  unfold hs_s bL hs_n hs_p hs_b
  cases qr_ld s a <;> cases qr_os s a <;> rfl
/-- a slide, by the reference -/
theorem rf_d1 {a : Nat} (h : qD ρ0 s k U Z V L2 B v ρ) (hP : qi_P N s) (ha : a < qn (s 0)) : ∃ ρ', qa_fX10_mixesSlide_132 (nI a) w ρ = some ρ' ∧ qD ρ0 s k U Z V L2 B (hx (hx v w) (hs_b s a).toInt64) ρ' := by
  have h9 := mx_D (w := w) h
  generalize e : qa_fX10_mix w ρ = ρ1 at h9
  obtain ⟨ρ', g1, g2, g3, g4, g5⟩ := rf_bo h9.1 hP ha
  have h10 : qD ρ0 s k U Z V L2 B (hx v w) ρ' := ⟨g2, rr_t h9.2.1 g3, by rw [g4]; exact h9.2.2⟩
  refine ⟨qa_fX10_mix (hs_b s a).toInt64 ρ', ?_, mx_D h10⟩
  unfold qa_fX10_mixesSlide_132
  dsimp only
  rw [e, g1, Option.bind_some]
  rfl
theorem rf_d2 {a : Nat} (h : qD ρ0 s k U Z V L2 B v ρ) (hP : qi_P N s) (ha : a < qn (s 0)) : ∃ ρ', qa_fX10_mixesSlide_108 (nI a) w ρ = some ρ' ∧ qD ρ0 s k U Z V L2 B (hx (hx (hx v w) (hs_p s a + 1).toInt64) (hs_b s a).toInt64) ρ' := by
  have ha16 : a < 16 := by have := (qi_n hP.1.1.1).2; omega
  have h9 := mx_D (w := w) h
  generalize e : qa_fX10_mix w ρ = ρ1 at h9
  obtain ⟨ρ', g1, g2⟩ := rf_d1 (w := (hs_p s a + 1).toInt64) h9 hP ha
  refine ⟨ρ', ?_, g2⟩
  have oc : qa_fX10_canBurn (nI a) ρ1 = some (qr_cb s a) := by rw [jr_self h9.1, rf_cb ha16]
  unfold qa_fX10_mixesSlide_108
  dsimp only
  rw [e, oc, Option.bind_some]
  by_cases c : qr_cb s a = true
  · have ep : nI (qr_ct s a (qn (s 0))) = hs_p s a := by unfold hs_p; rw [if_pos c]
    rw [c, if_neg (show ¬ qa_bi true = 0 by decide), rf_io h9.1 hP.1 ha, Option.bind_some, qk_a1, ep, g1]
  · have ep : Int64.ofNat ((0 : Fin 2) : Nat) = (hs_p s a + 1).toInt64 := by unfold hs_p; rw [if_neg c]; rfl
    rw [Bool.eq_false_iff.mpr c, if_pos (show qa_bi false = 0 from rfl), ep, g1]
theorem rf_d3 {a : Nat} (h : qD ρ0 s k U Z V L2 B v ρ) (hP : qi_P N s) (ha : a < qn (s 0)) : ∃ ρ', qa_fX10_mixesSlide_57 (nI a) w ρ = some ρ' ∧ qD ρ0 s k U Z V L2 B (hx (hx (hx (hx (hx (hx v w) (s (1 + 7 * a + 4)).toInt64) (s (1 + 7 * a + 5)).toInt64) (hs_n s a).toInt64) (hs_p s a + 1).toInt64) (hs_b s a).toInt64) ρ' := by
  have hp := hP.1.1.2.1
  have ha16 : a < 16 := by have := (qi_n hP.1.1.1).2; omega
  have h5 := mx_D (w := w) h
  generalize e5 : qa_fX10_mix w ρ = ρ5 at h5
  have h6 := mx_D (w := (s (1 + 7 * a + 4)).toInt64) h5
  generalize e6 : qa_fX10_mix (s (1 + 7 * a + 4)).toInt64 ρ5 = ρ6 at h6
  have h7 := mx_D (w := (s (1 + 7 * a + 5)).toInt64) h6
  generalize e7 : qa_fX10_mix (s (1 + 7 * a + 5)).toInt64 ρ6 = ρ7 at h7
  obtain ⟨ρ', g1, g2⟩ := rf_d2 (w := (hs_n s a).toInt64) h7 hP ha
  refine ⟨ρ', ?_, g2⟩
  have o4 : qa_fX10_of (nI a) 4 ρ5 = some (s (1 + 7 * a + 4)) := by rw [jr_self h5.1, rf_of4 ha16]
  have o5 : qa_fX10_of (nI a) 5 ρ6 = some (s (1 + 7 * a + 5)) := by rw [jr_self h6.1, rf_of5 ha16]
  have on : qa_fX10_nextOf (nI a) ρ7 = some (nI (qr_nx s a)) := by rw [jr_self h7.1, rf_nx hp]
  have e113 : ρ7.1 (10, 22) (((Int8.ofInt 113).toInt32)).toNatClampNeg = nI (qn (s 113)) := by rw [h7.1.1, ← (qi_p hp).1]; rfl
  have hle := qr_nx_le hp a
  have h24 := (qi_p hp).2
  unfold qa_fX10_mixesSlide_57
  dsimp only
  rw [e5, qk_a4, qk_a5, o4, Option.bind_some, e6, o5, Option.bind_some, e7, on, Option.bind_some, e113]
  by_cases c : qr_nx s a ≤ qn (s 113)
  · have en : nI (qr_nx s a) = hs_n s a := by unfold hs_n; rw [if_pos c]
    rw [if_pos (nI_le c (by omega)), Option.bind_some, en, g1]
  · have en : Int64.ofNat ((0 : Fin 2) : Nat) = (hs_n s a).toInt64 := by unfold hs_n; rw [if_neg c]; rfl
    rw [if_neg (nI_ge (by omega) (by omega)), en, g1]
theorem rf_ds {a : Nat} (h : qD ρ0 s k U Z V L2 B v ρ) (hP : qi_P N s) (ha : a < qn (s 0)) : ∃ ρ', qa_fX10_mixesSlide (nI a) ρ = some ρ' ∧ qD ρ0 s k U Z V L2 B (hs_s s a v) ρ' := by
  have hs := hP.1.1.1
  have ha16 : a < 16 := by have := (qi_n hs).2; omega
  have o0 : qa_fX10_of (nI a) 0 ρ = some (s (1 + 7 * a)) := by rw [jr_self h.1, rf_of0 ha16]
  have h1 := mx_D (w := (s (1 + 7 * a)).toInt64) h
  generalize e1 : qa_fX10_mix (s (1 + 7 * a)).toInt64 ρ = ρ1 at h1
  have od : qa_fX10_due (nI a) ρ1 = some (qr_du s a) := by rw [jr_self h1.1, rf_du ha16]
  have h2 := mx_D (w := (qr_du s a).toInt64) h1
  generalize e2 : qa_fX10_mix (qr_du s a).toInt64 ρ1 = ρ2 at h2
  have o2 : qa_fX10_of (nI a) 2 ρ2 = some (s (1 + 7 * a + 2)) := by rw [jr_self h2.1, rf_of2 ha16]
  have h3 := mx_D (w := (s (1 + 7 * a + 2)).toInt64) h2
  generalize e3 : qa_fX10_mix (s (1 + 7 * a + 2)).toInt64 ρ2 = ρ3 at h3
  have o3 : qa_fX10_of (nI a) 3 ρ3 = some (s (1 + 7 * a + 3)) := by rw [jr_self h3.1, rf_of3 ha16]
  have h4 := mx_D (w := bL (qr_ld s a)) h3
  generalize e4 : qa_fX10_mix (bL (qr_ld s a)) ρ3 = ρ4 at h4
  have os : qa_fX10_onShow (nI a) ρ4 = qr_os s a := by rw [jr_self h4.1, rf_os]
  have e5 : (s (1 + 7 * a + 3)).toInt64 = bL (qr_ld s a) := by
    unfold qr_ld bL
    rcases (hs.2.2 a ha16).1 with e | e <;> rw [e] <;> rfl
  obtain ⟨ρ', g1, g2⟩ := rf_d3 (w := bL (qr_os s a)) h4 hP ha
  refine ⟨ρ', ?_, g2⟩
  unfold qa_fX10_mixesSlide
  dsimp only
  rw [qk_a0, qk_a2, qk_a3, o0, Option.bind_some, e1, od, Option.bind_some, e2, o2, Option.bind_some, e3, o3, Option.bind_some, e5, e4, os]
  unfold bL at g1
  cases hb : qr_os s a
  · rw [hb, if_pos (show qa_bi false = 0 from rfl)] at g1
    rw [if_pos (show qa_bi false = 0 from rfl), g1]
  · rw [hb, if_neg (show ¬ qa_bi true = 0 by decide)] at g1
    rw [if_neg (show ¬ qa_bi true = 0 by decide), g1]
end QMO
