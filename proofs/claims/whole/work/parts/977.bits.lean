/-! the share of hits: the bits of a double -/
section QMN
variable {σ σ' τ ρ : qa_T} {s t : qs} {N k f L2 : Nat} {U V : Nat → qs} {Z : Nat → Bool} {B : Nat → Int32}
def qd_w (h m : Int32) : UInt64 := if h + m = 0 then FP.dconst0 else FP.ddiv (FP.i2d h) (FP.i2d (h + m))
/-- what a share is: nothing, or a double of one digit before the point -/
theorem qd_c {h m : Int32} (hh : 0 ≤ h.toInt) (hm : 0 ≤ m.toInt) (hN : h.toInt + m.toInt < 2147483647) : qd_w h m = FP.dconst0 ∨ ∃ c j, 4503599627370496 ≤ c ∧ c < 9007199254740992 ∧ j < 40 ∧ qd_w h m = dv c (-52 - (j : Nat)) := by
  have e := qz_add (a := h) (b := m) (by omega) (by omega)
  have q1 := qn_int hh
  have e1 : h = nI (qn h) := qn_of hh
  have e2 : h + m = nI (qn (h + m)) := qn_of (by omega)
  have q2 := qn_int (x := h + m) (by omega)
  unfold qd_w
  by_cases c : h + m = 0
  · rw [if_pos c]
    exact Or.inl rfl
  · have c2 : 0 < qn (h + m) := by
      by_cases t : qn (h + m) = 0
      · rw [t] at e2
        exact absurd e2 c
      · omega
    rw [if_neg c]
    by_cases c3 : qn h = 0
    · have g := dv_d0 c2 (by omega)
      rw [c3] at e1
      rw [← e1, ← e2] at g
      exact Or.inl g
    · have g := dv_d (h := qn h) (m := qn (h + m)) (by omega) (by omega) (by omega)
      rw [← e1, ← e2] at g
      exact Or.inr g
theorem op_nn {h m : Int32} (hh : 0 ≤ h.toInt) (hm : 0 ≤ m.toInt) (hN : h.toInt + m.toInt < 2147483647) : qa_nn (qd_w h m) := by
  rcases qd_c hh hm hN with e | ⟨c, j, h1, h2, h3, e⟩
  · rw [e]
    decide
  · rw [e]
    exact dv_nn (by omega) (by omega) (by omega)
theorem op_bits {h m : Int32} (hh : 0 ≤ h.toInt) (hm : 0 ≤ m.toInt) (hN : h.toInt + m.toInt < 2147483647) : ∃ b, ∀ σ τ : qa_T, qa_fX9_bitsOfShare (qd_w h m) σ = some b ∧ qa_fX10_bitsOf (qd_w h m) ((Int8.ofInt 52).toInt32) ((Int16.ofInt 1023).toInt32) τ = some b := by
  rcases qd_c hh hm hN with e | ⟨c, j, h1, h2, h3, e⟩
  · refine ⟨Int64.ofNat ((0 : Fin 2) : Nat), fun σ τ => ⟨?_, ?_⟩⟩
    · rw [e]
      unfold qa_fX9_bitsOfShare
      rw [if_neg (by decide)]
    · rw [e]
      unfold qa_fX10_bitsOf
      rw [if_neg (by decide)]
  · exact ⟨_, fun σ τ => ⟨by rw [e]; exact cB h1 h2 h3, by rw [e]; exact rB h1 h2 h3⟩⟩
theorem op_cmp {h m : Int32} (hh : 0 ≤ h.toInt) (hm : 0 ≤ m.toInt) (hN : h.toInt + m.toInt < 2147483647) : Op.cmpValue (FP.dcmp (qd_w h m) (qd_w h m)) .l = 0 := by
  rcases qd_c hh hm hN with e | ⟨c, j, h1, h2, h3, e⟩
  · rw [e]
    decide
  · rw [e]
    have g := (dv_D (n := c) (e := -52 - (j : Nat)) h2 (by omega) (by omega)).1
    rw [nf_z h1 h2] at g
    have e2 : FP.dcmp (dv c (-52 - (j : Nat))) (dv c (-52 - (j : Nat))) = some .eq := by
      show FP.Core.order (FP.Core.decode FP.Core.b64 (dv c (-52 - (j : Nat))).toNat) (FP.Core.decode FP.Core.b64 (dv c (-52 - (j : Nat))).toNat) = _
      rw [g]
      unfold FP.Core.order
      dsimp only
      rw [cq_e rfl]
    rw [e2]
    rfl
theorem sh_c (hC : qj_C σ s k f U Z V L2 B) (hI : qi_I N s) (hN : 2 * N < 2147483647) : qa_fX0_shareOfHits 1 σ = some (qd_w (s 169) (s 170)) := by
  obtain ⟨h1, h2, h3, h4, _⟩ := hI.1.2.2.2.2.2.2
  have nn := op_nn (h := s 169) (m := s 170) h1 h3 (by omega)
  have e := qz_add (a := s 169) (b := s 170) (by omega) (by omega)
  unfold qa_fX0_shareOfHits qa_fX0_shareOfHits_26
  unfold qd_w at nn ⊢
  dsimp only
  rw [ra_169 hC.1.1, ra_170 hC.1.1]
  by_cases c : s 169 + s 170 = 0
  · rw [if_pos c, if_pos (by rw [c]; decide)]
  · have c2 : ¬ s 169 + s 170 ≤ 0 := fun t => c (by rw [qz_l0] at t; rw [qz_eq, qk_t0]; omega)
    rw [if_neg c] at nn ⊢
    rw [if_neg c2, if_neg (not_not_intro nn)]
theorem sh_r (hR : qj_R ρ s k U Z V L2 B) (hI : qi_I N s) (hN : 2 * N < 2147483647) : qa_fX10_share ρ = some (qd_w (s 169) (s 170)) := by
  obtain ⟨h1, h2, h3, h4, _⟩ := hI.1.2.2.2.2.2.2
  have nn := op_nn (h := s 169) (m := s 170) h1 h3 (by omega)
  have e1 : ρ.1 (10, 22) (((Int16.ofInt 169).toInt32)).toNatClampNeg = s 169 := by rw [hR.1]; rfl
  have e2 : ρ.1 (10, 22) (((Int16.ofInt 170).toInt32)).toNatClampNeg = s 170 := by rw [hR.1]; rfl
  unfold qa_fX10_share qa_fX10_share_38
  unfold qd_w at nn ⊢
  dsimp only
  rw [e1, e2]
  by_cases c : s 169 + s 170 = 0
  · rw [if_pos c, if_neg (not_not_intro c)]
  · rw [if_neg c] at nn ⊢
    rw [if_pos c, if_neg (not_not_intro nn)]
end QMN
