/-! the share of hits: the bits of a double -/
section QMN
variable {σ σ' τ ρ : qa_T} {s t : qs} {N k f L2 : Nat} {U V : Nat → qs} {Z : Nat → Bool} {B : Nat → Int32}
def qd_w (h m : Int32) : UInt64 := if h + m = 0 then FP.dconst0 else FP.ddiv (FP.i2d h) (FP.i2d (h + m))
theorem op_nn {h m : Int32} (hh : 0 ≤ h.toInt) (hm : 0 ≤ m.toInt) (hN : h.toInt + m.toInt < 2147483647) : qa_nn (qd_w h m) := sorry
theorem op_bits {h m : Int32} (hh : 0 ≤ h.toInt) (hm : 0 ≤ m.toInt) (hN : h.toInt + m.toInt < 2147483647) : ∃ b, ∀ σ τ : qa_T, qa_fX9_bitsOfShare (qd_w h m) σ = some b ∧ qa_fX10_bitsOf (qd_w h m) ((Int8.ofInt 52).toInt32) ((Int16.ofInt 1023).toInt32) τ = some b := sorry
theorem op_cmp {h m : Int32} (hh : 0 ≤ h.toInt) (hm : 0 ≤ m.toInt) (hN : h.toInt + m.toInt < 2147483647) : Op.cmpValue (FP.dcmp (qd_w h m) (qd_w h m)) .l = 0 := sorry
theorem sh_c (hC : qj_C σ s k f U Z V L2 B) (hI : qi_I N s) (hN : 2 * N < 2147483647) : qa_fX0_shareOfHits 1 σ = some (qd_w (s 169) (s 170)) := by
  obtain ⟨h1, h2, h3, h4, _⟩ := hI.1.2.2.2.2.2.2
  have nn := op_nn (h := s 169) (m := s 170) h1 h3 (by omega)
  have e := qz_add (a := s 169) (b := s 170) (by omega) (by omega)
  unfold qa_fX0_shareOfHits qa_fX0_shareOfHits_26
  unfold qd_w at nn ⊢
  dsimp only
  rw [ra_169 hC.1.1, ra_170 hC.1.1]
  by_cases c : s 169 + s 170 = 0
  · rw [if_pos c, if_pos (by rw [c]; decide)]
  · have c2 : ¬ s 169 + s 170 ≤ 0 := fun t => c (by rw [qz_l0] at t; rw [qz_eq, qk_t0]; omega)
    rw [if_neg c] at nn ⊢
    rw [if_neg c2, if_neg (not_not_intro nn)]
theorem sh_r (hR : qj_R ρ s k U Z V L2 B) (hI : qi_I N s) (hN : 2 * N < 2147483647) : qa_fX10_share ρ = some (qd_w (s 169) (s 170)) := by
  obtain ⟨h1, h2, h3, h4, _⟩ := hI.1.2.2.2.2.2.2
  have nn := op_nn (h := s 169) (m := s 170) h1 h3 (by omega)
  have e1 : ρ.1 (10, 22) (((Int16.ofInt 169).toInt32)).toNatClampNeg = s 169 := by rw [hR.1]; rfl
  have e2 : ρ.1 (10, 22) (((Int16.ofInt 170).toInt32)).toNatClampNeg = s 170 := by rw [hR.1]; rfl
  unfold qa_fX10_share qa_fX10_share_38
  unfold qd_w at nn ⊢
  dsimp only
  rw [e1, e2]
  by_cases c : s 169 + s 170 = 0
  · rw [if_pos c, if_neg (not_not_intro c)]
  · rw [if_neg c] at nn ⊢
    rw [if_pos c, if_neg (not_not_intro nn)]
end QMN
