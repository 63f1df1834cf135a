/-! rows of whole that p66 needs too, without the reference (written by wip/p66/ext.py) -/
section QEX
variable {σ σ1 σ2 σ' τ ρ : qa_T} {s t : qs} {X : Nat → Int32} {N M k k' f f' j p L L2 L' : Nat} {U V U' V' : Nat → qs} {Z Z' : Nat → Bool} {B B' : Nat → Int32} {x a v r code : Int32} {y : Int32}
theorem iw_x {x lo hi : Int32} : qa_fX9_isWithin x lo hi σ = (decide (lo.toInt ≤ x.toInt) && decide (x.toInt ≤ hi.toInt)) := by
  unfold qa_fX9_isWithin qa_fX9_isWithin_14
  have c1 := qz_lt x lo
  have c2 := qz_lt hi x
  by_cases h1 : x < lo
  · have := c1.mp h1
    rw [if_pos h1, decide_eq_false (by omega), Bool.false_and]
  · have h1' : ¬ x.toInt < lo.toInt := fun t => h1 (c1.mpr t)
    rw [if_neg h1, decide_eq_true (by omega), Bool.true_and]
    by_cases h2 : hi < x
    · have := c2.mp h2
      rw [if_pos h2, decide_eq_false (by omega)]
    · have h2' : ¬ hi.toInt < x.toInt := fun t => h2 (c2.mpr t)
      rw [if_neg h2, decide_eq_true (by omega)]
theorem bg_f (h : qi_st s) : qr_bg s = s := by
  unfold qr_bg
  by_cases c : s 144 = -1
  · obtain ⟨a, b, c'⟩ := h c
    rw [if_neg (not_not_intro c), if_neg (not_not_intro a), if_pos b, c']
  · rw [if_pos c]
theorem cg_s (h : qi_pr s) (c : qr_cg s = true) : 0 < (s 113).toInt ∧ s 142 = -1 := by
  unfold qr_cg at c
  rw [Bool.and_eq_true, decide_eq_true_eq, decide_eq_true_eq, qz_l0] at c
  exact ⟨by omega, c.2⟩
theorem bg_P (h : qi_I N s) (h1 : ∀ j, 176 ≤ j → s j = 0) : qi_P N (qr_bg s) := ⟨(bg_I h).1, (bg_I h).2, fun j hj => by rw [hi_bg h.1 hj, h1 j hj]⟩
def qi_is (s : qs) (a : Int32) : Bool := decide (0 ≤ a.toInt) && decide (a.toInt < (s 0).toInt)
theorem is_n (hs : qi_sl s) (h : qi_is s a = true) : a = nI (qn a) ∧ qn a < qn (s 0) ∧ qn a < 16 := by
  unfold qi_is at h
  rw [Bool.and_eq_true, decide_eq_true_eq, decide_eq_true_eq] at h
  have h1 := qn_int h.1
  have h2 := qn_int hs.1
  have h3 := hs.2.1
  exact ⟨qn_of h.1, by omega, by omega⟩
theorem cl_is (h : qj_C σ s k f U Z V L2 B) (hs : qi_sl s) : qa_fX6_has 1 a σ = qi_is s a := cl_has h.1.1 hs a
def qi_pl (c a : Int32) : Bool := decide (0 ≤ a.toInt) && decide (a.toInt < c.toInt)
theorem pl_n {c : Int32} (h : qi_pl c a = true) : a = nI (qn a) ∧ (qn a : Int) < c.toInt ∧ qn a < qn c := by
  unfold qi_pl at h
  rw [Bool.and_eq_true, decide_eq_true_eq, decide_eq_true_eq] at h
  have h1 := qn_int h.1
  exact ⟨qn_of h.1, by omega, by unfold qn at h1 ⊢; omega⟩
theorem cl_h3 (h : qj_C σ s k f U Z V L2 B) : qa_fX3_has 1 a σ = qi_pl (s 113) a := by
  unfold qa_fX3_has qa_fX3_has_16 qi_pl
  rw [ra_113 h.1.1]
  have c1 := qz_lt a 0
  have c2 := qz_le (s 113) a
  rw [qk_t0] at c1
  by_cases d1 : a < 0
  · rw [if_pos d1, decide_eq_false (show ¬ 0 ≤ a.toInt by have := c1.mp d1; omega)]; rfl
  · have e1 : 0 ≤ a.toInt := by
      by_cases e : a.toInt < 0
      · exact absurd (c1.mpr e) d1
      · omega
    rw [if_neg d1, decide_eq_true e1]
    by_cases d2 : s 113 ≤ a
    · rw [if_pos d2, decide_eq_false (show ¬ a.toInt < (s 113).toInt by have := c2.mp d2; omega)]; rfl
    · rw [if_neg d2, decide_eq_true (show a.toInt < (s 113).toInt by
        by_cases e : (s 113).toInt ≤ a.toInt
        · exact absurd (c2.mpr e) d2
        · omega)]; rfl
theorem iw_pl {c : Int32} (h1 : 0 ≤ c.toInt) (h2 : c.toInt ≤ 100) : qa_fX9_isWithin a 0 (c - 1) σ = qi_pl c a := by
  have e1 : (c - 1).toInt = c.toInt - 1 := by rw [qz_sub (by rw [qk_t1]; omega) (by rw [qk_t1]; omega), qk_t1]
  rw [iw_x, e1, qk_t0]
  unfold qi_pl
  by_cases d : a.toInt < c.toInt
  · rw [decide_eq_true d, decide_eq_true (show a.toInt ≤ c.toInt - 1 by omega)]
  · rw [decide_eq_false d, decide_eq_false (show ¬ a.toInt ≤ c.toInt - 1 by omega)]
theorem nf_1 (s : qs) (a : Nat) : ∀ (m k : Nat), 1 ≤ k → 1 ≤ qr_nf s a m k := by
  intro m
  induction m with
  | zero => intro k _; show 1 ≤ 25; omega
  | succ m ih =>
    intro k hk
    rw [qr_nf]
    split
    · exact hk
    · exact ih (k + 1) (by omega)
def qr_b2 (s : qs) (i x : Int32) : Int32 := if nI (qr_mx s i) ≤ nI (qr_mx s x) then i else x
theorem b2_c (s : qs) (i x : Int32) : qr_b2 s i x = i ∨ qr_b2 s i x = x := by
  unfold qr_b2
  split
  · exact Or.inl rfl
  · exact Or.inr rfl
theorem cl_b4 {n : Nat} {i : Int32} (hC : qj_C σ s k f U Z V L2 B) (hP : qi_P N s) (hc : qr_cg s = true) (hx : 0 ≤ x.toInt) (hx2 : x.toInt ≤ 2) (hN : N + 6000 < 2147483647) : ∃ σ', qa_fX9_bestOrder_20 (n + 1) i (nI (qr_mx s i)) x σ = qa_fX9_bestOrder_20 n (qr_b2 s i x) (nI (qr_mx s (qr_b2 s i x))) (x + 1) σ' ∧ qj_C σ' s k f U Z V L2 B ∧ qe_cc σ σ' := by
  obtain ⟨d4, d5⟩ := cg_s hP.1.1.2.1 hc
  obtain ⟨σ1, a1, a2⟩ := cl_mi hC.1 hP.1 hx hx2 d5 d4 hN
  have hcc := cc_F a2 (by omega) (by omega)
  have h3 : ¬ Int32.ofInt 3 ≤ x := fun t => by
    rw [qk_a3, qz_le, show ((3 : Int32)).toInt = 3 from rfl] at t
    omega
  refine ⟨σ1, ?_, jc_2 hC a2, hcc⟩
  rw [qa_fX9_bestOrder_20, if_neg h3, a1, Option.bind_some]
  unfold qa_fX9_bestOrder_43 qr_b2
  dsimp only
  rw [qk_a1]
  by_cases c : nI (qr_mx s i) ≤ nI (qr_mx s x)
  · rw [if_pos c, if_pos c]
  · rw [if_neg c, if_neg c]
theorem cl_b5 {n : Nat} {i w : Int32} : qa_fX9_bestOrder_20 (n + 1) i w (1 + 1 + 1) σ = some (.inl i, σ) := by
  rw [qa_fX9_bestOrder_20, if_pos (by decide)]
theorem fu_3 : ∃ n, qa_fu = n + 1 + 1 + 1 := ⟨2997, rfl⟩
theorem mu_c (hC : qj_C σ s k f U Z V L2 B) (hF : qe_F 1 σ σ1) (h1 : qe_R 1 σ1 t) (hI : qi_I M t) : ∃ σ2, qa_fX1_beginLoading 1 σ1 = some σ2 ∧ qj_C σ2 (qr_bg t) k f U Z V L2 B ∧ qe_cc σ σ2 := by
  obtain ⟨σ2, a1, a2, a3⟩ := cl_bg h1 hI.1
  exact ⟨σ2, a1, jc_1 hC (qe_Ft hF a3) a2, cc_F (qe_Ft hF a3) (by omega) (by omega)⟩
theorem st_c (hs : qi_sl s) {a b : Nat} (ha : a < 16) (hb : b < 16) : qr_st s a (1 + 7 * b) = s (1 + 7 * b) := by
  have g := mr_o (m := (s (1 + 7 * a)).toInt) (i := 1 + 7 * b) hs (Or.inr (Or.inr ⟨b, 0, rfl, Or.inl (by omega)⟩)) (by omega)
  unfold qr_st
  rw [s0_o (by omega) (by omega) (by omega) (by omega) (by omega), g]
theorem bg_c (h : qi_A N s) {b : Nat} (hb : b < 16) : qr_bg s (1 + 7 * b) = s (1 + 7 * b) := by
  obtain ⟨hs, hp, hw, hl, hq, he, hc⟩ := h
  have hn := (qi_n hs).2
  have hi0 := qn_int hs.1
  unfold qr_bg
  split
  · rfl
  · split
    · have h1 := hl.2.1
      exact st_c hs (by unfold qn; omega) hb
    · split
      · unfold qr_b3
        cases e : qr_gd s with
        | none => rfl
        | some a =>
          have := (gd_s hp hs e).1
          dsimp only
          split
          · exact st_c hs (by omega) hb
          · rfl
      · next c =>
        have hq1 := qn_int hq.1
        have hq2 := hq.2.2.1 0 (by omega)
        rw [Nat.add_zero] at hq2
        have hq3 := qn_int hq2.1
        rw [st_c (fg_A (N := N) (a := qn (s 147)) ⟨hs, hp, hw, hl, hq, he, hc⟩).1 (by omega) hb, fg_o (qi_qdq hq) _ (by omega)]
theorem ta_u {i : Nat} (hi : 163 ≤ i) (hn : qn (s 0) ≤ 16) : qr_ta (upd s i v) = qr_ta s := ta_q (pk_un (by omega)) (pk_un (by omega)) (fun k hk => ⟨pk_un (by omega), pk_un (by omega)⟩)
theorem bin (p q : Prop) [Decidable p] [Decidable q] : ((decide p && decide q) = true) ↔ (p ∧ q) := by
  rw [Bool.and_eq_true, decide_eq_true_eq, decide_eq_true_eq]
end QEX
