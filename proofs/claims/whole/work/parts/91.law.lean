/-! the law's calls (6): the place in the line of burning -/
section QMC
variable {σ σ1 σ' τ ρ : qa_T} {s t : qs} {X : Nat → Int32} {N M k k' f f' j p L L2 L' : Nat} {U V U' V' : Nat → qs} {Z Z' : Nat → Bool} {B B' : Nat → Int32} {k23 : Int32 → qa_T → Option (Bool × qa_T)} {x v r code : Int32} {y a' : Int32}
def qr_cn (s : qs) (a b : Nat) : Nat := if ¬ b = a ∧ qr_fb s b a = true then 1 else 0
def qr_lc (s : qs) (a : Nat) : List Nat → Nat
  | [] => 0
  | b :: l => qr_cn s a b + qr_lc s a l
def qr_ct (s : qs) (a : Nat) : Nat → Nat
  | 0 => 0
  | k + 1 => if qr_cb s k = true then qr_ct s a k + qr_cn s a k else qr_ct s a k
theorem lc_in (s : qs) (a b : Nat) : ∀ l : List Nat, qr_lc s a (qr_in s b l) = qr_lc s a l + qr_cn s a b := by
  intro l
  induction l with
  | nil => show qr_cn s a b + 0 = 0 + qr_cn s a b; omega
  | cons c l ih =>
    rw [qr_in]
    split
    · show qr_cn s a b + (qr_cn s a c + qr_lc s a l) = qr_cn s a c + qr_lc s a l + qr_cn s a b
      omega
    · show qr_cn s a c + qr_lc s a (qr_in s b l) = qr_cn s a c + qr_lc s a l + qr_cn s a b
      rw [ih]
      omega
theorem lc_lf (s : qs) (a : Nat) : ∀ k, qr_lc s a (qr_lf s k) = qr_ct s a k := by
  intro k
  induction k with
  | zero => rfl
  | succ k ih =>
    rw [qr_lf, qr_ct]
    by_cases c : qr_cb s k = true
    · rw [if_pos c, if_pos c, lc_in, ih]
    · rw [if_neg c, if_neg c, ih]
theorem ct_le (s : qs) (a : Nat) : ∀ k, qr_ct s a k ≤ k := by
  intro k
  induction k with
  | zero => exact Nat.le_refl _
  | succ k ih =>
    have h : qr_cn s a k ≤ 1 := by
      unfold qr_cn
      split <;> omega
    rw [qr_ct]
    split <;> omega
theorem po_c {s : qs} {a : Nat} : ∀ (l : List Nat) (i : Nat), l.Pairwise (fun a b => qr_fb s a b = true) → a ∈ l → qr_po a l i = nI (i + qr_lc s a l) := by
  intro l
  induction l with
  | nil => intro i _ h; cases h
  | cons b l ih =>
    intro i hp hm
    rw [List.pairwise_cons] at hp
    rw [qr_po]
    by_cases c : b = a
    · subst c
      rw [if_pos rfl]
      have h0 : ∀ m : List Nat, (∀ c ∈ m, qr_fb s b c = true) → qr_lc s b m = 0 := by
        intro m
        induction m with
        | nil => intro _; rfl
        | cons c m ihm =>
          intro h
          have h1 : qr_cn s b c = 0 := by
            unfold qr_cn
            rw [if_neg (fun t => qr_fb_as t.2 (h c List.mem_cons_self))]
          show qr_cn s b c + qr_lc s b m = 0
          rw [h1, ihm (fun d hd => h d (List.mem_cons_of_mem _ hd))]
      have h1 : qr_cn s b b = 0 := by
        unfold qr_cn
        rw [if_neg (fun t => t.1 rfl)]
      show nI i = nI (i + (qr_cn s b b + qr_lc s b l))
      rw [h1, h0 l hp.1]
      rfl
    · rw [if_neg c]
      have hm2 : a ∈ l := by
        rcases List.mem_cons.mp hm with e | e
        · exact absurd e.symm c
        · exact e
      rw [ih (i + 1) hp.2 hm2]
      have h1 : qr_cn s a b = 1 := by
        unfold qr_cn
        rw [if_pos ⟨c, hp.1 a hm2⟩]
      show nI (i + 1 + qr_lc s a l) = nI (i + (qr_cn s a b + qr_lc s a l))
      rw [h1]
      congr 1
      omega
theorem po_n {a : Nat} : ∀ (l : List Nat) (i : Nat), ¬ a ∈ l → qr_po a l i = -1 := by
  intro l
  induction l with
  | nil => intro i _; rfl
  | cons b l ih =>
    intro i hm
    rw [qr_po, if_neg (fun e => hm (by rw [e]; exact List.mem_cons_self))]
    exact ih (i + 1) (fun h => hm (List.mem_cons_of_mem _ h))
theorem po_s {s : qs} {a : Nat} (ha : a < qn (s 0)) : qr_po a (qr_ln s) 0 = if qr_cb s a = true then nI (qr_ct s a (qn (s 0))) else -1 := by
  have h := qr_li_ln s
  by_cases c : qr_cb s a = true
  · rw [if_pos c, po_c _ 0 h.1 ((h.2 a).mpr ⟨ha, c⟩)]
    unfold qr_ln
    rw [lc_lf, Nat.zero_add]
  · rw [if_neg c, po_n _ 0 (fun t => c ((h.2 a).mp t).2)]
theorem rf_io_l {a n : Nat} (hp : qi_pr s) (hs : qi_sl s) (hn : qn (s 0) = n) (hn2 : n ≤ 16) (ha : a < n) : ∀ (m k : Nat), k ≤ n → n - k < m → qa_fX10_inOrder_4 (nI a) m (nI (qr_ct s a k)) (nI k) (qw ρ s y) = some (nI (qr_ct s a n)) := by
  have e0 : (qw ρ s y).1 (10, 22) ((Int32.ofInt 0)).toNatClampNeg = nI n := by rw [qw_s, ← hn, ← (qi_n hs).1]; rfl
  intro m
  induction m with
  | zero => intro k _ h; omega
  | succ m ih =>
    intro k hk hm
    rw [qa_fX10_inOrder_4, e0]
    by_cases c : k = n
    · subst c
      rw [if_pos (nI_le (Nat.le_refl _) (by omega))]
    · have nxt : ∀ i : Nat, qr_ct s a (k + 1) = qr_ct s a k + i → qa_fX10_inOrder_42 (nI a) (qa_fX10_inOrder_4 (nI a) m) (nI k) (nI i) (nI (qr_ct s a k)) (qw ρ s y) = some (nI (qr_ct s a n)) := by
        intro i hi
        unfold qa_fX10_inOrder_42
        dsimp only
        rw [nI_add, ← hi, qk_a1, nI_1]
        exact ih (k + 1) (by omega) (by omega)
      rw [if_neg (nI_ge (by omega) (by omega)), rf_cb (by omega), Option.bind_some]
      unfold qa_fX10_inOrder_41
      by_cases c1 : qr_cb s k = true
      · have e : qr_ct s a (k + 1) = qr_ct s a k + qr_cn s a k := by rw [qr_ct, if_pos c1]
        rw [c1, if_neg (show ¬ qa_bi true = 0 by decide)]
        by_cases c2 : k = a
        · have h0 : qr_cn s a k = 0 := by
            unfold qr_cn
            rw [if_neg (fun t => t.1 c2)]
          rw [if_pos (by rw [c2]), qk_a0]
          exact nxt 0 (by rw [e, h0])
        · rw [if_neg (fun t => c2 ((nI_eq (by omega) (by omega)).mp t)), rf_fb hp hs (by omega) (by omega), Option.bind_some]
          by_cases c3 : qr_fb s k a = true
          · have h0 : qr_cn s a k = 1 := by
              unfold qr_cn
              rw [if_pos ⟨c2, c3⟩]
            rw [c3, if_neg (show ¬ qa_bi true = 0 by decide), qk_a1]
            exact nxt 1 (by rw [e, h0])
          · have h0 : qr_cn s a k = 0 := by
              unfold qr_cn
              rw [if_neg (fun t => c3 t.2)]
            rw [Bool.eq_false_iff.mpr c3, if_pos (show qa_bi false = 0 from rfl), qk_a0]
            exact nxt 0 (by rw [e, h0])
      · have e : qr_ct s a (k + 1) = qr_ct s a k + 0 := by rw [qr_ct, if_neg c1]; rfl
        rw [Bool.eq_false_iff.mpr c1, if_pos (show qa_bi false = 0 from rfl), qk_a0]
        exact nxt 0 e
theorem rf_io {a : Nat} (hR : qj_R ρ s k U Z V L2 B) (hI : qi_I N s) (ha : a < qn (s 0)) : qa_fX10_inOrder (nI a) ρ = some (nI (qr_ct s a (qn (s 0)))) := by
  rw [jr_self hR]
  unfold qa_fX10_inOrder
  have h := rf_io_l (ρ := ρ) (y := ρ.1 (10, 21) 10) (a := a) hI.1.2.1 hI.1.1 rfl (qi_n hI.1.1).2 ha qa_fu 0 (by omega) (by have := (qi_n hI.1.1).2; unfold qa_fu; omega)
  exact h
theorem y_burnPlace {a : Int32} (h : qJ N X σ) : qY N X σ (fun σ => qa_fL_burnPlace a σ) (fun σ => qa_fX10_burnPlace a σ) := by
  obtain ⟨hX, s, k, f, U, Z, V, L2, B, hC, hR, hI⟩ := h
  have hs := hI.1.1.1.1
  have hn16 := (qi_n hs).2
  by_cases c : qi_is s a = true
  · obtain ⟨c1, c2, c3⟩ := is_n hs c
    obtain ⟨σ1, a1, a2⟩ := cl_pl (R := 1) hC.1.1 hI.1.1.1 c3
    have hF := qe_GF a2
    have hcc := cc_F hF (by omega) (by omega)
    have hC1 := jc_1 hC hF (rr_G hC.1 a2)
    have hR1 := jr_cc hR hcc
    rw [po_s c2] at a1
    have hct := ct_le s (qn a) (qn (s 0))
    have ecb : ∀ ρ : qa_T, qj_R ρ s k U Z V L2 B → qa_fX10_canBurn a (qa_wi ρ (10, 21) 9 0) = some (qr_cb s (qn a)) := fun ρ h => by
      rw [jr_self (jr_9 (v := 0) h), c1, rf_cb c3, ← c1]
    by_cases d : qr_cb s (qn a) = true
    · rw [if_pos d, ← c1] at a1
      have hio := rf_io (ρ := qa_wi (wl σ1 (nI (qr_ct s (qn a) (qn (s 0)))).toInt64) (10, 21) 9 0) (jr_9 (jw9 hR1)) hI.1.1 c2
      rw [← c1] at hio
      refine qY_0 (v := nI (qr_ct s (qn a) (qn (s 0)))) hX hcc hC1 ?_ ⟨qa_wi (wl σ1 (nI (qr_ct s (qn a) (qn (s 0)))).toInt64) (10, 21) 9 0, ?_, jr_9 (jw9 hR1), r9, rfl, wi_eq⟩ hI
      · unfold qa_fL_burnPlace qa_fX9_burnPlace qa_fX9_burnPlace_33
        rw [cl_is hC hs, c, if_neg (show ¬ qa_bi true = 0 by decide), a1, Option.bind_some]
        dsimp only
        have n1 : ¬ nI (qr_ct s (qn a) (qn (s 0))) = Int32.ofInt (-1) := fun t => by
          have ek := qz_nI (k := qr_ct s (qn a) (qn (s 0))) (by omega)
          rw [t, show ((Int32.ofInt (-1))).toInt = -1 from rfl] at ek
          omega
        rw [if_neg n1, qk_a1, if_neg (by decide), Option.bind_some]
        rfl
      · unfold qa_fX10_burnPlace qa_fX10_burnPlace_31
        dsimp only
        rw [rf_i1 (jw9 hR1) hs c]
        dsimp only
        rw [if_pos (show ¬ qa_bi true = 0 by decide), ecb _ (jw9 hR1), Option.bind_some, d, if_neg (show ¬ qa_bi true = 0 by decide), hio, Option.bind_some]
    · rw [if_neg d, ← c1] at a1
      refine qY_1 (code := 2) hX hcc hC1 ?_ (by decide) ⟨0, qa_wi (qa_wi σ1 (10, 21) 9 0) (10, 21) 9 2, ?_, jr_9 (jr_9 hR1), rr_t r9 r9, wi_eq⟩ hI
      · unfold qa_fL_burnPlace qa_fX9_burnPlace qa_fX9_burnPlace_33
        rw [cl_is hC hs, c, if_neg (show ¬ qa_bi true = 0 by decide), a1, Option.bind_some]
        dsimp only
        rw [qk_am1, if_pos rfl, qk_a0, if_pos rfl, Option.bind_some]
        rfl
      · unfold qa_fX10_burnPlace qa_fX10_burnPlace_31
        dsimp only
        rw [rf_i1 hR1 hs c]
        dsimp only
        rw [if_pos (show ¬ qa_bi true = 0 by decide), ecb _ hR1, Option.bind_some, Bool.eq_false_iff.mpr d, if_pos (show qa_bi false = 0 from rfl)]
        rfl
  · have cf := Bool.eq_false_iff.mpr c
    refine qY_1 (code := 1) hX cc_r hC ?_ (by decide) ⟨0, qa_wi σ (10, 21) 9 1, ?_, jr_9 hR, r9, wi_eq⟩ hI
    · unfold qa_fL_burnPlace qa_fX9_burnPlace
      rw [cl_is hC hs, cf, if_pos (show qa_bi false = 0 from rfl), Option.bind_some]
      rfl
    · unfold qa_fX10_burnPlace
      dsimp only
      rw [rf_i0 hR hs cf]
      dsimp only
      rw [if_neg (not_not_intro (show qa_bi false = 0 from rfl))]
      rfl
end QMC
