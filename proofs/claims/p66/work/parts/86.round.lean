/-! rounds as the law looks at them (p66) -/
section QKG
variable {σ σ1 σ2 σ' : qa_T} {s t : qs} {N M : Nat} {X : Nat → Int32} {a x v : Int32}
/-- a number brought below c -/
theorem and_31 (x : Int32) : ∃ k, k < 2147483648 ∧ x &&& (2147483647 : Int32) = nI k := by
  have e : x = nI x.toBitVec.toNat := Int32.toBitVec_inj.mp (by show _ = BitVec.ofNat 32 _; simp)
  refine ⟨x.toBitVec.toNat % 2147483648, Nat.mod_lt _ (by omega), ?_⟩
  have h1 : x.toBitVec.toNat &&& 2147483647 = x.toBitVec.toNat % 2147483648 := Nat.and_two_pow_sub_one_eq_mod _ 31
  rw [← h1]
  apply Int32.toBitVec_inj.mp
  rw [Int32.toBitVec_and]
  apply BitVec.eq_of_toNat_eq
  rw [BitVec.toNat_and]
  show x.toBitVec.toNat &&& 2147483647 = (x.toBitVec.toNat &&& 2147483647) % 2 ^ 32
  rw [Nat.mod_eq_of_lt]
  have := Nat.and_le_right (n := x.toBitVec.toNat) (m := 2147483647)
  omega
theorem l_low {c : Nat} {σ : qa_T} (a : Int32) (hc : 0 < c) (hc2 : c < 2147483648) : ∃ r, r < c ∧ qa_fL_low a (nI c) σ = some (nI r, σ) := by
  obtain ⟨k, hk, e⟩ := and_31 a
  refine ⟨k % c, Nat.mod_lt _ hc, ?_⟩
  have hn : ¬ nI c = 0 := fun t => by
    rw [qz_00, qz_nI hc2] at t
    omega
  unfold qa_fL_low
  rw [e, if_neg hn]
  have g : nI k - nI k / nI c * nI c = nI (k % c) := by
    rw [qz_eq, qz_mod (by rw [qz_nI hk]; omega) (by rw [qz_nI hc2]; omega), qz_nI hk, qz_nI hc2, qz_nI (by have := Nat.mod_lt k hc; omega)]
    omega
  rw [g]
/-- the next use -/
theorem nf_spec (s : qs) (a : Nat) : ∀ (m k : Nat), (∃ i, k ≤ i ∧ i < k + m ∧ qr_sa s i = nI a) → k ≤ qr_nf s a m k ∧ qr_nf s a m k < k + m ∧ qr_sa s (qr_nf s a m k) = nI a ∧ ∀ i, k ≤ i → i < qr_nf s a m k → ¬ qr_sa s i = nI a := by
  intro m
  induction m with
  | zero =>
    rintro k ⟨i, h1, h2, _⟩
    omega
  | succ m ih =>
    rintro k ⟨i, h1, h2, h3⟩
    rw [qr_nf]
    by_cases c : qr_sa s k = nI a
    · rw [if_pos c]
      exact ⟨by omega, by omega, c, fun i hi hi2 => by omega⟩
    · rw [if_neg c]
      have hik : ¬ i = k := fun t => c (t ▸ h3)
      obtain ⟨g1, g2, g3, g4⟩ := ih (k + 1) ⟨i, by omega, by omega, h3⟩
      refine ⟨by omega, by omega, g3, fun i hi hi2 => ?_⟩
      by_cases e : i = k
      · rw [e]
        exact c
      · exact g4 i (by omega) hi2
theorem nx_in {j r : Nat} (hp : qi_pr s) (hr : r < qn (s 113)) (h : s (114 + r) = nI j) : 1 ≤ qr_nx s j ∧ qr_nx s j ≤ qn (s 113) ∧ qr_sa s (qr_nx s j) = nI j ∧ ∀ i, 1 ≤ i → i < qr_nx s j → ¬ qr_sa s i = nI j := by
  have h0 := qn_int hp.1
  have hc : 0 < (s 113).toInt := by omega
  have m1 := Int.emod_nonneg ((r : Int) - (s 138).toInt - 1) (show (s 113).toInt ≠ 0 by omega)
  have m2 := Int.emod_lt_of_pos ((r : Int) - (s 138).toInt - 1) hc
  obtain ⟨i, hi⟩ : ∃ i : Nat, (i : Int) = ((r : Int) - (s 138).toInt - 1) % (s 113).toInt + 1 := ⟨(((r : Int) - (s 138).toInt - 1) % (s 113).toInt + 1).toNat, by omega⟩
  have ei : qr_ix s i = r := by
    unfold qr_ix
    rw [hi, show (s 138).toInt + (((r : Int) - (s 138).toInt - 1) % (s 113).toInt + 1) = ((r : Int) - (s 138).toInt - 1) % (s 113).toInt + ((s 138).toInt + 1) by omega, Int.emod_add_emod, show (r : Int) - (s 138).toInt - 1 + ((s 138).toInt + 1) = r by omega, Int.emod_eq_of_lt (by omega) (by omega)]
    exact Int.toNat_natCast _
  have g := nf_spec s j (qn (s 113)) 1 ⟨i, by omega, by omega, by unfold qr_sa; rw [ei]; exact h⟩
  unfold qr_nx
  exact ⟨g.1, by omega, g.2.2.1, g.2.2.2⟩
/-- the slide so many places ahead, as the law asks for it -/
theorem r_at {k : Nat} (h : qK N X s σ) (h0 : 0 < qn (s 113)) (hk : 1 ≤ k) (hk2 : k ≤ 1000) : qa_fX9_slideAt ((s 138 + nI k) - (s 138 + nI k) / s 113 * s 113) σ = (.inl (qr_sa s k), σ) := by
  have hp := (qK_i h).2.1
  have h1 := qn_int hp.1
  rw [rf_pi hp (by omega) hk hk2]
  exact k_slideAt h (qi_ixb hp (by omega) k).1
theorem sub_1 {k : Nat} (hk : k < 2147483647) : nI (k + 1) - Int32.ofInt 1 = nI k := nI_pred k
theorem m_0 (m : Nat) (hm : m < 2147483648) : FP.dmul FP.dconst0 (FP.i2d (nI m)) = FP.dconst0 := by
  have d2 := (dv_D (n := m) (e := 0) (by omega) (by omega) (by omega)).1
  show UInt64.ofNat (FP.Core.encode FP.Core.b64 (FP.Core.round FP.Core.b64 (FP.Core.exactProduct (.fin false 0 (-1074)) (FP.Core.decode FP.Core.b64 (FP.i2d (nI m)).toNat)))) = _
  rw [i2_d hm, d2]
  unfold nf
  by_cases c : m = 0
  · rw [if_pos c]
    rfl
  · rw [if_neg c]
    show UInt64.ofNat (FP.Core.encode FP.Core.b64 (FP.Core.roundRatio FP.Core.b64 (false != false) (0 * (m * 2 ^ lz m)) 1 (-1074 + (0 - (lz m : Int))))) = _
    rw [Nat.zero_mul]
    unfold FP.Core.roundRatio
    rw [if_pos rfl]
    rfl
theorem nn_0 : qa_nn FP.dconst0 := by decide +kernel
theorem c_00 : (Op.cmpValue (FP.dcmp FP.dconst0 FP.dconst0) .l) = 0 := by decide +kernel
theorem c_01 : ¬ (Op.cmpValue (FP.dcmp FP.dconst0 (FP.i2d (nI 0 - Int32.ofInt 1))) .l) ≤ 0 := by decide +kernel
theorem c_02 : ¬ 0 ≤ (Op.cmpValue (FP.dcmp FP.dconst0 (FP.i2d (nI 0 + Int32.ofInt 1))) .g) := by decide +kernel
/-- the share of hits is as the law asks -/
theorem r_share {F G : Option (Bool × qa_T)} (h : qK N X s σ) (hN : N + 1000 < 1073741824) : (if ¬ ((qa_fX9_hits σ) + (qa_fX9_misses σ)) = 0 then
          (qa_fX9_hitShare σ).bind fun c53 =>
          if ¬ qa_nn (FP.dmul c53 (FP.i2d ((qa_fX9_hits σ) + (qa_fX9_misses σ)))) then none else
          if (Op.cmpValue (FP.dcmp (FP.dmul c53 (FP.i2d ((qa_fX9_hits σ) + (qa_fX9_misses σ)))) (FP.i2d ((qa_fX9_hits σ) - (Int32.ofInt 1)))) .l) ≤ 0 then
            F
          else
            (qa_fX9_hitShare σ).bind fun c57 =>
            if ¬ qa_nn (FP.dmul c57 (FP.i2d ((qa_fX9_hits σ) + (qa_fX9_misses σ)))) then none else
            if 0 ≤ (Op.cmpValue (FP.dcmp (FP.dmul c57 (FP.i2d ((qa_fX9_hits σ) + (qa_fX9_misses σ)))) (FP.i2d ((qa_fX9_hits σ) + (Int32.ofInt 1)))) .g) then
              F
            else
              G
        else
          (qa_fX9_hitShare σ).bind fun c69 =>
          if ¬ (Op.cmpValue (FP.dcmp c69 FP.dconst0) .l) = 0 then
            F
          else
            G) = G := by
  have hct := (qK_i h).2.2.2.2.2.2
  obtain ⟨t1, t2, t3, t4, t5, t6⟩ := hct
  have eh := qn_of t1
  have em := qn_of t3
  have ih := qn_int t1
  have im := qn_int t3
  have e9 : σ.1 (1, 15) 1 = s 169 := ra_169 (qK_A h)
  have e10 : σ.1 (1, 15) 2 = s 170 := ra_170 (qK_A h)
  unfold qa_fX9_hitShare qa_fX0_shareOfHits qa_fX0_shareOfHits_26
  dsimp only
  rw [e9, e10, k_hits h, k_misses h]
  generalize qn (s 169) = p at eh ih
  generalize qn (s 170) = q at em im
  rw [eh, em, nI_add]
  by_cases c0 : p + q = 0
  · have e0 : nI (p + q) = 0 := by rw [c0]; rfl
    rw [e0, if_neg (not_not_intro rfl), if_pos (by decide), Option.bind_some, Option.bind_some, if_neg (not_not_intro c_00)]
  · have n0 : ¬ nI (p + q) = 0 := fun t => by
      rw [qz_00, qz_nI (by omega)] at t
      omega
    rw [if_pos n0, if_neg (nI_nle (by omega) (by omega))]
    by_cases cp : p = 0
    · subst cp
      rw [dv_d0 (m := 0 + q) (by omega) (by omega), if_neg (not_not_intro nn_0), Option.bind_some, Option.bind_some, m_0 _ (by omega), if_neg (not_not_intro nn_0), if_neg c_01, Option.bind_some, m_0 _ (by omega), if_neg (not_not_intro nn_0), if_neg c_02]
    · obtain ⟨g0, c, k, g1, g2, g3, g4, g5, g6⟩ := sh_m (h := p) (m := p + q) (by omega) (by omega) (by omega)
      have gn : qa_nn (dv c (-(k : Int))) := dv_nn g2 (by omega) (by omega)
      obtain ⟨p, rfl⟩ : ∃ p', p = p' + 1 := ⟨p - 1, by omega⟩
      rw [Nat.add_sub_cancel] at g5
      have f1 : ¬ (Op.cmpValue (FP.dcmp (dv c (-(k : Int))) (FP.i2d (nI (p + 1) - Int32.ofInt 1))) .l) ≤ 0 := by
        rw [sub_1 (by omega), i2_d (by omega), dv_cmp g1 g2 g3 (by omega), cq_g (by omega)]
        decide
      have f2 : ¬ 0 ≤ (Op.cmpValue (FP.dcmp (dv c (-(k : Int))) (FP.i2d (nI (p + 1) + Int32.ofInt 1))) .g) := by
        rw [show (Int32.ofInt 1) = nI 1 from rfl, nI_add, i2_d (by omega), dv_cmp g1 g2 g3 (by omega), cq_l (by omega)]
        decide
      rw [if_neg (not_not_intro g0), Option.bind_some, Option.bind_some, g4, if_neg (not_not_intro gn), if_neg f1, Option.bind_some, g4, if_neg (not_not_intro gn), if_neg f2]
/-- the orders' misses, one by one -/
theorem r_mis {m : Nat} {x : Int32} (h : qK N X s σ) (d : qr_cg s = true) (hN : N + 10000 < 2147483647) (hx : x = 0 ∨ x = 1 ∨ x = 2) : ∃ σ', qa_fL_isRoundSo_203 a (m + 1) (s 113) (Int32.ofInt 1) (qv_bo s) x σ = qa_fL_isRoundSo_203 a m (s 113) (Int32.ofInt 1) (qv_bo s) (x + Int32.ofInt 1) σ' ∧ qK N X s σ' := by
  have hp := (qK_i h).2.1
  have hp24 := qi_p hp
  have hmx : ∀ y : Int32, qr_mx s y < 1000 := fun y => by have := mx_le s y; omega
  obtain ⟨b1, b2⟩ := bo_s s x hmx hx
  have rng : ∀ y : Int32, (y = 0 ∨ y = 1 ∨ y = 2) → 0 ≤ y.toInt ∧ y.toInt ≤ 2 := by
    rintro y (rfl | rfl | rfl) <;> decide
  obtain ⟨σ1, p1, p2⟩ := k_misses_ h (rng x hx) d hN
  obtain ⟨σ2, q1, q2⟩ := k_misses_ p2 (rng _ b1) d hN
  obtain ⟨σ3, r1, r2⟩ := k_misses_ q2 (rng _ b1) d hN
  have h3 : ¬ Int32.ofInt 3 ≤ x := by
    rcases hx with rfl | rfl | rfl <;> decide
  have n0 : ¬ nI (qr_mx s x) < 0 := fun t => by
    rw [qz_lt, qk_t0, qz_nI (by have := hmx x; omega)] at t
    omega
  have n1 : ¬ s 113 < nI (qr_mx s x) := fun t => by
    have := mx_le s x
    have := qn_int hp.1
    rw [qz_lt, qz_nI (by have := hmx x; omega)] at t
    omega
  have lt : nI (qr_mx s (qv_bo s)) < nI (qr_mx s x) ↔ qr_mx s (qv_bo s) < qr_mx s x := by
    rw [qz_lt, qz_nI (by have := hmx (qv_bo s); omega), qz_nI (by have := hmx x; omega)]
    omega
  by_cases c : qr_mx s (qv_bo s) < qr_mx s x
  · refine ⟨σ2, ?_, q2⟩
    rw [qa_fL_isRoundSo_203, if_neg h3, p1, Option.bind_some]
    dsimp only
    rw [if_neg (by decide), if_neg n0, if_neg n1, q1, Option.bind_some]
    dsimp only
    rw [if_pos (lt.mpr c)]
    rfl
  · obtain ⟨e1, e2⟩ := b2.resolve_left c
    refine ⟨σ3, ?_, r2⟩
    rw [qa_fL_isRoundSo_203, if_neg h3, p1, Option.bind_some]
    dsimp only
    rw [if_neg (by decide), if_neg n0, if_neg n1, q1, Option.bind_some]
    dsimp only
    rw [if_neg (fun t => c (lt.mp t)), r1, Option.bind_some]
    dsimp only
    rw [if_neg (not_not_intro (by rw [e1])), if_neg (fun t => by
      rw [qz_lt] at t
      rw [qz_le] at e2
      omega)]
    rfl
theorem r_275 : qa_fL_isRoundSo_275 a (Int32.ofInt 1) σ = some (true, σ) := by
  unfold qa_fL_isRoundSo_275
  rw [if_neg (by decide), if_pos (by decide)]
theorem r_184 (h : qK N X s σ) (h0 : 0 < qn (s 113)) (hN : N + 10000 < 2147483647) : ∃ σ', qa_fL_isRoundSo_184_1 a (s 113) σ = some (true, σ') ∧ qK N X s σ' := by
  unfold qa_fL_isRoundSo_184_1
  rw [l_told0 h, Option.bind_some]
  dsimp only
  by_cases c : 0 ≤ s 142
  · rw [if_pos c]
    exact ⟨σ, r_275, h⟩
  · have hp := (qK_i h).2.1
    have hl := (qK_i h).2.2.2.1
    have d : qr_cg s = true := by
      unfold qr_cg
      rw [Bool.and_eq_true]
      refine ⟨decide_eq_true (fun t => ?_), decide_eq_true ?_⟩
      · have := qn_int hp.1
        rw [qz_l0] at t
        omega
      · rw [qz_le, qk_t0] at c
        have := hl.1
        rw [qz_m1]
        omega
    obtain ⟨σ1, p1, p2⟩ := k_best h d hN
    obtain ⟨σ2, g1, g2⟩ := r_mis (a := a) (m := 59) (x := 0) p2 d hN (Or.inl rfl)
    obtain ⟨σ3, q1, q2⟩ := r_mis (a := a) (m := 58) (x := 1) g2 d hN (Or.inr (Or.inl rfl))
    obtain ⟨σ4, w1, w2⟩ := r_mis (a := a) (m := 57) (x := 2) q2 d hN (Or.inr (Or.inr rfl))
    refine ⟨σ4, ?_, w2⟩
    rw [if_neg c, p1, Option.bind_some]
    have e1 : (0 : Int32) + Int32.ofInt 1 = 1 := by decide
    have e2 : (1 : Int32) + Int32.ofInt 1 = 2 := by decide
    have e3 : (2 : Int32) + Int32.ofInt 1 = 3 := by decide
    rw [e1] at g1
    rw [e2] at q1
    rw [e3] at w1
    show qa_fL_isRoundSo_203 a (59 + 1) (s 113) (Int32.ofInt 1) (qv_bo s) 0 σ1 = _
    rw [g1]
    show qa_fL_isRoundSo_203 a (58 + 1) (s 113) (Int32.ofInt 1) (qv_bo s) 1 σ2 = _
    rw [q1]
    show qa_fL_isRoundSo_203 a (57 + 1) (s 113) (Int32.ofInt 1) (qv_bo s) 2 σ3 = _
    rw [w1]
    show qa_fL_isRoundSo_203 a (56 + 1) (s 113) (Int32.ofInt 1) (qv_bo s) 3 σ4 = _
    rw [qa_fL_isRoundSo_203, if_pos (by decide)]
    exact r_275
/-- no earlier use -/
theorem r_66 {j n : Nat} (h : qK N X s σ) (h0 : 0 < qn (s 113)) (hn : n ≤ qn (s 113)) (hx : ∀ i, 1 ≤ i → i < n → ¬ qr_sa s i = nI j) (hN : N + 10000 < 1073741824) : ∀ (m k : Nat), 1 ≤ k → k ≤ n → n - k < m → ∃ σ', qa_fL_isRoundSo_66 a m (s 113) (nI j) (nI n) (Int32.ofInt 1) (nI k) σ = some (true, σ') ∧ qK N X s σ' := by
  have hp := (qK_i h).2.1
  have hp24 := qi_p hp
  have z : ¬ s 113 = 0 := fun t => by
    have e : qn (s 113) = 0 := by rw [t]; rfl
    omega
  intro m
  induction m with
  | zero => intro k _ _ hm; omega
  | succ m ih =>
    intro k hk1 hk hm
    by_cases c : k = n
    · subst c
      obtain ⟨σ1, g1, g2⟩ := r_184 (a := a) h h0 (by omega)
      refine ⟨σ1, ?_, g2⟩
      rw [qa_fL_isRoundSo_66, if_pos (nI_le (Nat.le_refl _) (by omega))]
      dsimp only
      rw [if_neg (by decide)]
      refine (r_share h (by omega)).trans ?_
      unfold qa_fL_isRoundSo_179
      exact g1
    · obtain ⟨σ1, g1, g2⟩ := ih (k + 1) (by omega) (by omega) (by omega)
      refine ⟨σ1, ?_, g2⟩
      rw [qa_fL_isRoundSo_66, if_neg (nI_ge (by omega) (by omega)), if_neg (by decide), l_show h, Option.bind_some]
      dsimp only
      rw [if_neg z, r_at h h0 hk1 (by omega), Option.bind_some]
      dsimp only
      rw [if_neg (hx k hk1 (by omega))]
      unfold qa_fL_isRoundSo_100_1
      dsimp only
      rw [← nI_add] at g1
      exact g1
theorem l_roundSo (h : qK N X s σ) (hN : N + 10000 < 1073741824) : ∃ σ', qa_fL_isRoundSo a σ = some (true, σ') ∧ qK N X s σ' := by
  have hp := (qK_i h).2.1
  have hp24 := qi_p hp
  have hn := n16 h
  unfold qa_fL_isRoundSo
  dsimp only
  rw [k_places h]
  by_cases z : s 113 = 0
  · rw [if_neg (not_not_intro z)]
    exact ⟨σ, rfl, h⟩
  · have h1 := qn_int hp.1
    have h0 : 0 < qn (s 113) := by
      have : ¬ (s 113).toInt = 0 := fun t => z (qz_00.mpr t)
      omega
    obtain ⟨r, r1, r2⟩ := l_low (σ := σ) a h0 (by omega)
    rw [← hp24.1] at r2
    have hr := hp.2.2.2.2 r (by omega)
    have es := qn_of hr.1
    have is := qn_int hr.1
    have hi0 := qn_int (qK_s h).1
    obtain ⟨x1, x2, x3, x4⟩ := nx_in hp r1 es
    obtain ⟨σ1, g1, g2⟩ := r_66 (a := a) (j := qn (s (114 + r))) h h0 x2 x4 hN qa_gu 1 (by omega) x1 (by unfold qa_gu; omega)
    refine ⟨σ1, ?_, g2⟩
    rw [if_pos z, r2, Option.bind_some]
    dsimp only
    rw [k_slideAt h r1, Option.bind_some]
    dsimp only
    generalize hj : qn (s (114 + r)) = j at *
    rw [es, k_nextUse h (by omega) x2, Option.bind_some]
    dsimp only
    rw [if_neg (nI_nle x1 (by omega)), if_neg (fun t => by rw [qz_lt, qz_nI (by omega)] at t; omega), l_show h, Option.bind_some]
    dsimp only
    rw [if_neg z, r_at h h0 x1 (by omega), Option.bind_some]
    dsimp only
    rw [if_neg (not_not_intro x3)]
    exact g1
end QKG
