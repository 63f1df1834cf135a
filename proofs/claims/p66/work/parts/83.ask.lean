/-! what is asked for (p66): the law's set of bits. The rows bt, b_ext, b_or, b_and, b_big, b_0, s_l, b_shl, b_sshr began as the kit's rows to paste. -/
section QKD
variable {σ σ1 σ2 σ' : qa_T} {s t : qs} {N M : Nat} {X : Nat → Int32} {a x v : Int32}
def bt (x : Int32) (i : Nat) : Bool := x.toBitVec.getLsbD i
theorem b_ext {x y : Int32} (h : ∀ i, i < 32 → bt x i = bt y i) : x = y := Int32.toBitVec_inj.mp (BitVec.eq_of_getLsbD_eq (fun i hi => h i hi))
theorem b_or (x y : Int32) (i : Nat) : bt (x ||| y) i = (bt x i || bt y i) := by unfold bt; rw [Int32.toBitVec_or, BitVec.getLsbD_or]
theorem b_and (x y : Int32) (i : Nat) : bt (x &&& y) i = (bt x i && bt y i) := by unfold bt; rw [Int32.toBitVec_and, BitVec.getLsbD_and]
theorem b_big {x : Int32} {i : Nat} (h : 32 ≤ i) : bt x i = false := BitVec.getLsbD_of_ge _ _ h
theorem b_0 (i : Nat) : bt 0 i = false := BitVec.getLsbD_zero
theorem s_l : ∀ n, n < 32 → ((nI n &&& 31).toBitVec.smod 32).toNat = n := by decide +kernel
theorem b_shl (n : Nat) (hn : n < 32) (x : Int32) {i : Nat} (hi : i < 32) : bt (x <<< (nI n &&& 31)) i = (decide (n ≤ i) && bt x (i - n)) := by
  unfold bt
  rw [Int32.toBitVec_shiftLeft]
  show (x.toBitVec <<< ((nI n &&& 31).toBitVec.smod 32).toNat).getLsbD i = _
  rw [s_l n hn, BitVec.getLsbD_shiftLeft]
  rcases Nat.lt_or_ge i n with h | h
  · simp [h, Nat.not_le.mpr h]
  · simp [hi, h, Nat.not_lt.mpr h]
theorem b_sshr (n : Nat) (hn : n < 32) (x : Int32) {i : Nat} (hi : i < 32) : bt (x >>> (nI n &&& 31)) i = if n + i < 32 then bt x (n + i) else bt x 31 := by
  unfold bt
  rw [Int32.toBitVec_shiftRight]
  show (x.toBitVec.sshiftRight ((nI n &&& 31).toBitVec.smod 32).toNat).getLsbD i = _
  rw [s_l n hn, BitVec.getLsbD_sshiftRight, BitVec.msb_eq_getLsbD_last]
  simp [hi]
theorem b_1 (i : Nat) : bt 1 i = decide (i = 0) := by
  rcases Nat.lt_or_ge i 32 with h | h
  · exact (by decide +kernel : ∀ i, i < 32 → bt 1 i = decide (i = 0)) i h
  · rw [b_big h, decide_eq_false (by omega)]
theorem bt_and1 (x : Int32) : (x &&& 1 = 0) ↔ bt x 0 = false := by
  constructor
  · intro h
    have e := b_and x 1 0
    rw [h, b_0, b_1, decide_eq_true rfl, Bool.and_true] at e
    exact e.symm
  · intro h
    refine b_ext (fun i hi => ?_)
    rw [b_and, b_0, b_1]
    by_cases e : i = 0
    · rw [e, h]
      rfl
    · rw [decide_eq_false e, Bool.and_false]
theorem bit_no {x : Int32} {b : Nat} (hb : b < 32) : ((x >>> (nI b &&& 31)) &&& 1 = 0) ↔ bt x b = false := by
  rw [bt_and1, b_sshr b hb x (by omega), if_pos (by omega), Nat.add_zero]
theorem bit_or {x : Int32} {c b : Nat} (hc : c < 32) (hb : b < 32) : bt (x ||| ((1 : Int32) <<< (nI c &&& 31))) b = (bt x b || decide (b = c)) := by
  rw [b_or, b_shl c hc 1 hb, b_1]
  congr 1
  by_cases e : b = c
  · rw [decide_eq_true e, decide_eq_true (show c ≤ b by omega), decide_eq_true (show b - c = 0 by omega)]
    rfl
  · rw [decide_eq_false e]
    by_cases d : c ≤ b
    · rw [decide_eq_false (show ¬ b - c = 0 by omega), Bool.and_false]
    · rw [decide_eq_false d, Bool.false_and]
theorem l_ia_l {j q : Nat} (h : qK N X s σ) (hq : qn (s 146) = q) : ∀ (m k : Nat) (b : Bool), k ≤ q → q - k < m → qa_fL_isAsked_4 (nI j) m (qa_bi b) (nI k) σ = some (b || (qr_qf s j (q - k) k).isSome, σ) := by
  have hqu := (qK_i h).2.2.2.2.1
  have h16 := (qi_q hqu).2
  have e6 : s 146 = nI q := by rw [← hq]; exact (qi_q hqu).1
  intro m
  induction m with
  | zero => intro k b _ hm; omega
  | succ m ih =>
    intro k b hk hm
    rw [qa_fL_isAsked_4, k_asked h, e6]
    by_cases c : k = q
    · subst c
      rw [if_pos (nI_le (Nat.le_refl _) (by omega)), Nat.sub_self]
      cases b
      · rw [if_pos (show qa_bi false = 0 from rfl)]
        rfl
      · rw [if_neg nt, if_pos (show qa_bi true = 1 from rfl)]
        rfl
    · rw [if_neg (nI_ge (by omega) (by omega)), show q - k = (q - (k + 1)) + 1 by omega]
      unfold qr_qf
      cases b
      · rw [if_neg (not_not_intro (show qa_bi false = 0 from rfl)), k_askedAt h (by omega), Option.bind_some]
        dsimp only
        by_cases d : s (147 + k) = nI j
        · rw [if_neg (not_not_intro d), if_pos d]
          unfold qa_fL_isAsked_25 qa_fL_isAsked_30
          dsimp only
          have e := ih (k + 1) true (by omega) (by omega)
          rw [← nI_add] at e
          exact e
        · rw [if_pos d, if_neg d]
          unfold qa_fL_isAsked_30_1
          dsimp only
          have e := ih (k + 1) false (by omega) (by omega)
          rw [← nI_add] at e
          exact e
      · rw [if_pos nt]
        unfold qa_fL_isAsked_25 qa_fL_isAsked_30
        dsimp only
        have e := ih (k + 1) true (by omega) (by omega)
        rw [← nI_add] at e
        exact e
theorem l_isAsked {j : Nat} (h : qK N X s σ) : qa_fL_isAsked (nI j) σ = some ((qr_qp s j).isSome, σ) := by
  have h16 := (qi_q (qK_i h).2.2.2.2.1).2
  unfold qa_fL_isAsked
  exact l_ia_l h rfl qa_gu 0 false (by omega) (by unfold qa_gu; omega)
theorem l_as_l {q : Nat} (h : qK N X s σ) (hq : qn (s 146) = q) : ∀ (m k : Nat) (x1 : Int32), k ≤ q → q - k < m → (∀ b, b < 16 → bt x1 b = true → ∃ i, i < k ∧ s (147 + i) = nI b) → qa_fL_isAskedSo_25 m x1 (Int32.ofInt 1) (nI k) σ = some (true, σ) := by
  have hqu := (qK_i h).2.2.2.2.1
  have h16 := (qi_q hqu).2
  have hn := n16 h
  have hs := qK_s h
  have hi := qn_int hs.1
  have hqi := qn_int hqu.1
  have e6 : s 146 = nI q := by rw [← hq]; exact (qi_q hqu).1
  intro m
  induction m with
  | zero => intro k x1 _ hm; omega
  | succ m ih =>
    intro k x1 hk hm hb
    rw [qa_fL_isAskedSo_25, k_asked h, e6]
    by_cases c : k = q
    · subst c
      rw [if_pos (nI_le (Nat.le_refl _) (by omega)), if_neg (by decide), if_pos (by decide)]
    · obtain ⟨r1, r2, r3, r4, r5⟩ := hqu.2.2.1 k (by omega)
      have er := qn_of r1
      have r6 := qn_int r1
      have ha : qn (s (147 + k)) < qn (s 0) := by omega
      have hbit : bt x1 (qn (s (147 + k))) = false := by
        cases e : bt x1 (qn (s (147 + k)))
        · rfl
        · exfalso
          obtain ⟨i, i1, i2⟩ := hb _ (by omega) e
          rw [← er] at i2
          exact hqu.2.2.2 i k i1 (by omega) i2
      rw [if_neg (nI_ge (by omega) (by omega)), k_askedAt h (by omega), Option.bind_some]
      dsimp only
      generalize ha2 : qn (s (147 + k)) = d at er ha hbit r5
      rw [er] at r3 r4 ⊢
      have hld : qr_ld s d = false := by
        cases e : qr_ld s d
        · rfl
        · rw [ld_i] at e
          rw [e] at r5
          exact absurd r5.symm i10
      have hb1 : ((x1 >>> (nI d &&& 31)) &&& Int32.ofInt 1) = 0 := (bit_no (by omega)).mpr hbit
      rw [if_neg (by decide), if_neg (not_not_intro hb1), k_isLoaded h ha, Option.bind_some]
      dsimp only
      rw [hld, if_neg (not_not_intro (show qa_bi false = 0 from rfl)), l_told3 h, Option.bind_some]
      dsimp only
      rw [if_neg (fun t => r4 t.symm), l_told0 h, Option.bind_some]
      dsimp only
      rw [if_neg (fun t => r3 t.symm)]
      unfold qa_fL_isAskedSo_87_1
      dsimp only
      have e := ih (k + 1) (x1 ||| ((Int32.ofInt 1) <<< (nI d &&& 31))) (by omega) (by omega) (fun b hb16 hbt => by
        rw [show (Int32.ofInt 1) = (1 : Int32) from rfl, bit_or (by omega) (by omega), Bool.or_eq_true, decide_eq_true_eq] at hbt
        rcases hbt with y | y
        · obtain ⟨i, i1, i2⟩ := hb b hb16 y
          exact ⟨i, by omega, i2⟩
        · exact ⟨k, by omega, by rw [y]; exact er⟩)
      rw [← nI_add] at e
      exact e
theorem l_askedSo (h : qK N X s σ) : qa_fL_isAskedSo σ = some (true, σ) := by
  have hqu := (qK_i h).2.2.2.2.1
  have h16 := (qi_q hqu).2
  have g : qa_fL_isAskedSo_17 (Int32.ofInt 0) σ = some (true, σ) := by
    unfold qa_fL_isAskedSo_17 qa_fL_isAskedSo_22
    exact l_as_l h rfl qa_gu 0 _ (by omega) (by unfold qa_gu; omega) (fun b hb t => by
      rw [show (Int32.ofInt 0) = (0 : Int32) from rfl, b_0] at t
      cases t)
  unfold qa_fL_isAskedSo
  rw [k_asked h]
  by_cases c : s 146 = 0
  · rw [if_pos c]
    exact g
  · rw [if_neg c, l_told3 h, Option.bind_some]
    dsimp only
    have h4 : ¬ s 144 = -1 := fun t => by
      have h5 := (h.2.2.1.2.1 t).2.1
      have h6 := (qi_q hqu).1
      rw [h5] at h6
      exact c h6
    have h7 := (qK_i h).2.2.2.1.2.2.1
    rw [qz_m1] at h4
    rw [if_neg (fun t => by rw [qz_lt, qk_t0] at t; omega)]
    exact g
end QKD
