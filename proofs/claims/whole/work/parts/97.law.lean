/-! the law's calls (12): the cases of the law -/
section QMI
variable {σ σ' τ : qa_T} {X : Nat → Int32} {N M L p : Nat} {k23 : Int32 → qa_T → Option (Bool × qa_T)} {x r code : Int32} {v : Int64}
/-- the comparison at the end of a case -/
theorem la_e {K K2 : Option (Bool × qa_T)} (h1 : qa_fX10_thrown σ = code) (h2 : code = 0 → σ.2 (10, 29) 0 = v) : (if qa_fX10_thrown σ = code then if ¬ code = 0 then K else if (lg_cmp (σ.2 (10, 29) ((Int32.ofInt 0)).toNatClampNeg) v) = 0 then K else K2 else K2) = K := by
  rw [if_pos h1]
  by_cases c : code = 0
  · have e : σ.2 (10, 29) ((Int32.ofInt 0)).toNatClampNeg = v := h2 c
    rw [if_neg (not_not_intro c), e, lg_r, if_pos rfl]
  · rw [if_pos c]
theorem la_p {i : Nat} : nI p + Int32.ofInt (i : Int) = nI (p + i) := nI_add p i
theorem la_1 : nI p + Int32.ofInt 1 = nI (p + 1) := nI_add p 1
theorem la_2 : nI p + Int32.ofInt 2 = nI (p + 2) := nI_add p 2
theorem la_3 : nI p + Int32.ofInt 3 = nI (p + 3) := nI_add p 3
theorem ca_304 (h : qJ N X σ) (hp : p + 3 < L) (hL : L < 2147483648) : qS N X k23 (nI p) (qa_fL_law_304 L k23 (nI p) σ) := by
  obtain ⟨code, τ, r, τ', a1, a2, a3, a4, a5, a6⟩ := y_addSlide (c1 := X (p + 1)) (c2 := X (p + 2)) (c3 := X (p + 3)) h
  have hX := h.1
  try dsimp only at a1 a3
  refine ⟨τ', ?_, a6⟩
  unfold qa_fL_law_304 qa_fL_law_381 qa_fL_law_2682
  rw [la_1, la_2, la_3, qz_ifn (by omega) (by omega), qz_ifn (by omega) (by omega), qz_ifn (by omega) (by omega), nI_clamp (n := p + 1) (by omega), nI_clamp (n := p + 2) (by omega), nI_clamp (n := p + 3) (by omega), hX, a1, Option.bind_some]
  try dsimp only
  rw [qz_ifn (by omega) (by omega), qz_ifn (by omega) (by omega), qz_ifn (by omega) (by omega), a2, a3, Option.bind_some]
  try dsimp only
  exact la_e a4 a5
theorem ca_384 (h : qJ N X σ) (hp : p + 3 < L) (hL : L < 2147483648) : qS N X k23 (nI p) (qa_fL_law_384 L k23 (nI p) σ) := by
  obtain ⟨code, τ, r, τ', a1, a2, a3, a4, a5, a6⟩ := y_insert (a := X (p + 1)) (b := X (p + 2)) h
  have hX := h.1
  try dsimp only at a1 a3
  refine ⟨τ', ?_, a6⟩
  unfold qa_fL_law_384 qa_fL_law_449 qa_fL_law_2682
  rw [la_1, la_2, qz_ifn (by omega) (by omega), qz_ifn (by omega) (by omega), nI_clamp (n := p + 1) (by omega), nI_clamp (n := p + 2) (by omega), hX, a1, Option.bind_some]
  try dsimp only
  rw [qz_ifn (by omega) (by omega), qz_ifn (by omega) (by omega), a2, a3, Option.bind_some]
  try dsimp only
  exact la_e a4 a5
theorem ca_452 (h : qJ N X σ) (hp : p + 3 < L) (hL : L < 2147483648) : qS N X k23 (nI p) (qa_fL_law_452 L k23 (nI p) σ) := by
  obtain ⟨code, τ, r, τ', a1, a2, a3, a4, a5, a6⟩ := y_takeOut (a := X (p + 1)) h
  have hX := h.1
  try dsimp only at a1 a3
  refine ⟨τ', ?_, a6⟩
  unfold qa_fL_law_452 qa_fL_law_505 qa_fL_law_2682
  rw [la_1, qz_ifn (by omega) (by omega), nI_clamp (n := p + 1) (by omega), hX, a1, Option.bind_some]
  try dsimp only
  rw [qz_ifn (by omega) (by omega), a2, a3, Option.bind_some]
  try dsimp only
  exact la_e a4 a5
theorem ca_508 (h : qJ N X σ) (hp : p + 3 < L) (hL : L < 2147483648) (hN : N + 1000 < 2147483647) : qS (N + 2) X k23 (nI p) (qa_fL_law_508 L k23 (nI p) σ) := by
  obtain ⟨code, τ, r, τ', a1, a2, a3, a4, a5, a6⟩ := y_goOn h hN
  have hX := h.1
  try dsimp only at a1 a3
  refine ⟨τ', ?_, a6⟩
  unfold qa_fL_law_508 qa_fL_law_556 qa_fL_law_550 qa_fL_law_2682
  rw [a1, Option.bind_some]
  try dsimp only
  rw [a3, Option.bind_some]
  try dsimp only
  unfold bL at a5
  cases r
  · rw [if_pos (show qa_bi false = 0 from rfl)] at a5
    rw [if_pos (show qa_bi false = 0 from rfl)]
    exact la_e a4 a5
  · rw [if_neg (show ¬ qa_bi true = 0 by decide)] at a5
    rw [if_neg (show ¬ qa_bi true = 0 by decide)]
    exact la_e a4 a5
theorem ca_559 (h : qJ N X σ) (hp : p + 3 < L) (hL : L < 2147483648) : qS N X k23 (nI p) (qa_fL_law_559 L k23 (nI p) σ) := by
  obtain ⟨code, τ, r, τ', a1, a2, a3, a4, a5, a6⟩ := y_ask (a := X (p + 1)) h
  have hX := h.1
  try dsimp only at a1 a3
  refine ⟨τ', ?_, a6⟩
  unfold qa_fL_law_559 qa_fL_law_612 qa_fL_law_2682
  rw [la_1, qz_ifn (by omega) (by omega), nI_clamp (n := p + 1) (by omega), hX, a1, Option.bind_some]
  try dsimp only
  rw [qz_ifn (by omega) (by omega), a2, a3, Option.bind_some]
  try dsimp only
  exact la_e a4 a5
theorem ca_615 (h : qJ N X σ) (hp : p + 3 < L) (hL : L < 2147483648) : qS N X k23 (nI p) (qa_fL_law_615 L k23 (nI p) σ) := by
  obtain ⟨code, τ, r, τ', a1, a2, a3, a4, a5, a6⟩ := y_burn (a := X (p + 1)) h
  have hX := h.1
  try dsimp only at a1 a3
  refine ⟨τ', ?_, a6⟩
  unfold qa_fL_law_615 qa_fL_law_668 qa_fL_law_2682
  rw [la_1, qz_ifn (by omega) (by omega), nI_clamp (n := p + 1) (by omega), hX, a1, Option.bind_some]
  try dsimp only
  rw [qz_ifn (by omega) (by omega), a2, a3, Option.bind_some]
  try dsimp only
  exact la_e a4 a5
theorem ca_671 (h : qJ N X σ) (hp : p + 3 < L) (hL : L < 2147483648) (hN : N + 1000 < 2147483647) : qS (N + 400) X k23 (nI p) (qa_fL_law_671 L k23 (nI p) σ) := by
  obtain ⟨code, τ, r, τ', a1, a2, a3, a4, a5, a6⟩ := y_tick (a := X (p + 1)) h hN
  have hX := h.1
  try dsimp only at a1 a3
  refine ⟨τ', ?_, a6⟩
  unfold qa_fL_law_671 qa_fL_law_724 qa_fL_law_2682
  rw [la_1, qz_ifn (by omega) (by omega), nI_clamp (n := p + 1) (by omega), hX, a1, Option.bind_some]
  try dsimp only
  rw [qz_ifn (by omega) (by omega), a2, a3, Option.bind_some]
  try dsimp only
  exact la_e a4 a5
theorem ca_727 (h : qJ N X σ) (hp : p + 3 < L) (hL : L < 2147483648) : qS N X k23 (nI p) (qa_fL_law_727 L k23 (nI p) σ) := by
  obtain ⟨code, τ, r, τ', a1, a2, a3, a4, a5, a6⟩ := y_changeMemory (a := X (p + 1)) h
  have hX := h.1
  try dsimp only at a1 a3
  refine ⟨τ', ?_, a6⟩
  unfold qa_fL_law_727 qa_fL_law_780 qa_fL_law_2682
  rw [la_1, qz_ifn (by omega) (by omega), nI_clamp (n := p + 1) (by omega), hX, a1, Option.bind_some]
  try dsimp only
  rw [qz_ifn (by omega) (by omega), a2, a3, Option.bind_some]
  try dsimp only
  exact la_e a4 a5
theorem ca_783 (h : qJ N X σ) (hp : p + 3 < L) (hL : L < 2147483648) : qS N X k23 (nI p) (qa_fL_law_783 L k23 (nI p) σ) := by
  obtain ⟨code, τ, r, τ', a1, a2, a3, a4, a5, a6⟩ := y_changeAhead (a := X (p + 1)) h
  have hX := h.1
  try dsimp only at a1 a3
  refine ⟨τ', ?_, a6⟩
  unfold qa_fL_law_783 qa_fL_law_836 qa_fL_law_2682
  rw [la_1, qz_ifn (by omega) (by omega), nI_clamp (n := p + 1) (by omega), hX, a1, Option.bind_some]
  try dsimp only
  rw [qz_ifn (by omega) (by omega), a2, a3, Option.bind_some]
  try dsimp only
  exact la_e a4 a5
theorem ca_839 (h : qJ N X σ) (hp : p + 3 < L) (hL : L < 2147483648) : qS N X k23 (nI p) (qa_fL_law_839 L k23 (nI p) σ) := by
  obtain ⟨code, τ, r, τ', a1, a2, a3, a4, a5, a6⟩ := y_changeOrder (a := X (p + 1)) h
  have hX := h.1
  try dsimp only at a1 a3
  refine ⟨τ', ?_, a6⟩
  unfold qa_fL_law_839 qa_fL_law_892 qa_fL_law_2682
  rw [la_1, qz_ifn (by omega) (by omega), nI_clamp (n := p + 1) (by omega), hX, a1, Option.bind_some]
  try dsimp only
  rw [qz_ifn (by omega) (by omega), a2, a3, Option.bind_some]
  try dsimp only
  exact la_e a4 a5
theorem ca_895 (h : qJ N X σ) (hp : p + 3 < L) (hL : L < 2147483648) : qS N X k23 (nI p) (qa_fL_law_895 L k23 (nI p) σ) := by
  obtain ⟨code, τ, r, τ', a1, a2, a3, a4, a5, a6⟩ := y_changeGlow (a := X (p + 1)) h
  have hX := h.1
  try dsimp only at a1 a3
  refine ⟨τ', ?_, a6⟩
  unfold qa_fL_law_895 qa_fL_law_948 qa_fL_law_2682
  rw [la_1, qz_ifn (by omega) (by omega), nI_clamp (n := p + 1) (by omega), hX, a1, Option.bind_some]
  try dsimp only
  rw [qz_ifn (by omega) (by omega), a2, a3, Option.bind_some]
  try dsimp only
  exact la_e a4 a5
theorem ca_951 (h : qJ N X σ) (hp : p + 3 < L) (hL : L < 2147483648) : qS N X k23 (nI p) (qa_fL_law_951 L k23 (nI p) σ) := by
  obtain ⟨code, τ, r, τ', a1, a2, a3, a4, a5, a6⟩ := y_changePace (a := X (p + 1)) h
  have hX := h.1
  try dsimp only at a1 a3
  refine ⟨τ', ?_, a6⟩
  unfold qa_fL_law_951 qa_fL_law_1004 qa_fL_law_2682
  rw [la_1, qz_ifn (by omega) (by omega), nI_clamp (n := p + 1) (by omega), hX, a1, Option.bind_some]
  try dsimp only
  rw [qz_ifn (by omega) (by omega), a2, a3, Option.bind_some]
  try dsimp only
  exact la_e a4 a5
theorem ca_1007 (h : qJ N X σ) (hp : p + 3 < L) (hL : L < 2147483648) : qS N X k23 (nI p) (qa_fL_law_1007 L k23 (nI p) σ) := by
  obtain ⟨code, τ, r, τ', a1, a2, a3, a4, a5, a6⟩ := y_append (a := X (p + 1)) h
  have hX := h.1
  try dsimp only at a1 a3
  refine ⟨τ', ?_, a6⟩
  unfold qa_fL_law_1007 qa_fL_law_1060 qa_fL_law_2682
  rw [la_1, qz_ifn (by omega) (by omega), nI_clamp (n := p + 1) (by omega), hX, a1, Option.bind_some]
  try dsimp only
  rw [qz_ifn (by omega) (by omega), a2, a3, Option.bind_some]
  try dsimp only
  exact la_e a4 a5
theorem ca_1089 (h : qJ N X σ) (hp : p + 3 < L) (hL : L < 2147483648) (hN : N + 40000 < 2147483647) : qS (N + 24400) X k23 (nI p) (qa_fL_law_1089 L k23 (nI p) σ) := by
  obtain ⟨code, τ, r, τ', a1, a2, a3, a4, a5, a6⟩ := y_follow h hN
  have hX := h.1
  try dsimp only at a1 a3
  refine ⟨τ', ?_, a6⟩
  unfold qa_fL_law_1089 qa_fL_law_1130 qa_fL_law_2682
  rw [a1, Option.bind_some]
  try dsimp only
  rw [a3, Option.bind_some]
  try dsimp only
  exact la_e a4 a5
theorem ca_1133 (h : qJ N X σ) (hp : p + 3 < L) (hL : L < 2147483648) : qS N X k23 (nI p) (qa_fL_law_1133 L k23 (nI p) σ) := by
  obtain ⟨code, τ, τ', a1, a2, a3, a4, a6⟩ := y_keep (a := X (p + 1)) h
  have hX := h.1
  try dsimp only at a1 a3
  refine ⟨τ', ?_, a6⟩
  unfold qa_fL_law_1133 qa_fL_law_2682
  rw [la_1, qz_ifn (by omega) (by omega), nI_clamp (n := p + 1) (by omega), hX, a1, Option.bind_some]
  try dsimp only
  rw [qz_ifn (by omega) (by omega), a2, a3, Option.bind_some]
  try dsimp only
  rw [if_pos a4]
theorem ca_1169 (h : qJ N X σ) (hp : p + 3 < L) (hL : L < 2147483648) : qS N X k23 (nI p) (qa_fL_law_1169 L k23 (nI p) σ) := by
  obtain ⟨code, τ, τ', a1, a2, a3, a4, a6⟩ := y_goBack (a := X (p + 1)) h
  have hX := h.1
  try dsimp only at a1 a3
  refine ⟨τ', ?_, a6⟩
  unfold qa_fL_law_1169 qa_fL_law_2682
  rw [la_1, qz_ifn (by omega) (by omega), nI_clamp (n := p + 1) (by omega), hX, a1, Option.bind_some]
  try dsimp only
  rw [qz_ifn (by omega) (by omega), a2, a3, Option.bind_some]
  try dsimp only
  rw [if_pos a4]
theorem ca_1205 (h : qJ N X σ) (hp : p + 3 < L) (hL : L < 2147483648) : qS N X k23 (nI p) (qa_fL_law_1205 L k23 (nI p) σ) := by
  obtain ⟨code, τ, τ', a1, a2, a3, a4, a6⟩ := y_undo h
  have hX := h.1
  try dsimp only at a1 a3
  refine ⟨τ', ?_, a6⟩
  unfold qa_fL_law_1205 qa_fL_law_2682
  rw [a1, Option.bind_some]
  try dsimp only
  rw [a3, Option.bind_some]
  try dsimp only
  rw [if_pos a4]
theorem ca_1255 (h : qJ N X σ) (hp : p + 3 < L) (hL : L < 2147483648) : qS N X k23 (nI p) (qa_fL_law_1255 L k23 (nI p) σ) := by
  obtain ⟨code, τ, r, τ', a1, a2, a3, a4, a5, a6⟩ := y_costOf (a := X (p + 1)) h
  have hX := h.1
  try dsimp only at a1 a3
  refine ⟨τ', ?_, a6⟩
  unfold qa_fL_law_1255 qa_fL_law_1308 qa_fL_law_2682
  rw [la_1, qz_ifn (by omega) (by omega), nI_clamp (n := p + 1) (by omega), hX, a1, Option.bind_some]
  try dsimp only
  rw [qz_ifn (by omega) (by omega), a2, a3, Option.bind_some]
  try dsimp only
  exact la_e a4 a5
theorem ca_1311 (h : qJ N X σ) (hp : p + 3 < L) (hL : L < 2147483648) : qS N X k23 (nI p) (qa_fL_law_1311 L k23 (nI p) σ) := by
  obtain ⟨code, τ, r, τ', a1, a2, a3, a4, a5, a6⟩ := y_loadOf (a := X (p + 1)) h
  have hX := h.1
  try dsimp only at a1 a3
  refine ⟨τ', ?_, a6⟩
  unfold qa_fL_law_1311 qa_fL_law_1364 qa_fL_law_2682
  rw [la_1, qz_ifn (by omega) (by omega), nI_clamp (n := p + 1) (by omega), hX, a1, Option.bind_some]
  try dsimp only
  rw [qz_ifn (by omega) (by omega), a2, a3, Option.bind_some]
  try dsimp only
  exact la_e a4 a5
theorem ca_1367 (h : qJ N X σ) (hp : p + 3 < L) (hL : L < 2147483648) : qS N X k23 (nI p) (qa_fL_law_1367 L k23 (nI p) σ) := by
  obtain ⟨code, τ, r, τ', a1, a2, a3, a4, a5, a6⟩ := y_fadeOf (a := X (p + 1)) h
  have hX := h.1
  try dsimp only at a1 a3
  refine ⟨τ', ?_, a6⟩
  unfold qa_fL_law_1367 qa_fL_law_1420 qa_fL_law_2682
  rw [la_1, qz_ifn (by omega) (by omega), nI_clamp (n := p + 1) (by omega), hX, a1, Option.bind_some]
  try dsimp only
  rw [qz_ifn (by omega) (by omega), a2, a3, Option.bind_some]
  try dsimp only
  exact la_e a4 a5
theorem ca_1423 (h : qJ N X σ) (hp : p + 3 < L) (hL : L < 2147483648) : qS N X k23 (nI p) (qa_fL_law_1423 L k23 (nI p) σ) := by
  obtain ⟨code, τ, r, τ', a1, a2, a3, a4, a5, a6⟩ := y_isLoaded (a := X (p + 1)) h
  have hX := h.1
  try dsimp only at a1 a3
  refine ⟨τ', ?_, a6⟩
  unfold qa_fL_law_1423 qa_fL_law_1483 qa_fL_law_1477 qa_fL_law_2682
  rw [la_1, qz_ifn (by omega) (by omega), nI_clamp (n := p + 1) (by omega), hX, a1, Option.bind_some]
  try dsimp only
  rw [qz_ifn (by omega) (by omega), a2, a3, Option.bind_some]
  try dsimp only
  unfold bL at a5
  cases r
  · rw [if_pos (show qa_bi false = 0 from rfl)] at a5
    rw [if_pos (show qa_bi false = 0 from rfl)]
    exact la_e a4 a5
  · rw [if_neg (show ¬ qa_bi true = 0 by decide)] at a5
    rw [if_neg (show ¬ qa_bi true = 0 by decide)]
    exact la_e a4 a5
theorem ca_1486 (h : qJ N X σ) (hp : p + 3 < L) (hL : L < 2147483648) : qS N X k23 (nI p) (qa_fL_law_1486 L k23 (nI p) σ) := by
  obtain ⟨code, τ, r, τ', a1, a2, a3, a4, a5, a6⟩ := y_isOnShow (a := X (p + 1)) h
  have hX := h.1
  try dsimp only at a1 a3
  refine ⟨τ', ?_, a6⟩
  unfold qa_fL_law_1486 qa_fL_law_1546 qa_fL_law_1540 qa_fL_law_2682
  rw [la_1, qz_ifn (by omega) (by omega), nI_clamp (n := p + 1) (by omega), hX, a1, Option.bind_some]
  try dsimp only
  rw [qz_ifn (by omega) (by omega), a2, Option.some.inj a3]
  try dsimp only
  unfold bL at a5
  cases r
  · rw [if_pos (show qa_bi false = 0 from rfl)] at a5
    rw [if_pos (show qa_bi false = 0 from rfl)]
    exact la_e a4 a5
  · rw [if_neg (show ¬ qa_bi true = 0 by decide)] at a5
    rw [if_neg (show ¬ qa_bi true = 0 by decide)]
    exact la_e a4 a5
theorem ca_1549 (h : qJ N X σ) (hp : p + 3 < L) (hL : L < 2147483648) : qS N X k23 (nI p) (qa_fL_law_1549 L k23 (nI p) σ) := by
  obtain ⟨code, τ, r, τ', a1, a2, a3, a4, a5, a6⟩ := y_glowOf (a := X (p + 1)) h
  have hX := h.1
  try dsimp only at a1 a3
  refine ⟨τ', ?_, a6⟩
  unfold qa_fL_law_1549 qa_fL_law_1602 qa_fL_law_2682
  rw [la_1, qz_ifn (by omega) (by omega), nI_clamp (n := p + 1) (by omega), hX, a1, Option.bind_some]
  try dsimp only
  rw [qz_ifn (by omega) (by omega), a2, a3, Option.bind_some]
  try dsimp only
  exact la_e a4 a5
theorem ca_1605 (h : qJ N X σ) (hp : p + 3 < L) (hL : L < 2147483648) : qS N X k23 (nI p) (qa_fL_law_1605 L k23 (nI p) σ) := by
  obtain ⟨code, τ, r, τ', a1, a2, a3, a4, a5, a6⟩ := y_burntTimes (a := X (p + 1)) h
  have hX := h.1
  try dsimp only at a1 a3
  refine ⟨τ', ?_, a6⟩
  unfold qa_fL_law_1605 qa_fL_law_1658 qa_fL_law_2682
  rw [la_1, qz_ifn (by omega) (by omega), nI_clamp (n := p + 1) (by omega), hX, a1, Option.bind_some]
  try dsimp only
  rw [qz_ifn (by omega) (by omega), a2, a3, Option.bind_some]
  try dsimp only
  exact la_e a4 a5
theorem ca_1661 (h : qJ N X σ) (hp : p + 3 < L) (hL : L < 2147483648) : qS N X k23 (nI p) (qa_fL_law_1661 L k23 (nI p) σ) := by
  obtain ⟨code, τ, r, τ', a1, a2, a3, a4, a5, a6⟩ := y_nextUse (a := X (p + 1)) h
  have hX := h.1
  try dsimp only at a1 a3
  refine ⟨τ', ?_, a6⟩
  unfold qa_fL_law_1661 qa_fL_law_1714 qa_fL_law_2682
  rw [la_1, qz_ifn (by omega) (by omega), nI_clamp (n := p + 1) (by omega), hX, a1, Option.bind_some]
  try dsimp only
  rw [qz_ifn (by omega) (by omega), a2, a3, Option.bind_some]
  try dsimp only
  exact la_e a4 a5
theorem ca_1717 (h : qJ N X σ) (hp : p + 3 < L) (hL : L < 2147483648) : qS N X k23 (nI p) (qa_fL_law_1717 L k23 (nI p) σ) := by
  obtain ⟨code, τ, r, τ', a1, a2, a3, a4, a5, a6⟩ := y_burnPlace (a := X (p + 1)) h
  have hX := h.1
  try dsimp only at a1 a3
  refine ⟨τ', ?_, a6⟩
  unfold qa_fL_law_1717 qa_fL_law_1770 qa_fL_law_2682
  rw [la_1, qz_ifn (by omega) (by omega), nI_clamp (n := p + 1) (by omega), hX, a1, Option.bind_some]
  try dsimp only
  rw [qz_ifn (by omega) (by omega), a2, a3, Option.bind_some]
  try dsimp only
  exact la_e a4 a5
theorem ca_1786 (h : qJ N X σ) (hp : p + 3 < L) (hL : L < 2147483648) : qS N X k23 (nI p) (qa_fL_law_1786 L k23 (nI p) σ) := by
  obtain ⟨code, τ, r, τ', a1, a2, a3, a4, a5, a6⟩ := y_slideAt (a := X (p + 1)) h
  have hX := h.1
  try dsimp only at a1 a3
  refine ⟨τ', ?_, a6⟩
  unfold qa_fL_law_1786 qa_fL_law_1839 qa_fL_law_2682
  rw [la_1, qz_ifn (by omega) (by omega), nI_clamp (n := p + 1) (by omega), hX, a1, Option.bind_some]
  try dsimp only
  rw [qz_ifn (by omega) (by omega), a2, a3, Option.bind_some]
  try dsimp only
  exact la_e a4 a5
theorem ca_1842 (h : qJ N X σ) (hp : p + 3 < L) (hL : L < 2147483648) : qS N X k23 (nI p) (qa_fL_law_1842 L k23 (nI p) σ) := by
  obtain ⟨code, τ, r, τ', a1, a2, a3, a4, a5, a6⟩ := y_showPlace h
  have hX := h.1
  try dsimp only at a1 a3
  refine ⟨τ', ?_, a6⟩
  unfold qa_fL_law_1842 qa_fL_law_1883 qa_fL_law_2682
  rw [a1, Option.bind_some]
  try dsimp only
  rw [a3, Option.bind_some]
  try dsimp only
  exact la_e a4 a5
theorem ca_1886 (h : qJ N X σ) (hp : p + 3 < L) (hL : L < 2147483648) : qS N X k23 (nI p) (qa_fL_law_1886 L k23 (nI p) σ) := by
  obtain ⟨code, τ, r, τ', a1, a2, a3, a4, a5, a6⟩ := y_shown h
  have hX := h.1
  try dsimp only at a1 a3
  refine ⟨τ', ?_, a6⟩
  unfold qa_fL_law_1886 qa_fL_law_1927 qa_fL_law_2682
  rw [a1, Option.bind_some]
  try dsimp only
  rw [a3, Option.bind_some]
  try dsimp only
  exact la_e a4 a5
theorem ca_1930 (h : qJ N X σ) (hp : p + 3 < L) (hL : L < 2147483648) : qS N X k23 (nI p) (qa_fL_law_1930 L k23 (nI p) σ) := by
  obtain ⟨code, τ, r, τ', a1, a2, a3, a4, a5, a6⟩ := y_fading h
  have hX := h.1
  try dsimp only at a1 a3
  refine ⟨τ', ?_, a6⟩
  unfold qa_fL_law_1930 qa_fL_law_1971 qa_fL_law_2682
  rw [a1, Option.bind_some]
  try dsimp only
  rw [a3, Option.bind_some]
  try dsimp only
  exact la_e a4 a5
theorem ca_1987 (h : qJ N X σ) (hp : p + 3 < L) (hL : L < 2147483648) : qS N X k23 (nI p) (qa_fL_law_1987 L k23 (nI p) σ) := by
  obtain ⟨code, τ, r, τ', a1, a2, a3, a4, a5, a6⟩ := y_awaited h
  have hX := h.1
  try dsimp only at a1 a3
  refine ⟨τ', ?_, a6⟩
  unfold qa_fL_law_1987 qa_fL_law_2028 qa_fL_law_2682
  rw [a1, Option.bind_some]
  try dsimp only
  rw [a3, Option.bind_some]
  try dsimp only
  exact la_e a4 a5
theorem ca_2031 (h : qJ N X σ) (hp : p + 3 < L) (hL : L < 2147483648) : qS N X k23 (nI p) (qa_fL_law_2031 L k23 (nI p) σ) := by
  obtain ⟨code, τ, r, τ', a1, a2, a3, a4, a5, a6⟩ := y_shownFor h
  have hX := h.1
  try dsimp only at a1 a3
  refine ⟨τ', ?_, a6⟩
  unfold qa_fL_law_2031 qa_fL_law_2072 qa_fL_law_2682
  rw [a1, Option.bind_some]
  try dsimp only
  rw [a3, Option.bind_some]
  try dsimp only
  exact la_e a4 a5
theorem ca_2075 (h : qJ N X σ) (hp : p + 3 < L) (hL : L < 2147483648) : qS N X k23 (nI p) (qa_fL_law_2075 L k23 (nI p) σ) := by
  obtain ⟨code, τ, r, τ', a1, a2, a3, a4, a5, a6⟩ := y_loading h
  have hX := h.1
  try dsimp only at a1 a3
  refine ⟨τ', ?_, a6⟩
  unfold qa_fL_law_2075 qa_fL_law_2116 qa_fL_law_2682
  rw [a1, Option.bind_some]
  try dsimp only
  rw [a3, Option.bind_some]
  try dsimp only
  exact la_e a4 a5
theorem ca_2145 (h : qJ N X σ) (hp : p + 3 < L) (hL : L < 2147483648) : qS N X k23 (nI p) (qa_fL_law_2145 L k23 (nI p) σ) := by
  obtain ⟨code, τ, r, τ', a1, a2, a3, a4, a5, a6⟩ := y_askedAt (a := X (p + 1)) h
  have hX := h.1
  try dsimp only at a1 a3
  refine ⟨τ', ?_, a6⟩
  unfold qa_fL_law_2145 qa_fL_law_2198 qa_fL_law_2682
  rw [la_1, qz_ifn (by omega) (by omega), nI_clamp (n := p + 1) (by omega), hX, a1, Option.bind_some]
  try dsimp only
  rw [qz_ifn (by omega) (by omega), a2, a3, Option.bind_some]
  try dsimp only
  exact la_e a4 a5
theorem ca_2292 (h : qJ N X σ) (hp : p + 3 < L) (hL : L < 2147483648) (hN : N + 200 < 2147483647) : qS N X k23 (nI p) (qa_fL_law_2292 L k23 (nI p) σ) := by
  obtain ⟨code, τ, r, τ', a1, a2, a3, a4, a5, a6⟩ := y_ticksToShowByTicks h hN
  have hX := h.1
  try dsimp only at a1 a3
  refine ⟨τ', ?_, a6⟩
  unfold qa_fL_law_2292 qa_fL_law_2333 qa_fL_law_2682
  rw [a1, Option.bind_some]
  try dsimp only
  rw [a3, Option.bind_some]
  try dsimp only
  exact la_e a4 a5
theorem ca_2336 (h : qJ N X σ) (hp : p + 3 < L) (hL : L < 2147483648) (hN : N + 200 < 2147483647) : qS N X k23 (nI p) (qa_fL_law_2336 L k23 (nI p) σ) := by
  obtain ⟨code, τ, r, τ', a1, a2, a3, a4, a5, a6⟩ := y_ticksToShowBySums h hN
  have hX := h.1
  try dsimp only at a1 a3
  refine ⟨τ', ?_, a6⟩
  unfold qa_fL_law_2336 qa_fL_law_2377 qa_fL_law_2682
  rw [a1, Option.bind_some]
  try dsimp only
  rw [a3, Option.bind_some]
  try dsimp only
  exact la_e a4 a5
theorem ca_2380 (h : qJ N X σ) (hp : p + 3 < L) (hL : L < 2147483648) : qS N X k23 (nI p) (qa_fL_law_2380 L k23 (nI p) σ) := by
  obtain ⟨code, τ, r, τ', a1, a2, a3, a4, a5, a6⟩ := y_burningsFor (a := X (p + 1)) h
  have hX := h.1
  try dsimp only at a1 a3
  refine ⟨τ', ?_, a6⟩
  unfold qa_fL_law_2380 qa_fL_law_2433 qa_fL_law_2682
  rw [la_1, qz_ifn (by omega) (by omega), nI_clamp (n := p + 1) (by omega), hX, a1, Option.bind_some]
  try dsimp only
  rw [qz_ifn (by omega) (by omega), a2, a3, Option.bind_some]
  try dsimp only
  exact la_e a4 a5
theorem ca_2436 (h : qJ N X σ) (hp : p + 3 < L) (hL : L < 2147483648) (hN : N + 6000 < 2147483647) : qS N X k23 (nI p) (qa_fL_law_2436 L k23 (nI p) σ) := by
  obtain ⟨code, τ, r, τ', a1, a2, a3, a4, a5, a6⟩ := y_missesWith (a := X (p + 1)) h hN
  have hX := h.1
  try dsimp only at a1 a3
  refine ⟨τ', ?_, a6⟩
  unfold qa_fL_law_2436 qa_fL_law_2489 qa_fL_law_2682
  rw [la_1, qz_ifn (by omega) (by omega), nI_clamp (n := p + 1) (by omega), hX, a1, Option.bind_some]
  try dsimp only
  rw [qz_ifn (by omega) (by omega), a2, a3, Option.bind_some]
  try dsimp only
  exact la_e a4 a5
theorem ca_2492 (h : qJ N X σ) (hp : p + 3 < L) (hL : L < 2147483648) (hN : N + 6000 < 2147483647) : qS N X k23 (nI p) (qa_fL_law_2492 L k23 (nI p) σ) := by
  obtain ⟨code, τ, r, τ', a1, a2, a3, a4, a5, a6⟩ := y_bestOrder h hN
  have hX := h.1
  try dsimp only at a1 a3
  refine ⟨τ', ?_, a6⟩
  unfold qa_fL_law_2492 qa_fL_law_2533 qa_fL_law_2682
  rw [a1, Option.bind_some]
  try dsimp only
  rw [a3, Option.bind_some]
  try dsimp only
  exact la_e a4 a5
end QMI
