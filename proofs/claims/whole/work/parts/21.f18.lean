/-! the methods as functions (written by wip/tools/gen.py) -/
noncomputable def qa_fX10_missing_54 (a1 : Int32) (k33 : Int32 → Int32 → qa_T → Option (Int32 × qa_T)) : Nat → Int32 → Int32 → qa_T → Option (Int32 × qa_T)
  | 0, _, _, _ => none
  | n + 1, x2, x3, σ =>
    if (σ.1 (10, 22) (((Int16.ofInt 142).toInt32)).toNatClampNeg) = (Int32.ofInt (-1)) then
      (qa_fX10_passes ((Int8.ofInt 10).toInt32) σ).bind fun c16 =>
      let v18 : Int32 := x3 + Int32.ofInt 1
      k33 x2 v18 c16.2
    else
      (qa_fX10_ticks σ).bind fun c19 =>
      qa_fX10_missing_54 a1 k33 n x2 x3 c19
noncomputable def qa_fX10_missing_33 (a1 : Int32) : Nat → Int32 → Int32 → qa_T → Option (Int32 × qa_T)
  | 0, _, _, _ => none
  | n + 1, x2, x3, σ =>
    if (σ.1 (10, 22) (((Int8.ofInt 113).toInt32)).toNatClampNeg) ≤ x3 then
      let v7 : Int32 := ((σ.1 (10, 22) (((Int16.ofInt 170).toInt32)).toNatClampNeg) - x2)
      (qa_fX10_putsBack σ).bind fun c8 =>
      some (v7, c8)
    else
      (qa_fX10_goesOn σ).bind fun c10 =>
      let v12 : Int32 := (qa_bi c10.1)
      (qa_fX10_begins c10.2).bind fun c13 =>
      qa_fX10_missing_54 a1 (qa_fX10_missing_33 a1 n) qa_fu x2 x3 c13
noncomputable def qa_fX10_missing (a1 : Int32) (σ : qa_T) : Option (Int32 × qa_T) :=
    (qa_fX10_keepsAside σ).bind fun c1 =>
    let v3 : Int32 := (c1.1 (10, 22) (((Int16.ofInt 170).toInt32)).toNatClampNeg)
    let σ4 := qa_wi c1 (10, 22) (((Int16.ofInt 165).toInt32)).toNatClampNeg a1
    let σ5 := qa_wi σ4 (10, 22) (((Int16.ofInt 167).toInt32)).toNatClampNeg (Int32.ofInt 0)
    qa_fX10_missing_33 a1 qa_fu v3 (Int32.ofInt 0) σ5
set_option maxRecDepth 100000 in
theorem qa_tX10_missing_54 {L : Nat} {a1 : Int32}  {k33 : Int32 → Int32 → qa_T → Option (Int32 × qa_T)} (K33 : ∀ (x2 : Int32) (x3 : Int32) (σ : qa_T) (r : (Int32 × qa_T)), k33 x2 x3 σ = some r → qa_Bk (qa_ds L) qa_mX10_missing 33 [(0, .inl (10, 21)), (1, .inr (.int a1)), (2, .inr (.int x2)), (3, .inr (.int x3))] [] σ (.inl (some (.inr (.int r.1)))) r.2) : ∀ (n : Nat) (x2 : Int32) (x3 : Int32) (σ : qa_T) (r : (Int32 × qa_T)), qa_fX10_missing_54 a1 k33 n x2 x3 σ = some r → qa_Bk (qa_ds L) qa_mX10_missing 54 [(0, .inl (10, 21)), (1, .inr (.int a1)), (2, .inr (.int x2)), (3, .inr (.int x3))] [] σ (.inl (some (.inr (.int r.1)))) r.2 := by
  intro n
  induction n with
  | zero => intro x2 x3 σ r h; cases h
  | succ n ih =>
    intro x2 x3 σ r h
    unfold qa_fX10_missing_54 at h
    try dsimp only at h
    refine qa_bk_do (pc' := 55) rfl rfl ?_
    refine qa_bk_gr rfl rfl qa_dx_10_21 rfl ?_
    refine qa_bk_do (pc' := 61) rfl rfl ?_
    refine qa_bk_ia rfl qa_dx_10_22 (Or.inl rfl) rfl ?_
    refine qa_bk_do (pc' := 63) rfl rfl ?_
    rcases qa_ite h with ⟨hc15, h⟩ | ⟨hc15, h⟩
    · refine qa_bk_1t (a := 73) (b := 66) hc15 rfl rfl ?_
      refine qa_bk_do (pc' := 74) rfl rfl ?_
      refine qa_bk_do (pc' := 76) rfl rfl ?_
      obtain ⟨c16, hc17, h⟩ := Option.bind_eq_some_iff.mp h
      refine qa_bk_cv (qa_tX10_passes hc17) rfl rfl rfl rfl rfl rfl rfl qa_dx_10_21 ?_
      refine qa_bk_do (pc' := 81) (lv' := [(5, _), (0, _), (1, _), (2, _), (3, _)]) rfl rfl ?_
      refine qa_bk_do (pc' := 84) (lv' := [(3, _), (5, _), (0, _), (1, _), (2, _)]) rfl rfl ?_
      refine qa_bk_do (pc' := 33) rfl rfl ?_
      exact qa_bk_lw (K33 _ _ _ _ h) rfl rfl (And.intro rfl (And.intro rfl (And.intro rfl (And.intro rfl (trivial)))))
    · refine qa_bk_1f (a := 73) (b := 66) hc15 rfl rfl ?_
      refine qa_bk_do (pc' := 67) rfl rfl ?_
      obtain ⟨c19, hc20, h⟩ := Option.bind_eq_some_iff.mp h
      refine qa_bk_cv (qa_tX10_ticks hc20) rfl rfl rfl rfl rfl rfl rfl qa_dx_10_21 ?_
      refine qa_bk_do (pc' := 54) rfl rfl ?_
      exact qa_bk_lw (ih _ _ _ _ h) rfl rfl (And.intro rfl (And.intro rfl (And.intro rfl (And.intro rfl (trivial)))))
set_option maxRecDepth 100000 in
theorem qa_tX10_missing_33 {L : Nat} {a1 : Int32}  : ∀ (n : Nat) (x2 : Int32) (x3 : Int32) (σ : qa_T) (r : (Int32 × qa_T)), qa_fX10_missing_33 a1 n x2 x3 σ = some r → qa_Bk (qa_ds L) qa_mX10_missing 33 [(0, .inl (10, 21)), (1, .inr (.int a1)), (2, .inr (.int x2)), (3, .inr (.int x3))] [] σ (.inl (some (.inr (.int r.1)))) r.2 := by
  intro n
  induction n with
  | zero => intro x2 x3 σ r h; cases h
  | succ n ih =>
    intro x2 x3 σ r h
    unfold qa_fX10_missing_33 at h
    try dsimp only at h
    refine qa_bk_do (pc' := 34) rfl rfl ?_
    refine qa_bk_do (pc' := 35) rfl rfl ?_
    refine qa_bk_gr rfl rfl qa_dx_10_21 rfl ?_
    refine qa_bk_do (pc' := 40) rfl rfl ?_
    refine qa_bk_ia rfl qa_dx_10_22 (Or.inl rfl) rfl ?_
    rcases qa_ite h with ⟨hc6, h⟩ | ⟨hc6, h⟩
    · refine qa_bk_1t (a := 87) (b := 44) hc6 rfl rfl ?_
      refine qa_bk_do (pc' := 88) rfl rfl ?_
      refine qa_bk_gr rfl rfl qa_dx_10_21 rfl ?_
      refine qa_bk_do (pc' := 94) rfl rfl ?_
      refine qa_bk_ia rfl qa_dx_10_22 (Or.inl rfl) rfl ?_
      refine qa_bk_do (pc' := 96) rfl rfl ?_
      refine qa_bk_do (pc' := 97) rfl rfl ?_
      refine qa_bk_do (pc' := 98) (lv' := [(3, _), (0, _), (1, _), (2, _)]) rfl rfl ?_
      refine qa_bk_do (pc' := 99) rfl rfl ?_
      obtain ⟨c8, hc9, h⟩ := Option.bind_eq_some_iff.mp h
      refine qa_bk_cv (qa_tX10_putsBack hc9) rfl rfl rfl rfl rfl rfl rfl qa_dx_10_21 ?_
      refine qa_bk_do (pc' := 103) rfl rfl ?_
      cases h
      exact qa_bk_ri rfl rfl
    · refine qa_bk_1f (a := 87) (b := 44) hc6 rfl rfl ?_
      refine qa_bk_do (pc' := 45) rfl rfl ?_
      obtain ⟨c10, hc11, h⟩ := Option.bind_eq_some_iff.mp h
      refine qa_bk_cv (qa_tX10_goesOn hc11) rfl rfl rfl rfl rfl rfl rfl qa_dx_10_21 ?_
      refine qa_bk_do (pc' := 50) (lv' := [(4, _), (0, _), (1, _), (2, _), (3, _)]) rfl rfl ?_
      refine qa_bk_do (pc' := 51) rfl rfl ?_
      obtain ⟨c13, hc14, h⟩ := Option.bind_eq_some_iff.mp h
      refine qa_bk_cv (qa_tX10_begins hc14) rfl rfl rfl rfl rfl rfl rfl qa_dx_10_21 ?_
      exact qa_bk_lw (qa_tX10_missing_54  ih _ _ _ _ _ h) rfl rfl (And.intro rfl (And.intro rfl (And.intro rfl (And.intro rfl (trivial)))))
set_option maxRecDepth 100000 in
theorem qa_tX10_missing {L : Nat} {a1 : Int32}  {σ : qa_T} {r : (Int32 × qa_T)} (h : qa_fX10_missing a1 σ = some r) : qa_Bk (qa_ds L) qa_mX10_missing 0 (qa_ag 0 [.inl (10, 21), .inr (.int a1)]) [] σ (.inl (some (.inr (.int r.1)))) r.2 := by
  unfold qa_fX10_missing at h
  try dsimp only at h
  show qa_Bk (qa_ds L) qa_mX10_missing 0 [(0, .inl (10, 21)), (1, .inr (.int a1))] [] σ _ _
  refine qa_bk_do (pc' := 1) rfl rfl ?_
  obtain ⟨c1, hc2, h⟩ := Option.bind_eq_some_iff.mp h
  refine qa_bk_cv (qa_tX10_keepsAside hc2) rfl rfl rfl rfl rfl rfl rfl qa_dx_10_21 ?_
  refine qa_bk_do (pc' := 5) rfl rfl ?_
  refine qa_bk_gr rfl rfl qa_dx_10_21 rfl ?_
  refine qa_bk_do (pc' := 11) rfl rfl ?_
  refine qa_bk_ia rfl qa_dx_10_22 (Or.inl rfl) rfl ?_
  refine qa_bk_do (pc' := 13) (lv' := [(2, _), (0, _), (1, _)]) rfl rfl ?_
  refine qa_bk_do (pc' := 14) rfl rfl ?_
  refine qa_bk_gr rfl rfl qa_dx_10_21 rfl ?_
  refine qa_bk_do (pc' := 20) rfl rfl ?_
  refine qa_bk_do (pc' := 21) rfl rfl ?_
  refine qa_bk_is rfl qa_dx_10_22 rfl ?_
  refine qa_bk_do (pc' := 23) rfl rfl ?_
  refine qa_bk_gr rfl rfl qa_dx_10_21 rfl ?_
  refine qa_bk_do (pc' := 29) rfl rfl ?_
  refine qa_bk_do (pc' := 30) rfl rfl ?_
  refine qa_bk_is rfl qa_dx_10_22 rfl ?_
  refine qa_bk_do (pc' := 32) rfl rfl ?_
  refine qa_bk_do (pc' := 33) (lv' := [(3, _), (2, _), (0, _), (1, _)]) rfl rfl ?_
  exact qa_bk_lw (qa_tX10_missing_33  _ _ _ _ _ h) rfl rfl (And.intro rfl (And.intro rfl (And.intro rfl (And.intro rfl (trivial)))))
noncomputable def qa_fX10_missesWith_45 (a1 : Int32) (y0 : Int32) (σ : qa_T) : Option (Int32 × qa_T) :=
    some (y0, σ)
noncomputable def qa_fX10_missesWith_26 (a1 : Int32) (y0 : Int32) (σ : qa_T) : Option (Int32 × qa_T) :=
    let σ3 := qa_wi σ (10, 21) 9 y0
    if ¬ (σ3.1 (10, 21) 9) = 0 then
      qa_fX10_missesWith_45 a1 (Int32.ofInt 0) σ3
    else
      (qa_fX10_missing a1 σ3).bind fun c5 =>
      qa_fX10_missesWith_45 a1 c5.1 c5.2
noncomputable def qa_fX10_missesWith (a1 : Int32) (σ : qa_T) : Option (Int32 × qa_T) :=
    if ¬ (qa_bi (qa_fX10_in a1 (Int32.ofInt 0) (Int32.ofInt 2) σ)) = 0 then
      if (qa_bi (qa_fX10_canGoOn σ)) = 0 then
        qa_fX10_missesWith_26 a1 (Int32.ofInt 2) σ
      else
        qa_fX10_missesWith_26 a1 (Int32.ofInt 0) σ
    else
      qa_fX10_missesWith_26 a1 (Int32.ofInt 1) σ
set_option maxRecDepth 100000 in
theorem qa_tX10_missesWith_45 {L : Nat} {a1 : Int32}  {y0 : Int32} {σ : qa_T} {r : (Int32 × qa_T)} (h : qa_fX10_missesWith_45 a1 y0 σ = some r) : qa_Bk (qa_ds L) qa_mX10_missesWith 45 [(0, .inl (10, 21)), (1, .inr (.int a1))] [.inr (.int y0)] σ (.inl (some (.inr (.int r.1)))) r.2 := by
  unfold qa_fX10_missesWith_45 at h
  try dsimp only at h
  cases h
  exact qa_bk_ri rfl rfl
set_option maxRecDepth 100000 in
theorem qa_tX10_missesWith_26 {L : Nat} {a1 : Int32}  {y0 : Int32} {σ : qa_T} {r : (Int32 × qa_T)} (h : qa_fX10_missesWith_26 a1 y0 σ = some r) : qa_Bk (qa_ds L) qa_mX10_missesWith 26 [(0, .inl (10, 21)), (1, .inr (.int a1))] [.inr (.int y0), .inl (10, 21)] σ (.inl (some (.inr (.int r.1)))) r.2 := by
  unfold qa_fX10_missesWith_26 at h
  try dsimp only at h
  refine qa_bk_pf rfl rfl qa_dx_10_21 rfl (qa_fiti _) rfl ?_
  refine qa_bk_do (pc' := 30) rfl rfl ?_
  refine qa_bk_gi rfl rfl qa_dx_10_21 rfl ?_
  rcases qa_ite h with ⟨hc4, h⟩ | ⟨hc4, h⟩
  · refine qa_bk_1t (a := 44) (b := 36) hc4 rfl rfl ?_
    refine qa_bk_do (pc' := 45) rfl rfl ?_
    exact qa_bk_lw (qa_tX10_missesWith_45  h) rfl rfl (And.intro rfl (And.intro rfl (trivial)))
  · refine qa_bk_1f (a := 44) (b := 36) hc4 rfl rfl ?_
    refine qa_bk_do (pc' := 37) rfl rfl ?_
    refine qa_bk_do (pc' := 38) rfl rfl ?_
    obtain ⟨c5, hc6, h⟩ := Option.bind_eq_some_iff.mp h
    refine qa_bk_cv (qa_tX10_missing hc6) rfl rfl rfl rfl rfl rfl rfl qa_dx_10_21 ?_
    refine qa_bk_do (pc' := 45) rfl rfl ?_
    exact qa_bk_lw (qa_tX10_missesWith_45  h) rfl rfl (And.intro rfl (And.intro rfl (trivial)))
set_option maxRecDepth 100000 in
theorem qa_tX10_missesWith {L : Nat} {a1 : Int32}  {σ : qa_T} {r : (Int32 × qa_T)} (h : qa_fX10_missesWith a1 σ = some r) : qa_Bk (qa_ds L) qa_mX10_missesWith 0 (qa_ag 0 [.inl (10, 21), .inr (.int a1)]) [] σ (.inl (some (.inr (.int r.1)))) r.2 := by
  unfold qa_fX10_missesWith at h
  try dsimp only at h
  show qa_Bk (qa_ds L) qa_mX10_missesWith 0 [(0, .inl (10, 21)), (1, .inr (.int a1))] [] σ _ _
  refine qa_bk_do (pc' := 1) rfl rfl ?_
  refine qa_bk_do (pc' := 2) rfl rfl ?_
  refine qa_bk_do (pc' := 3) rfl rfl ?_
  refine qa_bk_do (pc' := 4) rfl rfl ?_
  refine qa_bk_cs (qa_tX10_in rfl) rfl rfl rfl rfl rfl rfl rfl ?_
  rcases qa_ite h with ⟨hc1, h⟩ | ⟨hc1, h⟩
  · refine qa_bk_1t (a := 14) (b := 10) hc1 rfl rfl ?_
    refine qa_bk_do (pc' := 15) rfl rfl ?_
    refine qa_bk_cv (qa_tX10_canGoOn rfl) rfl rfl rfl rfl rfl rfl rfl qa_dx_10_21 ?_
    rcases qa_ite h with ⟨hc2, h⟩ | ⟨hc2, h⟩
    · refine qa_bk_1t (a := 25) (b := 21) hc2 rfl rfl ?_
      refine qa_bk_do (pc' := 26) rfl rfl ?_
      exact qa_bk_lw (qa_tX10_missesWith_26  h) rfl rfl (And.intro rfl (And.intro rfl (trivial)))
    · refine qa_bk_1f (a := 25) (b := 21) hc2 rfl rfl ?_
      refine qa_bk_do (pc' := 22) rfl rfl ?_
      refine qa_bk_do (pc' := 26) rfl rfl ?_
      exact qa_bk_lw (qa_tX10_missesWith_26  h) rfl rfl (And.intro rfl (And.intro rfl (trivial)))
  · refine qa_bk_1f (a := 14) (b := 10) hc1 rfl rfl ?_
    refine qa_bk_do (pc' := 11) rfl rfl ?_
    refine qa_bk_do (pc' := 26) rfl rfl ?_
    exact qa_bk_lw (qa_tX10_missesWith_26  h) rfl rfl (And.intro rfl (And.intro rfl (trivial)))
noncomputable def qa_fX10_bestOrder_57  (x1 : Int32) (σ : qa_T) : Option (Int32 × qa_T) :=
    some (x1, σ)
noncomputable def qa_fX10_bestOrder_50  (k20 : Int32 → Int32 → qa_T → Option (Int32 × qa_T)) (x2 : Int32) (y0 : Int32) (σ : qa_T) : Option (Int32 × qa_T) :=
    let v10 : Int32 := x2 + Int32.ofInt 1
    k20 y0 v10 σ
noncomputable def qa_fX10_bestOrder_20  : Nat → Int32 → Int32 → qa_T → Option (Int32 × qa_T)
  | 0, _, _, _ => none
  | n + 1, x1, x2, σ =>
    if (Int32.ofInt 3) ≤ x2 then
      qa_fX10_bestOrder_57  x1 σ
    else
      if ¬ (σ.1 (10, 21) 9) = 0 then
        qa_fX10_bestOrder_57  x1 σ
      else
        (qa_fX10_missing x2 σ).bind fun c5 =>
        (qa_fX10_missing x1 c5.2).bind fun c7 =>
        if c7.1 ≤ c5.1 then
          qa_fX10_bestOrder_50  (qa_fX10_bestOrder_20  n) x2 x1 c7.2
        else
          qa_fX10_bestOrder_50  (qa_fX10_bestOrder_20  n) x2 x2 c7.2
noncomputable def qa_fX10_bestOrder_13  (y0 : Int32) (σ : qa_T) : Option (Int32 × qa_T) :=
    let σ2 := qa_wi σ (10, 21) 9 y0
    qa_fX10_bestOrder_20  qa_fu (Int32.ofInt 0) (Int32.ofInt 1) σ2
noncomputable def qa_fX10_bestOrder  (σ : qa_T) : Option (Int32 × qa_T) :=
    if (qa_bi (qa_fX10_canGoOn σ)) = 0 then
      qa_fX10_bestOrder_13  (Int32.ofInt 1) σ
    else
      qa_fX10_bestOrder_13  (Int32.ofInt 0) σ
set_option maxRecDepth 100000 in
theorem qa_tX10_bestOrder_57 {L : Nat}   {x1 : Int32} {σ : qa_T} {r : (Int32 × qa_T)} (h : qa_fX10_bestOrder_57  x1 σ = some r) : qa_Bk (qa_ds L) qa_mX10_bestOrder 57 [(0, .inl (10, 21)), (1, .inr (.int x1))] [] σ (.inl (some (.inr (.int r.1)))) r.2 := by
  unfold qa_fX10_bestOrder_57 at h
  try dsimp only at h
  refine qa_bk_do (pc' := 58) rfl rfl ?_
  cases h
  exact qa_bk_ri rfl rfl
set_option maxRecDepth 100000 in
theorem qa_tX10_bestOrder_50 {L : Nat}   {k20 : Int32 → Int32 → qa_T → Option (Int32 × qa_T)} (K20 : ∀ (x1 : Int32) (x2 : Int32) (σ : qa_T) (r : (Int32 × qa_T)), k20 x1 x2 σ = some r → qa_Bk (qa_ds L) qa_mX10_bestOrder 20 [(0, .inl (10, 21)), (1, .inr (.int x1)), (2, .inr (.int x2))] [] σ (.inl (some (.inr (.int r.1)))) r.2) {x2 : Int32} {y0 : Int32} {σ : qa_T} {r : (Int32 × qa_T)} (h : qa_fX10_bestOrder_50  k20 x2 y0 σ = some r) : qa_Bk (qa_ds L) qa_mX10_bestOrder 50 [(0, .inl (10, 21)), (2, .inr (.int x2))] [.inr (.int y0)] σ (.inl (some (.inr (.int r.1)))) r.2 := by
  unfold qa_fX10_bestOrder_50 at h
  try dsimp only at h
  refine qa_bk_do (pc' := 51) (lv' := [(1, _), (0, _), (2, _)]) rfl rfl ?_
  refine qa_bk_do (pc' := 54) (lv' := [(2, _), (1, _), (0, _)]) rfl rfl ?_
  refine qa_bk_do (pc' := 20) rfl rfl ?_
  exact qa_bk_lw (K20 _ _ _ _ h) rfl rfl (And.intro rfl (And.intro rfl (And.intro rfl (trivial))))
set_option maxRecDepth 100000 in
theorem qa_tX10_bestOrder_20 {L : Nat}   : ∀ (n : Nat) (x1 : Int32) (x2 : Int32) (σ : qa_T) (r : (Int32 × qa_T)), qa_fX10_bestOrder_20  n x1 x2 σ = some r → qa_Bk (qa_ds L) qa_mX10_bestOrder 20 [(0, .inl (10, 21)), (1, .inr (.int x1)), (2, .inr (.int x2))] [] σ (.inl (some (.inr (.int r.1)))) r.2 := by
  intro n
  induction n with
  | zero => intro x1 x2 σ r h; cases h
  | succ n ih =>
    intro x1 x2 σ r h
    unfold qa_fX10_bestOrder_20 at h
    try dsimp only at h
    refine qa_bk_do (pc' := 21) rfl rfl ?_
    refine qa_bk_do (pc' := 22) rfl rfl ?_
    rcases qa_ite h with ⟨hc3, h⟩ | ⟨hc3, h⟩
    · refine qa_bk_1t (a := 57) (b := 25) hc3 rfl rfl ?_
      exact qa_bk_lw (qa_tX10_bestOrder_57  h) rfl rfl (And.intro rfl (And.intro rfl (trivial)))
    · refine qa_bk_1f (a := 57) (b := 25) hc3 rfl rfl ?_
      refine qa_bk_do (pc' := 26) rfl rfl ?_
      refine qa_bk_gi rfl rfl qa_dx_10_21 rfl ?_
      rcases qa_ite h with ⟨hc4, h⟩ | ⟨hc4, h⟩
      · refine qa_bk_1t (a := 57) (b := 32) hc4 rfl rfl ?_
        exact qa_bk_lw (qa_tX10_bestOrder_57  h) rfl rfl (And.intro rfl (And.intro rfl (trivial)))
      · refine qa_bk_1f (a := 57) (b := 32) hc4 rfl rfl ?_
        refine qa_bk_do (pc' := 33) rfl rfl ?_
        refine qa_bk_do (pc' := 34) rfl rfl ?_
        obtain ⟨c5, hc6, h⟩ := Option.bind_eq_some_iff.mp h
        refine qa_bk_cv (qa_tX10_missing hc6) rfl rfl rfl rfl rfl rfl rfl qa_dx_10_21 ?_
        refine qa_bk_do (pc' := 38) rfl rfl ?_
        refine qa_bk_do (pc' := 39) rfl rfl ?_
        obtain ⟨c7, hc8, h⟩ := Option.bind_eq_some_iff.mp h
        refine qa_bk_cv (qa_tX10_missing hc8) rfl rfl rfl rfl rfl rfl rfl qa_dx_10_21 ?_
        rcases qa_ite h with ⟨hc9, h⟩ | ⟨hc9, h⟩
        · refine qa_bk_1t (a := 49) (b := 45) hc9 rfl rfl ?_
          refine qa_bk_do (pc' := 50) rfl rfl ?_
          exact qa_bk_lw (qa_tX10_bestOrder_50  ih h) rfl rfl (And.intro rfl (And.intro rfl (trivial)))
        · refine qa_bk_1f (a := 49) (b := 45) hc9 rfl rfl ?_
          refine qa_bk_do (pc' := 46) rfl rfl ?_
          refine qa_bk_do (pc' := 50) rfl rfl ?_
          exact qa_bk_lw (qa_tX10_bestOrder_50  ih h) rfl rfl (And.intro rfl (And.intro rfl (trivial)))
set_option maxRecDepth 100000 in
theorem qa_tX10_bestOrder_13 {L : Nat}   {y0 : Int32} {σ : qa_T} {r : (Int32 × qa_T)} (h : qa_fX10_bestOrder_13  y0 σ = some r) : qa_Bk (qa_ds L) qa_mX10_bestOrder 13 [(0, .inl (10, 21))] [.inr (.int y0), .inl (10, 21)] σ (.inl (some (.inr (.int r.1)))) r.2 := by
  unfold qa_fX10_bestOrder_13 at h
  try dsimp only at h
  refine qa_bk_pf rfl rfl qa_dx_10_21 rfl (qa_fiti _) rfl ?_
  refine qa_bk_do (pc' := 17) rfl rfl ?_
  refine qa_bk_do (pc' := 18) (lv' := [(1, _), (0, _)]) rfl rfl ?_
  refine qa_bk_do (pc' := 19) rfl rfl ?_
  refine qa_bk_do (pc' := 20) (lv' := [(2, _), (1, _), (0, _)]) rfl rfl ?_
  exact qa_bk_lw (qa_tX10_bestOrder_20  _ _ _ _ _ h) rfl rfl (And.intro rfl (And.intro rfl (And.intro rfl (trivial))))
set_option maxRecDepth 100000 in
theorem qa_tX10_bestOrder {L : Nat}   {σ : qa_T} {r : (Int32 × qa_T)} (h : qa_fX10_bestOrder  σ = some r) : qa_Bk (qa_ds L) qa_mX10_bestOrder 0 (qa_ag 0 [.inl (10, 21)]) [] σ (.inl (some (.inr (.int r.1)))) r.2 := by
  unfold qa_fX10_bestOrder at h
  try dsimp only at h
  show qa_Bk (qa_ds L) qa_mX10_bestOrder 0 [(0, .inl (10, 21))] [] σ _ _
  refine qa_bk_do (pc' := 1) rfl rfl ?_
  refine qa_bk_do (pc' := 2) rfl rfl ?_
  refine qa_bk_cv (qa_tX10_canGoOn rfl) rfl rfl rfl rfl rfl rfl rfl qa_dx_10_21 ?_
  rcases qa_ite h with ⟨hc1, h⟩ | ⟨hc1, h⟩
  · refine qa_bk_1t (a := 12) (b := 8) hc1 rfl rfl ?_
    refine qa_bk_do (pc' := 13) rfl rfl ?_
    exact qa_bk_lw (qa_tX10_bestOrder_13  h) rfl rfl (And.intro rfl (trivial))
  · refine qa_bk_1f (a := 12) (b := 8) hc1 rfl rfl ?_
    refine qa_bk_do (pc' := 9) rfl rfl ?_
    refine qa_bk_do (pc' := 13) rfl rfl ?_
    exact qa_bk_lw (qa_tX10_bestOrder_13  h) rfl rfl (And.intro rfl (trivial))
noncomputable def qa_fX10_loads  (σ : qa_T) : Option (Int32 × qa_T) :=
    (qa_fX10_rule ((Int16.ofInt 171).toInt32) σ).bind fun c1 =>
    some (c1.1, c1.2)
set_option maxRecDepth 100000 in
theorem qa_tX10_loads {L : Nat}   {σ : qa_T} {r : (Int32 × qa_T)} (h : qa_fX10_loads  σ = some r) : qa_Bk (qa_ds L) qa_mX10_loads 0 (qa_ag 0 [.inl (10, 21)]) [] σ (.inl (some (.inr (.int r.1)))) r.2 := by
  unfold qa_fX10_loads at h
  try dsimp only at h
  show qa_Bk (qa_ds L) qa_mX10_loads 0 [(0, .inl (10, 21))] [] σ _ _
  refine qa_bk_do (pc' := 1) rfl rfl ?_
  refine qa_bk_do (pc' := 4) rfl rfl ?_
  obtain ⟨c1, hc2, h⟩ := Option.bind_eq_some_iff.mp h
  refine qa_bk_cv (qa_tX10_rule hc2) rfl rfl rfl rfl rfl rfl rfl qa_dx_10_21 ?_
  cases h
  exact qa_bk_ri rfl rfl
noncomputable def qa_fX10_burnings  (σ : qa_T) : Option (Int32 × qa_T) :=
    (qa_fX10_rule ((Int16.ofInt 173).toInt32) σ).bind fun c1 =>
    some (c1.1, c1.2)
set_option maxRecDepth 100000 in
theorem qa_tX10_burnings {L : Nat}   {σ : qa_T} {r : (Int32 × qa_T)} (h : qa_fX10_burnings  σ = some r) : qa_Bk (qa_ds L) qa_mX10_burnings 0 (qa_ag 0 [.inl (10, 21)]) [] σ (.inl (some (.inr (.int r.1)))) r.2 := by
  unfold qa_fX10_burnings at h
  try dsimp only at h
  show qa_Bk (qa_ds L) qa_mX10_burnings 0 [(0, .inl (10, 21))] [] σ _ _
  refine qa_bk_do (pc' := 1) rfl rfl ?_
  refine qa_bk_do (pc' := 4) rfl rfl ?_
  obtain ⟨c1, hc2, h⟩ := Option.bind_eq_some_iff.mp h
  refine qa_bk_cv (qa_tX10_rule hc2) rfl rfl rfl rfl rfl rfl rfl qa_dx_10_21 ?_
  cases h
  exact qa_bk_ri rfl rfl
noncomputable def qa_fX10_time  (σ : qa_T) : Option (Int32 × qa_T) :=
    (qa_fX10_rule ((Int16.ofInt 168).toInt32) σ).bind fun c1 =>
    some (c1.1, c1.2)
set_option maxRecDepth 100000 in
theorem qa_tX10_time {L : Nat}   {σ : qa_T} {r : (Int32 × qa_T)} (h : qa_fX10_time  σ = some r) : qa_Bk (qa_ds L) qa_mX10_time 0 (qa_ag 0 [.inl (10, 21)]) [] σ (.inl (some (.inr (.int r.1)))) r.2 := by
  unfold qa_fX10_time at h
  try dsimp only at h
  show qa_Bk (qa_ds L) qa_mX10_time 0 [(0, .inl (10, 21))] [] σ _ _
  refine qa_bk_do (pc' := 1) rfl rfl ?_
  refine qa_bk_do (pc' := 4) rfl rfl ?_
  obtain ⟨c1, hc2, h⟩ := Option.bind_eq_some_iff.mp h
  refine qa_bk_cv (qa_tX10_rule hc2) rfl rfl rfl rfl rfl rfl rfl qa_dx_10_21 ?_
  cases h
  exact qa_bk_ri rfl rfl
noncomputable def qa_fX10_hits  (σ : qa_T) : Option (Int32 × qa_T) :=
    (qa_fX10_rule ((Int16.ofInt 169).toInt32) σ).bind fun c1 =>
    some (c1.1, c1.2)
set_option maxRecDepth 100000 in
theorem qa_tX10_hits {L : Nat}   {σ : qa_T} {r : (Int32 × qa_T)} (h : qa_fX10_hits  σ = some r) : qa_Bk (qa_ds L) qa_mX10_hits 0 (qa_ag 0 [.inl (10, 21)]) [] σ (.inl (some (.inr (.int r.1)))) r.2 := by
  unfold qa_fX10_hits at h
  try dsimp only at h
  show qa_Bk (qa_ds L) qa_mX10_hits 0 [(0, .inl (10, 21))] [] σ _ _
  refine qa_bk_do (pc' := 1) rfl rfl ?_
  refine qa_bk_do (pc' := 4) rfl rfl ?_
  obtain ⟨c1, hc2, h⟩ := Option.bind_eq_some_iff.mp h
  refine qa_bk_cv (qa_tX10_rule hc2) rfl rfl rfl rfl rfl rfl rfl qa_dx_10_21 ?_
  cases h
  exact qa_bk_ri rfl rfl
noncomputable def qa_fX10_misses  (σ : qa_T) : Option (Int32 × qa_T) :=
    (qa_fX10_rule ((Int16.ofInt 170).toInt32) σ).bind fun c1 =>
    some (c1.1, c1.2)
set_option maxRecDepth 100000 in
theorem qa_tX10_misses {L : Nat}   {σ : qa_T} {r : (Int32 × qa_T)} (h : qa_fX10_misses  σ = some r) : qa_Bk (qa_ds L) qa_mX10_misses 0 (qa_ag 0 [.inl (10, 21)]) [] σ (.inl (some (.inr (.int r.1)))) r.2 := by
  unfold qa_fX10_misses at h
  try dsimp only at h
  show qa_Bk (qa_ds L) qa_mX10_misses 0 [(0, .inl (10, 21))] [] σ _ _
  refine qa_bk_do (pc' := 1) rfl rfl ?_
  refine qa_bk_do (pc' := 4) rfl rfl ?_
  obtain ⟨c1, hc2, h⟩ := Option.bind_eq_some_iff.mp h
  refine qa_bk_cv (qa_tX10_rule hc2) rfl rfl rfl rfl rfl rfl rfl qa_dx_10_21 ?_
  cases h
  exact qa_bk_ri rfl rfl
noncomputable def qa_fX10_warmLoads  (σ : qa_T) : Option (Int32 × qa_T) :=
    (qa_fX10_rule ((Int16.ofInt 172).toInt32) σ).bind fun c1 =>
    some (c1.1, c1.2)
set_option maxRecDepth 100000 in
theorem qa_tX10_warmLoads {L : Nat}   {σ : qa_T} {r : (Int32 × qa_T)} (h : qa_fX10_warmLoads  σ = some r) : qa_Bk (qa_ds L) qa_mX10_warmLoads 0 (qa_ag 0 [.inl (10, 21)]) [] σ (.inl (some (.inr (.int r.1)))) r.2 := by
  unfold qa_fX10_warmLoads at h
  try dsimp only at h
  show qa_Bk (qa_ds L) qa_mX10_warmLoads 0 [(0, .inl (10, 21))] [] σ _ _
  refine qa_bk_do (pc' := 1) rfl rfl ?_
  refine qa_bk_do (pc' := 4) rfl rfl ?_
  obtain ⟨c1, hc2, h⟩ := Option.bind_eq_some_iff.mp h
  refine qa_bk_cv (qa_tX10_rule hc2) rfl rfl rfl rfl rfl rfl rfl qa_dx_10_21 ?_
  cases h
  exact qa_bk_ri rfl rfl
noncomputable def qa_fX10_waited  (σ : qa_T) : Option (Int32 × qa_T) :=
    (qa_fX10_rule ((Int16.ofInt 174).toInt32) σ).bind fun c1 =>
    some (c1.1, c1.2)
set_option maxRecDepth 100000 in
theorem qa_tX10_waited {L : Nat}   {σ : qa_T} {r : (Int32 × qa_T)} (h : qa_fX10_waited  σ = some r) : qa_Bk (qa_ds L) qa_mX10_waited 0 (qa_ag 0 [.inl (10, 21)]) [] σ (.inl (some (.inr (.int r.1)))) r.2 := by
  unfold qa_fX10_waited at h
  try dsimp only at h
  show qa_Bk (qa_ds L) qa_mX10_waited 0 [(0, .inl (10, 21))] [] σ _ _
  refine qa_bk_do (pc' := 1) rfl rfl ?_
  refine qa_bk_do (pc' := 4) rfl rfl ?_
  obtain ⟨c1, hc2, h⟩ := Option.bind_eq_some_iff.mp h
  refine qa_bk_cv (qa_tX10_rule hc2) rfl rfl rfl rfl rfl rfl rfl qa_dx_10_21 ?_
  cases h
  exact qa_bk_ri rfl rfl
noncomputable def qa_fX10_share_38  (y0 : UInt64) (σ : qa_T) : Option UInt64 :=
    some y0
noncomputable def qa_fX10_share  (σ : qa_T) : Option UInt64 :=
    let v1 : Int32 := ((σ.1 (10, 22) (((Int16.ofInt 169).toInt32)).toNatClampNeg) + (σ.1 (10, 22) (((Int16.ofInt 170).toInt32)).toNatClampNeg))
    if ¬ v1 = 0 then
      if ¬ qa_nn (FP.ddiv (FP.i2d (σ.1 (10, 22) (((Int16.ofInt 169).toInt32)).toNatClampNeg)) (FP.i2d v1)) then none else
      qa_fX10_share_38  (FP.ddiv (FP.i2d (σ.1 (10, 22) (((Int16.ofInt 169).toInt32)).toNatClampNeg)) (FP.i2d v1)) σ
    else
      qa_fX10_share_38  FP.dconst0 σ
set_option maxRecDepth 100000 in
theorem qa_tX10_share_38 {L : Nat}   {y0 : UInt64} {σ : qa_T} {r : UInt64} (h : qa_fX10_share_38  y0 σ = some r) : qa_Bk (qa_ds L) qa_mX10_share 38 [(0, .inl (10, 21))] [.inr (.double y0)] σ (.inl (some (.inr (.double r)))) σ := by
  unfold qa_fX10_share_38 at h
  try dsimp only at h
  cases h
  exact qa_bk_re rfl rfl rfl
set_option maxRecDepth 100000 in
theorem qa_tX10_share {L : Nat}   {σ : qa_T} {r : UInt64} (h : qa_fX10_share  σ = some r) : qa_Bk (qa_ds L) qa_mX10_share 0 (qa_ag 0 [.inl (10, 21)]) [] σ (.inl (some (.inr (.double r)))) σ := by
  unfold qa_fX10_share at h
  try dsimp only at h
  show qa_Bk (qa_ds L) qa_mX10_share 0 [(0, .inl (10, 21))] [] σ _ _
  refine qa_bk_do (pc' := 1) rfl rfl ?_
  refine qa_bk_gr rfl rfl qa_dx_10_21 rfl ?_
  refine qa_bk_do (pc' := 7) rfl rfl ?_
  refine qa_bk_ia rfl qa_dx_10_22 (Or.inl rfl) rfl ?_
  refine qa_bk_do (pc' := 9) rfl rfl ?_
  refine qa_bk_gr rfl rfl qa_dx_10_21 rfl ?_
  refine qa_bk_do (pc' := 15) rfl rfl ?_
  refine qa_bk_ia rfl qa_dx_10_22 (Or.inl rfl) rfl ?_
  refine qa_bk_do (pc' := 17) rfl rfl ?_
  refine qa_bk_do (pc' := 18) (lv' := [(1, _), (0, _)]) rfl rfl ?_
  refine qa_bk_do (pc' := 19) rfl rfl ?_
  rcases qa_ite h with ⟨hc2, h⟩ | ⟨hc2, h⟩
  · refine qa_bk_1t (a := 26) (b := 22) hc2 rfl rfl ?_
    refine qa_bk_do (pc' := 27) rfl rfl ?_
    refine qa_bk_gr rfl rfl qa_dx_10_21 rfl ?_
    refine qa_bk_do (pc' := 33) rfl rfl ?_
    refine qa_bk_ia rfl qa_dx_10_22 (Or.inl rfl) rfl ?_
    refine qa_bk_do (pc' := 35) rfl rfl ?_
    refine qa_bk_do (pc' := 36) rfl rfl ?_
    refine qa_bk_do (pc' := 37) rfl rfl ?_
    rcases qa_ite h with ⟨_, h⟩ | ⟨hc3, h⟩
    · cases h
    refine qa_bk_dd (Decidable.of_not_not hc3) rfl ?_
    exact qa_bk_lw (qa_tX10_share_38  h) rfl rfl (And.intro rfl (trivial))
  · refine qa_bk_1f (a := 26) (b := 22) hc2 rfl rfl ?_
    refine qa_bk_do (pc' := 23) rfl rfl ?_
    refine qa_bk_do (pc' := 38) rfl rfl ?_
    exact qa_bk_lw (qa_tX10_share_38  h) rfl rfl (And.intro rfl (trivial))
noncomputable def qa_fX10_hitShare  (σ : qa_T) : Option (UInt64 × qa_T) :=
    let σ1 := qa_wi σ (10, 21) 9 (Int32.ofInt 0)
    (qa_fX10_share σ1).bind fun c2 =>
    some (c2, σ1)
set_option maxRecDepth 100000 in
theorem qa_tX10_hitShare {L : Nat}   {σ : qa_T} {r : (UInt64 × qa_T)} (h : qa_fX10_hitShare  σ = some r) : qa_Bk (qa_ds L) qa_mX10_hitShare 0 (qa_ag 0 [.inl (10, 21)]) [] σ (.inl (some (.inr (.double r.1)))) r.2 := by
  unfold qa_fX10_hitShare at h
  try dsimp only at h
  show qa_Bk (qa_ds L) qa_mX10_hitShare 0 [(0, .inl (10, 21))] [] σ _ _
  refine qa_bk_do (pc' := 1) rfl rfl ?_
  refine qa_bk_do (pc' := 2) rfl rfl ?_
  refine qa_bk_pf rfl rfl qa_dx_10_21 rfl (qa_fiti _) rfl ?_
  refine qa_bk_do (pc' := 6) rfl rfl ?_
  obtain ⟨c2, hc3, h⟩ := Option.bind_eq_some_iff.mp h
  refine qa_bk_cv (qa_tX10_share hc3) rfl rfl rfl rfl rfl rfl rfl qa_dx_10_21 ?_
  cases h
  exact qa_bk_re rfl rfl rfl
noncomputable def qa_fX10_bitsOf_98 (a1 : UInt64) (a2 : Int32) (a3 : Int32) (k72 : UInt64 → Int64 → Int32 → qa_T → Option Int64) (x7 : UInt64) (x9 : Int64) (x11 : Int32) (y0 : Int64) (σ : qa_T) : Option Int64 :=
    if ¬ qa_nn (FP.dsub x7 (FP.l2d y0)) then none else
    let v12 : UInt64 := (FP.dsub x7 (FP.l2d y0))
    let v13 : Int64 := (((2 : Int64) * x9) + y0)
    let v14 : Int32 := x11 + Int32.ofInt 1
    k72 v12 v13 v14 σ
noncomputable def qa_fX10_bitsOf_72 (a1 : UInt64) (a2 : Int32) (a3 : Int32) : Nat → UInt64 → Int64 → Int32 → qa_T → Option Int64
  | 0, _, _, _, _ => none
  | n + 1, x7, x9, x11, σ =>
    if a2 ≤ x11 then
      some x9
    else
      if ¬ qa_nn (FP.dmul x7 (4611686018427387904 : UInt64)) then none else
      let v9 : UInt64 := (FP.dmul x7 (4611686018427387904 : UInt64))
      if (Op.cmpValue (FP.dcmp v9 FP.dconst1) .l) < 0 then
        qa_fX10_bitsOf_98 a1 a2 a3 (qa_fX10_bitsOf_72 a1 a2 a3 n) v9 x9 x11 (Int64.ofNat ((0 : Fin 2) : Nat)) σ
      else
        qa_fX10_bitsOf_98 a1 a2 a3 (qa_fX10_bitsOf_72 a1 a2 a3 n) v9 x9 x11 (Int64.ofNat ((1 : Fin 2) : Nat)) σ
noncomputable def qa_fX10_bitsOf_37 (a1 : UInt64) (a2 : Int32) (a3 : Int32) : Nat → UInt64 → Int32 → qa_T → Option Int64
  | 0, _, _, _ => none
  | n + 1, x4, x6, σ =>
    if 0 ≤ (Op.cmpValue (FP.dcmp x4 FP.dconst1) .g) then
      if ¬ qa_nn (FP.dsub x4 FP.dconst1) then none else
      let v5 : UInt64 := (FP.dsub x4 FP.dconst1)
      let v6 : Int64 := ((x6).toInt64)
      qa_fX10_bitsOf_72 a1 a2 a3 qa_fu v5 v6 (Int32.ofInt 0) σ
    else
      if ¬ qa_nn (FP.dmul x4 (4611686018427387904 : UInt64)) then none else
      let v16 : UInt64 := (FP.dmul x4 (4611686018427387904 : UInt64))
      let v17 : Int32 := x6 + Int32.ofInt (-1)
      qa_fX10_bitsOf_37 a1 a2 a3 n v16 v17 σ
noncomputable def qa_fX10_bitsOf_14 (a1 : UInt64) (a2 : Int32) (a3 : Int32) : Nat → UInt64 → Int32 → qa_T → Option Int64
  | 0, _, _, _ => none
  | n + 1, x4, x6, σ =>
    if (Op.cmpValue (FP.dcmp x4 (4611686018427387904 : UInt64)) .l) < 0 then
      qa_fX10_bitsOf_37 a1 a2 a3 qa_fu x4 x6 σ
    else
      if ¬ qa_nn (FP.ddiv x4 (4611686018427387904 : UInt64)) then none else
      let v19 : UInt64 := (FP.ddiv x4 (4611686018427387904 : UInt64))
      let v20 : Int32 := x6 + Int32.ofInt 1
      qa_fX10_bitsOf_14 a1 a2 a3 n v19 v20 σ
noncomputable def qa_fX10_bitsOf (a1 : UInt64) (a2 : Int32) (a3 : Int32) (σ : qa_T) : Option Int64 :=
    if ¬ (Op.cmpValue (FP.dcmp a1 FP.dconst0) .l) = 0 then
      qa_fX10_bitsOf_14 a1 a2 a3 qa_fu a1 a3 σ
    else
      some (Int64.ofNat ((0 : Fin 2) : Nat))
set_option maxRecDepth 100000 in
theorem qa_tX10_bitsOf_98 {L : Nat} {a1 : UInt64} {a2 : Int32} {a3 : Int32}  {k72 : UInt64 → Int64 → Int32 → qa_T → Option Int64} (K72 : ∀ (x7 : UInt64) (x9 : Int64) (x11 : Int32) (σ : qa_T) (r : Int64), k72 x7 x9 x11 σ = some r → qa_Bk (qa_ds L) qa_mX10_bitsOf 72 [(0, .inr (.double a1)), (2, .inr (.int a2)), (3, .inr (.int a3)), (7, .inr (.double x7)), (9, .inr (.long x9)), (11, .inr (.int x11))] [] σ (.inl (some (.inr (.long r)))) σ) {x7 : UInt64} {x9 : Int64} {x11 : Int32} {y0 : Int64} {σ : qa_T} {r : Int64} (h : qa_fX10_bitsOf_98 a1 a2 a3 k72 x7 x9 x11 y0 σ = some r) : qa_Bk (qa_ds L) qa_mX10_bitsOf 98 [(0, .inr (.double a1)), (2, .inr (.int a2)), (3, .inr (.int a3)), (7, .inr (.double x7)), (9, .inr (.long x9)), (11, .inr (.int x11))] [.inr (.long y0)] σ (.inl (some (.inr (.long r)))) σ := by
  unfold qa_fX10_bitsOf_98 at h
  try dsimp only at h
  refine qa_bk_do (pc' := 100) (lv' := [(12, _), (0, _), (2, _), (3, _), (7, _), (9, _), (11, _)]) rfl rfl ?_
  refine qa_bk_do (pc' := 102) rfl rfl ?_
  refine qa_bk_do (pc' := 104) rfl rfl ?_
  refine qa_bk_do (pc' := 105) rfl rfl ?_
  rcases qa_ite h with ⟨_, h⟩ | ⟨hc11, h⟩
  · cases h
  refine qa_bk_du (Decidable.of_not_not hc11) rfl ?_
  refine qa_bk_do (pc' := 108) (lv' := [(7, _), (12, _), (0, _), (2, _), (3, _), (9, _), (11, _)]) rfl rfl ?_
  refine qa_bk_do (pc' := 111) rfl rfl ?_
  refine qa_bk_do (pc' := 113) rfl rfl ?_
  refine qa_bk_do (pc' := 114) rfl rfl ?_
  refine qa_bk_do (pc' := 116) rfl rfl ?_
  refine qa_bk_do (pc' := 117) rfl rfl ?_
  refine qa_bk_do (pc' := 119) (lv' := [(9, _), (7, _), (12, _), (0, _), (2, _), (3, _), (11, _)]) rfl rfl ?_
  refine qa_bk_do (pc' := 122) (lv' := [(11, _), (9, _), (7, _), (12, _), (0, _), (2, _), (3, _)]) rfl rfl ?_
  refine qa_bk_do (pc' := 72) rfl rfl ?_
  exact qa_bk_lw (K72 _ _ _ _ _ h) rfl rfl (And.intro rfl (And.intro rfl (And.intro rfl (And.intro rfl (And.intro rfl (And.intro rfl (trivial)))))))
set_option maxRecDepth 100000 in
theorem qa_tX10_bitsOf_72 {L : Nat} {a1 : UInt64} {a2 : Int32} {a3 : Int32}  : ∀ (n : Nat) (x7 : UInt64) (x9 : Int64) (x11 : Int32) (σ : qa_T) (r : Int64), qa_fX10_bitsOf_72 a1 a2 a3 n x7 x9 x11 σ = some r → qa_Bk (qa_ds L) qa_mX10_bitsOf 72 [(0, .inr (.double a1)), (2, .inr (.int a2)), (3, .inr (.int a3)), (7, .inr (.double x7)), (9, .inr (.long x9)), (11, .inr (.int x11))] [] σ (.inl (some (.inr (.long r)))) σ := by
  intro n
  induction n with
  | zero => intro x7 x9 x11 σ r h; cases h
  | succ n ih =>
    intro x7 x9 x11 σ r h
    unfold qa_fX10_bitsOf_72 at h
    try dsimp only at h
    refine qa_bk_do (pc' := 74) rfl rfl ?_
    refine qa_bk_do (pc' := 75) rfl rfl ?_
    rcases qa_ite h with ⟨hc7, h⟩ | ⟨hc7, h⟩
    · refine qa_bk_1t (a := 125) (b := 78) hc7 rfl rfl ?_
      refine qa_bk_do (pc' := 127) rfl rfl ?_
      cases h
      exact qa_bk_re rfl rfl rfl
    · refine qa_bk_1f (a := 125) (b := 78) hc7 rfl rfl ?_
      refine qa_bk_do (pc' := 80) rfl rfl ?_
      refine qa_bk_do (pc' := 83) rfl rfl ?_
      rcases qa_ite h with ⟨_, h⟩ | ⟨hc8, h⟩
      · cases h
      refine qa_bk_dm (Decidable.of_not_not hc8) rfl ?_
      refine qa_bk_do (pc' := 86) (lv' := [(7, _), (0, _), (2, _), (3, _), (9, _), (11, _)]) rfl rfl ?_
      refine qa_bk_do (pc' := 88) rfl rfl ?_
      refine qa_bk_do (pc' := 89) rfl rfl ?_
      refine qa_bk_do (pc' := 90) rfl rfl ?_
      rcases qa_ite h with ⟨hc10, h⟩ | ⟨hc10, h⟩
      · refine qa_bk_1t (a := 97) (b := 93) hc10 rfl rfl ?_
        refine qa_bk_do (pc' := 98) rfl rfl ?_
        exact qa_bk_lw (qa_tX10_bitsOf_98  ih h) rfl rfl (And.intro rfl (And.intro rfl (And.intro rfl (And.intro rfl (And.intro rfl (And.intro rfl (trivial)))))))
      · refine qa_bk_1f (a := 97) (b := 93) hc10 rfl rfl ?_
        refine qa_bk_do (pc' := 94) rfl rfl ?_
        refine qa_bk_do (pc' := 98) rfl rfl ?_
        exact qa_bk_lw (qa_tX10_bitsOf_98  ih h) rfl rfl (And.intro rfl (And.intro rfl (And.intro rfl (And.intro rfl (And.intro rfl (And.intro rfl (trivial)))))))
set_option maxRecDepth 100000 in
theorem qa_tX10_bitsOf_37 {L : Nat} {a1 : UInt64} {a2 : Int32} {a3 : Int32}  : ∀ (n : Nat) (x4 : UInt64) (x6 : Int32) (σ : qa_T) (r : Int64), qa_fX10_bitsOf_37 a1 a2 a3 n x4 x6 σ = some r → qa_Bk (qa_ds L) qa_mX10_bitsOf 37 [(0, .inr (.double a1)), (2, .inr (.int a2)), (3, .inr (.int a3)), (4, .inr (.double x4)), (6, .inr (.int x6))] [] σ (.inl (some (.inr (.long r)))) σ := by
  intro n
  induction n with
  | zero => intro x4 x6 σ r h; cases h
  | succ n ih =>
    intro x4 x6 σ r h
    unfold qa_fX10_bitsOf_37 at h
    try dsimp only at h
    refine qa_bk_do (pc' := 39) rfl rfl ?_
    refine qa_bk_do (pc' := 40) rfl rfl ?_
    refine qa_bk_do (pc' := 41) rfl rfl ?_
    rcases qa_ite h with ⟨hc3, h⟩ | ⟨hc3, h⟩
    · refine qa_bk_1t (a := 58) (b := 44) hc3 rfl rfl ?_
      refine qa_bk_do (pc' := 60) rfl rfl ?_
      refine qa_bk_do (pc' := 61) rfl rfl ?_
      rcases qa_ite h with ⟨_, h⟩ | ⟨hc4, h⟩
      · cases h
      refine qa_bk_du (Decidable.of_not_not hc4) rfl ?_
      refine qa_bk_do (pc' := 64) (lv' := [(7, _), (0, _), (2, _), (3, _), (4, _), (6, _)]) rfl rfl ?_
      refine qa_bk_do (pc' := 66) rfl rfl ?_
      refine qa_bk_do (pc' := 67) rfl rfl ?_
      refine qa_bk_do (pc' := 69) (lv' := [(9, _), (7, _), (0, _), (2, _), (3, _), (4, _), (6, _)]) rfl rfl ?_
      refine qa_bk_do (pc' := 70) rfl rfl ?_
      refine qa_bk_do (pc' := 72) (lv' := [(11, _), (9, _), (7, _), (0, _), (2, _), (3, _), (4, _), (6, _)]) rfl rfl ?_
      exact qa_bk_lw (qa_tX10_bitsOf_72  _ _ _ _ _ _ h) rfl rfl (And.intro rfl (And.intro rfl (And.intro rfl (And.intro rfl (And.intro rfl (And.intro rfl (trivial)))))))
    · refine qa_bk_1f (a := 58) (b := 44) hc3 rfl rfl ?_
      refine qa_bk_do (pc' := 46) rfl rfl ?_
      refine qa_bk_do (pc' := 49) rfl rfl ?_
      rcases qa_ite h with ⟨_, h⟩ | ⟨hc15, h⟩
      · cases h
      refine qa_bk_dm (Decidable.of_not_not hc15) rfl ?_
      refine qa_bk_do (pc' := 52) (lv' := [(4, _), (0, _), (2, _), (3, _), (6, _)]) rfl rfl ?_
      refine qa_bk_do (pc' := 55) (lv' := [(6, _), (4, _), (0, _), (2, _), (3, _)]) rfl rfl ?_
      refine qa_bk_do (pc' := 37) rfl rfl ?_
      exact qa_bk_lw (ih _ _ _ _ h) rfl rfl (And.intro rfl (And.intro rfl (And.intro rfl (And.intro rfl (And.intro rfl (trivial))))))
set_option maxRecDepth 100000 in
theorem qa_tX10_bitsOf_14 {L : Nat} {a1 : UInt64} {a2 : Int32} {a3 : Int32}  : ∀ (n : Nat) (x4 : UInt64) (x6 : Int32) (σ : qa_T) (r : Int64), qa_fX10_bitsOf_14 a1 a2 a3 n x4 x6 σ = some r → qa_Bk (qa_ds L) qa_mX10_bitsOf 14 [(0, .inr (.double a1)), (2, .inr (.int a2)), (3, .inr (.int a3)), (4, .inr (.double x4)), (6, .inr (.int x6))] [] σ (.inl (some (.inr (.long r)))) σ := by
  intro n
  induction n with
  | zero => intro x4 x6 σ r h; cases h
  | succ n ih =>
    intro x4 x6 σ r h
    unfold qa_fX10_bitsOf_14 at h
    try dsimp only at h
    refine qa_bk_do (pc' := 16) rfl rfl ?_
    refine qa_bk_do (pc' := 19) rfl rfl ?_
    refine qa_bk_do (pc' := 20) rfl rfl ?_
    rcases qa_ite h with ⟨hc2, h⟩ | ⟨hc2, h⟩
    · refine qa_bk_1t (a := 37) (b := 23) hc2 rfl rfl ?_
      exact qa_bk_lw (qa_tX10_bitsOf_37  _ _ _ _ _ h) rfl rfl (And.intro rfl (And.intro rfl (And.intro rfl (And.intro rfl (And.intro rfl (trivial))))))
    · refine qa_bk_1f (a := 37) (b := 23) hc2 rfl rfl ?_
      refine qa_bk_do (pc' := 25) rfl rfl ?_
      refine qa_bk_do (pc' := 28) rfl rfl ?_
      rcases qa_ite h with ⟨_, h⟩ | ⟨hc18, h⟩
      · cases h
      refine qa_bk_dd (Decidable.of_not_not hc18) rfl ?_
      refine qa_bk_do (pc' := 31) (lv' := [(4, _), (0, _), (2, _), (3, _), (6, _)]) rfl rfl ?_
      refine qa_bk_do (pc' := 34) (lv' := [(6, _), (4, _), (0, _), (2, _), (3, _)]) rfl rfl ?_
      refine qa_bk_do (pc' := 14) rfl rfl ?_
      exact qa_bk_lw (ih _ _ _ _ h) rfl rfl (And.intro rfl (And.intro rfl (And.intro rfl (And.intro rfl (And.intro rfl (trivial))))))
set_option maxRecDepth 100000 in
theorem qa_tX10_bitsOf {L : Nat} {a1 : UInt64} {a2 : Int32} {a3 : Int32}  {σ : qa_T} {r : Int64} (h : qa_fX10_bitsOf a1 a2 a3 σ = some r) : qa_Bk (qa_ds L) qa_mX10_bitsOf 0 (qa_ag 0 [.inr (.double a1), .inr (.int a2), .inr (.int a3)]) [] σ (.inl (some (.inr (.long r)))) σ := by
  unfold qa_fX10_bitsOf at h
  try dsimp only at h
  show qa_Bk (qa_ds L) qa_mX10_bitsOf 0 [(0, .inr (.double a1)), (2, .inr (.int a2)), (3, .inr (.int a3))] [] σ _ _
  refine qa_bk_do (pc' := 1) rfl rfl ?_
  refine qa_bk_do (pc' := 2) rfl rfl ?_
  refine qa_bk_do (pc' := 3) rfl rfl ?_
  rcases qa_ite h with ⟨hc1, h⟩ | ⟨hc1, h⟩
  · refine qa_bk_1t (a := 8) (b := 6) hc1 rfl rfl ?_
    refine qa_bk_do (pc' := 9) rfl rfl ?_
    refine qa_bk_do (pc' := 11) (lv' := [(4, _), (0, _), (2, _), (3, _)]) rfl rfl ?_
    refine qa_bk_do (pc' := 12) rfl rfl ?_
    refine qa_bk_do (pc' := 14) (lv' := [(6, _), (4, _), (0, _), (2, _), (3, _)]) rfl rfl ?_
    exact qa_bk_lw (qa_tX10_bitsOf_14  _ _ _ _ _ h) rfl rfl (And.intro rfl (And.intro rfl (And.intro rfl (And.intro rfl (And.intro rfl (trivial))))))
  · refine qa_bk_1f (a := 8) (b := 6) hc1 rfl rfl ?_
    refine qa_bk_do (pc' := 7) rfl rfl ?_
    cases h
    exact qa_bk_re rfl rfl rfl
noncomputable def qa_fX10_mix (a1 : Int64) (σ : qa_T) : qa_T :=
    let σ1 := qa_wl σ (10, 21) 14 (((31 : Int64) * (σ.2 (10, 21) 14)) + a1)
    σ1
set_option maxRecDepth 100000 in
theorem qa_tX10_mix {L : Nat} {a1 : Int64}  {σ : qa_T} {r : qa_T} (h : qa_fX10_mix a1 σ = r) : qa_Bk (qa_ds L) qa_mX10_mix 0 (qa_ag 0 [.inl (10, 21), .inr (.long a1)]) [] σ (.inl none) r := by
  unfold qa_fX10_mix at h
  try dsimp only at h
  show qa_Bk (qa_ds L) qa_mX10_mix 0 [(0, .inl (10, 21)), (1, .inr (.long a1))] [] σ _ _
  refine qa_bk_do (pc' := 1) rfl rfl ?_
  refine qa_bk_do (pc' := 4) rfl rfl ?_
  refine qa_bk_do (pc' := 5) rfl rfl ?_
  refine qa_bk_gl rfl rfl qa_dx_10_21 rfl ?_
  refine qa_bk_do (pc' := 9) rfl rfl ?_
  refine qa_bk_do (pc' := 10) rfl rfl ?_
  refine qa_bk_do (pc' := 11) rfl rfl ?_
  refine qa_bk_pl rfl rfl qa_dx_10_21 rfl (qa_fitj _) rfl ?_
  subst h
  exact qa_bk_re rfl rfl rfl
noncomputable def qa_fX10_mixesSlide_132 (a1 : Int32) (y0 : Int64) (σ : qa_T) : Option qa_T :=
    let σ30 := qa_fX10_mix y0 σ
    (qa_fX10_burningsOf a1 σ30).bind fun c31 =>
    let σ33 := qa_fX10_mix ((c31.1).toInt64) c31.2
    some σ33
noncomputable def qa_fX10_mixesSlide_108 (a1 : Int32) (y0 : Int64) (σ : qa_T) : Option qa_T :=
    let σ26 := qa_fX10_mix y0 σ
    (qa_fX10_canBurn a1 σ26).bind fun c27 =>
    if (qa_bi c27) = 0 then
      qa_fX10_mixesSlide_132 a1 (Int64.ofNat ((0 : Fin 2) : Nat)) σ26
    else
      (qa_fX10_inOrder a1 σ26).bind fun c34 =>
      qa_fX10_mixesSlide_132 a1 (((c34 + (Int32.ofInt 1))).toInt64) σ26
noncomputable def qa_fX10_mixesSlide_57 (a1 : Int32) (y0 : Int64) (σ : qa_T) : Option qa_T :=
    let σ14 := qa_fX10_mix y0 σ
    (qa_fX10_of a1 (Int32.ofInt 4) σ14).bind fun c15 =>
    let σ17 := qa_fX10_mix ((c15).toInt64) σ14
    (qa_fX10_of a1 (Int32.ofInt 5) σ17).bind fun c18 =>
    let σ20 := qa_fX10_mix ((c18).toInt64) σ17
    (qa_fX10_nextOf a1 σ20).bind fun c21 =>
    if c21 ≤ (σ20.1 (10, 22) (((Int8.ofInt 113).toInt32)).toNatClampNeg) then
      (qa_fX10_nextOf a1 σ20).bind fun c24 =>
      qa_fX10_mixesSlide_108 a1 ((c24).toInt64) σ20
    else
      qa_fX10_mixesSlide_108 a1 (Int64.ofNat ((0 : Fin 2) : Nat)) σ20
noncomputable def qa_fX10_mixesSlide (a1 : Int32) (σ : qa_T) : Option qa_T :=
    (qa_fX10_of a1 (Int32.ofInt 0) σ).bind fun c1 =>
    let σ3 := qa_fX10_mix ((c1).toInt64) σ
    (qa_fX10_due a1 σ3).bind fun c4 =>
    let σ6 := qa_fX10_mix ((c4).toInt64) σ3
    (qa_fX10_of a1 (Int32.ofInt 2) σ6).bind fun c7 =>
    let σ9 := qa_fX10_mix ((c7).toInt64) σ6
    (qa_fX10_of a1 (Int32.ofInt 3) σ9).bind fun c10 =>
    let σ12 := qa_fX10_mix ((c10).toInt64) σ9
    if (qa_bi (qa_fX10_onShow a1 σ12)) = 0 then
      qa_fX10_mixesSlide_57 a1 (Int64.ofNat ((0 : Fin 2) : Nat)) σ12
    else
      qa_fX10_mixesSlide_57 a1 (Int64.ofNat ((1 : Fin 2) : Nat)) σ12
set_option maxRecDepth 100000 in
theorem qa_tX10_mixesSlide_132 {L : Nat} {a1 : Int32}  {y0 : Int64} {σ : qa_T} {r : qa_T} (h : qa_fX10_mixesSlide_132 a1 y0 σ = some r) : qa_Bk (qa_ds L) qa_mX10_mixesSlide 132 [(0, .inl (10, 21)), (1, .inr (.int a1))] [.inr (.long y0), .inl (10, 21)] σ (.inl none) r := by
  unfold qa_fX10_mixesSlide_132 at h
  try dsimp only at h
  refine qa_bk_cv (qa_tX10_mix rfl) rfl rfl rfl rfl rfl rfl rfl qa_dx_10_21 ?_
  refine qa_bk_do (pc' := 136) rfl rfl ?_
  refine qa_bk_do (pc' := 137) rfl rfl ?_
  refine qa_bk_do (pc' := 138) rfl rfl ?_
  obtain ⟨c31, hc32, h⟩ := Option.bind_eq_some_iff.mp h
  refine qa_bk_cv (qa_tX10_burningsOf hc32) rfl rfl rfl rfl rfl rfl rfl qa_dx_10_21 ?_
  refine qa_bk_do (pc' := 142) rfl rfl ?_
  refine qa_bk_cv (qa_tX10_mix rfl) rfl rfl rfl rfl rfl rfl rfl qa_dx_10_21 ?_
  cases h
  exact qa_bk_re rfl rfl rfl
set_option maxRecDepth 100000 in
theorem qa_tX10_mixesSlide_108 {L : Nat} {a1 : Int32}  {y0 : Int64} {σ : qa_T} {r : qa_T} (h : qa_fX10_mixesSlide_108 a1 y0 σ = some r) : qa_Bk (qa_ds L) qa_mX10_mixesSlide 108 [(0, .inl (10, 21)), (1, .inr (.int a1))] [.inr (.long y0), .inl (10, 21)] σ (.inl none) r := by
  unfold qa_fX10_mixesSlide_108 at h
  try dsimp only at h
  refine qa_bk_cv (qa_tX10_mix rfl) rfl rfl rfl rfl rfl rfl rfl qa_dx_10_21 ?_
  refine qa_bk_do (pc' := 112) rfl rfl ?_
  refine qa_bk_do (pc' := 113) rfl rfl ?_
  refine qa_bk_do (pc' := 114) rfl rfl ?_
  obtain ⟨c27, hc28, h⟩ := Option.bind_eq_some_iff.mp h
  refine qa_bk_cv (qa_tX10_canBurn hc28) rfl rfl rfl rfl rfl rfl rfl qa_dx_10_21 ?_
  rcases qa_ite h with ⟨hc29, h⟩ | ⟨hc29, h⟩
  · refine qa_bk_1t (a := 131) (b := 120) hc29 rfl rfl ?_
    refine qa_bk_do (pc' := 132) rfl rfl ?_
    exact qa_bk_lw (qa_tX10_mixesSlide_132  h) rfl rfl (And.intro rfl (And.intro rfl (trivial)))
  · refine qa_bk_1f (a := 131) (b := 120) hc29 rfl rfl ?_
    refine qa_bk_do (pc' := 121) rfl rfl ?_
    refine qa_bk_do (pc' := 122) rfl rfl ?_
    obtain ⟨c34, hc35, h⟩ := Option.bind_eq_some_iff.mp h
    refine qa_bk_cv (qa_tX10_inOrder hc35) rfl rfl rfl rfl rfl rfl rfl qa_dx_10_21 ?_
    refine qa_bk_do (pc' := 126) rfl rfl ?_
    refine qa_bk_do (pc' := 127) rfl rfl ?_
    refine qa_bk_do (pc' := 128) rfl rfl ?_
    refine qa_bk_do (pc' := 132) rfl rfl ?_
    exact qa_bk_lw (qa_tX10_mixesSlide_132  h) rfl rfl (And.intro rfl (And.intro rfl (trivial)))
set_option maxRecDepth 100000 in
theorem qa_tX10_mixesSlide_57 {L : Nat} {a1 : Int32}  {y0 : Int64} {σ : qa_T} {r : qa_T} (h : qa_fX10_mixesSlide_57 a1 y0 σ = some r) : qa_Bk (qa_ds L) qa_mX10_mixesSlide 57 [(0, .inl (10, 21)), (1, .inr (.int a1))] [.inr (.long y0), .inl (10, 21)] σ (.inl none) r := by
  unfold qa_fX10_mixesSlide_57 at h
  try dsimp only at h
  refine qa_bk_cv (qa_tX10_mix rfl) rfl rfl rfl rfl rfl rfl rfl qa_dx_10_21 ?_
  refine qa_bk_do (pc' := 61) rfl rfl ?_
  refine qa_bk_do (pc' := 62) rfl rfl ?_
  refine qa_bk_do (pc' := 63) rfl rfl ?_
  refine qa_bk_do (pc' := 64) rfl rfl ?_
  obtain ⟨c15, hc16, h⟩ := Option.bind_eq_some_iff.mp h
  refine qa_bk_cv (qa_tX10_of hc16) rfl rfl rfl rfl rfl rfl rfl qa_dx_10_21 ?_
  refine qa_bk_do (pc' := 68) rfl rfl ?_
  refine qa_bk_cv (qa_tX10_mix rfl) rfl rfl rfl rfl rfl rfl rfl qa_dx_10_21 ?_
  refine qa_bk_do (pc' := 72) rfl rfl ?_
  refine qa_bk_do (pc' := 73) rfl rfl ?_
  refine qa_bk_do (pc' := 74) rfl rfl ?_
  refine qa_bk_do (pc' := 75) rfl rfl ?_
  obtain ⟨c18, hc19, h⟩ := Option.bind_eq_some_iff.mp h
  refine qa_bk_cv (qa_tX10_of hc19) rfl rfl rfl rfl rfl rfl rfl qa_dx_10_21 ?_
  refine qa_bk_do (pc' := 79) rfl rfl ?_
  refine qa_bk_cv (qa_tX10_mix rfl) rfl rfl rfl rfl rfl rfl rfl qa_dx_10_21 ?_
  refine qa_bk_do (pc' := 83) rfl rfl ?_
  refine qa_bk_do (pc' := 84) rfl rfl ?_
  refine qa_bk_do (pc' := 85) rfl rfl ?_
  obtain ⟨c21, hc22, h⟩ := Option.bind_eq_some_iff.mp h
  refine qa_bk_cv (qa_tX10_nextOf hc22) rfl rfl rfl rfl rfl rfl rfl qa_dx_10_21 ?_
  refine qa_bk_do (pc' := 89) rfl rfl ?_
  refine qa_bk_gr rfl rfl qa_dx_10_21 rfl ?_
  refine qa_bk_do (pc' := 94) rfl rfl ?_
  refine qa_bk_ia rfl qa_dx_10_22 (Or.inl rfl) rfl ?_
  rcases qa_ite h with ⟨hc23, h⟩ | ⟨hc23, h⟩
  · refine qa_bk_1t (a := 102) (b := 98) hc23 rfl rfl ?_
    refine qa_bk_do (pc' := 103) rfl rfl ?_
    refine qa_bk_do (pc' := 104) rfl rfl ?_
    obtain ⟨c24, hc25, h⟩ := Option.bind_eq_some_iff.mp h
    refine qa_bk_cv (qa_tX10_nextOf hc25) rfl rfl rfl rfl rfl rfl rfl qa_dx_10_21 ?_
    refine qa_bk_do (pc' := 108) rfl rfl ?_
    exact qa_bk_lw (qa_tX10_mixesSlide_108  h) rfl rfl (And.intro rfl (And.intro rfl (trivial)))
  · refine qa_bk_1f (a := 102) (b := 98) hc23 rfl rfl ?_
    refine qa_bk_do (pc' := 99) rfl rfl ?_
    refine qa_bk_do (pc' := 108) rfl rfl ?_
    exact qa_bk_lw (qa_tX10_mixesSlide_108  h) rfl rfl (And.intro rfl (And.intro rfl (trivial)))
set_option maxRecDepth 100000 in
theorem qa_tX10_mixesSlide {L : Nat} {a1 : Int32}  {σ : qa_T} {r : qa_T} (h : qa_fX10_mixesSlide a1 σ = some r) : qa_Bk (qa_ds L) qa_mX10_mixesSlide 0 (qa_ag 0 [.inl (10, 21), .inr (.int a1)]) [] σ (.inl none) r := by
  unfold qa_fX10_mixesSlide at h
  try dsimp only at h
  show qa_Bk (qa_ds L) qa_mX10_mixesSlide 0 [(0, .inl (10, 21)), (1, .inr (.int a1))] [] σ _ _
  refine qa_bk_do (pc' := 1) rfl rfl ?_
  refine qa_bk_do (pc' := 2) rfl rfl ?_
  refine qa_bk_do (pc' := 3) rfl rfl ?_
  refine qa_bk_do (pc' := 4) rfl rfl ?_
  obtain ⟨c1, hc2, h⟩ := Option.bind_eq_some_iff.mp h
  refine qa_bk_cv (qa_tX10_of hc2) rfl rfl rfl rfl rfl rfl rfl qa_dx_10_21 ?_
  refine qa_bk_do (pc' := 8) rfl rfl ?_
  refine qa_bk_cv (qa_tX10_mix rfl) rfl rfl rfl rfl rfl rfl rfl qa_dx_10_21 ?_
  refine qa_bk_do (pc' := 12) rfl rfl ?_
  refine qa_bk_do (pc' := 13) rfl rfl ?_
  refine qa_bk_do (pc' := 14) rfl rfl ?_
  obtain ⟨c4, hc5, h⟩ := Option.bind_eq_some_iff.mp h
  refine qa_bk_cv (qa_tX10_due hc5) rfl rfl rfl rfl rfl rfl rfl qa_dx_10_21 ?_
  refine qa_bk_do (pc' := 18) rfl rfl ?_
  refine qa_bk_cv (qa_tX10_mix rfl) rfl rfl rfl rfl rfl rfl rfl qa_dx_10_21 ?_
  refine qa_bk_do (pc' := 22) rfl rfl ?_
  refine qa_bk_do (pc' := 23) rfl rfl ?_
  refine qa_bk_do (pc' := 24) rfl rfl ?_
  refine qa_bk_do (pc' := 25) rfl rfl ?_
  obtain ⟨c7, hc8, h⟩ := Option.bind_eq_some_iff.mp h
  refine qa_bk_cv (qa_tX10_of hc8) rfl rfl rfl rfl rfl rfl rfl qa_dx_10_21 ?_
  refine qa_bk_do (pc' := 29) rfl rfl ?_
  refine qa_bk_cv (qa_tX10_mix rfl) rfl rfl rfl rfl rfl rfl rfl qa_dx_10_21 ?_
  refine qa_bk_do (pc' := 33) rfl rfl ?_
  refine qa_bk_do (pc' := 34) rfl rfl ?_
  refine qa_bk_do (pc' := 35) rfl rfl ?_
  refine qa_bk_do (pc' := 36) rfl rfl ?_
  obtain ⟨c10, hc11, h⟩ := Option.bind_eq_some_iff.mp h
  refine qa_bk_cv (qa_tX10_of hc11) rfl rfl rfl rfl rfl rfl rfl qa_dx_10_21 ?_
  refine qa_bk_do (pc' := 40) rfl rfl ?_
  refine qa_bk_cv (qa_tX10_mix rfl) rfl rfl rfl rfl rfl rfl rfl qa_dx_10_21 ?_
  refine qa_bk_do (pc' := 44) rfl rfl ?_
  refine qa_bk_do (pc' := 45) rfl rfl ?_
  refine qa_bk_do (pc' := 46) rfl rfl ?_
  refine qa_bk_cv (qa_tX10_onShow rfl) rfl rfl rfl rfl rfl rfl rfl qa_dx_10_21 ?_
  rcases qa_ite h with ⟨hc13, h⟩ | ⟨hc13, h⟩
  · refine qa_bk_1t (a := 56) (b := 52) hc13 rfl rfl ?_
    refine qa_bk_do (pc' := 57) rfl rfl ?_
    exact qa_bk_lw (qa_tX10_mixesSlide_57  h) rfl rfl (And.intro rfl (And.intro rfl (trivial)))
  · refine qa_bk_1f (a := 56) (b := 52) hc13 rfl rfl ?_
    refine qa_bk_do (pc' := 53) rfl rfl ?_
    refine qa_bk_do (pc' := 57) rfl rfl ?_
    exact qa_bk_lw (qa_tX10_mixesSlide_57  h) rfl rfl (And.intro rfl (And.intro rfl (trivial)))
