/-! the methods as functions (written by wip/tools/gen.py) -/
noncomputable def qa_fX10_goBack_75 (a1 : Int32) (σ : qa_T) : Option qa_T :=
    some σ
noncomputable def qa_fX10_goBack_44 (a1 : Int32) : Nat → Int32 → qa_T → Option qa_T
  | 0, _, _ => none
  | n + 1, x2, σ =>
    if ((Int16.ofInt 176).toInt32) ≤ x2 then
      qa_fX10_goBack_75 a1 σ
    else
      if ¬ qa_in ((((Int16.ofInt 176).toInt32) * a1) + x2) 352 = true then none else
      if ¬ qa_in x2 176 = true then none else
      let σ11 := qa_wi σ (10, 22) (x2).toNatClampNeg (σ.1 (10, 24) (((((Int16.ofInt 176).toInt32) * a1) + x2)).toNatClampNeg)
      let v12 : Int32 := x2 + Int32.ofInt 1
      qa_fX10_goBack_44 a1 n v12 σ11
noncomputable def qa_fX10_goBack_28 (a1 : Int32) (y0 : Int32) (σ : qa_T) : Option qa_T :=
    let σ4 := qa_wi σ (10, 21) 9 y0
    if ¬ (σ4.1 (10, 21) 9) = 0 then
      qa_fX10_goBack_75 a1 σ4
    else
      (qa_fX10_save σ4).bind fun c6 =>
      qa_fX10_goBack_44 a1 qa_fu (Int32.ofInt 0) c6
noncomputable def qa_fX10_goBack (a1 : Int32) (σ : qa_T) : Option qa_T :=
    if ¬ (qa_bi (qa_fX10_in a1 (Int32.ofInt 0) (Int32.ofInt 1) σ)) = 0 then
      if ¬ qa_in a1 2 = true then none else
      if (σ.1 (10, 25) (a1).toNatClampNeg) = 0 then
        qa_fX10_goBack_28 a1 (Int32.ofInt 2) σ
      else
        qa_fX10_goBack_28 a1 (Int32.ofInt 0) σ
    else
      qa_fX10_goBack_28 a1 (Int32.ofInt 1) σ
set_option maxRecDepth 100000 in
theorem qa_tX10_goBack_75 {L : Nat} {a1 : Int32}  {σ : qa_T} {r : qa_T} (h : qa_fX10_goBack_75 a1 σ = some r) : qa_Bk (qa_ds L) qa_mX10_goBack 75 [(0, .inl (10, 21)), (1, .inr (.int a1))] [] σ (.inl none) r := by
  unfold qa_fX10_goBack_75 at h
  try dsimp only at h
  cases h
  exact qa_bk_re rfl rfl rfl
set_option maxRecDepth 100000 in
theorem qa_tX10_goBack_44 {L : Nat} {a1 : Int32}  : ∀ (n : Nat) (x2 : Int32) (σ : qa_T) (r : qa_T), qa_fX10_goBack_44 a1 n x2 σ = some r → qa_Bk (qa_ds L) qa_mX10_goBack 44 [(0, .inl (10, 21)), (1, .inr (.int a1)), (2, .inr (.int x2))] [] σ (.inl none) r := by
  intro n
  induction n with
  | zero => intro x2 σ r h; cases h
  | succ n ih =>
    intro x2 σ r h
    unfold qa_fX10_goBack_44 at h
    try dsimp only at h
    refine qa_bk_do (pc' := 45) rfl rfl ?_
    refine qa_bk_do (pc' := 48) rfl rfl ?_
    rcases qa_ite h with ⟨hc8, h⟩ | ⟨hc8, h⟩
    · refine qa_bk_1t (a := 75) (b := 51) hc8 rfl rfl ?_
      exact qa_bk_lw (qa_tX10_goBack_75  h) rfl rfl (And.intro rfl (And.intro rfl (trivial)))
    · refine qa_bk_1f (a := 75) (b := 51) hc8 rfl rfl ?_
      refine qa_bk_do (pc' := 52) rfl rfl ?_
      refine qa_bk_gr rfl rfl qa_dx_10_21 rfl ?_
      refine qa_bk_do (pc' := 56) rfl rfl ?_
      refine qa_bk_do (pc' := 57) rfl rfl ?_
      refine qa_bk_gr rfl rfl qa_dx_10_21 rfl ?_
      refine qa_bk_do (pc' := 63) rfl rfl ?_
      refine qa_bk_do (pc' := 64) rfl rfl ?_
      refine qa_bk_do (pc' := 65) rfl rfl ?_
      refine qa_bk_do (pc' := 66) rfl rfl ?_
      refine qa_bk_do (pc' := 67) rfl rfl ?_
      rcases qa_ite h with ⟨_, h⟩ | ⟨hc9, h⟩
      · cases h
      refine qa_bk_ia rfl qa_dx_10_24 (Or.inl rfl) (Decidable.of_not_not hc9) ?_
      rcases qa_ite h with ⟨_, h⟩ | ⟨hc10, h⟩
      · cases h
      refine qa_bk_is rfl qa_dx_10_22 (Decidable.of_not_not hc10) ?_
      refine qa_bk_do (pc' := 72) (lv' := [(2, _), (0, _), (1, _)]) rfl rfl ?_
      refine qa_bk_do (pc' := 44) rfl rfl ?_
      exact qa_bk_lw (ih _ _ _ h) rfl rfl (And.intro rfl (And.intro rfl (And.intro rfl (trivial))))
set_option maxRecDepth 100000 in
theorem qa_tX10_goBack_28 {L : Nat} {a1 : Int32}  {y0 : Int32} {σ : qa_T} {r : qa_T} (h : qa_fX10_goBack_28 a1 y0 σ = some r) : qa_Bk (qa_ds L) qa_mX10_goBack 28 [(0, .inl (10, 21)), (1, .inr (.int a1))] [.inr (.int y0), .inl (10, 21)] σ (.inl none) r := by
  unfold qa_fX10_goBack_28 at h
  try dsimp only at h
  refine qa_bk_pf rfl rfl qa_dx_10_21 rfl (qa_fiti _) rfl ?_
  refine qa_bk_do (pc' := 32) rfl rfl ?_
  refine qa_bk_gi rfl rfl qa_dx_10_21 rfl ?_
  rcases qa_ite h with ⟨hc5, h⟩ | ⟨hc5, h⟩
  · refine qa_bk_1t (a := 75) (b := 38) hc5 rfl rfl ?_
    exact qa_bk_lw (qa_tX10_goBack_75  h) rfl rfl (And.intro rfl (And.intro rfl (trivial)))
  · refine qa_bk_1f (a := 75) (b := 38) hc5 rfl rfl ?_
    refine qa_bk_do (pc' := 39) rfl rfl ?_
    obtain ⟨c6, hc7, h⟩ := Option.bind_eq_some_iff.mp h
    refine qa_bk_cv (qa_tX10_save hc7) rfl rfl rfl rfl rfl rfl rfl qa_dx_10_21 ?_
    refine qa_bk_do (pc' := 43) rfl rfl ?_
    refine qa_bk_do (pc' := 44) (lv' := [(2, _), (0, _), (1, _)]) rfl rfl ?_
    exact qa_bk_lw (qa_tX10_goBack_44  _ _ _ _ h) rfl rfl (And.intro rfl (And.intro rfl (And.intro rfl (trivial))))
set_option maxRecDepth 100000 in
theorem qa_tX10_goBack {L : Nat} {a1 : Int32}  {σ : qa_T} {r : qa_T} (h : qa_fX10_goBack a1 σ = some r) : qa_Bk (qa_ds L) qa_mX10_goBack 0 (qa_ag 0 [.inl (10, 21), .inr (.int a1)]) [] σ (.inl none) r := by
  unfold qa_fX10_goBack at h
  try dsimp only at h
  show qa_Bk (qa_ds L) qa_mX10_goBack 0 [(0, .inl (10, 21)), (1, .inr (.int a1))] [] σ _ _
  refine qa_bk_do (pc' := 1) rfl rfl ?_
  refine qa_bk_do (pc' := 2) rfl rfl ?_
  refine qa_bk_do (pc' := 3) rfl rfl ?_
  refine qa_bk_do (pc' := 4) rfl rfl ?_
  refine qa_bk_cs (qa_tX10_in rfl) rfl rfl rfl rfl rfl rfl rfl ?_
  rcases qa_ite h with ⟨hc1, h⟩ | ⟨hc1, h⟩
  · refine qa_bk_1t (a := 14) (b := 10) hc1 rfl rfl ?_
    refine qa_bk_do (pc' := 15) rfl rfl ?_
    refine qa_bk_gr rfl rfl qa_dx_10_21 rfl ?_
    refine qa_bk_do (pc' := 19) rfl rfl ?_
    rcases qa_ite h with ⟨_, h⟩ | ⟨hc2, h⟩
    · cases h
    refine qa_bk_ba rfl qa_dx_10_25 (Decidable.of_not_not hc2) ?_
    rcases qa_ite h with ⟨hc3, h⟩ | ⟨hc3, h⟩
    · refine qa_bk_1t (a := 27) (b := 23) hc3 rfl rfl ?_
      refine qa_bk_do (pc' := 28) rfl rfl ?_
      exact qa_bk_lw (qa_tX10_goBack_28  h) rfl rfl (And.intro rfl (And.intro rfl (trivial)))
    · refine qa_bk_1f (a := 27) (b := 23) hc3 rfl rfl ?_
      refine qa_bk_do (pc' := 24) rfl rfl ?_
      refine qa_bk_do (pc' := 28) rfl rfl ?_
      exact qa_bk_lw (qa_tX10_goBack_28  h) rfl rfl (And.intro rfl (And.intro rfl (trivial)))
  · refine qa_bk_1f (a := 14) (b := 10) hc1 rfl rfl ?_
    refine qa_bk_do (pc' := 11) rfl rfl ?_
    refine qa_bk_do (pc' := 28) rfl rfl ?_
    exact qa_bk_lw (qa_tX10_goBack_28  h) rfl rfl (And.intro rfl (And.intro rfl (trivial)))
noncomputable def qa_fX10_undo_69  (σ : qa_T) : Option qa_T :=
    some σ
noncomputable def qa_fX10_undo_35  : Nat → Int32 → qa_T → Option qa_T
  | 0, _, _ => none
  | n + 1, x1, σ =>
    if ((Int16.ofInt 176).toInt32) ≤ x1 then
      qa_fX10_undo_69  σ
    else
      if ¬ qa_in ((((Int16.ofInt 176).toInt32) * (σ.1 (10, 21) 2)) + x1) 1056 = true then none else
      if ¬ qa_in x1 176 = true then none else
      let σ8 := qa_wi σ (10, 22) (x1).toNatClampNeg (σ.1 (10, 23) (((((Int16.ofInt 176).toInt32) * (σ.1 (10, 21) 2)) + x1)).toNatClampNeg)
      let v9 : Int32 := x1 + Int32.ofInt 1
      qa_fX10_undo_35  n v9 σ8
noncomputable def qa_fX10_undo_13  (y0 : Int32) (σ : qa_T) : Option qa_T :=
    let σ2 := qa_wi σ (10, 21) 9 y0
    if ¬ (σ2.1 (10, 21) 9) = 0 then
      qa_fX10_undo_69  σ2
    else
      let σ4 := qa_wi σ2 (10, 21) 2 ((σ2.1 (10, 21) 2) - (Int32.ofInt 1))
      qa_fX10_undo_35  qa_fu (Int32.ofInt 0) σ4
noncomputable def qa_fX10_undo  (σ : qa_T) : Option qa_T :=
    if ¬ (σ.1 (10, 21) 2) = 0 then
      qa_fX10_undo_13  (Int32.ofInt 0) σ
    else
      qa_fX10_undo_13  (Int32.ofInt 1) σ
set_option maxRecDepth 100000 in
theorem qa_tX10_undo_69 {L : Nat}   {σ : qa_T} {r : qa_T} (h : qa_fX10_undo_69  σ = some r) : qa_Bk (qa_ds L) qa_mX10_undo 69 [(0, .inl (10, 21))] [] σ (.inl none) r := by
  unfold qa_fX10_undo_69 at h
  try dsimp only at h
  cases h
  exact qa_bk_re rfl rfl rfl
set_option maxRecDepth 100000 in
theorem qa_tX10_undo_35 {L : Nat}   : ∀ (n : Nat) (x1 : Int32) (σ : qa_T) (r : qa_T), qa_fX10_undo_35  n x1 σ = some r → qa_Bk (qa_ds L) qa_mX10_undo 35 [(0, .inl (10, 21)), (1, .inr (.int x1))] [] σ (.inl none) r := by
  intro n
  induction n with
  | zero => intro x1 σ r h; cases h
  | succ n ih =>
    intro x1 σ r h
    unfold qa_fX10_undo_35 at h
    try dsimp only at h
    refine qa_bk_do (pc' := 36) rfl rfl ?_
    refine qa_bk_do (pc' := 39) rfl rfl ?_
    rcases qa_ite h with ⟨hc5, h⟩ | ⟨hc5, h⟩
    · refine qa_bk_1t (a := 69) (b := 42) hc5 rfl rfl ?_
      exact qa_bk_lw (qa_tX10_undo_69  h) rfl rfl (And.intro rfl (trivial))
    · refine qa_bk_1f (a := 69) (b := 42) hc5 rfl rfl ?_
      refine qa_bk_do (pc' := 43) rfl rfl ?_
      refine qa_bk_gr rfl rfl qa_dx_10_21 rfl ?_
      refine qa_bk_do (pc' := 47) rfl rfl ?_
      refine qa_bk_do (pc' := 48) rfl rfl ?_
      refine qa_bk_gr rfl rfl qa_dx_10_21 rfl ?_
      refine qa_bk_do (pc' := 54) rfl rfl ?_
      refine qa_bk_do (pc' := 55) rfl rfl ?_
      refine qa_bk_gi rfl rfl qa_dx_10_21 rfl ?_
      refine qa_bk_do (pc' := 59) rfl rfl ?_
      refine qa_bk_do (pc' := 60) rfl rfl ?_
      refine qa_bk_do (pc' := 61) rfl rfl ?_
      rcases qa_ite h with ⟨_, h⟩ | ⟨hc6, h⟩
      · cases h
      refine qa_bk_ia rfl qa_dx_10_23 (Or.inl rfl) (Decidable.of_not_not hc6) ?_
      rcases qa_ite h with ⟨_, h⟩ | ⟨hc7, h⟩
      · cases h
      refine qa_bk_is rfl qa_dx_10_22 (Decidable.of_not_not hc7) ?_
      refine qa_bk_do (pc' := 66) (lv' := [(1, _), (0, _)]) rfl rfl ?_
      refine qa_bk_do (pc' := 35) rfl rfl ?_
      exact qa_bk_lw (ih _ _ _ h) rfl rfl (And.intro rfl (And.intro rfl (trivial)))
set_option maxRecDepth 100000 in
theorem qa_tX10_undo_13 {L : Nat}   {y0 : Int32} {σ : qa_T} {r : qa_T} (h : qa_fX10_undo_13  y0 σ = some r) : qa_Bk (qa_ds L) qa_mX10_undo 13 [(0, .inl (10, 21))] [.inr (.int y0), .inl (10, 21)] σ (.inl none) r := by
  unfold qa_fX10_undo_13 at h
  try dsimp only at h
  refine qa_bk_pf rfl rfl qa_dx_10_21 rfl (qa_fiti _) rfl ?_
  refine qa_bk_do (pc' := 17) rfl rfl ?_
  refine qa_bk_gi rfl rfl qa_dx_10_21 rfl ?_
  rcases qa_ite h with ⟨hc3, h⟩ | ⟨hc3, h⟩
  · refine qa_bk_1t (a := 69) (b := 23) hc3 rfl rfl ?_
    exact qa_bk_lw (qa_tX10_undo_69  h) rfl rfl (And.intro rfl (trivial))
  · refine qa_bk_1f (a := 69) (b := 23) hc3 rfl rfl ?_
    refine qa_bk_do (pc' := 24) rfl rfl ?_
    refine qa_bk_do (pc' := 25) rfl rfl ?_
    refine qa_bk_gi rfl rfl qa_dx_10_21 rfl ?_
    refine qa_bk_do (pc' := 29) rfl rfl ?_
    refine qa_bk_do (pc' := 30) rfl rfl ?_
    refine qa_bk_pf rfl rfl qa_dx_10_21 rfl (qa_fiti _) rfl ?_
    refine qa_bk_do (pc' := 34) rfl rfl ?_
    refine qa_bk_do (pc' := 35) (lv' := [(1, _), (0, _)]) rfl rfl ?_
    exact qa_bk_lw (qa_tX10_undo_35  _ _ _ _ h) rfl rfl (And.intro rfl (And.intro rfl (trivial)))
set_option maxRecDepth 100000 in
theorem qa_tX10_undo {L : Nat}   {σ : qa_T} {r : qa_T} (h : qa_fX10_undo  σ = some r) : qa_Bk (qa_ds L) qa_mX10_undo 0 (qa_ag 0 [.inl (10, 21)]) [] σ (.inl none) r := by
  unfold qa_fX10_undo at h
  try dsimp only at h
  show qa_Bk (qa_ds L) qa_mX10_undo 0 [(0, .inl (10, 21))] [] σ _ _
  refine qa_bk_do (pc' := 1) rfl rfl ?_
  refine qa_bk_do (pc' := 2) rfl rfl ?_
  refine qa_bk_gi rfl rfl qa_dx_10_21 rfl ?_
  rcases qa_ite h with ⟨hc1, h⟩ | ⟨hc1, h⟩
  · refine qa_bk_1t (a := 12) (b := 8) hc1 rfl rfl ?_
    refine qa_bk_do (pc' := 13) rfl rfl ?_
    exact qa_bk_lw (qa_tX10_undo_13  h) rfl rfl (And.intro rfl (trivial))
  · refine qa_bk_1f (a := 12) (b := 8) hc1 rfl rfl ?_
    refine qa_bk_do (pc' := 9) rfl rfl ?_
    refine qa_bk_do (pc' := 13) rfl rfl ?_
    exact qa_bk_lw (qa_tX10_undo_13  h) rfl rfl (And.intro rfl (trivial))
noncomputable def qa_fX10_savedStates  (σ : qa_T) : (Int32 × qa_T) :=
    let σ1 := qa_wi σ (10, 21) 9 (Int32.ofInt 0)
    ((σ1.1 (10, 21) 2), σ1)
set_option maxRecDepth 100000 in
theorem qa_tX10_savedStates {L : Nat}   {σ : qa_T} {r : (Int32 × qa_T)} (h : qa_fX10_savedStates  σ = r) : qa_Bk (qa_ds L) qa_mX10_savedStates 0 (qa_ag 0 [.inl (10, 21)]) [] σ (.inl (some (.inr (.int r.1)))) r.2 := by
  unfold qa_fX10_savedStates at h
  try dsimp only at h
  show qa_Bk (qa_ds L) qa_mX10_savedStates 0 [(0, .inl (10, 21))] [] σ _ _
  refine qa_bk_do (pc' := 1) rfl rfl ?_
  refine qa_bk_do (pc' := 2) rfl rfl ?_
  refine qa_bk_pf rfl rfl qa_dx_10_21 rfl (qa_fiti _) rfl ?_
  refine qa_bk_do (pc' := 6) rfl rfl ?_
  refine qa_bk_gi rfl rfl qa_dx_10_21 rfl ?_
  subst h
  exact qa_bk_ri rfl rfl
noncomputable def qa_fX10_rule (a1 : Int32) (σ : qa_T) : Option (Int32 × qa_T) :=
    let σ1 := qa_wi σ (10, 21) 9 (Int32.ofInt 0)
    if ¬ qa_in a1 176 = true then none else
    some ((σ1.1 (10, 22) (a1).toNatClampNeg), σ1)
set_option maxRecDepth 100000 in
theorem qa_tX10_rule {L : Nat} {a1 : Int32}  {σ : qa_T} {r : (Int32 × qa_T)} (h : qa_fX10_rule a1 σ = some r) : qa_Bk (qa_ds L) qa_mX10_rule 0 (qa_ag 0 [.inl (10, 21), .inr (.int a1)]) [] σ (.inl (some (.inr (.int r.1)))) r.2 := by
  unfold qa_fX10_rule at h
  try dsimp only at h
  show qa_Bk (qa_ds L) qa_mX10_rule 0 [(0, .inl (10, 21)), (1, .inr (.int a1))] [] σ _ _
  refine qa_bk_do (pc' := 1) rfl rfl ?_
  refine qa_bk_do (pc' := 2) rfl rfl ?_
  refine qa_bk_pf rfl rfl qa_dx_10_21 rfl (qa_fiti _) rfl ?_
  refine qa_bk_do (pc' := 6) rfl rfl ?_
  refine qa_bk_gr rfl rfl qa_dx_10_21 rfl ?_
  refine qa_bk_do (pc' := 10) rfl rfl ?_
  rcases qa_ite h with ⟨_, h⟩ | ⟨hc2, h⟩
  · cases h
  refine qa_bk_ia rfl qa_dx_10_22 (Or.inl rfl) (Decidable.of_not_not hc2) ?_
  cases h
  exact qa_bk_ri rfl rfl
noncomputable def qa_fX10_slides  (σ : qa_T) : Option (Int32 × qa_T) :=
    (qa_fX10_rule (Int32.ofInt 0) σ).bind fun c1 =>
    some (c1.1, c1.2)
set_option maxRecDepth 100000 in
theorem qa_tX10_slides {L : Nat}   {σ : qa_T} {r : (Int32 × qa_T)} (h : qa_fX10_slides  σ = some r) : qa_Bk (qa_ds L) qa_mX10_slides 0 (qa_ag 0 [.inl (10, 21)]) [] σ (.inl (some (.inr (.int r.1)))) r.2 := by
  unfold qa_fX10_slides at h
  try dsimp only at h
  show qa_Bk (qa_ds L) qa_mX10_slides 0 [(0, .inl (10, 21))] [] σ _ _
  refine qa_bk_do (pc' := 1) rfl rfl ?_
  refine qa_bk_do (pc' := 2) rfl rfl ?_
  obtain ⟨c1, hc2, h⟩ := Option.bind_eq_some_iff.mp h
  refine qa_bk_cv (qa_tX10_rule hc2) rfl rfl rfl rfl rfl rfl rfl qa_dx_10_21 ?_
  cases h
  exact qa_bk_ri rfl rfl
noncomputable def qa_fX10_costOf_18 (a1 : Int32) (y0 : Int32) (σ : qa_T) : Option (Int32 × qa_T) :=
    some (y0, σ)
noncomputable def qa_fX10_costOf (a1 : Int32) (σ : qa_T) : Option (Int32 × qa_T) :=
    let c1 := qa_fX10_isThere a1 σ
    if (qa_bi c1.1) = 0 then
      qa_fX10_costOf_18 a1 (Int32.ofInt 0) c1.2
    else
      (qa_fX10_of a1 (Int32.ofInt 0) c1.2).bind fun c3 =>
      qa_fX10_costOf_18 a1 c3 c1.2
set_option maxRecDepth 100000 in
theorem qa_tX10_costOf_18 {L : Nat} {a1 : Int32}  {y0 : Int32} {σ : qa_T} {r : (Int32 × qa_T)} (h : qa_fX10_costOf_18 a1 y0 σ = some r) : qa_Bk (qa_ds L) qa_mX10_costOf 18 [(0, .inl (10, 21)), (1, .inr (.int a1))] [.inr (.int y0)] σ (.inl (some (.inr (.int r.1)))) r.2 := by
  unfold qa_fX10_costOf_18 at h
  try dsimp only at h
  cases h
  exact qa_bk_ri rfl rfl
set_option maxRecDepth 100000 in
theorem qa_tX10_costOf {L : Nat} {a1 : Int32}  {σ : qa_T} {r : (Int32 × qa_T)} (h : qa_fX10_costOf a1 σ = some r) : qa_Bk (qa_ds L) qa_mX10_costOf 0 (qa_ag 0 [.inl (10, 21), .inr (.int a1)]) [] σ (.inl (some (.inr (.int r.1)))) r.2 := by
  unfold qa_fX10_costOf at h
  try dsimp only at h
  show qa_Bk (qa_ds L) qa_mX10_costOf 0 [(0, .inl (10, 21)), (1, .inr (.int a1))] [] σ _ _
  refine qa_bk_do (pc' := 1) rfl rfl ?_
  refine qa_bk_do (pc' := 2) rfl rfl ?_
  refine qa_bk_cv (qa_tX10_isThere rfl) rfl rfl rfl rfl rfl rfl rfl qa_dx_10_21 ?_
  rcases qa_ite h with ⟨hc2, h⟩ | ⟨hc2, h⟩
  · refine qa_bk_1t (a := 17) (b := 8) hc2 rfl rfl ?_
    refine qa_bk_do (pc' := 18) rfl rfl ?_
    exact qa_bk_lw (qa_tX10_costOf_18  h) rfl rfl (And.intro rfl (And.intro rfl (trivial)))
  · refine qa_bk_1f (a := 17) (b := 8) hc2 rfl rfl ?_
    refine qa_bk_do (pc' := 9) rfl rfl ?_
    refine qa_bk_do (pc' := 10) rfl rfl ?_
    refine qa_bk_do (pc' := 11) rfl rfl ?_
    obtain ⟨c3, hc4, h⟩ := Option.bind_eq_some_iff.mp h
    refine qa_bk_cv (qa_tX10_of hc4) rfl rfl rfl rfl rfl rfl rfl qa_dx_10_21 ?_
    refine qa_bk_do (pc' := 18) rfl rfl ?_
    exact qa_bk_lw (qa_tX10_costOf_18  h) rfl rfl (And.intro rfl (And.intro rfl (trivial)))
noncomputable def qa_fX10_loadOf_17 (a1 : Int32) (y0 : Int32) (σ : qa_T) : Option (Int32 × qa_T) :=
    some (y0, σ)
noncomputable def qa_fX10_loadOf (a1 : Int32) (σ : qa_T) : Option (Int32 × qa_T) :=
    let c1 := qa_fX10_isThere a1 σ
    if (qa_bi c1.1) = 0 then
      qa_fX10_loadOf_17 a1 (Int32.ofInt 0) c1.2
    else
      (qa_fX10_due a1 c1.2).bind fun c3 =>
      qa_fX10_loadOf_17 a1 c3 c1.2
set_option maxRecDepth 100000 in
theorem qa_tX10_loadOf_17 {L : Nat} {a1 : Int32}  {y0 : Int32} {σ : qa_T} {r : (Int32 × qa_T)} (h : qa_fX10_loadOf_17 a1 y0 σ = some r) : qa_Bk (qa_ds L) qa_mX10_loadOf 17 [(0, .inl (10, 21)), (1, .inr (.int a1))] [.inr (.int y0)] σ (.inl (some (.inr (.int r.1)))) r.2 := by
  unfold qa_fX10_loadOf_17 at h
  try dsimp only at h
  cases h
  exact qa_bk_ri rfl rfl
set_option maxRecDepth 100000 in
theorem qa_tX10_loadOf {L : Nat} {a1 : Int32}  {σ : qa_T} {r : (Int32 × qa_T)} (h : qa_fX10_loadOf a1 σ = some r) : qa_Bk (qa_ds L) qa_mX10_loadOf 0 (qa_ag 0 [.inl (10, 21), .inr (.int a1)]) [] σ (.inl (some (.inr (.int r.1)))) r.2 := by
  unfold qa_fX10_loadOf at h
  try dsimp only at h
  show qa_Bk (qa_ds L) qa_mX10_loadOf 0 [(0, .inl (10, 21)), (1, .inr (.int a1))] [] σ _ _
  refine qa_bk_do (pc' := 1) rfl rfl ?_
  refine qa_bk_do (pc' := 2) rfl rfl ?_
  refine qa_bk_cv (qa_tX10_isThere rfl) rfl rfl rfl rfl rfl rfl rfl qa_dx_10_21 ?_
  rcases qa_ite h with ⟨hc2, h⟩ | ⟨hc2, h⟩
  · refine qa_bk_1t (a := 16) (b := 8) hc2 rfl rfl ?_
    refine qa_bk_do (pc' := 17) rfl rfl ?_
    exact qa_bk_lw (qa_tX10_loadOf_17  h) rfl rfl (And.intro rfl (And.intro rfl (trivial)))
  · refine qa_bk_1f (a := 16) (b := 8) hc2 rfl rfl ?_
    refine qa_bk_do (pc' := 9) rfl rfl ?_
    refine qa_bk_do (pc' := 10) rfl rfl ?_
    obtain ⟨c3, hc4, h⟩ := Option.bind_eq_some_iff.mp h
    refine qa_bk_cv (qa_tX10_due hc4) rfl rfl rfl rfl rfl rfl rfl qa_dx_10_21 ?_
    refine qa_bk_do (pc' := 17) rfl rfl ?_
    exact qa_bk_lw (qa_tX10_loadOf_17  h) rfl rfl (And.intro rfl (And.intro rfl (trivial)))
noncomputable def qa_fX10_fadeOf_18 (a1 : Int32) (y0 : Int32) (σ : qa_T) : Option (Int32 × qa_T) :=
    some (y0, σ)
noncomputable def qa_fX10_fadeOf (a1 : Int32) (σ : qa_T) : Option (Int32 × qa_T) :=
    let c1 := qa_fX10_isThere a1 σ
    if (qa_bi c1.1) = 0 then
      qa_fX10_fadeOf_18 a1 (Int32.ofInt 0) c1.2
    else
      (qa_fX10_of a1 (Int32.ofInt 2) c1.2).bind fun c3 =>
      qa_fX10_fadeOf_18 a1 c3 c1.2
set_option maxRecDepth 100000 in
theorem qa_tX10_fadeOf_18 {L : Nat} {a1 : Int32}  {y0 : Int32} {σ : qa_T} {r : (Int32 × qa_T)} (h : qa_fX10_fadeOf_18 a1 y0 σ = some r) : qa_Bk (qa_ds L) qa_mX10_fadeOf 18 [(0, .inl (10, 21)), (1, .inr (.int a1))] [.inr (.int y0)] σ (.inl (some (.inr (.int r.1)))) r.2 := by
  unfold qa_fX10_fadeOf_18 at h
  try dsimp only at h
  cases h
  exact qa_bk_ri rfl rfl
set_option maxRecDepth 100000 in
theorem qa_tX10_fadeOf {L : Nat} {a1 : Int32}  {σ : qa_T} {r : (Int32 × qa_T)} (h : qa_fX10_fadeOf a1 σ = some r) : qa_Bk (qa_ds L) qa_mX10_fadeOf 0 (qa_ag 0 [.inl (10, 21), .inr (.int a1)]) [] σ (.inl (some (.inr (.int r.1)))) r.2 := by
  unfold qa_fX10_fadeOf at h
  try dsimp only at h
  show qa_Bk (qa_ds L) qa_mX10_fadeOf 0 [(0, .inl (10, 21)), (1, .inr (.int a1))] [] σ _ _
  refine qa_bk_do (pc' := 1) rfl rfl ?_
  refine qa_bk_do (pc' := 2) rfl rfl ?_
  refine qa_bk_cv (qa_tX10_isThere rfl) rfl rfl rfl rfl rfl rfl rfl qa_dx_10_21 ?_
  rcases qa_ite h with ⟨hc2, h⟩ | ⟨hc2, h⟩
  · refine qa_bk_1t (a := 17) (b := 8) hc2 rfl rfl ?_
    refine qa_bk_do (pc' := 18) rfl rfl ?_
    exact qa_bk_lw (qa_tX10_fadeOf_18  h) rfl rfl (And.intro rfl (And.intro rfl (trivial)))
  · refine qa_bk_1f (a := 17) (b := 8) hc2 rfl rfl ?_
    refine qa_bk_do (pc' := 9) rfl rfl ?_
    refine qa_bk_do (pc' := 10) rfl rfl ?_
    refine qa_bk_do (pc' := 11) rfl rfl ?_
    obtain ⟨c3, hc4, h⟩ := Option.bind_eq_some_iff.mp h
    refine qa_bk_cv (qa_tX10_of hc4) rfl rfl rfl rfl rfl rfl rfl qa_dx_10_21 ?_
    refine qa_bk_do (pc' := 18) rfl rfl ?_
    exact qa_bk_lw (qa_tX10_fadeOf_18  h) rfl rfl (And.intro rfl (And.intro rfl (trivial)))
noncomputable def qa_fX10_isLoaded_20 (a1 : Int32) (σ : qa_T) : Option (Bool × qa_T) :=
    some (false, σ)
noncomputable def qa_fX10_isLoaded (a1 : Int32) (σ : qa_T) : Option (Bool × qa_T) :=
    let c1 := qa_fX10_isThere a1 σ
    if (qa_bi c1.1) = 0 then
      qa_fX10_isLoaded_20 a1 c1.2
    else
      (qa_fX10_loaded a1 c1.2).bind fun c3 =>
      if (qa_bi c3) = 0 then
        qa_fX10_isLoaded_20 a1 c1.2
      else
        some (true, c1.2)
set_option maxRecDepth 100000 in
theorem qa_tX10_isLoaded_20 {L : Nat} {a1 : Int32}  {σ : qa_T} {r : (Bool × qa_T)} (h : qa_fX10_isLoaded_20 a1 σ = some r) : qa_Bk (qa_ds L) qa_mX10_isLoaded 20 [(0, .inl (10, 21)), (1, .inr (.int a1))] [] σ (.inl (some (.inr (.int (qa_bi r.1))))) r.2 := by
  unfold qa_fX10_isLoaded_20 at h
  try dsimp only at h
  refine qa_bk_do (pc' := 21) rfl rfl ?_
  cases h
  exact qa_bk_rb rfl rfl rfl
set_option maxRecDepth 100000 in
theorem qa_tX10_isLoaded {L : Nat} {a1 : Int32}  {σ : qa_T} {r : (Bool × qa_T)} (h : qa_fX10_isLoaded a1 σ = some r) : qa_Bk (qa_ds L) qa_mX10_isLoaded 0 (qa_ag 0 [.inl (10, 21), .inr (.int a1)]) [] σ (.inl (some (.inr (.int (qa_bi r.1))))) r.2 := by
  unfold qa_fX10_isLoaded at h
  try dsimp only at h
  show qa_Bk (qa_ds L) qa_mX10_isLoaded 0 [(0, .inl (10, 21)), (1, .inr (.int a1))] [] σ _ _
  refine qa_bk_do (pc' := 1) rfl rfl ?_
  refine qa_bk_do (pc' := 2) rfl rfl ?_
  refine qa_bk_cv (qa_tX10_isThere rfl) rfl rfl rfl rfl rfl rfl rfl qa_dx_10_21 ?_
  rcases qa_ite h with ⟨hc2, h⟩ | ⟨hc2, h⟩
  · refine qa_bk_1t (a := 20) (b := 8) hc2 rfl rfl ?_
    exact qa_bk_lw (qa_tX10_isLoaded_20  h) rfl rfl (And.intro rfl (And.intro rfl (trivial)))
  · refine qa_bk_1f (a := 20) (b := 8) hc2 rfl rfl ?_
    refine qa_bk_do (pc' := 9) rfl rfl ?_
    refine qa_bk_do (pc' := 10) rfl rfl ?_
    obtain ⟨c3, hc4, h⟩ := Option.bind_eq_some_iff.mp h
    refine qa_bk_cv (qa_tX10_loaded hc4) rfl rfl rfl rfl rfl rfl rfl qa_dx_10_21 ?_
    rcases qa_ite h with ⟨hc5, h⟩ | ⟨hc5, h⟩
    · refine qa_bk_1t (a := 20) (b := 16) hc5 rfl rfl ?_
      exact qa_bk_lw (qa_tX10_isLoaded_20  h) rfl rfl (And.intro rfl (And.intro rfl (trivial)))
    · refine qa_bk_1f (a := 20) (b := 16) hc5 rfl rfl ?_
      refine qa_bk_do (pc' := 17) rfl rfl ?_
      refine qa_bk_do (pc' := 21) rfl rfl ?_
      cases h
      exact qa_bk_rb rfl rfl rfl
noncomputable def qa_fX10_isOnShow_20 (a1 : Int32) (σ : qa_T) : (Bool × qa_T) :=
    (false, σ)
noncomputable def qa_fX10_isOnShow (a1 : Int32) (σ : qa_T) : (Bool × qa_T) :=
    let c1 := qa_fX10_isThere a1 σ
    if (qa_bi c1.1) = 0 then
      qa_fX10_isOnShow_20 a1 c1.2
    else
      if (qa_bi (qa_fX10_onShow a1 c1.2)) = 0 then
        qa_fX10_isOnShow_20 a1 c1.2
      else
        (true, c1.2)
set_option maxRecDepth 100000 in
theorem qa_tX10_isOnShow_20 {L : Nat} {a1 : Int32}  {σ : qa_T} {r : (Bool × qa_T)} (h : qa_fX10_isOnShow_20 a1 σ = r) : qa_Bk (qa_ds L) qa_mX10_isOnShow 20 [(0, .inl (10, 21)), (1, .inr (.int a1))] [] σ (.inl (some (.inr (.int (qa_bi r.1))))) r.2 := by
  unfold qa_fX10_isOnShow_20 at h
  try dsimp only at h
  refine qa_bk_do (pc' := 21) rfl rfl ?_
  subst h
  exact qa_bk_rb rfl rfl rfl
set_option maxRecDepth 100000 in
theorem qa_tX10_isOnShow {L : Nat} {a1 : Int32}  {σ : qa_T} {r : (Bool × qa_T)} (h : qa_fX10_isOnShow a1 σ = r) : qa_Bk (qa_ds L) qa_mX10_isOnShow 0 (qa_ag 0 [.inl (10, 21), .inr (.int a1)]) [] σ (.inl (some (.inr (.int (qa_bi r.1))))) r.2 := by
  unfold qa_fX10_isOnShow at h
  try dsimp only at h
  show qa_Bk (qa_ds L) qa_mX10_isOnShow 0 [(0, .inl (10, 21)), (1, .inr (.int a1))] [] σ _ _
  refine qa_bk_do (pc' := 1) rfl rfl ?_
  refine qa_bk_do (pc' := 2) rfl rfl ?_
  refine qa_bk_cv (qa_tX10_isThere rfl) rfl rfl rfl rfl rfl rfl rfl qa_dx_10_21 ?_
  rcases qa_ite h with ⟨hc2, h⟩ | ⟨hc2, h⟩
  · refine qa_bk_1t (a := 20) (b := 8) hc2 rfl rfl ?_
    exact qa_bk_lw (qa_tX10_isOnShow_20  h) rfl rfl (And.intro rfl (And.intro rfl (trivial)))
  · refine qa_bk_1f (a := 20) (b := 8) hc2 rfl rfl ?_
    refine qa_bk_do (pc' := 9) rfl rfl ?_
    refine qa_bk_do (pc' := 10) rfl rfl ?_
    refine qa_bk_cv (qa_tX10_onShow rfl) rfl rfl rfl rfl rfl rfl rfl qa_dx_10_21 ?_
    rcases qa_ite h with ⟨hc3, h⟩ | ⟨hc3, h⟩
    · refine qa_bk_1t (a := 20) (b := 16) hc3 rfl rfl ?_
      exact qa_bk_lw (qa_tX10_isOnShow_20  h) rfl rfl (And.intro rfl (And.intro rfl (trivial)))
    · refine qa_bk_1f (a := 20) (b := 16) hc3 rfl rfl ?_
      refine qa_bk_do (pc' := 17) rfl rfl ?_
      refine qa_bk_do (pc' := 21) rfl rfl ?_
      subst h
      exact qa_bk_rb rfl rfl rfl
noncomputable def qa_fX10_glowOf_18 (a1 : Int32) (y0 : Int32) (σ : qa_T) : Option (Int32 × qa_T) :=
    some (y0, σ)
noncomputable def qa_fX10_glowOf (a1 : Int32) (σ : qa_T) : Option (Int32 × qa_T) :=
    let c1 := qa_fX10_isThere a1 σ
    if (qa_bi c1.1) = 0 then
      qa_fX10_glowOf_18 a1 (Int32.ofInt 0) c1.2
    else
      (qa_fX10_of a1 (Int32.ofInt 4) c1.2).bind fun c3 =>
      qa_fX10_glowOf_18 a1 c3 c1.2
set_option maxRecDepth 100000 in
theorem qa_tX10_glowOf_18 {L : Nat} {a1 : Int32}  {y0 : Int32} {σ : qa_T} {r : (Int32 × qa_T)} (h : qa_fX10_glowOf_18 a1 y0 σ = some r) : qa_Bk (qa_ds L) qa_mX10_glowOf 18 [(0, .inl (10, 21)), (1, .inr (.int a1))] [.inr (.int y0)] σ (.inl (some (.inr (.int r.1)))) r.2 := by
  unfold qa_fX10_glowOf_18 at h
  try dsimp only at h
  cases h
  exact qa_bk_ri rfl rfl
set_option maxRecDepth 100000 in
theorem qa_tX10_glowOf {L : Nat} {a1 : Int32}  {σ : qa_T} {r : (Int32 × qa_T)} (h : qa_fX10_glowOf a1 σ = some r) : qa_Bk (qa_ds L) qa_mX10_glowOf 0 (qa_ag 0 [.inl (10, 21), .inr (.int a1)]) [] σ (.inl (some (.inr (.int r.1)))) r.2 := by
  unfold qa_fX10_glowOf at h
  try dsimp only at h
  show qa_Bk (qa_ds L) qa_mX10_glowOf 0 [(0, .inl (10, 21)), (1, .inr (.int a1))] [] σ _ _
  refine qa_bk_do (pc' := 1) rfl rfl ?_
  refine qa_bk_do (pc' := 2) rfl rfl ?_
  refine qa_bk_cv (qa_tX10_isThere rfl) rfl rfl rfl rfl rfl rfl rfl qa_dx_10_21 ?_
  rcases qa_ite h with ⟨hc2, h⟩ | ⟨hc2, h⟩
  · refine qa_bk_1t (a := 17) (b := 8) hc2 rfl rfl ?_
    refine qa_bk_do (pc' := 18) rfl rfl ?_
    exact qa_bk_lw (qa_tX10_glowOf_18  h) rfl rfl (And.intro rfl (And.intro rfl (trivial)))
  · refine qa_bk_1f (a := 17) (b := 8) hc2 rfl rfl ?_
    refine qa_bk_do (pc' := 9) rfl rfl ?_
    refine qa_bk_do (pc' := 10) rfl rfl ?_
    refine qa_bk_do (pc' := 11) rfl rfl ?_
    obtain ⟨c3, hc4, h⟩ := Option.bind_eq_some_iff.mp h
    refine qa_bk_cv (qa_tX10_of hc4) rfl rfl rfl rfl rfl rfl rfl qa_dx_10_21 ?_
    refine qa_bk_do (pc' := 18) rfl rfl ?_
    exact qa_bk_lw (qa_tX10_glowOf_18  h) rfl rfl (And.intro rfl (And.intro rfl (trivial)))
noncomputable def qa_fX10_burntTimes_18 (a1 : Int32) (y0 : Int32) (σ : qa_T) : Option (Int32 × qa_T) :=
    some (y0, σ)
noncomputable def qa_fX10_burntTimes (a1 : Int32) (σ : qa_T) : Option (Int32 × qa_T) :=
    let c1 := qa_fX10_isThere a1 σ
    if (qa_bi c1.1) = 0 then
      qa_fX10_burntTimes_18 a1 (Int32.ofInt 0) c1.2
    else
      (qa_fX10_of a1 (Int32.ofInt 5) c1.2).bind fun c3 =>
      qa_fX10_burntTimes_18 a1 c3 c1.2
set_option maxRecDepth 100000 in
theorem qa_tX10_burntTimes_18 {L : Nat} {a1 : Int32}  {y0 : Int32} {σ : qa_T} {r : (Int32 × qa_T)} (h : qa_fX10_burntTimes_18 a1 y0 σ = some r) : qa_Bk (qa_ds L) qa_mX10_burntTimes 18 [(0, .inl (10, 21)), (1, .inr (.int a1))] [.inr (.int y0)] σ (.inl (some (.inr (.int r.1)))) r.2 := by
  unfold qa_fX10_burntTimes_18 at h
  try dsimp only at h
  cases h
  exact qa_bk_ri rfl rfl
set_option maxRecDepth 100000 in
theorem qa_tX10_burntTimes {L : Nat} {a1 : Int32}  {σ : qa_T} {r : (Int32 × qa_T)} (h : qa_fX10_burntTimes a1 σ = some r) : qa_Bk (qa_ds L) qa_mX10_burntTimes 0 (qa_ag 0 [.inl (10, 21), .inr (.int a1)]) [] σ (.inl (some (.inr (.int r.1)))) r.2 := by
  unfold qa_fX10_burntTimes at h
  try dsimp only at h
  show qa_Bk (qa_ds L) qa_mX10_burntTimes 0 [(0, .inl (10, 21)), (1, .inr (.int a1))] [] σ _ _
  refine qa_bk_do (pc' := 1) rfl rfl ?_
  refine qa_bk_do (pc' := 2) rfl rfl ?_
  refine qa_bk_cv (qa_tX10_isThere rfl) rfl rfl rfl rfl rfl rfl rfl qa_dx_10_21 ?_
  rcases qa_ite h with ⟨hc2, h⟩ | ⟨hc2, h⟩
  · refine qa_bk_1t (a := 17) (b := 8) hc2 rfl rfl ?_
    refine qa_bk_do (pc' := 18) rfl rfl ?_
    exact qa_bk_lw (qa_tX10_burntTimes_18  h) rfl rfl (And.intro rfl (And.intro rfl (trivial)))
  · refine qa_bk_1f (a := 17) (b := 8) hc2 rfl rfl ?_
    refine qa_bk_do (pc' := 9) rfl rfl ?_
    refine qa_bk_do (pc' := 10) rfl rfl ?_
    refine qa_bk_do (pc' := 11) rfl rfl ?_
    obtain ⟨c3, hc4, h⟩ := Option.bind_eq_some_iff.mp h
    refine qa_bk_cv (qa_tX10_of hc4) rfl rfl rfl rfl rfl rfl rfl qa_dx_10_21 ?_
    refine qa_bk_do (pc' := 18) rfl rfl ?_
    exact qa_bk_lw (qa_tX10_burntTimes_18  h) rfl rfl (And.intro rfl (And.intro rfl (trivial)))
noncomputable def qa_fX10_nextUse_38 (a1 : Int32) (y0 : Int32) (σ : qa_T) : Option (Int32 × qa_T) :=
    some (y0, σ)
noncomputable def qa_fX10_nextUse (a1 : Int32) (σ : qa_T) : Option (Int32 × qa_T) :=
    let c1 := qa_fX10_isThere a1 σ
    if ¬ (qa_bi c1.1) = 0 then
      (qa_fX10_nextOf a1 c1.2).bind fun c3 =>
      if c3 ≤ (c1.2.1 (10, 22) (((Int8.ofInt 113).toInt32)).toNatClampNeg) then
        (qa_fX10_nextOf a1 c1.2).bind fun c6 =>
        qa_fX10_nextUse_38 a1 c6 c1.2
      else
        let c8 := qa_fX10_throwing (Int32.ofInt 2) c1.2
        qa_fX10_nextUse_38 a1 c8.1 c8.2
    else
      some ((Int32.ofInt 0), c1.2)
set_option maxRecDepth 100000 in
theorem qa_tX10_nextUse_38 {L : Nat} {a1 : Int32}  {y0 : Int32} {σ : qa_T} {r : (Int32 × qa_T)} (h : qa_fX10_nextUse_38 a1 y0 σ = some r) : qa_Bk (qa_ds L) qa_mX10_nextUse 38 [(0, .inl (10, 21)), (1, .inr (.int a1))] [.inr (.int y0)] σ (.inl (some (.inr (.int r.1)))) r.2 := by
  unfold qa_fX10_nextUse_38 at h
  try dsimp only at h
  cases h
  exact qa_bk_ri rfl rfl
set_option maxRecDepth 100000 in
theorem qa_tX10_nextUse {L : Nat} {a1 : Int32}  {σ : qa_T} {r : (Int32 × qa_T)} (h : qa_fX10_nextUse a1 σ = some r) : qa_Bk (qa_ds L) qa_mX10_nextUse 0 (qa_ag 0 [.inl (10, 21), .inr (.int a1)]) [] σ (.inl (some (.inr (.int r.1)))) r.2 := by
  unfold qa_fX10_nextUse at h
  try dsimp only at h
  show qa_Bk (qa_ds L) qa_mX10_nextUse 0 [(0, .inl (10, 21)), (1, .inr (.int a1))] [] σ _ _
  refine qa_bk_do (pc' := 1) rfl rfl ?_
  refine qa_bk_do (pc' := 2) rfl rfl ?_
  refine qa_bk_cv (qa_tX10_isThere rfl) rfl rfl rfl rfl rfl rfl rfl qa_dx_10_21 ?_
  rcases qa_ite h with ⟨hc2, h⟩ | ⟨hc2, h⟩
  · refine qa_bk_1t (a := 10) (b := 8) hc2 rfl rfl ?_
    refine qa_bk_do (pc' := 11) rfl rfl ?_
    refine qa_bk_do (pc' := 12) rfl rfl ?_
    obtain ⟨c3, hc4, h⟩ := Option.bind_eq_some_iff.mp h
    refine qa_bk_cv (qa_tX10_nextOf hc4) rfl rfl rfl rfl rfl rfl rfl qa_dx_10_21 ?_
    refine qa_bk_do (pc' := 16) rfl rfl ?_
    refine qa_bk_gr rfl rfl qa_dx_10_21 rfl ?_
    refine qa_bk_do (pc' := 21) rfl rfl ?_
    refine qa_bk_ia rfl qa_dx_10_22 (Or.inl rfl) rfl ?_
    rcases qa_ite h with ⟨hc5, h⟩ | ⟨hc5, h⟩
    · refine qa_bk_1t (a := 33) (b := 25) hc5 rfl rfl ?_
      refine qa_bk_do (pc' := 34) rfl rfl ?_
      refine qa_bk_do (pc' := 35) rfl rfl ?_
      obtain ⟨c6, hc7, h⟩ := Option.bind_eq_some_iff.mp h
      refine qa_bk_cv (qa_tX10_nextOf hc7) rfl rfl rfl rfl rfl rfl rfl qa_dx_10_21 ?_
      exact qa_bk_lw (qa_tX10_nextUse_38  h) rfl rfl (And.intro rfl (And.intro rfl (trivial)))
    · refine qa_bk_1f (a := 33) (b := 25) hc5 rfl rfl ?_
      refine qa_bk_do (pc' := 26) rfl rfl ?_
      refine qa_bk_do (pc' := 27) rfl rfl ?_
      refine qa_bk_cv (qa_tX10_throwing rfl) rfl rfl rfl rfl rfl rfl rfl qa_dx_10_21 ?_
      refine qa_bk_do (pc' := 38) rfl rfl ?_
      exact qa_bk_lw (qa_tX10_nextUse_38  h) rfl rfl (And.intro rfl (And.intro rfl (trivial)))
  · refine qa_bk_1f (a := 10) (b := 8) hc2 rfl rfl ?_
    refine qa_bk_do (pc' := 9) rfl rfl ?_
    cases h
    exact qa_bk_ri rfl rfl
noncomputable def qa_fX10_inOrder_42 (a1 : Int32) (k4 : Int32 → Int32 → qa_T → Option Int32) (x3 : Int32) (y0 : Int32) (y1 : Int32) (σ : qa_T) : Option Int32 :=
    let v5 : Int32 := (y1 + y0)
    let v6 : Int32 := x3 + Int32.ofInt 1
    k4 v5 v6 σ
noncomputable def qa_fX10_inOrder_41 (a1 : Int32) (k4 : Int32 → Int32 → qa_T → Option Int32) (x3 : Int32) (y0 : Int32) (σ : qa_T) : Option Int32 :=
    qa_fX10_inOrder_42 a1 k4 x3 (Int32.ofInt 0) y0 σ
noncomputable def qa_fX10_inOrder_4 (a1 : Int32) : Nat → Int32 → Int32 → qa_T → Option Int32
  | 0, _, _, _ => none
  | n + 1, x2, x3, σ =>
    if (σ.1 (10, 22) ((Int32.ofInt 0)).toNatClampNeg) ≤ x3 then
      some x2
    else
      (qa_fX10_canBurn x3 σ).bind fun c2 =>
      if (qa_bi c2) = 0 then
        qa_fX10_inOrder_41 a1 (qa_fX10_inOrder_4 a1 n) x3 x2 σ
      else
        if x3 = a1 then
          qa_fX10_inOrder_41 a1 (qa_fX10_inOrder_4 a1 n) x3 x2 σ
        else
          (qa_fX10_isFirst x3 a1 σ).bind fun c8 =>
          if (qa_bi c8) = 0 then
            qa_fX10_inOrder_41 a1 (qa_fX10_inOrder_4 a1 n) x3 x2 σ
          else
            qa_fX10_inOrder_42 a1 (qa_fX10_inOrder_4 a1 n) x3 (Int32.ofInt 1) x2 σ
noncomputable def qa_fX10_inOrder (a1 : Int32) (σ : qa_T) : Option Int32 :=
    qa_fX10_inOrder_4 a1 qa_fu (Int32.ofInt 0) (Int32.ofInt 0) σ
set_option maxRecDepth 100000 in
theorem qa_tX10_inOrder_42 {L : Nat} {a1 : Int32}  {k4 : Int32 → Int32 → qa_T → Option Int32} (K4 : ∀ (x2 : Int32) (x3 : Int32) (σ : qa_T) (r : Int32), k4 x2 x3 σ = some r → qa_Bk (qa_ds L) qa_mX10_inOrder 4 [(0, .inl (10, 21)), (1, .inr (.int a1)), (2, .inr (.int x2)), (3, .inr (.int x3))] [] σ (.inl (some (.inr (.int r)))) σ) {x3 : Int32} {y0 : Int32} {y1 : Int32} {σ : qa_T} {r : Int32} (h : qa_fX10_inOrder_42 a1 k4 x3 y0 y1 σ = some r) : qa_Bk (qa_ds L) qa_mX10_inOrder 42 [(0, .inl (10, 21)), (1, .inr (.int a1)), (3, .inr (.int x3))] [.inr (.int y0), .inr (.int y1)] σ (.inl (some (.inr (.int r)))) σ := by
  unfold qa_fX10_inOrder_42 at h
  try dsimp only at h
  refine qa_bk_do (pc' := 43) rfl rfl ?_
  refine qa_bk_do (pc' := 44) (lv' := [(2, _), (0, _), (1, _), (3, _)]) rfl rfl ?_
  refine qa_bk_do (pc' := 47) (lv' := [(3, _), (2, _), (0, _), (1, _)]) rfl rfl ?_
  refine qa_bk_do (pc' := 4) rfl rfl ?_
  exact qa_bk_lw (K4 _ _ _ _ h) rfl rfl (And.intro rfl (And.intro rfl (And.intro rfl (And.intro rfl (trivial)))))
set_option maxRecDepth 100000 in
theorem qa_tX10_inOrder_41 {L : Nat} {a1 : Int32}  {k4 : Int32 → Int32 → qa_T → Option Int32} (K4 : ∀ (x2 : Int32) (x3 : Int32) (σ : qa_T) (r : Int32), k4 x2 x3 σ = some r → qa_Bk (qa_ds L) qa_mX10_inOrder 4 [(0, .inl (10, 21)), (1, .inr (.int a1)), (2, .inr (.int x2)), (3, .inr (.int x3))] [] σ (.inl (some (.inr (.int r)))) σ) {x3 : Int32} {y0 : Int32} {σ : qa_T} {r : Int32} (h : qa_fX10_inOrder_41 a1 k4 x3 y0 σ = some r) : qa_Bk (qa_ds L) qa_mX10_inOrder 41 [(0, .inl (10, 21)), (1, .inr (.int a1)), (3, .inr (.int x3))] [.inr (.int y0)] σ (.inl (some (.inr (.int r)))) σ := by
  unfold qa_fX10_inOrder_41 at h
  try dsimp only at h
  refine qa_bk_do (pc' := 42) rfl rfl ?_
  exact qa_bk_lw (qa_tX10_inOrder_42  K4 h) rfl rfl (And.intro rfl (And.intro rfl (And.intro rfl (trivial))))
set_option maxRecDepth 100000 in
theorem qa_tX10_inOrder_4 {L : Nat} {a1 : Int32}  : ∀ (n : Nat) (x2 : Int32) (x3 : Int32) (σ : qa_T) (r : Int32), qa_fX10_inOrder_4 a1 n x2 x3 σ = some r → qa_Bk (qa_ds L) qa_mX10_inOrder 4 [(0, .inl (10, 21)), (1, .inr (.int a1)), (2, .inr (.int x2)), (3, .inr (.int x3))] [] σ (.inl (some (.inr (.int r)))) σ := by
  intro n
  induction n with
  | zero => intro x2 x3 σ r h; cases h
  | succ n ih =>
    intro x2 x3 σ r h
    unfold qa_fX10_inOrder_4 at h
    try dsimp only at h
    refine qa_bk_do (pc' := 5) rfl rfl ?_
    refine qa_bk_do (pc' := 6) rfl rfl ?_
    refine qa_bk_gr rfl rfl qa_dx_10_21 rfl ?_
    refine qa_bk_do (pc' := 10) rfl rfl ?_
    refine qa_bk_ia rfl qa_dx_10_22 (Or.inl rfl) rfl ?_
    rcases qa_ite h with ⟨hc1, h⟩ | ⟨hc1, h⟩
    · refine qa_bk_1t (a := 50) (b := 14) hc1 rfl rfl ?_
      refine qa_bk_do (pc' := 51) rfl rfl ?_
      cases h
      exact qa_bk_ri rfl rfl
    · refine qa_bk_1f (a := 50) (b := 14) hc1 rfl rfl ?_
      refine qa_bk_do (pc' := 15) rfl rfl ?_
      refine qa_bk_do (pc' := 16) rfl rfl ?_
      refine qa_bk_do (pc' := 17) rfl rfl ?_
      obtain ⟨c2, hc3, h⟩ := Option.bind_eq_some_iff.mp h
      refine qa_bk_cv (qa_tX10_canBurn hc3) rfl rfl rfl rfl rfl rfl rfl qa_dx_10_21 ?_
      rcases qa_ite h with ⟨hc4, h⟩ | ⟨hc4, h⟩
      · refine qa_bk_1t (a := 41) (b := 23) hc4 rfl rfl ?_
        exact qa_bk_lw (qa_tX10_inOrder_41  ih h) rfl rfl (And.intro rfl (And.intro rfl (And.intro rfl (trivial))))
      · refine qa_bk_1f (a := 41) (b := 23) hc4 rfl rfl ?_
        refine qa_bk_do (pc' := 24) rfl rfl ?_
        refine qa_bk_do (pc' := 25) rfl rfl ?_
        rcases qa_ite h with ⟨hc7, h⟩ | ⟨hc7, h⟩
        · refine qa_bk_1t (a := 41) (b := 28) hc7 rfl rfl ?_
          exact qa_bk_lw (qa_tX10_inOrder_41  ih h) rfl rfl (And.intro rfl (And.intro rfl (And.intro rfl (trivial))))
        · refine qa_bk_1f (a := 41) (b := 28) hc7 rfl rfl ?_
          refine qa_bk_do (pc' := 29) rfl rfl ?_
          refine qa_bk_do (pc' := 30) rfl rfl ?_
          refine qa_bk_do (pc' := 31) rfl rfl ?_
          obtain ⟨c8, hc9, h⟩ := Option.bind_eq_some_iff.mp h
          refine qa_bk_cv (qa_tX10_isFirst hc9) rfl rfl rfl rfl rfl rfl rfl qa_dx_10_21 ?_
          rcases qa_ite h with ⟨hc10, h⟩ | ⟨hc10, h⟩
          · refine qa_bk_1t (a := 41) (b := 37) hc10 rfl rfl ?_
            exact qa_bk_lw (qa_tX10_inOrder_41  ih h) rfl rfl (And.intro rfl (And.intro rfl (And.intro rfl (trivial))))
          · refine qa_bk_1f (a := 41) (b := 37) hc10 rfl rfl ?_
            refine qa_bk_do (pc' := 38) rfl rfl ?_
            refine qa_bk_do (pc' := 42) rfl rfl ?_
            exact qa_bk_lw (qa_tX10_inOrder_42  ih h) rfl rfl (And.intro rfl (And.intro rfl (And.intro rfl (trivial))))
set_option maxRecDepth 100000 in
theorem qa_tX10_inOrder {L : Nat} {a1 : Int32}  {σ : qa_T} {r : Int32} (h : qa_fX10_inOrder a1 σ = some r) : qa_Bk (qa_ds L) qa_mX10_inOrder 0 (qa_ag 0 [.inl (10, 21), .inr (.int a1)]) [] σ (.inl (some (.inr (.int r)))) σ := by
  unfold qa_fX10_inOrder at h
  try dsimp only at h
  show qa_Bk (qa_ds L) qa_mX10_inOrder 0 [(0, .inl (10, 21)), (1, .inr (.int a1))] [] σ _ _
  refine qa_bk_do (pc' := 1) rfl rfl ?_
  refine qa_bk_do (pc' := 2) (lv' := [(2, _), (0, _), (1, _)]) rfl rfl ?_
  refine qa_bk_do (pc' := 3) rfl rfl ?_
  refine qa_bk_do (pc' := 4) (lv' := [(3, _), (2, _), (0, _), (1, _)]) rfl rfl ?_
  exact qa_bk_lw (qa_tX10_inOrder_4  _ _ _ _ _ h) rfl rfl (And.intro rfl (And.intro rfl (And.intro rfl (And.intro rfl (trivial)))))
noncomputable def qa_fX10_burnPlace_31 (a1 : Int32) (y0 : Int32) (σ : qa_T) : Option (Int32 × qa_T) :=
    some (y0, σ)
noncomputable def qa_fX10_burnPlace (a1 : Int32) (σ : qa_T) : Option (Int32 × qa_T) :=
    let c1 := qa_fX10_isThere a1 σ
    if ¬ (qa_bi c1.1) = 0 then
      (qa_fX10_canBurn a1 c1.2).bind fun c3 =>
      if (qa_bi c3) = 0 then
        let c6 := qa_fX10_throwing (Int32.ofInt 2) c1.2
        qa_fX10_burnPlace_31 a1 c6.1 c6.2
      else
        (qa_fX10_inOrder a1 c1.2).bind fun c7 =>
        qa_fX10_burnPlace_31 a1 c7 c1.2
    else
      some ((Int32.ofInt 0), c1.2)
set_option maxRecDepth 100000 in
theorem qa_tX10_burnPlace_31 {L : Nat} {a1 : Int32}  {y0 : Int32} {σ : qa_T} {r : (Int32 × qa_T)} (h : qa_fX10_burnPlace_31 a1 y0 σ = some r) : qa_Bk (qa_ds L) qa_mX10_burnPlace 31 [(0, .inl (10, 21)), (1, .inr (.int a1))] [.inr (.int y0)] σ (.inl (some (.inr (.int r.1)))) r.2 := by
  unfold qa_fX10_burnPlace_31 at h
  try dsimp only at h
  cases h
  exact qa_bk_ri rfl rfl
set_option maxRecDepth 100000 in
theorem qa_tX10_burnPlace {L : Nat} {a1 : Int32}  {σ : qa_T} {r : (Int32 × qa_T)} (h : qa_fX10_burnPlace a1 σ = some r) : qa_Bk (qa_ds L) qa_mX10_burnPlace 0 (qa_ag 0 [.inl (10, 21), .inr (.int a1)]) [] σ (.inl (some (.inr (.int r.1)))) r.2 := by
  unfold qa_fX10_burnPlace at h
  try dsimp only at h
  show qa_Bk (qa_ds L) qa_mX10_burnPlace 0 [(0, .inl (10, 21)), (1, .inr (.int a1))] [] σ _ _
  refine qa_bk_do (pc' := 1) rfl rfl ?_
  refine qa_bk_do (pc' := 2) rfl rfl ?_
  refine qa_bk_cv (qa_tX10_isThere rfl) rfl rfl rfl rfl rfl rfl rfl qa_dx_10_21 ?_
  rcases qa_ite h with ⟨hc2, h⟩ | ⟨hc2, h⟩
  · refine qa_bk_1t (a := 10) (b := 8) hc2 rfl rfl ?_
    refine qa_bk_do (pc' := 11) rfl rfl ?_
    refine qa_bk_do (pc' := 12) rfl rfl ?_
    obtain ⟨c3, hc4, h⟩ := Option.bind_eq_some_iff.mp h
    refine qa_bk_cv (qa_tX10_canBurn hc4) rfl rfl rfl rfl rfl rfl rfl qa_dx_10_21 ?_
    rcases qa_ite h with ⟨hc5, h⟩ | ⟨hc5, h⟩
    · refine qa_bk_1t (a := 26) (b := 18) hc5 rfl rfl ?_
      refine qa_bk_do (pc' := 27) rfl rfl ?_
      refine qa_bk_do (pc' := 28) rfl rfl ?_
      refine qa_bk_cv (qa_tX10_throwing rfl) rfl rfl rfl rfl rfl rfl rfl qa_dx_10_21 ?_
      exact qa_bk_lw (qa_tX10_burnPlace_31  h) rfl rfl (And.intro rfl (And.intro rfl (trivial)))
    · refine qa_bk_1f (a := 26) (b := 18) hc5 rfl rfl ?_
      refine qa_bk_do (pc' := 19) rfl rfl ?_
      refine qa_bk_do (pc' := 20) rfl rfl ?_
      obtain ⟨c7, hc8, h⟩ := Option.bind_eq_some_iff.mp h
      refine qa_bk_cv (qa_tX10_inOrder hc8) rfl rfl rfl rfl rfl rfl rfl qa_dx_10_21 ?_
      refine qa_bk_do (pc' := 31) rfl rfl ?_
      exact qa_bk_lw (qa_tX10_burnPlace_31  h) rfl rfl (And.intro rfl (And.intro rfl (trivial)))
  · refine qa_bk_1f (a := 10) (b := 8) hc2 rfl rfl ?_
    refine qa_bk_do (pc' := 9) rfl rfl ?_
    cases h
    exact qa_bk_ri rfl rfl
