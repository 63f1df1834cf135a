/-! the methods as functions (written by wip/tools/gen.py) -/
noncomputable def qa_fX10_thrown  (σ : qa_T) : Int32 :=
    (σ.1 (10, 21) 9)
set_option maxRecDepth 100000 in
theorem qa_tX10_thrown {L : Nat}   {σ : qa_T} {r : Int32} (h : qa_fX10_thrown  σ = r) : qa_Bk (qa_ds L) qa_mX10_thrown 0 (qa_ag 0 [.inl (10, 21)]) [] σ (.inl (some (.inr (.int r)))) σ := by
  unfold qa_fX10_thrown at h
  try dsimp only at h
  show qa_Bk (qa_ds L) qa_mX10_thrown 0 [(0, .inl (10, 21))] [] σ _ _
  refine qa_bk_do (pc' := 1) rfl rfl ?_
  refine qa_bk_gi rfl rfl qa_dx_10_21 rfl ?_
  subst h
  exact qa_bk_ri rfl rfl
noncomputable def qa_fX10_throwing (a1 : Int32) (σ : qa_T) : (Int32 × qa_T) :=
    let σ1 := qa_wi σ (10, 21) 9 a1
    ((Int32.ofInt 0), σ1)
set_option maxRecDepth 100000 in
theorem qa_tX10_throwing {L : Nat} {a1 : Int32}  {σ : qa_T} {r : (Int32 × qa_T)} (h : qa_fX10_throwing a1 σ = r) : qa_Bk (qa_ds L) qa_mX10_throwing 0 (qa_ag 0 [.inl (10, 21), .inr (.int a1)]) [] σ (.inl (some (.inr (.int r.1)))) r.2 := by
  unfold qa_fX10_throwing at h
  try dsimp only at h
  show qa_Bk (qa_ds L) qa_mX10_throwing 0 [(0, .inl (10, 21)), (1, .inr (.int a1))] [] σ _ _
  refine qa_bk_do (pc' := 1) rfl rfl ?_
  refine qa_bk_do (pc' := 2) rfl rfl ?_
  refine qa_bk_pf rfl rfl qa_dx_10_21 rfl (qa_fiti _) rfl ?_
  refine qa_bk_do (pc' := 6) rfl rfl ?_
  subst h
  exact qa_bk_ri rfl rfl
noncomputable def qa_fX10_in_14 (a1 : Int32) (a2 : Int32) (a3 : Int32) (σ : qa_T) : Bool :=
    false
noncomputable def qa_fX10_in (a1 : Int32) (a2 : Int32) (a3 : Int32) (σ : qa_T) : Bool :=
    if a1 < a2 then
      qa_fX10_in_14 a1 a2 a3 σ
    else
      if a3 < a1 then
        qa_fX10_in_14 a1 a2 a3 σ
      else
        true
set_option maxRecDepth 100000 in
theorem qa_tX10_in_14 {L : Nat} {a1 : Int32} {a2 : Int32} {a3 : Int32}  {σ : qa_T} {r : Bool} (h : qa_fX10_in_14 a1 a2 a3 σ = r) : qa_Bk (qa_ds L) qa_mX10_in 14 [(0, .inr (.int a1)), (1, .inr (.int a2)), (2, .inr (.int a3))] [] σ (.inl (some (.inr (.int (qa_bi r))))) σ := by
  unfold qa_fX10_in_14 at h
  try dsimp only at h
  refine qa_bk_do (pc' := 15) rfl rfl ?_
  subst h
  exact qa_bk_rb rfl rfl rfl
set_option maxRecDepth 100000 in
theorem qa_tX10_in {L : Nat} {a1 : Int32} {a2 : Int32} {a3 : Int32}  {σ : qa_T} {r : Bool} (h : qa_fX10_in a1 a2 a3 σ = r) : qa_Bk (qa_ds L) qa_mX10_in 0 (qa_ag 0 [.inr (.int a1), .inr (.int a2), .inr (.int a3)]) [] σ (.inl (some (.inr (.int (qa_bi r))))) σ := by
  unfold qa_fX10_in at h
  try dsimp only at h
  show qa_Bk (qa_ds L) qa_mX10_in 0 [(0, .inr (.int a1)), (1, .inr (.int a2)), (2, .inr (.int a3))] [] σ _ _
  refine qa_bk_do (pc' := 1) rfl rfl ?_
  refine qa_bk_do (pc' := 2) rfl rfl ?_
  rcases qa_ite h with ⟨hc1, h⟩ | ⟨hc1, h⟩
  · refine qa_bk_1t (a := 14) (b := 5) hc1 rfl rfl ?_
    exact qa_bk_lw (qa_tX10_in_14  h) rfl rfl (And.intro rfl (And.intro rfl (And.intro rfl (trivial))))
  · refine qa_bk_1f (a := 14) (b := 5) hc1 rfl rfl ?_
    refine qa_bk_do (pc' := 6) rfl rfl ?_
    refine qa_bk_do (pc' := 7) rfl rfl ?_
    rcases qa_ite h with ⟨hc2, h⟩ | ⟨hc2, h⟩
    · refine qa_bk_1t (a := 14) (b := 10) hc2 rfl rfl ?_
      exact qa_bk_lw (qa_tX10_in_14  h) rfl rfl (And.intro rfl (And.intro rfl (And.intro rfl (trivial))))
    · refine qa_bk_1f (a := 14) (b := 10) hc2 rfl rfl ?_
      refine qa_bk_do (pc' := 11) rfl rfl ?_
      refine qa_bk_do (pc' := 15) rfl rfl ?_
      subst h
      exact qa_bk_rb rfl rfl rfl
noncomputable def qa_fX10_save_52  : Nat → Int32 → qa_T → Option qa_T
  | 0, _, _ => none
  | n + 1, x1, σ =>
    if ((Int16.ofInt 176).toInt32) ≤ x1 then
      let σ3 := qa_wi σ (10, 21) 2 ((σ.1 (10, 21) 2) + (Int32.ofInt 1))
      some σ3
    else
      if ¬ qa_in x1 176 = true then none else
      if ¬ qa_in ((((Int16.ofInt 176).toInt32) * (σ.1 (10, 21) 2)) + x1) 1056 = true then none else
      let σ6 := qa_wi σ (10, 23) (((((Int16.ofInt 176).toInt32) * (σ.1 (10, 21) 2)) + x1)).toNatClampNeg (σ.1 (10, 22) (x1).toNatClampNeg)
      let v7 : Int32 := x1 + Int32.ofInt 1
      qa_fX10_save_52  n v7 σ6
noncomputable def qa_fX10_save_50  (σ : qa_T) : Option qa_T :=
    qa_fX10_save_52  qa_fu (Int32.ofInt 0) σ
noncomputable def qa_fX10_save_11  : Nat → Int32 → qa_T → Option qa_T
  | 0, _, _ => none
  | n + 1, x1, σ =>
    if ((Int16.ofInt 880).toInt32) ≤ x1 then
      let σ9 := qa_wi σ (10, 21) 2 ((σ.1 (10, 21) 2) - (Int32.ofInt 1))
      qa_fX10_save_50  σ9
    else
      if ¬ qa_in (((Int16.ofInt 176).toInt32) + x1) 1056 = true then none else
      if ¬ qa_in x1 1056 = true then none else
      let σ12 := qa_wi σ (10, 23) (x1).toNatClampNeg (σ.1 (10, 23) ((((Int16.ofInt 176).toInt32) + x1)).toNatClampNeg)
      let v13 : Int32 := x1 + Int32.ofInt 1
      qa_fX10_save_11  n v13 σ12
noncomputable def qa_fX10_save  (σ : qa_T) : Option qa_T :=
    if ¬ (σ.1 (10, 21) 2) = ((Int8.ofInt 6).toInt32) then
      qa_fX10_save_50  σ
    else
      qa_fX10_save_11  qa_fu (Int32.ofInt 0) σ
set_option maxRecDepth 100000 in
theorem qa_tX10_save_52 {L : Nat}   : ∀ (n : Nat) (x1 : Int32) (σ : qa_T) (r : qa_T), qa_fX10_save_52  n x1 σ = some r → qa_Bk (qa_ds L) qa_mX10_save 52 [(0, .inl (10, 21)), (1, .inr (.int x1))] [] σ (.inl none) r := by
  intro n
  induction n with
  | zero => intro x1 σ r h; cases h
  | succ n ih =>
    intro x1 σ r h
    unfold qa_fX10_save_52 at h
    try dsimp only at h
    refine qa_bk_do (pc' := 53) rfl rfl ?_
    refine qa_bk_do (pc' := 56) rfl rfl ?_
    rcases qa_ite h with ⟨hc2, h⟩ | ⟨hc2, h⟩
    · refine qa_bk_1t (a := 86) (b := 59) hc2 rfl rfl ?_
      refine qa_bk_do (pc' := 87) rfl rfl ?_
      refine qa_bk_do (pc' := 88) rfl rfl ?_
      refine qa_bk_gi rfl rfl qa_dx_10_21 rfl ?_
      refine qa_bk_do (pc' := 92) rfl rfl ?_
      refine qa_bk_do (pc' := 93) rfl rfl ?_
      refine qa_bk_pf rfl rfl qa_dx_10_21 rfl (qa_fiti _) rfl ?_
      cases h
      exact qa_bk_re rfl rfl rfl
    · refine qa_bk_1f (a := 86) (b := 59) hc2 rfl rfl ?_
      refine qa_bk_do (pc' := 60) rfl rfl ?_
      refine qa_bk_gr rfl rfl qa_dx_10_21 rfl ?_
      refine qa_bk_do (pc' := 66) rfl rfl ?_
      refine qa_bk_do (pc' := 67) rfl rfl ?_
      refine qa_bk_gi rfl rfl qa_dx_10_21 rfl ?_
      refine qa_bk_do (pc' := 71) rfl rfl ?_
      refine qa_bk_do (pc' := 72) rfl rfl ?_
      refine qa_bk_do (pc' := 73) rfl rfl ?_
      refine qa_bk_do (pc' := 74) rfl rfl ?_
      refine qa_bk_gr rfl rfl qa_dx_10_21 rfl ?_
      refine qa_bk_do (pc' := 78) rfl rfl ?_
      rcases qa_ite h with ⟨_, h⟩ | ⟨hc4, h⟩
      · cases h
      refine qa_bk_ia rfl qa_dx_10_22 (Or.inl rfl) (Decidable.of_not_not hc4) ?_
      rcases qa_ite h with ⟨_, h⟩ | ⟨hc5, h⟩
      · cases h
      refine qa_bk_is rfl qa_dx_10_23 (Decidable.of_not_not hc5) ?_
      refine qa_bk_do (pc' := 83) (lv' := [(1, _), (0, _)]) rfl rfl ?_
      refine qa_bk_do (pc' := 52) rfl rfl ?_
      exact qa_bk_lw (ih _ _ _ h) rfl rfl (And.intro rfl (And.intro rfl (trivial)))
set_option maxRecDepth 100000 in
theorem qa_tX10_save_50 {L : Nat}   {σ : qa_T} {r : qa_T} (h : qa_fX10_save_50  σ = some r) : qa_Bk (qa_ds L) qa_mX10_save 50 [(0, .inl (10, 21))] [] σ (.inl none) r := by
  unfold qa_fX10_save_50 at h
  try dsimp only at h
  refine qa_bk_do (pc' := 51) rfl rfl ?_
  refine qa_bk_do (pc' := 52) (lv' := [(1, _), (0, _)]) rfl rfl ?_
  exact qa_bk_lw (qa_tX10_save_52  _ _ _ _ h) rfl rfl (And.intro rfl (And.intro rfl (trivial)))
set_option maxRecDepth 100000 in
theorem qa_tX10_save_11 {L : Nat}   : ∀ (n : Nat) (x1 : Int32) (σ : qa_T) (r : qa_T), qa_fX10_save_11  n x1 σ = some r → qa_Bk (qa_ds L) qa_mX10_save 11 [(0, .inl (10, 21)), (1, .inr (.int x1))] [] σ (.inl none) r := by
  intro n
  induction n with
  | zero => intro x1 σ r h; cases h
  | succ n ih =>
    intro x1 σ r h
    unfold qa_fX10_save_11 at h
    try dsimp only at h
    refine qa_bk_do (pc' := 12) rfl rfl ?_
    refine qa_bk_do (pc' := 15) rfl rfl ?_
    rcases qa_ite h with ⟨hc8, h⟩ | ⟨hc8, h⟩
    · refine qa_bk_1t (a := 40) (b := 18) hc8 rfl rfl ?_
      refine qa_bk_do (pc' := 41) rfl rfl ?_
      refine qa_bk_do (pc' := 42) rfl rfl ?_
      refine qa_bk_gi rfl rfl qa_dx_10_21 rfl ?_
      refine qa_bk_do (pc' := 46) rfl rfl ?_
      refine qa_bk_do (pc' := 47) rfl rfl ?_
      refine qa_bk_pf rfl rfl qa_dx_10_21 rfl (qa_fiti _) rfl ?_
      exact qa_bk_lw (qa_tX10_save_50  h) rfl rfl (And.intro rfl (trivial))
    · refine qa_bk_1f (a := 40) (b := 18) hc8 rfl rfl ?_
      refine qa_bk_do (pc' := 19) rfl rfl ?_
      refine qa_bk_gr rfl rfl qa_dx_10_21 rfl ?_
      refine qa_bk_do (pc' := 23) rfl rfl ?_
      refine qa_bk_do (pc' := 24) rfl rfl ?_
      refine qa_bk_gr rfl rfl qa_dx_10_21 rfl ?_
      refine qa_bk_do (pc' := 30) rfl rfl ?_
      refine qa_bk_do (pc' := 31) rfl rfl ?_
      refine qa_bk_do (pc' := 32) rfl rfl ?_
      rcases qa_ite h with ⟨_, h⟩ | ⟨hc10, h⟩
      · cases h
      refine qa_bk_ia rfl qa_dx_10_23 (Or.inl rfl) (Decidable.of_not_not hc10) ?_
      rcases qa_ite h with ⟨_, h⟩ | ⟨hc11, h⟩
      · cases h
      refine qa_bk_is rfl qa_dx_10_23 (Decidable.of_not_not hc11) ?_
      refine qa_bk_do (pc' := 37) (lv' := [(1, _), (0, _)]) rfl rfl ?_
      refine qa_bk_do (pc' := 11) rfl rfl ?_
      exact qa_bk_lw (ih _ _ _ h) rfl rfl (And.intro rfl (And.intro rfl (trivial)))
set_option maxRecDepth 100000 in
theorem qa_tX10_save {L : Nat}   {σ : qa_T} {r : qa_T} (h : qa_fX10_save  σ = some r) : qa_Bk (qa_ds L) qa_mX10_save 0 (qa_ag 0 [.inl (10, 21)]) [] σ (.inl none) r := by
  unfold qa_fX10_save at h
  try dsimp only at h
  show qa_Bk (qa_ds L) qa_mX10_save 0 [(0, .inl (10, 21))] [] σ _ _
  refine qa_bk_do (pc' := 1) rfl rfl ?_
  refine qa_bk_gi rfl rfl qa_dx_10_21 rfl ?_
  refine qa_bk_do (pc' := 6) rfl rfl ?_
  rcases qa_ite h with ⟨hc1, h⟩ | ⟨hc1, h⟩
  · refine qa_bk_1t (a := 50) (b := 9) hc1 rfl rfl ?_
    exact qa_bk_lw (qa_tX10_save_50  h) rfl rfl (And.intro rfl (trivial))
  · refine qa_bk_1f (a := 50) (b := 9) hc1 rfl rfl ?_
    refine qa_bk_do (pc' := 10) rfl rfl ?_
    refine qa_bk_do (pc' := 11) (lv' := [(1, _), (0, _)]) rfl rfl ?_
    exact qa_bk_lw (qa_tX10_save_11  _ _ _ _ h) rfl rfl (And.intro rfl (And.intro rfl (trivial)))
noncomputable def qa_fX10_of (a1 : Int32) (a2 : Int32) (σ : qa_T) : Option Int32 :=
    if ¬ qa_in (((Int32.ofInt 1) + (((Int8.ofInt 7).toInt32) * a1)) + a2) 176 = true then none else
    some (σ.1 (10, 22) ((((Int32.ofInt 1) + (((Int8.ofInt 7).toInt32) * a1)) + a2)).toNatClampNeg)
set_option maxRecDepth 100000 in
theorem qa_tX10_of {L : Nat} {a1 : Int32} {a2 : Int32}  {σ : qa_T} {r : Int32} (h : qa_fX10_of a1 a2 σ = some r) : qa_Bk (qa_ds L) qa_mX10_of 0 (qa_ag 0 [.inl (10, 21), .inr (.int a1), .inr (.int a2)]) [] σ (.inl (some (.inr (.int r)))) σ := by
  unfold qa_fX10_of at h
  try dsimp only at h
  show qa_Bk (qa_ds L) qa_mX10_of 0 [(0, .inl (10, 21)), (1, .inr (.int a1)), (2, .inr (.int a2))] [] σ _ _
  refine qa_bk_do (pc' := 1) rfl rfl ?_
  refine qa_bk_gr rfl rfl qa_dx_10_21 rfl ?_
  refine qa_bk_do (pc' := 5) rfl rfl ?_
  refine qa_bk_do (pc' := 7) rfl rfl ?_
  refine qa_bk_do (pc' := 8) rfl rfl ?_
  refine qa_bk_do (pc' := 9) rfl rfl ?_
  refine qa_bk_do (pc' := 10) rfl rfl ?_
  refine qa_bk_do (pc' := 11) rfl rfl ?_
  refine qa_bk_do (pc' := 12) rfl rfl ?_
  rcases qa_ite h with ⟨_, h⟩ | ⟨hc1, h⟩
  · cases h
  refine qa_bk_ia rfl qa_dx_10_22 (Or.inl rfl) (Decidable.of_not_not hc1) ?_
  cases h
  exact qa_bk_ri rfl rfl
noncomputable def qa_fX10_lay (a1 : Int32) (a2 : Int32) (a3 : Int32) (σ : qa_T) : Option qa_T :=
    if ¬ qa_in (((Int32.ofInt 1) + (((Int8.ofInt 7).toInt32) * a1)) + a2) 176 = true then none else
    let σ2 := qa_wi σ (10, 22) ((((Int32.ofInt 1) + (((Int8.ofInt 7).toInt32) * a1)) + a2)).toNatClampNeg a3
    some σ2
set_option maxRecDepth 100000 in
theorem qa_tX10_lay {L : Nat} {a1 : Int32} {a2 : Int32} {a3 : Int32}  {σ : qa_T} {r : qa_T} (h : qa_fX10_lay a1 a2 a3 σ = some r) : qa_Bk (qa_ds L) qa_mX10_lay 0 (qa_ag 0 [.inl (10, 21), .inr (.int a1), .inr (.int a2), .inr (.int a3)]) [] σ (.inl none) r := by
  unfold qa_fX10_lay at h
  try dsimp only at h
  show qa_Bk (qa_ds L) qa_mX10_lay 0 [(0, .inl (10, 21)), (1, .inr (.int a1)), (2, .inr (.int a2)), (3, .inr (.int a3))] [] σ _ _
  refine qa_bk_do (pc' := 1) rfl rfl ?_
  refine qa_bk_gr rfl rfl qa_dx_10_21 rfl ?_
  refine qa_bk_do (pc' := 5) rfl rfl ?_
  refine qa_bk_do (pc' := 7) rfl rfl ?_
  refine qa_bk_do (pc' := 8) rfl rfl ?_
  refine qa_bk_do (pc' := 9) rfl rfl ?_
  refine qa_bk_do (pc' := 10) rfl rfl ?_
  refine qa_bk_do (pc' := 11) rfl rfl ?_
  refine qa_bk_do (pc' := 12) rfl rfl ?_
  refine qa_bk_do (pc' := 13) rfl rfl ?_
  rcases qa_ite h with ⟨_, h⟩ | ⟨hc1, h⟩
  · cases h
  refine qa_bk_is rfl qa_dx_10_22 (Decidable.of_not_not hc1) ?_
  cases h
  exact qa_bk_re rfl rfl rfl
noncomputable def qa_fX10_isThere_22 (a1 : Int32) (y0 : Int32) (σ : qa_T) : (Bool × qa_T) :=
    let σ2 := qa_wi σ (10, 21) 9 y0
    if ¬ (σ2.1 (10, 21) 9) = 0 then
      (false, σ2)
    else
      (true, σ2)
noncomputable def qa_fX10_isThere (a1 : Int32) (σ : qa_T) : (Bool × qa_T) :=
    if (qa_bi (qa_fX10_in a1 (Int32.ofInt 0) ((σ.1 (10, 22) ((Int32.ofInt 0)).toNatClampNeg) - (Int32.ofInt 1)) σ)) = 0 then
      qa_fX10_isThere_22 a1 (Int32.ofInt 1) σ
    else
      qa_fX10_isThere_22 a1 (Int32.ofInt 0) σ
set_option maxRecDepth 100000 in
theorem qa_tX10_isThere_22 {L : Nat} {a1 : Int32}  {y0 : Int32} {σ : qa_T} {r : (Bool × qa_T)} (h : qa_fX10_isThere_22 a1 y0 σ = r) : qa_Bk (qa_ds L) qa_mX10_isThere 22 [(0, .inl (10, 21)), (1, .inr (.int a1))] [.inr (.int y0), .inl (10, 21)] σ (.inl (some (.inr (.int (qa_bi r.1))))) r.2 := by
  unfold qa_fX10_isThere_22 at h
  try dsimp only at h
  refine qa_bk_pf rfl rfl qa_dx_10_21 rfl (qa_fiti _) rfl ?_
  refine qa_bk_do (pc' := 26) rfl rfl ?_
  refine qa_bk_gi rfl rfl qa_dx_10_21 rfl ?_
  rcases qa_ite h with ⟨hc3, h⟩ | ⟨hc3, h⟩
  · refine qa_bk_1t (a := 36) (b := 32) hc3 rfl rfl ?_
    refine qa_bk_do (pc' := 37) rfl rfl ?_
    subst h
    exact qa_bk_rb rfl rfl rfl
  · refine qa_bk_1f (a := 36) (b := 32) hc3 rfl rfl ?_
    refine qa_bk_do (pc' := 33) rfl rfl ?_
    refine qa_bk_do (pc' := 37) rfl rfl ?_
    subst h
    exact qa_bk_rb rfl rfl rfl
set_option maxRecDepth 100000 in
theorem qa_tX10_isThere {L : Nat} {a1 : Int32}  {σ : qa_T} {r : (Bool × qa_T)} (h : qa_fX10_isThere a1 σ = r) : qa_Bk (qa_ds L) qa_mX10_isThere 0 (qa_ag 0 [.inl (10, 21), .inr (.int a1)]) [] σ (.inl (some (.inr (.int (qa_bi r.1))))) r.2 := by
  unfold qa_fX10_isThere at h
  try dsimp only at h
  show qa_Bk (qa_ds L) qa_mX10_isThere 0 [(0, .inl (10, 21)), (1, .inr (.int a1))] [] σ _ _
  refine qa_bk_do (pc' := 1) rfl rfl ?_
  refine qa_bk_do (pc' := 2) rfl rfl ?_
  refine qa_bk_do (pc' := 3) rfl rfl ?_
  refine qa_bk_do (pc' := 4) rfl rfl ?_
  refine qa_bk_gr rfl rfl qa_dx_10_21 rfl ?_
  refine qa_bk_do (pc' := 8) rfl rfl ?_
  refine qa_bk_ia rfl qa_dx_10_22 (Or.inl rfl) rfl ?_
  refine qa_bk_do (pc' := 10) rfl rfl ?_
  refine qa_bk_do (pc' := 11) rfl rfl ?_
  refine qa_bk_cs (qa_tX10_in rfl) rfl rfl rfl rfl rfl rfl rfl ?_
  rcases qa_ite h with ⟨hc1, h⟩ | ⟨hc1, h⟩
  · refine qa_bk_1t (a := 21) (b := 17) hc1 rfl rfl ?_
    refine qa_bk_do (pc' := 22) rfl rfl ?_
    exact qa_bk_lw (qa_tX10_isThere_22  h) rfl rfl (And.intro rfl (And.intro rfl (trivial)))
  · refine qa_bk_1f (a := 21) (b := 17) hc1 rfl rfl ?_
    refine qa_bk_do (pc' := 18) rfl rfl ?_
    refine qa_bk_do (pc' := 22) rfl rfl ?_
    exact qa_bk_lw (qa_tX10_isThere_22  h) rfl rfl (And.intro rfl (And.intro rfl (trivial)))
noncomputable def qa_fX10_loaded (a1 : Int32) (σ : qa_T) : Option Bool :=
    (qa_fX10_of a1 (Int32.ofInt 3) σ).bind fun c1 =>
    if ¬ c1 = (Int32.ofInt 1) then
      some false
    else
      some true
set_option maxRecDepth 100000 in
theorem qa_tX10_loaded {L : Nat} {a1 : Int32}  {σ : qa_T} {r : Bool} (h : qa_fX10_loaded a1 σ = some r) : qa_Bk (qa_ds L) qa_mX10_loaded 0 (qa_ag 0 [.inl (10, 21), .inr (.int a1)]) [] σ (.inl (some (.inr (.int (qa_bi r))))) σ := by
  unfold qa_fX10_loaded at h
  try dsimp only at h
  show qa_Bk (qa_ds L) qa_mX10_loaded 0 [(0, .inl (10, 21)), (1, .inr (.int a1))] [] σ _ _
  refine qa_bk_do (pc' := 1) rfl rfl ?_
  refine qa_bk_do (pc' := 2) rfl rfl ?_
  refine qa_bk_do (pc' := 3) rfl rfl ?_
  obtain ⟨c1, hc2, h⟩ := Option.bind_eq_some_iff.mp h
  refine qa_bk_cv (qa_tX10_of hc2) rfl rfl rfl rfl rfl rfl rfl qa_dx_10_21 ?_
  refine qa_bk_do (pc' := 7) rfl rfl ?_
  rcases qa_ite h with ⟨hc3, h⟩ | ⟨hc3, h⟩
  · refine qa_bk_1t (a := 14) (b := 10) hc3 rfl rfl ?_
    refine qa_bk_do (pc' := 15) rfl rfl ?_
    cases h
    exact qa_bk_rb rfl rfl rfl
  · refine qa_bk_1f (a := 14) (b := 10) hc3 rfl rfl ?_
    refine qa_bk_do (pc' := 11) rfl rfl ?_
    refine qa_bk_do (pc' := 15) rfl rfl ?_
    cases h
    exact qa_bk_rb rfl rfl rfl
noncomputable def qa_fX10_onShow_24 (a1 : Int32) (σ : qa_T) : Bool :=
    true
noncomputable def qa_fX10_onShow (a1 : Int32) (σ : qa_T) : Bool :=
    if a1 = (σ.1 (10, 22) (((Int16.ofInt 139).toInt32)).toNatClampNeg) then
      qa_fX10_onShow_24 a1 σ
    else
      if ¬ a1 = (σ.1 (10, 22) (((Int16.ofInt 140).toInt32)).toNatClampNeg) then
        false
      else
        qa_fX10_onShow_24 a1 σ
set_option maxRecDepth 100000 in
theorem qa_tX10_onShow_24 {L : Nat} {a1 : Int32}  {σ : qa_T} {r : Bool} (h : qa_fX10_onShow_24 a1 σ = r) : qa_Bk (qa_ds L) qa_mX10_onShow 24 [(0, .inl (10, 21)), (1, .inr (.int a1))] [] σ (.inl (some (.inr (.int (qa_bi r))))) σ := by
  unfold qa_fX10_onShow_24 at h
  try dsimp only at h
  refine qa_bk_do (pc' := 25) rfl rfl ?_
  refine qa_bk_do (pc' := 29) rfl rfl ?_
  subst h
  exact qa_bk_rb rfl rfl rfl
set_option maxRecDepth 100000 in
theorem qa_tX10_onShow {L : Nat} {a1 : Int32}  {σ : qa_T} {r : Bool} (h : qa_fX10_onShow a1 σ = r) : qa_Bk (qa_ds L) qa_mX10_onShow 0 (qa_ag 0 [.inl (10, 21), .inr (.int a1)]) [] σ (.inl (some (.inr (.int (qa_bi r))))) σ := by
  unfold qa_fX10_onShow at h
  try dsimp only at h
  show qa_Bk (qa_ds L) qa_mX10_onShow 0 [(0, .inl (10, 21)), (1, .inr (.int a1))] [] σ _ _
  refine qa_bk_do (pc' := 1) rfl rfl ?_
  refine qa_bk_do (pc' := 2) rfl rfl ?_
  refine qa_bk_gr rfl rfl qa_dx_10_21 rfl ?_
  refine qa_bk_do (pc' := 8) rfl rfl ?_
  refine qa_bk_ia rfl qa_dx_10_22 (Or.inl rfl) rfl ?_
  rcases qa_ite h with ⟨hc1, h⟩ | ⟨hc1, h⟩
  · refine qa_bk_1t (a := 24) (b := 12) hc1 rfl rfl ?_
    exact qa_bk_lw (qa_tX10_onShow_24  h) rfl rfl (And.intro rfl (And.intro rfl (trivial)))
  · refine qa_bk_1f (a := 24) (b := 12) hc1 rfl rfl ?_
    refine qa_bk_do (pc' := 13) rfl rfl ?_
    refine qa_bk_do (pc' := 14) rfl rfl ?_
    refine qa_bk_gr rfl rfl qa_dx_10_21 rfl ?_
    refine qa_bk_do (pc' := 20) rfl rfl ?_
    refine qa_bk_ia rfl qa_dx_10_22 (Or.inl rfl) rfl ?_
    rcases qa_ite h with ⟨hc2, h⟩ | ⟨hc2, h⟩
    · refine qa_bk_1t (a := 28) (b := 24) hc2 rfl rfl ?_
      refine qa_bk_do (pc' := 29) rfl rfl ?_
      subst h
      exact qa_bk_rb rfl rfl rfl
    · refine qa_bk_1f (a := 28) (b := 24) hc2 rfl rfl ?_
      exact qa_bk_lw (qa_tX10_onShow_24  h) rfl rfl (And.intro rfl (And.intro rfl (trivial)))
noncomputable def qa_fX10_taken_45  (k4 : Int32 → Int32 → qa_T → Option Int32) (x2 : Int32) (y0 : Int32) (y1 : Int32) (σ : qa_T) : Option Int32 :=
    let v7 : Int32 := (y1 + y0)
    let v8 : Int32 := x2 + Int32.ofInt 1
    k4 v7 v8 σ
noncomputable def qa_fX10_taken_35  (k4 : Int32 → Int32 → qa_T → Option Int32) (x2 : Int32) (y0 : Int32) (σ : qa_T) : Option Int32 :=
    (qa_fX10_of x2 (Int32.ofInt 0) σ).bind fun c5 =>
    qa_fX10_taken_45  k4 x2 c5 y0 σ
noncomputable def qa_fX10_taken_4  : Nat → Int32 → Int32 → qa_T → Option Int32
  | 0, _, _, _ => none
  | n + 1, x1, x2, σ =>
    if (σ.1 (10, 22) ((Int32.ofInt 0)).toNatClampNeg) ≤ x2 then
      some x1
    else
      (qa_fX10_loaded x2 σ).bind fun c2 =>
      if ¬ (qa_bi c2) = 0 then
        qa_fX10_taken_35  (qa_fX10_taken_4  n) x2 x1 σ
      else
        if ¬ (σ.1 (10, 22) (((Int16.ofInt 144).toInt32)).toNatClampNeg) = x2 then
          qa_fX10_taken_45  (qa_fX10_taken_4  n) x2 (Int32.ofInt 0) x1 σ
        else
          qa_fX10_taken_35  (qa_fX10_taken_4  n) x2 x1 σ
noncomputable def qa_fX10_taken  (σ : qa_T) : Option Int32 :=
    qa_fX10_taken_4  qa_fu (Int32.ofInt 0) (Int32.ofInt 0) σ
set_option maxRecDepth 100000 in
theorem qa_tX10_taken_45 {L : Nat}   {k4 : Int32 → Int32 → qa_T → Option Int32} (K4 : ∀ (x1 : Int32) (x2 : Int32) (σ : qa_T) (r : Int32), k4 x1 x2 σ = some r → qa_Bk (qa_ds L) qa_mX10_taken 4 [(0, .inl (10, 21)), (1, .inr (.int x1)), (2, .inr (.int x2))] [] σ (.inl (some (.inr (.int r)))) σ) {x2 : Int32} {y0 : Int32} {y1 : Int32} {σ : qa_T} {r : Int32} (h : qa_fX10_taken_45  k4 x2 y0 y1 σ = some r) : qa_Bk (qa_ds L) qa_mX10_taken 45 [(0, .inl (10, 21)), (2, .inr (.int x2))] [.inr (.int y0), .inr (.int y1)] σ (.inl (some (.inr (.int r)))) σ := by
  unfold qa_fX10_taken_45 at h
  try dsimp only at h
  refine qa_bk_do (pc' := 46) rfl rfl ?_
  refine qa_bk_do (pc' := 47) (lv' := [(1, _), (0, _), (2, _)]) rfl rfl ?_
  refine qa_bk_do (pc' := 50) (lv' := [(2, _), (1, _), (0, _)]) rfl rfl ?_
  refine qa_bk_do (pc' := 4) rfl rfl ?_
  exact qa_bk_lw (K4 _ _ _ _ h) rfl rfl (And.intro rfl (And.intro rfl (And.intro rfl (trivial))))
set_option maxRecDepth 100000 in
theorem qa_tX10_taken_35 {L : Nat}   {k4 : Int32 → Int32 → qa_T → Option Int32} (K4 : ∀ (x1 : Int32) (x2 : Int32) (σ : qa_T) (r : Int32), k4 x1 x2 σ = some r → qa_Bk (qa_ds L) qa_mX10_taken 4 [(0, .inl (10, 21)), (1, .inr (.int x1)), (2, .inr (.int x2))] [] σ (.inl (some (.inr (.int r)))) σ) {x2 : Int32} {y0 : Int32} {σ : qa_T} {r : Int32} (h : qa_fX10_taken_35  k4 x2 y0 σ = some r) : qa_Bk (qa_ds L) qa_mX10_taken 35 [(0, .inl (10, 21)), (2, .inr (.int x2))] [.inr (.int y0)] σ (.inl (some (.inr (.int r)))) σ := by
  unfold qa_fX10_taken_35 at h
  try dsimp only at h
  refine qa_bk_do (pc' := 36) rfl rfl ?_
  refine qa_bk_do (pc' := 37) rfl rfl ?_
  refine qa_bk_do (pc' := 38) rfl rfl ?_
  obtain ⟨c5, hc6, h⟩ := Option.bind_eq_some_iff.mp h
  refine qa_bk_cv (qa_tX10_of hc6) rfl rfl rfl rfl rfl rfl rfl qa_dx_10_21 ?_
  refine qa_bk_do (pc' := 45) rfl rfl ?_
  exact qa_bk_lw (qa_tX10_taken_45  K4 h) rfl rfl (And.intro rfl (And.intro rfl (trivial)))
set_option maxRecDepth 100000 in
theorem qa_tX10_taken_4 {L : Nat}   : ∀ (n : Nat) (x1 : Int32) (x2 : Int32) (σ : qa_T) (r : Int32), qa_fX10_taken_4  n x1 x2 σ = some r → qa_Bk (qa_ds L) qa_mX10_taken 4 [(0, .inl (10, 21)), (1, .inr (.int x1)), (2, .inr (.int x2))] [] σ (.inl (some (.inr (.int r)))) σ := by
  intro n
  induction n with
  | zero => intro x1 x2 σ r h; cases h
  | succ n ih =>
    intro x1 x2 σ r h
    unfold qa_fX10_taken_4 at h
    try dsimp only at h
    refine qa_bk_do (pc' := 5) rfl rfl ?_
    refine qa_bk_do (pc' := 6) rfl rfl ?_
    refine qa_bk_gr rfl rfl qa_dx_10_21 rfl ?_
    refine qa_bk_do (pc' := 10) rfl rfl ?_
    refine qa_bk_ia rfl qa_dx_10_22 (Or.inl rfl) rfl ?_
    rcases qa_ite h with ⟨hc1, h⟩ | ⟨hc1, h⟩
    · refine qa_bk_1t (a := 53) (b := 14) hc1 rfl rfl ?_
      refine qa_bk_do (pc' := 54) rfl rfl ?_
      cases h
      exact qa_bk_ri rfl rfl
    · refine qa_bk_1f (a := 53) (b := 14) hc1 rfl rfl ?_
      refine qa_bk_do (pc' := 15) rfl rfl ?_
      refine qa_bk_do (pc' := 16) rfl rfl ?_
      refine qa_bk_do (pc' := 17) rfl rfl ?_
      obtain ⟨c2, hc3, h⟩ := Option.bind_eq_some_iff.mp h
      refine qa_bk_cv (qa_tX10_loaded hc3) rfl rfl rfl rfl rfl rfl rfl qa_dx_10_21 ?_
      rcases qa_ite h with ⟨hc4, h⟩ | ⟨hc4, h⟩
      · refine qa_bk_1t (a := 35) (b := 23) hc4 rfl rfl ?_
        exact qa_bk_lw (qa_tX10_taken_35  ih h) rfl rfl (And.intro rfl (And.intro rfl (trivial)))
      · refine qa_bk_1f (a := 35) (b := 23) hc4 rfl rfl ?_
        refine qa_bk_do (pc' := 24) rfl rfl ?_
        refine qa_bk_gr rfl rfl qa_dx_10_21 rfl ?_
        refine qa_bk_do (pc' := 30) rfl rfl ?_
        refine qa_bk_ia rfl qa_dx_10_22 (Or.inl rfl) rfl ?_
        refine qa_bk_do (pc' := 32) rfl rfl ?_
        rcases qa_ite h with ⟨hc9, h⟩ | ⟨hc9, h⟩
        · refine qa_bk_1t (a := 44) (b := 35) hc9 rfl rfl ?_
          refine qa_bk_do (pc' := 45) rfl rfl ?_
          exact qa_bk_lw (qa_tX10_taken_45  ih h) rfl rfl (And.intro rfl (And.intro rfl (trivial)))
        · refine qa_bk_1f (a := 44) (b := 35) hc9 rfl rfl ?_
          exact qa_bk_lw (qa_tX10_taken_35  ih h) rfl rfl (And.intro rfl (And.intro rfl (trivial)))
set_option maxRecDepth 100000 in
theorem qa_tX10_taken {L : Nat}   {σ : qa_T} {r : Int32} (h : qa_fX10_taken  σ = some r) : qa_Bk (qa_ds L) qa_mX10_taken 0 (qa_ag 0 [.inl (10, 21)]) [] σ (.inl (some (.inr (.int r)))) σ := by
  unfold qa_fX10_taken at h
  try dsimp only at h
  show qa_Bk (qa_ds L) qa_mX10_taken 0 [(0, .inl (10, 21))] [] σ _ _
  refine qa_bk_do (pc' := 1) rfl rfl ?_
  refine qa_bk_do (pc' := 2) (lv' := [(1, _), (0, _)]) rfl rfl ?_
  refine qa_bk_do (pc' := 3) rfl rfl ?_
  refine qa_bk_do (pc' := 4) (lv' := [(2, _), (1, _), (0, _)]) rfl rfl ?_
  exact qa_bk_lw (qa_tX10_taken_4  _ _ _ _ _ h) rfl rfl (And.intro rfl (And.intro rfl (And.intro rfl (trivial))))
noncomputable def qa_fX10_nextOf_2 (a1 : Int32) : Nat → Int32 → qa_T → Option Int32
  | 0, _, _ => none
  | n + 1, x2, σ =>
    if (σ.1 (10, 22) (((Int8.ofInt 113).toInt32)).toNatClampNeg) < x2 then
      some ((Int8.ofInt 25).toInt32)
    else
      if (σ.1 (10, 22) (((Int8.ofInt 113).toInt32)).toNatClampNeg) = 0 then none else
      if ¬ qa_in (((Int8.ofInt 114).toInt32) + (((σ.1 (10, 22) (((Int16.ofInt 138).toInt32)).toNatClampNeg) + x2) - ((σ.1 (10, 22) (((Int16.ofInt 138).toInt32)).toNatClampNeg) + x2) / (σ.1 (10, 22) (((Int8.ofInt 113).toInt32)).toNatClampNeg) * (σ.1 (10, 22) (((Int8.ofInt 113).toInt32)).toNatClampNeg))) 176 = true then none else
      if ¬ (σ.1 (10, 22) ((((Int8.ofInt 114).toInt32) + (((σ.1 (10, 22) (((Int16.ofInt 138).toInt32)).toNatClampNeg) + x2) - ((σ.1 (10, 22) (((Int16.ofInt 138).toInt32)).toNatClampNeg) + x2) / (σ.1 (10, 22) (((Int8.ofInt 113).toInt32)).toNatClampNeg) * (σ.1 (10, 22) (((Int8.ofInt 113).toInt32)).toNatClampNeg)))).toNatClampNeg) = a1 then
        let v5 : Int32 := x2 + Int32.ofInt 1
        qa_fX10_nextOf_2 a1 n v5 σ
      else
        some x2
noncomputable def qa_fX10_nextOf (a1 : Int32) (σ : qa_T) : Option Int32 :=
    qa_fX10_nextOf_2 a1 qa_fu (Int32.ofInt 1) σ
set_option maxRecDepth 100000 in
theorem qa_tX10_nextOf_2 {L : Nat} {a1 : Int32}  : ∀ (n : Nat) (x2 : Int32) (σ : qa_T) (r : Int32), qa_fX10_nextOf_2 a1 n x2 σ = some r → qa_Bk (qa_ds L) qa_mX10_nextOf 2 [(0, .inl (10, 21)), (1, .inr (.int a1)), (2, .inr (.int x2))] [] σ (.inl (some (.inr (.int r)))) σ := by
  intro n
  induction n with
  | zero => intro x2 σ r h; cases h
  | succ n ih =>
    intro x2 σ r h
    unfold qa_fX10_nextOf_2 at h
    try dsimp only at h
    refine qa_bk_do (pc' := 3) rfl rfl ?_
    refine qa_bk_do (pc' := 4) rfl rfl ?_
    refine qa_bk_gr rfl rfl qa_dx_10_21 rfl ?_
    refine qa_bk_do (pc' := 9) rfl rfl ?_
    refine qa_bk_ia rfl qa_dx_10_22 (Or.inl rfl) rfl ?_
    rcases qa_ite h with ⟨hc1, h⟩ | ⟨hc1, h⟩
    · refine qa_bk_1t (a := 51) (b := 13) hc1 rfl rfl ?_
      refine qa_bk_do (pc' := 53) rfl rfl ?_
      cases h
      exact qa_bk_ri rfl rfl
    · refine qa_bk_1f (a := 51) (b := 13) hc1 rfl rfl ?_
      refine qa_bk_do (pc' := 14) rfl rfl ?_
      refine qa_bk_gr rfl rfl qa_dx_10_21 rfl ?_
      refine qa_bk_do (pc' := 19) rfl rfl ?_
      refine qa_bk_do (pc' := 20) rfl rfl ?_
      refine qa_bk_gr rfl rfl qa_dx_10_21 rfl ?_
      refine qa_bk_do (pc' := 26) rfl rfl ?_
      refine qa_bk_ia rfl qa_dx_10_22 (Or.inl rfl) rfl ?_
      refine qa_bk_do (pc' := 28) rfl rfl ?_
      refine qa_bk_do (pc' := 29) rfl rfl ?_
      refine qa_bk_do (pc' := 30) rfl rfl ?_
      refine qa_bk_gr rfl rfl qa_dx_10_21 rfl ?_
      refine qa_bk_do (pc' := 35) rfl rfl ?_
      refine qa_bk_ia rfl qa_dx_10_22 (Or.inl rfl) rfl ?_
      rcases qa_ite h with ⟨_, h⟩ | ⟨hc2, h⟩
      · cases h
      refine qa_bk_rm hc2 rfl ?_
      refine qa_bk_do (pc' := 38) rfl rfl ?_
      rcases qa_ite h with ⟨_, h⟩ | ⟨hc3, h⟩
      · cases h
      refine qa_bk_ia rfl qa_dx_10_22 (Or.inl rfl) (Decidable.of_not_not hc3) ?_
      refine qa_bk_do (pc' := 40) rfl rfl ?_
      rcases qa_ite h with ⟨hc4, h⟩ | ⟨hc4, h⟩
      · refine qa_bk_1t (a := 45) (b := 43) hc4 rfl rfl ?_
        refine qa_bk_do (pc' := 48) (lv' := [(2, _), (0, _), (1, _)]) rfl rfl ?_
        refine qa_bk_do (pc' := 2) rfl rfl ?_
        exact qa_bk_lw (ih _ _ _ h) rfl rfl (And.intro rfl (And.intro rfl (And.intro rfl (trivial))))
      · refine qa_bk_1f (a := 45) (b := 43) hc4 rfl rfl ?_
        refine qa_bk_do (pc' := 44) rfl rfl ?_
        cases h
        exact qa_bk_ri rfl rfl
set_option maxRecDepth 100000 in
theorem qa_tX10_nextOf {L : Nat} {a1 : Int32}  {σ : qa_T} {r : Int32} (h : qa_fX10_nextOf a1 σ = some r) : qa_Bk (qa_ds L) qa_mX10_nextOf 0 (qa_ag 0 [.inl (10, 21), .inr (.int a1)]) [] σ (.inl (some (.inr (.int r)))) σ := by
  unfold qa_fX10_nextOf at h
  try dsimp only at h
  show qa_Bk (qa_ds L) qa_mX10_nextOf 0 [(0, .inl (10, 21)), (1, .inr (.int a1))] [] σ _ _
  refine qa_bk_do (pc' := 1) rfl rfl ?_
  refine qa_bk_do (pc' := 2) (lv' := [(2, _), (0, _), (1, _)]) rfl rfl ?_
  exact qa_bk_lw (qa_tX10_nextOf_2  _ _ _ _ h) rfl rfl (And.intro rfl (And.intro rfl (And.intro rfl (trivial))))
noncomputable def qa_fX10_isFirst_82 (a1 : Int32) (a2 : Int32) (σ : qa_T) : Option Bool :=
    some true
noncomputable def qa_fX10_isFirst_86 (a1 : Int32) (a2 : Int32) (σ : qa_T) : Option Bool :=
    some false
noncomputable def qa_fX10_isFirst_68 (a1 : Int32) (a2 : Int32) (y0 : Int32) (σ : qa_T) : Option Bool :=
    if 0 < y0 then
      qa_fX10_isFirst_82 a1 a2 σ
    else
      if ¬ y0 = 0 then
        qa_fX10_isFirst_86 a1 a2 σ
      else
        if a2 ≤ a1 then
          qa_fX10_isFirst_86 a1 a2 σ
        else
          qa_fX10_isFirst_82 a1 a2 σ
noncomputable def qa_fX10_isFirst (a1 : Int32) (a2 : Int32) (σ : qa_T) : Option Bool :=
    if ¬ (σ.1 (10, 22) (((Int16.ofInt 165).toInt32)).toNatClampNeg) = 0 then
      if ¬ (σ.1 (10, 22) (((Int16.ofInt 165).toInt32)).toNatClampNeg) = (Int32.ofInt 1) then
        (qa_fX10_nextOf a1 σ).bind fun c3 =>
        (qa_fX10_nextOf a2 σ).bind fun c5 =>
        qa_fX10_isFirst_68 a1 a2 (c3 - c5) σ
      else
        (qa_fX10_of a1 (Int32.ofInt 0) σ).bind fun c10 =>
        (qa_fX10_of a2 (Int32.ofInt 0) σ).bind fun c12 =>
        qa_fX10_isFirst_68 a1 a2 (c10 - c12) σ
    else
      (qa_fX10_of a2 ((Int8.ofInt 6).toInt32) σ).bind fun c14 =>
      (qa_fX10_of a1 ((Int8.ofInt 6).toInt32) σ).bind fun c16 =>
      qa_fX10_isFirst_68 a1 a2 (c14 - c16) σ
set_option maxRecDepth 100000 in
theorem qa_tX10_isFirst_82 {L : Nat} {a1 : Int32} {a2 : Int32}  {σ : qa_T} {r : Bool} (h : qa_fX10_isFirst_82 a1 a2 σ = some r) : qa_Bk (qa_ds L) qa_mX10_isFirst 82 [(0, .inl (10, 21)), (1, .inr (.int a1)), (2, .inr (.int a2))] [] σ (.inl (some (.inr (.int (qa_bi r))))) σ := by
  unfold qa_fX10_isFirst_82 at h
  try dsimp only at h
  refine qa_bk_do (pc' := 83) rfl rfl ?_
  refine qa_bk_do (pc' := 87) rfl rfl ?_
  cases h
  exact qa_bk_rb rfl rfl rfl
set_option maxRecDepth 100000 in
theorem qa_tX10_isFirst_86 {L : Nat} {a1 : Int32} {a2 : Int32}  {σ : qa_T} {r : Bool} (h : qa_fX10_isFirst_86 a1 a2 σ = some r) : qa_Bk (qa_ds L) qa_mX10_isFirst 86 [(0, .inl (10, 21)), (1, .inr (.int a1)), (2, .inr (.int a2))] [] σ (.inl (some (.inr (.int (qa_bi r))))) σ := by
  unfold qa_fX10_isFirst_86 at h
  try dsimp only at h
  refine qa_bk_do (pc' := 87) rfl rfl ?_
  cases h
  exact qa_bk_rb rfl rfl rfl
set_option maxRecDepth 100000 in
theorem qa_tX10_isFirst_68 {L : Nat} {a1 : Int32} {a2 : Int32}  {y0 : Int32} {σ : qa_T} {r : Bool} (h : qa_fX10_isFirst_68 a1 a2 y0 σ = some r) : qa_Bk (qa_ds L) qa_mX10_isFirst 68 [(0, .inl (10, 21)), (1, .inr (.int a1)), (2, .inr (.int a2))] [.inr (.int y0)] σ (.inl (some (.inr (.int (qa_bi r))))) σ := by
  unfold qa_fX10_isFirst_68 at h
  try dsimp only at h
  refine qa_bk_do (pc' := 69) (lv' := [(3, _), (0, _), (1, _), (2, _)]) rfl rfl ?_
  refine qa_bk_do (pc' := 70) rfl rfl ?_
  rcases qa_ite h with ⟨hc7, h⟩ | ⟨hc7, h⟩
  · refine qa_bk_1t (a := 82) (b := 73) hc7 rfl rfl ?_
    exact qa_bk_lw (qa_tX10_isFirst_82  h) rfl rfl (And.intro rfl (And.intro rfl (And.intro rfl (trivial))))
  · refine qa_bk_1f (a := 82) (b := 73) hc7 rfl rfl ?_
    refine qa_bk_do (pc' := 74) rfl rfl ?_
    rcases qa_ite h with ⟨hc8, h⟩ | ⟨hc8, h⟩
    · refine qa_bk_1t (a := 86) (b := 77) hc8 rfl rfl ?_
      exact qa_bk_lw (qa_tX10_isFirst_86  h) rfl rfl (And.intro rfl (And.intro rfl (And.intro rfl (trivial))))
    · refine qa_bk_1f (a := 86) (b := 77) hc8 rfl rfl ?_
      refine qa_bk_do (pc' := 78) rfl rfl ?_
      refine qa_bk_do (pc' := 79) rfl rfl ?_
      rcases qa_ite h with ⟨hc9, h⟩ | ⟨hc9, h⟩
      · refine qa_bk_1t (a := 86) (b := 82) hc9 rfl rfl ?_
        exact qa_bk_lw (qa_tX10_isFirst_86  h) rfl rfl (And.intro rfl (And.intro rfl (And.intro rfl (trivial))))
      · refine qa_bk_1f (a := 86) (b := 82) hc9 rfl rfl ?_
        exact qa_bk_lw (qa_tX10_isFirst_82  h) rfl rfl (And.intro rfl (And.intro rfl (And.intro rfl (trivial))))
set_option maxRecDepth 100000 in
theorem qa_tX10_isFirst {L : Nat} {a1 : Int32} {a2 : Int32}  {σ : qa_T} {r : Bool} (h : qa_fX10_isFirst a1 a2 σ = some r) : qa_Bk (qa_ds L) qa_mX10_isFirst 0 (qa_ag 0 [.inl (10, 21), .inr (.int a1), .inr (.int a2)]) [] σ (.inl (some (.inr (.int (qa_bi r))))) σ := by
  unfold qa_fX10_isFirst at h
  try dsimp only at h
  show qa_Bk (qa_ds L) qa_mX10_isFirst 0 [(0, .inl (10, 21)), (1, .inr (.int a1)), (2, .inr (.int a2))] [] σ _ _
  refine qa_bk_do (pc' := 1) rfl rfl ?_
  refine qa_bk_gr rfl rfl qa_dx_10_21 rfl ?_
  refine qa_bk_do (pc' := 7) rfl rfl ?_
  refine qa_bk_ia rfl qa_dx_10_22 (Or.inl rfl) rfl ?_
  rcases qa_ite h with ⟨hc1, h⟩ | ⟨hc1, h⟩
  · refine qa_bk_1t (a := 29) (b := 11) hc1 rfl rfl ?_
    refine qa_bk_do (pc' := 30) rfl rfl ?_
    refine qa_bk_gr rfl rfl qa_dx_10_21 rfl ?_
    refine qa_bk_do (pc' := 36) rfl rfl ?_
    refine qa_bk_ia rfl qa_dx_10_22 (Or.inl rfl) rfl ?_
    refine qa_bk_do (pc' := 38) rfl rfl ?_
    rcases qa_ite h with ⟨hc2, h⟩ | ⟨hc2, h⟩
    · refine qa_bk_1t (a := 57) (b := 41) hc2 rfl rfl ?_
      refine qa_bk_do (pc' := 58) rfl rfl ?_
      refine qa_bk_do (pc' := 59) rfl rfl ?_
      obtain ⟨c3, hc4, h⟩ := Option.bind_eq_some_iff.mp h
      refine qa_bk_cv (qa_tX10_nextOf hc4) rfl rfl rfl rfl rfl rfl rfl qa_dx_10_21 ?_
      refine qa_bk_do (pc' := 63) rfl rfl ?_
      refine qa_bk_do (pc' := 64) rfl rfl ?_
      obtain ⟨c5, hc6, h⟩ := Option.bind_eq_some_iff.mp h
      refine qa_bk_cv (qa_tX10_nextOf hc6) rfl rfl rfl rfl rfl rfl rfl qa_dx_10_21 ?_
      refine qa_bk_do (pc' := 68) rfl rfl ?_
      exact qa_bk_lw (qa_tX10_isFirst_68  h) rfl rfl (And.intro rfl (And.intro rfl (And.intro rfl (trivial))))
    · refine qa_bk_1f (a := 57) (b := 41) hc2 rfl rfl ?_
      refine qa_bk_do (pc' := 42) rfl rfl ?_
      refine qa_bk_do (pc' := 43) rfl rfl ?_
      refine qa_bk_do (pc' := 44) rfl rfl ?_
      obtain ⟨c10, hc11, h⟩ := Option.bind_eq_some_iff.mp h
      refine qa_bk_cv (qa_tX10_of hc11) rfl rfl rfl rfl rfl rfl rfl qa_dx_10_21 ?_
      refine qa_bk_do (pc' := 48) rfl rfl ?_
      refine qa_bk_do (pc' := 49) rfl rfl ?_
      refine qa_bk_do (pc' := 50) rfl rfl ?_
      obtain ⟨c12, hc13, h⟩ := Option.bind_eq_some_iff.mp h
      refine qa_bk_cv (qa_tX10_of hc13) rfl rfl rfl rfl rfl rfl rfl qa_dx_10_21 ?_
      refine qa_bk_do (pc' := 54) rfl rfl ?_
      refine qa_bk_do (pc' := 68) rfl rfl ?_
      exact qa_bk_lw (qa_tX10_isFirst_68  h) rfl rfl (And.intro rfl (And.intro rfl (And.intro rfl (trivial))))
  · refine qa_bk_1f (a := 29) (b := 11) hc1 rfl rfl ?_
    refine qa_bk_do (pc' := 12) rfl rfl ?_
    refine qa_bk_do (pc' := 13) rfl rfl ?_
    refine qa_bk_do (pc' := 15) rfl rfl ?_
    obtain ⟨c14, hc15, h⟩ := Option.bind_eq_some_iff.mp h
    refine qa_bk_cv (qa_tX10_of hc15) rfl rfl rfl rfl rfl rfl rfl qa_dx_10_21 ?_
    refine qa_bk_do (pc' := 19) rfl rfl ?_
    refine qa_bk_do (pc' := 20) rfl rfl ?_
    refine qa_bk_do (pc' := 22) rfl rfl ?_
    obtain ⟨c16, hc17, h⟩ := Option.bind_eq_some_iff.mp h
    refine qa_bk_cv (qa_tX10_of hc17) rfl rfl rfl rfl rfl rfl rfl qa_dx_10_21 ?_
    refine qa_bk_do (pc' := 26) rfl rfl ?_
    refine qa_bk_do (pc' := 68) rfl rfl ?_
    exact qa_bk_lw (qa_tX10_isFirst_68  h) rfl rfl (And.intro rfl (And.intro rfl (And.intro rfl (trivial))))
noncomputable def qa_fX10_canBurn_20 (a1 : Int32) (σ : qa_T) : Option Bool :=
    some false
noncomputable def qa_fX10_canBurn (a1 : Int32) (σ : qa_T) : Option Bool :=
    (qa_fX10_loaded a1 σ).bind fun c1 =>
    if (qa_bi c1) = 0 then
      qa_fX10_canBurn_20 a1 σ
    else
      if ¬ (qa_bi (qa_fX10_onShow a1 σ)) = 0 then
        qa_fX10_canBurn_20 a1 σ
      else
        some true
set_option maxRecDepth 100000 in
theorem qa_tX10_canBurn_20 {L : Nat} {a1 : Int32}  {σ : qa_T} {r : Bool} (h : qa_fX10_canBurn_20 a1 σ = some r) : qa_Bk (qa_ds L) qa_mX10_canBurn 20 [(0, .inl (10, 21)), (1, .inr (.int a1))] [] σ (.inl (some (.inr (.int (qa_bi r))))) σ := by
  unfold qa_fX10_canBurn_20 at h
  try dsimp only at h
  refine qa_bk_do (pc' := 21) rfl rfl ?_
  cases h
  exact qa_bk_rb rfl rfl rfl
set_option maxRecDepth 100000 in
theorem qa_tX10_canBurn {L : Nat} {a1 : Int32}  {σ : qa_T} {r : Bool} (h : qa_fX10_canBurn a1 σ = some r) : qa_Bk (qa_ds L) qa_mX10_canBurn 0 (qa_ag 0 [.inl (10, 21), .inr (.int a1)]) [] σ (.inl (some (.inr (.int (qa_bi r))))) σ := by
  unfold qa_fX10_canBurn at h
  try dsimp only at h
  show qa_Bk (qa_ds L) qa_mX10_canBurn 0 [(0, .inl (10, 21)), (1, .inr (.int a1))] [] σ _ _
  refine qa_bk_do (pc' := 1) rfl rfl ?_
  refine qa_bk_do (pc' := 2) rfl rfl ?_
  obtain ⟨c1, hc2, h⟩ := Option.bind_eq_some_iff.mp h
  refine qa_bk_cv (qa_tX10_loaded hc2) rfl rfl rfl rfl rfl rfl rfl qa_dx_10_21 ?_
  rcases qa_ite h with ⟨hc3, h⟩ | ⟨hc3, h⟩
  · refine qa_bk_1t (a := 20) (b := 8) hc3 rfl rfl ?_
    exact qa_bk_lw (qa_tX10_canBurn_20  h) rfl rfl (And.intro rfl (And.intro rfl (trivial)))
  · refine qa_bk_1f (a := 20) (b := 8) hc3 rfl rfl ?_
    refine qa_bk_do (pc' := 9) rfl rfl ?_
    refine qa_bk_do (pc' := 10) rfl rfl ?_
    refine qa_bk_cv (qa_tX10_onShow rfl) rfl rfl rfl rfl rfl rfl rfl qa_dx_10_21 ?_
    rcases qa_ite h with ⟨hc4, h⟩ | ⟨hc4, h⟩
    · refine qa_bk_1t (a := 20) (b := 16) hc4 rfl rfl ?_
      exact qa_bk_lw (qa_tX10_canBurn_20  h) rfl rfl (And.intro rfl (And.intro rfl (trivial)))
    · refine qa_bk_1f (a := 20) (b := 16) hc4 rfl rfl ?_
      refine qa_bk_do (pc' := 17) rfl rfl ?_
      refine qa_bk_do (pc' := 21) rfl rfl ?_
      cases h
      exact qa_bk_rb rfl rfl rfl
noncomputable def qa_fX10_nextToBurn_41  (k4 : Int32 → Int32 → qa_T → Option Int32) (x2 : Int32) (y0 : Int32) (σ : qa_T) : Option Int32 :=
    let v5 : Int32 := x2 + Int32.ofInt 1
    k4 y0 v5 σ
noncomputable def qa_fX10_nextToBurn_40  (k4 : Int32 → Int32 → qa_T → Option Int32) (x1 : Int32) (x2 : Int32) (σ : qa_T) : Option Int32 :=
    qa_fX10_nextToBurn_41  k4 x2 x1 σ
noncomputable def qa_fX10_nextToBurn_36  (k4 : Int32 → Int32 → qa_T → Option Int32) (x2 : Int32) (σ : qa_T) : Option Int32 :=
    qa_fX10_nextToBurn_41  k4 x2 x2 σ
noncomputable def qa_fX10_nextToBurn_4  : Nat → Int32 → Int32 → qa_T → Option Int32
  | 0, _, _, _ => none
  | n + 1, x1, x2, σ =>
    if (σ.1 (10, 22) ((Int32.ofInt 0)).toNatClampNeg) ≤ x2 then
      some x1
    else
      (qa_fX10_canBurn x2 σ).bind fun c2 =>
      if (qa_bi c2) = 0 then
        qa_fX10_nextToBurn_40  (qa_fX10_nextToBurn_4  n) x1 x2 σ
      else
        if x1 = (Int32.ofInt (-1)) then
          qa_fX10_nextToBurn_36  (qa_fX10_nextToBurn_4  n) x2 σ
        else
          (qa_fX10_isFirst x2 x1 σ).bind fun c7 =>
          if (qa_bi c7) = 0 then
            qa_fX10_nextToBurn_40  (qa_fX10_nextToBurn_4  n) x1 x2 σ
          else
            qa_fX10_nextToBurn_36  (qa_fX10_nextToBurn_4  n) x2 σ
noncomputable def qa_fX10_nextToBurn  (σ : qa_T) : Option Int32 :=
    qa_fX10_nextToBurn_4  qa_fu (Int32.ofInt (-1)) (Int32.ofInt 0) σ
set_option maxRecDepth 100000 in
theorem qa_tX10_nextToBurn_41 {L : Nat}   {k4 : Int32 → Int32 → qa_T → Option Int32} (K4 : ∀ (x1 : Int32) (x2 : Int32) (σ : qa_T) (r : Int32), k4 x1 x2 σ = some r → qa_Bk (qa_ds L) qa_mX10_nextToBurn 4 [(0, .inl (10, 21)), (1, .inr (.int x1)), (2, .inr (.int x2))] [] σ (.inl (some (.inr (.int r)))) σ) {x2 : Int32} {y0 : Int32} {σ : qa_T} {r : Int32} (h : qa_fX10_nextToBurn_41  k4 x2 y0 σ = some r) : qa_Bk (qa_ds L) qa_mX10_nextToBurn 41 [(0, .inl (10, 21)), (2, .inr (.int x2))] [.inr (.int y0)] σ (.inl (some (.inr (.int r)))) σ := by
  unfold qa_fX10_nextToBurn_41 at h
  try dsimp only at h
  refine qa_bk_do (pc' := 42) (lv' := [(1, _), (0, _), (2, _)]) rfl rfl ?_
  refine qa_bk_do (pc' := 45) (lv' := [(2, _), (1, _), (0, _)]) rfl rfl ?_
  refine qa_bk_do (pc' := 4) rfl rfl ?_
  exact qa_bk_lw (K4 _ _ _ _ h) rfl rfl (And.intro rfl (And.intro rfl (And.intro rfl (trivial))))
set_option maxRecDepth 100000 in
theorem qa_tX10_nextToBurn_40 {L : Nat}   {k4 : Int32 → Int32 → qa_T → Option Int32} (K4 : ∀ (x1 : Int32) (x2 : Int32) (σ : qa_T) (r : Int32), k4 x1 x2 σ = some r → qa_Bk (qa_ds L) qa_mX10_nextToBurn 4 [(0, .inl (10, 21)), (1, .inr (.int x1)), (2, .inr (.int x2))] [] σ (.inl (some (.inr (.int r)))) σ) {x1 : Int32} {x2 : Int32} {σ : qa_T} {r : Int32} (h : qa_fX10_nextToBurn_40  k4 x1 x2 σ = some r) : qa_Bk (qa_ds L) qa_mX10_nextToBurn 40 [(0, .inl (10, 21)), (1, .inr (.int x1)), (2, .inr (.int x2))] [] σ (.inl (some (.inr (.int r)))) σ := by
  unfold qa_fX10_nextToBurn_40 at h
  try dsimp only at h
  refine qa_bk_do (pc' := 41) rfl rfl ?_
  exact qa_bk_lw (qa_tX10_nextToBurn_41  K4 h) rfl rfl (And.intro rfl (And.intro rfl (trivial)))
set_option maxRecDepth 100000 in
theorem qa_tX10_nextToBurn_36 {L : Nat}   {k4 : Int32 → Int32 → qa_T → Option Int32} (K4 : ∀ (x1 : Int32) (x2 : Int32) (σ : qa_T) (r : Int32), k4 x1 x2 σ = some r → qa_Bk (qa_ds L) qa_mX10_nextToBurn 4 [(0, .inl (10, 21)), (1, .inr (.int x1)), (2, .inr (.int x2))] [] σ (.inl (some (.inr (.int r)))) σ) {x2 : Int32} {σ : qa_T} {r : Int32} (h : qa_fX10_nextToBurn_36  k4 x2 σ = some r) : qa_Bk (qa_ds L) qa_mX10_nextToBurn 36 [(0, .inl (10, 21)), (2, .inr (.int x2))] [] σ (.inl (some (.inr (.int r)))) σ := by
  unfold qa_fX10_nextToBurn_36 at h
  try dsimp only at h
  refine qa_bk_do (pc' := 37) rfl rfl ?_
  refine qa_bk_do (pc' := 41) rfl rfl ?_
  exact qa_bk_lw (qa_tX10_nextToBurn_41  K4 h) rfl rfl (And.intro rfl (And.intro rfl (trivial)))
set_option maxRecDepth 100000 in
theorem qa_tX10_nextToBurn_4 {L : Nat}   : ∀ (n : Nat) (x1 : Int32) (x2 : Int32) (σ : qa_T) (r : Int32), qa_fX10_nextToBurn_4  n x1 x2 σ = some r → qa_Bk (qa_ds L) qa_mX10_nextToBurn 4 [(0, .inl (10, 21)), (1, .inr (.int x1)), (2, .inr (.int x2))] [] σ (.inl (some (.inr (.int r)))) σ := by
  intro n
  induction n with
  | zero => intro x1 x2 σ r h; cases h
  | succ n ih =>
    intro x1 x2 σ r h
    unfold qa_fX10_nextToBurn_4 at h
    try dsimp only at h
    refine qa_bk_do (pc' := 5) rfl rfl ?_
    refine qa_bk_do (pc' := 6) rfl rfl ?_
    refine qa_bk_gr rfl rfl qa_dx_10_21 rfl ?_
    refine qa_bk_do (pc' := 10) rfl rfl ?_
    refine qa_bk_ia rfl qa_dx_10_22 (Or.inl rfl) rfl ?_
    rcases qa_ite h with ⟨hc1, h⟩ | ⟨hc1, h⟩
    · refine qa_bk_1t (a := 48) (b := 14) hc1 rfl rfl ?_
      refine qa_bk_do (pc' := 49) rfl rfl ?_
      cases h
      exact qa_bk_ri rfl rfl
    · refine qa_bk_1f (a := 48) (b := 14) hc1 rfl rfl ?_
      refine qa_bk_do (pc' := 15) rfl rfl ?_
      refine qa_bk_do (pc' := 16) rfl rfl ?_
      obtain ⟨c2, hc3, h⟩ := Option.bind_eq_some_iff.mp h
      refine qa_bk_cv (qa_tX10_canBurn hc3) rfl rfl rfl rfl rfl rfl rfl qa_dx_10_21 ?_
      rcases qa_ite h with ⟨hc4, h⟩ | ⟨hc4, h⟩
      · refine qa_bk_1t (a := 40) (b := 22) hc4 rfl rfl ?_
        exact qa_bk_lw (qa_tX10_nextToBurn_40  ih h) rfl rfl (And.intro rfl (And.intro rfl (And.intro rfl (trivial))))
      · refine qa_bk_1f (a := 40) (b := 22) hc4 rfl rfl ?_
        refine qa_bk_do (pc' := 23) rfl rfl ?_
        refine qa_bk_do (pc' := 24) rfl rfl ?_
        rcases qa_ite h with ⟨hc6, h⟩ | ⟨hc6, h⟩
        · refine qa_bk_1t (a := 36) (b := 27) hc6 rfl rfl ?_
          exact qa_bk_lw (qa_tX10_nextToBurn_36  ih h) rfl rfl (And.intro rfl (And.intro rfl (trivial)))
        · refine qa_bk_1f (a := 36) (b := 27) hc6 rfl rfl ?_
          refine qa_bk_do (pc' := 28) rfl rfl ?_
          refine qa_bk_do (pc' := 29) rfl rfl ?_
          refine qa_bk_do (pc' := 30) rfl rfl ?_
          obtain ⟨c7, hc8, h⟩ := Option.bind_eq_some_iff.mp h
          refine qa_bk_cv (qa_tX10_isFirst hc8) rfl rfl rfl rfl rfl rfl rfl qa_dx_10_21 ?_
          rcases qa_ite h with ⟨hc9, h⟩ | ⟨hc9, h⟩
          · refine qa_bk_1t (a := 40) (b := 36) hc9 rfl rfl ?_
            exact qa_bk_lw (qa_tX10_nextToBurn_40  ih h) rfl rfl (And.intro rfl (And.intro rfl (And.intro rfl (trivial))))
          · refine qa_bk_1f (a := 40) (b := 36) hc9 rfl rfl ?_
            exact qa_bk_lw (qa_tX10_nextToBurn_36  ih h) rfl rfl (And.intro rfl (And.intro rfl (trivial)))
set_option maxRecDepth 100000 in
theorem qa_tX10_nextToBurn {L : Nat}   {σ : qa_T} {r : Int32} (h : qa_fX10_nextToBurn  σ = some r) : qa_Bk (qa_ds L) qa_mX10_nextToBurn 0 (qa_ag 0 [.inl (10, 21)]) [] σ (.inl (some (.inr (.int r)))) σ := by
  unfold qa_fX10_nextToBurn at h
  try dsimp only at h
  show qa_Bk (qa_ds L) qa_mX10_nextToBurn 0 [(0, .inl (10, 21))] [] σ _ _
  refine qa_bk_do (pc' := 1) rfl rfl ?_
  refine qa_bk_do (pc' := 2) (lv' := [(1, _), (0, _)]) rfl rfl ?_
  refine qa_bk_do (pc' := 3) rfl rfl ?_
  refine qa_bk_do (pc' := 4) (lv' := [(2, _), (1, _), (0, _)]) rfl rfl ?_
  exact qa_bk_lw (qa_tX10_nextToBurn_4  _ _ _ _ _ h) rfl rfl (And.intro rfl (And.intro rfl (And.intro rfl (trivial))))
