/-! the methods as functions (written by wip/tools/gen.py) -/
noncomputable def qa_fX10_changeMemory (a1 : Int32) (σ : qa_T) : Option (Int32 × qa_T) :=
    (qa_fX10_changes ((Int16.ofInt 163).toInt32) a1 ((Int16.ofInt 150).toInt32) ((Int16.ofInt 400).toInt32) σ).bind fun c1 =>
    some (c1.1, c1.2)
set_option maxRecDepth 100000 in
theorem qa_tX10_changeMemory {L : Nat} {a1 : Int32}  {σ : qa_T} {r : (Int32 × qa_T)} (h : qa_fX10_changeMemory a1 σ = some r) : qa_Bk (qa_ds L) qa_mX10_changeMemory 0 (qa_ag 0 [.inl (10, 21), .inr (.int a1)]) [] σ (.inl (some (.inr (.int r.1)))) r.2 := by
  unfold qa_fX10_changeMemory at h
  try dsimp only at h
  show qa_Bk (qa_ds L) qa_mX10_changeMemory 0 [(0, .inl (10, 21)), (1, .inr (.int a1))] [] σ _ _
  refine qa_bk_do (pc' := 1) rfl rfl ?_
  refine qa_bk_do (pc' := 4) rfl rfl ?_
  refine qa_bk_do (pc' := 5) rfl rfl ?_
  refine qa_bk_do (pc' := 8) rfl rfl ?_
  refine qa_bk_do (pc' := 11) rfl rfl ?_
  obtain ⟨c1, hc2, h⟩ := Option.bind_eq_some_iff.mp h
  refine qa_bk_cv (qa_tX10_changes hc2) rfl rfl rfl rfl rfl rfl rfl qa_dx_10_21 ?_
  cases h
  exact qa_bk_ri rfl rfl
noncomputable def qa_fX10_changeAhead (a1 : Int32) (σ : qa_T) : Option (Int32 × qa_T) :=
    (qa_fX10_changes ((Int16.ofInt 164).toInt32) a1 (Int32.ofInt 0) (Int32.ofInt 4) σ).bind fun c1 =>
    some (c1.1, c1.2)
set_option maxRecDepth 100000 in
theorem qa_tX10_changeAhead {L : Nat} {a1 : Int32}  {σ : qa_T} {r : (Int32 × qa_T)} (h : qa_fX10_changeAhead a1 σ = some r) : qa_Bk (qa_ds L) qa_mX10_changeAhead 0 (qa_ag 0 [.inl (10, 21), .inr (.int a1)]) [] σ (.inl (some (.inr (.int r.1)))) r.2 := by
  unfold qa_fX10_changeAhead at h
  try dsimp only at h
  show qa_Bk (qa_ds L) qa_mX10_changeAhead 0 [(0, .inl (10, 21)), (1, .inr (.int a1))] [] σ _ _
  refine qa_bk_do (pc' := 1) rfl rfl ?_
  refine qa_bk_do (pc' := 4) rfl rfl ?_
  refine qa_bk_do (pc' := 5) rfl rfl ?_
  refine qa_bk_do (pc' := 6) rfl rfl ?_
  refine qa_bk_do (pc' := 7) rfl rfl ?_
  obtain ⟨c1, hc2, h⟩ := Option.bind_eq_some_iff.mp h
  refine qa_bk_cv (qa_tX10_changes hc2) rfl rfl rfl rfl rfl rfl rfl qa_dx_10_21 ?_
  cases h
  exact qa_bk_ri rfl rfl
noncomputable def qa_fX10_changeOrder (a1 : Int32) (σ : qa_T) : Option (Int32 × qa_T) :=
    (qa_fX10_changes ((Int16.ofInt 165).toInt32) a1 (Int32.ofInt 0) (Int32.ofInt 2) σ).bind fun c1 =>
    some (c1.1, c1.2)
set_option maxRecDepth 100000 in
theorem qa_tX10_changeOrder {L : Nat} {a1 : Int32}  {σ : qa_T} {r : (Int32 × qa_T)} (h : qa_fX10_changeOrder a1 σ = some r) : qa_Bk (qa_ds L) qa_mX10_changeOrder 0 (qa_ag 0 [.inl (10, 21), .inr (.int a1)]) [] σ (.inl (some (.inr (.int r.1)))) r.2 := by
  unfold qa_fX10_changeOrder at h
  try dsimp only at h
  show qa_Bk (qa_ds L) qa_mX10_changeOrder 0 [(0, .inl (10, 21)), (1, .inr (.int a1))] [] σ _ _
  refine qa_bk_do (pc' := 1) rfl rfl ?_
  refine qa_bk_do (pc' := 4) rfl rfl ?_
  refine qa_bk_do (pc' := 5) rfl rfl ?_
  refine qa_bk_do (pc' := 6) rfl rfl ?_
  refine qa_bk_do (pc' := 7) rfl rfl ?_
  obtain ⟨c1, hc2, h⟩ := Option.bind_eq_some_iff.mp h
  refine qa_bk_cv (qa_tX10_changes hc2) rfl rfl rfl rfl rfl rfl rfl qa_dx_10_21 ?_
  cases h
  exact qa_bk_ri rfl rfl
noncomputable def qa_fX10_changeGlow (a1 : Int32) (σ : qa_T) : Option (Int32 × qa_T) :=
    (qa_fX10_changes ((Int16.ofInt 166).toInt32) a1 (Int32.ofInt 0) ((Int8.ofInt 20).toInt32) σ).bind fun c1 =>
    some (c1.1, c1.2)
set_option maxRecDepth 100000 in
theorem qa_tX10_changeGlow {L : Nat} {a1 : Int32}  {σ : qa_T} {r : (Int32 × qa_T)} (h : qa_fX10_changeGlow a1 σ = some r) : qa_Bk (qa_ds L) qa_mX10_changeGlow 0 (qa_ag 0 [.inl (10, 21), .inr (.int a1)]) [] σ (.inl (some (.inr (.int r.1)))) r.2 := by
  unfold qa_fX10_changeGlow at h
  try dsimp only at h
  show qa_Bk (qa_ds L) qa_mX10_changeGlow 0 [(0, .inl (10, 21)), (1, .inr (.int a1))] [] σ _ _
  refine qa_bk_do (pc' := 1) rfl rfl ?_
  refine qa_bk_do (pc' := 4) rfl rfl ?_
  refine qa_bk_do (pc' := 5) rfl rfl ?_
  refine qa_bk_do (pc' := 6) rfl rfl ?_
  refine qa_bk_do (pc' := 8) rfl rfl ?_
  obtain ⟨c1, hc2, h⟩ := Option.bind_eq_some_iff.mp h
  refine qa_bk_cv (qa_tX10_changes hc2) rfl rfl rfl rfl rfl rfl rfl qa_dx_10_21 ?_
  cases h
  exact qa_bk_ri rfl rfl
noncomputable def qa_fX10_changePace (a1 : Int32) (σ : qa_T) : Option (Int32 × qa_T) :=
    (qa_fX10_changes ((Int16.ofInt 167).toInt32) a1 (Int32.ofInt 0) ((Int8.ofInt 50).toInt32) σ).bind fun c1 =>
    some (c1.1, c1.2)
set_option maxRecDepth 100000 in
theorem qa_tX10_changePace {L : Nat} {a1 : Int32}  {σ : qa_T} {r : (Int32 × qa_T)} (h : qa_fX10_changePace a1 σ = some r) : qa_Bk (qa_ds L) qa_mX10_changePace 0 (qa_ag 0 [.inl (10, 21), .inr (.int a1)]) [] σ (.inl (some (.inr (.int r.1)))) r.2 := by
  unfold qa_fX10_changePace at h
  try dsimp only at h
  show qa_Bk (qa_ds L) qa_mX10_changePace 0 [(0, .inl (10, 21)), (1, .inr (.int a1))] [] σ _ _
  refine qa_bk_do (pc' := 1) rfl rfl ?_
  refine qa_bk_do (pc' := 4) rfl rfl ?_
  refine qa_bk_do (pc' := 5) rfl rfl ?_
  refine qa_bk_do (pc' := 6) rfl rfl ?_
  refine qa_bk_do (pc' := 8) rfl rfl ?_
  obtain ⟨c1, hc2, h⟩ := Option.bind_eq_some_iff.mp h
  refine qa_bk_cv (qa_tX10_changes hc2) rfl rfl rfl rfl rfl rfl rfl qa_dx_10_21 ?_
  cases h
  exact qa_bk_ri rfl rfl
noncomputable def qa_fX10_append (a1 : Int32) (σ : qa_T) : Option (Int32 × qa_T) :=
    let σ1 := qa_wi σ (10, 21) 9 (Int32.ofInt 0)
    if ¬ (qa_bi (qa_fX10_in a1 ((Int8.ofInt 33).toInt32) ((Int8.ofInt 126).toInt32) σ1)) = 0 then
      if ¬ (σ1.1 (10, 21) 8) = ((Int8.ofInt 60).toInt32) then
        if ¬ qa_in (σ1.1 (10, 21) 8) 60 = true then none else
        let σ5 := qa_wi σ1 (10, 28) ((σ1.1 (10, 21) 8)).toNatClampNeg a1
        let σ6 := qa_wi σ5 (10, 21) 8 ((σ5.1 (10, 21) 8) + (Int32.ofInt 1))
        some ((σ6.1 (10, 21) 8), σ6)
      else
        let c7 := qa_fX10_throwing (Int32.ofInt 2) σ1
        some (c7.1, c7.2)
    else
      let c8 := qa_fX10_throwing (Int32.ofInt 1) σ1
      some (c8.1, c8.2)
set_option maxRecDepth 100000 in
theorem qa_tX10_append {L : Nat} {a1 : Int32}  {σ : qa_T} {r : (Int32 × qa_T)} (h : qa_fX10_append a1 σ = some r) : qa_Bk (qa_ds L) qa_mX10_append 0 (qa_ag 0 [.inl (10, 21), .inr (.int a1)]) [] σ (.inl (some (.inr (.int r.1)))) r.2 := by
  unfold qa_fX10_append at h
  try dsimp only at h
  show qa_Bk (qa_ds L) qa_mX10_append 0 [(0, .inl (10, 21)), (1, .inr (.int a1))] [] σ _ _
  refine qa_bk_do (pc' := 1) rfl rfl ?_
  refine qa_bk_do (pc' := 2) rfl rfl ?_
  refine qa_bk_pf rfl rfl qa_dx_10_21 rfl (qa_fiti _) rfl ?_
  refine qa_bk_do (pc' := 6) rfl rfl ?_
  refine qa_bk_do (pc' := 8) rfl rfl ?_
  refine qa_bk_do (pc' := 10) rfl rfl ?_
  refine qa_bk_cs (qa_tX10_in rfl) rfl rfl rfl rfl rfl rfl rfl ?_
  rcases qa_ite h with ⟨hc2, h⟩ | ⟨hc2, h⟩
  · refine qa_bk_1t (a := 22) (b := 16) hc2 rfl rfl ?_
    refine qa_bk_do (pc' := 23) rfl rfl ?_
    refine qa_bk_gi rfl rfl qa_dx_10_21 rfl ?_
    refine qa_bk_do (pc' := 28) rfl rfl ?_
    rcases qa_ite h with ⟨hc3, h⟩ | ⟨hc3, h⟩
    · refine qa_bk_1t (a := 37) (b := 31) hc3 rfl rfl ?_
      refine qa_bk_do (pc' := 38) rfl rfl ?_
      refine qa_bk_gr rfl rfl qa_dx_10_21 rfl ?_
      refine qa_bk_do (pc' := 42) rfl rfl ?_
      refine qa_bk_gi rfl rfl qa_dx_10_21 rfl ?_
      refine qa_bk_do (pc' := 46) rfl rfl ?_
      rcases qa_ite h with ⟨_, h⟩ | ⟨hc4, h⟩
      · cases h
      refine qa_bk_is rfl qa_dx_10_28 (Decidable.of_not_not hc4) ?_
      refine qa_bk_do (pc' := 48) rfl rfl ?_
      refine qa_bk_do (pc' := 49) rfl rfl ?_
      refine qa_bk_gi rfl rfl qa_dx_10_21 rfl ?_
      refine qa_bk_do (pc' := 53) rfl rfl ?_
      refine qa_bk_do (pc' := 54) rfl rfl ?_
      refine qa_bk_pf rfl rfl qa_dx_10_21 rfl (qa_fiti _) rfl ?_
      refine qa_bk_do (pc' := 58) rfl rfl ?_
      refine qa_bk_gi rfl rfl qa_dx_10_21 rfl ?_
      cases h
      exact qa_bk_ri rfl rfl
    · refine qa_bk_1f (a := 37) (b := 31) hc3 rfl rfl ?_
      refine qa_bk_do (pc' := 32) rfl rfl ?_
      refine qa_bk_do (pc' := 33) rfl rfl ?_
      refine qa_bk_cv (qa_tX10_throwing rfl) rfl rfl rfl rfl rfl rfl rfl qa_dx_10_21 ?_
      cases h
      exact qa_bk_ri rfl rfl
  · refine qa_bk_1f (a := 22) (b := 16) hc2 rfl rfl ?_
    refine qa_bk_do (pc' := 17) rfl rfl ?_
    refine qa_bk_do (pc' := 18) rfl rfl ?_
    refine qa_bk_cv (qa_tX10_throwing rfl) rfl rfl rfl rfl rfl rfl rfl qa_dx_10_21 ?_
    cases h
    exact qa_bk_ri rfl rfl
noncomputable def qa_fX10_clearBuffer  (σ : qa_T) : (Int32 × qa_T) :=
    let σ1 := qa_wi σ (10, 21) 9 (Int32.ofInt 0)
    let v2 : Int32 := (σ1.1 (10, 21) 8)
    let σ3 := qa_wi σ1 (10, 21) 8 (Int32.ofInt 0)
    (v2, σ3)
set_option maxRecDepth 100000 in
theorem qa_tX10_clearBuffer {L : Nat}   {σ : qa_T} {r : (Int32 × qa_T)} (h : qa_fX10_clearBuffer  σ = r) : qa_Bk (qa_ds L) qa_mX10_clearBuffer 0 (qa_ag 0 [.inl (10, 21)]) [] σ (.inl (some (.inr (.int r.1)))) r.2 := by
  unfold qa_fX10_clearBuffer at h
  try dsimp only at h
  show qa_Bk (qa_ds L) qa_mX10_clearBuffer 0 [(0, .inl (10, 21))] [] σ _ _
  refine qa_bk_do (pc' := 1) rfl rfl ?_
  refine qa_bk_do (pc' := 2) rfl rfl ?_
  refine qa_bk_pf rfl rfl qa_dx_10_21 rfl (qa_fiti _) rfl ?_
  refine qa_bk_do (pc' := 6) rfl rfl ?_
  refine qa_bk_gi rfl rfl qa_dx_10_21 rfl ?_
  refine qa_bk_do (pc' := 10) (lv' := [(1, _), (0, _)]) rfl rfl ?_
  refine qa_bk_do (pc' := 11) rfl rfl ?_
  refine qa_bk_do (pc' := 12) rfl rfl ?_
  refine qa_bk_pf rfl rfl qa_dx_10_21 rfl (qa_fiti _) rfl ?_
  refine qa_bk_do (pc' := 16) rfl rfl ?_
  subst h
  exact qa_bk_ri rfl rfl
noncomputable def qa_fX10_sign_74 (a1 : Int32) (a2 : Int32) (x3 : Int32) (y0 : Int32) (y1 : Int32) (σ : qa_T) : Option (Int32 × qa_T) :=
    let σ5 := qa_wi σ (10, 21) 11 (y1 + y0)
    some (x3, σ5)
noncomputable def qa_fX10_sign_49 (a1 : Int32) (a2 : Int32) (x3 : Int32) (σ : qa_T) : Option (Int32 × qa_T) :=
    let σ3 := qa_wi σ (10, 21) 12 (qa_bi true)
    if (σ3.1 (10, 21) 12) = 0 then
      qa_fX10_sign_74 a1 a2 x3 (Int32.ofInt 1) (σ3.1 (10, 21) 11) σ3
    else
      qa_fX10_sign_74 a1 a2 x3 (Int32.ofInt 0) (σ3.1 (10, 21) 11) σ3
noncomputable def qa_fX10_sign_31 (a1 : Int32) (a2 : Int32) (y0 : Int32) (σ : qa_T) : Option (Int32 × qa_T) :=
    if ¬ (σ.1 (10, 21) 12) = 0 then
      qa_fX10_sign_49 a1 a2 y0 σ
    else
      if ¬ (qa_bi (qa_fX10_in y0 a1 a2 σ)) = 0 then
        let σ7 := qa_wi σ (10, 21) 12 (qa_bi false)
        if (σ7.1 (10, 21) 12) = 0 then
          qa_fX10_sign_74 a1 a2 y0 (Int32.ofInt 1) (σ7.1 (10, 21) 11) σ7
        else
          qa_fX10_sign_74 a1 a2 y0 (Int32.ofInt 0) (σ7.1 (10, 21) 11) σ7
      else
        qa_fX10_sign_49 a1 a2 y0 σ
noncomputable def qa_fX10_sign_30 (a1 : Int32) (a2 : Int32) (σ : qa_T) : Option (Int32 × qa_T) :=
    qa_fX10_sign_31 a1 a2 (Int32.ofInt 0) σ
noncomputable def qa_fX10_sign (a1 : Int32) (a2 : Int32) (σ : qa_T) : Option (Int32 × qa_T) :=
    if (σ.1 (10, 21) 8) ≤ (σ.1 (10, 21) 11) then
      qa_fX10_sign_30 a1 a2 σ
    else
      if ¬ (σ.1 (10, 21) 12) = 0 then
        qa_fX10_sign_30 a1 a2 σ
      else
        if ¬ qa_in (σ.1 (10, 21) 11) 60 = true then none else
        qa_fX10_sign_31 a1 a2 (σ.1 (10, 28) ((σ.1 (10, 21) 11)).toNatClampNeg) σ
set_option maxRecDepth 100000 in
theorem qa_tX10_sign_74 {L : Nat} {a1 : Int32} {a2 : Int32}  {x3 : Int32} {y0 : Int32} {y1 : Int32} {σ : qa_T} {r : (Int32 × qa_T)} (h : qa_fX10_sign_74 a1 a2 x3 y0 y1 σ = some r) : qa_Bk (qa_ds L) qa_mX10_sign 74 [(0, .inl (10, 21)), (1, .inr (.int a1)), (2, .inr (.int a2)), (3, .inr (.int x3))] [.inr (.int y0), .inr (.int y1), .inl (10, 21)] σ (.inl (some (.inr (.int r.1)))) r.2 := by
  unfold qa_fX10_sign_74 at h
  try dsimp only at h
  refine qa_bk_do (pc' := 75) rfl rfl ?_
  refine qa_bk_pf rfl rfl qa_dx_10_21 rfl (qa_fiti _) rfl ?_
  refine qa_bk_do (pc' := 79) rfl rfl ?_
  cases h
  exact qa_bk_ri rfl rfl
set_option maxRecDepth 100000 in
theorem qa_tX10_sign_49 {L : Nat} {a1 : Int32} {a2 : Int32}  {x3 : Int32} {σ : qa_T} {r : (Int32 × qa_T)} (h : qa_fX10_sign_49 a1 a2 x3 σ = some r) : qa_Bk (qa_ds L) qa_mX10_sign 49 [(0, .inl (10, 21)), (1, .inr (.int a1)), (2, .inr (.int a2)), (3, .inr (.int x3))] [.inl (10, 21)] σ (.inl (some (.inr (.int r.1)))) r.2 := by
  unfold qa_fX10_sign_49 at h
  try dsimp only at h
  refine qa_bk_do (pc' := 50) rfl rfl ?_
  refine qa_bk_do (pc' := 54) rfl rfl ?_
  refine qa_bk_pf (v := qa_bi true) rfl rfl qa_dx_10_21 rfl (qa_fitz _) rfl ?_
  refine qa_bk_do (pc' := 58) rfl rfl ?_
  refine qa_bk_do (pc' := 59) rfl rfl ?_
  refine qa_bk_gi rfl rfl qa_dx_10_21 rfl ?_
  refine qa_bk_do (pc' := 63) rfl rfl ?_
  refine qa_bk_gi rfl rfl qa_dx_10_21 rfl ?_
  rcases qa_ite h with ⟨hc4, h⟩ | ⟨hc4, h⟩
  · refine qa_bk_1t (a := 73) (b := 69) hc4 rfl rfl ?_
    refine qa_bk_do (pc' := 74) rfl rfl ?_
    exact qa_bk_lw (qa_tX10_sign_74  h) rfl rfl (And.intro rfl (And.intro rfl (And.intro rfl (And.intro rfl (trivial)))))
  · refine qa_bk_1f (a := 73) (b := 69) hc4 rfl rfl ?_
    refine qa_bk_do (pc' := 70) rfl rfl ?_
    refine qa_bk_do (pc' := 74) rfl rfl ?_
    exact qa_bk_lw (qa_tX10_sign_74  h) rfl rfl (And.intro rfl (And.intro rfl (And.intro rfl (And.intro rfl (trivial)))))
set_option maxRecDepth 100000 in
theorem qa_tX10_sign_31 {L : Nat} {a1 : Int32} {a2 : Int32}  {y0 : Int32} {σ : qa_T} {r : (Int32 × qa_T)} (h : qa_fX10_sign_31 a1 a2 y0 σ = some r) : qa_Bk (qa_ds L) qa_mX10_sign 31 [(0, .inl (10, 21)), (1, .inr (.int a1)), (2, .inr (.int a2))] [.inr (.int y0)] σ (.inl (some (.inr (.int r.1)))) r.2 := by
  unfold qa_fX10_sign_31 at h
  try dsimp only at h
  refine qa_bk_do (pc' := 32) (lv' := [(3, _), (0, _), (1, _), (2, _)]) rfl rfl ?_
  refine qa_bk_do (pc' := 33) rfl rfl ?_
  refine qa_bk_do (pc' := 34) rfl rfl ?_
  refine qa_bk_gi rfl rfl qa_dx_10_21 rfl ?_
  rcases qa_ite h with ⟨hc2, h⟩ | ⟨hc2, h⟩
  · refine qa_bk_1t (a := 49) (b := 40) hc2 rfl rfl ?_
    exact qa_bk_lw (qa_tX10_sign_49  h) rfl rfl (And.intro rfl (And.intro rfl (And.intro rfl (And.intro rfl (trivial)))))
  · refine qa_bk_1f (a := 49) (b := 40) hc2 rfl rfl ?_
    refine qa_bk_do (pc' := 41) rfl rfl ?_
    refine qa_bk_do (pc' := 42) rfl rfl ?_
    refine qa_bk_do (pc' := 43) rfl rfl ?_
    refine qa_bk_cs (qa_tX10_in rfl) rfl rfl rfl rfl rfl rfl rfl ?_
    rcases qa_ite h with ⟨hc6, h⟩ | ⟨hc6, h⟩
    · refine qa_bk_1t (a := 53) (b := 49) hc6 rfl rfl ?_
      refine qa_bk_do (pc' := 54) rfl rfl ?_
      refine qa_bk_pf (v := qa_bi false) rfl rfl qa_dx_10_21 rfl (qa_fitz _) rfl ?_
      refine qa_bk_do (pc' := 58) rfl rfl ?_
      refine qa_bk_do (pc' := 59) rfl rfl ?_
      refine qa_bk_gi rfl rfl qa_dx_10_21 rfl ?_
      refine qa_bk_do (pc' := 63) rfl rfl ?_
      refine qa_bk_gi rfl rfl qa_dx_10_21 rfl ?_
      rcases qa_ite h with ⟨hc8, h⟩ | ⟨hc8, h⟩
      · refine qa_bk_1t (a := 73) (b := 69) hc8 rfl rfl ?_
        refine qa_bk_do (pc' := 74) rfl rfl ?_
        exact qa_bk_lw (qa_tX10_sign_74  h) rfl rfl (And.intro rfl (And.intro rfl (And.intro rfl (And.intro rfl (trivial)))))
      · refine qa_bk_1f (a := 73) (b := 69) hc8 rfl rfl ?_
        refine qa_bk_do (pc' := 70) rfl rfl ?_
        refine qa_bk_do (pc' := 74) rfl rfl ?_
        exact qa_bk_lw (qa_tX10_sign_74  h) rfl rfl (And.intro rfl (And.intro rfl (And.intro rfl (And.intro rfl (trivial)))))
    · refine qa_bk_1f (a := 53) (b := 49) hc6 rfl rfl ?_
      exact qa_bk_lw (qa_tX10_sign_49  h) rfl rfl (And.intro rfl (And.intro rfl (And.intro rfl (And.intro rfl (trivial)))))
set_option maxRecDepth 100000 in
theorem qa_tX10_sign_30 {L : Nat} {a1 : Int32} {a2 : Int32}  {σ : qa_T} {r : (Int32 × qa_T)} (h : qa_fX10_sign_30 a1 a2 σ = some r) : qa_Bk (qa_ds L) qa_mX10_sign 30 [(0, .inl (10, 21)), (1, .inr (.int a1)), (2, .inr (.int a2))] [] σ (.inl (some (.inr (.int r.1)))) r.2 := by
  unfold qa_fX10_sign_30 at h
  try dsimp only at h
  refine qa_bk_do (pc' := 31) rfl rfl ?_
  exact qa_bk_lw (qa_tX10_sign_31  h) rfl rfl (And.intro rfl (And.intro rfl (And.intro rfl (trivial))))
set_option maxRecDepth 100000 in
theorem qa_tX10_sign {L : Nat} {a1 : Int32} {a2 : Int32}  {σ : qa_T} {r : (Int32 × qa_T)} (h : qa_fX10_sign a1 a2 σ = some r) : qa_Bk (qa_ds L) qa_mX10_sign 0 (qa_ag 0 [.inl (10, 21), .inr (.int a1), .inr (.int a2)]) [] σ (.inl (some (.inr (.int r.1)))) r.2 := by
  unfold qa_fX10_sign at h
  try dsimp only at h
  show qa_Bk (qa_ds L) qa_mX10_sign 0 [(0, .inl (10, 21)), (1, .inr (.int a1)), (2, .inr (.int a2))] [] σ _ _
  refine qa_bk_do (pc' := 1) rfl rfl ?_
  refine qa_bk_gi rfl rfl qa_dx_10_21 rfl ?_
  refine qa_bk_do (pc' := 5) rfl rfl ?_
  refine qa_bk_gi rfl rfl qa_dx_10_21 rfl ?_
  rcases qa_ite h with ⟨hc1, h⟩ | ⟨hc1, h⟩
  · refine qa_bk_1t (a := 30) (b := 11) hc1 rfl rfl ?_
    exact qa_bk_lw (qa_tX10_sign_30  h) rfl rfl (And.intro rfl (And.intro rfl (And.intro rfl (trivial))))
  · refine qa_bk_1f (a := 30) (b := 11) hc1 rfl rfl ?_
    refine qa_bk_do (pc' := 12) rfl rfl ?_
    refine qa_bk_gi rfl rfl qa_dx_10_21 rfl ?_
    rcases qa_ite h with ⟨hc9, h⟩ | ⟨hc9, h⟩
    · refine qa_bk_1t (a := 30) (b := 18) hc9 rfl rfl ?_
      exact qa_bk_lw (qa_tX10_sign_30  h) rfl rfl (And.intro rfl (And.intro rfl (And.intro rfl (trivial))))
    · refine qa_bk_1f (a := 30) (b := 18) hc9 rfl rfl ?_
      refine qa_bk_do (pc' := 19) rfl rfl ?_
      refine qa_bk_gr rfl rfl qa_dx_10_21 rfl ?_
      refine qa_bk_do (pc' := 23) rfl rfl ?_
      refine qa_bk_gi rfl rfl qa_dx_10_21 rfl ?_
      rcases qa_ite h with ⟨_, h⟩ | ⟨hc10, h⟩
      · cases h
      refine qa_bk_ia rfl qa_dx_10_28 (Or.inl rfl) (Decidable.of_not_not hc10) ?_
      refine qa_bk_do (pc' := 31) rfl rfl ?_
      exact qa_bk_lw (qa_tX10_sign_31  h) rfl rfl (And.intro rfl (And.intro rfl (And.intro rfl (trivial))))
noncomputable def qa_fX10_number_96 (a1 : Int32) (a2 : Int32) (x3 : Int32) (σ : qa_T) : Option (Int32 × qa_T) :=
    some (x3, σ)
noncomputable def qa_fX10_number_14 (a1 : Int32) (a2 : Int32) : Nat → Int32 → qa_T → Option (Int32 × qa_T)
  | 0, _, _ => none
  | n + 1, x3, σ =>
    if ¬ (σ.1 (10, 21) 12) = 0 then
      qa_fX10_number_96 a1 a2 x3 σ
    else
      if x3 ≤ 0 then
        qa_fX10_number_96 a1 a2 x3 σ
      else
        if (σ.1 (10, 21) 8) ≤ (σ.1 (10, 21) 11) then
          qa_fX10_number_96 a1 a2 x3 σ
        else
          if ¬ qa_in (σ.1 (10, 21) 11) 60 = true then none else
          if (qa_bi (qa_fX10_in (σ.1 (10, 28) ((σ.1 (10, 21) 11)).toNatClampNeg) ((Int8.ofInt 48).toInt32) ((Int8.ofInt 57).toInt32) σ)) = 0 then
            qa_fX10_number_96 a1 a2 x3 σ
          else
            if ¬ qa_in (σ.1 (10, 21) 11) 60 = true then none else
            if a2 < (((((Int8.ofInt 10).toInt32) * x3) + (σ.1 (10, 28) ((σ.1 (10, 21) 11)).toNatClampNeg)) - ((Int8.ofInt 48).toInt32)) then
              qa_fX10_number_96 a1 a2 x3 σ
            else
              (qa_fX10_sign ((Int8.ofInt 48).toInt32) ((Int8.ofInt 57).toInt32) σ).bind fun c11 =>
              let v13 : Int32 := (((((Int8.ofInt 10).toInt32) * x3) + c11.1) - ((Int8.ofInt 48).toInt32))
              qa_fX10_number_14 a1 a2 n v13 c11.2
noncomputable def qa_fX10_number (a1 : Int32) (a2 : Int32) (σ : qa_T) : Option (Int32 × qa_T) :=
    (qa_fX10_sign (((Int8.ofInt 48).toInt32) + a1) ((Int8.ofInt 57).toInt32) σ).bind fun c1 =>
    let v3 : Int32 := (c1.1 - ((Int8.ofInt 48).toInt32))
    qa_fX10_number_14 a1 a2 qa_fu v3 c1.2
set_option maxRecDepth 100000 in
theorem qa_tX10_number_96 {L : Nat} {a1 : Int32} {a2 : Int32}  {x3 : Int32} {σ : qa_T} {r : (Int32 × qa_T)} (h : qa_fX10_number_96 a1 a2 x3 σ = some r) : qa_Bk (qa_ds L) qa_mX10_number 96 [(0, .inl (10, 21)), (1, .inr (.int a1)), (2, .inr (.int a2)), (3, .inr (.int x3))] [] σ (.inl (some (.inr (.int r.1)))) r.2 := by
  unfold qa_fX10_number_96 at h
  try dsimp only at h
  refine qa_bk_do (pc' := 97) rfl rfl ?_
  cases h
  exact qa_bk_ri rfl rfl
set_option maxRecDepth 100000 in
theorem qa_tX10_number_14 {L : Nat} {a1 : Int32} {a2 : Int32}  : ∀ (n : Nat) (x3 : Int32) (σ : qa_T) (r : (Int32 × qa_T)), qa_fX10_number_14 a1 a2 n x3 σ = some r → qa_Bk (qa_ds L) qa_mX10_number 14 [(0, .inl (10, 21)), (1, .inr (.int a1)), (2, .inr (.int a2)), (3, .inr (.int x3))] [] σ (.inl (some (.inr (.int r.1)))) r.2 := by
  intro n
  induction n with
  | zero => intro x3 σ r h; cases h
  | succ n ih =>
    intro x3 σ r h
    unfold qa_fX10_number_14 at h
    try dsimp only at h
    refine qa_bk_do (pc' := 15) rfl rfl ?_
    refine qa_bk_gi rfl rfl qa_dx_10_21 rfl ?_
    rcases qa_ite h with ⟨hc4, h⟩ | ⟨hc4, h⟩
    · refine qa_bk_1t (a := 96) (b := 21) hc4 rfl rfl ?_
      exact qa_bk_lw (qa_tX10_number_96  h) rfl rfl (And.intro rfl (And.intro rfl (And.intro rfl (And.intro rfl (trivial)))))
    · refine qa_bk_1f (a := 96) (b := 21) hc4 rfl rfl ?_
      refine qa_bk_do (pc' := 22) rfl rfl ?_
      rcases qa_ite h with ⟨hc5, h⟩ | ⟨hc5, h⟩
      · refine qa_bk_1t (a := 96) (b := 25) hc5 rfl rfl ?_
        exact qa_bk_lw (qa_tX10_number_96  h) rfl rfl (And.intro rfl (And.intro rfl (And.intro rfl (And.intro rfl (trivial)))))
      · refine qa_bk_1f (a := 96) (b := 25) hc5 rfl rfl ?_
        refine qa_bk_do (pc' := 26) rfl rfl ?_
        refine qa_bk_gi rfl rfl qa_dx_10_21 rfl ?_
        refine qa_bk_do (pc' := 30) rfl rfl ?_
        refine qa_bk_gi rfl rfl qa_dx_10_21 rfl ?_
        rcases qa_ite h with ⟨hc6, h⟩ | ⟨hc6, h⟩
        · refine qa_bk_1t (a := 96) (b := 36) hc6 rfl rfl ?_
          exact qa_bk_lw (qa_tX10_number_96  h) rfl rfl (And.intro rfl (And.intro rfl (And.intro rfl (And.intro rfl (trivial)))))
        · refine qa_bk_1f (a := 96) (b := 36) hc6 rfl rfl ?_
          refine qa_bk_do (pc' := 37) rfl rfl ?_
          refine qa_bk_gr rfl rfl qa_dx_10_21 rfl ?_
          refine qa_bk_do (pc' := 41) rfl rfl ?_
          refine qa_bk_gi rfl rfl qa_dx_10_21 rfl ?_
          rcases qa_ite h with ⟨_, h⟩ | ⟨hc7, h⟩
          · cases h
          refine qa_bk_ia rfl qa_dx_10_28 (Or.inl rfl) (Decidable.of_not_not hc7) ?_
          refine qa_bk_do (pc' := 47) rfl rfl ?_
          refine qa_bk_do (pc' := 49) rfl rfl ?_
          refine qa_bk_cs (qa_tX10_in rfl) rfl rfl rfl rfl rfl rfl rfl ?_
          rcases qa_ite h with ⟨hc8, h⟩ | ⟨hc8, h⟩
          · refine qa_bk_1t (a := 96) (b := 55) hc8 rfl rfl ?_
            exact qa_bk_lw (qa_tX10_number_96  h) rfl rfl (And.intro rfl (And.intro rfl (And.intro rfl (And.intro rfl (trivial)))))
          · refine qa_bk_1f (a := 96) (b := 55) hc8 rfl rfl ?_
            refine qa_bk_do (pc' := 57) rfl rfl ?_
            refine qa_bk_do (pc' := 58) rfl rfl ?_
            refine qa_bk_do (pc' := 59) rfl rfl ?_
            refine qa_bk_do (pc' := 60) rfl rfl ?_
            refine qa_bk_gr rfl rfl qa_dx_10_21 rfl ?_
            refine qa_bk_do (pc' := 64) rfl rfl ?_
            refine qa_bk_gi rfl rfl qa_dx_10_21 rfl ?_
            rcases qa_ite h with ⟨_, h⟩ | ⟨hc9, h⟩
            · cases h
            refine qa_bk_ia rfl qa_dx_10_28 (Or.inl rfl) (Decidable.of_not_not hc9) ?_
            refine qa_bk_do (pc' := 69) rfl rfl ?_
            refine qa_bk_do (pc' := 71) rfl rfl ?_
            refine qa_bk_do (pc' := 72) rfl rfl ?_
            refine qa_bk_do (pc' := 73) rfl rfl ?_
            rcases qa_ite h with ⟨hc10, h⟩ | ⟨hc10, h⟩
            · refine qa_bk_1t (a := 96) (b := 76) hc10 rfl rfl ?_
              exact qa_bk_lw (qa_tX10_number_96  h) rfl rfl (And.intro rfl (And.intro rfl (And.intro rfl (And.intro rfl (trivial)))))
            · refine qa_bk_1f (a := 96) (b := 76) hc10 rfl rfl ?_
              refine qa_bk_do (pc' := 78) rfl rfl ?_
              refine qa_bk_do (pc' := 79) rfl rfl ?_
              refine qa_bk_do (pc' := 80) rfl rfl ?_
              refine qa_bk_do (pc' := 81) rfl rfl ?_
              refine qa_bk_do (pc' := 83) rfl rfl ?_
              refine qa_bk_do (pc' := 85) rfl rfl ?_
              obtain ⟨c11, hc12, h⟩ := Option.bind_eq_some_iff.mp h
              refine qa_bk_cv (qa_tX10_sign hc12) rfl rfl rfl rfl rfl rfl rfl qa_dx_10_21 ?_
              refine qa_bk_do (pc' := 89) rfl rfl ?_
              refine qa_bk_do (pc' := 91) rfl rfl ?_
              refine qa_bk_do (pc' := 92) rfl rfl ?_
              refine qa_bk_do (pc' := 93) (lv' := [(3, _), (0, _), (1, _), (2, _)]) rfl rfl ?_
              refine qa_bk_do (pc' := 14) rfl rfl ?_
              exact qa_bk_lw (ih _ _ _ h) rfl rfl (And.intro rfl (And.intro rfl (And.intro rfl (And.intro rfl (trivial)))))
set_option maxRecDepth 100000 in
theorem qa_tX10_number {L : Nat} {a1 : Int32} {a2 : Int32}  {σ : qa_T} {r : (Int32 × qa_T)} (h : qa_fX10_number a1 a2 σ = some r) : qa_Bk (qa_ds L) qa_mX10_number 0 (qa_ag 0 [.inl (10, 21), .inr (.int a1), .inr (.int a2)]) [] σ (.inl (some (.inr (.int r.1)))) r.2 := by
  unfold qa_fX10_number at h
  try dsimp only at h
  show qa_Bk (qa_ds L) qa_mX10_number 0 [(0, .inl (10, 21)), (1, .inr (.int a1)), (2, .inr (.int a2))] [] σ _ _
  refine qa_bk_do (pc' := 1) rfl rfl ?_
  refine qa_bk_do (pc' := 3) rfl rfl ?_
  refine qa_bk_do (pc' := 4) rfl rfl ?_
  refine qa_bk_do (pc' := 5) rfl rfl ?_
  refine qa_bk_do (pc' := 7) rfl rfl ?_
  obtain ⟨c1, hc2, h⟩ := Option.bind_eq_some_iff.mp h
  refine qa_bk_cv (qa_tX10_sign hc2) rfl rfl rfl rfl rfl rfl rfl qa_dx_10_21 ?_
  refine qa_bk_do (pc' := 12) rfl rfl ?_
  refine qa_bk_do (pc' := 13) rfl rfl ?_
  refine qa_bk_do (pc' := 14) (lv' := [(3, _), (0, _), (1, _), (2, _)]) rfl rfl ?_
  exact qa_bk_lw (qa_tX10_number_14  _ _ _ _ h) rfl rfl (And.intro rfl (And.intro rfl (And.intro rfl (And.intro rfl (trivial)))))
noncomputable def qa_fX10_isFollowed_188 (a1 : Int32) (a2 : Int32) (x3 : Int32) (σ : qa_T) : Option (Bool × qa_T) :=
    if x3 = 0 then some (false, σ) else if x3 = 1 then some (true, σ) else none
noncomputable def qa_fX10_isFollowed_182 (a1 : Int32) (a2 : Int32) (x3 : Int32) (y0 : Int32) (σ : qa_T) : Option (Bool × qa_T) :=
    (qa_fX10_begins σ).bind fun c10 =>
    qa_fX10_isFollowed_188 a1 a2 x3 c10
noncomputable def qa_fX10_isFollowed_116 (a1 : Int32) (a2 : Int32) (x3 : Int32) (y0 : Int32) (σ : qa_T) : Option (Bool × qa_T) :=
    if ¬ a1 = ((Int8.ofInt 97).toInt32) then
      if ¬ a1 = ((Int8.ofInt 98).toInt32) then
        if ¬ a1 = ((Int8.ofInt 112).toInt32) then
          if ¬ a1 = ((Int8.ofInt 116).toInt32) then
            qa_fX10_isFollowed_182 a1 a2 x3 (Int32.ofInt 0) σ
          else
            (qa_fX10_passes a2 σ).bind fun c12 =>
            qa_fX10_isFollowed_182 a1 a2 x3 c12.1 c12.2
        else
          (qa_fX10_inserts (σ.1 (10, 22) (((Int8.ofInt 113).toInt32)).toNatClampNeg) a2 σ).bind fun c14 =>
          qa_fX10_isFollowed_182 a1 a2 x3 c14.1 c14.2
      else
        (qa_fX10_burns a2 σ).bind fun c16 =>
        qa_fX10_isFollowed_182 a1 a2 x3 c16.1 c16.2
    else
      (qa_fX10_asks a2 σ).bind fun c18 =>
      qa_fX10_isFollowed_182 a1 a2 x3 c18.1 c18.2
noncomputable def qa_fX10_isFollowed_115 (a1 : Int32) (a2 : Int32) (x3 : Int32) (σ : qa_T) : Option (Bool × qa_T) :=
    qa_fX10_isFollowed_116 a1 a2 x3 (Int32.ofInt 0) σ
noncomputable def qa_fX10_isFollowed_93 (a1 : Int32) (a2 : Int32) (y0 : Int32) (σ : qa_T) : Option (Bool × qa_T) :=
    if y0 = 0 then
      qa_fX10_isFollowed_188 a1 a2 y0 σ
    else
      if ¬ a1 = ((Int8.ofInt 110).toInt32) then
        qa_fX10_isFollowed_115 a1 a2 y0 σ
      else
        (qa_fX10_goesOn σ).bind fun c20 =>
        if (qa_bi c20.1) = 0 then
          qa_fX10_isFollowed_115 a1 a2 y0 c20.2
        else
          qa_fX10_isFollowed_116 a1 a2 y0 (Int32.ofInt 1) c20.2
noncomputable def qa_fX10_isFollowed_92 (a1 : Int32) (a2 : Int32) (σ : qa_T) : Option (Bool × qa_T) :=
    qa_fX10_isFollowed_93 a1 a2 (Int32.ofInt 0) σ
noncomputable def qa_fX10_isFollowed_88 (a1 : Int32) (a2 : Int32) (σ : qa_T) : Option (Bool × qa_T) :=
    qa_fX10_isFollowed_93 a1 a2 (Int32.ofInt 1) σ
noncomputable def qa_fX10_isFollowed_70 (a1 : Int32) (a2 : Int32) (σ : qa_T) : Option (Bool × qa_T) :=
    if ¬ a1 = ((Int8.ofInt 112).toInt32) then
      qa_fX10_isFollowed_88 a1 a2 σ
    else
      if ((Int8.ofInt 24).toInt32) ≤ (σ.1 (10, 22) (((Int8.ofInt 113).toInt32)).toNatClampNeg) then
        qa_fX10_isFollowed_92 a1 a2 σ
      else
        qa_fX10_isFollowed_88 a1 a2 σ
noncomputable def qa_fX10_isFollowed_56 (a1 : Int32) (a2 : Int32) (σ : qa_T) : Option (Bool × qa_T) :=
    if ¬ a1 = ((Int8.ofInt 98).toInt32) then
      qa_fX10_isFollowed_70 a1 a2 σ
    else
      (qa_fX10_canBurn a2 σ).bind fun c27 =>
      if (qa_bi c27) = 0 then
        qa_fX10_isFollowed_92 a1 a2 σ
      else
        qa_fX10_isFollowed_70 a1 a2 σ
noncomputable def qa_fX10_isFollowed_37 (a1 : Int32) (a2 : Int32) (y0 : Int32) (σ : qa_T) : Option (Bool × qa_T) :=
    if y0 = 0 then
      qa_fX10_isFollowed_92 a1 a2 σ
    else
      if ¬ a1 = ((Int8.ofInt 97).toInt32) then
        qa_fX10_isFollowed_56 a1 a2 σ
      else
        (qa_fX10_canAsk a2 σ).bind fun c30 =>
        if (qa_bi c30) = 0 then
          qa_fX10_isFollowed_92 a1 a2 σ
        else
          qa_fX10_isFollowed_56 a1 a2 σ
noncomputable def qa_fX10_isFollowed_32 (a1 : Int32) (a2 : Int32) (σ : qa_T) : Option (Bool × qa_T) :=
    qa_fX10_isFollowed_37 a1 a2 (Int32.ofInt 1) σ
noncomputable def qa_fX10_isFollowed_36 (a1 : Int32) (a2 : Int32) (σ : qa_T) : Option (Bool × qa_T) :=
    qa_fX10_isFollowed_37 a1 a2 (Int32.ofInt 0) σ
noncomputable def qa_fX10_isFollowed (a1 : Int32) (a2 : Int32) (σ : qa_T) : Option (Bool × qa_T) :=
    if a1 = ((Int8.ofInt 116).toInt32) then
      qa_fX10_isFollowed_32 a1 a2 σ
    else
      if ¬ a1 = ((Int8.ofInt 110).toInt32) then
        if (σ.1 (10, 22) ((Int32.ofInt 0)).toNatClampNeg) ≤ a2 then
          qa_fX10_isFollowed_36 a1 a2 σ
        else
          qa_fX10_isFollowed_32 a1 a2 σ
      else
        if (qa_bi (qa_fX10_canGoOn σ)) = 0 then
          qa_fX10_isFollowed_36 a1 a2 σ
        else
          qa_fX10_isFollowed_32 a1 a2 σ
set_option maxRecDepth 100000 in
theorem qa_tX10_isFollowed_188 {L : Nat} {a1 : Int32} {a2 : Int32}  {x3 : Int32} {σ : qa_T} {r : (Bool × qa_T)} (h : qa_fX10_isFollowed_188 a1 a2 x3 σ = some r) : qa_Bk (qa_ds L) qa_mX10_isFollowed 188 [(0, .inl (10, 21)), (1, .inr (.int a1)), (2, .inr (.int a2)), (3, .inr (.int x3))] [] σ (.inl (some (.inr (.int (qa_bi r.1))))) r.2 := by
  unfold qa_fX10_isFollowed_188 at h
  try dsimp only at h
  refine qa_bk_do (pc' := 189) rfl rfl ?_
  rcases qa_ite h with ⟨hc4, h⟩ | ⟨_, h⟩
  · cases h
    exact qa_bk_rb (b := false) hc4 rfl rfl
  · rcases qa_ite h with ⟨hc4, h⟩ | ⟨_, h⟩
    · cases h
      exact qa_bk_rb (b := true) hc4 rfl rfl
    · cases h
set_option maxRecDepth 100000 in
theorem qa_tX10_isFollowed_182 {L : Nat} {a1 : Int32} {a2 : Int32}  {x3 : Int32} {y0 : Int32} {σ : qa_T} {r : (Bool × qa_T)} (h : qa_fX10_isFollowed_182 a1 a2 x3 y0 σ = some r) : qa_Bk (qa_ds L) qa_mX10_isFollowed 182 [(0, .inl (10, 21)), (1, .inr (.int a1)), (2, .inr (.int a2)), (3, .inr (.int x3))] [.inr (.int y0)] σ (.inl (some (.inr (.int (qa_bi r.1))))) r.2 := by
  unfold qa_fX10_isFollowed_182 at h
  try dsimp only at h
  refine qa_bk_do (pc' := 184) (lv' := [(5, _), (0, _), (1, _), (2, _), (3, _)]) rfl rfl ?_
  refine qa_bk_do (pc' := 185) rfl rfl ?_
  obtain ⟨c10, hc11, h⟩ := Option.bind_eq_some_iff.mp h
  refine qa_bk_cv (qa_tX10_begins hc11) rfl rfl rfl rfl rfl rfl rfl qa_dx_10_21 ?_
  exact qa_bk_lw (qa_tX10_isFollowed_188  h) rfl rfl (And.intro rfl (And.intro rfl (And.intro rfl (And.intro rfl (trivial)))))
set_option maxRecDepth 100000 in
theorem qa_tX10_isFollowed_116 {L : Nat} {a1 : Int32} {a2 : Int32}  {x3 : Int32} {y0 : Int32} {σ : qa_T} {r : (Bool × qa_T)} (h : qa_fX10_isFollowed_116 a1 a2 x3 y0 σ = some r) : qa_Bk (qa_ds L) qa_mX10_isFollowed 116 [(0, .inl (10, 21)), (1, .inr (.int a1)), (2, .inr (.int a2)), (3, .inr (.int x3))] [.inr (.int y0)] σ (.inl (some (.inr (.int (qa_bi r.1))))) r.2 := by
  unfold qa_fX10_isFollowed_116 at h
  try dsimp only at h
  refine qa_bk_do (pc' := 118) (lv' := [(4, _), (0, _), (1, _), (2, _), (3, _)]) rfl rfl ?_
  refine qa_bk_do (pc' := 119) rfl rfl ?_
  refine qa_bk_do (pc' := 121) rfl rfl ?_
  rcases qa_ite h with ⟨hc6, h⟩ | ⟨hc6, h⟩
  · refine qa_bk_1t (a := 132) (b := 124) hc6 rfl rfl ?_
    refine qa_bk_do (pc' := 133) rfl rfl ?_
    refine qa_bk_do (pc' := 135) rfl rfl ?_
    rcases qa_ite h with ⟨hc7, h⟩ | ⟨hc7, h⟩
    · refine qa_bk_1t (a := 146) (b := 138) hc7 rfl rfl ?_
      refine qa_bk_do (pc' := 147) rfl rfl ?_
      refine qa_bk_do (pc' := 149) rfl rfl ?_
      rcases qa_ite h with ⟨hc8, h⟩ | ⟨hc8, h⟩
      · refine qa_bk_1t (a := 167) (b := 152) hc8 rfl rfl ?_
        refine qa_bk_do (pc' := 168) rfl rfl ?_
        refine qa_bk_do (pc' := 170) rfl rfl ?_
        rcases qa_ite h with ⟨hc9, h⟩ | ⟨hc9, h⟩
        · refine qa_bk_1t (a := 181) (b := 173) hc9 rfl rfl ?_
          refine qa_bk_do (pc' := 182) rfl rfl ?_
          exact qa_bk_lw (qa_tX10_isFollowed_182  h) rfl rfl (And.intro rfl (And.intro rfl (And.intro rfl (And.intro rfl (trivial)))))
        · refine qa_bk_1f (a := 181) (b := 173) hc9 rfl rfl ?_
          refine qa_bk_do (pc' := 174) rfl rfl ?_
          refine qa_bk_do (pc' := 175) rfl rfl ?_
          obtain ⟨c12, hc13, h⟩ := Option.bind_eq_some_iff.mp h
          refine qa_bk_cv (qa_tX10_passes hc13) rfl rfl rfl rfl rfl rfl rfl qa_dx_10_21 ?_
          refine qa_bk_do (pc' := 182) rfl rfl ?_
          exact qa_bk_lw (qa_tX10_isFollowed_182  h) rfl rfl (And.intro rfl (And.intro rfl (And.intro rfl (And.intro rfl (trivial)))))
      · refine qa_bk_1f (a := 167) (b := 152) hc8 rfl rfl ?_
        refine qa_bk_do (pc' := 153) rfl rfl ?_
        refine qa_bk_do (pc' := 154) rfl rfl ?_
        refine qa_bk_gr rfl rfl qa_dx_10_21 rfl ?_
        refine qa_bk_do (pc' := 159) rfl rfl ?_
        refine qa_bk_ia rfl qa_dx_10_22 (Or.inl rfl) rfl ?_
        refine qa_bk_do (pc' := 161) rfl rfl ?_
        obtain ⟨c14, hc15, h⟩ := Option.bind_eq_some_iff.mp h
        refine qa_bk_cv (qa_tX10_inserts hc15) rfl rfl rfl rfl rfl rfl rfl qa_dx_10_21 ?_
        refine qa_bk_do (pc' := 182) rfl rfl ?_
        exact qa_bk_lw (qa_tX10_isFollowed_182  h) rfl rfl (And.intro rfl (And.intro rfl (And.intro rfl (And.intro rfl (trivial)))))
    · refine qa_bk_1f (a := 146) (b := 138) hc7 rfl rfl ?_
      refine qa_bk_do (pc' := 139) rfl rfl ?_
      refine qa_bk_do (pc' := 140) rfl rfl ?_
      obtain ⟨c16, hc17, h⟩ := Option.bind_eq_some_iff.mp h
      refine qa_bk_cv (qa_tX10_burns hc17) rfl rfl rfl rfl rfl rfl rfl qa_dx_10_21 ?_
      refine qa_bk_do (pc' := 182) rfl rfl ?_
      exact qa_bk_lw (qa_tX10_isFollowed_182  h) rfl rfl (And.intro rfl (And.intro rfl (And.intro rfl (And.intro rfl (trivial)))))
  · refine qa_bk_1f (a := 132) (b := 124) hc6 rfl rfl ?_
    refine qa_bk_do (pc' := 125) rfl rfl ?_
    refine qa_bk_do (pc' := 126) rfl rfl ?_
    obtain ⟨c18, hc19, h⟩ := Option.bind_eq_some_iff.mp h
    refine qa_bk_cv (qa_tX10_asks hc19) rfl rfl rfl rfl rfl rfl rfl qa_dx_10_21 ?_
    refine qa_bk_do (pc' := 182) rfl rfl ?_
    exact qa_bk_lw (qa_tX10_isFollowed_182  h) rfl rfl (And.intro rfl (And.intro rfl (And.intro rfl (And.intro rfl (trivial)))))
set_option maxRecDepth 100000 in
theorem qa_tX10_isFollowed_115 {L : Nat} {a1 : Int32} {a2 : Int32}  {x3 : Int32} {σ : qa_T} {r : (Bool × qa_T)} (h : qa_fX10_isFollowed_115 a1 a2 x3 σ = some r) : qa_Bk (qa_ds L) qa_mX10_isFollowed 115 [(0, .inl (10, 21)), (1, .inr (.int a1)), (2, .inr (.int a2)), (3, .inr (.int x3))] [] σ (.inl (some (.inr (.int (qa_bi r.1))))) r.2 := by
  unfold qa_fX10_isFollowed_115 at h
  try dsimp only at h
  refine qa_bk_do (pc' := 116) rfl rfl ?_
  exact qa_bk_lw (qa_tX10_isFollowed_116  h) rfl rfl (And.intro rfl (And.intro rfl (And.intro rfl (And.intro rfl (trivial)))))
set_option maxRecDepth 100000 in
theorem qa_tX10_isFollowed_93 {L : Nat} {a1 : Int32} {a2 : Int32}  {y0 : Int32} {σ : qa_T} {r : (Bool × qa_T)} (h : qa_fX10_isFollowed_93 a1 a2 y0 σ = some r) : qa_Bk (qa_ds L) qa_mX10_isFollowed 93 [(0, .inl (10, 21)), (1, .inr (.int a1)), (2, .inr (.int a2))] [.inr (.int y0)] σ (.inl (some (.inr (.int (qa_bi r.1))))) r.2 := by
  unfold qa_fX10_isFollowed_93 at h
  try dsimp only at h
  refine qa_bk_do (pc' := 94) (lv' := [(3, _), (0, _), (1, _), (2, _)]) rfl rfl ?_
  refine qa_bk_do (pc' := 95) rfl rfl ?_
  rcases qa_ite h with ⟨hc3, h⟩ | ⟨hc3, h⟩
  · refine qa_bk_1t (a := 188) (b := 98) hc3 rfl rfl ?_
    exact qa_bk_lw (qa_tX10_isFollowed_188  h) rfl rfl (And.intro rfl (And.intro rfl (And.intro rfl (And.intro rfl (trivial)))))
  · refine qa_bk_1f (a := 188) (b := 98) hc3 rfl rfl ?_
    refine qa_bk_do (pc' := 99) rfl rfl ?_
    refine qa_bk_do (pc' := 101) rfl rfl ?_
    rcases qa_ite h with ⟨hc5, h⟩ | ⟨hc5, h⟩
    · refine qa_bk_1t (a := 115) (b := 104) hc5 rfl rfl ?_
      exact qa_bk_lw (qa_tX10_isFollowed_115  h) rfl rfl (And.intro rfl (And.intro rfl (And.intro rfl (And.intro rfl (trivial)))))
    · refine qa_bk_1f (a := 115) (b := 104) hc5 rfl rfl ?_
      refine qa_bk_do (pc' := 105) rfl rfl ?_
      obtain ⟨c20, hc21, h⟩ := Option.bind_eq_some_iff.mp h
      refine qa_bk_cv (qa_tX10_goesOn hc21) rfl rfl rfl rfl rfl rfl rfl qa_dx_10_21 ?_
      rcases qa_ite h with ⟨hc22, h⟩ | ⟨hc22, h⟩
      · refine qa_bk_1t (a := 115) (b := 111) hc22 rfl rfl ?_
        exact qa_bk_lw (qa_tX10_isFollowed_115  h) rfl rfl (And.intro rfl (And.intro rfl (And.intro rfl (And.intro rfl (trivial)))))
      · refine qa_bk_1f (a := 115) (b := 111) hc22 rfl rfl ?_
        refine qa_bk_do (pc' := 112) rfl rfl ?_
        refine qa_bk_do (pc' := 116) rfl rfl ?_
        exact qa_bk_lw (qa_tX10_isFollowed_116  h) rfl rfl (And.intro rfl (And.intro rfl (And.intro rfl (And.intro rfl (trivial)))))
set_option maxRecDepth 100000 in
theorem qa_tX10_isFollowed_92 {L : Nat} {a1 : Int32} {a2 : Int32}  {σ : qa_T} {r : (Bool × qa_T)} (h : qa_fX10_isFollowed_92 a1 a2 σ = some r) : qa_Bk (qa_ds L) qa_mX10_isFollowed 92 [(0, .inl (10, 21)), (1, .inr (.int a1)), (2, .inr (.int a2))] [] σ (.inl (some (.inr (.int (qa_bi r.1))))) r.2 := by
  unfold qa_fX10_isFollowed_92 at h
  try dsimp only at h
  refine qa_bk_do (pc' := 93) rfl rfl ?_
  exact qa_bk_lw (qa_tX10_isFollowed_93  h) rfl rfl (And.intro rfl (And.intro rfl (And.intro rfl (trivial))))
set_option maxRecDepth 100000 in
theorem qa_tX10_isFollowed_88 {L : Nat} {a1 : Int32} {a2 : Int32}  {σ : qa_T} {r : (Bool × qa_T)} (h : qa_fX10_isFollowed_88 a1 a2 σ = some r) : qa_Bk (qa_ds L) qa_mX10_isFollowed 88 [(0, .inl (10, 21)), (1, .inr (.int a1)), (2, .inr (.int a2))] [] σ (.inl (some (.inr (.int (qa_bi r.1))))) r.2 := by
  unfold qa_fX10_isFollowed_88 at h
  try dsimp only at h
  refine qa_bk_do (pc' := 89) rfl rfl ?_
  refine qa_bk_do (pc' := 93) rfl rfl ?_
  exact qa_bk_lw (qa_tX10_isFollowed_93  h) rfl rfl (And.intro rfl (And.intro rfl (And.intro rfl (trivial))))
set_option maxRecDepth 100000 in
theorem qa_tX10_isFollowed_70 {L : Nat} {a1 : Int32} {a2 : Int32}  {σ : qa_T} {r : (Bool × qa_T)} (h : qa_fX10_isFollowed_70 a1 a2 σ = some r) : qa_Bk (qa_ds L) qa_mX10_isFollowed 70 [(0, .inl (10, 21)), (1, .inr (.int a1)), (2, .inr (.int a2))] [] σ (.inl (some (.inr (.int (qa_bi r.1))))) r.2 := by
  unfold qa_fX10_isFollowed_70 at h
  try dsimp only at h
  refine qa_bk_do (pc' := 71) rfl rfl ?_
  refine qa_bk_do (pc' := 73) rfl rfl ?_
  rcases qa_ite h with ⟨hc25, h⟩ | ⟨hc25, h⟩
  · refine qa_bk_1t (a := 88) (b := 76) hc25 rfl rfl ?_
    exact qa_bk_lw (qa_tX10_isFollowed_88  h) rfl rfl (And.intro rfl (And.intro rfl (And.intro rfl (trivial))))
  · refine qa_bk_1f (a := 88) (b := 76) hc25 rfl rfl ?_
    refine qa_bk_do (pc' := 77) rfl rfl ?_
    refine qa_bk_gr rfl rfl qa_dx_10_21 rfl ?_
    refine qa_bk_do (pc' := 82) rfl rfl ?_
    refine qa_bk_ia rfl qa_dx_10_22 (Or.inl rfl) rfl ?_
    refine qa_bk_do (pc' := 85) rfl rfl ?_
    rcases qa_ite h with ⟨hc26, h⟩ | ⟨hc26, h⟩
    · refine qa_bk_1t (a := 92) (b := 88) hc26 rfl rfl ?_
      exact qa_bk_lw (qa_tX10_isFollowed_92  h) rfl rfl (And.intro rfl (And.intro rfl (And.intro rfl (trivial))))
    · refine qa_bk_1f (a := 92) (b := 88) hc26 rfl rfl ?_
      exact qa_bk_lw (qa_tX10_isFollowed_88  h) rfl rfl (And.intro rfl (And.intro rfl (And.intro rfl (trivial))))
set_option maxRecDepth 100000 in
theorem qa_tX10_isFollowed_56 {L : Nat} {a1 : Int32} {a2 : Int32}  {σ : qa_T} {r : (Bool × qa_T)} (h : qa_fX10_isFollowed_56 a1 a2 σ = some r) : qa_Bk (qa_ds L) qa_mX10_isFollowed 56 [(0, .inl (10, 21)), (1, .inr (.int a1)), (2, .inr (.int a2))] [] σ (.inl (some (.inr (.int (qa_bi r.1))))) r.2 := by
  unfold qa_fX10_isFollowed_56 at h
  try dsimp only at h
  refine qa_bk_do (pc' := 57) rfl rfl ?_
  refine qa_bk_do (pc' := 59) rfl rfl ?_
  rcases qa_ite h with ⟨hc24, h⟩ | ⟨hc24, h⟩
  · refine qa_bk_1t (a := 70) (b := 62) hc24 rfl rfl ?_
    exact qa_bk_lw (qa_tX10_isFollowed_70  h) rfl rfl (And.intro rfl (And.intro rfl (And.intro rfl (trivial))))
  · refine qa_bk_1f (a := 70) (b := 62) hc24 rfl rfl ?_
    refine qa_bk_do (pc' := 63) rfl rfl ?_
    refine qa_bk_do (pc' := 64) rfl rfl ?_
    obtain ⟨c27, hc28, h⟩ := Option.bind_eq_some_iff.mp h
    refine qa_bk_cv (qa_tX10_canBurn hc28) rfl rfl rfl rfl rfl rfl rfl qa_dx_10_21 ?_
    rcases qa_ite h with ⟨hc29, h⟩ | ⟨hc29, h⟩
    · refine qa_bk_1t (a := 92) (b := 70) hc29 rfl rfl ?_
      exact qa_bk_lw (qa_tX10_isFollowed_92  h) rfl rfl (And.intro rfl (And.intro rfl (And.intro rfl (trivial))))
    · refine qa_bk_1f (a := 92) (b := 70) hc29 rfl rfl ?_
      exact qa_bk_lw (qa_tX10_isFollowed_70  h) rfl rfl (And.intro rfl (And.intro rfl (And.intro rfl (trivial))))
set_option maxRecDepth 100000 in
theorem qa_tX10_isFollowed_37 {L : Nat} {a1 : Int32} {a2 : Int32}  {y0 : Int32} {σ : qa_T} {r : (Bool × qa_T)} (h : qa_fX10_isFollowed_37 a1 a2 y0 σ = some r) : qa_Bk (qa_ds L) qa_mX10_isFollowed 37 [(0, .inl (10, 21)), (1, .inr (.int a1)), (2, .inr (.int a2))] [.inr (.int y0)] σ (.inl (some (.inr (.int (qa_bi r.1))))) r.2 := by
  unfold qa_fX10_isFollowed_37 at h
  try dsimp only at h
  refine qa_bk_do (pc' := 38) (lv' := [(3, _), (0, _), (1, _), (2, _)]) rfl rfl ?_
  refine qa_bk_do (pc' := 39) rfl rfl ?_
  rcases qa_ite h with ⟨hc2, h⟩ | ⟨hc2, h⟩
  · refine qa_bk_1t (a := 92) (b := 42) hc2 rfl rfl ?_
    exact qa_bk_lw (qa_tX10_isFollowed_92  h) rfl rfl (And.intro rfl (And.intro rfl (And.intro rfl (trivial))))
  · refine qa_bk_1f (a := 92) (b := 42) hc2 rfl rfl ?_
    refine qa_bk_do (pc' := 43) rfl rfl ?_
    refine qa_bk_do (pc' := 45) rfl rfl ?_
    rcases qa_ite h with ⟨hc23, h⟩ | ⟨hc23, h⟩
    · refine qa_bk_1t (a := 56) (b := 48) hc23 rfl rfl ?_
      exact qa_bk_lw (qa_tX10_isFollowed_56  h) rfl rfl (And.intro rfl (And.intro rfl (And.intro rfl (trivial))))
    · refine qa_bk_1f (a := 56) (b := 48) hc23 rfl rfl ?_
      refine qa_bk_do (pc' := 49) rfl rfl ?_
      refine qa_bk_do (pc' := 50) rfl rfl ?_
      obtain ⟨c30, hc31, h⟩ := Option.bind_eq_some_iff.mp h
      refine qa_bk_cv (qa_tX10_canAsk hc31) rfl rfl rfl rfl rfl rfl rfl qa_dx_10_21 ?_
      rcases qa_ite h with ⟨hc32, h⟩ | ⟨hc32, h⟩
      · refine qa_bk_1t (a := 92) (b := 56) hc32 rfl rfl ?_
        exact qa_bk_lw (qa_tX10_isFollowed_92  h) rfl rfl (And.intro rfl (And.intro rfl (And.intro rfl (trivial))))
      · refine qa_bk_1f (a := 92) (b := 56) hc32 rfl rfl ?_
        exact qa_bk_lw (qa_tX10_isFollowed_56  h) rfl rfl (And.intro rfl (And.intro rfl (And.intro rfl (trivial))))
set_option maxRecDepth 100000 in
theorem qa_tX10_isFollowed_32 {L : Nat} {a1 : Int32} {a2 : Int32}  {σ : qa_T} {r : (Bool × qa_T)} (h : qa_fX10_isFollowed_32 a1 a2 σ = some r) : qa_Bk (qa_ds L) qa_mX10_isFollowed 32 [(0, .inl (10, 21)), (1, .inr (.int a1)), (2, .inr (.int a2))] [] σ (.inl (some (.inr (.int (qa_bi r.1))))) r.2 := by
  unfold qa_fX10_isFollowed_32 at h
  try dsimp only at h
  refine qa_bk_do (pc' := 33) rfl rfl ?_
  refine qa_bk_do (pc' := 37) rfl rfl ?_
  exact qa_bk_lw (qa_tX10_isFollowed_37  h) rfl rfl (And.intro rfl (And.intro rfl (And.intro rfl (trivial))))
set_option maxRecDepth 100000 in
theorem qa_tX10_isFollowed_36 {L : Nat} {a1 : Int32} {a2 : Int32}  {σ : qa_T} {r : (Bool × qa_T)} (h : qa_fX10_isFollowed_36 a1 a2 σ = some r) : qa_Bk (qa_ds L) qa_mX10_isFollowed 36 [(0, .inl (10, 21)), (1, .inr (.int a1)), (2, .inr (.int a2))] [] σ (.inl (some (.inr (.int (qa_bi r.1))))) r.2 := by
  unfold qa_fX10_isFollowed_36 at h
  try dsimp only at h
  refine qa_bk_do (pc' := 37) rfl rfl ?_
  exact qa_bk_lw (qa_tX10_isFollowed_37  h) rfl rfl (And.intro rfl (And.intro rfl (And.intro rfl (trivial))))
set_option maxRecDepth 100000 in
theorem qa_tX10_isFollowed {L : Nat} {a1 : Int32} {a2 : Int32}  {σ : qa_T} {r : (Bool × qa_T)} (h : qa_fX10_isFollowed a1 a2 σ = some r) : qa_Bk (qa_ds L) qa_mX10_isFollowed 0 (qa_ag 0 [.inl (10, 21), .inr (.int a1), .inr (.int a2)]) [] σ (.inl (some (.inr (.int (qa_bi r.1))))) r.2 := by
  unfold qa_fX10_isFollowed at h
  try dsimp only at h
  show qa_Bk (qa_ds L) qa_mX10_isFollowed 0 [(0, .inl (10, 21)), (1, .inr (.int a1)), (2, .inr (.int a2))] [] σ _ _
  refine qa_bk_do (pc' := 1) rfl rfl ?_
  refine qa_bk_do (pc' := 3) rfl rfl ?_
  rcases qa_ite h with ⟨hc1, h⟩ | ⟨hc1, h⟩
  · refine qa_bk_1t (a := 32) (b := 6) hc1 rfl rfl ?_
    exact qa_bk_lw (qa_tX10_isFollowed_32  h) rfl rfl (And.intro rfl (And.intro rfl (And.intro rfl (trivial))))
  · refine qa_bk_1f (a := 32) (b := 6) hc1 rfl rfl ?_
    refine qa_bk_do (pc' := 7) rfl rfl ?_
    refine qa_bk_do (pc' := 9) rfl rfl ?_
    rcases qa_ite h with ⟨hc33, h⟩ | ⟨hc33, h⟩
    · refine qa_bk_1t (a := 22) (b := 12) hc33 rfl rfl ?_
      refine qa_bk_do (pc' := 23) rfl rfl ?_
      refine qa_bk_do (pc' := 24) rfl rfl ?_
      refine qa_bk_gr rfl rfl qa_dx_10_21 rfl ?_
      refine qa_bk_do (pc' := 28) rfl rfl ?_
      refine qa_bk_ia rfl qa_dx_10_22 (Or.inl rfl) rfl ?_
      rcases qa_ite h with ⟨hc34, h⟩ | ⟨hc34, h⟩
      · refine qa_bk_1t (a := 36) (b := 32) hc34 rfl rfl ?_
        exact qa_bk_lw (qa_tX10_isFollowed_36  h) rfl rfl (And.intro rfl (And.intro rfl (And.intro rfl (trivial))))
      · refine qa_bk_1f (a := 36) (b := 32) hc34 rfl rfl ?_
        exact qa_bk_lw (qa_tX10_isFollowed_32  h) rfl rfl (And.intro rfl (And.intro rfl (And.intro rfl (trivial))))
    · refine qa_bk_1f (a := 22) (b := 12) hc33 rfl rfl ?_
      refine qa_bk_do (pc' := 13) rfl rfl ?_
      refine qa_bk_cv (qa_tX10_canGoOn rfl) rfl rfl rfl rfl rfl rfl rfl qa_dx_10_21 ?_
      rcases qa_ite h with ⟨hc35, h⟩ | ⟨hc35, h⟩
      · refine qa_bk_1t (a := 36) (b := 19) hc35 rfl rfl ?_
        exact qa_bk_lw (qa_tX10_isFollowed_36  h) rfl rfl (And.intro rfl (And.intro rfl (And.intro rfl (trivial))))
      · refine qa_bk_1f (a := 36) (b := 19) hc35 rfl rfl ?_
        refine qa_bk_do (pc' := 32) rfl rfl ?_
        exact qa_bk_lw (qa_tX10_isFollowed_32  h) rfl rfl (And.intro rfl (And.intro rfl (And.intro rfl (trivial))))
