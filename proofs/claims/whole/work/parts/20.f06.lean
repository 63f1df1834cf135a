/-! the methods as functions (written by wip/tools/gen.py) -/
noncomputable def qa_fX9_tick (a1 : Int32) (σ : qa_T) : Option ((Int32 ⊕ Nat) × qa_T) :=
    if (qa_bi (qa_fX9_isWithin a1 (Int32.ofInt 1) ((Int8.ofInt 100).toInt32) σ)) = 0 then
      some (.inr 342, σ)
    else
    (qa_fX5_push 1 σ).bind fun c2 =>
    (qa_fX1_passTicks 1 a1 c2).bind fun c4 =>
    some (.inl c4.1, c4.2)
set_option maxRecDepth 100000 in
theorem qa_tX9_tick {L : Nat} {a1 : Int32}  {σ : qa_T} {r : ((Int32 ⊕ Nat) × qa_T)} (h : qa_fX9_tick a1 σ = some r) : qa_Bk (qa_ds L) qa_mX9_tick 0 (qa_ag 0 [.inl (0, 1), .inr (.int a1)]) [] σ (qa_ri r.1) r.2 := by
  unfold qa_fX9_tick at h
  try dsimp only at h
  show qa_Bk (qa_ds L) qa_mX9_tick 0 [(0, .inl (0, 1)), (1, .inr (.int a1))] [] σ _ _
  refine qa_bk_do (pc' := 1) rfl rfl ?_
  refine qa_bk_do (pc' := 2) rfl rfl ?_
  refine qa_bk_do (pc' := 4) rfl rfl ?_
  refine qa_bk_cs (qa_tX9_isWithin rfl) rfl rfl rfl rfl rfl rfl rfl ?_
  rcases qa_ite h with ⟨hc1, h⟩ | ⟨hc1, h⟩
  · cases h
    exact qa_bk_cx (qa_tX9_needArgument_x hc1) rfl rfl rfl rfl rfl rfl rfl rfl
  refine qa_bk_cs (qa_tX9_needArgument_o hc1) rfl rfl rfl rfl rfl rfl rfl ?_
  refine qa_bk_do (pc' := 11) rfl rfl ?_
  refine qa_bk_gr rfl rfl qa_dx_0_1 rfl ?_
  refine qa_bk_do (pc' := 15) rfl rfl ?_
  refine qa_bk_gr rfl rfl qa_dx_0_1 rfl ?_
  obtain ⟨c2, hc3, h⟩ := Option.bind_eq_some_iff.mp h
  refine qa_bk_cv (qa_tX5_push qa_rg_1 hc3) rfl rfl rfl rfl rfl rfl rfl qa_dx_2_18 ?_
  refine qa_bk_do (pc' := 22) rfl rfl ?_
  refine qa_bk_gr rfl rfl qa_dx_0_1 rfl ?_
  refine qa_bk_do (pc' := 26) rfl rfl ?_
  obtain ⟨c4, hc5, h⟩ := Option.bind_eq_some_iff.mp h
  refine qa_bk_cv (qa_tX1_passTicks qa_rg_1 hc5) rfl rfl rfl rfl rfl rfl rfl (qa_ds0 qa_rg_1) ?_
  cases h
  exact qa_bk_ri rfl rfl
noncomputable def qa_fX9_changeMemory (a1 : Int32) (σ : qa_T) : Option ((Int32 ⊕ Nat) × qa_T) :=
    if (qa_bi (qa_fX9_isWithin a1 ((Int16.ofInt 150).toInt32) ((Int16.ofInt 400).toInt32) σ)) = 0 then
      some (.inr 342, σ)
    else
    (qa_fX5_push 1 σ).bind fun c2 =>
    let v4 : Int32 := (c2.1 (1, 14) 0)
    let σ5 := qa_wi c2 (1, 14) 0 a1
    (qa_fX1_burnDownTo 1 a1 σ5).bind fun c6 =>
    (qa_fX1_beginLoading 1 c6).bind fun c8 =>
    some (.inl v4, c8)
set_option maxRecDepth 100000 in
theorem qa_tX9_changeMemory {L : Nat} {a1 : Int32}  {σ : qa_T} {r : ((Int32 ⊕ Nat) × qa_T)} (h : qa_fX9_changeMemory a1 σ = some r) : qa_Bk (qa_ds L) qa_mX9_changeMemory 0 (qa_ag 0 [.inl (0, 1), .inr (.int a1)]) [] σ (qa_ri r.1) r.2 := by
  unfold qa_fX9_changeMemory at h
  try dsimp only at h
  show qa_Bk (qa_ds L) qa_mX9_changeMemory 0 [(0, .inl (0, 1)), (1, .inr (.int a1))] [] σ _ _
  refine qa_bk_do (pc' := 1) rfl rfl ?_
  refine qa_bk_do (pc' := 4) rfl rfl ?_
  refine qa_bk_do (pc' := 7) rfl rfl ?_
  refine qa_bk_cs (qa_tX9_isWithin rfl) rfl rfl rfl rfl rfl rfl rfl ?_
  rcases qa_ite h with ⟨hc1, h⟩ | ⟨hc1, h⟩
  · cases h
    exact qa_bk_cx (qa_tX9_needArgument_x hc1) rfl rfl rfl rfl rfl rfl rfl rfl
  refine qa_bk_cs (qa_tX9_needArgument_o hc1) rfl rfl rfl rfl rfl rfl rfl ?_
  refine qa_bk_do (pc' := 14) rfl rfl ?_
  refine qa_bk_gr rfl rfl qa_dx_0_1 rfl ?_
  refine qa_bk_do (pc' := 18) rfl rfl ?_
  refine qa_bk_gr rfl rfl qa_dx_0_1 rfl ?_
  obtain ⟨c2, hc3, h⟩ := Option.bind_eq_some_iff.mp h
  refine qa_bk_cv (qa_tX5_push qa_rg_1 hc3) rfl rfl rfl rfl rfl rfl rfl qa_dx_2_18 ?_
  refine qa_bk_do (pc' := 25) rfl rfl ?_
  refine qa_bk_gr rfl rfl qa_dx_0_1 rfl ?_
  refine qa_bk_gr rfl rfl (qa_ds0 qa_rg_1) rfl ?_
  refine qa_bk_gi rfl rfl (qa_ds14 qa_rg_1) rfl ?_
  refine qa_bk_do (pc' := 35) (lv' := [(2, _), (0, _), (1, _)]) rfl rfl ?_
  refine qa_bk_do (pc' := 36) rfl rfl ?_
  refine qa_bk_gr rfl rfl qa_dx_0_1 rfl ?_
  refine qa_bk_gr rfl rfl (qa_ds0 qa_rg_1) rfl ?_
  refine qa_bk_do (pc' := 43) rfl rfl ?_
  refine qa_bk_pf rfl rfl (qa_ds14 qa_rg_1) rfl (qa_fiti _) rfl ?_
  refine qa_bk_do (pc' := 47) rfl rfl ?_
  refine qa_bk_gr rfl rfl qa_dx_0_1 rfl ?_
  refine qa_bk_do (pc' := 51) rfl rfl ?_
  obtain ⟨c6, hc7, h⟩ := Option.bind_eq_some_iff.mp h
  refine qa_bk_cv (qa_tX1_burnDownTo qa_rg_1 hc7) rfl rfl rfl rfl rfl rfl rfl (qa_ds0 qa_rg_1) ?_
  refine qa_bk_do (pc' := 55) rfl rfl ?_
  refine qa_bk_gr rfl rfl qa_dx_0_1 rfl ?_
  obtain ⟨c8, hc9, h⟩ := Option.bind_eq_some_iff.mp h
  refine qa_bk_cv (qa_tX1_beginLoading qa_rg_1 hc9) rfl rfl rfl rfl rfl rfl rfl (qa_ds0 qa_rg_1) ?_
  refine qa_bk_do (pc' := 62) rfl rfl ?_
  cases h
  exact qa_bk_ri rfl rfl
noncomputable def qa_fX9_changeAhead (a1 : Int32) (σ : qa_T) : Option ((Int32 ⊕ Nat) × qa_T) :=
    if (qa_bi (qa_fX9_isWithin a1 (Int32.ofInt 0) (Int32.ofInt 4) σ)) = 0 then
      some (.inr 342, σ)
    else
    (qa_fX5_push 1 σ).bind fun c2 =>
    let v4 : Int32 := (c2.1 (1, 14) 1)
    let σ5 := qa_wi c2 (1, 14) 1 a1
    (qa_fX1_beginLoading 1 σ5).bind fun c6 =>
    some (.inl v4, c6)
set_option maxRecDepth 100000 in
theorem qa_tX9_changeAhead {L : Nat} {a1 : Int32}  {σ : qa_T} {r : ((Int32 ⊕ Nat) × qa_T)} (h : qa_fX9_changeAhead a1 σ = some r) : qa_Bk (qa_ds L) qa_mX9_changeAhead 0 (qa_ag 0 [.inl (0, 1), .inr (.int a1)]) [] σ (qa_ri r.1) r.2 := by
  unfold qa_fX9_changeAhead at h
  try dsimp only at h
  show qa_Bk (qa_ds L) qa_mX9_changeAhead 0 [(0, .inl (0, 1)), (1, .inr (.int a1))] [] σ _ _
  refine qa_bk_do (pc' := 1) rfl rfl ?_
  refine qa_bk_do (pc' := 2) rfl rfl ?_
  refine qa_bk_do (pc' := 3) rfl rfl ?_
  refine qa_bk_cs (qa_tX9_isWithin rfl) rfl rfl rfl rfl rfl rfl rfl ?_
  rcases qa_ite h with ⟨hc1, h⟩ | ⟨hc1, h⟩
  · cases h
    exact qa_bk_cx (qa_tX9_needArgument_x hc1) rfl rfl rfl rfl rfl rfl rfl rfl
  refine qa_bk_cs (qa_tX9_needArgument_o hc1) rfl rfl rfl rfl rfl rfl rfl ?_
  refine qa_bk_do (pc' := 10) rfl rfl ?_
  refine qa_bk_gr rfl rfl qa_dx_0_1 rfl ?_
  refine qa_bk_do (pc' := 14) rfl rfl ?_
  refine qa_bk_gr rfl rfl qa_dx_0_1 rfl ?_
  obtain ⟨c2, hc3, h⟩ := Option.bind_eq_some_iff.mp h
  refine qa_bk_cv (qa_tX5_push qa_rg_1 hc3) rfl rfl rfl rfl rfl rfl rfl qa_dx_2_18 ?_
  refine qa_bk_do (pc' := 21) rfl rfl ?_
  refine qa_bk_gr rfl rfl qa_dx_0_1 rfl ?_
  refine qa_bk_gr rfl rfl (qa_ds0 qa_rg_1) rfl ?_
  refine qa_bk_gi rfl rfl (qa_ds14 qa_rg_1) rfl ?_
  refine qa_bk_do (pc' := 31) (lv' := [(2, _), (0, _), (1, _)]) rfl rfl ?_
  refine qa_bk_do (pc' := 32) rfl rfl ?_
  refine qa_bk_gr rfl rfl qa_dx_0_1 rfl ?_
  refine qa_bk_gr rfl rfl (qa_ds0 qa_rg_1) rfl ?_
  refine qa_bk_do (pc' := 39) rfl rfl ?_
  refine qa_bk_pf rfl rfl (qa_ds14 qa_rg_1) rfl (qa_fiti _) rfl ?_
  refine qa_bk_do (pc' := 43) rfl rfl ?_
  refine qa_bk_gr rfl rfl qa_dx_0_1 rfl ?_
  obtain ⟨c6, hc7, h⟩ := Option.bind_eq_some_iff.mp h
  refine qa_bk_cv (qa_tX1_beginLoading qa_rg_1 hc7) rfl rfl rfl rfl rfl rfl rfl (qa_ds0 qa_rg_1) ?_
  refine qa_bk_do (pc' := 50) rfl rfl ?_
  cases h
  exact qa_bk_ri rfl rfl
noncomputable def qa_fX9_changeOrder (a1 : Int32) (σ : qa_T) : Option ((Int32 ⊕ Nat) × qa_T) :=
    if (qa_bi (qa_fX9_isWithin a1 (Int32.ofInt 0) (Int32.ofInt 2) σ)) = 0 then
      some (.inr 342, σ)
    else
    (qa_fX5_push 1 σ).bind fun c2 =>
    let v4 : Int32 := (c2.1 (1, 14) 2)
    let σ5 := qa_wi c2 (1, 14) 2 a1
    (qa_fX1_beginLoading 1 σ5).bind fun c6 =>
    some (.inl v4, c6)
set_option maxRecDepth 100000 in
theorem qa_tX9_changeOrder {L : Nat} {a1 : Int32}  {σ : qa_T} {r : ((Int32 ⊕ Nat) × qa_T)} (h : qa_fX9_changeOrder a1 σ = some r) : qa_Bk (qa_ds L) qa_mX9_changeOrder 0 (qa_ag 0 [.inl (0, 1), .inr (.int a1)]) [] σ (qa_ri r.1) r.2 := by
  unfold qa_fX9_changeOrder at h
  try dsimp only at h
  show qa_Bk (qa_ds L) qa_mX9_changeOrder 0 [(0, .inl (0, 1)), (1, .inr (.int a1))] [] σ _ _
  refine qa_bk_do (pc' := 1) rfl rfl ?_
  refine qa_bk_do (pc' := 2) rfl rfl ?_
  refine qa_bk_do (pc' := 3) rfl rfl ?_
  refine qa_bk_cs (qa_tX9_isWithin rfl) rfl rfl rfl rfl rfl rfl rfl ?_
  rcases qa_ite h with ⟨hc1, h⟩ | ⟨hc1, h⟩
  · cases h
    exact qa_bk_cx (qa_tX9_needArgument_x hc1) rfl rfl rfl rfl rfl rfl rfl rfl
  refine qa_bk_cs (qa_tX9_needArgument_o hc1) rfl rfl rfl rfl rfl rfl rfl ?_
  refine qa_bk_do (pc' := 10) rfl rfl ?_
  refine qa_bk_gr rfl rfl qa_dx_0_1 rfl ?_
  refine qa_bk_do (pc' := 14) rfl rfl ?_
  refine qa_bk_gr rfl rfl qa_dx_0_1 rfl ?_
  obtain ⟨c2, hc3, h⟩ := Option.bind_eq_some_iff.mp h
  refine qa_bk_cv (qa_tX5_push qa_rg_1 hc3) rfl rfl rfl rfl rfl rfl rfl qa_dx_2_18 ?_
  refine qa_bk_do (pc' := 21) rfl rfl ?_
  refine qa_bk_gr rfl rfl qa_dx_0_1 rfl ?_
  refine qa_bk_gr rfl rfl (qa_ds0 qa_rg_1) rfl ?_
  refine qa_bk_gi rfl rfl (qa_ds14 qa_rg_1) rfl ?_
  refine qa_bk_do (pc' := 31) (lv' := [(2, _), (0, _), (1, _)]) rfl rfl ?_
  refine qa_bk_do (pc' := 32) rfl rfl ?_
  refine qa_bk_gr rfl rfl qa_dx_0_1 rfl ?_
  refine qa_bk_gr rfl rfl (qa_ds0 qa_rg_1) rfl ?_
  refine qa_bk_do (pc' := 39) rfl rfl ?_
  refine qa_bk_pf rfl rfl (qa_ds14 qa_rg_1) rfl (qa_fiti _) rfl ?_
  refine qa_bk_do (pc' := 43) rfl rfl ?_
  refine qa_bk_gr rfl rfl qa_dx_0_1 rfl ?_
  obtain ⟨c6, hc7, h⟩ := Option.bind_eq_some_iff.mp h
  refine qa_bk_cv (qa_tX1_beginLoading qa_rg_1 hc7) rfl rfl rfl rfl rfl rfl rfl (qa_ds0 qa_rg_1) ?_
  refine qa_bk_do (pc' := 50) rfl rfl ?_
  cases h
  exact qa_bk_ri rfl rfl
noncomputable def qa_fX9_changeGlow (a1 : Int32) (σ : qa_T) : Option ((Int32 ⊕ Nat) × qa_T) :=
    if (qa_bi (qa_fX9_isWithin a1 (Int32.ofInt 0) ((Int8.ofInt 20).toInt32) σ)) = 0 then
      some (.inr 342, σ)
    else
    (qa_fX5_push 1 σ).bind fun c2 =>
    let v4 : Int32 := (c2.1 (1, 14) 3)
    let σ5 := qa_wi c2 (1, 14) 3 a1
    (qa_fX1_beginLoading 1 σ5).bind fun c6 =>
    some (.inl v4, c6)
set_option maxRecDepth 100000 in
theorem qa_tX9_changeGlow {L : Nat} {a1 : Int32}  {σ : qa_T} {r : ((Int32 ⊕ Nat) × qa_T)} (h : qa_fX9_changeGlow a1 σ = some r) : qa_Bk (qa_ds L) qa_mX9_changeGlow 0 (qa_ag 0 [.inl (0, 1), .inr (.int a1)]) [] σ (qa_ri r.1) r.2 := by
  unfold qa_fX9_changeGlow at h
  try dsimp only at h
  show qa_Bk (qa_ds L) qa_mX9_changeGlow 0 [(0, .inl (0, 1)), (1, .inr (.int a1))] [] σ _ _
  refine qa_bk_do (pc' := 1) rfl rfl ?_
  refine qa_bk_do (pc' := 2) rfl rfl ?_
  refine qa_bk_do (pc' := 4) rfl rfl ?_
  refine qa_bk_cs (qa_tX9_isWithin rfl) rfl rfl rfl rfl rfl rfl rfl ?_
  rcases qa_ite h with ⟨hc1, h⟩ | ⟨hc1, h⟩
  · cases h
    exact qa_bk_cx (qa_tX9_needArgument_x hc1) rfl rfl rfl rfl rfl rfl rfl rfl
  refine qa_bk_cs (qa_tX9_needArgument_o hc1) rfl rfl rfl rfl rfl rfl rfl ?_
  refine qa_bk_do (pc' := 11) rfl rfl ?_
  refine qa_bk_gr rfl rfl qa_dx_0_1 rfl ?_
  refine qa_bk_do (pc' := 15) rfl rfl ?_
  refine qa_bk_gr rfl rfl qa_dx_0_1 rfl ?_
  obtain ⟨c2, hc3, h⟩ := Option.bind_eq_some_iff.mp h
  refine qa_bk_cv (qa_tX5_push qa_rg_1 hc3) rfl rfl rfl rfl rfl rfl rfl qa_dx_2_18 ?_
  refine qa_bk_do (pc' := 22) rfl rfl ?_
  refine qa_bk_gr rfl rfl qa_dx_0_1 rfl ?_
  refine qa_bk_gr rfl rfl (qa_ds0 qa_rg_1) rfl ?_
  refine qa_bk_gi rfl rfl (qa_ds14 qa_rg_1) rfl ?_
  refine qa_bk_do (pc' := 32) (lv' := [(2, _), (0, _), (1, _)]) rfl rfl ?_
  refine qa_bk_do (pc' := 33) rfl rfl ?_
  refine qa_bk_gr rfl rfl qa_dx_0_1 rfl ?_
  refine qa_bk_gr rfl rfl (qa_ds0 qa_rg_1) rfl ?_
  refine qa_bk_do (pc' := 40) rfl rfl ?_
  refine qa_bk_pf rfl rfl (qa_ds14 qa_rg_1) rfl (qa_fiti _) rfl ?_
  refine qa_bk_do (pc' := 44) rfl rfl ?_
  refine qa_bk_gr rfl rfl qa_dx_0_1 rfl ?_
  obtain ⟨c6, hc7, h⟩ := Option.bind_eq_some_iff.mp h
  refine qa_bk_cv (qa_tX1_beginLoading qa_rg_1 hc7) rfl rfl rfl rfl rfl rfl rfl (qa_ds0 qa_rg_1) ?_
  refine qa_bk_do (pc' := 51) rfl rfl ?_
  cases h
  exact qa_bk_ri rfl rfl
noncomputable def qa_fX9_changePace (a1 : Int32) (σ : qa_T) : Option ((Int32 ⊕ Nat) × qa_T) :=
    if (qa_bi (qa_fX9_isWithin a1 (Int32.ofInt 0) ((Int8.ofInt 50).toInt32) σ)) = 0 then
      some (.inr 342, σ)
    else
    (qa_fX5_push 1 σ).bind fun c2 =>
    let v4 : Int32 := (c2.1 (1, 14) 4)
    let σ5 := qa_wi c2 (1, 14) 4 a1
    (qa_fX1_beginLoading 1 σ5).bind fun c6 =>
    some (.inl v4, c6)
set_option maxRecDepth 100000 in
theorem qa_tX9_changePace {L : Nat} {a1 : Int32}  {σ : qa_T} {r : ((Int32 ⊕ Nat) × qa_T)} (h : qa_fX9_changePace a1 σ = some r) : qa_Bk (qa_ds L) qa_mX9_changePace 0 (qa_ag 0 [.inl (0, 1), .inr (.int a1)]) [] σ (qa_ri r.1) r.2 := by
  unfold qa_fX9_changePace at h
  try dsimp only at h
  show qa_Bk (qa_ds L) qa_mX9_changePace 0 [(0, .inl (0, 1)), (1, .inr (.int a1))] [] σ _ _
  refine qa_bk_do (pc' := 1) rfl rfl ?_
  refine qa_bk_do (pc' := 2) rfl rfl ?_
  refine qa_bk_do (pc' := 4) rfl rfl ?_
  refine qa_bk_cs (qa_tX9_isWithin rfl) rfl rfl rfl rfl rfl rfl rfl ?_
  rcases qa_ite h with ⟨hc1, h⟩ | ⟨hc1, h⟩
  · cases h
    exact qa_bk_cx (qa_tX9_needArgument_x hc1) rfl rfl rfl rfl rfl rfl rfl rfl
  refine qa_bk_cs (qa_tX9_needArgument_o hc1) rfl rfl rfl rfl rfl rfl rfl ?_
  refine qa_bk_do (pc' := 11) rfl rfl ?_
  refine qa_bk_gr rfl rfl qa_dx_0_1 rfl ?_
  refine qa_bk_do (pc' := 15) rfl rfl ?_
  refine qa_bk_gr rfl rfl qa_dx_0_1 rfl ?_
  obtain ⟨c2, hc3, h⟩ := Option.bind_eq_some_iff.mp h
  refine qa_bk_cv (qa_tX5_push qa_rg_1 hc3) rfl rfl rfl rfl rfl rfl rfl qa_dx_2_18 ?_
  refine qa_bk_do (pc' := 22) rfl rfl ?_
  refine qa_bk_gr rfl rfl qa_dx_0_1 rfl ?_
  refine qa_bk_gr rfl rfl (qa_ds0 qa_rg_1) rfl ?_
  refine qa_bk_gi rfl rfl (qa_ds14 qa_rg_1) rfl ?_
  refine qa_bk_do (pc' := 32) (lv' := [(2, _), (0, _), (1, _)]) rfl rfl ?_
  refine qa_bk_do (pc' := 33) rfl rfl ?_
  refine qa_bk_gr rfl rfl qa_dx_0_1 rfl ?_
  refine qa_bk_gr rfl rfl (qa_ds0 qa_rg_1) rfl ?_
  refine qa_bk_do (pc' := 40) rfl rfl ?_
  refine qa_bk_pf rfl rfl (qa_ds14 qa_rg_1) rfl (qa_fiti _) rfl ?_
  refine qa_bk_do (pc' := 44) rfl rfl ?_
  refine qa_bk_gr rfl rfl qa_dx_0_1 rfl ?_
  obtain ⟨c6, hc7, h⟩ := Option.bind_eq_some_iff.mp h
  refine qa_bk_cv (qa_tX1_beginLoading qa_rg_1 hc7) rfl rfl rfl rfl rfl rfl rfl (qa_ds0 qa_rg_1) ?_
  refine qa_bk_do (pc' := 51) rfl rfl ?_
  cases h
  exact qa_bk_ri rfl rfl
noncomputable def qa_fX9_append_28 (a1 : Int32) (y0 : Int32) (σ : qa_T) : ((Int32 ⊕ Nat) × qa_T) :=
    if y0 = 0 then
      (.inr 348, σ)
    else
    let σ4 := qa_fX8_add a1 σ
    (.inl (σ4.1 (10, 19) 0), σ4)
noncomputable def qa_fX9_append (a1 : Int32) (σ : qa_T) : ((Int32 ⊕ Nat) × qa_T) :=
    if (qa_bi (qa_fX9_isWithin a1 ((Int8.ofInt 33).toInt32) ((Int8.ofInt 126).toInt32) σ)) = 0 then
      (.inr 342, σ)
    else
    if ((Int8.ofInt 60).toInt32) ≤ (σ.1 (10, 19) 0) then
      qa_fX9_append_28 a1 (Int32.ofInt 0) σ
    else
      qa_fX9_append_28 a1 (Int32.ofInt 1) σ
set_option maxRecDepth 100000 in
theorem qa_tX9_append_28 {L : Nat} {a1 : Int32}  {y0 : Int32} {σ : qa_T} {r : ((Int32 ⊕ Nat) × qa_T)} (h : qa_fX9_append_28 a1 y0 σ = r) : qa_Bk (qa_ds L) qa_mX9_append 28 [(0, .inl (0, 1)), (1, .inr (.int a1))] [.inr (.int y0)] σ (qa_ri r.1) r.2 := by
  unfold qa_fX9_append_28 at h
  try dsimp only at h
  rcases qa_ite h with ⟨hc3, h⟩ | ⟨hc3, h⟩
  · subst h
    exact qa_bk_cx (qa_tX9_needState_x hc3) rfl rfl rfl rfl rfl rfl rfl rfl
  refine qa_bk_cs (qa_tX9_needState_o hc3) rfl rfl rfl rfl rfl rfl rfl ?_
  refine qa_bk_do (pc' := 32) rfl rfl ?_
  refine qa_bk_gr rfl rfl qa_dx_0_1 rfl ?_
  refine qa_bk_do (pc' := 36) rfl rfl ?_
  refine qa_bk_cv (qa_tX8_add rfl) rfl rfl rfl rfl rfl rfl rfl qa_dx_10_19 ?_
  refine qa_bk_do (pc' := 40) rfl rfl ?_
  refine qa_bk_gr rfl rfl qa_dx_0_1 rfl ?_
  refine qa_bk_gi rfl rfl qa_dx_10_19 rfl ?_
  subst h
  exact qa_bk_ri rfl rfl
set_option maxRecDepth 100000 in
theorem qa_tX9_append {L : Nat} {a1 : Int32}  {σ : qa_T} {r : ((Int32 ⊕ Nat) × qa_T)} (h : qa_fX9_append a1 σ = r) : qa_Bk (qa_ds L) qa_mX9_append 0 (qa_ag 0 [.inl (0, 1), .inr (.int a1)]) [] σ (qa_ri r.1) r.2 := by
  unfold qa_fX9_append at h
  try dsimp only at h
  show qa_Bk (qa_ds L) qa_mX9_append 0 [(0, .inl (0, 1)), (1, .inr (.int a1))] [] σ _ _
  refine qa_bk_do (pc' := 1) rfl rfl ?_
  refine qa_bk_do (pc' := 3) rfl rfl ?_
  refine qa_bk_do (pc' := 5) rfl rfl ?_
  refine qa_bk_cs (qa_tX9_isWithin rfl) rfl rfl rfl rfl rfl rfl rfl ?_
  rcases qa_ite h with ⟨hc1, h⟩ | ⟨hc1, h⟩
  · subst h
    exact qa_bk_cx (qa_tX9_needArgument_x hc1) rfl rfl rfl rfl rfl rfl rfl rfl
  refine qa_bk_cs (qa_tX9_needArgument_o hc1) rfl rfl rfl rfl rfl rfl rfl ?_
  refine qa_bk_do (pc' := 12) rfl rfl ?_
  refine qa_bk_gr rfl rfl qa_dx_0_1 rfl ?_
  refine qa_bk_gi rfl rfl qa_dx_10_19 rfl ?_
  refine qa_bk_do (pc' := 20) rfl rfl ?_
  rcases qa_ite h with ⟨hc2, h⟩ | ⟨hc2, h⟩
  · refine qa_bk_1t (a := 27) (b := 23) hc2 rfl rfl ?_
    refine qa_bk_do (pc' := 28) rfl rfl ?_
    exact qa_bk_lw (qa_tX9_append_28  h) rfl rfl (And.intro rfl (And.intro rfl (trivial)))
  · refine qa_bk_1f (a := 27) (b := 23) hc2 rfl rfl ?_
    refine qa_bk_do (pc' := 24) rfl rfl ?_
    refine qa_bk_do (pc' := 28) rfl rfl ?_
    exact qa_bk_lw (qa_tX9_append_28  h) rfl rfl (And.intro rfl (And.intro rfl (trivial)))
noncomputable def qa_fX9_clearBuffer  (σ : qa_T) : (Int32 × qa_T) :=
    let v1 : Int32 := (σ.1 (10, 19) 0)
    let σ2 := qa_wi σ (10, 19) 0 (Int32.ofInt 0)
    (v1, σ2)
set_option maxRecDepth 100000 in
theorem qa_tX9_clearBuffer {L : Nat}   {σ : qa_T} {r : (Int32 × qa_T)} (h : qa_fX9_clearBuffer  σ = r) : qa_Bk (qa_ds L) qa_mX9_clearBuffer 0 (qa_ag 0 [.inl (0, 1)]) [] σ (.inl (some (.inr (.int r.1)))) r.2 := by
  unfold qa_fX9_clearBuffer at h
  try dsimp only at h
  show qa_Bk (qa_ds L) qa_mX9_clearBuffer 0 [(0, .inl (0, 1))] [] σ _ _
  refine qa_bk_do (pc' := 1) rfl rfl ?_
  refine qa_bk_gr rfl rfl qa_dx_0_1 rfl ?_
  refine qa_bk_gi rfl rfl qa_dx_10_19 rfl ?_
  refine qa_bk_do (pc' := 8) (lv' := [(1, _), (0, _)]) rfl rfl ?_
  refine qa_bk_do (pc' := 9) rfl rfl ?_
  refine qa_bk_gr rfl rfl qa_dx_0_1 rfl ?_
  refine qa_bk_do (pc' := 13) rfl rfl ?_
  refine qa_bk_pf rfl rfl qa_dx_10_19 rfl (qa_fiti _) rfl ?_
  refine qa_bk_do (pc' := 17) rfl rfl ?_
  subst h
  exact qa_bk_ri rfl rfl
noncomputable def qa_fX9_firstError  (σ : qa_T) : Option (Int32 × qa_T) :=
    (qa_fX8_readToError σ).bind fun c1 =>
    some (c1.1, c1.2)
set_option maxRecDepth 100000 in
theorem qa_tX9_firstError {L : Nat}   {σ : qa_T} {r : (Int32 × qa_T)} (h : qa_fX9_firstError  σ = some r) : qa_Bk (qa_ds L) qa_mX9_firstError 0 (qa_ag 0 [.inl (0, 1)]) [] σ (.inl (some (.inr (.int r.1)))) r.2 := by
  unfold qa_fX9_firstError at h
  try dsimp only at h
  show qa_Bk (qa_ds L) qa_mX9_firstError 0 [(0, .inl (0, 1))] [] σ _ _
  refine qa_bk_do (pc' := 1) rfl rfl ?_
  refine qa_bk_gr rfl rfl qa_dx_0_1 rfl ?_
  obtain ⟨c1, hc2, h⟩ := Option.bind_eq_some_iff.mp h
  refine qa_bk_cv (qa_tX8_readToError hc2) rfl rfl rfl rfl rfl rfl rfl qa_dx_10_19 ?_
  cases h
  exact qa_bk_ri rfl rfl
noncomputable def qa_fX9_follow_76  (x1 : Int32) (σ : qa_T) : Option ((Int32 ⊕ Nat) × qa_T) :=
    (qa_fX5_push 1 σ).bind fun c8 =>
    (qa_fX1_copyFrom 1 2 c8).bind fun c10 =>
    let σ12 := qa_wi c10 (10, 19) 0 (Int32.ofInt 0)
    some (.inl x1, σ12)
noncomputable def qa_fX9_follow_30  : Nat → Int32 → qa_T → Option ((Int32 ⊕ Nat) × qa_T)
  | 0, _, _ => none
  | n + 1, x1, σ =>
    if ((Int8.ofInt 60).toInt32) ≤ x1 then
      qa_fX9_follow_76  x1 σ
    else
      (qa_fX8_readPart σ).bind fun c13 =>
      if (qa_bi c13.1) = 0 then
        qa_fX9_follow_76  x1 c13.2
      else
        (qa_fX1_obey 2 (c13.2.1 (10, 19) 2) (c13.2.1 (10, 19) 3) c13.2).bind fun c16 =>
        if (qa_bi c16.1) = 0 then
          some (.inr 348, c16.2)
        else
        let v19 : Int32 := x1 + Int32.ofInt 1
        qa_fX9_follow_30  n v19 c16.2
noncomputable def qa_fX9_follow  (σ : qa_T) : Option ((Int32 ⊕ Nat) × qa_T) :=
    (qa_fX8_tellsOrders σ).bind fun c1 =>
    if (qa_bi c1.1) = 0 then
      some (.inr 342, c1.2)
    else
    (qa_fX1_copyFrom 2 1 c1.2).bind fun c4 =>
    let σ6 := qa_fX8_startReading c4
    qa_fX9_follow_30  qa_fu (Int32.ofInt 0) σ6
set_option maxRecDepth 100000 in
theorem qa_tX9_follow_76 {L : Nat}   {x1 : Int32} {σ : qa_T} {r : ((Int32 ⊕ Nat) × qa_T)} (h : qa_fX9_follow_76  x1 σ = some r) : qa_Bk (qa_ds L) qa_mX9_follow 76 [(0, .inl (0, 1)), (1, .inr (.int x1))] [] σ (qa_ri r.1) r.2 := by
  unfold qa_fX9_follow_76 at h
  try dsimp only at h
  refine qa_bk_do (pc' := 77) rfl rfl ?_
  refine qa_bk_gr rfl rfl qa_dx_0_1 rfl ?_
  refine qa_bk_do (pc' := 81) rfl rfl ?_
  refine qa_bk_gr rfl rfl qa_dx_0_1 rfl ?_
  obtain ⟨c8, hc9, h⟩ := Option.bind_eq_some_iff.mp h
  refine qa_bk_cv (qa_tX5_push qa_rg_1 hc9) rfl rfl rfl rfl rfl rfl rfl qa_dx_2_18 ?_
  refine qa_bk_do (pc' := 88) rfl rfl ?_
  refine qa_bk_gr rfl rfl qa_dx_0_1 rfl ?_
  refine qa_bk_do (pc' := 92) rfl rfl ?_
  refine qa_bk_gr rfl rfl qa_dx_0_1 rfl ?_
  obtain ⟨c10, hc11, h⟩ := Option.bind_eq_some_iff.mp h
  refine qa_bk_cv (qa_tX1_copyFrom qa_rg_1 qa_rg_2 hc11) rfl rfl rfl rfl rfl rfl rfl (qa_ds0 qa_rg_1) ?_
  refine qa_bk_do (pc' := 99) rfl rfl ?_
  refine qa_bk_gr rfl rfl qa_dx_0_1 rfl ?_
  refine qa_bk_do (pc' := 103) rfl rfl ?_
  refine qa_bk_pf rfl rfl qa_dx_10_19 rfl (qa_fiti _) rfl ?_
  refine qa_bk_do (pc' := 107) rfl rfl ?_
  cases h
  exact qa_bk_ri rfl rfl
set_option maxRecDepth 100000 in
theorem qa_tX9_follow_30 {L : Nat}   : ∀ (n : Nat) (x1 : Int32) (σ : qa_T) (r : ((Int32 ⊕ Nat) × qa_T)), qa_fX9_follow_30  n x1 σ = some r → qa_Bk (qa_ds L) qa_mX9_follow 30 [(0, .inl (0, 1)), (1, .inr (.int x1))] [] σ (qa_ri r.1) r.2 := by
  intro n
  induction n with
  | zero => intro x1 σ r h; cases h
  | succ n ih =>
    intro x1 σ r h
    unfold qa_fX9_follow_30 at h
    try dsimp only at h
    refine qa_bk_do (pc' := 31) rfl rfl ?_
    refine qa_bk_do (pc' := 33) rfl rfl ?_
    rcases qa_ite h with ⟨hc7, h⟩ | ⟨hc7, h⟩
    · refine qa_bk_1t (a := 76) (b := 36) hc7 rfl rfl ?_
      exact qa_bk_lw (qa_tX9_follow_76  h) rfl rfl (And.intro rfl (And.intro rfl (trivial)))
    · refine qa_bk_1f (a := 76) (b := 36) hc7 rfl rfl ?_
      refine qa_bk_do (pc' := 37) rfl rfl ?_
      refine qa_bk_gr rfl rfl qa_dx_0_1 rfl ?_
      obtain ⟨c13, hc14, h⟩ := Option.bind_eq_some_iff.mp h
      refine qa_bk_cv (qa_tX8_readPart hc14) rfl rfl rfl rfl rfl rfl rfl qa_dx_10_19 ?_
      rcases qa_ite h with ⟨hc15, h⟩ | ⟨hc15, h⟩
      · refine qa_bk_1t (a := 76) (b := 46) hc15 rfl rfl ?_
        exact qa_bk_lw (qa_tX9_follow_76  h) rfl rfl (And.intro rfl (And.intro rfl (trivial)))
      · refine qa_bk_1f (a := 76) (b := 46) hc15 rfl rfl ?_
        refine qa_bk_do (pc' := 47) rfl rfl ?_
        refine qa_bk_gr rfl rfl qa_dx_0_1 rfl ?_
        refine qa_bk_do (pc' := 51) rfl rfl ?_
        refine qa_bk_gr rfl rfl qa_dx_0_1 rfl ?_
        refine qa_bk_gi rfl rfl qa_dx_10_19 rfl ?_
        refine qa_bk_do (pc' := 58) rfl rfl ?_
        refine qa_bk_gr rfl rfl qa_dx_0_1 rfl ?_
        refine qa_bk_gi rfl rfl qa_dx_10_19 rfl ?_
        obtain ⟨c16, hc17, h⟩ := Option.bind_eq_some_iff.mp h
        refine qa_bk_cv (qa_tX1_obey qa_rg_2 hc17) rfl rfl rfl rfl rfl rfl rfl (qa_ds0 qa_rg_2) ?_
        rcases qa_ite h with ⟨hc18, h⟩ | ⟨hc18, h⟩
        · cases h
          exact qa_bk_cx (qa_tX9_needState_x hc18) rfl rfl rfl rfl rfl rfl rfl rfl
        refine qa_bk_cs (qa_tX9_needState_o hc18) rfl rfl rfl rfl rfl rfl rfl ?_
        refine qa_bk_do (pc' := 73) (lv' := [(1, _), (0, _)]) rfl rfl ?_
        refine qa_bk_do (pc' := 30) rfl rfl ?_
        exact qa_bk_lw (ih _ _ _ h) rfl rfl (And.intro rfl (And.intro rfl (trivial)))
set_option maxRecDepth 100000 in
theorem qa_tX9_follow {L : Nat}   {σ : qa_T} {r : ((Int32 ⊕ Nat) × qa_T)} (h : qa_fX9_follow  σ = some r) : qa_Bk (qa_ds L) qa_mX9_follow 0 (qa_ag 0 [.inl (0, 1)]) [] σ (qa_ri r.1) r.2 := by
  unfold qa_fX9_follow at h
  try dsimp only at h
  show qa_Bk (qa_ds L) qa_mX9_follow 0 [(0, .inl (0, 1))] [] σ _ _
  refine qa_bk_do (pc' := 1) rfl rfl ?_
  refine qa_bk_gr rfl rfl qa_dx_0_1 rfl ?_
  obtain ⟨c1, hc2, h⟩ := Option.bind_eq_some_iff.mp h
  refine qa_bk_cv (qa_tX8_tellsOrders hc2) rfl rfl rfl rfl rfl rfl rfl qa_dx_10_19 ?_
  rcases qa_ite h with ⟨hc3, h⟩ | ⟨hc3, h⟩
  · cases h
    exact qa_bk_cx (qa_tX9_needArgument_x hc3) rfl rfl rfl rfl rfl rfl rfl rfl
  refine qa_bk_cs (qa_tX9_needArgument_o hc3) rfl rfl rfl rfl rfl rfl rfl ?_
  refine qa_bk_do (pc' := 11) rfl rfl ?_
  refine qa_bk_gr rfl rfl qa_dx_0_1 rfl ?_
  refine qa_bk_do (pc' := 15) rfl rfl ?_
  refine qa_bk_gr rfl rfl qa_dx_0_1 rfl ?_
  obtain ⟨c4, hc5, h⟩ := Option.bind_eq_some_iff.mp h
  refine qa_bk_cv (qa_tX1_copyFrom qa_rg_2 qa_rg_1 hc5) rfl rfl rfl rfl rfl rfl rfl (qa_ds0 qa_rg_2) ?_
  refine qa_bk_do (pc' := 22) rfl rfl ?_
  refine qa_bk_gr rfl rfl qa_dx_0_1 rfl ?_
  refine qa_bk_cv (qa_tX8_startReading rfl) rfl rfl rfl rfl rfl rfl rfl qa_dx_10_19 ?_
  refine qa_bk_do (pc' := 29) rfl rfl ?_
  refine qa_bk_do (pc' := 30) (lv' := [(1, _), (0, _)]) rfl rfl ?_
  exact qa_bk_lw (qa_tX9_follow_30  _ _ _ _ h) rfl rfl (And.intro rfl (And.intro rfl (trivial)))
noncomputable def qa_fX9_keep_60 (a1 : Int32) (σ : qa_T) : Option ((Unit ⊕ Nat) × qa_T) :=
    some (.inl (), σ)
noncomputable def qa_fX9_keep (a1 : Int32) (σ : qa_T) : Option ((Unit ⊕ Nat) × qa_T) :=
    if (qa_bi (qa_fX9_isWithin a1 (Int32.ofInt 0) (Int32.ofInt 1) σ)) = 0 then
      some (.inr 342, σ)
    else
    if a1 < 0 then
      qa_fX9_keep_60 a1 σ
    else
      if Int32.ofNat 2 ≤ a1 then
        qa_fX9_keep_60 a1 σ
      else
        if Int32.ofNat 2 ≤ a1 then
          qa_fX9_keep_60 a1 σ
        else
          (qa_fX1_copyFrom (9 + (a1).toNatClampNeg) 1 σ).bind fun c7 =>
          let σ9 := qa_wi c7 (10, 18) (a1).toNatClampNeg (qa_bi true)
          qa_fX9_keep_60 a1 σ9
set_option maxRecDepth 100000 in
theorem qa_tX9_keep_60 {L : Nat} {a1 : Int32}  {σ : qa_T} {r : ((Unit ⊕ Nat) × qa_T)} (h : qa_fX9_keep_60 a1 σ = some r) : qa_Bk (qa_ds L) qa_mX9_keep 60 [(0, .inl (0, 1)), (1, .inr (.int a1))] [] σ (qa_ru r.1) r.2 := by
  unfold qa_fX9_keep_60 at h
  try dsimp only at h
  cases h
  exact qa_bk_re rfl rfl rfl
set_option maxRecDepth 100000 in
theorem qa_tX9_keep {L : Nat} {a1 : Int32}  {σ : qa_T} {r : ((Unit ⊕ Nat) × qa_T)} (h : qa_fX9_keep a1 σ = some r) : qa_Bk (qa_ds L) qa_mX9_keep 0 (qa_ag 0 [.inl (0, 1), .inr (.int a1)]) [] σ (qa_ru r.1) r.2 := by
  unfold qa_fX9_keep at h
  try dsimp only at h
  show qa_Bk (qa_ds L) qa_mX9_keep 0 [(0, .inl (0, 1)), (1, .inr (.int a1))] [] σ _ _
  refine qa_bk_do (pc' := 1) rfl rfl ?_
  refine qa_bk_do (pc' := 2) rfl rfl ?_
  refine qa_bk_do (pc' := 3) rfl rfl ?_
  refine qa_bk_cs (qa_tX9_isWithin rfl) rfl rfl rfl rfl rfl rfl rfl ?_
  rcases qa_ite h with ⟨hc1, h⟩ | ⟨hc1, h⟩
  · cases h
    exact qa_bk_cx (qa_tX9_needArgument_x hc1) rfl rfl rfl rfl rfl rfl rfl rfl
  refine qa_bk_cs (qa_tX9_needArgument_o hc1) rfl rfl rfl rfl rfl rfl rfl ?_
  refine qa_bk_do (pc' := 10) rfl rfl ?_
  rcases qa_ite h with ⟨hc2, h⟩ | ⟨hc2, h⟩
  · refine qa_bk_1t (a := 60) (b := 13) hc2 rfl rfl ?_
    exact qa_bk_lw (qa_tX9_keep_60  h) rfl rfl (And.intro rfl (And.intro rfl (trivial)))
  · refine qa_bk_1f (a := 60) (b := 13) hc2 rfl rfl ?_
    refine qa_bk_do (pc' := 14) rfl rfl ?_
    refine qa_bk_do (pc' := 15) rfl rfl ?_
    refine qa_bk_gr rfl rfl qa_dx_0_1 rfl ?_
    refine qa_bk_al rfl qa_dx_8_18 (Or.inl (by decide)) ?_
    rcases qa_ite h with ⟨hc3, h⟩ | ⟨hc3, h⟩
    · refine qa_bk_1t (a := 60) (b := 22) hc3 rfl rfl ?_
      exact qa_bk_lw (qa_tX9_keep_60  h) rfl rfl (And.intro rfl (And.intro rfl (trivial)))
    · refine qa_bk_1f (a := 60) (b := 22) hc3 rfl rfl ?_
      refine qa_bk_do (pc' := 23) rfl rfl ?_
      refine qa_bk_do (pc' := 24) rfl rfl ?_
      refine qa_bk_gr rfl rfl qa_dx_0_1 rfl ?_
      refine qa_bk_al rfl qa_dx_10_18 (Or.inl (by decide)) ?_
      rcases qa_ite h with ⟨hc4, h⟩ | ⟨hc4, h⟩
      · refine qa_bk_1t (a := 60) (b := 31) hc4 rfl rfl ?_
        exact qa_bk_lw (qa_tX9_keep_60  h) rfl rfl (And.intro rfl (And.intro rfl (trivial)))
      · refine qa_bk_1f (a := 60) (b := 31) hc4 rfl rfl ?_
        refine qa_bk_do (pc' := 32) rfl rfl ?_
        refine qa_bk_gr rfl rfl qa_dx_0_1 rfl ?_
        refine qa_bk_do (pc' := 36) rfl rfl ?_
        have hi5 := (qa_in_g hc2 hc3 (Nat.le_of_ble_eq_true rfl))
        refine qa_bk_ar rfl qa_dx_8_18 hi5 (qa_rf9 hi5) ?_
        refine qa_bk_do (pc' := 40) rfl rfl ?_
        refine qa_bk_do (pc' := 41) rfl rfl ?_
        refine qa_bk_gr rfl rfl qa_dx_0_1 rfl ?_
        refine qa_bk_do (pc' := 45) rfl rfl ?_
        have hi6 := (qa_in_g hc2 hc3 (Nat.le_of_ble_eq_true rfl))
        refine qa_bk_ar rfl qa_dx_8_18 hi6 (qa_rf9 hi6) ?_
        refine qa_bk_do (pc' := 47) rfl rfl ?_
        refine qa_bk_gr rfl rfl qa_dx_0_1 rfl ?_
        obtain ⟨c7, hc8, h⟩ := Option.bind_eq_some_iff.mp h
        refine qa_bk_cv (qa_tX1_copyFrom (qa_rg9 hi6) qa_rg_1 hc8) rfl rfl rfl rfl rfl rfl rfl (qa_ds0 (qa_rg9 hi6)) ?_
        refine qa_bk_do (pc' := 54) rfl rfl ?_
        refine qa_bk_gr rfl rfl qa_dx_0_1 rfl ?_
        refine qa_bk_do (pc' := 58) rfl rfl ?_
        refine qa_bk_do (pc' := 59) rfl rfl ?_
        refine qa_bk_bs (v := qa_bi true) rfl qa_dx_10_18 (qa_in_g hc2 hc3 (Nat.le_of_ble_eq_true rfl)) (qa_bi01 _) ?_
        exact qa_bk_lw (qa_tX9_keep_60  h) rfl rfl (And.intro rfl (And.intro rfl (trivial)))
noncomputable def qa_fX9_hasSnapshot_26 (a1 : Int32) (σ : qa_T) : Bool :=
    false
noncomputable def qa_fX9_hasSnapshot (a1 : Int32) (σ : qa_T) : Bool :=
    if a1 < 0 then
      qa_fX9_hasSnapshot_26 a1 σ
    else
      if Int32.ofNat 2 ≤ a1 then
        qa_fX9_hasSnapshot_26 a1 σ
      else
        if (σ.1 (10, 18) (a1).toNatClampNeg) = 0 then
          qa_fX9_hasSnapshot_26 a1 σ
        else
          true
set_option maxRecDepth 100000 in
theorem qa_tX9_hasSnapshot_26 {L : Nat} {a1 : Int32}  {σ : qa_T} {r : Bool} (h : qa_fX9_hasSnapshot_26 a1 σ = r) : qa_Bk (qa_ds L) qa_mX9_hasSnapshot 26 [(0, .inl (0, 1)), (1, .inr (.int a1))] [] σ (.inl (some (.inr (.int (qa_bi r))))) σ := by
  unfold qa_fX9_hasSnapshot_26 at h
  try dsimp only at h
  refine qa_bk_do (pc' := 27) rfl rfl ?_
  subst h
  exact qa_bk_rb rfl rfl rfl
set_option maxRecDepth 100000 in
theorem qa_tX9_hasSnapshot {L : Nat} {a1 : Int32}  {σ : qa_T} {r : Bool} (h : qa_fX9_hasSnapshot a1 σ = r) : qa_Bk (qa_ds L) qa_mX9_hasSnapshot 0 (qa_ag 0 [.inl (0, 1), .inr (.int a1)]) [] σ (.inl (some (.inr (.int (qa_bi r))))) σ := by
  unfold qa_fX9_hasSnapshot at h
  try dsimp only at h
  show qa_Bk (qa_ds L) qa_mX9_hasSnapshot 0 [(0, .inl (0, 1)), (1, .inr (.int a1))] [] σ _ _
  refine qa_bk_do (pc' := 1) rfl rfl ?_
  rcases qa_ite h with ⟨hc1, h⟩ | ⟨hc1, h⟩
  · refine qa_bk_1t (a := 26) (b := 4) hc1 rfl rfl ?_
    exact qa_bk_lw (qa_tX9_hasSnapshot_26  h) rfl rfl (And.intro rfl (And.intro rfl (trivial)))
  · refine qa_bk_1f (a := 26) (b := 4) hc1 rfl rfl ?_
    refine qa_bk_do (pc' := 5) rfl rfl ?_
    refine qa_bk_do (pc' := 6) rfl rfl ?_
    refine qa_bk_gr rfl rfl qa_dx_0_1 rfl ?_
    refine qa_bk_al rfl qa_dx_10_18 (Or.inl (by decide)) ?_
    rcases qa_ite h with ⟨hc2, h⟩ | ⟨hc2, h⟩
    · refine qa_bk_1t (a := 26) (b := 13) hc2 rfl rfl ?_
      exact qa_bk_lw (qa_tX9_hasSnapshot_26  h) rfl rfl (And.intro rfl (And.intro rfl (trivial)))
    · refine qa_bk_1f (a := 26) (b := 13) hc2 rfl rfl ?_
      refine qa_bk_do (pc' := 14) rfl rfl ?_
      refine qa_bk_gr rfl rfl qa_dx_0_1 rfl ?_
      refine qa_bk_do (pc' := 18) rfl rfl ?_
      refine qa_bk_ba rfl qa_dx_10_18 (qa_in_g hc1 hc2 (Nat.le_of_ble_eq_true rfl)) ?_
      rcases qa_ite h with ⟨hc3, h⟩ | ⟨hc3, h⟩
      · refine qa_bk_1t (a := 26) (b := 22) hc3 rfl rfl ?_
        exact qa_bk_lw (qa_tX9_hasSnapshot_26  h) rfl rfl (And.intro rfl (And.intro rfl (trivial)))
      · refine qa_bk_1f (a := 26) (b := 22) hc3 rfl rfl ?_
        refine qa_bk_do (pc' := 23) rfl rfl ?_
        refine qa_bk_do (pc' := 27) rfl rfl ?_
        subst h
        exact qa_bk_rb rfl rfl rfl
noncomputable def qa_fX9_goBack_63 (a1 : Int32) (σ : qa_T) : Option ((Unit ⊕ Nat) × qa_T) :=
    some (.inl (), σ)
noncomputable def qa_fX9_goBack (a1 : Int32) (σ : qa_T) : Option ((Unit ⊕ Nat) × qa_T) :=
    if (qa_bi (qa_fX9_isWithin a1 (Int32.ofInt 0) (Int32.ofInt 1) σ)) = 0 then
      some (.inr 342, σ)
    else
    if (qa_bi (qa_fX9_hasSnapshot a1 σ)) = 0 then
      some (.inr 348, σ)
    else
    (qa_fX5_push 1 σ).bind fun c3 =>
    if a1 < 0 then
      qa_fX9_goBack_63 a1 c3
    else
      if Int32.ofNat 2 ≤ a1 then
        qa_fX9_goBack_63 a1 c3
      else
        (qa_fX1_copyFrom 1 (9 + (a1).toNatClampNeg) c3).bind fun c9 =>
        qa_fX9_goBack_63 a1 c9
set_option maxRecDepth 100000 in
theorem qa_tX9_goBack_63 {L : Nat} {a1 : Int32}  {σ : qa_T} {r : ((Unit ⊕ Nat) × qa_T)} (h : qa_fX9_goBack_63 a1 σ = some r) : qa_Bk (qa_ds L) qa_mX9_goBack 63 [(0, .inl (0, 1)), (1, .inr (.int a1))] [] σ (qa_ru r.1) r.2 := by
  unfold qa_fX9_goBack_63 at h
  try dsimp only at h
  cases h
  exact qa_bk_re rfl rfl rfl
set_option maxRecDepth 100000 in
theorem qa_tX9_goBack {L : Nat} {a1 : Int32}  {σ : qa_T} {r : ((Unit ⊕ Nat) × qa_T)} (h : qa_fX9_goBack a1 σ = some r) : qa_Bk (qa_ds L) qa_mX9_goBack 0 (qa_ag 0 [.inl (0, 1), .inr (.int a1)]) [] σ (qa_ru r.1) r.2 := by
  unfold qa_fX9_goBack at h
  try dsimp only at h
  show qa_Bk (qa_ds L) qa_mX9_goBack 0 [(0, .inl (0, 1)), (1, .inr (.int a1))] [] σ _ _
  refine qa_bk_do (pc' := 1) rfl rfl ?_
  refine qa_bk_do (pc' := 2) rfl rfl ?_
  refine qa_bk_do (pc' := 3) rfl rfl ?_
  refine qa_bk_cs (qa_tX9_isWithin rfl) rfl rfl rfl rfl rfl rfl rfl ?_
  rcases qa_ite h with ⟨hc1, h⟩ | ⟨hc1, h⟩
  · cases h
    exact qa_bk_cx (qa_tX9_needArgument_x hc1) rfl rfl rfl rfl rfl rfl rfl rfl
  refine qa_bk_cs (qa_tX9_needArgument_o hc1) rfl rfl rfl rfl rfl rfl rfl ?_
  refine qa_bk_do (pc' := 10) rfl rfl ?_
  refine qa_bk_do (pc' := 11) rfl rfl ?_
  refine qa_bk_cv (qa_tX9_hasSnapshot rfl) rfl rfl rfl rfl rfl rfl rfl qa_dx_0_1 ?_
  rcases qa_ite h with ⟨hc2, h⟩ | ⟨hc2, h⟩
  · cases h
    exact qa_bk_cx (qa_tX9_needState_x hc2) rfl rfl rfl rfl rfl rfl rfl rfl
  refine qa_bk_cs (qa_tX9_needState_o hc2) rfl rfl rfl rfl rfl rfl rfl ?_
  refine qa_bk_do (pc' := 18) rfl rfl ?_
  refine qa_bk_gr rfl rfl qa_dx_0_1 rfl ?_
  refine qa_bk_do (pc' := 22) rfl rfl ?_
  refine qa_bk_gr rfl rfl qa_dx_0_1 rfl ?_
  obtain ⟨c3, hc4, h⟩ := Option.bind_eq_some_iff.mp h
  refine qa_bk_cv (qa_tX5_push qa_rg_1 hc4) rfl rfl rfl rfl rfl rfl rfl qa_dx_2_18 ?_
  refine qa_bk_do (pc' := 29) rfl rfl ?_
  rcases qa_ite h with ⟨hc5, h⟩ | ⟨hc5, h⟩
  · refine qa_bk_1t (a := 63) (b := 32) hc5 rfl rfl ?_
    exact qa_bk_lw (qa_tX9_goBack_63  h) rfl rfl (And.intro rfl (And.intro rfl (trivial)))
  · refine qa_bk_1f (a := 63) (b := 32) hc5 rfl rfl ?_
    refine qa_bk_do (pc' := 33) rfl rfl ?_
    refine qa_bk_do (pc' := 34) rfl rfl ?_
    refine qa_bk_gr rfl rfl qa_dx_0_1 rfl ?_
    refine qa_bk_al rfl qa_dx_8_18 (Or.inl (by decide)) ?_
    rcases qa_ite h with ⟨hc6, h⟩ | ⟨hc6, h⟩
    · refine qa_bk_1t (a := 63) (b := 41) hc6 rfl rfl ?_
      exact qa_bk_lw (qa_tX9_goBack_63  h) rfl rfl (And.intro rfl (And.intro rfl (trivial)))
    · refine qa_bk_1f (a := 63) (b := 41) hc6 rfl rfl ?_
      refine qa_bk_do (pc' := 42) rfl rfl ?_
      refine qa_bk_gr rfl rfl qa_dx_0_1 rfl ?_
      refine qa_bk_do (pc' := 46) rfl rfl ?_
      have hi7 := (qa_in_g hc5 hc6 (Nat.le_of_ble_eq_true rfl))
      refine qa_bk_ar rfl qa_dx_8_18 hi7 (qa_rf9 hi7) ?_
      refine qa_bk_do (pc' := 50) rfl rfl ?_
      refine qa_bk_do (pc' := 51) rfl rfl ?_
      refine qa_bk_gr rfl rfl qa_dx_0_1 rfl ?_
      refine qa_bk_do (pc' := 55) rfl rfl ?_
      refine qa_bk_gr rfl rfl qa_dx_0_1 rfl ?_
      refine qa_bk_do (pc' := 59) rfl rfl ?_
      have hi8 := (qa_in_g hc5 hc6 (Nat.le_of_ble_eq_true rfl))
      refine qa_bk_ar rfl qa_dx_8_18 hi8 (qa_rf9 hi8) ?_
      obtain ⟨c9, hc10, h⟩ := Option.bind_eq_some_iff.mp h
      refine qa_bk_cv (qa_tX1_copyFrom qa_rg_1 (qa_rg9 hi8) hc10) rfl rfl rfl rfl rfl rfl rfl (qa_ds0 qa_rg_1) ?_
      exact qa_bk_lw (qa_tX9_goBack_63  h) rfl rfl (And.intro rfl (And.intro rfl (trivial)))
noncomputable def qa_fX9_undo_15  (y0 : Int32) (σ : qa_T) : Option ((Unit ⊕ Nat) × qa_T) :=
    if y0 = 0 then
      some (.inr 348, σ)
    else
    (qa_fX5_popInto 1 σ).bind fun c3 =>
    some (.inl (), c3)
noncomputable def qa_fX9_undo  (σ : qa_T) : Option ((Unit ⊕ Nat) × qa_T) :=
    if (σ.1 (2, 18) 1) ≤ 0 then
      qa_fX9_undo_15  (Int32.ofInt 0) σ
    else
      qa_fX9_undo_15  (Int32.ofInt 1) σ
set_option maxRecDepth 100000 in
theorem qa_tX9_undo_15 {L : Nat}   {y0 : Int32} {σ : qa_T} {r : ((Unit ⊕ Nat) × qa_T)} (h : qa_fX9_undo_15  y0 σ = some r) : qa_Bk (qa_ds L) qa_mX9_undo 15 [(0, .inl (0, 1))] [.inr (.int y0)] σ (qa_ru r.1) r.2 := by
  unfold qa_fX9_undo_15 at h
  try dsimp only at h
  rcases qa_ite h with ⟨hc2, h⟩ | ⟨hc2, h⟩
  · cases h
    exact qa_bk_cx (qa_tX9_needState_x hc2) rfl rfl rfl rfl rfl rfl rfl rfl
  refine qa_bk_cs (qa_tX9_needState_o hc2) rfl rfl rfl rfl rfl rfl rfl ?_
  refine qa_bk_do (pc' := 19) rfl rfl ?_
  refine qa_bk_gr rfl rfl qa_dx_0_1 rfl ?_
  refine qa_bk_do (pc' := 23) rfl rfl ?_
  refine qa_bk_gr rfl rfl qa_dx_0_1 rfl ?_
  obtain ⟨c3, hc4, h⟩ := Option.bind_eq_some_iff.mp h
  refine qa_bk_cv (qa_tX5_popInto qa_rg_1 hc4) rfl rfl rfl rfl rfl rfl rfl qa_dx_2_18 ?_
  cases h
  exact qa_bk_re rfl rfl rfl
set_option maxRecDepth 100000 in
theorem qa_tX9_undo {L : Nat}   {σ : qa_T} {r : ((Unit ⊕ Nat) × qa_T)} (h : qa_fX9_undo  σ = some r) : qa_Bk (qa_ds L) qa_mX9_undo 0 (qa_ag 0 [.inl (0, 1)]) [] σ (qa_ru r.1) r.2 := by
  unfold qa_fX9_undo at h
  try dsimp only at h
  show qa_Bk (qa_ds L) qa_mX9_undo 0 [(0, .inl (0, 1))] [] σ _ _
  refine qa_bk_do (pc' := 1) rfl rfl ?_
  refine qa_bk_gr rfl rfl qa_dx_0_1 rfl ?_
  refine qa_bk_gi rfl rfl qa_dx_2_18 rfl ?_
  rcases qa_ite h with ⟨hc1, h⟩ | ⟨hc1, h⟩
  · refine qa_bk_1t (a := 14) (b := 10) hc1 rfl rfl ?_
    refine qa_bk_do (pc' := 15) rfl rfl ?_
    exact qa_bk_lw (qa_tX9_undo_15  h) rfl rfl (And.intro rfl (trivial))
  · refine qa_bk_1f (a := 14) (b := 10) hc1 rfl rfl ?_
    refine qa_bk_do (pc' := 11) rfl rfl ?_
    refine qa_bk_do (pc' := 15) rfl rfl ?_
    exact qa_bk_lw (qa_tX9_undo_15  h) rfl rfl (And.intro rfl (trivial))
noncomputable def qa_fX9_savedStates  (σ : qa_T) : Int32 :=
    (σ.1 (2, 18) 1)
set_option maxRecDepth 100000 in
theorem qa_tX9_savedStates {L : Nat}   {σ : qa_T} {r : Int32} (h : qa_fX9_savedStates  σ = r) : qa_Bk (qa_ds L) qa_mX9_savedStates 0 (qa_ag 0 [.inl (0, 1)]) [] σ (.inl (some (.inr (.int r)))) σ := by
  unfold qa_fX9_savedStates at h
  try dsimp only at h
  show qa_Bk (qa_ds L) qa_mX9_savedStates 0 [(0, .inl (0, 1))] [] σ _ _
  refine qa_bk_do (pc' := 1) rfl rfl ?_
  refine qa_bk_gr rfl rfl qa_dx_0_1 rfl ?_
  refine qa_bk_gi rfl rfl qa_dx_2_18 rfl ?_
  subst h
  exact qa_bk_ri rfl rfl
noncomputable def qa_fX9_slides  (σ : qa_T) : Int32 :=
    (σ.1 (1, 1) 0)
set_option maxRecDepth 100000 in
theorem qa_tX9_slides {L : Nat}   {σ : qa_T} {r : Int32} (h : qa_fX9_slides  σ = r) : qa_Bk (qa_ds L) qa_mX9_slides 0 (qa_ag 0 [.inl (0, 1)]) [] σ (.inl (some (.inr (.int r)))) σ := by
  unfold qa_fX9_slides at h
  try dsimp only at h
  show qa_Bk (qa_ds L) qa_mX9_slides 0 [(0, .inl (0, 1))] [] σ _ _
  refine qa_bk_do (pc' := 1) rfl rfl ?_
  refine qa_bk_gr rfl rfl qa_dx_0_1 rfl ?_
  refine qa_bk_gr rfl rfl (qa_ds0 qa_rg_1) rfl ?_
  refine qa_bk_gi rfl rfl (qa_ds1 qa_rg_1) rfl ?_
  subst h
  exact qa_bk_ri rfl rfl
noncomputable def qa_fX9_costOf (a1 : Int32) (σ : qa_T) : ((Int32 ⊕ Nat) × qa_T) :=
    if (qa_bi (qa_fX6_has 1 a1 σ)) = 0 then
      (.inr 345, σ)
    else
    (.inl (qa_fX9_at (1, 2) 16 a1 σ), σ)
set_option maxRecDepth 100000 in
theorem qa_tX9_costOf {L : Nat} {a1 : Int32}  {σ : qa_T} {r : ((Int32 ⊕ Nat) × qa_T)} (h : qa_fX9_costOf a1 σ = r) : qa_Bk (qa_ds L) qa_mX9_costOf 0 (qa_ag 0 [.inl (0, 1), .inr (.int a1)]) [] σ (qa_ri r.1) r.2 := by
  unfold qa_fX9_costOf at h
  try dsimp only at h
  show qa_Bk (qa_ds L) qa_mX9_costOf 0 [(0, .inl (0, 1)), (1, .inr (.int a1))] [] σ _ _
  refine qa_bk_do (pc' := 1) rfl rfl ?_
  refine qa_bk_gr rfl rfl qa_dx_0_1 rfl ?_
  refine qa_bk_gr rfl rfl (qa_ds0 qa_rg_1) rfl ?_
  refine qa_bk_do (pc' := 8) rfl rfl ?_
  refine qa_bk_cv (qa_tX6_has qa_rg_1 rfl) rfl rfl rfl rfl rfl rfl rfl (qa_ds1 qa_rg_1) ?_
  rcases qa_ite h with ⟨hc1, h⟩ | ⟨hc1, h⟩
  · subst h
    exact qa_bk_cx (qa_tX9_needIndex_x hc1) rfl rfl rfl rfl rfl rfl rfl rfl
  refine qa_bk_cs (qa_tX9_needIndex_o hc1) rfl rfl rfl rfl rfl rfl rfl ?_
  refine qa_bk_do (pc' := 15) rfl rfl ?_
  refine qa_bk_gr rfl rfl qa_dx_0_1 rfl ?_
  refine qa_bk_gr rfl rfl (qa_ds0 qa_rg_1) rfl ?_
  refine qa_bk_gr rfl rfl (qa_ds1 qa_rg_1) rfl ?_
  refine qa_bk_do (pc' := 25) rfl rfl ?_
  refine qa_bk_cs (qa_tX9_at (qa_ds2 qa_rg_1) (Nat.le_of_ble_eq_true rfl) rfl) rfl rfl rfl rfl rfl rfl rfl ?_
  subst h
  exact qa_bk_ri rfl rfl
