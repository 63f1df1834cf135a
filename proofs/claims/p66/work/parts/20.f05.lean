/-! the methods as functions (written by wip/tools/gen.py) -/
noncomputable def qa_fX9_burn (a1 : Int32) (σ : qa_T) : Option ((Int32 ⊕ Nat) × qa_T) :=
    if (qa_bi (qa_fX6_has 1 a1 σ)) = 0 then
      some (.inr 345, σ)
    else
    if (qa_bi (qa_fX1_mayBurn 1 a1 σ)) = 0 then
      some (.inr 348, σ)
    else
    (qa_fX5_push 1 σ).bind fun c3 =>
    let σ5 := qa_fX1_putOnFire 1 a1 c3
    (qa_fX1_beginLoading 1 σ5).bind fun c6 =>
    some (.inl (qa_fX9_at (1, 2) 16 a1 c6), c6)
set_option maxRecDepth 100000 in
theorem qa_tX9_burn {L : Nat} {a1 : Int32}  {σ : qa_T} {r : ((Int32 ⊕ Nat) × qa_T)} (h : qa_fX9_burn a1 σ = some r) : qa_Bk (qa_ds L) qa_mX9_burn 0 (qa_ag 0 [.inl (0, 1), .inr (.int a1)]) [] σ (qa_ri r.1) r.2 := by
  unfold qa_fX9_burn at h
  try dsimp only at h
  show qa_Bk (qa_ds L) qa_mX9_burn 0 [(0, .inl (0, 1)), (1, .inr (.int a1))] [] σ _ _
  refine qa_bk_do (pc' := 1) rfl rfl ?_
  refine qa_bk_gr rfl rfl qa_dx_0_1 rfl ?_
  refine qa_bk_gr rfl rfl (qa_ds0 qa_rg_1) rfl ?_
  refine qa_bk_do (pc' := 8) rfl rfl ?_
  refine qa_bk_cv (qa_tX6_has qa_rg_1 rfl) rfl rfl rfl rfl rfl rfl rfl (qa_ds1 qa_rg_1) ?_
  rcases qa_ite h with ⟨hc1, h⟩ | ⟨hc1, h⟩
  · cases h
    exact qa_bk_cx (qa_tX9_needIndex_x hc1) rfl rfl rfl rfl rfl rfl rfl rfl
  refine qa_bk_cs (qa_tX9_needIndex_o hc1) rfl rfl rfl rfl rfl rfl rfl ?_
  refine qa_bk_do (pc' := 15) rfl rfl ?_
  refine qa_bk_gr rfl rfl qa_dx_0_1 rfl ?_
  refine qa_bk_do (pc' := 19) rfl rfl ?_
  refine qa_bk_cv (qa_tX1_mayBurn qa_rg_1 rfl) rfl rfl rfl rfl rfl rfl rfl (qa_ds0 qa_rg_1) ?_
  rcases qa_ite h with ⟨hc2, h⟩ | ⟨hc2, h⟩
  · cases h
    exact qa_bk_cx (qa_tX9_needState_x hc2) rfl rfl rfl rfl rfl rfl rfl rfl
  refine qa_bk_cs (qa_tX9_needState_o hc2) rfl rfl rfl rfl rfl rfl rfl ?_
  refine qa_bk_do (pc' := 26) rfl rfl ?_
  refine qa_bk_gr rfl rfl qa_dx_0_1 rfl ?_
  refine qa_bk_do (pc' := 30) rfl rfl ?_
  refine qa_bk_gr rfl rfl qa_dx_0_1 rfl ?_
  obtain ⟨c3, hc4, h⟩ := Option.bind_eq_some_iff.mp h
  refine qa_bk_cv (qa_tX5_push qa_rg_1 hc4) rfl rfl rfl rfl rfl rfl rfl qa_dx_2_18 ?_
  refine qa_bk_do (pc' := 37) rfl rfl ?_
  refine qa_bk_gr rfl rfl qa_dx_0_1 rfl ?_
  refine qa_bk_do (pc' := 41) rfl rfl ?_
  refine qa_bk_cv (qa_tX1_putOnFire qa_rg_1 rfl) rfl rfl rfl rfl rfl rfl rfl (qa_ds0 qa_rg_1) ?_
  refine qa_bk_do (pc' := 45) rfl rfl ?_
  refine qa_bk_gr rfl rfl qa_dx_0_1 rfl ?_
  obtain ⟨c6, hc7, h⟩ := Option.bind_eq_some_iff.mp h
  refine qa_bk_cv (qa_tX1_beginLoading qa_rg_1 hc7) rfl rfl rfl rfl rfl rfl rfl (qa_ds0 qa_rg_1) ?_
  refine qa_bk_do (pc' := 52) rfl rfl ?_
  refine qa_bk_gr rfl rfl qa_dx_0_1 rfl ?_
  refine qa_bk_gr rfl rfl (qa_ds0 qa_rg_1) rfl ?_
  refine qa_bk_gr rfl rfl (qa_ds1 qa_rg_1) rfl ?_
  refine qa_bk_do (pc' := 62) rfl rfl ?_
  refine qa_bk_cs (qa_tX9_at (qa_ds2 qa_rg_1) (Nat.le_of_ble_eq_true rfl) rfl) rfl rfl rfl rfl rfl rfl rfl ?_
  cases h
  exact qa_bk_ri rfl rfl
noncomputable def qa_fX9_tick (a1 : Int32) (σ : qa_T) : Option ((Int32 ⊕ Nat) × qa_T) :=
    if (qa_bi (qa_fX9_isWithin a1 (Int32.ofInt 1) ((Int8.ofInt 100).toInt32) σ)) = 0 then
      some (.inr 342, σ)
    else
    (qa_fX5_push 1 σ).bind fun c2 =>
    (qa_fX1_passTicks 1 a1 c2).bind fun c4 =>
    some (.inl c4.1, c4.2)
set_option maxRecDepth 100000 in
theorem qa_tX9_tick {L : Nat} {a1 : Int32}  {σ : qa_T} {r : ((Int32 ⊕ Nat) × qa_T)} (h : qa_fX9_tick a1 σ = some r) : qa_Bk (qa_ds L) qa_mX9_tick 0 (qa_ag 0 [.inl (0, 1), .inr (.int a1)]) [] σ (qa_ri r.1) r.2 := by
  unfold qa_fX9_tick at h
  try dsimp only at h
  show qa_Bk (qa_ds L) qa_mX9_tick 0 [(0, .inl (0, 1)), (1, .inr (.int a1))] [] σ _ _
  refine qa_bk_do (pc' := 1) rfl rfl ?_
  refine qa_bk_do (pc' := 2) rfl rfl ?_
  refine qa_bk_do (pc' := 4) rfl rfl ?_
  refine qa_bk_cs (qa_tX9_isWithin rfl) rfl rfl rfl rfl rfl rfl rfl ?_
  rcases qa_ite h with ⟨hc1, h⟩ | ⟨hc1, h⟩
  · cases h
    exact qa_bk_cx (qa_tX9_needArgument_x hc1) rfl rfl rfl rfl rfl rfl rfl rfl
  refine qa_bk_cs (qa_tX9_needArgument_o hc1) rfl rfl rfl rfl rfl rfl rfl ?_
  refine qa_bk_do (pc' := 11) rfl rfl ?_
  refine qa_bk_gr rfl rfl qa_dx_0_1 rfl ?_
  refine qa_bk_do (pc' := 15) rfl rfl ?_
  refine qa_bk_gr rfl rfl qa_dx_0_1 rfl ?_
  obtain ⟨c2, hc3, h⟩ := Option.bind_eq_some_iff.mp h
  refine qa_bk_cv (qa_tX5_push qa_rg_1 hc3) rfl rfl rfl rfl rfl rfl rfl qa_dx_2_18 ?_
  refine qa_bk_do (pc' := 22) rfl rfl ?_
  refine qa_bk_gr rfl rfl qa_dx_0_1 rfl ?_
  refine qa_bk_do (pc' := 26) rfl rfl ?_
  obtain ⟨c4, hc5, h⟩ := Option.bind_eq_some_iff.mp h
  refine qa_bk_cv (qa_tX1_passTicks qa_rg_1 hc5) rfl rfl rfl rfl rfl rfl rfl (qa_ds0 qa_rg_1) ?_
  cases h
  exact qa_bk_ri rfl rfl
noncomputable def qa_fX9_changeMemory (a1 : Int32) (σ : qa_T) : Option ((Int32 ⊕ Nat) × qa_T) :=
    if (qa_bi (qa_fX9_isWithin a1 ((Int16.ofInt 150).toInt32) ((Int16.ofInt 400).toInt32) σ)) = 0 then
      some (.inr 342, σ)
    else
    (qa_fX5_push 1 σ).bind fun c2 =>
    let v4 : Int32 := (c2.1 (1, 14) 0)
    let σ5 := qa_wi c2 (1, 14) 0 a1
    (qa_fX1_burnDownTo 1 a1 σ5).bind fun c6 =>
    (qa_fX1_beginLoading 1 c6).bind fun c8 =>
    some (.inl v4, c8)
set_option maxRecDepth 100000 in
theorem qa_tX9_changeMemory {L : Nat} {a1 : Int32}  {σ : qa_T} {r : ((Int32 ⊕ Nat) × qa_T)} (h : qa_fX9_changeMemory a1 σ = some r) : qa_Bk (qa_ds L) qa_mX9_changeMemory 0 (qa_ag 0 [.inl (0, 1), .inr (.int a1)]) [] σ (qa_ri r.1) r.2 := by
  unfold qa_fX9_changeMemory at h
  try dsimp only at h
  show qa_Bk (qa_ds L) qa_mX9_changeMemory 0 [(0, .inl (0, 1)), (1, .inr (.int a1))] [] σ _ _
  refine qa_bk_do (pc' := 1) rfl rfl ?_
  refine qa_bk_do (pc' := 4) rfl rfl ?_
  refine qa_bk_do (pc' := 7) rfl rfl ?_
  refine qa_bk_cs (qa_tX9_isWithin rfl) rfl rfl rfl rfl rfl rfl rfl ?_
  rcases qa_ite h with ⟨hc1, h⟩ | ⟨hc1, h⟩
  · cases h
    exact qa_bk_cx (qa_tX9_needArgument_x hc1) rfl rfl rfl rfl rfl rfl rfl rfl
  refine qa_bk_cs (qa_tX9_needArgument_o hc1) rfl rfl rfl rfl rfl rfl rfl ?_
  refine qa_bk_do (pc' := 14) rfl rfl ?_
  refine qa_bk_gr rfl rfl qa_dx_0_1 rfl ?_
  refine qa_bk_do (pc' := 18) rfl rfl ?_
  refine qa_bk_gr rfl rfl qa_dx_0_1 rfl ?_
  obtain ⟨c2, hc3, h⟩ := Option.bind_eq_some_iff.mp h
  refine qa_bk_cv (qa_tX5_push qa_rg_1 hc3) rfl rfl rfl rfl rfl rfl rfl qa_dx_2_18 ?_
  refine qa_bk_do (pc' := 25) rfl rfl ?_
  refine qa_bk_gr rfl rfl qa_dx_0_1 rfl ?_
  refine qa_bk_gr rfl rfl (qa_ds0 qa_rg_1) rfl ?_
  refine qa_bk_gi rfl rfl (qa_ds14 qa_rg_1) rfl ?_
  refine qa_bk_do (pc' := 35) (lv' := [(2, _), (0, _), (1, _)]) rfl rfl ?_
  refine qa_bk_do (pc' := 36) rfl rfl ?_
  refine qa_bk_gr rfl rfl qa_dx_0_1 rfl ?_
  refine qa_bk_gr rfl rfl (qa_ds0 qa_rg_1) rfl ?_
  refine qa_bk_do (pc' := 43) rfl rfl ?_
  refine qa_bk_pf rfl rfl (qa_ds14 qa_rg_1) rfl (qa_fiti _) rfl ?_
  refine qa_bk_do (pc' := 47) rfl rfl ?_
  refine qa_bk_gr rfl rfl qa_dx_0_1 rfl ?_
  refine qa_bk_do (pc' := 51) rfl rfl ?_
  obtain ⟨c6, hc7, h⟩ := Option.bind_eq_some_iff.mp h
  refine qa_bk_cv (qa_tX1_burnDownTo qa_rg_1 hc7) rfl rfl rfl rfl rfl rfl rfl (qa_ds0 qa_rg_1) ?_
  refine qa_bk_do (pc' := 55) rfl rfl ?_
  refine qa_bk_gr rfl rfl qa_dx_0_1 rfl ?_
  obtain ⟨c8, hc9, h⟩ := Option.bind_eq_some_iff.mp h
  refine qa_bk_cv (qa_tX1_beginLoading qa_rg_1 hc9) rfl rfl rfl rfl rfl rfl rfl (qa_ds0 qa_rg_1) ?_
  refine qa_bk_do (pc' := 62) rfl rfl ?_
  cases h
  exact qa_bk_ri rfl rfl
noncomputable def qa_fX9_changeAhead (a1 : Int32) (σ : qa_T) : Option ((Int32 ⊕ Nat) × qa_T) :=
    if (qa_bi (qa_fX9_isWithin a1 (Int32.ofInt 0) (Int32.ofInt 4) σ)) = 0 then
      some (.inr 342, σ)
    else
    (qa_fX5_push 1 σ).bind fun c2 =>
    let v4 : Int32 := (c2.1 (1, 14) 1)
    let σ5 := qa_wi c2 (1, 14) 1 a1
    (qa_fX1_beginLoading 1 σ5).bind fun c6 =>
    some (.inl v4, c6)
set_option maxRecDepth 100000 in
theorem qa_tX9_changeAhead {L : Nat} {a1 : Int32}  {σ : qa_T} {r : ((Int32 ⊕ Nat) × qa_T)} (h : qa_fX9_changeAhead a1 σ = some r) : qa_Bk (qa_ds L) qa_mX9_changeAhead 0 (qa_ag 0 [.inl (0, 1), .inr (.int a1)]) [] σ (qa_ri r.1) r.2 := by
  unfold qa_fX9_changeAhead at h
  try dsimp only at h
  show qa_Bk (qa_ds L) qa_mX9_changeAhead 0 [(0, .inl (0, 1)), (1, .inr (.int a1))] [] σ _ _
  refine qa_bk_do (pc' := 1) rfl rfl ?_
  refine qa_bk_do (pc' := 2) rfl rfl ?_
  refine qa_bk_do (pc' := 3) rfl rfl ?_
  refine qa_bk_cs (qa_tX9_isWithin rfl) rfl rfl rfl rfl rfl rfl rfl ?_
  rcases qa_ite h with ⟨hc1, h⟩ | ⟨hc1, h⟩
  · cases h
    exact qa_bk_cx (qa_tX9_needArgument_x hc1) rfl rfl rfl rfl rfl rfl rfl rfl
  refine qa_bk_cs (qa_tX9_needArgument_o hc1) rfl rfl rfl rfl rfl rfl rfl ?_
  refine qa_bk_do (pc' := 10) rfl rfl ?_
  refine qa_bk_gr rfl rfl qa_dx_0_1 rfl ?_
  refine qa_bk_do (pc' := 14) rfl rfl ?_
  refine qa_bk_gr rfl rfl qa_dx_0_1 rfl ?_
  obtain ⟨c2, hc3, h⟩ := Option.bind_eq_some_iff.mp h
  refine qa_bk_cv (qa_tX5_push qa_rg_1 hc3) rfl rfl rfl rfl rfl rfl rfl qa_dx_2_18 ?_
  refine qa_bk_do (pc' := 21) rfl rfl ?_
  refine qa_bk_gr rfl rfl qa_dx_0_1 rfl ?_
  refine qa_bk_gr rfl rfl (qa_ds0 qa_rg_1) rfl ?_
  refine qa_bk_gi rfl rfl (qa_ds14 qa_rg_1) rfl ?_
  refine qa_bk_do (pc' := 31) (lv' := [(2, _), (0, _), (1, _)]) rfl rfl ?_
  refine qa_bk_do (pc' := 32) rfl rfl ?_
  refine qa_bk_gr rfl rfl qa_dx_0_1 rfl ?_
  refine qa_bk_gr rfl rfl (qa_ds0 qa_rg_1) rfl ?_
  refine qa_bk_do (pc' := 39) rfl rfl ?_
  refine qa_bk_pf rfl rfl (qa_ds14 qa_rg_1) rfl (qa_fiti _) rfl ?_
  refine qa_bk_do (pc' := 43) rfl rfl ?_
  refine qa_bk_gr rfl rfl qa_dx_0_1 rfl ?_
  obtain ⟨c6, hc7, h⟩ := Option.bind_eq_some_iff.mp h
  refine qa_bk_cv (qa_tX1_beginLoading qa_rg_1 hc7) rfl rfl rfl rfl rfl rfl rfl (qa_ds0 qa_rg_1) ?_
  refine qa_bk_do (pc' := 50) rfl rfl ?_
  cases h
  exact qa_bk_ri rfl rfl
noncomputable def qa_fX9_changeOrder (a1 : Int32) (σ : qa_T) : Option ((Int32 ⊕ Nat) × qa_T) :=
    if (qa_bi (qa_fX9_isWithin a1 (Int32.ofInt 0) (Int32.ofInt 2) σ)) = 0 then
      some (.inr 342, σ)
    else
    (qa_fX5_push 1 σ).bind fun c2 =>
    let v4 : Int32 := (c2.1 (1, 14) 2)
    let σ5 := qa_wi c2 (1, 14) 2 a1
    (qa_fX1_beginLoading 1 σ5).bind fun c6 =>
    some (.inl v4, c6)
set_option maxRecDepth 100000 in
theorem qa_tX9_changeOrder {L : Nat} {a1 : Int32}  {σ : qa_T} {r : ((Int32 ⊕ Nat) × qa_T)} (h : qa_fX9_changeOrder a1 σ = some r) : qa_Bk (qa_ds L) qa_mX9_changeOrder 0 (qa_ag 0 [.inl (0, 1), .inr (.int a1)]) [] σ (qa_ri r.1) r.2 := by
  unfold qa_fX9_changeOrder at h
  try dsimp only at h
  show qa_Bk (qa_ds L) qa_mX9_changeOrder 0 [(0, .inl (0, 1)), (1, .inr (.int a1))] [] σ _ _
  refine qa_bk_do (pc' := 1) rfl rfl ?_
  refine qa_bk_do (pc' := 2) rfl rfl ?_
  refine qa_bk_do (pc' := 3) rfl rfl ?_
  refine qa_bk_cs (qa_tX9_isWithin rfl) rfl rfl rfl rfl rfl rfl rfl ?_
  rcases qa_ite h with ⟨hc1, h⟩ | ⟨hc1, h⟩
  · cases h
    exact qa_bk_cx (qa_tX9_needArgument_x hc1) rfl rfl rfl rfl rfl rfl rfl rfl
  refine qa_bk_cs (qa_tX9_needArgument_o hc1) rfl rfl rfl rfl rfl rfl rfl ?_
  refine qa_bk_do (pc' := 10) rfl rfl ?_
  refine qa_bk_gr rfl rfl qa_dx_0_1 rfl ?_
  refine qa_bk_do (pc' := 14) rfl rfl ?_
  refine qa_bk_gr rfl rfl qa_dx_0_1 rfl ?_
  obtain ⟨c2, hc3, h⟩ := Option.bind_eq_some_iff.mp h
  refine qa_bk_cv (qa_tX5_push qa_rg_1 hc3) rfl rfl rfl rfl rfl rfl rfl qa_dx_2_18 ?_
  refine qa_bk_do (pc' := 21) rfl rfl ?_
  refine qa_bk_gr rfl rfl qa_dx_0_1 rfl ?_
  refine qa_bk_gr rfl rfl (qa_ds0 qa_rg_1) rfl ?_
  refine qa_bk_gi rfl rfl (qa_ds14 qa_rg_1) rfl ?_
  refine qa_bk_do (pc' := 31) (lv' := [(2, _), (0, _), (1, _)]) rfl rfl ?_
  refine qa_bk_do (pc' := 32) rfl rfl ?_
  refine qa_bk_gr rfl rfl qa_dx_0_1 rfl ?_
  refine qa_bk_gr rfl rfl (qa_ds0 qa_rg_1) rfl ?_
  refine qa_bk_do (pc' := 39) rfl rfl ?_
  refine qa_bk_pf rfl rfl (qa_ds14 qa_rg_1) rfl (qa_fiti _) rfl ?_
  refine qa_bk_do (pc' := 43) rfl rfl ?_
  refine qa_bk_gr rfl rfl qa_dx_0_1 rfl ?_
  obtain ⟨c6, hc7, h⟩ := Option.bind_eq_some_iff.mp h
  refine qa_bk_cv (qa_tX1_beginLoading qa_rg_1 hc7) rfl rfl rfl rfl rfl rfl rfl (qa_ds0 qa_rg_1) ?_
  refine qa_bk_do (pc' := 50) rfl rfl ?_
  cases h
  exact qa_bk_ri rfl rfl
noncomputable def qa_fX9_changeGlow (a1 : Int32) (σ : qa_T) : Option ((Int32 ⊕ Nat) × qa_T) :=
    if (qa_bi (qa_fX9_isWithin a1 (Int32.ofInt 0) ((Int8.ofInt 20).toInt32) σ)) = 0 then
      some (.inr 342, σ)
    else
    (qa_fX5_push 1 σ).bind fun c2 =>
    let v4 : Int32 := (c2.1 (1, 14) 3)
    let σ5 := qa_wi c2 (1, 14) 3 a1
    (qa_fX1_beginLoading 1 σ5).bind fun c6 =>
    some (.inl v4, c6)
set_option maxRecDepth 100000 in
theorem qa_tX9_changeGlow {L : Nat} {a1 : Int32}  {σ : qa_T} {r : ((Int32 ⊕ Nat) × qa_T)} (h : qa_fX9_changeGlow a1 σ = some r) : qa_Bk (qa_ds L) qa_mX9_changeGlow 0 (qa_ag 0 [.inl (0, 1), .inr (.int a1)]) [] σ (qa_ri r.1) r.2 := by
  unfold qa_fX9_changeGlow at h
  try dsimp only at h
  show qa_Bk (qa_ds L) qa_mX9_changeGlow 0 [(0, .inl (0, 1)), (1, .inr (.int a1))] [] σ _ _
  refine qa_bk_do (pc' := 1) rfl rfl ?_
  refine qa_bk_do (pc' := 2) rfl rfl ?_
  refine qa_bk_do (pc' := 4) rfl rfl ?_
  refine qa_bk_cs (qa_tX9_isWithin rfl) rfl rfl rfl rfl rfl rfl rfl ?_
  rcases qa_ite h with ⟨hc1, h⟩ | ⟨hc1, h⟩
  · cases h
    exact qa_bk_cx (qa_tX9_needArgument_x hc1) rfl rfl rfl rfl rfl rfl rfl rfl
  refine qa_bk_cs (qa_tX9_needArgument_o hc1) rfl rfl rfl rfl rfl rfl rfl ?_
  refine qa_bk_do (pc' := 11) rfl rfl ?_
  refine qa_bk_gr rfl rfl qa_dx_0_1 rfl ?_
  refine qa_bk_do (pc' := 15) rfl rfl ?_
  refine qa_bk_gr rfl rfl qa_dx_0_1 rfl ?_
  obtain ⟨c2, hc3, h⟩ := Option.bind_eq_some_iff.mp h
  refine qa_bk_cv (qa_tX5_push qa_rg_1 hc3) rfl rfl rfl rfl rfl rfl rfl qa_dx_2_18 ?_
  refine qa_bk_do (pc' := 22) rfl rfl ?_
  refine qa_bk_gr rfl rfl qa_dx_0_1 rfl ?_
  refine qa_bk_gr rfl rfl (qa_ds0 qa_rg_1) rfl ?_
  refine qa_bk_gi rfl rfl (qa_ds14 qa_rg_1) rfl ?_
  refine qa_bk_do (pc' := 32) (lv' := [(2, _), (0, _), (1, _)]) rfl rfl ?_
  refine qa_bk_do (pc' := 33) rfl rfl ?_
  refine qa_bk_gr rfl rfl qa_dx_0_1 rfl ?_
  refine qa_bk_gr rfl rfl (qa_ds0 qa_rg_1) rfl ?_
  refine qa_bk_do (pc' := 40) rfl rfl ?_
  refine qa_bk_pf rfl rfl (qa_ds14 qa_rg_1) rfl (qa_fiti _) rfl ?_
  refine qa_bk_do (pc' := 44) rfl rfl ?_
  refine qa_bk_gr rfl rfl qa_dx_0_1 rfl ?_
  obtain ⟨c6, hc7, h⟩ := Option.bind_eq_some_iff.mp h
  refine qa_bk_cv (qa_tX1_beginLoading qa_rg_1 hc7) rfl rfl rfl rfl rfl rfl rfl (qa_ds0 qa_rg_1) ?_
  refine qa_bk_do (pc' := 51) rfl rfl ?_
  cases h
  exact qa_bk_ri rfl rfl
noncomputable def qa_fX9_changePace (a1 : Int32) (σ : qa_T) : Option ((Int32 ⊕ Nat) × qa_T) :=
    if (qa_bi (qa_fX9_isWithin a1 (Int32.ofInt 0) ((Int8.ofInt 50).toInt32) σ)) = 0 then
      some (.inr 342, σ)
    else
    (qa_fX5_push 1 σ).bind fun c2 =>
    let v4 : Int32 := (c2.1 (1, 14) 4)
    let σ5 := qa_wi c2 (1, 14) 4 a1
    (qa_fX1_beginLoading 1 σ5).bind fun c6 =>
    some (.inl v4, c6)
set_option maxRecDepth 100000 in
theorem qa_tX9_changePace {L : Nat} {a1 : Int32}  {σ : qa_T} {r : ((Int32 ⊕ Nat) × qa_T)} (h : qa_fX9_changePace a1 σ = some r) : qa_Bk (qa_ds L) qa_mX9_changePace 0 (qa_ag 0 [.inl (0, 1), .inr (.int a1)]) [] σ (qa_ri r.1) r.2 := by
  unfold qa_fX9_changePace at h
  try dsimp only at h
  show qa_Bk (qa_ds L) qa_mX9_changePace 0 [(0, .inl (0, 1)), (1, .inr (.int a1))] [] σ _ _
  refine qa_bk_do (pc' := 1) rfl rfl ?_
  refine qa_bk_do (pc' := 2) rfl rfl ?_
  refine qa_bk_do (pc' := 4) rfl rfl ?_
  refine qa_bk_cs (qa_tX9_isWithin rfl) rfl rfl rfl rfl rfl rfl rfl ?_
  rcases qa_ite h with ⟨hc1, h⟩ | ⟨hc1, h⟩
  · cases h
    exact qa_bk_cx (qa_tX9_needArgument_x hc1) rfl rfl rfl rfl rfl rfl rfl rfl
  refine qa_bk_cs (qa_tX9_needArgument_o hc1) rfl rfl rfl rfl rfl rfl rfl ?_
  refine qa_bk_do (pc' := 11) rfl rfl ?_
  refine qa_bk_gr rfl rfl qa_dx_0_1 rfl ?_
  refine qa_bk_do (pc' := 15) rfl rfl ?_
  refine qa_bk_gr rfl rfl qa_dx_0_1 rfl ?_
  obtain ⟨c2, hc3, h⟩ := Option.bind_eq_some_iff.mp h
  refine qa_bk_cv (qa_tX5_push qa_rg_1 hc3) rfl rfl rfl rfl rfl rfl rfl qa_dx_2_18 ?_
  refine qa_bk_do (pc' := 22) rfl rfl ?_
  refine qa_bk_gr rfl rfl qa_dx_0_1 rfl ?_
  refine qa_bk_gr rfl rfl (qa_ds0 qa_rg_1) rfl ?_
  refine qa_bk_gi rfl rfl (qa_ds14 qa_rg_1) rfl ?_
  refine qa_bk_do (pc' := 32) (lv' := [(2, _), (0, _), (1, _)]) rfl rfl ?_
  refine qa_bk_do (pc' := 33) rfl rfl ?_
  refine qa_bk_gr rfl rfl qa_dx_0_1 rfl ?_
  refine qa_bk_gr rfl rfl (qa_ds0 qa_rg_1) rfl ?_
  refine qa_bk_do (pc' := 40) rfl rfl ?_
  refine qa_bk_pf rfl rfl (qa_ds14 qa_rg_1) rfl (qa_fiti _) rfl ?_
  refine qa_bk_do (pc' := 44) rfl rfl ?_
  refine qa_bk_gr rfl rfl qa_dx_0_1 rfl ?_
  obtain ⟨c6, hc7, h⟩ := Option.bind_eq_some_iff.mp h
  refine qa_bk_cv (qa_tX1_beginLoading qa_rg_1 hc7) rfl rfl rfl rfl rfl rfl rfl (qa_ds0 qa_rg_1) ?_
  refine qa_bk_do (pc' := 51) rfl rfl ?_
  cases h
  exact qa_bk_ri rfl rfl
noncomputable def qa_fX9_slides  (σ : qa_T) : Int32 :=
    (σ.1 (1, 1) 0)
set_option maxRecDepth 100000 in
theorem qa_tX9_slides {L : Nat}   {σ : qa_T} {r : Int32} (h : qa_fX9_slides  σ = r) : qa_Bk (qa_ds L) qa_mX9_slides 0 (qa_ag 0 [.inl (0, 1)]) [] σ (.inl (some (.inr (.int r)))) σ := by
  unfold qa_fX9_slides at h
  try dsimp only at h
  show qa_Bk (qa_ds L) qa_mX9_slides 0 [(0, .inl (0, 1))] [] σ _ _
  refine qa_bk_do (pc' := 1) rfl rfl ?_
  refine qa_bk_gr rfl rfl qa_dx_0_1 rfl ?_
  refine qa_bk_gr rfl rfl (qa_ds0 qa_rg_1) rfl ?_
  refine qa_bk_gi rfl rfl (qa_ds1 qa_rg_1) rfl ?_
  subst h
  exact qa_bk_ri rfl rfl
noncomputable def qa_fX9_costOf (a1 : Int32) (σ : qa_T) : ((Int32 ⊕ Nat) × qa_T) :=
    if (qa_bi (qa_fX6_has 1 a1 σ)) = 0 then
      (.inr 345, σ)
    else
    (.inl (qa_fX9_at (1, 2) 16 a1 σ), σ)
set_option maxRecDepth 100000 in
theorem qa_tX9_costOf {L : Nat} {a1 : Int32}  {σ : qa_T} {r : ((Int32 ⊕ Nat) × qa_T)} (h : qa_fX9_costOf a1 σ = r) : qa_Bk (qa_ds L) qa_mX9_costOf 0 (qa_ag 0 [.inl (0, 1), .inr (.int a1)]) [] σ (qa_ri r.1) r.2 := by
  unfold qa_fX9_costOf at h
  try dsimp only at h
  show qa_Bk (qa_ds L) qa_mX9_costOf 0 [(0, .inl (0, 1)), (1, .inr (.int a1))] [] σ _ _
  refine qa_bk_do (pc' := 1) rfl rfl ?_
  refine qa_bk_gr rfl rfl qa_dx_0_1 rfl ?_
  refine qa_bk_gr rfl rfl (qa_ds0 qa_rg_1) rfl ?_
  refine qa_bk_do (pc' := 8) rfl rfl ?_
  refine qa_bk_cv (qa_tX6_has qa_rg_1 rfl) rfl rfl rfl rfl rfl rfl rfl (qa_ds1 qa_rg_1) ?_
  rcases qa_ite h with ⟨hc1, h⟩ | ⟨hc1, h⟩
  · subst h
    exact qa_bk_cx (qa_tX9_needIndex_x hc1) rfl rfl rfl rfl rfl rfl rfl rfl
  refine qa_bk_cs (qa_tX9_needIndex_o hc1) rfl rfl rfl rfl rfl rfl rfl ?_
  refine qa_bk_do (pc' := 15) rfl rfl ?_
  refine qa_bk_gr rfl rfl qa_dx_0_1 rfl ?_
  refine qa_bk_gr rfl rfl (qa_ds0 qa_rg_1) rfl ?_
  refine qa_bk_gr rfl rfl (qa_ds1 qa_rg_1) rfl ?_
  refine qa_bk_do (pc' := 25) rfl rfl ?_
  refine qa_bk_cs (qa_tX9_at (qa_ds2 qa_rg_1) (Nat.le_of_ble_eq_true rfl) rfl) rfl rfl rfl rfl rfl rfl rfl ?_
  subst h
  exact qa_bk_ri rfl rfl
noncomputable def qa_fX9_loadOf (a1 : Int32) (σ : qa_T) : ((Int32 ⊕ Nat) × qa_T) :=
    if (qa_bi (qa_fX6_has 1 a1 σ)) = 0 then
      (.inr 345, σ)
    else
    (.inl (qa_fX6_ticksToLoad 1 a1 (Int32.ofInt 0) σ), σ)
set_option maxRecDepth 100000 in
theorem qa_tX9_loadOf {L : Nat} {a1 : Int32}  {σ : qa_T} {r : ((Int32 ⊕ Nat) × qa_T)} (h : qa_fX9_loadOf a1 σ = r) : qa_Bk (qa_ds L) qa_mX9_loadOf 0 (qa_ag 0 [.inl (0, 1), .inr (.int a1)]) [] σ (qa_ri r.1) r.2 := by
  unfold qa_fX9_loadOf at h
  try dsimp only at h
  show qa_Bk (qa_ds L) qa_mX9_loadOf 0 [(0, .inl (0, 1)), (1, .inr (.int a1))] [] σ _ _
  refine qa_bk_do (pc' := 1) rfl rfl ?_
  refine qa_bk_gr rfl rfl qa_dx_0_1 rfl ?_
  refine qa_bk_gr rfl rfl (qa_ds0 qa_rg_1) rfl ?_
  refine qa_bk_do (pc' := 8) rfl rfl ?_
  refine qa_bk_cv (qa_tX6_has qa_rg_1 rfl) rfl rfl rfl rfl rfl rfl rfl (qa_ds1 qa_rg_1) ?_
  rcases qa_ite h with ⟨hc1, h⟩ | ⟨hc1, h⟩
  · subst h
    exact qa_bk_cx (qa_tX9_needIndex_x hc1) rfl rfl rfl rfl rfl rfl rfl rfl
  refine qa_bk_cs (qa_tX9_needIndex_o hc1) rfl rfl rfl rfl rfl rfl rfl ?_
  refine qa_bk_do (pc' := 15) rfl rfl ?_
  refine qa_bk_gr rfl rfl qa_dx_0_1 rfl ?_
  refine qa_bk_gr rfl rfl (qa_ds0 qa_rg_1) rfl ?_
  refine qa_bk_do (pc' := 22) rfl rfl ?_
  refine qa_bk_do (pc' := 23) rfl rfl ?_
  refine qa_bk_cv (qa_tX6_ticksToLoad qa_rg_1 rfl) rfl rfl rfl rfl rfl rfl rfl (qa_ds1 qa_rg_1) ?_
  subst h
  exact qa_bk_ri rfl rfl
noncomputable def qa_fX9_fadeOf (a1 : Int32) (σ : qa_T) : ((Int32 ⊕ Nat) × qa_T) :=
    if (qa_bi (qa_fX6_has 1 a1 σ)) = 0 then
      (.inr 345, σ)
    else
    (.inl (qa_fX9_at (1, 4) 16 a1 σ), σ)
set_option maxRecDepth 100000 in
theorem qa_tX9_fadeOf {L : Nat} {a1 : Int32}  {σ : qa_T} {r : ((Int32 ⊕ Nat) × qa_T)} (h : qa_fX9_fadeOf a1 σ = r) : qa_Bk (qa_ds L) qa_mX9_fadeOf 0 (qa_ag 0 [.inl (0, 1), .inr (.int a1)]) [] σ (qa_ri r.1) r.2 := by
  unfold qa_fX9_fadeOf at h
  try dsimp only at h
  show qa_Bk (qa_ds L) qa_mX9_fadeOf 0 [(0, .inl (0, 1)), (1, .inr (.int a1))] [] σ _ _
  refine qa_bk_do (pc' := 1) rfl rfl ?_
  refine qa_bk_gr rfl rfl qa_dx_0_1 rfl ?_
  refine qa_bk_gr rfl rfl (qa_ds0 qa_rg_1) rfl ?_
  refine qa_bk_do (pc' := 8) rfl rfl ?_
  refine qa_bk_cv (qa_tX6_has qa_rg_1 rfl) rfl rfl rfl rfl rfl rfl rfl (qa_ds1 qa_rg_1) ?_
  rcases qa_ite h with ⟨hc1, h⟩ | ⟨hc1, h⟩
  · subst h
    exact qa_bk_cx (qa_tX9_needIndex_x hc1) rfl rfl rfl rfl rfl rfl rfl rfl
  refine qa_bk_cs (qa_tX9_needIndex_o hc1) rfl rfl rfl rfl rfl rfl rfl ?_
  refine qa_bk_do (pc' := 15) rfl rfl ?_
  refine qa_bk_gr rfl rfl qa_dx_0_1 rfl ?_
  refine qa_bk_gr rfl rfl (qa_ds0 qa_rg_1) rfl ?_
  refine qa_bk_gr rfl rfl (qa_ds1 qa_rg_1) rfl ?_
  refine qa_bk_do (pc' := 25) rfl rfl ?_
  refine qa_bk_cs (qa_tX9_at (qa_ds4 qa_rg_1) (Nat.le_of_ble_eq_true rfl) rfl) rfl rfl rfl rfl rfl rfl rfl ?_
  subst h
  exact qa_bk_ri rfl rfl
noncomputable def qa_fX9_isLoaded (a1 : Int32) (σ : qa_T) : ((Bool ⊕ Nat) × qa_T) :=
    if (qa_bi (qa_fX6_has 1 a1 σ)) = 0 then
      (.inr 345, σ)
    else
    (.inl (qa_fX6_isReady 1 a1 σ), σ)
set_option maxRecDepth 100000 in
theorem qa_tX9_isLoaded {L : Nat} {a1 : Int32}  {σ : qa_T} {r : ((Bool ⊕ Nat) × qa_T)} (h : qa_fX9_isLoaded a1 σ = r) : qa_Bk (qa_ds L) qa_mX9_isLoaded 0 (qa_ag 0 [.inl (0, 1), .inr (.int a1)]) [] σ (qa_rz r.1) r.2 := by
  unfold qa_fX9_isLoaded at h
  try dsimp only at h
  show qa_Bk (qa_ds L) qa_mX9_isLoaded 0 [(0, .inl (0, 1)), (1, .inr (.int a1))] [] σ _ _
  refine qa_bk_do (pc' := 1) rfl rfl ?_
  refine qa_bk_gr rfl rfl qa_dx_0_1 rfl ?_
  refine qa_bk_gr rfl rfl (qa_ds0 qa_rg_1) rfl ?_
  refine qa_bk_do (pc' := 8) rfl rfl ?_
  refine qa_bk_cv (qa_tX6_has qa_rg_1 rfl) rfl rfl rfl rfl rfl rfl rfl (qa_ds1 qa_rg_1) ?_
  rcases qa_ite h with ⟨hc1, h⟩ | ⟨hc1, h⟩
  · subst h
    exact qa_bk_cx (qa_tX9_needIndex_x hc1) rfl rfl rfl rfl rfl rfl rfl rfl
  refine qa_bk_cs (qa_tX9_needIndex_o hc1) rfl rfl rfl rfl rfl rfl rfl ?_
  refine qa_bk_do (pc' := 15) rfl rfl ?_
  refine qa_bk_gr rfl rfl qa_dx_0_1 rfl ?_
  refine qa_bk_gr rfl rfl (qa_ds0 qa_rg_1) rfl ?_
  refine qa_bk_do (pc' := 22) rfl rfl ?_
  refine qa_bk_cv (qa_tX6_isReady qa_rg_1 rfl) rfl rfl rfl rfl rfl rfl rfl (qa_ds1 qa_rg_1) ?_
  subst h
  exact qa_bk_rb rfl rfl rfl
noncomputable def qa_fX9_isOnShow (a1 : Int32) (σ : qa_T) : ((Bool ⊕ Nat) × qa_T) :=
    if (qa_bi (qa_fX6_has 1 a1 σ)) = 0 then
      (.inr 345, σ)
    else
    (.inl (qa_fX7_bears 1 a1 σ), σ)
set_option maxRecDepth 100000 in
theorem qa_tX9_isOnShow {L : Nat} {a1 : Int32}  {σ : qa_T} {r : ((Bool ⊕ Nat) × qa_T)} (h : qa_fX9_isOnShow a1 σ = r) : qa_Bk (qa_ds L) qa_mX9_isOnShow 0 (qa_ag 0 [.inl (0, 1), .inr (.int a1)]) [] σ (qa_rz r.1) r.2 := by
  unfold qa_fX9_isOnShow at h
  try dsimp only at h
  show qa_Bk (qa_ds L) qa_mX9_isOnShow 0 [(0, .inl (0, 1)), (1, .inr (.int a1))] [] σ _ _
  refine qa_bk_do (pc' := 1) rfl rfl ?_
  refine qa_bk_gr rfl rfl qa_dx_0_1 rfl ?_
  refine qa_bk_gr rfl rfl (qa_ds0 qa_rg_1) rfl ?_
  refine qa_bk_do (pc' := 8) rfl rfl ?_
  refine qa_bk_cv (qa_tX6_has qa_rg_1 rfl) rfl rfl rfl rfl rfl rfl rfl (qa_ds1 qa_rg_1) ?_
  rcases qa_ite h with ⟨hc1, h⟩ | ⟨hc1, h⟩
  · subst h
    exact qa_bk_cx (qa_tX9_needIndex_x hc1) rfl rfl rfl rfl rfl rfl rfl rfl
  refine qa_bk_cs (qa_tX9_needIndex_o hc1) rfl rfl rfl rfl rfl rfl rfl ?_
  refine qa_bk_do (pc' := 15) rfl rfl ?_
  refine qa_bk_gr rfl rfl qa_dx_0_1 rfl ?_
  refine qa_bk_gr rfl rfl (qa_ds0 qa_rg_1) rfl ?_
  refine qa_bk_do (pc' := 22) rfl rfl ?_
  refine qa_bk_cv (qa_tX7_bears qa_rg_1 rfl) rfl rfl rfl rfl rfl rfl rfl (qa_ds11 qa_rg_1) ?_
  subst h
  exact qa_bk_rb rfl rfl rfl
noncomputable def qa_fX9_glowOf (a1 : Int32) (σ : qa_T) : ((Int32 ⊕ Nat) × qa_T) :=
    if (qa_bi (qa_fX6_has 1 a1 σ)) = 0 then
      (.inr 345, σ)
    else
    (.inl (qa_fX9_at (1, 6) 16 a1 σ), σ)
set_option maxRecDepth 100000 in
theorem qa_tX9_glowOf {L : Nat} {a1 : Int32}  {σ : qa_T} {r : ((Int32 ⊕ Nat) × qa_T)} (h : qa_fX9_glowOf a1 σ = r) : qa_Bk (qa_ds L) qa_mX9_glowOf 0 (qa_ag 0 [.inl (0, 1), .inr (.int a1)]) [] σ (qa_ri r.1) r.2 := by
  unfold qa_fX9_glowOf at h
  try dsimp only at h
  show qa_Bk (qa_ds L) qa_mX9_glowOf 0 [(0, .inl (0, 1)), (1, .inr (.int a1))] [] σ _ _
  refine qa_bk_do (pc' := 1) rfl rfl ?_
  refine qa_bk_gr rfl rfl qa_dx_0_1 rfl ?_
  refine qa_bk_gr rfl rfl (qa_ds0 qa_rg_1) rfl ?_
  refine qa_bk_do (pc' := 8) rfl rfl ?_
  refine qa_bk_cv (qa_tX6_has qa_rg_1 rfl) rfl rfl rfl rfl rfl rfl rfl (qa_ds1 qa_rg_1) ?_
  rcases qa_ite h with ⟨hc1, h⟩ | ⟨hc1, h⟩
  · subst h
    exact qa_bk_cx (qa_tX9_needIndex_x hc1) rfl rfl rfl rfl rfl rfl rfl rfl
  refine qa_bk_cs (qa_tX9_needIndex_o hc1) rfl rfl rfl rfl rfl rfl rfl ?_
  refine qa_bk_do (pc' := 15) rfl rfl ?_
  refine qa_bk_gr rfl rfl qa_dx_0_1 rfl ?_
  refine qa_bk_gr rfl rfl (qa_ds0 qa_rg_1) rfl ?_
  refine qa_bk_gr rfl rfl (qa_ds1 qa_rg_1) rfl ?_
  refine qa_bk_do (pc' := 25) rfl rfl ?_
  refine qa_bk_cs (qa_tX9_at (qa_ds6 qa_rg_1) (Nat.le_of_ble_eq_true rfl) rfl) rfl rfl rfl rfl rfl rfl rfl ?_
  subst h
  exact qa_bk_ri rfl rfl
noncomputable def qa_fX9_burntTimes (a1 : Int32) (σ : qa_T) : ((Int32 ⊕ Nat) × qa_T) :=
    if (qa_bi (qa_fX6_has 1 a1 σ)) = 0 then
      (.inr 345, σ)
    else
    (.inl (qa_fX9_at (1, 7) 16 a1 σ), σ)
set_option maxRecDepth 100000 in
theorem qa_tX9_burntTimes {L : Nat} {a1 : Int32}  {σ : qa_T} {r : ((Int32 ⊕ Nat) × qa_T)} (h : qa_fX9_burntTimes a1 σ = r) : qa_Bk (qa_ds L) qa_mX9_burntTimes 0 (qa_ag 0 [.inl (0, 1), .inr (.int a1)]) [] σ (qa_ri r.1) r.2 := by
  unfold qa_fX9_burntTimes at h
  try dsimp only at h
  show qa_Bk (qa_ds L) qa_mX9_burntTimes 0 [(0, .inl (0, 1)), (1, .inr (.int a1))] [] σ _ _
  refine qa_bk_do (pc' := 1) rfl rfl ?_
  refine qa_bk_gr rfl rfl qa_dx_0_1 rfl ?_
  refine qa_bk_gr rfl rfl (qa_ds0 qa_rg_1) rfl ?_
  refine qa_bk_do (pc' := 8) rfl rfl ?_
  refine qa_bk_cv (qa_tX6_has qa_rg_1 rfl) rfl rfl rfl rfl rfl rfl rfl (qa_ds1 qa_rg_1) ?_
  rcases qa_ite h with ⟨hc1, h⟩ | ⟨hc1, h⟩
  · subst h
    exact qa_bk_cx (qa_tX9_needIndex_x hc1) rfl rfl rfl rfl rfl rfl rfl rfl
  refine qa_bk_cs (qa_tX9_needIndex_o hc1) rfl rfl rfl rfl rfl rfl rfl ?_
  refine qa_bk_do (pc' := 15) rfl rfl ?_
  refine qa_bk_gr rfl rfl qa_dx_0_1 rfl ?_
  refine qa_bk_gr rfl rfl (qa_ds0 qa_rg_1) rfl ?_
  refine qa_bk_gr rfl rfl (qa_ds1 qa_rg_1) rfl ?_
  refine qa_bk_do (pc' := 25) rfl rfl ?_
  refine qa_bk_cs (qa_tX9_at (qa_ds7 qa_rg_1) (Nat.le_of_ble_eq_true rfl) rfl) rfl rfl rfl rfl rfl rfl rfl ?_
  subst h
  exact qa_bk_ri rfl rfl
noncomputable def qa_fX9_nextUse_35 (a1 : Int32) (x2 : Int32) (y0 : Int32) (σ : qa_T) : Option ((Int32 ⊕ Nat) × qa_T) :=
    if y0 = 0 then
      some (.inr 348, σ)
    else
    some (.inl x2, σ)
noncomputable def qa_fX9_nextUse (a1 : Int32) (σ : qa_T) : Option ((Int32 ⊕ Nat) × qa_T) :=
    if (qa_bi (qa_fX6_has 1 a1 σ)) = 0 then
      some (.inr 345, σ)
    else
    (qa_fX3_placesUntil 1 a1 σ).bind fun c2 =>
    if c2 ≤ 0 then
      qa_fX9_nextUse_35 a1 c2 (Int32.ofInt 0) σ
    else
      qa_fX9_nextUse_35 a1 c2 (Int32.ofInt 1) σ
set_option maxRecDepth 100000 in
theorem qa_tX9_nextUse_35 {L : Nat} {a1 : Int32}  {x2 : Int32} {y0 : Int32} {σ : qa_T} {r : ((Int32 ⊕ Nat) × qa_T)} (h : qa_fX9_nextUse_35 a1 x2 y0 σ = some r) : qa_Bk (qa_ds L) qa_mX9_nextUse 35 [(0, .inl (0, 1)), (1, .inr (.int a1)), (2, .inr (.int x2))] [.inr (.int y0)] σ (qa_ri r.1) r.2 := by
  unfold qa_fX9_nextUse_35 at h
  try dsimp only at h
  rcases qa_ite h with ⟨hc5, h⟩ | ⟨hc5, h⟩
  · cases h
    exact qa_bk_cx (qa_tX9_needState_x hc5) rfl rfl rfl rfl rfl rfl rfl rfl
  refine qa_bk_cs (qa_tX9_needState_o hc5) rfl rfl rfl rfl rfl rfl rfl ?_
  refine qa_bk_do (pc' := 39) rfl rfl ?_
  cases h
  exact qa_bk_ri rfl rfl
set_option maxRecDepth 100000 in
theorem qa_tX9_nextUse {L : Nat} {a1 : Int32}  {σ : qa_T} {r : ((Int32 ⊕ Nat) × qa_T)} (h : qa_fX9_nextUse a1 σ = some r) : qa_Bk (qa_ds L) qa_mX9_nextUse 0 (qa_ag 0 [.inl (0, 1), .inr (.int a1)]) [] σ (qa_ri r.1) r.2 := by
  unfold qa_fX9_nextUse at h
  try dsimp only at h
  show qa_Bk (qa_ds L) qa_mX9_nextUse 0 [(0, .inl (0, 1)), (1, .inr (.int a1))] [] σ _ _
  refine qa_bk_do (pc' := 1) rfl rfl ?_
  refine qa_bk_gr rfl rfl qa_dx_0_1 rfl ?_
  refine qa_bk_gr rfl rfl (qa_ds0 qa_rg_1) rfl ?_
  refine qa_bk_do (pc' := 8) rfl rfl ?_
  refine qa_bk_cv (qa_tX6_has qa_rg_1 rfl) rfl rfl rfl rfl rfl rfl rfl (qa_ds1 qa_rg_1) ?_
  rcases qa_ite h with ⟨hc1, h⟩ | ⟨hc1, h⟩
  · cases h
    exact qa_bk_cx (qa_tX9_needIndex_x hc1) rfl rfl rfl rfl rfl rfl rfl rfl
  refine qa_bk_cs (qa_tX9_needIndex_o hc1) rfl rfl rfl rfl rfl rfl rfl ?_
  refine qa_bk_do (pc' := 15) rfl rfl ?_
  refine qa_bk_gr rfl rfl qa_dx_0_1 rfl ?_
  refine qa_bk_gr rfl rfl (qa_ds0 qa_rg_1) rfl ?_
  refine qa_bk_do (pc' := 22) rfl rfl ?_
  obtain ⟨c2, hc3, h⟩ := Option.bind_eq_some_iff.mp h
  refine qa_bk_cv (qa_tX3_placesUntil qa_rg_1 hc3) rfl rfl rfl rfl rfl rfl rfl (qa_ds9 qa_rg_1) ?_
  refine qa_bk_do (pc' := 26) (lv' := [(2, _), (0, _), (1, _)]) rfl rfl ?_
  refine qa_bk_do (pc' := 27) rfl rfl ?_
  rcases qa_ite h with ⟨hc4, h⟩ | ⟨hc4, h⟩
  · refine qa_bk_1t (a := 34) (b := 30) hc4 rfl rfl ?_
    refine qa_bk_do (pc' := 35) rfl rfl ?_
    exact qa_bk_lw (qa_tX9_nextUse_35  h) rfl rfl (And.intro rfl (And.intro rfl (And.intro rfl (trivial))))
  · refine qa_bk_1f (a := 34) (b := 30) hc4 rfl rfl ?_
    refine qa_bk_do (pc' := 31) rfl rfl ?_
    refine qa_bk_do (pc' := 35) rfl rfl ?_
    exact qa_bk_lw (qa_tX9_nextUse_35  h) rfl rfl (And.intro rfl (And.intro rfl (And.intro rfl (trivial))))
noncomputable def qa_fX9_burnPlace_33 (a1 : Int32) (x2 : Int32) (y0 : Int32) (σ : qa_T) : Option ((Int32 ⊕ Nat) × qa_T) :=
    if y0 = 0 then
      some (.inr 348, σ)
    else
    some (.inl x2, σ)
noncomputable def qa_fX9_burnPlace (a1 : Int32) (σ : qa_T) : Option ((Int32 ⊕ Nat) × qa_T) :=
    if (qa_bi (qa_fX6_has 1 a1 σ)) = 0 then
      some (.inr 345, σ)
    else
    (qa_fX1_placeInLine 1 a1 σ).bind fun c2 =>
    if c2.1 = (Int32.ofInt (-1)) then
      qa_fX9_burnPlace_33 a1 c2.1 (Int32.ofInt 0) c2.2
    else
      qa_fX9_burnPlace_33 a1 c2.1 (Int32.ofInt 1) c2.2
set_option maxRecDepth 100000 in
theorem qa_tX9_burnPlace_33 {L : Nat} {a1 : Int32}  {x2 : Int32} {y0 : Int32} {σ : qa_T} {r : ((Int32 ⊕ Nat) × qa_T)} (h : qa_fX9_burnPlace_33 a1 x2 y0 σ = some r) : qa_Bk (qa_ds L) qa_mX9_burnPlace 33 [(0, .inl (0, 1)), (1, .inr (.int a1)), (2, .inr (.int x2))] [.inr (.int y0)] σ (qa_ri r.1) r.2 := by
  unfold qa_fX9_burnPlace_33 at h
  try dsimp only at h
  rcases qa_ite h with ⟨hc5, h⟩ | ⟨hc5, h⟩
  · cases h
    exact qa_bk_cx (qa_tX9_needState_x hc5) rfl rfl rfl rfl rfl rfl rfl rfl
  refine qa_bk_cs (qa_tX9_needState_o hc5) rfl rfl rfl rfl rfl rfl rfl ?_
  refine qa_bk_do (pc' := 37) rfl rfl ?_
  cases h
  exact qa_bk_ri rfl rfl
set_option maxRecDepth 100000 in
theorem qa_tX9_burnPlace {L : Nat} {a1 : Int32}  {σ : qa_T} {r : ((Int32 ⊕ Nat) × qa_T)} (h : qa_fX9_burnPlace a1 σ = some r) : qa_Bk (qa_ds L) qa_mX9_burnPlace 0 (qa_ag 0 [.inl (0, 1), .inr (.int a1)]) [] σ (qa_ri r.1) r.2 := by
  unfold qa_fX9_burnPlace at h
  try dsimp only at h
  show qa_Bk (qa_ds L) qa_mX9_burnPlace 0 [(0, .inl (0, 1)), (1, .inr (.int a1))] [] σ _ _
  refine qa_bk_do (pc' := 1) rfl rfl ?_
  refine qa_bk_gr rfl rfl qa_dx_0_1 rfl ?_
  refine qa_bk_gr rfl rfl (qa_ds0 qa_rg_1) rfl ?_
  refine qa_bk_do (pc' := 8) rfl rfl ?_
  refine qa_bk_cv (qa_tX6_has qa_rg_1 rfl) rfl rfl rfl rfl rfl rfl rfl (qa_ds1 qa_rg_1) ?_
  rcases qa_ite h with ⟨hc1, h⟩ | ⟨hc1, h⟩
  · cases h
    exact qa_bk_cx (qa_tX9_needIndex_x hc1) rfl rfl rfl rfl rfl rfl rfl rfl
  refine qa_bk_cs (qa_tX9_needIndex_o hc1) rfl rfl rfl rfl rfl rfl rfl ?_
  refine qa_bk_do (pc' := 15) rfl rfl ?_
  refine qa_bk_gr rfl rfl qa_dx_0_1 rfl ?_
  refine qa_bk_do (pc' := 19) rfl rfl ?_
  obtain ⟨c2, hc3, h⟩ := Option.bind_eq_some_iff.mp h
  refine qa_bk_cv (qa_tX1_placeInLine qa_rg_1 hc3) rfl rfl rfl rfl rfl rfl rfl (qa_ds0 qa_rg_1) ?_
  refine qa_bk_do (pc' := 23) (lv' := [(2, _), (0, _), (1, _)]) rfl rfl ?_
  refine qa_bk_do (pc' := 24) rfl rfl ?_
  refine qa_bk_do (pc' := 25) rfl rfl ?_
  rcases qa_ite h with ⟨hc4, h⟩ | ⟨hc4, h⟩
  · refine qa_bk_1t (a := 32) (b := 28) hc4 rfl rfl ?_
    refine qa_bk_do (pc' := 33) rfl rfl ?_
    exact qa_bk_lw (qa_tX9_burnPlace_33  h) rfl rfl (And.intro rfl (And.intro rfl (And.intro rfl (trivial))))
  · refine qa_bk_1f (a := 32) (b := 28) hc4 rfl rfl ?_
    refine qa_bk_do (pc' := 29) rfl rfl ?_
    refine qa_bk_do (pc' := 33) rfl rfl ?_
    exact qa_bk_lw (qa_tX9_burnPlace_33  h) rfl rfl (And.intro rfl (And.intro rfl (And.intro rfl (trivial))))
noncomputable def qa_fX9_places  (σ : qa_T) : Int32 :=
    (σ.1 (1, 9) 0)
set_option maxRecDepth 100000 in
theorem qa_tX9_places {L : Nat}   {σ : qa_T} {r : Int32} (h : qa_fX9_places  σ = r) : qa_Bk (qa_ds L) qa_mX9_places 0 (qa_ag 0 [.inl (0, 1)]) [] σ (.inl (some (.inr (.int r)))) σ := by
  unfold qa_fX9_places at h
  try dsimp only at h
  show qa_Bk (qa_ds L) qa_mX9_places 0 [(0, .inl (0, 1))] [] σ _ _
  refine qa_bk_do (pc' := 1) rfl rfl ?_
  refine qa_bk_gr rfl rfl qa_dx_0_1 rfl ?_
  refine qa_bk_gr rfl rfl (qa_ds0 qa_rg_1) rfl ?_
  refine qa_bk_gi rfl rfl (qa_ds9 qa_rg_1) rfl ?_
  subst h
  exact qa_bk_ri rfl rfl
noncomputable def qa_fX9_slideAt (a1 : Int32) (σ : qa_T) : ((Int32 ⊕ Nat) × qa_T) :=
    if (qa_bi (qa_fX3_has 1 a1 σ)) = 0 then
      (.inr 345, σ)
    else
    (.inl (qa_fX9_at (1, 10) 24 a1 σ), σ)
set_option maxRecDepth 100000 in
theorem qa_tX9_slideAt {L : Nat} {a1 : Int32}  {σ : qa_T} {r : ((Int32 ⊕ Nat) × qa_T)} (h : qa_fX9_slideAt a1 σ = r) : qa_Bk (qa_ds L) qa_mX9_slideAt 0 (qa_ag 0 [.inl (0, 1), .inr (.int a1)]) [] σ (qa_ri r.1) r.2 := by
  unfold qa_fX9_slideAt at h
  try dsimp only at h
  show qa_Bk (qa_ds L) qa_mX9_slideAt 0 [(0, .inl (0, 1)), (1, .inr (.int a1))] [] σ _ _
  refine qa_bk_do (pc' := 1) rfl rfl ?_
  refine qa_bk_gr rfl rfl qa_dx_0_1 rfl ?_
  refine qa_bk_gr rfl rfl (qa_ds0 qa_rg_1) rfl ?_
  refine qa_bk_do (pc' := 8) rfl rfl ?_
  refine qa_bk_cv (qa_tX3_has qa_rg_1 rfl) rfl rfl rfl rfl rfl rfl rfl (qa_ds9 qa_rg_1) ?_
  rcases qa_ite h with ⟨hc1, h⟩ | ⟨hc1, h⟩
  · subst h
    exact qa_bk_cx (qa_tX9_needIndex_x hc1) rfl rfl rfl rfl rfl rfl rfl rfl
  refine qa_bk_cs (qa_tX9_needIndex_o hc1) rfl rfl rfl rfl rfl rfl rfl ?_
  refine qa_bk_do (pc' := 15) rfl rfl ?_
  refine qa_bk_gr rfl rfl qa_dx_0_1 rfl ?_
  refine qa_bk_gr rfl rfl (qa_ds0 qa_rg_1) rfl ?_
  refine qa_bk_gr rfl rfl (qa_ds9 qa_rg_1) rfl ?_
  refine qa_bk_do (pc' := 25) rfl rfl ?_
  refine qa_bk_cs (qa_tX9_at (qa_ds10 qa_rg_1) (Nat.le_of_ble_eq_true rfl) rfl) rfl rfl rfl rfl rfl rfl rfl ?_
  subst h
  exact qa_bk_ri rfl rfl
noncomputable def qa_fX9_showPlace_19  (y0 : Int32) (σ : qa_T) : ((Int32 ⊕ Nat) × qa_T) :=
    if y0 = 0 then
      (.inr 348, σ)
    else
    (.inl (σ.1 (1, 9) 1), σ)
noncomputable def qa_fX9_showPlace  (σ : qa_T) : ((Int32 ⊕ Nat) × qa_T) :=
    if (σ.1 (1, 9) 1) = (Int32.ofInt (-1)) then
      qa_fX9_showPlace_19  (Int32.ofInt 0) σ
    else
      qa_fX9_showPlace_19  (Int32.ofInt 1) σ
set_option maxRecDepth 100000 in
theorem qa_tX9_showPlace_19 {L : Nat}   {y0 : Int32} {σ : qa_T} {r : ((Int32 ⊕ Nat) × qa_T)} (h : qa_fX9_showPlace_19  y0 σ = r) : qa_Bk (qa_ds L) qa_mX9_showPlace 19 [(0, .inl (0, 1))] [.inr (.int y0)] σ (qa_ri r.1) r.2 := by
  unfold qa_fX9_showPlace_19 at h
  try dsimp only at h
  rcases qa_ite h with ⟨hc2, h⟩ | ⟨hc2, h⟩
  · subst h
    exact qa_bk_cx (qa_tX9_needState_x hc2) rfl rfl rfl rfl rfl rfl rfl rfl
  refine qa_bk_cs (qa_tX9_needState_o hc2) rfl rfl rfl rfl rfl rfl rfl ?_
  refine qa_bk_do (pc' := 23) rfl rfl ?_
  refine qa_bk_gr rfl rfl qa_dx_0_1 rfl ?_
  refine qa_bk_gr rfl rfl (qa_ds0 qa_rg_1) rfl ?_
  refine qa_bk_gi rfl rfl (qa_ds9 qa_rg_1) rfl ?_
  subst h
  exact qa_bk_ri rfl rfl
set_option maxRecDepth 100000 in
theorem qa_tX9_showPlace {L : Nat}   {σ : qa_T} {r : ((Int32 ⊕ Nat) × qa_T)} (h : qa_fX9_showPlace  σ = r) : qa_Bk (qa_ds L) qa_mX9_showPlace 0 (qa_ag 0 [.inl (0, 1)]) [] σ (qa_ri r.1) r.2 := by
  unfold qa_fX9_showPlace at h
  try dsimp only at h
  show qa_Bk (qa_ds L) qa_mX9_showPlace 0 [(0, .inl (0, 1))] [] σ _ _
  refine qa_bk_do (pc' := 1) rfl rfl ?_
  refine qa_bk_gr rfl rfl qa_dx_0_1 rfl ?_
  refine qa_bk_gr rfl rfl (qa_ds0 qa_rg_1) rfl ?_
  refine qa_bk_gi rfl rfl (qa_ds9 qa_rg_1) rfl ?_
  refine qa_bk_do (pc' := 11) rfl rfl ?_
  rcases qa_ite h with ⟨hc1, h⟩ | ⟨hc1, h⟩
  · refine qa_bk_1t (a := 18) (b := 14) hc1 rfl rfl ?_
    refine qa_bk_do (pc' := 19) rfl rfl ?_
    exact qa_bk_lw (qa_tX9_showPlace_19  h) rfl rfl (And.intro rfl (trivial))
  · refine qa_bk_1f (a := 18) (b := 14) hc1 rfl rfl ?_
    refine qa_bk_do (pc' := 15) rfl rfl ?_
    refine qa_bk_do (pc' := 19) rfl rfl ?_
    exact qa_bk_lw (qa_tX9_showPlace_19  h) rfl rfl (And.intro rfl (trivial))
noncomputable def qa_fX9_shown_19  (y0 : Int32) (σ : qa_T) : ((Int32 ⊕ Nat) × qa_T) :=
    if y0 = 0 then
      (.inr 348, σ)
    else
    (.inl (σ.1 (1, 11) 0), σ)
noncomputable def qa_fX9_shown  (σ : qa_T) : ((Int32 ⊕ Nat) × qa_T) :=
    if (σ.1 (1, 11) 0) = (Int32.ofInt (-1)) then
      qa_fX9_shown_19  (Int32.ofInt 0) σ
    else
      qa_fX9_shown_19  (Int32.ofInt 1) σ
set_option maxRecDepth 100000 in
theorem qa_tX9_shown_19 {L : Nat}   {y0 : Int32} {σ : qa_T} {r : ((Int32 ⊕ Nat) × qa_T)} (h : qa_fX9_shown_19  y0 σ = r) : qa_Bk (qa_ds L) qa_mX9_shown 19 [(0, .inl (0, 1))] [.inr (.int y0)] σ (qa_ri r.1) r.2 := by
  unfold qa_fX9_shown_19 at h
  try dsimp only at h
  rcases qa_ite h with ⟨hc2, h⟩ | ⟨hc2, h⟩
  · subst h
    exact qa_bk_cx (qa_tX9_needState_x hc2) rfl rfl rfl rfl rfl rfl rfl rfl
  refine qa_bk_cs (qa_tX9_needState_o hc2) rfl rfl rfl rfl rfl rfl rfl ?_
  refine qa_bk_do (pc' := 23) rfl rfl ?_
  refine qa_bk_gr rfl rfl qa_dx_0_1 rfl ?_
  refine qa_bk_gr rfl rfl (qa_ds0 qa_rg_1) rfl ?_
  refine qa_bk_gi rfl rfl (qa_ds11 qa_rg_1) rfl ?_
  subst h
  exact qa_bk_ri rfl rfl
set_option maxRecDepth 100000 in
theorem qa_tX9_shown {L : Nat}   {σ : qa_T} {r : ((Int32 ⊕ Nat) × qa_T)} (h : qa_fX9_shown  σ = r) : qa_Bk (qa_ds L) qa_mX9_shown 0 (qa_ag 0 [.inl (0, 1)]) [] σ (qa_ri r.1) r.2 := by
  unfold qa_fX9_shown at h
  try dsimp only at h
  show qa_Bk (qa_ds L) qa_mX9_shown 0 [(0, .inl (0, 1))] [] σ _ _
  refine qa_bk_do (pc' := 1) rfl rfl ?_
  refine qa_bk_gr rfl rfl qa_dx_0_1 rfl ?_
  refine qa_bk_gr rfl rfl (qa_ds0 qa_rg_1) rfl ?_
  refine qa_bk_gi rfl rfl (qa_ds11 qa_rg_1) rfl ?_
  refine qa_bk_do (pc' := 11) rfl rfl ?_
  rcases qa_ite h with ⟨hc1, h⟩ | ⟨hc1, h⟩
  · refine qa_bk_1t (a := 18) (b := 14) hc1 rfl rfl ?_
    refine qa_bk_do (pc' := 19) rfl rfl ?_
    exact qa_bk_lw (qa_tX9_shown_19  h) rfl rfl (And.intro rfl (trivial))
  · refine qa_bk_1f (a := 18) (b := 14) hc1 rfl rfl ?_
    refine qa_bk_do (pc' := 15) rfl rfl ?_
    refine qa_bk_do (pc' := 19) rfl rfl ?_
    exact qa_bk_lw (qa_tX9_shown_19  h) rfl rfl (And.intro rfl (trivial))
noncomputable def qa_fX9_fading_19  (y0 : Int32) (σ : qa_T) : ((Int32 ⊕ Nat) × qa_T) :=
    if y0 = 0 then
      (.inr 348, σ)
    else
    (.inl (σ.1 (1, 11) 2), σ)
noncomputable def qa_fX9_fading  (σ : qa_T) : ((Int32 ⊕ Nat) × qa_T) :=
    if (σ.1 (1, 11) 2) = (Int32.ofInt (-1)) then
      qa_fX9_fading_19  (Int32.ofInt 0) σ
    else
      qa_fX9_fading_19  (Int32.ofInt 1) σ
set_option maxRecDepth 100000 in
theorem qa_tX9_fading_19 {L : Nat}   {y0 : Int32} {σ : qa_T} {r : ((Int32 ⊕ Nat) × qa_T)} (h : qa_fX9_fading_19  y0 σ = r) : qa_Bk (qa_ds L) qa_mX9_fading 19 [(0, .inl (0, 1))] [.inr (.int y0)] σ (qa_ri r.1) r.2 := by
  unfold qa_fX9_fading_19 at h
  try dsimp only at h
  rcases qa_ite h with ⟨hc2, h⟩ | ⟨hc2, h⟩
  · subst h
    exact qa_bk_cx (qa_tX9_needState_x hc2) rfl rfl rfl rfl rfl rfl rfl rfl
  refine qa_bk_cs (qa_tX9_needState_o hc2) rfl rfl rfl rfl rfl rfl rfl ?_
  refine qa_bk_do (pc' := 23) rfl rfl ?_
  refine qa_bk_gr rfl rfl qa_dx_0_1 rfl ?_
  refine qa_bk_gr rfl rfl (qa_ds0 qa_rg_1) rfl ?_
  refine qa_bk_gi rfl rfl (qa_ds11 qa_rg_1) rfl ?_
  subst h
  exact qa_bk_ri rfl rfl
set_option maxRecDepth 100000 in
theorem qa_tX9_fading {L : Nat}   {σ : qa_T} {r : ((Int32 ⊕ Nat) × qa_T)} (h : qa_fX9_fading  σ = r) : qa_Bk (qa_ds L) qa_mX9_fading 0 (qa_ag 0 [.inl (0, 1)]) [] σ (qa_ri r.1) r.2 := by
  unfold qa_fX9_fading at h
  try dsimp only at h
  show qa_Bk (qa_ds L) qa_mX9_fading 0 [(0, .inl (0, 1))] [] σ _ _
  refine qa_bk_do (pc' := 1) rfl rfl ?_
  refine qa_bk_gr rfl rfl qa_dx_0_1 rfl ?_
  refine qa_bk_gr rfl rfl (qa_ds0 qa_rg_1) rfl ?_
  refine qa_bk_gi rfl rfl (qa_ds11 qa_rg_1) rfl ?_
  refine qa_bk_do (pc' := 11) rfl rfl ?_
  rcases qa_ite h with ⟨hc1, h⟩ | ⟨hc1, h⟩
  · refine qa_bk_1t (a := 18) (b := 14) hc1 rfl rfl ?_
    refine qa_bk_do (pc' := 19) rfl rfl ?_
    exact qa_bk_lw (qa_tX9_fading_19  h) rfl rfl (And.intro rfl (trivial))
  · refine qa_bk_1f (a := 18) (b := 14) hc1 rfl rfl ?_
    refine qa_bk_do (pc' := 15) rfl rfl ?_
    refine qa_bk_do (pc' := 19) rfl rfl ?_
    exact qa_bk_lw (qa_tX9_fading_19  h) rfl rfl (And.intro rfl (trivial))
