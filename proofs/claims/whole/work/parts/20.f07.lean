/-! the methods as functions (written by wip/tools/gen.py) -/
noncomputable def qa_fX9_loadOf (a1 : Int32) (σ : qa_T) : ((Int32 ⊕ Nat) × qa_T) :=
    if (qa_bi (qa_fX6_has 1 a1 σ)) = 0 then
      (.inr 345, σ)
    else
    (.inl (qa_fX6_ticksToLoad 1 a1 (Int32.ofInt 0) σ), σ)
set_option maxRecDepth 100000 in
theorem qa_tX9_loadOf {L : Nat} {a1 : Int32}  {σ : qa_T} {r : ((Int32 ⊕ Nat) × qa_T)} (h : qa_fX9_loadOf a1 σ = r) : qa_Bk (qa_ds L) qa_mX9_loadOf 0 (qa_ag 0 [.inl (0, 1), .inr (.int a1)]) [] σ (qa_ri r.1) r.2 := by
  unfold qa_fX9_loadOf at h
  try dsimp only at h
  show qa_Bk (qa_ds L) qa_mX9_loadOf 0 [(0, .inl (0, 1)), (1, .inr (.int a1))] [] σ _ _
  refine qa_bk_do (pc' := 1) rfl rfl ?_
  refine qa_bk_gr rfl rfl qa_dx_0_1 rfl ?_
  refine qa_bk_gr rfl rfl (qa_ds0 qa_rg_1) rfl ?_
  refine qa_bk_do (pc' := 8) rfl rfl ?_
  refine qa_bk_cv (qa_tX6_has qa_rg_1 rfl) rfl rfl rfl rfl rfl rfl rfl (qa_ds1 qa_rg_1) ?_
  rcases qa_ite h with ⟨hc1, h⟩ | ⟨hc1, h⟩
  · subst h
    exact qa_bk_cx (qa_tX9_needIndex_x hc1) rfl rfl rfl rfl rfl rfl rfl rfl
  refine qa_bk_cs (qa_tX9_needIndex_o hc1) rfl rfl rfl rfl rfl rfl rfl ?_
  refine qa_bk_do (pc' := 15) rfl rfl ?_
  refine qa_bk_gr rfl rfl qa_dx_0_1 rfl ?_
  refine qa_bk_gr rfl rfl (qa_ds0 qa_rg_1) rfl ?_
  refine qa_bk_do (pc' := 22) rfl rfl ?_
  refine qa_bk_do (pc' := 23) rfl rfl ?_
  refine qa_bk_cv (qa_tX6_ticksToLoad qa_rg_1 rfl) rfl rfl rfl rfl rfl rfl rfl (qa_ds1 qa_rg_1) ?_
  subst h
  exact qa_bk_ri rfl rfl
noncomputable def qa_fX9_fadeOf (a1 : Int32) (σ : qa_T) : ((Int32 ⊕ Nat) × qa_T) :=
    if (qa_bi (qa_fX6_has 1 a1 σ)) = 0 then
      (.inr 345, σ)
    else
    (.inl (qa_fX9_at (1, 4) 16 a1 σ), σ)
set_option maxRecDepth 100000 in
theorem qa_tX9_fadeOf {L : Nat} {a1 : Int32}  {σ : qa_T} {r : ((Int32 ⊕ Nat) × qa_T)} (h : qa_fX9_fadeOf a1 σ = r) : qa_Bk (qa_ds L) qa_mX9_fadeOf 0 (qa_ag 0 [.inl (0, 1), .inr (.int a1)]) [] σ (qa_ri r.1) r.2 := by
  unfold qa_fX9_fadeOf at h
  try dsimp only at h
  show qa_Bk (qa_ds L) qa_mX9_fadeOf 0 [(0, .inl (0, 1)), (1, .inr (.int a1))] [] σ _ _
  refine qa_bk_do (pc' := 1) rfl rfl ?_
  refine qa_bk_gr rfl rfl qa_dx_0_1 rfl ?_
  refine qa_bk_gr rfl rfl (qa_ds0 qa_rg_1) rfl ?_
  refine qa_bk_do (pc' := 8) rfl rfl ?_
  refine qa_bk_cv (qa_tX6_has qa_rg_1 rfl) rfl rfl rfl rfl rfl rfl rfl (qa_ds1 qa_rg_1) ?_
  rcases qa_ite h with ⟨hc1, h⟩ | ⟨hc1, h⟩
  · subst h
    exact qa_bk_cx (qa_tX9_needIndex_x hc1) rfl rfl rfl rfl rfl rfl rfl rfl
  refine qa_bk_cs (qa_tX9_needIndex_o hc1) rfl rfl rfl rfl rfl rfl rfl ?_
  refine qa_bk_do (pc' := 15) rfl rfl ?_
  refine qa_bk_gr rfl rfl qa_dx_0_1 rfl ?_
  refine qa_bk_gr rfl rfl (qa_ds0 qa_rg_1) rfl ?_
  refine qa_bk_gr rfl rfl (qa_ds1 qa_rg_1) rfl ?_
  refine qa_bk_do (pc' := 25) rfl rfl ?_
  refine qa_bk_cs (qa_tX9_at (qa_ds4 qa_rg_1) (Nat.le_of_ble_eq_true rfl) rfl) rfl rfl rfl rfl rfl rfl rfl ?_
  subst h
  exact qa_bk_ri rfl rfl
noncomputable def qa_fX9_isLoaded (a1 : Int32) (σ : qa_T) : ((Bool ⊕ Nat) × qa_T) :=
    if (qa_bi (qa_fX6_has 1 a1 σ)) = 0 then
      (.inr 345, σ)
    else
    (.inl (qa_fX6_isReady 1 a1 σ), σ)
set_option maxRecDepth 100000 in
theorem qa_tX9_isLoaded {L : Nat} {a1 : Int32}  {σ : qa_T} {r : ((Bool ⊕ Nat) × qa_T)} (h : qa_fX9_isLoaded a1 σ = r) : qa_Bk (qa_ds L) qa_mX9_isLoaded 0 (qa_ag 0 [.inl (0, 1), .inr (.int a1)]) [] σ (qa_rz r.1) r.2 := by
  unfold qa_fX9_isLoaded at h
  try dsimp only at h
  show qa_Bk (qa_ds L) qa_mX9_isLoaded 0 [(0, .inl (0, 1)), (1, .inr (.int a1))] [] σ _ _
  refine qa_bk_do (pc' := 1) rfl rfl ?_
  refine qa_bk_gr rfl rfl qa_dx_0_1 rfl ?_
  refine qa_bk_gr rfl rfl (qa_ds0 qa_rg_1) rfl ?_
  refine qa_bk_do (pc' := 8) rfl rfl ?_
  refine qa_bk_cv (qa_tX6_has qa_rg_1 rfl) rfl rfl rfl rfl rfl rfl rfl (qa_ds1 qa_rg_1) ?_
  rcases qa_ite h with ⟨hc1, h⟩ | ⟨hc1, h⟩
  · subst h
    exact qa_bk_cx (qa_tX9_needIndex_x hc1) rfl rfl rfl rfl rfl rfl rfl rfl
  refine qa_bk_cs (qa_tX9_needIndex_o hc1) rfl rfl rfl rfl rfl rfl rfl ?_
  refine qa_bk_do (pc' := 15) rfl rfl ?_
  refine qa_bk_gr rfl rfl qa_dx_0_1 rfl ?_
  refine qa_bk_gr rfl rfl (qa_ds0 qa_rg_1) rfl ?_
  refine qa_bk_do (pc' := 22) rfl rfl ?_
  refine qa_bk_cv (qa_tX6_isReady qa_rg_1 rfl) rfl rfl rfl rfl rfl rfl rfl (qa_ds1 qa_rg_1) ?_
  subst h
  exact qa_bk_rb rfl rfl rfl
noncomputable def qa_fX9_isOnShow (a1 : Int32) (σ : qa_T) : ((Bool ⊕ Nat) × qa_T) :=
    if (qa_bi (qa_fX6_has 1 a1 σ)) = 0 then
      (.inr 345, σ)
    else
    (.inl (qa_fX7_bears 1 a1 σ), σ)
set_option maxRecDepth 100000 in
theorem qa_tX9_isOnShow {L : Nat} {a1 : Int32}  {σ : qa_T} {r : ((Bool ⊕ Nat) × qa_T)} (h : qa_fX9_isOnShow a1 σ = r) : qa_Bk (qa_ds L) qa_mX9_isOnShow 0 (qa_ag 0 [.inl (0, 1), .inr (.int a1)]) [] σ (qa_rz r.1) r.2 := by
  unfold qa_fX9_isOnShow at h
  try dsimp only at h
  show qa_Bk (qa_ds L) qa_mX9_isOnShow 0 [(0, .inl (0, 1)), (1, .inr (.int a1))] [] σ _ _
  refine qa_bk_do (pc' := 1) rfl rfl ?_
  refine qa_bk_gr rfl rfl qa_dx_0_1 rfl ?_
  refine qa_bk_gr rfl rfl (qa_ds0 qa_rg_1) rfl ?_
  refine qa_bk_do (pc' := 8) rfl rfl ?_
  refine qa_bk_cv (qa_tX6_has qa_rg_1 rfl) rfl rfl rfl rfl rfl rfl rfl (qa_ds1 qa_rg_1) ?_
  rcases qa_ite h with ⟨hc1, h⟩ | ⟨hc1, h⟩
  · subst h
    exact qa_bk_cx (qa_tX9_needIndex_x hc1) rfl rfl rfl rfl rfl rfl rfl rfl
  refine qa_bk_cs (qa_tX9_needIndex_o hc1) rfl rfl rfl rfl rfl rfl rfl ?_
  refine qa_bk_do (pc' := 15) rfl rfl ?_
  refine qa_bk_gr rfl rfl qa_dx_0_1 rfl ?_
  refine qa_bk_gr rfl rfl (qa_ds0 qa_rg_1) rfl ?_
  refine qa_bk_do (pc' := 22) rfl rfl ?_
  refine qa_bk_cv (qa_tX7_bears qa_rg_1 rfl) rfl rfl rfl rfl rfl rfl rfl (qa_ds11 qa_rg_1) ?_
  subst h
  exact qa_bk_rb rfl rfl rfl
noncomputable def qa_fX9_glowOf (a1 : Int32) (σ : qa_T) : ((Int32 ⊕ Nat) × qa_T) :=
    if (qa_bi (qa_fX6_has 1 a1 σ)) = 0 then
      (.inr 345, σ)
    else
    (.inl (qa_fX9_at (1, 6) 16 a1 σ), σ)
set_option maxRecDepth 100000 in
theorem qa_tX9_glowOf {L : Nat} {a1 : Int32}  {σ : qa_T} {r : ((Int32 ⊕ Nat) × qa_T)} (h : qa_fX9_glowOf a1 σ = r) : qa_Bk (qa_ds L) qa_mX9_glowOf 0 (qa_ag 0 [.inl (0, 1), .inr (.int a1)]) [] σ (qa_ri r.1) r.2 := by
  unfold qa_fX9_glowOf at h
  try dsimp only at h
  show qa_Bk (qa_ds L) qa_mX9_glowOf 0 [(0, .inl (0, 1)), (1, .inr (.int a1))] [] σ _ _
  refine qa_bk_do (pc' := 1) rfl rfl ?_
  refine qa_bk_gr rfl rfl qa_dx_0_1 rfl ?_
  refine qa_bk_gr rfl rfl (qa_ds0 qa_rg_1) rfl ?_
  refine qa_bk_do (pc' := 8) rfl rfl ?_
  refine qa_bk_cv (qa_tX6_has qa_rg_1 rfl) rfl rfl rfl rfl rfl rfl rfl (qa_ds1 qa_rg_1) ?_
  rcases qa_ite h with ⟨hc1, h⟩ | ⟨hc1, h⟩
  · subst h
    exact qa_bk_cx (qa_tX9_needIndex_x hc1) rfl rfl rfl rfl rfl rfl rfl rfl
  refine qa_bk_cs (qa_tX9_needIndex_o hc1) rfl rfl rfl rfl rfl rfl rfl ?_
  refine qa_bk_do (pc' := 15) rfl rfl ?_
  refine qa_bk_gr rfl rfl qa_dx_0_1 rfl ?_
  refine qa_bk_gr rfl rfl (qa_ds0 qa_rg_1) rfl ?_
  refine qa_bk_gr rfl rfl (qa_ds1 qa_rg_1) rfl ?_
  refine qa_bk_do (pc' := 25) rfl rfl ?_
  refine qa_bk_cs (qa_tX9_at (qa_ds6 qa_rg_1) (Nat.le_of_ble_eq_true rfl) rfl) rfl rfl rfl rfl rfl rfl rfl ?_
  subst h
  exact qa_bk_ri rfl rfl
noncomputable def qa_fX9_burntTimes (a1 : Int32) (σ : qa_T) : ((Int32 ⊕ Nat) × qa_T) :=
    if (qa_bi (qa_fX6_has 1 a1 σ)) = 0 then
      (.inr 345, σ)
    else
    (.inl (qa_fX9_at (1, 7) 16 a1 σ), σ)
set_option maxRecDepth 100000 in
theorem qa_tX9_burntTimes {L : Nat} {a1 : Int32}  {σ : qa_T} {r : ((Int32 ⊕ Nat) × qa_T)} (h : qa_fX9_burntTimes a1 σ = r) : qa_Bk (qa_ds L) qa_mX9_burntTimes 0 (qa_ag 0 [.inl (0, 1), .inr (.int a1)]) [] σ (qa_ri r.1) r.2 := by
  unfold qa_fX9_burntTimes at h
  try dsimp only at h
  show qa_Bk (qa_ds L) qa_mX9_burntTimes 0 [(0, .inl (0, 1)), (1, .inr (.int a1))] [] σ _ _
  refine qa_bk_do (pc' := 1) rfl rfl ?_
  refine qa_bk_gr rfl rfl qa_dx_0_1 rfl ?_
  refine qa_bk_gr rfl rfl (qa_ds0 qa_rg_1) rfl ?_
  refine qa_bk_do (pc' := 8) rfl rfl ?_
  refine qa_bk_cv (qa_tX6_has qa_rg_1 rfl) rfl rfl rfl rfl rfl rfl rfl (qa_ds1 qa_rg_1) ?_
  rcases qa_ite h with ⟨hc1, h⟩ | ⟨hc1, h⟩
  · subst h
    exact qa_bk_cx (qa_tX9_needIndex_x hc1) rfl rfl rfl rfl rfl rfl rfl rfl
  refine qa_bk_cs (qa_tX9_needIndex_o hc1) rfl rfl rfl rfl rfl rfl rfl ?_
  refine qa_bk_do (pc' := 15) rfl rfl ?_
  refine qa_bk_gr rfl rfl qa_dx_0_1 rfl ?_
  refine qa_bk_gr rfl rfl (qa_ds0 qa_rg_1) rfl ?_
  refine qa_bk_gr rfl rfl (qa_ds1 qa_rg_1) rfl ?_
  refine qa_bk_do (pc' := 25) rfl rfl ?_
  refine qa_bk_cs (qa_tX9_at (qa_ds7 qa_rg_1) (Nat.le_of_ble_eq_true rfl) rfl) rfl rfl rfl rfl rfl rfl rfl ?_
  subst h
  exact qa_bk_ri rfl rfl
noncomputable def qa_fX9_nextUse_35 (a1 : Int32) (x2 : Int32) (y0 : Int32) (σ : qa_T) : Option ((Int32 ⊕ Nat) × qa_T) :=
    if y0 = 0 then
      some (.inr 348, σ)
    else
    some (.inl x2, σ)
noncomputable def qa_fX9_nextUse (a1 : Int32) (σ : qa_T) : Option ((Int32 ⊕ Nat) × qa_T) :=
    if (qa_bi (qa_fX6_has 1 a1 σ)) = 0 then
      some (.inr 345, σ)
    else
    (qa_fX3_placesUntil 1 a1 σ).bind fun c2 =>
    if c2 ≤ 0 then
      qa_fX9_nextUse_35 a1 c2 (Int32.ofInt 0) σ
    else
      qa_fX9_nextUse_35 a1 c2 (Int32.ofInt 1) σ
set_option maxRecDepth 100000 in
theorem qa_tX9_nextUse_35 {L : Nat} {a1 : Int32}  {x2 : Int32} {y0 : Int32} {σ : qa_T} {r : ((Int32 ⊕ Nat) × qa_T)} (h : qa_fX9_nextUse_35 a1 x2 y0 σ = some r) : qa_Bk (qa_ds L) qa_mX9_nextUse 35 [(0, .inl (0, 1)), (1, .inr (.int a1)), (2, .inr (.int x2))] [.inr (.int y0)] σ (qa_ri r.1) r.2 := by
  unfold qa_fX9_nextUse_35 at h
  try dsimp only at h
  rcases qa_ite h with ⟨hc5, h⟩ | ⟨hc5, h⟩
  · cases h
    exact qa_bk_cx (qa_tX9_needState_x hc5) rfl rfl rfl rfl rfl rfl rfl rfl
  refine qa_bk_cs (qa_tX9_needState_o hc5) rfl rfl rfl rfl rfl rfl rfl ?_
  refine qa_bk_do (pc' := 39) rfl rfl ?_
  cases h
  exact qa_bk_ri rfl rfl
set_option maxRecDepth 100000 in
theorem qa_tX9_nextUse {L : Nat} {a1 : Int32}  {σ : qa_T} {r : ((Int32 ⊕ Nat) × qa_T)} (h : qa_fX9_nextUse a1 σ = some r) : qa_Bk (qa_ds L) qa_mX9_nextUse 0 (qa_ag 0 [.inl (0, 1), .inr (.int a1)]) [] σ (qa_ri r.1) r.2 := by
  unfold qa_fX9_nextUse at h
  try dsimp only at h
  show qa_Bk (qa_ds L) qa_mX9_nextUse 0 [(0, .inl (0, 1)), (1, .inr (.int a1))] [] σ _ _
  refine qa_bk_do (pc' := 1) rfl rfl ?_
  refine qa_bk_gr rfl rfl qa_dx_0_1 rfl ?_
  refine qa_bk_gr rfl rfl (qa_ds0 qa_rg_1) rfl ?_
  refine qa_bk_do (pc' := 8) rfl rfl ?_
  refine qa_bk_cv (qa_tX6_has qa_rg_1 rfl) rfl rfl rfl rfl rfl rfl rfl (qa_ds1 qa_rg_1) ?_
  rcases qa_ite h with ⟨hc1, h⟩ | ⟨hc1, h⟩
  · cases h
    exact qa_bk_cx (qa_tX9_needIndex_x hc1) rfl rfl rfl rfl rfl rfl rfl rfl
  refine qa_bk_cs (qa_tX9_needIndex_o hc1) rfl rfl rfl rfl rfl rfl rfl ?_
  refine qa_bk_do (pc' := 15) rfl rfl ?_
  refine qa_bk_gr rfl rfl qa_dx_0_1 rfl ?_
  refine qa_bk_gr rfl rfl (qa_ds0 qa_rg_1) rfl ?_
  refine qa_bk_do (pc' := 22) rfl rfl ?_
  obtain ⟨c2, hc3, h⟩ := Option.bind_eq_some_iff.mp h
  refine qa_bk_cv (qa_tX3_placesUntil qa_rg_1 hc3) rfl rfl rfl rfl rfl rfl rfl (qa_ds9 qa_rg_1) ?_
  refine qa_bk_do (pc' := 26) (lv' := [(2, _), (0, _), (1, _)]) rfl rfl ?_
  refine qa_bk_do (pc' := 27) rfl rfl ?_
  rcases qa_ite h with ⟨hc4, h⟩ | ⟨hc4, h⟩
  · refine qa_bk_1t (a := 34) (b := 30) hc4 rfl rfl ?_
    refine qa_bk_do (pc' := 35) rfl rfl ?_
    exact qa_bk_lw (qa_tX9_nextUse_35  h) rfl rfl (And.intro rfl (And.intro rfl (And.intro rfl (trivial))))
  · refine qa_bk_1f (a := 34) (b := 30) hc4 rfl rfl ?_
    refine qa_bk_do (pc' := 31) rfl rfl ?_
    refine qa_bk_do (pc' := 35) rfl rfl ?_
    exact qa_bk_lw (qa_tX9_nextUse_35  h) rfl rfl (And.intro rfl (And.intro rfl (And.intro rfl (trivial))))
noncomputable def qa_fX9_burnPlace_33 (a1 : Int32) (x2 : Int32) (y0 : Int32) (σ : qa_T) : Option ((Int32 ⊕ Nat) × qa_T) :=
    if y0 = 0 then
      some (.inr 348, σ)
    else
    some (.inl x2, σ)
noncomputable def qa_fX9_burnPlace (a1 : Int32) (σ : qa_T) : Option ((Int32 ⊕ Nat) × qa_T) :=
    if (qa_bi (qa_fX6_has 1 a1 σ)) = 0 then
      some (.inr 345, σ)
    else
    (qa_fX1_placeInLine 1 a1 σ).bind fun c2 =>
    if c2.1 = (Int32.ofInt (-1)) then
      qa_fX9_burnPlace_33 a1 c2.1 (Int32.ofInt 0) c2.2
    else
      qa_fX9_burnPlace_33 a1 c2.1 (Int32.ofInt 1) c2.2
set_option maxRecDepth 100000 in
theorem qa_tX9_burnPlace_33 {L : Nat} {a1 : Int32}  {x2 : Int32} {y0 : Int32} {σ : qa_T} {r : ((Int32 ⊕ Nat) × qa_T)} (h : qa_fX9_burnPlace_33 a1 x2 y0 σ = some r) : qa_Bk (qa_ds L) qa_mX9_burnPlace 33 [(0, .inl (0, 1)), (1, .inr (.int a1)), (2, .inr (.int x2))] [.inr (.int y0)] σ (qa_ri r.1) r.2 := by
  unfold qa_fX9_burnPlace_33 at h
  try dsimp only at h
  rcases qa_ite h with ⟨hc5, h⟩ | ⟨hc5, h⟩
  · cases h
    exact qa_bk_cx (qa_tX9_needState_x hc5) rfl rfl rfl rfl rfl rfl rfl rfl
  refine qa_bk_cs (qa_tX9_needState_o hc5) rfl rfl rfl rfl rfl rfl rfl ?_
  refine qa_bk_do (pc' := 37) rfl rfl ?_
  cases h
  exact qa_bk_ri rfl rfl
set_option maxRecDepth 100000 in
theorem qa_tX9_burnPlace {L : Nat} {a1 : Int32}  {σ : qa_T} {r : ((Int32 ⊕ Nat) × qa_T)} (h : qa_fX9_burnPlace a1 σ = some r) : qa_Bk (qa_ds L) qa_mX9_burnPlace 0 (qa_ag 0 [.inl (0, 1), .inr (.int a1)]) [] σ (qa_ri r.1) r.2 := by
  unfold qa_fX9_burnPlace at h
  try dsimp only at h
  show qa_Bk (qa_ds L) qa_mX9_burnPlace 0 [(0, .inl (0, 1)), (1, .inr (.int a1))] [] σ _ _
  refine qa_bk_do (pc' := 1) rfl rfl ?_
  refine qa_bk_gr rfl rfl qa_dx_0_1 rfl ?_
  refine qa_bk_gr rfl rfl (qa_ds0 qa_rg_1) rfl ?_
  refine qa_bk_do (pc' := 8) rfl rfl ?_
  refine qa_bk_cv (qa_tX6_has qa_rg_1 rfl) rfl rfl rfl rfl rfl rfl rfl (qa_ds1 qa_rg_1) ?_
  rcases qa_ite h with ⟨hc1, h⟩ | ⟨hc1, h⟩
  · cases h
    exact qa_bk_cx (qa_tX9_needIndex_x hc1) rfl rfl rfl rfl rfl rfl rfl rfl
  refine qa_bk_cs (qa_tX9_needIndex_o hc1) rfl rfl rfl rfl rfl rfl rfl ?_
  refine qa_bk_do (pc' := 15) rfl rfl ?_
  refine qa_bk_gr rfl rfl qa_dx_0_1 rfl ?_
  refine qa_bk_do (pc' := 19) rfl rfl ?_
  obtain ⟨c2, hc3, h⟩ := Option.bind_eq_some_iff.mp h
  refine qa_bk_cv (qa_tX1_placeInLine qa_rg_1 hc3) rfl rfl rfl rfl rfl rfl rfl (qa_ds0 qa_rg_1) ?_
  refine qa_bk_do (pc' := 23) (lv' := [(2, _), (0, _), (1, _)]) rfl rfl ?_
  refine qa_bk_do (pc' := 24) rfl rfl ?_
  refine qa_bk_do (pc' := 25) rfl rfl ?_
  rcases qa_ite h with ⟨hc4, h⟩ | ⟨hc4, h⟩
  · refine qa_bk_1t (a := 32) (b := 28) hc4 rfl rfl ?_
    refine qa_bk_do (pc' := 33) rfl rfl ?_
    exact qa_bk_lw (qa_tX9_burnPlace_33  h) rfl rfl (And.intro rfl (And.intro rfl (And.intro rfl (trivial))))
  · refine qa_bk_1f (a := 32) (b := 28) hc4 rfl rfl ?_
    refine qa_bk_do (pc' := 29) rfl rfl ?_
    refine qa_bk_do (pc' := 33) rfl rfl ?_
    exact qa_bk_lw (qa_tX9_burnPlace_33  h) rfl rfl (And.intro rfl (And.intro rfl (And.intro rfl (trivial))))
noncomputable def qa_fX9_places  (σ : qa_T) : Int32 :=
    (σ.1 (1, 9) 0)
set_option maxRecDepth 100000 in
theorem qa_tX9_places {L : Nat}   {σ : qa_T} {r : Int32} (h : qa_fX9_places  σ = r) : qa_Bk (qa_ds L) qa_mX9_places 0 (qa_ag 0 [.inl (0, 1)]) [] σ (.inl (some (.inr (.int r)))) σ := by
  unfold qa_fX9_places at h
  try dsimp only at h
  show qa_Bk (qa_ds L) qa_mX9_places 0 [(0, .inl (0, 1))] [] σ _ _
  refine qa_bk_do (pc' := 1) rfl rfl ?_
  refine qa_bk_gr rfl rfl qa_dx_0_1 rfl ?_
  refine qa_bk_gr rfl rfl (qa_ds0 qa_rg_1) rfl ?_
  refine qa_bk_gi rfl rfl (qa_ds9 qa_rg_1) rfl ?_
  subst h
  exact qa_bk_ri rfl rfl
noncomputable def qa_fX9_slideAt (a1 : Int32) (σ : qa_T) : ((Int32 ⊕ Nat) × qa_T) :=
    if (qa_bi (qa_fX3_has 1 a1 σ)) = 0 then
      (.inr 345, σ)
    else
    (.inl (qa_fX9_at (1, 10) 24 a1 σ), σ)
set_option maxRecDepth 100000 in
theorem qa_tX9_slideAt {L : Nat} {a1 : Int32}  {σ : qa_T} {r : ((Int32 ⊕ Nat) × qa_T)} (h : qa_fX9_slideAt a1 σ = r) : qa_Bk (qa_ds L) qa_mX9_slideAt 0 (qa_ag 0 [.inl (0, 1), .inr (.int a1)]) [] σ (qa_ri r.1) r.2 := by
  unfold qa_fX9_slideAt at h
  try dsimp only at h
  show qa_Bk (qa_ds L) qa_mX9_slideAt 0 [(0, .inl (0, 1)), (1, .inr (.int a1))] [] σ _ _
  refine qa_bk_do (pc' := 1) rfl rfl ?_
  refine qa_bk_gr rfl rfl qa_dx_0_1 rfl ?_
  refine qa_bk_gr rfl rfl (qa_ds0 qa_rg_1) rfl ?_
  refine qa_bk_do (pc' := 8) rfl rfl ?_
  refine qa_bk_cv (qa_tX3_has qa_rg_1 rfl) rfl rfl rfl rfl rfl rfl rfl (qa_ds9 qa_rg_1) ?_
  rcases qa_ite h with ⟨hc1, h⟩ | ⟨hc1, h⟩
  · subst h
    exact qa_bk_cx (qa_tX9_needIndex_x hc1) rfl rfl rfl rfl rfl rfl rfl rfl
  refine qa_bk_cs (qa_tX9_needIndex_o hc1) rfl rfl rfl rfl rfl rfl rfl ?_
  refine qa_bk_do (pc' := 15) rfl rfl ?_
  refine qa_bk_gr rfl rfl qa_dx_0_1 rfl ?_
  refine qa_bk_gr rfl rfl (qa_ds0 qa_rg_1) rfl ?_
  refine qa_bk_gr rfl rfl (qa_ds9 qa_rg_1) rfl ?_
  refine qa_bk_do (pc' := 25) rfl rfl ?_
  refine qa_bk_cs (qa_tX9_at (qa_ds10 qa_rg_1) (Nat.le_of_ble_eq_true rfl) rfl) rfl rfl rfl rfl rfl rfl rfl ?_
  subst h
  exact qa_bk_ri rfl rfl
noncomputable def qa_fX9_showPlace_19  (y0 : Int32) (σ : qa_T) : ((Int32 ⊕ Nat) × qa_T) :=
    if y0 = 0 then
      (.inr 348, σ)
    else
    (.inl (σ.1 (1, 9) 1), σ)
noncomputable def qa_fX9_showPlace  (σ : qa_T) : ((Int32 ⊕ Nat) × qa_T) :=
    if (σ.1 (1, 9) 1) = (Int32.ofInt (-1)) then
      qa_fX9_showPlace_19  (Int32.ofInt 0) σ
    else
      qa_fX9_showPlace_19  (Int32.ofInt 1) σ
set_option maxRecDepth 100000 in
theorem qa_tX9_showPlace_19 {L : Nat}   {y0 : Int32} {σ : qa_T} {r : ((Int32 ⊕ Nat) × qa_T)} (h : qa_fX9_showPlace_19  y0 σ = r) : qa_Bk (qa_ds L) qa_mX9_showPlace 19 [(0, .inl (0, 1))] [.inr (.int y0)] σ (qa_ri r.1) r.2 := by
  unfold qa_fX9_showPlace_19 at h
  try dsimp only at h
  rcases qa_ite h with ⟨hc2, h⟩ | ⟨hc2, h⟩
  · subst h
    exact qa_bk_cx (qa_tX9_needState_x hc2) rfl rfl rfl rfl rfl rfl rfl rfl
  refine qa_bk_cs (qa_tX9_needState_o hc2) rfl rfl rfl rfl rfl rfl rfl ?_
  refine qa_bk_do (pc' := 23) rfl rfl ?_
  refine qa_bk_gr rfl rfl qa_dx_0_1 rfl ?_
  refine qa_bk_gr rfl rfl (qa_ds0 qa_rg_1) rfl ?_
  refine qa_bk_gi rfl rfl (qa_ds9 qa_rg_1) rfl ?_
  subst h
  exact qa_bk_ri rfl rfl
set_option maxRecDepth 100000 in
theorem qa_tX9_showPlace {L : Nat}   {σ : qa_T} {r : ((Int32 ⊕ Nat) × qa_T)} (h : qa_fX9_showPlace  σ = r) : qa_Bk (qa_ds L) qa_mX9_showPlace 0 (qa_ag 0 [.inl (0, 1)]) [] σ (qa_ri r.1) r.2 := by
  unfold qa_fX9_showPlace at h
  try dsimp only at h
  show qa_Bk (qa_ds L) qa_mX9_showPlace 0 [(0, .inl (0, 1))] [] σ _ _
  refine qa_bk_do (pc' := 1) rfl rfl ?_
  refine qa_bk_gr rfl rfl qa_dx_0_1 rfl ?_
  refine qa_bk_gr rfl rfl (qa_ds0 qa_rg_1) rfl ?_
  refine qa_bk_gi rfl rfl (qa_ds9 qa_rg_1) rfl ?_
  refine qa_bk_do (pc' := 11) rfl rfl ?_
  rcases qa_ite h with ⟨hc1, h⟩ | ⟨hc1, h⟩
  · refine qa_bk_1t (a := 18) (b := 14) hc1 rfl rfl ?_
    refine qa_bk_do (pc' := 19) rfl rfl ?_
    exact qa_bk_lw (qa_tX9_showPlace_19  h) rfl rfl (And.intro rfl (trivial))
  · refine qa_bk_1f (a := 18) (b := 14) hc1 rfl rfl ?_
    refine qa_bk_do (pc' := 15) rfl rfl ?_
    refine qa_bk_do (pc' := 19) rfl rfl ?_
    exact qa_bk_lw (qa_tX9_showPlace_19  h) rfl rfl (And.intro rfl (trivial))
noncomputable def qa_fX9_shown_19  (y0 : Int32) (σ : qa_T) : ((Int32 ⊕ Nat) × qa_T) :=
    if y0 = 0 then
      (.inr 348, σ)
    else
    (.inl (σ.1 (1, 11) 0), σ)
noncomputable def qa_fX9_shown  (σ : qa_T) : ((Int32 ⊕ Nat) × qa_T) :=
    if (σ.1 (1, 11) 0) = (Int32.ofInt (-1)) then
      qa_fX9_shown_19  (Int32.ofInt 0) σ
    else
      qa_fX9_shown_19  (Int32.ofInt 1) σ
set_option maxRecDepth 100000 in
theorem qa_tX9_shown_19 {L : Nat}   {y0 : Int32} {σ : qa_T} {r : ((Int32 ⊕ Nat) × qa_T)} (h : qa_fX9_shown_19  y0 σ = r) : qa_Bk (qa_ds L) qa_mX9_shown 19 [(0, .inl (0, 1))] [.inr (.int y0)] σ (qa_ri r.1) r.2 := by
  unfold qa_fX9_shown_19 at h
  try dsimp only at h
  rcases qa_ite h with ⟨hc2, h⟩ | ⟨hc2, h⟩
  · subst h
    exact qa_bk_cx (qa_tX9_needState_x hc2) rfl rfl rfl rfl rfl rfl rfl rfl
  refine qa_bk_cs (qa_tX9_needState_o hc2) rfl rfl rfl rfl rfl rfl rfl ?_
  refine qa_bk_do (pc' := 23) rfl rfl ?_
  refine qa_bk_gr rfl rfl qa_dx_0_1 rfl ?_
  refine qa_bk_gr rfl rfl (qa_ds0 qa_rg_1) rfl ?_
  refine qa_bk_gi rfl rfl (qa_ds11 qa_rg_1) rfl ?_
  subst h
  exact qa_bk_ri rfl rfl
set_option maxRecDepth 100000 in
theorem qa_tX9_shown {L : Nat}   {σ : qa_T} {r : ((Int32 ⊕ Nat) × qa_T)} (h : qa_fX9_shown  σ = r) : qa_Bk (qa_ds L) qa_mX9_shown 0 (qa_ag 0 [.inl (0, 1)]) [] σ (qa_ri r.1) r.2 := by
  unfold qa_fX9_shown at h
  try dsimp only at h
  show qa_Bk (qa_ds L) qa_mX9_shown 0 [(0, .inl (0, 1))] [] σ _ _
  refine qa_bk_do (pc' := 1) rfl rfl ?_
  refine qa_bk_gr rfl rfl qa_dx_0_1 rfl ?_
  refine qa_bk_gr rfl rfl (qa_ds0 qa_rg_1) rfl ?_
  refine qa_bk_gi rfl rfl (qa_ds11 qa_rg_1) rfl ?_
  refine qa_bk_do (pc' := 11) rfl rfl ?_
  rcases qa_ite h with ⟨hc1, h⟩ | ⟨hc1, h⟩
  · refine qa_bk_1t (a := 18) (b := 14) hc1 rfl rfl ?_
    refine qa_bk_do (pc' := 19) rfl rfl ?_
    exact qa_bk_lw (qa_tX9_shown_19  h) rfl rfl (And.intro rfl (trivial))
  · refine qa_bk_1f (a := 18) (b := 14) hc1 rfl rfl ?_
    refine qa_bk_do (pc' := 15) rfl rfl ?_
    refine qa_bk_do (pc' := 19) rfl rfl ?_
    exact qa_bk_lw (qa_tX9_shown_19  h) rfl rfl (And.intro rfl (trivial))
noncomputable def qa_fX9_fading_19  (y0 : Int32) (σ : qa_T) : ((Int32 ⊕ Nat) × qa_T) :=
    if y0 = 0 then
      (.inr 348, σ)
    else
    (.inl (σ.1 (1, 11) 2), σ)
noncomputable def qa_fX9_fading  (σ : qa_T) : ((Int32 ⊕ Nat) × qa_T) :=
    if (σ.1 (1, 11) 2) = (Int32.ofInt (-1)) then
      qa_fX9_fading_19  (Int32.ofInt 0) σ
    else
      qa_fX9_fading_19  (Int32.ofInt 1) σ
set_option maxRecDepth 100000 in
theorem qa_tX9_fading_19 {L : Nat}   {y0 : Int32} {σ : qa_T} {r : ((Int32 ⊕ Nat) × qa_T)} (h : qa_fX9_fading_19  y0 σ = r) : qa_Bk (qa_ds L) qa_mX9_fading 19 [(0, .inl (0, 1))] [.inr (.int y0)] σ (qa_ri r.1) r.2 := by
  unfold qa_fX9_fading_19 at h
  try dsimp only at h
  rcases qa_ite h with ⟨hc2, h⟩ | ⟨hc2, h⟩
  · subst h
    exact qa_bk_cx (qa_tX9_needState_x hc2) rfl rfl rfl rfl rfl rfl rfl rfl
  refine qa_bk_cs (qa_tX9_needState_o hc2) rfl rfl rfl rfl rfl rfl rfl ?_
  refine qa_bk_do (pc' := 23) rfl rfl ?_
  refine qa_bk_gr rfl rfl qa_dx_0_1 rfl ?_
  refine qa_bk_gr rfl rfl (qa_ds0 qa_rg_1) rfl ?_
  refine qa_bk_gi rfl rfl (qa_ds11 qa_rg_1) rfl ?_
  subst h
  exact qa_bk_ri rfl rfl
set_option maxRecDepth 100000 in
theorem qa_tX9_fading {L : Nat}   {σ : qa_T} {r : ((Int32 ⊕ Nat) × qa_T)} (h : qa_fX9_fading  σ = r) : qa_Bk (qa_ds L) qa_mX9_fading 0 (qa_ag 0 [.inl (0, 1)]) [] σ (qa_ri r.1) r.2 := by
  unfold qa_fX9_fading at h
  try dsimp only at h
  show qa_Bk (qa_ds L) qa_mX9_fading 0 [(0, .inl (0, 1))] [] σ _ _
  refine qa_bk_do (pc' := 1) rfl rfl ?_
  refine qa_bk_gr rfl rfl qa_dx_0_1 rfl ?_
  refine qa_bk_gr rfl rfl (qa_ds0 qa_rg_1) rfl ?_
  refine qa_bk_gi rfl rfl (qa_ds11 qa_rg_1) rfl ?_
  refine qa_bk_do (pc' := 11) rfl rfl ?_
  rcases qa_ite h with ⟨hc1, h⟩ | ⟨hc1, h⟩
  · refine qa_bk_1t (a := 18) (b := 14) hc1 rfl rfl ?_
    refine qa_bk_do (pc' := 19) rfl rfl ?_
    exact qa_bk_lw (qa_tX9_fading_19  h) rfl rfl (And.intro rfl (trivial))
  · refine qa_bk_1f (a := 18) (b := 14) hc1 rfl rfl ?_
    refine qa_bk_do (pc' := 15) rfl rfl ?_
    refine qa_bk_do (pc' := 19) rfl rfl ?_
    exact qa_bk_lw (qa_tX9_fading_19  h) rfl rfl (And.intro rfl (trivial))
noncomputable def qa_fX9_fadeLeft  (σ : qa_T) : Int32 :=
    (σ.1 (1, 11) 3)
set_option maxRecDepth 100000 in
theorem qa_tX9_fadeLeft {L : Nat}   {σ : qa_T} {r : Int32} (h : qa_fX9_fadeLeft  σ = r) : qa_Bk (qa_ds L) qa_mX9_fadeLeft 0 (qa_ag 0 [.inl (0, 1)]) [] σ (.inl (some (.inr (.int r)))) σ := by
  unfold qa_fX9_fadeLeft at h
  try dsimp only at h
  show qa_Bk (qa_ds L) qa_mX9_fadeLeft 0 [(0, .inl (0, 1))] [] σ _ _
  refine qa_bk_do (pc' := 1) rfl rfl ?_
  refine qa_bk_gr rfl rfl qa_dx_0_1 rfl ?_
  refine qa_bk_gr rfl rfl (qa_ds0 qa_rg_1) rfl ?_
  refine qa_bk_gi rfl rfl (qa_ds11 qa_rg_1) rfl ?_
  subst h
  exact qa_bk_ri rfl rfl
noncomputable def qa_fX9_awaited_19  (y0 : Int32) (σ : qa_T) : ((Int32 ⊕ Nat) × qa_T) :=
    if y0 = 0 then
      (.inr 348, σ)
    else
    (.inl (σ.1 (1, 11) 4), σ)
noncomputable def qa_fX9_awaited  (σ : qa_T) : ((Int32 ⊕ Nat) × qa_T) :=
    if (σ.1 (1, 11) 4) = (Int32.ofInt (-1)) then
      qa_fX9_awaited_19  (Int32.ofInt 0) σ
    else
      qa_fX9_awaited_19  (Int32.ofInt 1) σ
set_option maxRecDepth 100000 in
theorem qa_tX9_awaited_19 {L : Nat}   {y0 : Int32} {σ : qa_T} {r : ((Int32 ⊕ Nat) × qa_T)} (h : qa_fX9_awaited_19  y0 σ = r) : qa_Bk (qa_ds L) qa_mX9_awaited 19 [(0, .inl (0, 1))] [.inr (.int y0)] σ (qa_ri r.1) r.2 := by
  unfold qa_fX9_awaited_19 at h
  try dsimp only at h
  rcases qa_ite h with ⟨hc2, h⟩ | ⟨hc2, h⟩
  · subst h
    exact qa_bk_cx (qa_tX9_needState_x hc2) rfl rfl rfl rfl rfl rfl rfl rfl
  refine qa_bk_cs (qa_tX9_needState_o hc2) rfl rfl rfl rfl rfl rfl rfl ?_
  refine qa_bk_do (pc' := 23) rfl rfl ?_
  refine qa_bk_gr rfl rfl qa_dx_0_1 rfl ?_
  refine qa_bk_gr rfl rfl (qa_ds0 qa_rg_1) rfl ?_
  refine qa_bk_gi rfl rfl (qa_ds11 qa_rg_1) rfl ?_
  subst h
  exact qa_bk_ri rfl rfl
set_option maxRecDepth 100000 in
theorem qa_tX9_awaited {L : Nat}   {σ : qa_T} {r : ((Int32 ⊕ Nat) × qa_T)} (h : qa_fX9_awaited  σ = r) : qa_Bk (qa_ds L) qa_mX9_awaited 0 (qa_ag 0 [.inl (0, 1)]) [] σ (qa_ri r.1) r.2 := by
  unfold qa_fX9_awaited at h
  try dsimp only at h
  show qa_Bk (qa_ds L) qa_mX9_awaited 0 [(0, .inl (0, 1))] [] σ _ _
  refine qa_bk_do (pc' := 1) rfl rfl ?_
  refine qa_bk_gr rfl rfl qa_dx_0_1 rfl ?_
  refine qa_bk_gr rfl rfl (qa_ds0 qa_rg_1) rfl ?_
  refine qa_bk_gi rfl rfl (qa_ds11 qa_rg_1) rfl ?_
  refine qa_bk_do (pc' := 11) rfl rfl ?_
  rcases qa_ite h with ⟨hc1, h⟩ | ⟨hc1, h⟩
  · refine qa_bk_1t (a := 18) (b := 14) hc1 rfl rfl ?_
    refine qa_bk_do (pc' := 19) rfl rfl ?_
    exact qa_bk_lw (qa_tX9_awaited_19  h) rfl rfl (And.intro rfl (trivial))
  · refine qa_bk_1f (a := 18) (b := 14) hc1 rfl rfl ?_
    refine qa_bk_do (pc' := 15) rfl rfl ?_
    refine qa_bk_do (pc' := 19) rfl rfl ?_
    exact qa_bk_lw (qa_tX9_awaited_19  h) rfl rfl (And.intro rfl (trivial))
noncomputable def qa_fX9_shownFor_19  (y0 : Int32) (σ : qa_T) : ((Int32 ⊕ Nat) × qa_T) :=
    if y0 = 0 then
      (.inr 348, σ)
    else
    (.inl (σ.1 (1, 11) 1), σ)
noncomputable def qa_fX9_shownFor  (σ : qa_T) : ((Int32 ⊕ Nat) × qa_T) :=
    if (σ.1 (1, 11) 0) = (Int32.ofInt (-1)) then
      qa_fX9_shownFor_19  (Int32.ofInt 0) σ
    else
      qa_fX9_shownFor_19  (Int32.ofInt 1) σ
set_option maxRecDepth 100000 in
theorem qa_tX9_shownFor_19 {L : Nat}   {y0 : Int32} {σ : qa_T} {r : ((Int32 ⊕ Nat) × qa_T)} (h : qa_fX9_shownFor_19  y0 σ = r) : qa_Bk (qa_ds L) qa_mX9_shownFor 19 [(0, .inl (0, 1))] [.inr (.int y0)] σ (qa_ri r.1) r.2 := by
  unfold qa_fX9_shownFor_19 at h
  try dsimp only at h
  rcases qa_ite h with ⟨hc2, h⟩ | ⟨hc2, h⟩
  · subst h
    exact qa_bk_cx (qa_tX9_needState_x hc2) rfl rfl rfl rfl rfl rfl rfl rfl
  refine qa_bk_cs (qa_tX9_needState_o hc2) rfl rfl rfl rfl rfl rfl rfl ?_
  refine qa_bk_do (pc' := 23) rfl rfl ?_
  refine qa_bk_gr rfl rfl qa_dx_0_1 rfl ?_
  refine qa_bk_gr rfl rfl (qa_ds0 qa_rg_1) rfl ?_
  refine qa_bk_gi rfl rfl (qa_ds11 qa_rg_1) rfl ?_
  subst h
  exact qa_bk_ri rfl rfl
set_option maxRecDepth 100000 in
theorem qa_tX9_shownFor {L : Nat}   {σ : qa_T} {r : ((Int32 ⊕ Nat) × qa_T)} (h : qa_fX9_shownFor  σ = r) : qa_Bk (qa_ds L) qa_mX9_shownFor 0 (qa_ag 0 [.inl (0, 1)]) [] σ (qa_ri r.1) r.2 := by
  unfold qa_fX9_shownFor at h
  try dsimp only at h
  show qa_Bk (qa_ds L) qa_mX9_shownFor 0 [(0, .inl (0, 1))] [] σ _ _
  refine qa_bk_do (pc' := 1) rfl rfl ?_
  refine qa_bk_gr rfl rfl qa_dx_0_1 rfl ?_
  refine qa_bk_gr rfl rfl (qa_ds0 qa_rg_1) rfl ?_
  refine qa_bk_gi rfl rfl (qa_ds11 qa_rg_1) rfl ?_
  refine qa_bk_do (pc' := 11) rfl rfl ?_
  rcases qa_ite h with ⟨hc1, h⟩ | ⟨hc1, h⟩
  · refine qa_bk_1t (a := 18) (b := 14) hc1 rfl rfl ?_
    refine qa_bk_do (pc' := 19) rfl rfl ?_
    exact qa_bk_lw (qa_tX9_shownFor_19  h) rfl rfl (And.intro rfl (trivial))
  · refine qa_bk_1f (a := 18) (b := 14) hc1 rfl rfl ?_
    refine qa_bk_do (pc' := 15) rfl rfl ?_
    refine qa_bk_do (pc' := 19) rfl rfl ?_
    exact qa_bk_lw (qa_tX9_shownFor_19  h) rfl rfl (And.intro rfl (trivial))
noncomputable def qa_fX9_loading_19  (y0 : Int32) (σ : qa_T) : ((Int32 ⊕ Nat) × qa_T) :=
    if y0 = 0 then
      (.inr 348, σ)
    else
    (.inl (σ.1 (1, 12) 0), σ)
noncomputable def qa_fX9_loading  (σ : qa_T) : ((Int32 ⊕ Nat) × qa_T) :=
    if (σ.1 (1, 12) 0) = (Int32.ofInt (-1)) then
      qa_fX9_loading_19  (Int32.ofInt 0) σ
    else
      qa_fX9_loading_19  (Int32.ofInt 1) σ
set_option maxRecDepth 100000 in
theorem qa_tX9_loading_19 {L : Nat}   {y0 : Int32} {σ : qa_T} {r : ((Int32 ⊕ Nat) × qa_T)} (h : qa_fX9_loading_19  y0 σ = r) : qa_Bk (qa_ds L) qa_mX9_loading 19 [(0, .inl (0, 1))] [.inr (.int y0)] σ (qa_ri r.1) r.2 := by
  unfold qa_fX9_loading_19 at h
  try dsimp only at h
  rcases qa_ite h with ⟨hc2, h⟩ | ⟨hc2, h⟩
  · subst h
    exact qa_bk_cx (qa_tX9_needState_x hc2) rfl rfl rfl rfl rfl rfl rfl rfl
  refine qa_bk_cs (qa_tX9_needState_o hc2) rfl rfl rfl rfl rfl rfl rfl ?_
  refine qa_bk_do (pc' := 23) rfl rfl ?_
  refine qa_bk_gr rfl rfl qa_dx_0_1 rfl ?_
  refine qa_bk_gr rfl rfl (qa_ds0 qa_rg_1) rfl ?_
  refine qa_bk_gi rfl rfl (qa_ds12 qa_rg_1) rfl ?_
  subst h
  exact qa_bk_ri rfl rfl
set_option maxRecDepth 100000 in
theorem qa_tX9_loading {L : Nat}   {σ : qa_T} {r : ((Int32 ⊕ Nat) × qa_T)} (h : qa_fX9_loading  σ = r) : qa_Bk (qa_ds L) qa_mX9_loading 0 (qa_ag 0 [.inl (0, 1)]) [] σ (qa_ri r.1) r.2 := by
  unfold qa_fX9_loading at h
  try dsimp only at h
  show qa_Bk (qa_ds L) qa_mX9_loading 0 [(0, .inl (0, 1))] [] σ _ _
  refine qa_bk_do (pc' := 1) rfl rfl ?_
  refine qa_bk_gr rfl rfl qa_dx_0_1 rfl ?_
  refine qa_bk_gr rfl rfl (qa_ds0 qa_rg_1) rfl ?_
  refine qa_bk_gi rfl rfl (qa_ds12 qa_rg_1) rfl ?_
  refine qa_bk_do (pc' := 11) rfl rfl ?_
  rcases qa_ite h with ⟨hc1, h⟩ | ⟨hc1, h⟩
  · refine qa_bk_1t (a := 18) (b := 14) hc1 rfl rfl ?_
    refine qa_bk_do (pc' := 19) rfl rfl ?_
    exact qa_bk_lw (qa_tX9_loading_19  h) rfl rfl (And.intro rfl (trivial))
  · refine qa_bk_1f (a := 18) (b := 14) hc1 rfl rfl ?_
    refine qa_bk_do (pc' := 15) rfl rfl ?_
    refine qa_bk_do (pc' := 19) rfl rfl ?_
    exact qa_bk_lw (qa_tX9_loading_19  h) rfl rfl (And.intro rfl (trivial))
noncomputable def qa_fX9_loadLeft  (σ : qa_T) : Int32 :=
    (σ.1 (1, 12) 1)
set_option maxRecDepth 100000 in
theorem qa_tX9_loadLeft {L : Nat}   {σ : qa_T} {r : Int32} (h : qa_fX9_loadLeft  σ = r) : qa_Bk (qa_ds L) qa_mX9_loadLeft 0 (qa_ag 0 [.inl (0, 1)]) [] σ (.inl (some (.inr (.int r)))) σ := by
  unfold qa_fX9_loadLeft at h
  try dsimp only at h
  show qa_Bk (qa_ds L) qa_mX9_loadLeft 0 [(0, .inl (0, 1))] [] σ _ _
  refine qa_bk_do (pc' := 1) rfl rfl ?_
  refine qa_bk_gr rfl rfl qa_dx_0_1 rfl ?_
  refine qa_bk_gr rfl rfl (qa_ds0 qa_rg_1) rfl ?_
  refine qa_bk_gi rfl rfl (qa_ds12 qa_rg_1) rfl ?_
  subst h
  exact qa_bk_ri rfl rfl
noncomputable def qa_fX9_asked  (σ : qa_T) : Int32 :=
    (σ.1 (1, 12) 2)
set_option maxRecDepth 100000 in
theorem qa_tX9_asked {L : Nat}   {σ : qa_T} {r : Int32} (h : qa_fX9_asked  σ = r) : qa_Bk (qa_ds L) qa_mX9_asked 0 (qa_ag 0 [.inl (0, 1)]) [] σ (.inl (some (.inr (.int r)))) σ := by
  unfold qa_fX9_asked at h
  try dsimp only at h
  show qa_Bk (qa_ds L) qa_mX9_asked 0 [(0, .inl (0, 1))] [] σ _ _
  refine qa_bk_do (pc' := 1) rfl rfl ?_
  refine qa_bk_gr rfl rfl qa_dx_0_1 rfl ?_
  refine qa_bk_gr rfl rfl (qa_ds0 qa_rg_1) rfl ?_
  refine qa_bk_gi rfl rfl (qa_ds12 qa_rg_1) rfl ?_
  subst h
  exact qa_bk_ri rfl rfl
noncomputable def qa_fX9_askedAt (a1 : Int32) (σ : qa_T) : ((Int32 ⊕ Nat) × qa_T) :=
    if (qa_bi (qa_fX9_isWithin a1 (Int32.ofInt 0) ((σ.1 (1, 12) 2) - (Int32.ofInt 1)) σ)) = 0 then
      (.inr 345, σ)
    else
    (.inl (qa_fX9_at (1, 13) 16 a1 σ), σ)
set_option maxRecDepth 100000 in
theorem qa_tX9_askedAt {L : Nat} {a1 : Int32}  {σ : qa_T} {r : ((Int32 ⊕ Nat) × qa_T)} (h : qa_fX9_askedAt a1 σ = r) : qa_Bk (qa_ds L) qa_mX9_askedAt 0 (qa_ag 0 [.inl (0, 1), .inr (.int a1)]) [] σ (qa_ri r.1) r.2 := by
  unfold qa_fX9_askedAt at h
  try dsimp only at h
  show qa_Bk (qa_ds L) qa_mX9_askedAt 0 [(0, .inl (0, 1)), (1, .inr (.int a1))] [] σ _ _
  refine qa_bk_do (pc' := 1) rfl rfl ?_
  refine qa_bk_do (pc' := 2) rfl rfl ?_
  refine qa_bk_do (pc' := 3) rfl rfl ?_
  refine qa_bk_gr rfl rfl qa_dx_0_1 rfl ?_
  refine qa_bk_gr rfl rfl (qa_ds0 qa_rg_1) rfl ?_
  refine qa_bk_gi rfl rfl (qa_ds12 qa_rg_1) rfl ?_
  refine qa_bk_do (pc' := 13) rfl rfl ?_
  refine qa_bk_do (pc' := 14) rfl rfl ?_
  refine qa_bk_cs (qa_tX9_isWithin rfl) rfl rfl rfl rfl rfl rfl rfl ?_
  rcases qa_ite h with ⟨hc1, h⟩ | ⟨hc1, h⟩
  · subst h
    exact qa_bk_cx (qa_tX9_needIndex_x hc1) rfl rfl rfl rfl rfl rfl rfl rfl
  refine qa_bk_cs (qa_tX9_needIndex_o hc1) rfl rfl rfl rfl rfl rfl rfl ?_
  refine qa_bk_do (pc' := 21) rfl rfl ?_
  refine qa_bk_gr rfl rfl qa_dx_0_1 rfl ?_
  refine qa_bk_gr rfl rfl (qa_ds0 qa_rg_1) rfl ?_
  refine qa_bk_gr rfl rfl (qa_ds12 qa_rg_1) rfl ?_
  refine qa_bk_do (pc' := 31) rfl rfl ?_
  refine qa_bk_cs (qa_tX9_at (qa_ds13 qa_rg_1) (Nat.le_of_ble_eq_true rfl) rfl) rfl rfl rfl rfl rfl rfl rfl ?_
  subst h
  exact qa_bk_ri rfl rfl
noncomputable def qa_fX9_takenBySlides  (σ : qa_T) : Option Int32 :=
    (qa_fX1_sumOfCosts 1 σ).bind fun c1 =>
    some c1
set_option maxRecDepth 100000 in
theorem qa_tX9_takenBySlides {L : Nat}   {σ : qa_T} {r : Int32} (h : qa_fX9_takenBySlides  σ = some r) : qa_Bk (qa_ds L) qa_mX9_takenBySlides 0 (qa_ag 0 [.inl (0, 1)]) [] σ (.inl (some (.inr (.int r)))) σ := by
  unfold qa_fX9_takenBySlides at h
  try dsimp only at h
  show qa_Bk (qa_ds L) qa_mX9_takenBySlides 0 [(0, .inl (0, 1))] [] σ _ _
  refine qa_bk_do (pc' := 1) rfl rfl ?_
  refine qa_bk_gr rfl rfl qa_dx_0_1 rfl ?_
  obtain ⟨c1, hc2, h⟩ := Option.bind_eq_some_iff.mp h
  refine qa_bk_cv (qa_tX1_sumOfCosts qa_rg_1 hc2) rfl rfl rfl rfl rfl rfl rfl (qa_ds0 qa_rg_1) ?_
  cases h
  exact qa_bk_ri rfl rfl
noncomputable def qa_fX9_takenByAccount  (σ : qa_T) : Int32 :=
    (σ.1 (1, 12) 4)
set_option maxRecDepth 100000 in
theorem qa_tX9_takenByAccount {L : Nat}   {σ : qa_T} {r : Int32} (h : qa_fX9_takenByAccount  σ = r) : qa_Bk (qa_ds L) qa_mX9_takenByAccount 0 (qa_ag 0 [.inl (0, 1)]) [] σ (.inl (some (.inr (.int r)))) σ := by
  unfold qa_fX9_takenByAccount at h
  try dsimp only at h
  show qa_Bk (qa_ds L) qa_mX9_takenByAccount 0 [(0, .inl (0, 1))] [] σ _ _
  refine qa_bk_do (pc' := 1) rfl rfl ?_
  refine qa_bk_gr rfl rfl qa_dx_0_1 rfl ?_
  refine qa_bk_gr rfl rfl (qa_ds0 qa_rg_1) rfl ?_
  refine qa_bk_gi rfl rfl (qa_ds12 qa_rg_1) rfl ?_
  subst h
  exact qa_bk_ri rfl rfl
noncomputable def qa_fX9_memory  (σ : qa_T) : Int32 :=
    (σ.1 (1, 14) 0)
set_option maxRecDepth 100000 in
theorem qa_tX9_memory {L : Nat}   {σ : qa_T} {r : Int32} (h : qa_fX9_memory  σ = r) : qa_Bk (qa_ds L) qa_mX9_memory 0 (qa_ag 0 [.inl (0, 1)]) [] σ (.inl (some (.inr (.int r)))) σ := by
  unfold qa_fX9_memory at h
  try dsimp only at h
  show qa_Bk (qa_ds L) qa_mX9_memory 0 [(0, .inl (0, 1))] [] σ _ _
  refine qa_bk_do (pc' := 1) rfl rfl ?_
  refine qa_bk_gr rfl rfl qa_dx_0_1 rfl ?_
  refine qa_bk_gr rfl rfl (qa_ds0 qa_rg_1) rfl ?_
  refine qa_bk_gi rfl rfl (qa_ds14 qa_rg_1) rfl ?_
  subst h
  exact qa_bk_ri rfl rfl
noncomputable def qa_fX9_ahead  (σ : qa_T) : Int32 :=
    (σ.1 (1, 14) 1)
set_option maxRecDepth 100000 in
theorem qa_tX9_ahead {L : Nat}   {σ : qa_T} {r : Int32} (h : qa_fX9_ahead  σ = r) : qa_Bk (qa_ds L) qa_mX9_ahead 0 (qa_ag 0 [.inl (0, 1)]) [] σ (.inl (some (.inr (.int r)))) σ := by
  unfold qa_fX9_ahead at h
  try dsimp only at h
  show qa_Bk (qa_ds L) qa_mX9_ahead 0 [(0, .inl (0, 1))] [] σ _ _
  refine qa_bk_do (pc' := 1) rfl rfl ?_
  refine qa_bk_gr rfl rfl qa_dx_0_1 rfl ?_
  refine qa_bk_gr rfl rfl (qa_ds0 qa_rg_1) rfl ?_
  refine qa_bk_gi rfl rfl (qa_ds14 qa_rg_1) rfl ?_
  subst h
  exact qa_bk_ri rfl rfl
noncomputable def qa_fX9_order  (σ : qa_T) : Int32 :=
    (σ.1 (1, 14) 2)
set_option maxRecDepth 100000 in
theorem qa_tX9_order {L : Nat}   {σ : qa_T} {r : Int32} (h : qa_fX9_order  σ = r) : qa_Bk (qa_ds L) qa_mX9_order 0 (qa_ag 0 [.inl (0, 1)]) [] σ (.inl (some (.inr (.int r)))) σ := by
  unfold qa_fX9_order at h
  try dsimp only at h
  show qa_Bk (qa_ds L) qa_mX9_order 0 [(0, .inl (0, 1))] [] σ _ _
  refine qa_bk_do (pc' := 1) rfl rfl ?_
  refine qa_bk_gr rfl rfl qa_dx_0_1 rfl ?_
  refine qa_bk_gr rfl rfl (qa_ds0 qa_rg_1) rfl ?_
  refine qa_bk_gi rfl rfl (qa_ds14 qa_rg_1) rfl ?_
  subst h
  exact qa_bk_ri rfl rfl
noncomputable def qa_fX9_glow  (σ : qa_T) : Int32 :=
    (σ.1 (1, 14) 3)
set_option maxRecDepth 100000 in
theorem qa_tX9_glow {L : Nat}   {σ : qa_T} {r : Int32} (h : qa_fX9_glow  σ = r) : qa_Bk (qa_ds L) qa_mX9_glow 0 (qa_ag 0 [.inl (0, 1)]) [] σ (.inl (some (.inr (.int r)))) σ := by
  unfold qa_fX9_glow at h
  try dsimp only at h
  show qa_Bk (qa_ds L) qa_mX9_glow 0 [(0, .inl (0, 1))] [] σ _ _
  refine qa_bk_do (pc' := 1) rfl rfl ?_
  refine qa_bk_gr rfl rfl qa_dx_0_1 rfl ?_
  refine qa_bk_gr rfl rfl (qa_ds0 qa_rg_1) rfl ?_
  refine qa_bk_gi rfl rfl (qa_ds14 qa_rg_1) rfl ?_
  subst h
  exact qa_bk_ri rfl rfl
noncomputable def qa_fX9_pace  (σ : qa_T) : Int32 :=
    (σ.1 (1, 14) 4)
set_option maxRecDepth 100000 in
theorem qa_tX9_pace {L : Nat}   {σ : qa_T} {r : Int32} (h : qa_fX9_pace  σ = r) : qa_Bk (qa_ds L) qa_mX9_pace 0 (qa_ag 0 [.inl (0, 1)]) [] σ (.inl (some (.inr (.int r)))) σ := by
  unfold qa_fX9_pace at h
  try dsimp only at h
  show qa_Bk (qa_ds L) qa_mX9_pace 0 [(0, .inl (0, 1))] [] σ _ _
  refine qa_bk_do (pc' := 1) rfl rfl ?_
  refine qa_bk_gr rfl rfl qa_dx_0_1 rfl ?_
  refine qa_bk_gr rfl rfl (qa_ds0 qa_rg_1) rfl ?_
  refine qa_bk_gi rfl rfl (qa_ds14 qa_rg_1) rfl ?_
  subst h
  exact qa_bk_ri rfl rfl
noncomputable def qa_fX9_waitOnTrial_13  : Nat → Int32 → qa_T → Option (Int32 × qa_T)
  | 0, _, _ => none
  | n + 1, x1, σ =>
    if ((Int16.ofInt 1000).toInt32) ≤ x1 then
      some (((Int16.ofInt 1000).toInt32), σ)
    else
      (qa_fX1_passTick 2 σ).bind fun c4 =>
      if c4.1 ≤ 0 then
        let v7 : Int32 := x1 + Int32.ofInt 1
        qa_fX9_waitOnTrial_13  n v7 c4.2
      else
        some (x1, c4.2)
noncomputable def qa_fX9_waitOnTrial  (σ : qa_T) : Option (Int32 × qa_T) :=
    (qa_fX1_copyFrom 2 1 σ).bind fun c1 =>
    qa_fX9_waitOnTrial_13  qa_fu (Int32.ofInt 1) c1
set_option maxRecDepth 100000 in
theorem qa_tX9_waitOnTrial_13 {L : Nat}   : ∀ (n : Nat) (x1 : Int32) (σ : qa_T) (r : (Int32 × qa_T)), qa_fX9_waitOnTrial_13  n x1 σ = some r → qa_Bk (qa_ds L) qa_mX9_waitOnTrial 13 [(0, .inl (0, 1)), (1, .inr (.int x1))] [] σ (.inl (some (.inr (.int r.1)))) r.2 := by
  intro n
  induction n with
  | zero => intro x1 σ r h; cases h
  | succ n ih =>
    intro x1 σ r h
    unfold qa_fX9_waitOnTrial_13 at h
    try dsimp only at h
    refine qa_bk_do (pc' := 14) rfl rfl ?_
    refine qa_bk_do (pc' := 17) rfl rfl ?_
    rcases qa_ite h with ⟨hc3, h⟩ | ⟨hc3, h⟩
    · refine qa_bk_1t (a := 38) (b := 20) hc3 rfl rfl ?_
      refine qa_bk_do (pc' := 41) rfl rfl ?_
      cases h
      exact qa_bk_ri rfl rfl
    · refine qa_bk_1f (a := 38) (b := 20) hc3 rfl rfl ?_
      refine qa_bk_do (pc' := 21) rfl rfl ?_
      refine qa_bk_gr rfl rfl qa_dx_0_1 rfl ?_
      obtain ⟨c4, hc5, h⟩ := Option.bind_eq_some_iff.mp h
      refine qa_bk_cv (qa_tX1_passTick qa_rg_2 hc5) rfl rfl rfl rfl rfl rfl rfl (qa_ds0 qa_rg_2) ?_
      rcases qa_ite h with ⟨hc6, h⟩ | ⟨hc6, h⟩
      · refine qa_bk_1t (a := 32) (b := 30) hc6 rfl rfl ?_
        refine qa_bk_do (pc' := 35) (lv' := [(1, _), (0, _)]) rfl rfl ?_
        refine qa_bk_do (pc' := 13) rfl rfl ?_
        exact qa_bk_lw (ih _ _ _ h) rfl rfl (And.intro rfl (And.intro rfl (trivial)))
      · refine qa_bk_1f (a := 32) (b := 30) hc6 rfl rfl ?_
        refine qa_bk_do (pc' := 31) rfl rfl ?_
        cases h
        exact qa_bk_ri rfl rfl
set_option maxRecDepth 100000 in
theorem qa_tX9_waitOnTrial {L : Nat}   {σ : qa_T} {r : (Int32 × qa_T)} (h : qa_fX9_waitOnTrial  σ = some r) : qa_Bk (qa_ds L) qa_mX9_waitOnTrial 0 (qa_ag 0 [.inl (0, 1)]) [] σ (.inl (some (.inr (.int r.1)))) r.2 := by
  unfold qa_fX9_waitOnTrial at h
  try dsimp only at h
  show qa_Bk (qa_ds L) qa_mX9_waitOnTrial 0 [(0, .inl (0, 1))] [] σ _ _
  refine qa_bk_do (pc' := 1) rfl rfl ?_
  refine qa_bk_gr rfl rfl qa_dx_0_1 rfl ?_
  refine qa_bk_do (pc' := 5) rfl rfl ?_
  refine qa_bk_gr rfl rfl qa_dx_0_1 rfl ?_
  obtain ⟨c1, hc2, h⟩ := Option.bind_eq_some_iff.mp h
  refine qa_bk_cv (qa_tX1_copyFrom qa_rg_2 qa_rg_1 hc2) rfl rfl rfl rfl rfl rfl rfl (qa_ds0 qa_rg_2) ?_
  refine qa_bk_do (pc' := 12) rfl rfl ?_
  refine qa_bk_do (pc' := 13) (lv' := [(1, _), (0, _)]) rfl rfl ?_
  exact qa_bk_lw (qa_tX9_waitOnTrial_13  _ _ _ _ h) rfl rfl (And.intro rfl (And.intro rfl (trivial)))
