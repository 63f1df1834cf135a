/-! the methods as functions (written by wip/tools/gen.py) -/
noncomputable def qa_fX9_time  (σ : qa_T) : Int32 :=
    (σ.1 (1, 15) 0)
set_option maxRecDepth 100000 in
theorem qa_tX9_time {L : Nat}   {σ : qa_T} {r : Int32} (h : qa_fX9_time  σ = r) : qa_Bk (qa_ds L) qa_mX9_time 0 (qa_ag 0 [.inl (0, 1)]) [] σ (.inl (some (.inr (.int r)))) σ := by
  unfold qa_fX9_time at h
  try dsimp only at h
  show qa_Bk (qa_ds L) qa_mX9_time 0 [(0, .inl (0, 1))] [] σ _ _
  refine qa_bk_do (pc' := 1) rfl rfl ?_
  refine qa_bk_gr rfl rfl qa_dx_0_1 rfl ?_
  refine qa_bk_gr rfl rfl (qa_ds0 qa_rg_1) rfl ?_
  refine qa_bk_gi rfl rfl (qa_ds15 qa_rg_1) rfl ?_
  subst h
  exact qa_bk_ri rfl rfl
noncomputable def qa_fX9_hits  (σ : qa_T) : Int32 :=
    (σ.1 (1, 15) 1)
set_option maxRecDepth 100000 in
theorem qa_tX9_hits {L : Nat}   {σ : qa_T} {r : Int32} (h : qa_fX9_hits  σ = r) : qa_Bk (qa_ds L) qa_mX9_hits 0 (qa_ag 0 [.inl (0, 1)]) [] σ (.inl (some (.inr (.int r)))) σ := by
  unfold qa_fX9_hits at h
  try dsimp only at h
  show qa_Bk (qa_ds L) qa_mX9_hits 0 [(0, .inl (0, 1))] [] σ _ _
  refine qa_bk_do (pc' := 1) rfl rfl ?_
  refine qa_bk_gr rfl rfl qa_dx_0_1 rfl ?_
  refine qa_bk_gr rfl rfl (qa_ds0 qa_rg_1) rfl ?_
  refine qa_bk_gi rfl rfl (qa_ds15 qa_rg_1) rfl ?_
  subst h
  exact qa_bk_ri rfl rfl
noncomputable def qa_fX9_misses  (σ : qa_T) : Int32 :=
    (σ.1 (1, 15) 2)
set_option maxRecDepth 100000 in
theorem qa_tX9_misses {L : Nat}   {σ : qa_T} {r : Int32} (h : qa_fX9_misses  σ = r) : qa_Bk (qa_ds L) qa_mX9_misses 0 (qa_ag 0 [.inl (0, 1)]) [] σ (.inl (some (.inr (.int r)))) σ := by
  unfold qa_fX9_misses at h
  try dsimp only at h
  show qa_Bk (qa_ds L) qa_mX9_misses 0 [(0, .inl (0, 1))] [] σ _ _
  refine qa_bk_do (pc' := 1) rfl rfl ?_
  refine qa_bk_gr rfl rfl qa_dx_0_1 rfl ?_
  refine qa_bk_gr rfl rfl (qa_ds0 qa_rg_1) rfl ?_
  refine qa_bk_gi rfl rfl (qa_ds15 qa_rg_1) rfl ?_
  subst h
  exact qa_bk_ri rfl rfl
noncomputable def qa_fX9_loads  (σ : qa_T) : Int32 :=
    (σ.1 (1, 15) 3)
set_option maxRecDepth 100000 in
theorem qa_tX9_loads {L : Nat}   {σ : qa_T} {r : Int32} (h : qa_fX9_loads  σ = r) : qa_Bk (qa_ds L) qa_mX9_loads 0 (qa_ag 0 [.inl (0, 1)]) [] σ (.inl (some (.inr (.int r)))) σ := by
  unfold qa_fX9_loads at h
  try dsimp only at h
  show qa_Bk (qa_ds L) qa_mX9_loads 0 [(0, .inl (0, 1))] [] σ _ _
  refine qa_bk_do (pc' := 1) rfl rfl ?_
  refine qa_bk_gr rfl rfl qa_dx_0_1 rfl ?_
  refine qa_bk_gr rfl rfl (qa_ds0 qa_rg_1) rfl ?_
  refine qa_bk_gi rfl rfl (qa_ds15 qa_rg_1) rfl ?_
  subst h
  exact qa_bk_ri rfl rfl
noncomputable def qa_fX9_warmLoads  (σ : qa_T) : Int32 :=
    (σ.1 (1, 15) 4)
set_option maxRecDepth 100000 in
theorem qa_tX9_warmLoads {L : Nat}   {σ : qa_T} {r : Int32} (h : qa_fX9_warmLoads  σ = r) : qa_Bk (qa_ds L) qa_mX9_warmLoads 0 (qa_ag 0 [.inl (0, 1)]) [] σ (.inl (some (.inr (.int r)))) σ := by
  unfold qa_fX9_warmLoads at h
  try dsimp only at h
  show qa_Bk (qa_ds L) qa_mX9_warmLoads 0 [(0, .inl (0, 1))] [] σ _ _
  refine qa_bk_do (pc' := 1) rfl rfl ?_
  refine qa_bk_gr rfl rfl qa_dx_0_1 rfl ?_
  refine qa_bk_gr rfl rfl (qa_ds0 qa_rg_1) rfl ?_
  refine qa_bk_gi rfl rfl (qa_ds15 qa_rg_1) rfl ?_
  subst h
  exact qa_bk_ri rfl rfl
noncomputable def qa_fX9_burnings  (σ : qa_T) : Int32 :=
    (σ.1 (1, 15) 5)
set_option maxRecDepth 100000 in
theorem qa_tX9_burnings {L : Nat}   {σ : qa_T} {r : Int32} (h : qa_fX9_burnings  σ = r) : qa_Bk (qa_ds L) qa_mX9_burnings 0 (qa_ag 0 [.inl (0, 1)]) [] σ (.inl (some (.inr (.int r)))) σ := by
  unfold qa_fX9_burnings at h
  try dsimp only at h
  show qa_Bk (qa_ds L) qa_mX9_burnings 0 [(0, .inl (0, 1))] [] σ _ _
  refine qa_bk_do (pc' := 1) rfl rfl ?_
  refine qa_bk_gr rfl rfl qa_dx_0_1 rfl ?_
  refine qa_bk_gr rfl rfl (qa_ds0 qa_rg_1) rfl ?_
  refine qa_bk_gi rfl rfl (qa_ds15 qa_rg_1) rfl ?_
  subst h
  exact qa_bk_ri rfl rfl
noncomputable def qa_fX9_waited  (σ : qa_T) : Int32 :=
    (σ.1 (1, 15) 6)
set_option maxRecDepth 100000 in
theorem qa_tX9_waited {L : Nat}   {σ : qa_T} {r : Int32} (h : qa_fX9_waited  σ = r) : qa_Bk (qa_ds L) qa_mX9_waited 0 (qa_ag 0 [.inl (0, 1)]) [] σ (.inl (some (.inr (.int r)))) σ := by
  unfold qa_fX9_waited at h
  try dsimp only at h
  show qa_Bk (qa_ds L) qa_mX9_waited 0 [(0, .inl (0, 1))] [] σ _ _
  refine qa_bk_do (pc' := 1) rfl rfl ?_
  refine qa_bk_gr rfl rfl qa_dx_0_1 rfl ?_
  refine qa_bk_gr rfl rfl (qa_ds0 qa_rg_1) rfl ?_
  refine qa_bk_gi rfl rfl (qa_ds15 qa_rg_1) rfl ?_
  subst h
  exact qa_bk_ri rfl rfl
noncomputable def qa_fX9_hitShare  (σ : qa_T) : Option UInt64 :=
    (qa_fX0_shareOfHits 1 σ).bind fun c1 =>
    some c1
set_option maxRecDepth 100000 in
theorem qa_tX9_hitShare {L : Nat}   {σ : qa_T} {r : UInt64} (h : qa_fX9_hitShare  σ = some r) : qa_Bk (qa_ds L) qa_mX9_hitShare 0 (qa_ag 0 [.inl (0, 1)]) [] σ (.inl (some (.inr (.double r)))) σ := by
  unfold qa_fX9_hitShare at h
  try dsimp only at h
  show qa_Bk (qa_ds L) qa_mX9_hitShare 0 [(0, .inl (0, 1))] [] σ _ _
  refine qa_bk_do (pc' := 1) rfl rfl ?_
  refine qa_bk_gr rfl rfl qa_dx_0_1 rfl ?_
  refine qa_bk_gr rfl rfl (qa_ds0 qa_rg_1) rfl ?_
  obtain ⟨c1, hc2, h⟩ := Option.bind_eq_some_iff.mp h
  refine qa_bk_cv (qa_tX0_shareOfHits qa_rg_1 hc2) rfl rfl rfl rfl rfl rfl rfl (qa_ds15 qa_rg_1) ?_
  cases h
  exact qa_bk_re rfl rfl rfl
