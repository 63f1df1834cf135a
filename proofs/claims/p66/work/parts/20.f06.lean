/-! the methods as functions (written by wip/tools/gen.py) -/
noncomputable def qa_fX9_fadeLeft  (σ : qa_T) : Int32 :=
    (σ.1 (1, 11) 3)
set_option maxRecDepth 100000 in
theorem qa_tX9_fadeLeft {L : Nat}   {σ : qa_T} {r : Int32} (h : qa_fX9_fadeLeft  σ = r) : qa_Bk (qa_ds L) qa_mX9_fadeLeft 0 (qa_ag 0 [.inl (0, 1)]) [] σ (.inl (some (.inr (.int r)))) σ := by
  unfold qa_fX9_fadeLeft at h
  try dsimp only at h
  show qa_Bk (qa_ds L) qa_mX9_fadeLeft 0 [(0, .inl (0, 1))] [] σ _ _
  refine qa_bk_do (pc' := 1) rfl rfl ?_
  refine qa_bk_gr rfl rfl qa_dx_0_1 rfl ?_
  refine qa_bk_gr rfl rfl (qa_ds0 qa_rg_1) rfl ?_
  refine qa_bk_gi rfl rfl (qa_ds11 qa_rg_1) rfl ?_
  subst h
  exact qa_bk_ri rfl rfl
noncomputable def qa_fX9_awaited_19  (y0 : Int32) (σ : qa_T) : ((Int32 ⊕ Nat) × qa_T) :=
    if y0 = 0 then
      (.inr 348, σ)
    else
    (.inl (σ.1 (1, 11) 4), σ)
noncomputable def qa_fX9_awaited  (σ : qa_T) : ((Int32 ⊕ Nat) × qa_T) :=
    if (σ.1 (1, 11) 4) = (Int32.ofInt (-1)) then
      qa_fX9_awaited_19  (Int32.ofInt 0) σ
    else
      qa_fX9_awaited_19  (Int32.ofInt 1) σ
set_option maxRecDepth 100000 in
theorem qa_tX9_awaited_19 {L : Nat}   {y0 : Int32} {σ : qa_T} {r : ((Int32 ⊕ Nat) × qa_T)} (h : qa_fX9_awaited_19  y0 σ = r) : qa_Bk (qa_ds L) qa_mX9_awaited 19 [(0, .inl (0, 1))] [.inr (.int y0)] σ (qa_ri r.1) r.2 := by
  unfold qa_fX9_awaited_19 at h
  try dsimp only at h
  rcases qa_ite h with ⟨hc2, h⟩ | ⟨hc2, h⟩
  · subst h
    exact qa_bk_cx (qa_tX9_needState_x hc2) rfl rfl rfl rfl rfl rfl rfl rfl
  refine qa_bk_cs (qa_tX9_needState_o hc2) rfl rfl rfl rfl rfl rfl rfl ?_
  refine qa_bk_do (pc' := 23) rfl rfl ?_
  refine qa_bk_gr rfl rfl qa_dx_0_1 rfl ?_
  refine qa_bk_gr rfl rfl (qa_ds0 qa_rg_1) rfl ?_
  refine qa_bk_gi rfl rfl (qa_ds11 qa_rg_1) rfl ?_
  subst h
  exact qa_bk_ri rfl rfl
set_option maxRecDepth 100000 in
theorem qa_tX9_awaited {L : Nat}   {σ : qa_T} {r : ((Int32 ⊕ Nat) × qa_T)} (h : qa_fX9_awaited  σ = r) : qa_Bk (qa_ds L) qa_mX9_awaited 0 (qa_ag 0 [.inl (0, 1)]) [] σ (qa_ri r.1) r.2 := by
  unfold qa_fX9_awaited at h
  try dsimp only at h
  show qa_Bk (qa_ds L) qa_mX9_awaited 0 [(0, .inl (0, 1))] [] σ _ _
  refine qa_bk_do (pc' := 1) rfl rfl ?_
  refine qa_bk_gr rfl rfl qa_dx_0_1 rfl ?_
  refine qa_bk_gr rfl rfl (qa_ds0 qa_rg_1) rfl ?_
  refine qa_bk_gi rfl rfl (qa_ds11 qa_rg_1) rfl ?_
  refine qa_bk_do (pc' := 11) rfl rfl ?_
  rcases qa_ite h with ⟨hc1, h⟩ | ⟨hc1, h⟩
  · refine qa_bk_1t (a := 18) (b := 14) hc1 rfl rfl ?_
    refine qa_bk_do (pc' := 19) rfl rfl ?_
    exact qa_bk_lw (qa_tX9_awaited_19  h) rfl rfl (And.intro rfl (trivial))
  · refine qa_bk_1f (a := 18) (b := 14) hc1 rfl rfl ?_
    refine qa_bk_do (pc' := 15) rfl rfl ?_
    refine qa_bk_do (pc' := 19) rfl rfl ?_
    exact qa_bk_lw (qa_tX9_awaited_19  h) rfl rfl (And.intro rfl (trivial))
noncomputable def qa_fX9_shownFor_19  (y0 : Int32) (σ : qa_T) : ((Int32 ⊕ Nat) × qa_T) :=
    if y0 = 0 then
      (.inr 348, σ)
    else
    (.inl (σ.1 (1, 11) 1), σ)
noncomputable def qa_fX9_shownFor  (σ : qa_T) : ((Int32 ⊕ Nat) × qa_T) :=
    if (σ.1 (1, 11) 0) = (Int32.ofInt (-1)) then
      qa_fX9_shownFor_19  (Int32.ofInt 0) σ
    else
      qa_fX9_shownFor_19  (Int32.ofInt 1) σ
set_option maxRecDepth 100000 in
theorem qa_tX9_shownFor_19 {L : Nat}   {y0 : Int32} {σ : qa_T} {r : ((Int32 ⊕ Nat) × qa_T)} (h : qa_fX9_shownFor_19  y0 σ = r) : qa_Bk (qa_ds L) qa_mX9_shownFor 19 [(0, .inl (0, 1))] [.inr (.int y0)] σ (qa_ri r.1) r.2 := by
  unfold qa_fX9_shownFor_19 at h
  try dsimp only at h
  rcases qa_ite h with ⟨hc2, h⟩ | ⟨hc2, h⟩
  · subst h
    exact qa_bk_cx (qa_tX9_needState_x hc2) rfl rfl rfl rfl rfl rfl rfl rfl
  refine qa_bk_cs (qa_tX9_needState_o hc2) rfl rfl rfl rfl rfl rfl rfl ?_
  refine qa_bk_do (pc' := 23) rfl rfl ?_
  refine qa_bk_gr rfl rfl qa_dx_0_1 rfl ?_
  refine qa_bk_gr rfl rfl (qa_ds0 qa_rg_1) rfl ?_
  refine qa_bk_gi rfl rfl (qa_ds11 qa_rg_1) rfl ?_
  subst h
  exact qa_bk_ri rfl rfl
set_option maxRecDepth 100000 in
theorem qa_tX9_shownFor {L : Nat}   {σ : qa_T} {r : ((Int32 ⊕ Nat) × qa_T)} (h : qa_fX9_shownFor  σ = r) : qa_Bk (qa_ds L) qa_mX9_shownFor 0 (qa_ag 0 [.inl (0, 1)]) [] σ (qa_ri r.1) r.2 := by
  unfold qa_fX9_shownFor at h
  try dsimp only at h
  show qa_Bk (qa_ds L) qa_mX9_shownFor 0 [(0, .inl (0, 1))] [] σ _ _
  refine qa_bk_do (pc' := 1) rfl rfl ?_
  refine qa_bk_gr rfl rfl qa_dx_0_1 rfl ?_
  refine qa_bk_gr rfl rfl (qa_ds0 qa_rg_1) rfl ?_
  refine qa_bk_gi rfl rfl (qa_ds11 qa_rg_1) rfl ?_
  refine qa_bk_do (pc' := 11) rfl rfl ?_
  rcases qa_ite h with ⟨hc1, h⟩ | ⟨hc1, h⟩
  · refine qa_bk_1t (a := 18) (b := 14) hc1 rfl rfl ?_
    refine qa_bk_do (pc' := 19) rfl rfl ?_
    exact qa_bk_lw (qa_tX9_shownFor_19  h) rfl rfl (And.intro rfl (trivial))
  · refine qa_bk_1f (a := 18) (b := 14) hc1 rfl rfl ?_
    refine qa_bk_do (pc' := 15) rfl rfl ?_
    refine qa_bk_do (pc' := 19) rfl rfl ?_
    exact qa_bk_lw (qa_tX9_shownFor_19  h) rfl rfl (And.intro rfl (trivial))
noncomputable def qa_fX9_loading_19  (y0 : Int32) (σ : qa_T) : ((Int32 ⊕ Nat) × qa_T) :=
    if y0 = 0 then
      (.inr 348, σ)
    else
    (.inl (σ.1 (1, 12) 0), σ)
noncomputable def qa_fX9_loading  (σ : qa_T) : ((Int32 ⊕ Nat) × qa_T) :=
    if (σ.1 (1, 12) 0) = (Int32.ofInt (-1)) then
      qa_fX9_loading_19  (Int32.ofInt 0) σ
    else
      qa_fX9_loading_19  (Int32.ofInt 1) σ
set_option maxRecDepth 100000 in
theorem qa_tX9_loading_19 {L : Nat}   {y0 : Int32} {σ : qa_T} {r : ((Int32 ⊕ Nat) × qa_T)} (h : qa_fX9_loading_19  y0 σ = r) : qa_Bk (qa_ds L) qa_mX9_loading 19 [(0, .inl (0, 1))] [.inr (.int y0)] σ (qa_ri r.1) r.2 := by
  unfold qa_fX9_loading_19 at h
  try dsimp only at h
  rcases qa_ite h with ⟨hc2, h⟩ | ⟨hc2, h⟩
  · subst h
    exact qa_bk_cx (qa_tX9_needState_x hc2) rfl rfl rfl rfl rfl rfl rfl rfl
  refine qa_bk_cs (qa_tX9_needState_o hc2) rfl rfl rfl rfl rfl rfl rfl ?_
  refine qa_bk_do (pc' := 23) rfl rfl ?_
  refine qa_bk_gr rfl rfl qa_dx_0_1 rfl ?_
  refine qa_bk_gr rfl rfl (qa_ds0 qa_rg_1) rfl ?_
  refine qa_bk_gi rfl rfl (qa_ds12 qa_rg_1) rfl ?_
  subst h
  exact qa_bk_ri rfl rfl
set_option maxRecDepth 100000 in
theorem qa_tX9_loading {L : Nat}   {σ : qa_T} {r : ((Int32 ⊕ Nat) × qa_T)} (h : qa_fX9_loading  σ = r) : qa_Bk (qa_ds L) qa_mX9_loading 0 (qa_ag 0 [.inl (0, 1)]) [] σ (qa_ri r.1) r.2 := by
  unfold qa_fX9_loading at h
  try dsimp only at h
  show qa_Bk (qa_ds L) qa_mX9_loading 0 [(0, .inl (0, 1))] [] σ _ _
  refine qa_bk_do (pc' := 1) rfl rfl ?_
  refine qa_bk_gr rfl rfl qa_dx_0_1 rfl ?_
  refine qa_bk_gr rfl rfl (qa_ds0 qa_rg_1) rfl ?_
  refine qa_bk_gi rfl rfl (qa_ds12 qa_rg_1) rfl ?_
  refine qa_bk_do (pc' := 11) rfl rfl ?_
  rcases qa_ite h with ⟨hc1, h⟩ | ⟨hc1, h⟩
  · refine qa_bk_1t (a := 18) (b := 14) hc1 rfl rfl ?_
    refine qa_bk_do (pc' := 19) rfl rfl ?_
    exact qa_bk_lw (qa_tX9_loading_19  h) rfl rfl (And.intro rfl (trivial))
  · refine qa_bk_1f (a := 18) (b := 14) hc1 rfl rfl ?_
    refine qa_bk_do (pc' := 15) rfl rfl ?_
    refine qa_bk_do (pc' := 19) rfl rfl ?_
    exact qa_bk_lw (qa_tX9_loading_19  h) rfl rfl (And.intro rfl (trivial))
noncomputable def qa_fX9_loadLeft  (σ : qa_T) : Int32 :=
    (σ.1 (1, 12) 1)
set_option maxRecDepth 100000 in
theorem qa_tX9_loadLeft {L : Nat}   {σ : qa_T} {r : Int32} (h : qa_fX9_loadLeft  σ = r) : qa_Bk (qa_ds L) qa_mX9_loadLeft 0 (qa_ag 0 [.inl (0, 1)]) [] σ (.inl (some (.inr (.int r)))) σ := by
  unfold qa_fX9_loadLeft at h
  try dsimp only at h
  show qa_Bk (qa_ds L) qa_mX9_loadLeft 0 [(0, .inl (0, 1))] [] σ _ _
  refine qa_bk_do (pc' := 1) rfl rfl ?_
  refine qa_bk_gr rfl rfl qa_dx_0_1 rfl ?_
  refine qa_bk_gr rfl rfl (qa_ds0 qa_rg_1) rfl ?_
  refine qa_bk_gi rfl rfl (qa_ds12 qa_rg_1) rfl ?_
  subst h
  exact qa_bk_ri rfl rfl
noncomputable def qa_fX9_asked  (σ : qa_T) : Int32 :=
    (σ.1 (1, 12) 2)
set_option maxRecDepth 100000 in
theorem qa_tX9_asked {L : Nat}   {σ : qa_T} {r : Int32} (h : qa_fX9_asked  σ = r) : qa_Bk (qa_ds L) qa_mX9_asked 0 (qa_ag 0 [.inl (0, 1)]) [] σ (.inl (some (.inr (.int r)))) σ := by
  unfold qa_fX9_asked at h
  try dsimp only at h
  show qa_Bk (qa_ds L) qa_mX9_asked 0 [(0, .inl (0, 1))] [] σ _ _
  refine qa_bk_do (pc' := 1) rfl rfl ?_
  refine qa_bk_gr rfl rfl qa_dx_0_1 rfl ?_
  refine qa_bk_gr rfl rfl (qa_ds0 qa_rg_1) rfl ?_
  refine qa_bk_gi rfl rfl (qa_ds12 qa_rg_1) rfl ?_
  subst h
  exact qa_bk_ri rfl rfl
noncomputable def qa_fX9_askedAt (a1 : Int32) (σ : qa_T) : ((Int32 ⊕ Nat) × qa_T) :=
    if (qa_bi (qa_fX9_isWithin a1 (Int32.ofInt 0) ((σ.1 (1, 12) 2) - (Int32.ofInt 1)) σ)) = 0 then
      (.inr 345, σ)
    else
    (.inl (qa_fX9_at (1, 13) 16 a1 σ), σ)
set_option maxRecDepth 100000 in
theorem qa_tX9_askedAt {L : Nat} {a1 : Int32}  {σ : qa_T} {r : ((Int32 ⊕ Nat) × qa_T)} (h : qa_fX9_askedAt a1 σ = r) : qa_Bk (qa_ds L) qa_mX9_askedAt 0 (qa_ag 0 [.inl (0, 1), .inr (.int a1)]) [] σ (qa_ri r.1) r.2 := by
  unfold qa_fX9_askedAt at h
  try dsimp only at h
  show qa_Bk (qa_ds L) qa_mX9_askedAt 0 [(0, .inl (0, 1)), (1, .inr (.int a1))] [] σ _ _
  refine qa_bk_do (pc' := 1) rfl rfl ?_
  refine qa_bk_do (pc' := 2) rfl rfl ?_
  refine qa_bk_do (pc' := 3) rfl rfl ?_
  refine qa_bk_gr rfl rfl qa_dx_0_1 rfl ?_
  refine qa_bk_gr rfl rfl (qa_ds0 qa_rg_1) rfl ?_
  refine qa_bk_gi rfl rfl (qa_ds12 qa_rg_1) rfl ?_
  refine qa_bk_do (pc' := 13) rfl rfl ?_
  refine qa_bk_do (pc' := 14) rfl rfl ?_
  refine qa_bk_cs (qa_tX9_isWithin rfl) rfl rfl rfl rfl rfl rfl rfl ?_
  rcases qa_ite h with ⟨hc1, h⟩ | ⟨hc1, h⟩
  · subst h
    exact qa_bk_cx (qa_tX9_needIndex_x hc1) rfl rfl rfl rfl rfl rfl rfl rfl
  refine qa_bk_cs (qa_tX9_needIndex_o hc1) rfl rfl rfl rfl rfl rfl rfl ?_
  refine qa_bk_do (pc' := 21) rfl rfl ?_
  refine qa_bk_gr rfl rfl qa_dx_0_1 rfl ?_
  refine qa_bk_gr rfl rfl (qa_ds0 qa_rg_1) rfl ?_
  refine qa_bk_gr rfl rfl (qa_ds12 qa_rg_1) rfl ?_
  refine qa_bk_do (pc' := 31) rfl rfl ?_
  refine qa_bk_cs (qa_tX9_at (qa_ds13 qa_rg_1) (Nat.le_of_ble_eq_true rfl) rfl) rfl rfl rfl rfl rfl rfl rfl ?_
  subst h
  exact qa_bk_ri rfl rfl
noncomputable def qa_fX9_takenBySlides  (σ : qa_T) : Option Int32 :=
    (qa_fX1_sumOfCosts 1 σ).bind fun c1 =>
    some c1
set_option maxRecDepth 100000 in
theorem qa_tX9_takenBySlides {L : Nat}   {σ : qa_T} {r : Int32} (h : qa_fX9_takenBySlides  σ = some r) : qa_Bk (qa_ds L) qa_mX9_takenBySlides 0 (qa_ag 0 [.inl (0, 1)]) [] σ (.inl (some (.inr (.int r)))) σ := by
  unfold qa_fX9_takenBySlides at h
  try dsimp only at h
  show qa_Bk (qa_ds L) qa_mX9_takenBySlides 0 [(0, .inl (0, 1))] [] σ _ _
  refine qa_bk_do (pc' := 1) rfl rfl ?_
  refine qa_bk_gr rfl rfl qa_dx_0_1 rfl ?_
  obtain ⟨c1, hc2, h⟩ := Option.bind_eq_some_iff.mp h
  refine qa_bk_cv (qa_tX1_sumOfCosts qa_rg_1 hc2) rfl rfl rfl rfl rfl rfl rfl (qa_ds0 qa_rg_1) ?_
  cases h
  exact qa_bk_ri rfl rfl
noncomputable def qa_fX9_takenByAccount  (σ : qa_T) : Int32 :=
    (σ.1 (1, 12) 4)
set_option maxRecDepth 100000 in
theorem qa_tX9_takenByAccount {L : Nat}   {σ : qa_T} {r : Int32} (h : qa_fX9_takenByAccount  σ = r) : qa_Bk (qa_ds L) qa_mX9_takenByAccount 0 (qa_ag 0 [.inl (0, 1)]) [] σ (.inl (some (.inr (.int r)))) σ := by
  unfold qa_fX9_takenByAccount at h
  try dsimp only at h
  show qa_Bk (qa_ds L) qa_mX9_takenByAccount 0 [(0, .inl (0, 1))] [] σ _ _
  refine qa_bk_do (pc' := 1) rfl rfl ?_
  refine qa_bk_gr rfl rfl qa_dx_0_1 rfl ?_
  refine qa_bk_gr rfl rfl (qa_ds0 qa_rg_1) rfl ?_
  refine qa_bk_gi rfl rfl (qa_ds12 qa_rg_1) rfl ?_
  subst h
  exact qa_bk_ri rfl rfl
noncomputable def qa_fX9_memory  (σ : qa_T) : Int32 :=
    (σ.1 (1, 14) 0)
set_option maxRecDepth 100000 in
theorem qa_tX9_memory {L : Nat}   {σ : qa_T} {r : Int32} (h : qa_fX9_memory  σ = r) : qa_Bk (qa_ds L) qa_mX9_memory 0 (qa_ag 0 [.inl (0, 1)]) [] σ (.inl (some (.inr (.int r)))) σ := by
  unfold qa_fX9_memory at h
  try dsimp only at h
  show qa_Bk (qa_ds L) qa_mX9_memory 0 [(0, .inl (0, 1))] [] σ _ _
  refine qa_bk_do (pc' := 1) rfl rfl ?_
  refine qa_bk_gr rfl rfl qa_dx_0_1 rfl ?_
  refine qa_bk_gr rfl rfl (qa_ds0 qa_rg_1) rfl ?_
  refine qa_bk_gi rfl rfl (qa_ds14 qa_rg_1) rfl ?_
  subst h
  exact qa_bk_ri rfl rfl
noncomputable def qa_fX9_order  (σ : qa_T) : Int32 :=
    (σ.1 (1, 14) 2)
set_option maxRecDepth 100000 in
theorem qa_tX9_order {L : Nat}   {σ : qa_T} {r : Int32} (h : qa_fX9_order  σ = r) : qa_Bk (qa_ds L) qa_mX9_order 0 (qa_ag 0 [.inl (0, 1)]) [] σ (.inl (some (.inr (.int r)))) σ := by
  unfold qa_fX9_order at h
  try dsimp only at h
  show qa_Bk (qa_ds L) qa_mX9_order 0 [(0, .inl (0, 1))] [] σ _ _
  refine qa_bk_do (pc' := 1) rfl rfl ?_
  refine qa_bk_gr rfl rfl qa_dx_0_1 rfl ?_
  refine qa_bk_gr rfl rfl (qa_ds0 qa_rg_1) rfl ?_
  refine qa_bk_gi rfl rfl (qa_ds14 qa_rg_1) rfl ?_
  subst h
  exact qa_bk_ri rfl rfl
noncomputable def qa_fX9_glow  (σ : qa_T) : Int32 :=
    (σ.1 (1, 14) 3)
set_option maxRecDepth 100000 in
theorem qa_tX9_glow {L : Nat}   {σ : qa_T} {r : Int32} (h : qa_fX9_glow  σ = r) : qa_Bk (qa_ds L) qa_mX9_glow 0 (qa_ag 0 [.inl (0, 1)]) [] σ (.inl (some (.inr (.int r)))) σ := by
  unfold qa_fX9_glow at h
  try dsimp only at h
  show qa_Bk (qa_ds L) qa_mX9_glow 0 [(0, .inl (0, 1))] [] σ _ _
  refine qa_bk_do (pc' := 1) rfl rfl ?_
  refine qa_bk_gr rfl rfl qa_dx_0_1 rfl ?_
  refine qa_bk_gr rfl rfl (qa_ds0 qa_rg_1) rfl ?_
  refine qa_bk_gi rfl rfl (qa_ds14 qa_rg_1) rfl ?_
  subst h
  exact qa_bk_ri rfl rfl
noncomputable def qa_fX9_waitOnTrial_13  : Nat → Int32 → qa_T → Option (Int32 × qa_T)
  | 0, _, _ => none
  | n + 1, x1, σ =>
    if ((Int16.ofInt 1000).toInt32) ≤ x1 then
      some (((Int16.ofInt 1000).toInt32), σ)
    else
      (qa_fX1_passTick 2 σ).bind fun c4 =>
      if c4.1 ≤ 0 then
        let v7 : Int32 := x1 + Int32.ofInt 1
        qa_fX9_waitOnTrial_13  n v7 c4.2
      else
        some (x1, c4.2)
noncomputable def qa_fX9_waitOnTrial  (σ : qa_T) : Option (Int32 × qa_T) :=
    (qa_fX1_copyFrom 2 1 σ).bind fun c1 =>
    qa_fX9_waitOnTrial_13  qa_fu (Int32.ofInt 1) c1
set_option maxRecDepth 100000 in
theorem qa_tX9_waitOnTrial_13 {L : Nat}   : ∀ (n : Nat) (x1 : Int32) (σ : qa_T) (r : (Int32 × qa_T)), qa_fX9_waitOnTrial_13  n x1 σ = some r → qa_Bk (qa_ds L) qa_mX9_waitOnTrial 13 [(0, .inl (0, 1)), (1, .inr (.int x1))] [] σ (.inl (some (.inr (.int r.1)))) r.2 := by
  intro n
  induction n with
  | zero => intro x1 σ r h; cases h
  | succ n ih =>
    intro x1 σ r h
    unfold qa_fX9_waitOnTrial_13 at h
    try dsimp only at h
    refine qa_bk_do (pc' := 14) rfl rfl ?_
    refine qa_bk_do (pc' := 17) rfl rfl ?_
    rcases qa_ite h with ⟨hc3, h⟩ | ⟨hc3, h⟩
    · refine qa_bk_1t (a := 38) (b := 20) hc3 rfl rfl ?_
      refine qa_bk_do (pc' := 41) rfl rfl ?_
      cases h
      exact qa_bk_ri rfl rfl
    · refine qa_bk_1f (a := 38) (b := 20) hc3 rfl rfl ?_
      refine qa_bk_do (pc' := 21) rfl rfl ?_
      refine qa_bk_gr rfl rfl qa_dx_0_1 rfl ?_
      obtain ⟨c4, hc5, h⟩ := Option.bind_eq_some_iff.mp h
      refine qa_bk_cv (qa_tX1_passTick qa_rg_2 hc5) rfl rfl rfl rfl rfl rfl rfl (qa_ds0 qa_rg_2) ?_
      rcases qa_ite h with ⟨hc6, h⟩ | ⟨hc6, h⟩
      · refine qa_bk_1t (a := 32) (b := 30) hc6 rfl rfl ?_
        refine qa_bk_do (pc' := 35) (lv' := [(1, _), (0, _)]) rfl rfl ?_
        refine qa_bk_do (pc' := 13) rfl rfl ?_
        exact qa_bk_lw (ih _ _ _ h) rfl rfl (And.intro rfl (And.intro rfl (trivial)))
      · refine qa_bk_1f (a := 32) (b := 30) hc6 rfl rfl ?_
        refine qa_bk_do (pc' := 31) rfl rfl ?_
        cases h
        exact qa_bk_ri rfl rfl
set_option maxRecDepth 100000 in
theorem qa_tX9_waitOnTrial {L : Nat}   {σ : qa_T} {r : (Int32 × qa_T)} (h : qa_fX9_waitOnTrial  σ = some r) : qa_Bk (qa_ds L) qa_mX9_waitOnTrial 0 (qa_ag 0 [.inl (0, 1)]) [] σ (.inl (some (.inr (.int r.1)))) r.2 := by
  unfold qa_fX9_waitOnTrial at h
  try dsimp only at h
  show qa_Bk (qa_ds L) qa_mX9_waitOnTrial 0 [(0, .inl (0, 1))] [] σ _ _
  refine qa_bk_do (pc' := 1) rfl rfl ?_
  refine qa_bk_gr rfl rfl qa_dx_0_1 rfl ?_
  refine qa_bk_do (pc' := 5) rfl rfl ?_
  refine qa_bk_gr rfl rfl qa_dx_0_1 rfl ?_
  obtain ⟨c1, hc2, h⟩ := Option.bind_eq_some_iff.mp h
  refine qa_bk_cv (qa_tX1_copyFrom qa_rg_2 qa_rg_1 hc2) rfl rfl rfl rfl rfl rfl rfl (qa_ds0 qa_rg_2) ?_
  refine qa_bk_do (pc' := 12) rfl rfl ?_
  refine qa_bk_do (pc' := 13) (lv' := [(1, _), (0, _)]) rfl rfl ?_
  exact qa_bk_lw (qa_tX9_waitOnTrial_13  _ _ _ _ h) rfl rfl (And.intro rfl (And.intro rfl (trivial)))
noncomputable def qa_fX9_ticksToShowByTicks_19  (y0 : Int32) (σ : qa_T) : Option ((Int32 ⊕ Nat) × qa_T) :=
    if y0 = 0 then
      some (.inr 348, σ)
    else
    (qa_fX9_waitOnTrial σ).bind fun c3 =>
    some (.inl c3.1, c3.2)
noncomputable def qa_fX9_ticksToShowByTicks  (σ : qa_T) : Option ((Int32 ⊕ Nat) × qa_T) :=
    if (σ.1 (1, 11) 4) = (Int32.ofInt (-1)) then
      qa_fX9_ticksToShowByTicks_19  (Int32.ofInt 0) σ
    else
      qa_fX9_ticksToShowByTicks_19  (Int32.ofInt 1) σ
set_option maxRecDepth 100000 in
theorem qa_tX9_ticksToShowByTicks_19 {L : Nat}   {y0 : Int32} {σ : qa_T} {r : ((Int32 ⊕ Nat) × qa_T)} (h : qa_fX9_ticksToShowByTicks_19  y0 σ = some r) : qa_Bk (qa_ds L) qa_mX9_ticksToShowByTicks 19 [(0, .inl (0, 1))] [.inr (.int y0)] σ (qa_ri r.1) r.2 := by
  unfold qa_fX9_ticksToShowByTicks_19 at h
  try dsimp only at h
  rcases qa_ite h with ⟨hc2, h⟩ | ⟨hc2, h⟩
  · cases h
    exact qa_bk_cx (qa_tX9_needState_x hc2) rfl rfl rfl rfl rfl rfl rfl rfl
  refine qa_bk_cs (qa_tX9_needState_o hc2) rfl rfl rfl rfl rfl rfl rfl ?_
  refine qa_bk_do (pc' := 23) rfl rfl ?_
  obtain ⟨c3, hc4, h⟩ := Option.bind_eq_some_iff.mp h
  refine qa_bk_cv (qa_tX9_waitOnTrial hc4) rfl rfl rfl rfl rfl rfl rfl qa_dx_0_1 ?_
  cases h
  exact qa_bk_ri rfl rfl
set_option maxRecDepth 100000 in
theorem qa_tX9_ticksToShowByTicks {L : Nat}   {σ : qa_T} {r : ((Int32 ⊕ Nat) × qa_T)} (h : qa_fX9_ticksToShowByTicks  σ = some r) : qa_Bk (qa_ds L) qa_mX9_ticksToShowByTicks 0 (qa_ag 0 [.inl (0, 1)]) [] σ (qa_ri r.1) r.2 := by
  unfold qa_fX9_ticksToShowByTicks at h
  try dsimp only at h
  show qa_Bk (qa_ds L) qa_mX9_ticksToShowByTicks 0 [(0, .inl (0, 1))] [] σ _ _
  refine qa_bk_do (pc' := 1) rfl rfl ?_
  refine qa_bk_gr rfl rfl qa_dx_0_1 rfl ?_
  refine qa_bk_gr rfl rfl (qa_ds0 qa_rg_1) rfl ?_
  refine qa_bk_gi rfl rfl (qa_ds11 qa_rg_1) rfl ?_
  refine qa_bk_do (pc' := 11) rfl rfl ?_
  rcases qa_ite h with ⟨hc1, h⟩ | ⟨hc1, h⟩
  · refine qa_bk_1t (a := 18) (b := 14) hc1 rfl rfl ?_
    refine qa_bk_do (pc' := 19) rfl rfl ?_
    exact qa_bk_lw (qa_tX9_ticksToShowByTicks_19  h) rfl rfl (And.intro rfl (trivial))
  · refine qa_bk_1f (a := 18) (b := 14) hc1 rfl rfl ?_
    refine qa_bk_do (pc' := 15) rfl rfl ?_
    refine qa_bk_do (pc' := 19) rfl rfl ?_
    exact qa_bk_lw (qa_tX9_ticksToShowByTicks_19  h) rfl rfl (And.intro rfl (trivial))
noncomputable def qa_fX9_ticksToShowBySums_19  (y0 : Int32) (σ : qa_T) : ((Int32 ⊕ Nat) × qa_T) :=
    if y0 = 0 then
      (.inr 348, σ)
    else
    (.inl (qa_fX1_sumOfWait 1 σ), σ)
noncomputable def qa_fX9_ticksToShowBySums  (σ : qa_T) : ((Int32 ⊕ Nat) × qa_T) :=
    if (σ.1 (1, 11) 4) = (Int32.ofInt (-1)) then
      qa_fX9_ticksToShowBySums_19  (Int32.ofInt 0) σ
    else
      qa_fX9_ticksToShowBySums_19  (Int32.ofInt 1) σ
set_option maxRecDepth 100000 in
theorem qa_tX9_ticksToShowBySums_19 {L : Nat}   {y0 : Int32} {σ : qa_T} {r : ((Int32 ⊕ Nat) × qa_T)} (h : qa_fX9_ticksToShowBySums_19  y0 σ = r) : qa_Bk (qa_ds L) qa_mX9_ticksToShowBySums 19 [(0, .inl (0, 1))] [.inr (.int y0)] σ (qa_ri r.1) r.2 := by
  unfold qa_fX9_ticksToShowBySums_19 at h
  try dsimp only at h
  rcases qa_ite h with ⟨hc2, h⟩ | ⟨hc2, h⟩
  · subst h
    exact qa_bk_cx (qa_tX9_needState_x hc2) rfl rfl rfl rfl rfl rfl rfl rfl
  refine qa_bk_cs (qa_tX9_needState_o hc2) rfl rfl rfl rfl rfl rfl rfl ?_
  refine qa_bk_do (pc' := 23) rfl rfl ?_
  refine qa_bk_gr rfl rfl qa_dx_0_1 rfl ?_
  refine qa_bk_cv (qa_tX1_sumOfWait qa_rg_1 rfl) rfl rfl rfl rfl rfl rfl rfl (qa_ds0 qa_rg_1) ?_
  subst h
  exact qa_bk_ri rfl rfl
set_option maxRecDepth 100000 in
theorem qa_tX9_ticksToShowBySums {L : Nat}   {σ : qa_T} {r : ((Int32 ⊕ Nat) × qa_T)} (h : qa_fX9_ticksToShowBySums  σ = r) : qa_Bk (qa_ds L) qa_mX9_ticksToShowBySums 0 (qa_ag 0 [.inl (0, 1)]) [] σ (qa_ri r.1) r.2 := by
  unfold qa_fX9_ticksToShowBySums at h
  try dsimp only at h
  show qa_Bk (qa_ds L) qa_mX9_ticksToShowBySums 0 [(0, .inl (0, 1))] [] σ _ _
  refine qa_bk_do (pc' := 1) rfl rfl ?_
  refine qa_bk_gr rfl rfl qa_dx_0_1 rfl ?_
  refine qa_bk_gr rfl rfl (qa_ds0 qa_rg_1) rfl ?_
  refine qa_bk_gi rfl rfl (qa_ds11 qa_rg_1) rfl ?_
  refine qa_bk_do (pc' := 11) rfl rfl ?_
  rcases qa_ite h with ⟨hc1, h⟩ | ⟨hc1, h⟩
  · refine qa_bk_1t (a := 18) (b := 14) hc1 rfl rfl ?_
    refine qa_bk_do (pc' := 19) rfl rfl ?_
    exact qa_bk_lw (qa_tX9_ticksToShowBySums_19  h) rfl rfl (And.intro rfl (trivial))
  · refine qa_bk_1f (a := 18) (b := 14) hc1 rfl rfl ?_
    refine qa_bk_do (pc' := 15) rfl rfl ?_
    refine qa_bk_do (pc' := 19) rfl rfl ?_
    exact qa_bk_lw (qa_tX9_ticksToShowBySums_19  h) rfl rfl (And.intro rfl (trivial))
noncomputable def qa_fX9_burningsFor (a1 : Int32) (σ : qa_T) : Option ((Int32 ⊕ Nat) × qa_T) :=
    if (qa_bi (qa_fX6_has 1 a1 σ)) = 0 then
      some (.inr 345, σ)
    else
    (qa_fX1_burningsToLoad 1 a1 σ).bind fun c2 =>
    some (.inl c2.1, c2.2)
set_option maxRecDepth 100000 in
theorem qa_tX9_burningsFor {L : Nat} {a1 : Int32}  {σ : qa_T} {r : ((Int32 ⊕ Nat) × qa_T)} (h : qa_fX9_burningsFor a1 σ = some r) : qa_Bk (qa_ds L) qa_mX9_burningsFor 0 (qa_ag 0 [.inl (0, 1), .inr (.int a1)]) [] σ (qa_ri r.1) r.2 := by
  unfold qa_fX9_burningsFor at h
  try dsimp only at h
  show qa_Bk (qa_ds L) qa_mX9_burningsFor 0 [(0, .inl (0, 1)), (1, .inr (.int a1))] [] σ _ _
  refine qa_bk_do (pc' := 1) rfl rfl ?_
  refine qa_bk_gr rfl rfl qa_dx_0_1 rfl ?_
  refine qa_bk_gr rfl rfl (qa_ds0 qa_rg_1) rfl ?_
  refine qa_bk_do (pc' := 8) rfl rfl ?_
  refine qa_bk_cv (qa_tX6_has qa_rg_1 rfl) rfl rfl rfl rfl rfl rfl rfl (qa_ds1 qa_rg_1) ?_
  rcases qa_ite h with ⟨hc1, h⟩ | ⟨hc1, h⟩
  · cases h
    exact qa_bk_cx (qa_tX9_needIndex_x hc1) rfl rfl rfl rfl rfl rfl rfl rfl
  refine qa_bk_cs (qa_tX9_needIndex_o hc1) rfl rfl rfl rfl rfl rfl rfl ?_
  refine qa_bk_do (pc' := 15) rfl rfl ?_
  refine qa_bk_gr rfl rfl qa_dx_0_1 rfl ?_
  refine qa_bk_do (pc' := 19) rfl rfl ?_
  obtain ⟨c2, hc3, h⟩ := Option.bind_eq_some_iff.mp h
  refine qa_bk_cv (qa_tX1_burningsToLoad qa_rg_1 hc3) rfl rfl rfl rfl rfl rfl rfl (qa_ds0 qa_rg_1) ?_
  cases h
  exact qa_bk_ri rfl rfl
noncomputable def qa_fX9_missesOnTrial_113 (a1 : Int32) (k37 : Int32 → Int32 → qa_T → Option (Int32 × qa_T)) : Nat → Int32 → Int32 → Int32 → qa_T → Option (Int32 × qa_T)
  | 0, _, _, _, _ => none
  | n + 1, x2, x3, x4, σ =>
    if ((Int8.ofInt 10).toInt32) ≤ x4 then
      let v13 : Int32 := x3 + Int32.ofInt 1
      k37 x2 v13 σ
    else
      (qa_fX1_passTick 2 σ).bind fun c14 =>
      let v16 : Int32 := x4 + Int32.ofInt 1
      qa_fX9_missesOnTrial_113 a1 k37 n x2 x3 v16 c14.2
noncomputable def qa_fX9_missesOnTrial_110 (a1 : Int32) (k37 : Int32 → Int32 → qa_T → Option (Int32 × qa_T)) (x2 : Int32) (x3 : Int32) (σ : qa_T) : Option (Int32 × qa_T) :=
    qa_fX9_missesOnTrial_113 a1 k37 qa_fu x2 x3 (Int32.ofInt 0) σ
noncomputable def qa_fX9_missesOnTrial_74 (a1 : Int32) (k37 : Int32 → Int32 → qa_T → Option (Int32 × qa_T)) : Nat → Int32 → Int32 → Int32 → qa_T → Option (Int32 × qa_T)
  | 0, _, _, _, _ => none
  | n + 1, x2, x3, x4, σ =>
    if (σ.1 (2, 11) 4) = (Int32.ofInt (-1)) then
      qa_fX9_missesOnTrial_110 a1 k37 x2 x3 σ
    else
      if ((Int16.ofInt 1000).toInt32) ≤ x4 then
        qa_fX9_missesOnTrial_110 a1 k37 x2 x3 σ
      else
        (qa_fX1_passTick 2 σ).bind fun c18 =>
        let v20 : Int32 := x4 + Int32.ofInt 1
        qa_fX9_missesOnTrial_74 a1 k37 n x2 x3 v20 c18.2
noncomputable def qa_fX9_missesOnTrial_64 (a1 : Int32) (k37 : Int32 → Int32 → qa_T → Option (Int32 × qa_T)) (x2 : Int32) (x3 : Int32) (σ : qa_T) : Option (Int32 × qa_T) :=
    (qa_fX1_beginLoading 2 σ).bind fun c9 =>
    qa_fX9_missesOnTrial_74 a1 k37 qa_fu x2 x3 (Int32.ofInt 0) c9
noncomputable def qa_fX9_missesOnTrial_37 (a1 : Int32) : Nat → Int32 → Int32 → qa_T → Option (Int32 × qa_T)
  | 0, _, _, _ => none
  | n + 1, x2, x3, σ =>
    if (σ.1 (1, 9) 0) ≤ x3 then
      some (x2, σ)
    else
      (qa_fX1_proceed 2 σ).bind fun c6 =>
      if ¬ (qa_bi c6.1) = 0 then
        qa_fX9_missesOnTrial_64 a1 (qa_fX9_missesOnTrial_37 a1 n) x2 x3 c6.2
      else
        let v21 : Int32 := x2 + Int32.ofInt 1
        qa_fX9_missesOnTrial_64 a1 (qa_fX9_missesOnTrial_37 a1 n) v21 x3 c6.2
noncomputable def qa_fX9_missesOnTrial (a1 : Int32) (σ : qa_T) : Option (Int32 × qa_T) :=
    (qa_fX1_copyFrom 2 1 σ).bind fun c1 =>
    let σ3 := qa_wi c1 (2, 14) 2 a1
    let σ4 := qa_wi σ3 (2, 14) 4 (Int32.ofInt 0)
    qa_fX9_missesOnTrial_37 a1 qa_fu (Int32.ofInt 0) (Int32.ofInt 0) σ4
set_option maxRecDepth 100000 in
theorem qa_tX9_missesOnTrial_113 {L : Nat} {a1 : Int32}  {k37 : Int32 → Int32 → qa_T → Option (Int32 × qa_T)} (K37 : ∀ (x2 : Int32) (x3 : Int32) (σ : qa_T) (r : (Int32 × qa_T)), k37 x2 x3 σ = some r → qa_Bk (qa_ds L) qa_mX9_missesOnTrial 37 [(0, .inl (0, 1)), (1, .inr (.int a1)), (2, .inr (.int x2)), (3, .inr (.int x3))] [] σ (.inl (some (.inr (.int r.1)))) r.2) : ∀ (n : Nat) (x2 : Int32) (x3 : Int32) (x4 : Int32) (σ : qa_T) (r : (Int32 × qa_T)), qa_fX9_missesOnTrial_113 a1 k37 n x2 x3 x4 σ = some r → qa_Bk (qa_ds L) qa_mX9_missesOnTrial 113 [(0, .inl (0, 1)), (1, .inr (.int a1)), (2, .inr (.int x2)), (3, .inr (.int x3)), (4, .inr (.int x4))] [] σ (.inl (some (.inr (.int r.1)))) r.2 := by
  intro n
  induction n with
  | zero => intro x2 x3 x4 σ r h; cases h
  | succ n ih =>
    intro x2 x3 x4 σ r h
    unfold qa_fX9_missesOnTrial_113 at h
    try dsimp only at h
    refine qa_bk_do (pc' := 115) rfl rfl ?_
    refine qa_bk_do (pc' := 117) rfl rfl ?_
    rcases qa_ite h with ⟨hc12, h⟩ | ⟨hc12, h⟩
    · refine qa_bk_1t (a := 134) (b := 120) hc12 rfl rfl ?_
      refine qa_bk_do (pc' := 137) (lv' := [(3, _), (0, _), (1, _), (2, _), (4, _)]) rfl rfl ?_
      refine qa_bk_do (pc' := 37) rfl rfl ?_
      exact qa_bk_lw (K37 _ _ _ _ h) rfl rfl (And.intro rfl (And.intro rfl (And.intro rfl (And.intro rfl (trivial)))))
    · refine qa_bk_1f (a := 134) (b := 120) hc12 rfl rfl ?_
      refine qa_bk_do (pc' := 121) rfl rfl ?_
      refine qa_bk_gr rfl rfl qa_dx_0_1 rfl ?_
      obtain ⟨c14, hc15, h⟩ := Option.bind_eq_some_iff.mp h
      refine qa_bk_cv (qa_tX1_passTick qa_rg_2 hc15) rfl rfl rfl rfl rfl rfl rfl (qa_ds0 qa_rg_2) ?_
      refine qa_bk_do (pc' := 128) rfl rfl ?_
      refine qa_bk_do (pc' := 131) (lv' := [(4, _), (0, _), (1, _), (2, _), (3, _)]) rfl rfl ?_
      refine qa_bk_do (pc' := 113) rfl rfl ?_
      exact qa_bk_lw (ih _ _ _ _ _ h) rfl rfl (And.intro rfl (And.intro rfl (And.intro rfl (And.intro rfl (And.intro rfl (trivial))))))
set_option maxRecDepth 100000 in
theorem qa_tX9_missesOnTrial_110 {L : Nat} {a1 : Int32}  {k37 : Int32 → Int32 → qa_T → Option (Int32 × qa_T)} (K37 : ∀ (x2 : Int32) (x3 : Int32) (σ : qa_T) (r : (Int32 × qa_T)), k37 x2 x3 σ = some r → qa_Bk (qa_ds L) qa_mX9_missesOnTrial 37 [(0, .inl (0, 1)), (1, .inr (.int a1)), (2, .inr (.int x2)), (3, .inr (.int x3))] [] σ (.inl (some (.inr (.int r.1)))) r.2) {x2 : Int32} {x3 : Int32} {σ : qa_T} {r : (Int32 × qa_T)} (h : qa_fX9_missesOnTrial_110 a1 k37 x2 x3 σ = some r) : qa_Bk (qa_ds L) qa_mX9_missesOnTrial 110 [(0, .inl (0, 1)), (1, .inr (.int a1)), (2, .inr (.int x2)), (3, .inr (.int x3))] [] σ (.inl (some (.inr (.int r.1)))) r.2 := by
  unfold qa_fX9_missesOnTrial_110 at h
  try dsimp only at h
  refine qa_bk_do (pc' := 111) rfl rfl ?_
  refine qa_bk_do (pc' := 113) (lv' := [(4, _), (0, _), (1, _), (2, _), (3, _)]) rfl rfl ?_
  exact qa_bk_lw (qa_tX9_missesOnTrial_113  K37 _ _ _ _ _ _ h) rfl rfl (And.intro rfl (And.intro rfl (And.intro rfl (And.intro rfl (And.intro rfl (trivial))))))
set_option maxRecDepth 100000 in
theorem qa_tX9_missesOnTrial_74 {L : Nat} {a1 : Int32}  {k37 : Int32 → Int32 → qa_T → Option (Int32 × qa_T)} (K37 : ∀ (x2 : Int32) (x3 : Int32) (σ : qa_T) (r : (Int32 × qa_T)), k37 x2 x3 σ = some r → qa_Bk (qa_ds L) qa_mX9_missesOnTrial 37 [(0, .inl (0, 1)), (1, .inr (.int a1)), (2, .inr (.int x2)), (3, .inr (.int x3))] [] σ (.inl (some (.inr (.int r.1)))) r.2) : ∀ (n : Nat) (x2 : Int32) (x3 : Int32) (x4 : Int32) (σ : qa_T) (r : (Int32 × qa_T)), qa_fX9_missesOnTrial_74 a1 k37 n x2 x3 x4 σ = some r → qa_Bk (qa_ds L) qa_mX9_missesOnTrial 74 [(0, .inl (0, 1)), (1, .inr (.int a1)), (2, .inr (.int x2)), (3, .inr (.int x3)), (4, .inr (.int x4))] [] σ (.inl (some (.inr (.int r.1)))) r.2 := by
  intro n
  induction n with
  | zero => intro x2 x3 x4 σ r h; cases h
  | succ n ih =>
    intro x2 x3 x4 σ r h
    unfold qa_fX9_missesOnTrial_74 at h
    try dsimp only at h
    refine qa_bk_do (pc' := 75) rfl rfl ?_
    refine qa_bk_gr rfl rfl qa_dx_0_1 rfl ?_
    refine qa_bk_gr rfl rfl (qa_ds0 qa_rg_2) rfl ?_
    refine qa_bk_gi rfl rfl (qa_ds11 qa_rg_2) rfl ?_
    refine qa_bk_do (pc' := 85) rfl rfl ?_
    rcases qa_ite h with ⟨hc11, h⟩ | ⟨hc11, h⟩
    · refine qa_bk_1t (a := 110) (b := 88) hc11 rfl rfl ?_
      exact qa_bk_lw (qa_tX9_missesOnTrial_110  K37 h) rfl rfl (And.intro rfl (And.intro rfl (And.intro rfl (And.intro rfl (trivial)))))
    · refine qa_bk_1f (a := 110) (b := 88) hc11 rfl rfl ?_
      refine qa_bk_do (pc' := 90) rfl rfl ?_
      refine qa_bk_do (pc' := 93) rfl rfl ?_
      rcases qa_ite h with ⟨hc17, h⟩ | ⟨hc17, h⟩
      · refine qa_bk_1t (a := 110) (b := 96) hc17 rfl rfl ?_
        exact qa_bk_lw (qa_tX9_missesOnTrial_110  K37 h) rfl rfl (And.intro rfl (And.intro rfl (And.intro rfl (And.intro rfl (trivial)))))
      · refine qa_bk_1f (a := 110) (b := 96) hc17 rfl rfl ?_
        refine qa_bk_do (pc' := 97) rfl rfl ?_
        refine qa_bk_gr rfl rfl qa_dx_0_1 rfl ?_
        obtain ⟨c18, hc19, h⟩ := Option.bind_eq_some_iff.mp h
        refine qa_bk_cv (qa_tX1_passTick qa_rg_2 hc19) rfl rfl rfl rfl rfl rfl rfl (qa_ds0 qa_rg_2) ?_
        refine qa_bk_do (pc' := 104) rfl rfl ?_
        refine qa_bk_do (pc' := 107) (lv' := [(4, _), (0, _), (1, _), (2, _), (3, _)]) rfl rfl ?_
        refine qa_bk_do (pc' := 74) rfl rfl ?_
        exact qa_bk_lw (ih _ _ _ _ _ h) rfl rfl (And.intro rfl (And.intro rfl (And.intro rfl (And.intro rfl (And.intro rfl (trivial))))))
set_option maxRecDepth 100000 in
theorem qa_tX9_missesOnTrial_64 {L : Nat} {a1 : Int32}  {k37 : Int32 → Int32 → qa_T → Option (Int32 × qa_T)} (K37 : ∀ (x2 : Int32) (x3 : Int32) (σ : qa_T) (r : (Int32 × qa_T)), k37 x2 x3 σ = some r → qa_Bk (qa_ds L) qa_mX9_missesOnTrial 37 [(0, .inl (0, 1)), (1, .inr (.int a1)), (2, .inr (.int x2)), (3, .inr (.int x3))] [] σ (.inl (some (.inr (.int r.1)))) r.2) {x2 : Int32} {x3 : Int32} {σ : qa_T} {r : (Int32 × qa_T)} (h : qa_fX9_missesOnTrial_64 a1 k37 x2 x3 σ = some r) : qa_Bk (qa_ds L) qa_mX9_missesOnTrial 64 [(0, .inl (0, 1)), (1, .inr (.int a1)), (2, .inr (.int x2)), (3, .inr (.int x3))] [] σ (.inl (some (.inr (.int r.1)))) r.2 := by
  unfold qa_fX9_missesOnTrial_64 at h
  try dsimp only at h
  refine qa_bk_do (pc' := 65) rfl rfl ?_
  refine qa_bk_gr rfl rfl qa_dx_0_1 rfl ?_
  obtain ⟨c9, hc10, h⟩ := Option.bind_eq_some_iff.mp h
  refine qa_bk_cv (qa_tX1_beginLoading qa_rg_2 hc10) rfl rfl rfl rfl rfl rfl rfl (qa_ds0 qa_rg_2) ?_
  refine qa_bk_do (pc' := 72) rfl rfl ?_
  refine qa_bk_do (pc' := 74) (lv' := [(4, _), (0, _), (1, _), (2, _), (3, _)]) rfl rfl ?_
  exact qa_bk_lw (qa_tX9_missesOnTrial_74  K37 _ _ _ _ _ _ h) rfl rfl (And.intro rfl (And.intro rfl (And.intro rfl (And.intro rfl (And.intro rfl (trivial))))))
set_option maxRecDepth 100000 in
theorem qa_tX9_missesOnTrial_37 {L : Nat} {a1 : Int32}  : ∀ (n : Nat) (x2 : Int32) (x3 : Int32) (σ : qa_T) (r : (Int32 × qa_T)), qa_fX9_missesOnTrial_37 a1 n x2 x3 σ = some r → qa_Bk (qa_ds L) qa_mX9_missesOnTrial 37 [(0, .inl (0, 1)), (1, .inr (.int a1)), (2, .inr (.int x2)), (3, .inr (.int x3))] [] σ (.inl (some (.inr (.int r.1)))) r.2 := by
  intro n
  induction n with
  | zero => intro x2 x3 σ r h; cases h
  | succ n ih =>
    intro x2 x3 σ r h
    unfold qa_fX9_missesOnTrial_37 at h
    try dsimp only at h
    refine qa_bk_do (pc' := 38) rfl rfl ?_
    refine qa_bk_do (pc' := 39) rfl rfl ?_
    refine qa_bk_gr rfl rfl qa_dx_0_1 rfl ?_
    refine qa_bk_gr rfl rfl (qa_ds0 qa_rg_1) rfl ?_
    refine qa_bk_gi rfl rfl (qa_ds9 qa_rg_1) rfl ?_
    rcases qa_ite h with ⟨hc5, h⟩ | ⟨hc5, h⟩
    · refine qa_bk_1t (a := 140) (b := 51) hc5 rfl rfl ?_
      refine qa_bk_do (pc' := 141) rfl rfl ?_
      cases h
      exact qa_bk_ri rfl rfl
    · refine qa_bk_1f (a := 140) (b := 51) hc5 rfl rfl ?_
      refine qa_bk_do (pc' := 52) rfl rfl ?_
      refine qa_bk_gr rfl rfl qa_dx_0_1 rfl ?_
      obtain ⟨c6, hc7, h⟩ := Option.bind_eq_some_iff.mp h
      refine qa_bk_cv (qa_tX1_proceed qa_rg_2 hc7) rfl rfl rfl rfl rfl rfl rfl (qa_ds0 qa_rg_2) ?_
      rcases qa_ite h with ⟨hc8, h⟩ | ⟨hc8, h⟩
      · refine qa_bk_1t (a := 64) (b := 61) hc8 rfl rfl ?_
        exact qa_bk_lw (qa_tX9_missesOnTrial_64  ih h) rfl rfl (And.intro rfl (And.intro rfl (And.intro rfl (And.intro rfl (trivial)))))
      · refine qa_bk_1f (a := 64) (b := 61) hc8 rfl rfl ?_
        refine qa_bk_do (pc' := 64) (lv' := [(2, _), (0, _), (1, _), (3, _)]) rfl rfl ?_
        exact qa_bk_lw (qa_tX9_missesOnTrial_64  ih h) rfl rfl (And.intro rfl (And.intro rfl (And.intro rfl (And.intro rfl (trivial)))))
set_option maxRecDepth 100000 in
theorem qa_tX9_missesOnTrial {L : Nat} {a1 : Int32}  {σ : qa_T} {r : (Int32 × qa_T)} (h : qa_fX9_missesOnTrial a1 σ = some r) : qa_Bk (qa_ds L) qa_mX9_missesOnTrial 0 (qa_ag 0 [.inl (0, 1), .inr (.int a1)]) [] σ (.inl (some (.inr (.int r.1)))) r.2 := by
  unfold qa_fX9_missesOnTrial at h
  try dsimp only at h
  show qa_Bk (qa_ds L) qa_mX9_missesOnTrial 0 [(0, .inl (0, 1)), (1, .inr (.int a1))] [] σ _ _
  refine qa_bk_do (pc' := 1) rfl rfl ?_
  refine qa_bk_gr rfl rfl qa_dx_0_1 rfl ?_
  refine qa_bk_do (pc' := 5) rfl rfl ?_
  refine qa_bk_gr rfl rfl qa_dx_0_1 rfl ?_
  obtain ⟨c1, hc2, h⟩ := Option.bind_eq_some_iff.mp h
  refine qa_bk_cv (qa_tX1_copyFrom qa_rg_2 qa_rg_1 hc2) rfl rfl rfl rfl rfl rfl rfl (qa_ds0 qa_rg_2) ?_
  refine qa_bk_do (pc' := 12) rfl rfl ?_
  refine qa_bk_gr rfl rfl qa_dx_0_1 rfl ?_
  refine qa_bk_gr rfl rfl (qa_ds0 qa_rg_2) rfl ?_
  refine qa_bk_do (pc' := 19) rfl rfl ?_
  refine qa_bk_pf rfl rfl (qa_ds14 qa_rg_2) rfl (qa_fiti _) rfl ?_
  refine qa_bk_do (pc' := 23) rfl rfl ?_
  refine qa_bk_gr rfl rfl qa_dx_0_1 rfl ?_
  refine qa_bk_gr rfl rfl (qa_ds0 qa_rg_2) rfl ?_
  refine qa_bk_do (pc' := 30) rfl rfl ?_
  refine qa_bk_pf rfl rfl (qa_ds14 qa_rg_2) rfl (qa_fiti _) rfl ?_
  refine qa_bk_do (pc' := 34) rfl rfl ?_
  refine qa_bk_do (pc' := 35) (lv' := [(2, _), (0, _), (1, _)]) rfl rfl ?_
  refine qa_bk_do (pc' := 36) rfl rfl ?_
  refine qa_bk_do (pc' := 37) (lv' := [(3, _), (2, _), (0, _), (1, _)]) rfl rfl ?_
  exact qa_bk_lw (qa_tX9_missesOnTrial_37  _ _ _ _ _ h) rfl rfl (And.intro rfl (And.intro rfl (And.intro rfl (And.intro rfl (trivial)))))
noncomputable def qa_fX9_missesWith (a1 : Int32) (σ : qa_T) : Option ((Int32 ⊕ Nat) × qa_T) :=
    if (qa_bi (qa_fX9_isWithin a1 (Int32.ofInt 0) (Int32.ofInt 2) σ)) = 0 then
      some (.inr 342, σ)
    else
    if (qa_bi (qa_fX1_mayGoOn 1 σ)) = 0 then
      some (.inr 348, σ)
    else
    (qa_fX9_missesOnTrial a1 σ).bind fun c3 =>
    some (.inl c3.1, c3.2)
set_option maxRecDepth 100000 in
theorem qa_tX9_missesWith {L : Nat} {a1 : Int32}  {σ : qa_T} {r : ((Int32 ⊕ Nat) × qa_T)} (h : qa_fX9_missesWith a1 σ = some r) : qa_Bk (qa_ds L) qa_mX9_missesWith 0 (qa_ag 0 [.inl (0, 1), .inr (.int a1)]) [] σ (qa_ri r.1) r.2 := by
  unfold qa_fX9_missesWith at h
  try dsimp only at h
  show qa_Bk (qa_ds L) qa_mX9_missesWith 0 [(0, .inl (0, 1)), (1, .inr (.int a1))] [] σ _ _
  refine qa_bk_do (pc' := 1) rfl rfl ?_
  refine qa_bk_do (pc' := 2) rfl rfl ?_
  refine qa_bk_do (pc' := 3) rfl rfl ?_
  refine qa_bk_cs (qa_tX9_isWithin rfl) rfl rfl rfl rfl rfl rfl rfl ?_
  rcases qa_ite h with ⟨hc1, h⟩ | ⟨hc1, h⟩
  · cases h
    exact qa_bk_cx (qa_tX9_needArgument_x hc1) rfl rfl rfl rfl rfl rfl rfl rfl
  refine qa_bk_cs (qa_tX9_needArgument_o hc1) rfl rfl rfl rfl rfl rfl rfl ?_
  refine qa_bk_do (pc' := 10) rfl rfl ?_
  refine qa_bk_gr rfl rfl qa_dx_0_1 rfl ?_
  refine qa_bk_cv (qa_tX1_mayGoOn qa_rg_1 rfl) rfl rfl rfl rfl rfl rfl rfl (qa_ds0 qa_rg_1) ?_
  rcases qa_ite h with ⟨hc2, h⟩ | ⟨hc2, h⟩
  · cases h
    exact qa_bk_cx (qa_tX9_needState_x hc2) rfl rfl rfl rfl rfl rfl rfl rfl
  refine qa_bk_cs (qa_tX9_needState_o hc2) rfl rfl rfl rfl rfl rfl rfl ?_
  refine qa_bk_do (pc' := 20) rfl rfl ?_
  refine qa_bk_do (pc' := 21) rfl rfl ?_
  obtain ⟨c3, hc4, h⟩ := Option.bind_eq_some_iff.mp h
  refine qa_bk_cv (qa_tX9_missesOnTrial hc4) rfl rfl rfl rfl rfl rfl rfl qa_dx_0_1 ?_
  cases h
  exact qa_bk_ri rfl rfl
noncomputable def qa_fX9_bestOrder_43  (k20 : Int32 → Int32 → Int32 → qa_T → Option ((Int32 ⊕ Nat) × qa_T)) (x1 : Int32) (x2 : Int32) (x3 : Int32) (σ : qa_T) : Option ((Int32 ⊕ Nat) × qa_T) :=
    let v8 : Int32 := x3 + Int32.ofInt 1
    k20 x1 x2 v8 σ
noncomputable def qa_fX9_bestOrder_20  : Nat → Int32 → Int32 → Int32 → qa_T → Option ((Int32 ⊕ Nat) × qa_T)
  | 0, _, _, _, _ => none
  | n + 1, x1, x2, x3, σ =>
    if (Int32.ofInt 3) ≤ x3 then
      some (.inl x1, σ)
    else
      (qa_fX9_missesOnTrial x3 σ).bind fun c5 =>
      if x2 ≤ c5.1 then
        qa_fX9_bestOrder_43  (qa_fX9_bestOrder_20  n) x1 x2 x3 c5.2
      else
        qa_fX9_bestOrder_43  (qa_fX9_bestOrder_20  n) x3 c5.1 x3 c5.2
noncomputable def qa_fX9_bestOrder  (σ : qa_T) : Option ((Int32 ⊕ Nat) × qa_T) :=
    if (qa_bi (qa_fX1_mayGoOn 1 σ)) = 0 then
      some (.inr 348, σ)
    else
    (qa_fX9_missesOnTrial (Int32.ofInt 0) σ).bind fun c2 =>
    qa_fX9_bestOrder_20  qa_fu (Int32.ofInt 0) c2.1 (Int32.ofInt 1) c2.2
set_option maxRecDepth 100000 in
theorem qa_tX9_bestOrder_43 {L : Nat}   {k20 : Int32 → Int32 → Int32 → qa_T → Option ((Int32 ⊕ Nat) × qa_T)} (K20 : ∀ (x1 : Int32) (x2 : Int32) (x3 : Int32) (σ : qa_T) (r : ((Int32 ⊕ Nat) × qa_T)), k20 x1 x2 x3 σ = some r → qa_Bk (qa_ds L) qa_mX9_bestOrder 20 [(0, .inl (0, 1)), (1, .inr (.int x1)), (2, .inr (.int x2)), (3, .inr (.int x3))] [] σ (qa_ri r.1) r.2) {x1 : Int32} {x2 : Int32} {x3 : Int32} {σ : qa_T} {r : ((Int32 ⊕ Nat) × qa_T)} (h : qa_fX9_bestOrder_43  k20 x1 x2 x3 σ = some r) : qa_Bk (qa_ds L) qa_mX9_bestOrder 43 [(0, .inl (0, 1)), (1, .inr (.int x1)), (2, .inr (.int x2)), (3, .inr (.int x3))] [] σ (qa_ri r.1) r.2 := by
  unfold qa_fX9_bestOrder_43 at h
  try dsimp only at h
  refine qa_bk_do (pc' := 46) (lv' := [(3, _), (0, _), (1, _), (2, _)]) rfl rfl ?_
  refine qa_bk_do (pc' := 20) rfl rfl ?_
  exact qa_bk_lw (K20 _ _ _ _ _ h) rfl rfl (And.intro rfl (And.intro rfl (And.intro rfl (And.intro rfl (trivial)))))
set_option maxRecDepth 100000 in
theorem qa_tX9_bestOrder_20 {L : Nat}   : ∀ (n : Nat) (x1 : Int32) (x2 : Int32) (x3 : Int32) (σ : qa_T) (r : ((Int32 ⊕ Nat) × qa_T)), qa_fX9_bestOrder_20  n x1 x2 x3 σ = some r → qa_Bk (qa_ds L) qa_mX9_bestOrder 20 [(0, .inl (0, 1)), (1, .inr (.int x1)), (2, .inr (.int x2)), (3, .inr (.int x3))] [] σ (qa_ri r.1) r.2 := by
  intro n
  induction n with
  | zero => intro x1 x2 x3 σ r h; cases h
  | succ n ih =>
    intro x1 x2 x3 σ r h
    unfold qa_fX9_bestOrder_20 at h
    try dsimp only at h
    refine qa_bk_do (pc' := 21) rfl rfl ?_
    refine qa_bk_do (pc' := 22) rfl rfl ?_
    rcases qa_ite h with ⟨hc4, h⟩ | ⟨hc4, h⟩
    · refine qa_bk_1t (a := 49) (b := 25) hc4 rfl rfl ?_
      refine qa_bk_do (pc' := 50) rfl rfl ?_
      cases h
      exact qa_bk_ri rfl rfl
    · refine qa_bk_1f (a := 49) (b := 25) hc4 rfl rfl ?_
      refine qa_bk_do (pc' := 26) rfl rfl ?_
      refine qa_bk_do (pc' := 27) rfl rfl ?_
      obtain ⟨c5, hc6, h⟩ := Option.bind_eq_some_iff.mp h
      refine qa_bk_cv (qa_tX9_missesOnTrial hc6) rfl rfl rfl rfl rfl rfl rfl qa_dx_0_1 ?_
      refine qa_bk_do (pc' := 32) (lv' := [(4, _), (0, _), (1, _), (2, _), (3, _)]) rfl rfl ?_
      refine qa_bk_do (pc' := 34) rfl rfl ?_
      refine qa_bk_do (pc' := 35) rfl rfl ?_
      rcases qa_ite h with ⟨hc7, h⟩ | ⟨hc7, h⟩
      · refine qa_bk_1t (a := 43) (b := 38) hc7 rfl rfl ?_
        exact qa_bk_lw (qa_tX9_bestOrder_43  ih h) rfl rfl (And.intro rfl (And.intro rfl (And.intro rfl (And.intro rfl (trivial)))))
      · refine qa_bk_1f (a := 43) (b := 38) hc7 rfl rfl ?_
        refine qa_bk_do (pc' := 39) rfl rfl ?_
        refine qa_bk_do (pc' := 40) (lv' := [(1, _), (4, _), (0, _), (2, _), (3, _)]) rfl rfl ?_
        refine qa_bk_do (pc' := 42) rfl rfl ?_
        refine qa_bk_do (pc' := 43) (lv' := [(2, _), (1, _), (4, _), (0, _), (3, _)]) rfl rfl ?_
        exact qa_bk_lw (qa_tX9_bestOrder_43  ih h) rfl rfl (And.intro rfl (And.intro rfl (And.intro rfl (And.intro rfl (trivial)))))
set_option maxRecDepth 100000 in
theorem qa_tX9_bestOrder {L : Nat}   {σ : qa_T} {r : ((Int32 ⊕ Nat) × qa_T)} (h : qa_fX9_bestOrder  σ = some r) : qa_Bk (qa_ds L) qa_mX9_bestOrder 0 (qa_ag 0 [.inl (0, 1)]) [] σ (qa_ri r.1) r.2 := by
  unfold qa_fX9_bestOrder at h
  try dsimp only at h
  show qa_Bk (qa_ds L) qa_mX9_bestOrder 0 [(0, .inl (0, 1))] [] σ _ _
  refine qa_bk_do (pc' := 1) rfl rfl ?_
  refine qa_bk_gr rfl rfl qa_dx_0_1 rfl ?_
  refine qa_bk_cv (qa_tX1_mayGoOn qa_rg_1 rfl) rfl rfl rfl rfl rfl rfl rfl (qa_ds0 qa_rg_1) ?_
  rcases qa_ite h with ⟨hc1, h⟩ | ⟨hc1, h⟩
  · cases h
    exact qa_bk_cx (qa_tX9_needState_x hc1) rfl rfl rfl rfl rfl rfl rfl rfl
  refine qa_bk_cs (qa_tX9_needState_o hc1) rfl rfl rfl rfl rfl rfl rfl ?_
  refine qa_bk_do (pc' := 11) rfl rfl ?_
  refine qa_bk_do (pc' := 12) (lv' := [(1, _), (0, _)]) rfl rfl ?_
  refine qa_bk_do (pc' := 13) rfl rfl ?_
  refine qa_bk_do (pc' := 14) rfl rfl ?_
  obtain ⟨c2, hc3, h⟩ := Option.bind_eq_some_iff.mp h
  refine qa_bk_cv (qa_tX9_missesOnTrial hc3) rfl rfl rfl rfl rfl rfl rfl qa_dx_0_1 ?_
  refine qa_bk_do (pc' := 18) (lv' := [(2, _), (1, _), (0, _)]) rfl rfl ?_
  refine qa_bk_do (pc' := 19) rfl rfl ?_
  refine qa_bk_do (pc' := 20) (lv' := [(3, _), (2, _), (1, _), (0, _)]) rfl rfl ?_
  exact qa_bk_lw (qa_tX9_bestOrder_20  _ _ _ _ _ _ h) rfl rfl (And.intro rfl (And.intro rfl (And.intro rfl (And.intro rfl (trivial)))))
