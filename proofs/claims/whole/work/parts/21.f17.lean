/-! the methods as functions (written by wip/tools/gen.py) -/
noncomputable def qa_fX10_places  (σ : qa_T) : Option (Int32 × qa_T) :=
    (qa_fX10_rule ((Int8.ofInt 113).toInt32) σ).bind fun c1 =>
    some (c1.1, c1.2)
set_option maxRecDepth 100000 in
theorem qa_tX10_places {L : Nat}   {σ : qa_T} {r : (Int32 × qa_T)} (h : qa_fX10_places  σ = some r) : qa_Bk (qa_ds L) qa_mX10_places 0 (qa_ag 0 [.inl (10, 21)]) [] σ (.inl (some (.inr (.int r.1)))) r.2 := by
  unfold qa_fX10_places at h
  try dsimp only at h
  show qa_Bk (qa_ds L) qa_mX10_places 0 [(0, .inl (10, 21))] [] σ _ _
  refine qa_bk_do (pc' := 1) rfl rfl ?_
  refine qa_bk_do (pc' := 3) rfl rfl ?_
  obtain ⟨c1, hc2, h⟩ := Option.bind_eq_some_iff.mp h
  refine qa_bk_cv (qa_tX10_rule hc2) rfl rfl rfl rfl rfl rfl rfl qa_dx_10_21 ?_
  cases h
  exact qa_bk_ri rfl rfl
noncomputable def qa_fX10_slideAt_39 (a1 : Int32) (y0 : Int32) (σ : qa_T) : Option (Int32 × qa_T) :=
    some (y0, σ)
noncomputable def qa_fX10_slideAt (a1 : Int32) (σ : qa_T) : Option (Int32 × qa_T) :=
    let σ1 := qa_wi σ (10, 21) 9 (Int32.ofInt 0)
    if (qa_bi (qa_fX10_in a1 (Int32.ofInt 0) ((σ1.1 (10, 22) (((Int8.ofInt 113).toInt32)).toNatClampNeg) - (Int32.ofInt 1)) σ1)) = 0 then
      let c3 := qa_fX10_throwing (Int32.ofInt 1) σ1
      qa_fX10_slideAt_39 a1 c3.1 c3.2
    else
      if ¬ qa_in (((Int8.ofInt 114).toInt32) + a1) 176 = true then none else
      qa_fX10_slideAt_39 a1 (σ1.1 (10, 22) ((((Int8.ofInt 114).toInt32) + a1)).toNatClampNeg) σ1
set_option maxRecDepth 100000 in
theorem qa_tX10_slideAt_39 {L : Nat} {a1 : Int32}  {y0 : Int32} {σ : qa_T} {r : (Int32 × qa_T)} (h : qa_fX10_slideAt_39 a1 y0 σ = some r) : qa_Bk (qa_ds L) qa_mX10_slideAt 39 [(0, .inl (10, 21)), (1, .inr (.int a1))] [.inr (.int y0)] σ (.inl (some (.inr (.int r.1)))) r.2 := by
  unfold qa_fX10_slideAt_39 at h
  try dsimp only at h
  cases h
  exact qa_bk_ri rfl rfl
set_option maxRecDepth 100000 in
theorem qa_tX10_slideAt {L : Nat} {a1 : Int32}  {σ : qa_T} {r : (Int32 × qa_T)} (h : qa_fX10_slideAt a1 σ = some r) : qa_Bk (qa_ds L) qa_mX10_slideAt 0 (qa_ag 0 [.inl (10, 21), .inr (.int a1)]) [] σ (.inl (some (.inr (.int r.1)))) r.2 := by
  unfold qa_fX10_slideAt at h
  try dsimp only at h
  show qa_Bk (qa_ds L) qa_mX10_slideAt 0 [(0, .inl (10, 21)), (1, .inr (.int a1))] [] σ _ _
  refine qa_bk_do (pc' := 1) rfl rfl ?_
  refine qa_bk_do (pc' := 2) rfl rfl ?_
  refine qa_bk_pf rfl rfl qa_dx_10_21 rfl (qa_fiti _) rfl ?_
  refine qa_bk_do (pc' := 6) rfl rfl ?_
  refine qa_bk_do (pc' := 7) rfl rfl ?_
  refine qa_bk_do (pc' := 8) rfl rfl ?_
  refine qa_bk_gr rfl rfl qa_dx_10_21 rfl ?_
  refine qa_bk_do (pc' := 13) rfl rfl ?_
  refine qa_bk_ia rfl qa_dx_10_22 (Or.inl rfl) rfl ?_
  refine qa_bk_do (pc' := 15) rfl rfl ?_
  refine qa_bk_do (pc' := 16) rfl rfl ?_
  refine qa_bk_cs (qa_tX10_in rfl) rfl rfl rfl rfl rfl rfl rfl ?_
  rcases qa_ite h with ⟨hc2, h⟩ | ⟨hc2, h⟩
  · refine qa_bk_1t (a := 34) (b := 22) hc2 rfl rfl ?_
    refine qa_bk_do (pc' := 35) rfl rfl ?_
    refine qa_bk_do (pc' := 36) rfl rfl ?_
    refine qa_bk_cv (qa_tX10_throwing rfl) rfl rfl rfl rfl rfl rfl rfl qa_dx_10_21 ?_
    exact qa_bk_lw (qa_tX10_slideAt_39  h) rfl rfl (And.intro rfl (And.intro rfl (trivial)))
  · refine qa_bk_1f (a := 34) (b := 22) hc2 rfl rfl ?_
    refine qa_bk_do (pc' := 23) rfl rfl ?_
    refine qa_bk_gr rfl rfl qa_dx_10_21 rfl ?_
    refine qa_bk_do (pc' := 28) rfl rfl ?_
    refine qa_bk_do (pc' := 29) rfl rfl ?_
    refine qa_bk_do (pc' := 30) rfl rfl ?_
    rcases qa_ite h with ⟨_, h⟩ | ⟨hc4, h⟩
    · cases h
    refine qa_bk_ia rfl qa_dx_10_22 (Or.inl rfl) (Decidable.of_not_not hc4) ?_
    refine qa_bk_do (pc' := 39) rfl rfl ?_
    exact qa_bk_lw (qa_tX10_slideAt_39  h) rfl rfl (And.intro rfl (And.intro rfl (trivial)))
noncomputable def qa_fX10_told_36 (a1 : Int32) (y0 : Int32) (σ : qa_T) : Option (Int32 × qa_T) :=
    some (y0, σ)
noncomputable def qa_fX10_told_16 (a1 : Int32) (y0 : Int32) (σ : qa_T) : Option (Int32 × qa_T) :=
    let σ3 := qa_wi σ (10, 21) 9 y0
    if ¬ (σ3.1 (10, 21) 9) = 0 then
      qa_fX10_told_36 a1 (Int32.ofInt 0) σ3
    else
      if ¬ qa_in a1 176 = true then none else
      qa_fX10_told_36 a1 (σ3.1 (10, 22) (a1).toNatClampNeg) σ3
noncomputable def qa_fX10_told (a1 : Int32) (σ : qa_T) : Option (Int32 × qa_T) :=
    if ¬ qa_in a1 176 = true then none else
    if ¬ (σ.1 (10, 22) (a1).toNatClampNeg) = (Int32.ofInt (-1)) then
      qa_fX10_told_16 a1 (Int32.ofInt 0) σ
    else
      qa_fX10_told_16 a1 (Int32.ofInt 1) σ
set_option maxRecDepth 100000 in
theorem qa_tX10_told_36 {L : Nat} {a1 : Int32}  {y0 : Int32} {σ : qa_T} {r : (Int32 × qa_T)} (h : qa_fX10_told_36 a1 y0 σ = some r) : qa_Bk (qa_ds L) qa_mX10_told 36 [(0, .inl (10, 21)), (1, .inr (.int a1))] [.inr (.int y0)] σ (.inl (some (.inr (.int r.1)))) r.2 := by
  unfold qa_fX10_told_36 at h
  try dsimp only at h
  cases h
  exact qa_bk_ri rfl rfl
set_option maxRecDepth 100000 in
theorem qa_tX10_told_16 {L : Nat} {a1 : Int32}  {y0 : Int32} {σ : qa_T} {r : (Int32 × qa_T)} (h : qa_fX10_told_16 a1 y0 σ = some r) : qa_Bk (qa_ds L) qa_mX10_told 16 [(0, .inl (10, 21)), (1, .inr (.int a1))] [.inr (.int y0), .inl (10, 21)] σ (.inl (some (.inr (.int r.1)))) r.2 := by
  unfold qa_fX10_told_16 at h
  try dsimp only at h
  refine qa_bk_pf rfl rfl qa_dx_10_21 rfl (qa_fiti _) rfl ?_
  refine qa_bk_do (pc' := 20) rfl rfl ?_
  refine qa_bk_gi rfl rfl qa_dx_10_21 rfl ?_
  rcases qa_ite h with ⟨hc4, h⟩ | ⟨hc4, h⟩
  · refine qa_bk_1t (a := 35) (b := 26) hc4 rfl rfl ?_
    refine qa_bk_do (pc' := 36) rfl rfl ?_
    exact qa_bk_lw (qa_tX10_told_36  h) rfl rfl (And.intro rfl (And.intro rfl (trivial)))
  · refine qa_bk_1f (a := 35) (b := 26) hc4 rfl rfl ?_
    refine qa_bk_do (pc' := 27) rfl rfl ?_
    refine qa_bk_gr rfl rfl qa_dx_10_21 rfl ?_
    refine qa_bk_do (pc' := 31) rfl rfl ?_
    rcases qa_ite h with ⟨_, h⟩ | ⟨hc5, h⟩
    · cases h
    refine qa_bk_ia rfl qa_dx_10_22 (Or.inl rfl) (Decidable.of_not_not hc5) ?_
    refine qa_bk_do (pc' := 36) rfl rfl ?_
    exact qa_bk_lw (qa_tX10_told_36  h) rfl rfl (And.intro rfl (And.intro rfl (trivial)))
set_option maxRecDepth 100000 in
theorem qa_tX10_told {L : Nat} {a1 : Int32}  {σ : qa_T} {r : (Int32 × qa_T)} (h : qa_fX10_told a1 σ = some r) : qa_Bk (qa_ds L) qa_mX10_told 0 (qa_ag 0 [.inl (10, 21), .inr (.int a1)]) [] σ (.inl (some (.inr (.int r.1)))) r.2 := by
  unfold qa_fX10_told at h
  try dsimp only at h
  show qa_Bk (qa_ds L) qa_mX10_told 0 [(0, .inl (10, 21)), (1, .inr (.int a1))] [] σ _ _
  refine qa_bk_do (pc' := 1) rfl rfl ?_
  refine qa_bk_do (pc' := 2) rfl rfl ?_
  refine qa_bk_gr rfl rfl qa_dx_10_21 rfl ?_
  refine qa_bk_do (pc' := 6) rfl rfl ?_
  rcases qa_ite h with ⟨_, h⟩ | ⟨hc1, h⟩
  · cases h
  refine qa_bk_ia rfl qa_dx_10_22 (Or.inl rfl) (Decidable.of_not_not hc1) ?_
  refine qa_bk_do (pc' := 8) rfl rfl ?_
  rcases qa_ite h with ⟨hc2, h⟩ | ⟨hc2, h⟩
  · refine qa_bk_1t (a := 15) (b := 11) hc2 rfl rfl ?_
    refine qa_bk_do (pc' := 16) rfl rfl ?_
    exact qa_bk_lw (qa_tX10_told_16  h) rfl rfl (And.intro rfl (And.intro rfl (trivial)))
  · refine qa_bk_1f (a := 15) (b := 11) hc2 rfl rfl ?_
    refine qa_bk_do (pc' := 12) rfl rfl ?_
    refine qa_bk_do (pc' := 16) rfl rfl ?_
    exact qa_bk_lw (qa_tX10_told_16  h) rfl rfl (And.intro rfl (And.intro rfl (trivial)))
noncomputable def qa_fX10_showPlace  (σ : qa_T) : Option (Int32 × qa_T) :=
    (qa_fX10_told ((Int16.ofInt 138).toInt32) σ).bind fun c1 =>
    some (c1.1, c1.2)
set_option maxRecDepth 100000 in
theorem qa_tX10_showPlace {L : Nat}   {σ : qa_T} {r : (Int32 × qa_T)} (h : qa_fX10_showPlace  σ = some r) : qa_Bk (qa_ds L) qa_mX10_showPlace 0 (qa_ag 0 [.inl (10, 21)]) [] σ (.inl (some (.inr (.int r.1)))) r.2 := by
  unfold qa_fX10_showPlace at h
  try dsimp only at h
  show qa_Bk (qa_ds L) qa_mX10_showPlace 0 [(0, .inl (10, 21))] [] σ _ _
  refine qa_bk_do (pc' := 1) rfl rfl ?_
  refine qa_bk_do (pc' := 4) rfl rfl ?_
  obtain ⟨c1, hc2, h⟩ := Option.bind_eq_some_iff.mp h
  refine qa_bk_cv (qa_tX10_told hc2) rfl rfl rfl rfl rfl rfl rfl qa_dx_10_21 ?_
  cases h
  exact qa_bk_ri rfl rfl
noncomputable def qa_fX10_shown  (σ : qa_T) : Option (Int32 × qa_T) :=
    (qa_fX10_told ((Int16.ofInt 139).toInt32) σ).bind fun c1 =>
    some (c1.1, c1.2)
set_option maxRecDepth 100000 in
theorem qa_tX10_shown {L : Nat}   {σ : qa_T} {r : (Int32 × qa_T)} (h : qa_fX10_shown  σ = some r) : qa_Bk (qa_ds L) qa_mX10_shown 0 (qa_ag 0 [.inl (10, 21)]) [] σ (.inl (some (.inr (.int r.1)))) r.2 := by
  unfold qa_fX10_shown at h
  try dsimp only at h
  show qa_Bk (qa_ds L) qa_mX10_shown 0 [(0, .inl (10, 21))] [] σ _ _
  refine qa_bk_do (pc' := 1) rfl rfl ?_
  refine qa_bk_do (pc' := 4) rfl rfl ?_
  obtain ⟨c1, hc2, h⟩ := Option.bind_eq_some_iff.mp h
  refine qa_bk_cv (qa_tX10_told hc2) rfl rfl rfl rfl rfl rfl rfl qa_dx_10_21 ?_
  cases h
  exact qa_bk_ri rfl rfl
noncomputable def qa_fX10_fading  (σ : qa_T) : Option (Int32 × qa_T) :=
    (qa_fX10_told ((Int16.ofInt 140).toInt32) σ).bind fun c1 =>
    some (c1.1, c1.2)
set_option maxRecDepth 100000 in
theorem qa_tX10_fading {L : Nat}   {σ : qa_T} {r : (Int32 × qa_T)} (h : qa_fX10_fading  σ = some r) : qa_Bk (qa_ds L) qa_mX10_fading 0 (qa_ag 0 [.inl (10, 21)]) [] σ (.inl (some (.inr (.int r.1)))) r.2 := by
  unfold qa_fX10_fading at h
  try dsimp only at h
  show qa_Bk (qa_ds L) qa_mX10_fading 0 [(0, .inl (10, 21))] [] σ _ _
  refine qa_bk_do (pc' := 1) rfl rfl ?_
  refine qa_bk_do (pc' := 4) rfl rfl ?_
  obtain ⟨c1, hc2, h⟩ := Option.bind_eq_some_iff.mp h
  refine qa_bk_cv (qa_tX10_told hc2) rfl rfl rfl rfl rfl rfl rfl qa_dx_10_21 ?_
  cases h
  exact qa_bk_ri rfl rfl
noncomputable def qa_fX10_fadeLeft  (σ : qa_T) : Option (Int32 × qa_T) :=
    (qa_fX10_rule ((Int16.ofInt 141).toInt32) σ).bind fun c1 =>
    some (c1.1, c1.2)
set_option maxRecDepth 100000 in
theorem qa_tX10_fadeLeft {L : Nat}   {σ : qa_T} {r : (Int32 × qa_T)} (h : qa_fX10_fadeLeft  σ = some r) : qa_Bk (qa_ds L) qa_mX10_fadeLeft 0 (qa_ag 0 [.inl (10, 21)]) [] σ (.inl (some (.inr (.int r.1)))) r.2 := by
  unfold qa_fX10_fadeLeft at h
  try dsimp only at h
  show qa_Bk (qa_ds L) qa_mX10_fadeLeft 0 [(0, .inl (10, 21))] [] σ _ _
  refine qa_bk_do (pc' := 1) rfl rfl ?_
  refine qa_bk_do (pc' := 4) rfl rfl ?_
  obtain ⟨c1, hc2, h⟩ := Option.bind_eq_some_iff.mp h
  refine qa_bk_cv (qa_tX10_rule hc2) rfl rfl rfl rfl rfl rfl rfl qa_dx_10_21 ?_
  cases h
  exact qa_bk_ri rfl rfl
noncomputable def qa_fX10_awaited  (σ : qa_T) : Option (Int32 × qa_T) :=
    (qa_fX10_told ((Int16.ofInt 142).toInt32) σ).bind fun c1 =>
    some (c1.1, c1.2)
set_option maxRecDepth 100000 in
theorem qa_tX10_awaited {L : Nat}   {σ : qa_T} {r : (Int32 × qa_T)} (h : qa_fX10_awaited  σ = some r) : qa_Bk (qa_ds L) qa_mX10_awaited 0 (qa_ag 0 [.inl (10, 21)]) [] σ (.inl (some (.inr (.int r.1)))) r.2 := by
  unfold qa_fX10_awaited at h
  try dsimp only at h
  show qa_Bk (qa_ds L) qa_mX10_awaited 0 [(0, .inl (10, 21))] [] σ _ _
  refine qa_bk_do (pc' := 1) rfl rfl ?_
  refine qa_bk_do (pc' := 4) rfl rfl ?_
  obtain ⟨c1, hc2, h⟩ := Option.bind_eq_some_iff.mp h
  refine qa_bk_cv (qa_tX10_told hc2) rfl rfl rfl rfl rfl rfl rfl qa_dx_10_21 ?_
  cases h
  exact qa_bk_ri rfl rfl
noncomputable def qa_fX10_shownFor_27  (y0 : Int32) (σ : qa_T) : Option (Int32 × qa_T) :=
    some (y0, σ)
noncomputable def qa_fX10_shownFor  (σ : qa_T) : Option (Int32 × qa_T) :=
    (qa_fX10_told ((Int16.ofInt 139).toInt32) σ).bind fun c1 =>
    if ¬ (c1.2.1 (10, 21) 9) = 0 then
      qa_fX10_shownFor_27  (Int32.ofInt 0) c1.2
    else
      qa_fX10_shownFor_27  (c1.2.1 (10, 22) (((Int16.ofInt 143).toInt32)).toNatClampNeg) c1.2
set_option maxRecDepth 100000 in
theorem qa_tX10_shownFor_27 {L : Nat}   {y0 : Int32} {σ : qa_T} {r : (Int32 × qa_T)} (h : qa_fX10_shownFor_27  y0 σ = some r) : qa_Bk (qa_ds L) qa_mX10_shownFor 27 [(0, .inl (10, 21))] [.inr (.int y0)] σ (.inl (some (.inr (.int r.1)))) r.2 := by
  unfold qa_fX10_shownFor_27 at h
  try dsimp only at h
  cases h
  exact qa_bk_ri rfl rfl
set_option maxRecDepth 100000 in
theorem qa_tX10_shownFor {L : Nat}   {σ : qa_T} {r : (Int32 × qa_T)} (h : qa_fX10_shownFor  σ = some r) : qa_Bk (qa_ds L) qa_mX10_shownFor 0 (qa_ag 0 [.inl (10, 21)]) [] σ (.inl (some (.inr (.int r.1)))) r.2 := by
  unfold qa_fX10_shownFor at h
  try dsimp only at h
  show qa_Bk (qa_ds L) qa_mX10_shownFor 0 [(0, .inl (10, 21))] [] σ _ _
  refine qa_bk_do (pc' := 1) rfl rfl ?_
  refine qa_bk_do (pc' := 4) rfl rfl ?_
  obtain ⟨c1, hc2, h⟩ := Option.bind_eq_some_iff.mp h
  refine qa_bk_cv (qa_tX10_told hc2) rfl rfl rfl rfl rfl rfl rfl qa_dx_10_21 ?_
  refine qa_bk_do (pc' := 8) (lv' := [(1, _), (0, _)]) rfl rfl ?_
  refine qa_bk_do (pc' := 9) rfl rfl ?_
  refine qa_bk_gi rfl rfl qa_dx_10_21 rfl ?_
  rcases qa_ite h with ⟨hc3, h⟩ | ⟨hc3, h⟩
  · refine qa_bk_1t (a := 26) (b := 15) hc3 rfl rfl ?_
    refine qa_bk_do (pc' := 27) rfl rfl ?_
    exact qa_bk_lw (qa_tX10_shownFor_27  h) rfl rfl (And.intro rfl (trivial))
  · refine qa_bk_1f (a := 26) (b := 15) hc3 rfl rfl ?_
    refine qa_bk_do (pc' := 16) rfl rfl ?_
    refine qa_bk_gr rfl rfl qa_dx_10_21 rfl ?_
    refine qa_bk_do (pc' := 22) rfl rfl ?_
    refine qa_bk_ia rfl qa_dx_10_22 (Or.inl rfl) rfl ?_
    refine qa_bk_do (pc' := 27) rfl rfl ?_
    exact qa_bk_lw (qa_tX10_shownFor_27  h) rfl rfl (And.intro rfl (trivial))
noncomputable def qa_fX10_loading  (σ : qa_T) : Option (Int32 × qa_T) :=
    (qa_fX10_told ((Int16.ofInt 144).toInt32) σ).bind fun c1 =>
    some (c1.1, c1.2)
set_option maxRecDepth 100000 in
theorem qa_tX10_loading {L : Nat}   {σ : qa_T} {r : (Int32 × qa_T)} (h : qa_fX10_loading  σ = some r) : qa_Bk (qa_ds L) qa_mX10_loading 0 (qa_ag 0 [.inl (10, 21)]) [] σ (.inl (some (.inr (.int r.1)))) r.2 := by
  unfold qa_fX10_loading at h
  try dsimp only at h
  show qa_Bk (qa_ds L) qa_mX10_loading 0 [(0, .inl (10, 21))] [] σ _ _
  refine qa_bk_do (pc' := 1) rfl rfl ?_
  refine qa_bk_do (pc' := 4) rfl rfl ?_
  obtain ⟨c1, hc2, h⟩ := Option.bind_eq_some_iff.mp h
  refine qa_bk_cv (qa_tX10_told hc2) rfl rfl rfl rfl rfl rfl rfl qa_dx_10_21 ?_
  cases h
  exact qa_bk_ri rfl rfl
noncomputable def qa_fX10_loadLeft  (σ : qa_T) : Option (Int32 × qa_T) :=
    (qa_fX10_rule ((Int16.ofInt 145).toInt32) σ).bind fun c1 =>
    some (c1.1, c1.2)
set_option maxRecDepth 100000 in
theorem qa_tX10_loadLeft {L : Nat}   {σ : qa_T} {r : (Int32 × qa_T)} (h : qa_fX10_loadLeft  σ = some r) : qa_Bk (qa_ds L) qa_mX10_loadLeft 0 (qa_ag 0 [.inl (10, 21)]) [] σ (.inl (some (.inr (.int r.1)))) r.2 := by
  unfold qa_fX10_loadLeft at h
  try dsimp only at h
  show qa_Bk (qa_ds L) qa_mX10_loadLeft 0 [(0, .inl (10, 21))] [] σ _ _
  refine qa_bk_do (pc' := 1) rfl rfl ?_
  refine qa_bk_do (pc' := 4) rfl rfl ?_
  obtain ⟨c1, hc2, h⟩ := Option.bind_eq_some_iff.mp h
  refine qa_bk_cv (qa_tX10_rule hc2) rfl rfl rfl rfl rfl rfl rfl qa_dx_10_21 ?_
  cases h
  exact qa_bk_ri rfl rfl
noncomputable def qa_fX10_asked  (σ : qa_T) : Option (Int32 × qa_T) :=
    (qa_fX10_rule ((Int16.ofInt 146).toInt32) σ).bind fun c1 =>
    some (c1.1, c1.2)
set_option maxRecDepth 100000 in
theorem qa_tX10_asked {L : Nat}   {σ : qa_T} {r : (Int32 × qa_T)} (h : qa_fX10_asked  σ = some r) : qa_Bk (qa_ds L) qa_mX10_asked 0 (qa_ag 0 [.inl (10, 21)]) [] σ (.inl (some (.inr (.int r.1)))) r.2 := by
  unfold qa_fX10_asked at h
  try dsimp only at h
  show qa_Bk (qa_ds L) qa_mX10_asked 0 [(0, .inl (10, 21))] [] σ _ _
  refine qa_bk_do (pc' := 1) rfl rfl ?_
  refine qa_bk_do (pc' := 4) rfl rfl ?_
  obtain ⟨c1, hc2, h⟩ := Option.bind_eq_some_iff.mp h
  refine qa_bk_cv (qa_tX10_rule hc2) rfl rfl rfl rfl rfl rfl rfl qa_dx_10_21 ?_
  cases h
  exact qa_bk_ri rfl rfl
noncomputable def qa_fX10_askedAt_41 (a1 : Int32) (y0 : Int32) (σ : qa_T) : Option (Int32 × qa_T) :=
    some (y0, σ)
noncomputable def qa_fX10_askedAt (a1 : Int32) (σ : qa_T) : Option (Int32 × qa_T) :=
    let σ1 := qa_wi σ (10, 21) 9 (Int32.ofInt 0)
    if (qa_bi (qa_fX10_in a1 (Int32.ofInt 0) ((σ1.1 (10, 22) (((Int16.ofInt 146).toInt32)).toNatClampNeg) - (Int32.ofInt 1)) σ1)) = 0 then
      let c3 := qa_fX10_throwing (Int32.ofInt 1) σ1
      qa_fX10_askedAt_41 a1 c3.1 c3.2
    else
      if ¬ qa_in (((Int16.ofInt 147).toInt32) + a1) 176 = true then none else
      qa_fX10_askedAt_41 a1 (σ1.1 (10, 22) ((((Int16.ofInt 147).toInt32) + a1)).toNatClampNeg) σ1
set_option maxRecDepth 100000 in
theorem qa_tX10_askedAt_41 {L : Nat} {a1 : Int32}  {y0 : Int32} {σ : qa_T} {r : (Int32 × qa_T)} (h : qa_fX10_askedAt_41 a1 y0 σ = some r) : qa_Bk (qa_ds L) qa_mX10_askedAt 41 [(0, .inl (10, 21)), (1, .inr (.int a1))] [.inr (.int y0)] σ (.inl (some (.inr (.int r.1)))) r.2 := by
  unfold qa_fX10_askedAt_41 at h
  try dsimp only at h
  cases h
  exact qa_bk_ri rfl rfl
set_option maxRecDepth 100000 in
theorem qa_tX10_askedAt {L : Nat} {a1 : Int32}  {σ : qa_T} {r : (Int32 × qa_T)} (h : qa_fX10_askedAt a1 σ = some r) : qa_Bk (qa_ds L) qa_mX10_askedAt 0 (qa_ag 0 [.inl (10, 21), .inr (.int a1)]) [] σ (.inl (some (.inr (.int r.1)))) r.2 := by
  unfold qa_fX10_askedAt at h
  try dsimp only at h
  show qa_Bk (qa_ds L) qa_mX10_askedAt 0 [(0, .inl (10, 21)), (1, .inr (.int a1))] [] σ _ _
  refine qa_bk_do (pc' := 1) rfl rfl ?_
  refine qa_bk_do (pc' := 2) rfl rfl ?_
  refine qa_bk_pf rfl rfl qa_dx_10_21 rfl (qa_fiti _) rfl ?_
  refine qa_bk_do (pc' := 6) rfl rfl ?_
  refine qa_bk_do (pc' := 7) rfl rfl ?_
  refine qa_bk_do (pc' := 8) rfl rfl ?_
  refine qa_bk_gr rfl rfl qa_dx_10_21 rfl ?_
  refine qa_bk_do (pc' := 14) rfl rfl ?_
  refine qa_bk_ia rfl qa_dx_10_22 (Or.inl rfl) rfl ?_
  refine qa_bk_do (pc' := 16) rfl rfl ?_
  refine qa_bk_do (pc' := 17) rfl rfl ?_
  refine qa_bk_cs (qa_tX10_in rfl) rfl rfl rfl rfl rfl rfl rfl ?_
  rcases qa_ite h with ⟨hc2, h⟩ | ⟨hc2, h⟩
  · refine qa_bk_1t (a := 36) (b := 23) hc2 rfl rfl ?_
    refine qa_bk_do (pc' := 37) rfl rfl ?_
    refine qa_bk_do (pc' := 38) rfl rfl ?_
    refine qa_bk_cv (qa_tX10_throwing rfl) rfl rfl rfl rfl rfl rfl rfl qa_dx_10_21 ?_
    exact qa_bk_lw (qa_tX10_askedAt_41  h) rfl rfl (And.intro rfl (And.intro rfl (trivial)))
  · refine qa_bk_1f (a := 36) (b := 23) hc2 rfl rfl ?_
    refine qa_bk_do (pc' := 24) rfl rfl ?_
    refine qa_bk_gr rfl rfl qa_dx_10_21 rfl ?_
    refine qa_bk_do (pc' := 30) rfl rfl ?_
    refine qa_bk_do (pc' := 31) rfl rfl ?_
    refine qa_bk_do (pc' := 32) rfl rfl ?_
    rcases qa_ite h with ⟨_, h⟩ | ⟨hc4, h⟩
    · cases h
    refine qa_bk_ia rfl qa_dx_10_22 (Or.inl rfl) (Decidable.of_not_not hc4) ?_
    refine qa_bk_do (pc' := 41) rfl rfl ?_
    exact qa_bk_lw (qa_tX10_askedAt_41  h) rfl rfl (And.intro rfl (And.intro rfl (trivial)))
noncomputable def qa_fX10_takenBySlides  (σ : qa_T) : Option (Int32 × qa_T) :=
    let σ1 := qa_wi σ (10, 21) 9 (Int32.ofInt 0)
    (qa_fX10_taken σ1).bind fun c2 =>
    some (c2, σ1)
set_option maxRecDepth 100000 in
theorem qa_tX10_takenBySlides {L : Nat}   {σ : qa_T} {r : (Int32 × qa_T)} (h : qa_fX10_takenBySlides  σ = some r) : qa_Bk (qa_ds L) qa_mX10_takenBySlides 0 (qa_ag 0 [.inl (10, 21)]) [] σ (.inl (some (.inr (.int r.1)))) r.2 := by
  unfold qa_fX10_takenBySlides at h
  try dsimp only at h
  show qa_Bk (qa_ds L) qa_mX10_takenBySlides 0 [(0, .inl (10, 21))] [] σ _ _
  refine qa_bk_do (pc' := 1) rfl rfl ?_
  refine qa_bk_do (pc' := 2) rfl rfl ?_
  refine qa_bk_pf rfl rfl qa_dx_10_21 rfl (qa_fiti _) rfl ?_
  refine qa_bk_do (pc' := 6) rfl rfl ?_
  obtain ⟨c2, hc3, h⟩ := Option.bind_eq_some_iff.mp h
  refine qa_bk_cv (qa_tX10_taken hc3) rfl rfl rfl rfl rfl rfl rfl qa_dx_10_21 ?_
  cases h
  exact qa_bk_ri rfl rfl
noncomputable def qa_fX10_takenByAccount  (σ : qa_T) : Option (Int32 × qa_T) :=
    let σ1 := qa_wi σ (10, 21) 9 (Int32.ofInt 0)
    (qa_fX10_taken σ1).bind fun c2 =>
    some (c2, σ1)
set_option maxRecDepth 100000 in
theorem qa_tX10_takenByAccount {L : Nat}   {σ : qa_T} {r : (Int32 × qa_T)} (h : qa_fX10_takenByAccount  σ = some r) : qa_Bk (qa_ds L) qa_mX10_takenByAccount 0 (qa_ag 0 [.inl (10, 21)]) [] σ (.inl (some (.inr (.int r.1)))) r.2 := by
  unfold qa_fX10_takenByAccount at h
  try dsimp only at h
  show qa_Bk (qa_ds L) qa_mX10_takenByAccount 0 [(0, .inl (10, 21))] [] σ _ _
  refine qa_bk_do (pc' := 1) rfl rfl ?_
  refine qa_bk_do (pc' := 2) rfl rfl ?_
  refine qa_bk_pf rfl rfl qa_dx_10_21 rfl (qa_fiti _) rfl ?_
  refine qa_bk_do (pc' := 6) rfl rfl ?_
  obtain ⟨c2, hc3, h⟩ := Option.bind_eq_some_iff.mp h
  refine qa_bk_cv (qa_tX10_taken hc3) rfl rfl rfl rfl rfl rfl rfl qa_dx_10_21 ?_
  cases h
  exact qa_bk_ri rfl rfl
noncomputable def qa_fX10_memory  (σ : qa_T) : Option (Int32 × qa_T) :=
    (qa_fX10_rule ((Int16.ofInt 163).toInt32) σ).bind fun c1 =>
    some (c1.1, c1.2)
set_option maxRecDepth 100000 in
theorem qa_tX10_memory {L : Nat}   {σ : qa_T} {r : (Int32 × qa_T)} (h : qa_fX10_memory  σ = some r) : qa_Bk (qa_ds L) qa_mX10_memory 0 (qa_ag 0 [.inl (10, 21)]) [] σ (.inl (some (.inr (.int r.1)))) r.2 := by
  unfold qa_fX10_memory at h
  try dsimp only at h
  show qa_Bk (qa_ds L) qa_mX10_memory 0 [(0, .inl (10, 21))] [] σ _ _
  refine qa_bk_do (pc' := 1) rfl rfl ?_
  refine qa_bk_do (pc' := 4) rfl rfl ?_
  obtain ⟨c1, hc2, h⟩ := Option.bind_eq_some_iff.mp h
  refine qa_bk_cv (qa_tX10_rule hc2) rfl rfl rfl rfl rfl rfl rfl qa_dx_10_21 ?_
  cases h
  exact qa_bk_ri rfl rfl
noncomputable def qa_fX10_ahead  (σ : qa_T) : Option (Int32 × qa_T) :=
    (qa_fX10_rule ((Int16.ofInt 164).toInt32) σ).bind fun c1 =>
    some (c1.1, c1.2)
set_option maxRecDepth 100000 in
theorem qa_tX10_ahead {L : Nat}   {σ : qa_T} {r : (Int32 × qa_T)} (h : qa_fX10_ahead  σ = some r) : qa_Bk (qa_ds L) qa_mX10_ahead 0 (qa_ag 0 [.inl (10, 21)]) [] σ (.inl (some (.inr (.int r.1)))) r.2 := by
  unfold qa_fX10_ahead at h
  try dsimp only at h
  show qa_Bk (qa_ds L) qa_mX10_ahead 0 [(0, .inl (10, 21))] [] σ _ _
  refine qa_bk_do (pc' := 1) rfl rfl ?_
  refine qa_bk_do (pc' := 4) rfl rfl ?_
  obtain ⟨c1, hc2, h⟩ := Option.bind_eq_some_iff.mp h
  refine qa_bk_cv (qa_tX10_rule hc2) rfl rfl rfl rfl rfl rfl rfl qa_dx_10_21 ?_
  cases h
  exact qa_bk_ri rfl rfl
noncomputable def qa_fX10_order  (σ : qa_T) : Option (Int32 × qa_T) :=
    (qa_fX10_rule ((Int16.ofInt 165).toInt32) σ).bind fun c1 =>
    some (c1.1, c1.2)
set_option maxRecDepth 100000 in
theorem qa_tX10_order {L : Nat}   {σ : qa_T} {r : (Int32 × qa_T)} (h : qa_fX10_order  σ = some r) : qa_Bk (qa_ds L) qa_mX10_order 0 (qa_ag 0 [.inl (10, 21)]) [] σ (.inl (some (.inr (.int r.1)))) r.2 := by
  unfold qa_fX10_order at h
  try dsimp only at h
  show qa_Bk (qa_ds L) qa_mX10_order 0 [(0, .inl (10, 21))] [] σ _ _
  refine qa_bk_do (pc' := 1) rfl rfl ?_
  refine qa_bk_do (pc' := 4) rfl rfl ?_
  obtain ⟨c1, hc2, h⟩ := Option.bind_eq_some_iff.mp h
  refine qa_bk_cv (qa_tX10_rule hc2) rfl rfl rfl rfl rfl rfl rfl qa_dx_10_21 ?_
  cases h
  exact qa_bk_ri rfl rfl
noncomputable def qa_fX10_glow  (σ : qa_T) : Option (Int32 × qa_T) :=
    (qa_fX10_rule ((Int16.ofInt 166).toInt32) σ).bind fun c1 =>
    some (c1.1, c1.2)
set_option maxRecDepth 100000 in
theorem qa_tX10_glow {L : Nat}   {σ : qa_T} {r : (Int32 × qa_T)} (h : qa_fX10_glow  σ = some r) : qa_Bk (qa_ds L) qa_mX10_glow 0 (qa_ag 0 [.inl (10, 21)]) [] σ (.inl (some (.inr (.int r.1)))) r.2 := by
  unfold qa_fX10_glow at h
  try dsimp only at h
  show qa_Bk (qa_ds L) qa_mX10_glow 0 [(0, .inl (10, 21))] [] σ _ _
  refine qa_bk_do (pc' := 1) rfl rfl ?_
  refine qa_bk_do (pc' := 4) rfl rfl ?_
  obtain ⟨c1, hc2, h⟩ := Option.bind_eq_some_iff.mp h
  refine qa_bk_cv (qa_tX10_rule hc2) rfl rfl rfl rfl rfl rfl rfl qa_dx_10_21 ?_
  cases h
  exact qa_bk_ri rfl rfl
noncomputable def qa_fX10_pace  (σ : qa_T) : Option (Int32 × qa_T) :=
    (qa_fX10_rule ((Int16.ofInt 167).toInt32) σ).bind fun c1 =>
    some (c1.1, c1.2)
set_option maxRecDepth 100000 in
theorem qa_tX10_pace {L : Nat}   {σ : qa_T} {r : (Int32 × qa_T)} (h : qa_fX10_pace  σ = some r) : qa_Bk (qa_ds L) qa_mX10_pace 0 (qa_ag 0 [.inl (10, 21)]) [] σ (.inl (some (.inr (.int r.1)))) r.2 := by
  unfold qa_fX10_pace at h
  try dsimp only at h
  show qa_Bk (qa_ds L) qa_mX10_pace 0 [(0, .inl (10, 21))] [] σ _ _
  refine qa_bk_do (pc' := 1) rfl rfl ?_
  refine qa_bk_do (pc' := 4) rfl rfl ?_
  obtain ⟨c1, hc2, h⟩ := Option.bind_eq_some_iff.mp h
  refine qa_bk_cv (qa_tX10_rule hc2) rfl rfl rfl rfl rfl rfl rfl qa_dx_10_21 ?_
  cases h
  exact qa_bk_ri rfl rfl
noncomputable def qa_fX10_untilShown_53  : Nat → Int32 → Int32 → qa_T → Option (Int32 × qa_T)
  | 0, _, _, _ => none
  | n + 1, x1, x2, σ =>
    if ((Int16.ofInt 176).toInt32) ≤ x2 then
      some (x1, σ)
    else
      if ¬ qa_in x2 176 = true then none else
      if ¬ qa_in x2 176 = true then none else
      let σ6 := qa_wi σ (10, 22) (x2).toNatClampNeg (σ.1 (10, 27) (x2).toNatClampNeg)
      let v7 : Int32 := x2 + Int32.ofInt 1
      qa_fX10_untilShown_53  n x1 v7 σ6
noncomputable def qa_fX10_untilShown_29  : Nat → Int32 → qa_T → Option (Int32 × qa_T)
  | 0, _, _ => none
  | n + 1, x1, σ =>
    if (σ.1 (10, 22) (((Int16.ofInt 142).toInt32)).toNatClampNeg) = (Int32.ofInt (-1)) then
      qa_fX10_untilShown_53  qa_fu x1 (Int32.ofInt 0) σ
    else
      (qa_fX10_ticks σ).bind fun c8 =>
      let v10 : Int32 := x1 + Int32.ofInt 1
      qa_fX10_untilShown_29  n v10 c8
noncomputable def qa_fX10_untilShown_2  : Nat → Int32 → qa_T → Option (Int32 × qa_T)
  | 0, _, _ => none
  | n + 1, x1, σ =>
    if ((Int16.ofInt 176).toInt32) ≤ x1 then
      qa_fX10_untilShown_29  qa_fu (Int32.ofInt 0) σ
    else
      if ¬ qa_in x1 176 = true then none else
      if ¬ qa_in x1 176 = true then none else
      let σ13 := qa_wi σ (10, 27) (x1).toNatClampNeg (σ.1 (10, 22) (x1).toNatClampNeg)
      let v14 : Int32 := x1 + Int32.ofInt 1
      qa_fX10_untilShown_2  n v14 σ13
noncomputable def qa_fX10_untilShown  (σ : qa_T) : Option (Int32 × qa_T) :=
    qa_fX10_untilShown_2  qa_fu (Int32.ofInt 0) σ
set_option maxRecDepth 100000 in
theorem qa_tX10_untilShown_53 {L : Nat}   : ∀ (n : Nat) (x1 : Int32) (x2 : Int32) (σ : qa_T) (r : (Int32 × qa_T)), qa_fX10_untilShown_53  n x1 x2 σ = some r → qa_Bk (qa_ds L) qa_mX10_untilShown 53 [(0, .inl (10, 21)), (1, .inr (.int x1)), (2, .inr (.int x2))] [] σ (.inl (some (.inr (.int r.1)))) r.2 := by
  intro n
  induction n with
  | zero => intro x1 x2 σ r h; cases h
  | succ n ih =>
    intro x1 x2 σ r h
    unfold qa_fX10_untilShown_53 at h
    try dsimp only at h
    refine qa_bk_do (pc' := 54) rfl rfl ?_
    refine qa_bk_do (pc' := 57) rfl rfl ?_
    rcases qa_ite h with ⟨hc3, h⟩ | ⟨hc3, h⟩
    · refine qa_bk_1t (a := 78) (b := 60) hc3 rfl rfl ?_
      refine qa_bk_do (pc' := 79) rfl rfl ?_
      cases h
      exact qa_bk_ri rfl rfl
    · refine qa_bk_1f (a := 78) (b := 60) hc3 rfl rfl ?_
      refine qa_bk_do (pc' := 61) rfl rfl ?_
      refine qa_bk_gr rfl rfl qa_dx_10_21 rfl ?_
      refine qa_bk_do (pc' := 65) rfl rfl ?_
      refine qa_bk_do (pc' := 66) rfl rfl ?_
      refine qa_bk_gr rfl rfl qa_dx_10_21 rfl ?_
      refine qa_bk_do (pc' := 70) rfl rfl ?_
      rcases qa_ite h with ⟨_, h⟩ | ⟨hc4, h⟩
      · cases h
      refine qa_bk_ia rfl qa_dx_10_27 (Or.inl rfl) (Decidable.of_not_not hc4) ?_
      rcases qa_ite h with ⟨_, h⟩ | ⟨hc5, h⟩
      · cases h
      refine qa_bk_is rfl qa_dx_10_22 (Decidable.of_not_not hc5) ?_
      refine qa_bk_do (pc' := 75) (lv' := [(2, _), (0, _), (1, _)]) rfl rfl ?_
      refine qa_bk_do (pc' := 53) rfl rfl ?_
      exact qa_bk_lw (ih _ _ _ _ h) rfl rfl (And.intro rfl (And.intro rfl (And.intro rfl (trivial))))
set_option maxRecDepth 100000 in
theorem qa_tX10_untilShown_29 {L : Nat}   : ∀ (n : Nat) (x1 : Int32) (σ : qa_T) (r : (Int32 × qa_T)), qa_fX10_untilShown_29  n x1 σ = some r → qa_Bk (qa_ds L) qa_mX10_untilShown 29 [(0, .inl (10, 21)), (1, .inr (.int x1))] [] σ (.inl (some (.inr (.int r.1)))) r.2 := by
  intro n
  induction n with
  | zero => intro x1 σ r h; cases h
  | succ n ih =>
    intro x1 σ r h
    unfold qa_fX10_untilShown_29 at h
    try dsimp only at h
    refine qa_bk_do (pc' := 30) rfl rfl ?_
    refine qa_bk_gr rfl rfl qa_dx_10_21 rfl ?_
    refine qa_bk_do (pc' := 36) rfl rfl ?_
    refine qa_bk_ia rfl qa_dx_10_22 (Or.inl rfl) rfl ?_
    refine qa_bk_do (pc' := 38) rfl rfl ?_
    rcases qa_ite h with ⟨hc2, h⟩ | ⟨hc2, h⟩
    · refine qa_bk_1t (a := 51) (b := 41) hc2 rfl rfl ?_
      refine qa_bk_do (pc' := 52) rfl rfl ?_
      refine qa_bk_do (pc' := 53) (lv' := [(2, _), (0, _), (1, _)]) rfl rfl ?_
      exact qa_bk_lw (qa_tX10_untilShown_53  _ _ _ _ _ h) rfl rfl (And.intro rfl (And.intro rfl (And.intro rfl (trivial))))
    · refine qa_bk_1f (a := 51) (b := 41) hc2 rfl rfl ?_
      refine qa_bk_do (pc' := 42) rfl rfl ?_
      obtain ⟨c8, hc9, h⟩ := Option.bind_eq_some_iff.mp h
      refine qa_bk_cv (qa_tX10_ticks hc9) rfl rfl rfl rfl rfl rfl rfl qa_dx_10_21 ?_
      refine qa_bk_do (pc' := 48) (lv' := [(1, _), (0, _)]) rfl rfl ?_
      refine qa_bk_do (pc' := 29) rfl rfl ?_
      exact qa_bk_lw (ih _ _ _ h) rfl rfl (And.intro rfl (And.intro rfl (trivial)))
set_option maxRecDepth 100000 in
theorem qa_tX10_untilShown_2 {L : Nat}   : ∀ (n : Nat) (x1 : Int32) (σ : qa_T) (r : (Int32 × qa_T)), qa_fX10_untilShown_2  n x1 σ = some r → qa_Bk (qa_ds L) qa_mX10_untilShown 2 [(0, .inl (10, 21)), (1, .inr (.int x1))] [] σ (.inl (some (.inr (.int r.1)))) r.2 := by
  intro n
  induction n with
  | zero => intro x1 σ r h; cases h
  | succ n ih =>
    intro x1 σ r h
    unfold qa_fX10_untilShown_2 at h
    try dsimp only at h
    refine qa_bk_do (pc' := 3) rfl rfl ?_
    refine qa_bk_do (pc' := 6) rfl rfl ?_
    rcases qa_ite h with ⟨hc1, h⟩ | ⟨hc1, h⟩
    · refine qa_bk_1t (a := 27) (b := 9) hc1 rfl rfl ?_
      refine qa_bk_do (pc' := 28) rfl rfl ?_
      refine qa_bk_do (pc' := 29) (lv' := [(1, _), (0, _)]) rfl rfl ?_
      exact qa_bk_lw (qa_tX10_untilShown_29  _ _ _ _ h) rfl rfl (And.intro rfl (And.intro rfl (trivial)))
    · refine qa_bk_1f (a := 27) (b := 9) hc1 rfl rfl ?_
      refine qa_bk_do (pc' := 10) rfl rfl ?_
      refine qa_bk_gr rfl rfl qa_dx_10_21 rfl ?_
      refine qa_bk_do (pc' := 14) rfl rfl ?_
      refine qa_bk_do (pc' := 15) rfl rfl ?_
      refine qa_bk_gr rfl rfl qa_dx_10_21 rfl ?_
      refine qa_bk_do (pc' := 19) rfl rfl ?_
      rcases qa_ite h with ⟨_, h⟩ | ⟨hc11, h⟩
      · cases h
      refine qa_bk_ia rfl qa_dx_10_22 (Or.inl rfl) (Decidable.of_not_not hc11) ?_
      rcases qa_ite h with ⟨_, h⟩ | ⟨hc12, h⟩
      · cases h
      refine qa_bk_is rfl qa_dx_10_27 (Decidable.of_not_not hc12) ?_
      refine qa_bk_do (pc' := 24) (lv' := [(1, _), (0, _)]) rfl rfl ?_
      refine qa_bk_do (pc' := 2) rfl rfl ?_
      exact qa_bk_lw (ih _ _ _ h) rfl rfl (And.intro rfl (And.intro rfl (trivial)))
set_option maxRecDepth 100000 in
theorem qa_tX10_untilShown {L : Nat}   {σ : qa_T} {r : (Int32 × qa_T)} (h : qa_fX10_untilShown  σ = some r) : qa_Bk (qa_ds L) qa_mX10_untilShown 0 (qa_ag 0 [.inl (10, 21)]) [] σ (.inl (some (.inr (.int r.1)))) r.2 := by
  unfold qa_fX10_untilShown at h
  try dsimp only at h
  show qa_Bk (qa_ds L) qa_mX10_untilShown 0 [(0, .inl (10, 21))] [] σ _ _
  refine qa_bk_do (pc' := 1) rfl rfl ?_
  refine qa_bk_do (pc' := 2) (lv' := [(1, _), (0, _)]) rfl rfl ?_
  exact qa_bk_lw (qa_tX10_untilShown_2  _ _ _ _ h) rfl rfl (And.intro rfl (And.intro rfl (trivial)))
noncomputable def qa_fX10_toldTicks_23  (y0 : Int32) (σ : qa_T) : Option (Int32 × qa_T) :=
    some (y0, σ)
noncomputable def qa_fX10_toldTicks  (σ : qa_T) : Option (Int32 × qa_T) :=
    (qa_fX10_told ((Int16.ofInt 142).toInt32) σ).bind fun c1 =>
    if ¬ (c1.2.1 (10, 21) 9) = 0 then
      qa_fX10_toldTicks_23  (Int32.ofInt 0) c1.2
    else
      (qa_fX10_untilShown c1.2).bind fun c4 =>
      qa_fX10_toldTicks_23  c4.1 c4.2
set_option maxRecDepth 100000 in
theorem qa_tX10_toldTicks_23 {L : Nat}   {y0 : Int32} {σ : qa_T} {r : (Int32 × qa_T)} (h : qa_fX10_toldTicks_23  y0 σ = some r) : qa_Bk (qa_ds L) qa_mX10_toldTicks 23 [(0, .inl (10, 21))] [.inr (.int y0)] σ (.inl (some (.inr (.int r.1)))) r.2 := by
  unfold qa_fX10_toldTicks_23 at h
  try dsimp only at h
  cases h
  exact qa_bk_ri rfl rfl
set_option maxRecDepth 100000 in
theorem qa_tX10_toldTicks {L : Nat}   {σ : qa_T} {r : (Int32 × qa_T)} (h : qa_fX10_toldTicks  σ = some r) : qa_Bk (qa_ds L) qa_mX10_toldTicks 0 (qa_ag 0 [.inl (10, 21)]) [] σ (.inl (some (.inr (.int r.1)))) r.2 := by
  unfold qa_fX10_toldTicks at h
  try dsimp only at h
  show qa_Bk (qa_ds L) qa_mX10_toldTicks 0 [(0, .inl (10, 21))] [] σ _ _
  refine qa_bk_do (pc' := 1) rfl rfl ?_
  refine qa_bk_do (pc' := 4) rfl rfl ?_
  obtain ⟨c1, hc2, h⟩ := Option.bind_eq_some_iff.mp h
  refine qa_bk_cv (qa_tX10_told hc2) rfl rfl rfl rfl rfl rfl rfl qa_dx_10_21 ?_
  refine qa_bk_do (pc' := 8) (lv' := [(1, _), (0, _)]) rfl rfl ?_
  refine qa_bk_do (pc' := 9) rfl rfl ?_
  refine qa_bk_gi rfl rfl qa_dx_10_21 rfl ?_
  rcases qa_ite h with ⟨hc3, h⟩ | ⟨hc3, h⟩
  · refine qa_bk_1t (a := 22) (b := 15) hc3 rfl rfl ?_
    refine qa_bk_do (pc' := 23) rfl rfl ?_
    exact qa_bk_lw (qa_tX10_toldTicks_23  h) rfl rfl (And.intro rfl (trivial))
  · refine qa_bk_1f (a := 22) (b := 15) hc3 rfl rfl ?_
    refine qa_bk_do (pc' := 16) rfl rfl ?_
    obtain ⟨c4, hc5, h⟩ := Option.bind_eq_some_iff.mp h
    refine qa_bk_cv (qa_tX10_untilShown hc5) rfl rfl rfl rfl rfl rfl rfl qa_dx_10_21 ?_
    refine qa_bk_do (pc' := 23) rfl rfl ?_
    exact qa_bk_lw (qa_tX10_toldTicks_23  h) rfl rfl (And.intro rfl (trivial))
noncomputable def qa_fX10_ticksToShowByTicks  (σ : qa_T) : Option (Int32 × qa_T) :=
    (qa_fX10_toldTicks σ).bind fun c1 =>
    some (c1.1, c1.2)
set_option maxRecDepth 100000 in
theorem qa_tX10_ticksToShowByTicks {L : Nat}   {σ : qa_T} {r : (Int32 × qa_T)} (h : qa_fX10_ticksToShowByTicks  σ = some r) : qa_Bk (qa_ds L) qa_mX10_ticksToShowByTicks 0 (qa_ag 0 [.inl (10, 21)]) [] σ (.inl (some (.inr (.int r.1)))) r.2 := by
  unfold qa_fX10_ticksToShowByTicks at h
  try dsimp only at h
  show qa_Bk (qa_ds L) qa_mX10_ticksToShowByTicks 0 [(0, .inl (10, 21))] [] σ _ _
  refine qa_bk_do (pc' := 1) rfl rfl ?_
  obtain ⟨c1, hc2, h⟩ := Option.bind_eq_some_iff.mp h
  refine qa_bk_cv (qa_tX10_toldTicks hc2) rfl rfl rfl rfl rfl rfl rfl qa_dx_10_21 ?_
  cases h
  exact qa_bk_ri rfl rfl
noncomputable def qa_fX10_ticksToShowBySums  (σ : qa_T) : Option (Int32 × qa_T) :=
    (qa_fX10_toldTicks σ).bind fun c1 =>
    some (c1.1, c1.2)
set_option maxRecDepth 100000 in
theorem qa_tX10_ticksToShowBySums {L : Nat}   {σ : qa_T} {r : (Int32 × qa_T)} (h : qa_fX10_ticksToShowBySums  σ = some r) : qa_Bk (qa_ds L) qa_mX10_ticksToShowBySums 0 (qa_ag 0 [.inl (10, 21)]) [] σ (.inl (some (.inr (.int r.1)))) r.2 := by
  unfold qa_fX10_ticksToShowBySums at h
  try dsimp only at h
  show qa_Bk (qa_ds L) qa_mX10_ticksToShowBySums 0 [(0, .inl (10, 21))] [] σ _ _
  refine qa_bk_do (pc' := 1) rfl rfl ?_
  obtain ⟨c1, hc2, h⟩ := Option.bind_eq_some_iff.mp h
  refine qa_bk_cv (qa_tX10_toldTicks hc2) rfl rfl rfl rfl rfl rfl rfl qa_dx_10_21 ?_
  cases h
  exact qa_bk_ri rfl rfl
noncomputable def qa_fX10_burningsOf_20 (a1 : Int32) (σ : qa_T) : Option (Int32 × qa_T) :=
    some ((Int32.ofInt 0), σ)
noncomputable def qa_fX10_burningsOf (a1 : Int32) (σ : qa_T) : Option (Int32 × qa_T) :=
    (qa_fX10_loaded a1 σ).bind fun c1 =>
    if ¬ (qa_bi c1) = 0 then
      qa_fX10_burningsOf_20 a1 σ
    else
      if ¬ (σ.1 (10, 22) (((Int16.ofInt 144).toInt32)).toNatClampNeg) = a1 then
        (qa_fX10_keepsAside σ).bind fun c5 =>
        (qa_fX10_of a1 (Int32.ofInt 0) c5).bind fun c7 =>
        (qa_fX10_makesRoom c7 c5).bind fun c9 =>
        (qa_fX10_putsBack c9.2).bind fun c11 =>
        some (c9.1, c11)
      else
        qa_fX10_burningsOf_20 a1 σ
set_option maxRecDepth 100000 in
theorem qa_tX10_burningsOf_20 {L : Nat} {a1 : Int32}  {σ : qa_T} {r : (Int32 × qa_T)} (h : qa_fX10_burningsOf_20 a1 σ = some r) : qa_Bk (qa_ds L) qa_mX10_burningsOf 20 [(0, .inl (10, 21)), (1, .inr (.int a1))] [] σ (.inl (some (.inr (.int r.1)))) r.2 := by
  unfold qa_fX10_burningsOf_20 at h
  try dsimp only at h
  refine qa_bk_do (pc' := 21) rfl rfl ?_
  cases h
  exact qa_bk_ri rfl rfl
set_option maxRecDepth 100000 in
theorem qa_tX10_burningsOf {L : Nat} {a1 : Int32}  {σ : qa_T} {r : (Int32 × qa_T)} (h : qa_fX10_burningsOf a1 σ = some r) : qa_Bk (qa_ds L) qa_mX10_burningsOf 0 (qa_ag 0 [.inl (10, 21), .inr (.int a1)]) [] σ (.inl (some (.inr (.int r.1)))) r.2 := by
  unfold qa_fX10_burningsOf at h
  try dsimp only at h
  show qa_Bk (qa_ds L) qa_mX10_burningsOf 0 [(0, .inl (10, 21)), (1, .inr (.int a1))] [] σ _ _
  refine qa_bk_do (pc' := 1) rfl rfl ?_
  refine qa_bk_do (pc' := 2) rfl rfl ?_
  obtain ⟨c1, hc2, h⟩ := Option.bind_eq_some_iff.mp h
  refine qa_bk_cv (qa_tX10_loaded hc2) rfl rfl rfl rfl rfl rfl rfl qa_dx_10_21 ?_
  rcases qa_ite h with ⟨hc3, h⟩ | ⟨hc3, h⟩
  · refine qa_bk_1t (a := 20) (b := 8) hc3 rfl rfl ?_
    exact qa_bk_lw (qa_tX10_burningsOf_20  h) rfl rfl (And.intro rfl (And.intro rfl (trivial)))
  · refine qa_bk_1f (a := 20) (b := 8) hc3 rfl rfl ?_
    refine qa_bk_do (pc' := 9) rfl rfl ?_
    refine qa_bk_gr rfl rfl qa_dx_10_21 rfl ?_
    refine qa_bk_do (pc' := 15) rfl rfl ?_
    refine qa_bk_ia rfl qa_dx_10_22 (Or.inl rfl) rfl ?_
    refine qa_bk_do (pc' := 17) rfl rfl ?_
    rcases qa_ite h with ⟨hc4, h⟩ | ⟨hc4, h⟩
    · refine qa_bk_1t (a := 22) (b := 20) hc4 rfl rfl ?_
      refine qa_bk_do (pc' := 23) rfl rfl ?_
      obtain ⟨c5, hc6, h⟩ := Option.bind_eq_some_iff.mp h
      refine qa_bk_cv (qa_tX10_keepsAside hc6) rfl rfl rfl rfl rfl rfl rfl qa_dx_10_21 ?_
      refine qa_bk_do (pc' := 27) rfl rfl ?_
      refine qa_bk_do (pc' := 28) rfl rfl ?_
      refine qa_bk_do (pc' := 29) rfl rfl ?_
      refine qa_bk_do (pc' := 30) rfl rfl ?_
      obtain ⟨c7, hc8, h⟩ := Option.bind_eq_some_iff.mp h
      refine qa_bk_cv (qa_tX10_of hc8) rfl rfl rfl rfl rfl rfl rfl qa_dx_10_21 ?_
      obtain ⟨c9, hc10, h⟩ := Option.bind_eq_some_iff.mp h
      refine qa_bk_cv (qa_tX10_makesRoom hc10) rfl rfl rfl rfl rfl rfl rfl qa_dx_10_21 ?_
      refine qa_bk_do (pc' := 37) (lv' := [(2, _), (0, _), (1, _)]) rfl rfl ?_
      refine qa_bk_do (pc' := 38) rfl rfl ?_
      obtain ⟨c11, hc12, h⟩ := Option.bind_eq_some_iff.mp h
      refine qa_bk_cv (qa_tX10_putsBack hc12) rfl rfl rfl rfl rfl rfl rfl qa_dx_10_21 ?_
      refine qa_bk_do (pc' := 42) rfl rfl ?_
      cases h
      exact qa_bk_ri rfl rfl
    · refine qa_bk_1f (a := 22) (b := 20) hc4 rfl rfl ?_
      exact qa_bk_lw (qa_tX10_burningsOf_20  h) rfl rfl (And.intro rfl (And.intro rfl (trivial)))
noncomputable def qa_fX10_burningsFor_17 (a1 : Int32) (y0 : Int32) (σ : qa_T) : Option (Int32 × qa_T) :=
    some (y0, σ)
noncomputable def qa_fX10_burningsFor (a1 : Int32) (σ : qa_T) : Option (Int32 × qa_T) :=
    let c1 := qa_fX10_isThere a1 σ
    if (qa_bi c1.1) = 0 then
      qa_fX10_burningsFor_17 a1 (Int32.ofInt 0) c1.2
    else
      (qa_fX10_burningsOf a1 c1.2).bind fun c3 =>
      qa_fX10_burningsFor_17 a1 c3.1 c3.2
set_option maxRecDepth 100000 in
theorem qa_tX10_burningsFor_17 {L : Nat} {a1 : Int32}  {y0 : Int32} {σ : qa_T} {r : (Int32 × qa_T)} (h : qa_fX10_burningsFor_17 a1 y0 σ = some r) : qa_Bk (qa_ds L) qa_mX10_burningsFor 17 [(0, .inl (10, 21)), (1, .inr (.int a1))] [.inr (.int y0)] σ (.inl (some (.inr (.int r.1)))) r.2 := by
  unfold qa_fX10_burningsFor_17 at h
  try dsimp only at h
  cases h
  exact qa_bk_ri rfl rfl
set_option maxRecDepth 100000 in
theorem qa_tX10_burningsFor {L : Nat} {a1 : Int32}  {σ : qa_T} {r : (Int32 × qa_T)} (h : qa_fX10_burningsFor a1 σ = some r) : qa_Bk (qa_ds L) qa_mX10_burningsFor 0 (qa_ag 0 [.inl (10, 21), .inr (.int a1)]) [] σ (.inl (some (.inr (.int r.1)))) r.2 := by
  unfold qa_fX10_burningsFor at h
  try dsimp only at h
  show qa_Bk (qa_ds L) qa_mX10_burningsFor 0 [(0, .inl (10, 21)), (1, .inr (.int a1))] [] σ _ _
  refine qa_bk_do (pc' := 1) rfl rfl ?_
  refine qa_bk_do (pc' := 2) rfl rfl ?_
  refine qa_bk_cv (qa_tX10_isThere rfl) rfl rfl rfl rfl rfl rfl rfl qa_dx_10_21 ?_
  rcases qa_ite h with ⟨hc2, h⟩ | ⟨hc2, h⟩
  · refine qa_bk_1t (a := 16) (b := 8) hc2 rfl rfl ?_
    refine qa_bk_do (pc' := 17) rfl rfl ?_
    exact qa_bk_lw (qa_tX10_burningsFor_17  h) rfl rfl (And.intro rfl (And.intro rfl (trivial)))
  · refine qa_bk_1f (a := 16) (b := 8) hc2 rfl rfl ?_
    refine qa_bk_do (pc' := 9) rfl rfl ?_
    refine qa_bk_do (pc' := 10) rfl rfl ?_
    obtain ⟨c3, hc4, h⟩ := Option.bind_eq_some_iff.mp h
    refine qa_bk_cv (qa_tX10_burningsOf hc4) rfl rfl rfl rfl rfl rfl rfl qa_dx_10_21 ?_
    refine qa_bk_do (pc' := 17) rfl rfl ?_
    exact qa_bk_lw (qa_tX10_burningsFor_17  h) rfl rfl (And.intro rfl (And.intro rfl (trivial)))
