/-! the methods as functions (written by wip/tools/gen.py) -/
noncomputable def qa_fX9_ticksToShowByTicks_19  (y0 : Int32) (σ : qa_T) : Option ((Int32 ⊕ Nat) × qa_T) :=
    if y0 = 0 then
      some (.inr 348, σ)
    else
    (qa_fX9_waitOnTrial σ).bind fun c3 =>
    some (.inl c3.1, c3.2)
noncomputable def qa_fX9_ticksToShowByTicks  (σ : qa_T) : Option ((Int32 ⊕ Nat) × qa_T) :=
    if (σ.1 (1, 11) 4) = (Int32.ofInt (-1)) then
      qa_fX9_ticksToShowByTicks_19  (Int32.ofInt 0) σ
    else
      qa_fX9_ticksToShowByTicks_19  (Int32.ofInt 1) σ
set_option maxRecDepth 100000 in
theorem qa_tX9_ticksToShowByTicks_19 {L : Nat}   {y0 : Int32} {σ : qa_T} {r : ((Int32 ⊕ Nat) × qa_T)} (h : qa_fX9_ticksToShowByTicks_19  y0 σ = some r) : qa_Bk (qa_ds L) qa_mX9_ticksToShowByTicks 19 [(0, .inl (0, 1))] [.inr (.int y0)] σ (qa_ri r.1) r.2 := by
  unfold qa_fX9_ticksToShowByTicks_19 at h
  try dsimp only at h
  rcases qa_ite h with ⟨hc2, h⟩ | ⟨hc2, h⟩
  · cases h
    exact qa_bk_cx (qa_tX9_needState_x hc2) rfl rfl rfl rfl rfl rfl rfl rfl
  refine qa_bk_cs (qa_tX9_needState_o hc2) rfl rfl rfl rfl rfl rfl rfl ?_
  refine qa_bk_do (pc' := 23) rfl rfl ?_
  obtain ⟨c3, hc4, h⟩ := Option.bind_eq_some_iff.mp h
  refine qa_bk_cv (qa_tX9_waitOnTrial hc4) rfl rfl rfl rfl rfl rfl rfl qa_dx_0_1 ?_
  cases h
  exact qa_bk_ri rfl rfl
set_option maxRecDepth 100000 in
theorem qa_tX9_ticksToShowByTicks {L : Nat}   {σ : qa_T} {r : ((Int32 ⊕ Nat) × qa_T)} (h : qa_fX9_ticksToShowByTicks  σ = some r) : qa_Bk (qa_ds L) qa_mX9_ticksToShowByTicks 0 (qa_ag 0 [.inl (0, 1)]) [] σ (qa_ri r.1) r.2 := by
  unfold qa_fX9_ticksToShowByTicks at h
  try dsimp only at h
  show qa_Bk (qa_ds L) qa_mX9_ticksToShowByTicks 0 [(0, .inl (0, 1))] [] σ _ _
  refine qa_bk_do (pc' := 1) rfl rfl ?_
  refine qa_bk_gr rfl rfl qa_dx_0_1 rfl ?_
  refine qa_bk_gr rfl rfl (qa_ds0 qa_rg_1) rfl ?_
  refine qa_bk_gi rfl rfl (qa_ds11 qa_rg_1) rfl ?_
  refine qa_bk_do (pc' := 11) rfl rfl ?_
  rcases qa_ite h with ⟨hc1, h⟩ | ⟨hc1, h⟩
  · refine qa_bk_1t (a := 18) (b := 14) hc1 rfl rfl ?_
    refine qa_bk_do (pc' := 19) rfl rfl ?_
    exact qa_bk_lw (qa_tX9_ticksToShowByTicks_19  h) rfl rfl (And.intro rfl (trivial))
  · refine qa_bk_1f (a := 18) (b := 14) hc1 rfl rfl ?_
    refine qa_bk_do (pc' := 15) rfl rfl ?_
    refine qa_bk_do (pc' := 19) rfl rfl ?_
    exact qa_bk_lw (qa_tX9_ticksToShowByTicks_19  h) rfl rfl (And.intro rfl (trivial))
noncomputable def qa_fX9_ticksToShowBySums_19  (y0 : Int32) (σ : qa_T) : ((Int32 ⊕ Nat) × qa_T) :=
    if y0 = 0 then
      (.inr 348, σ)
    else
    (.inl (qa_fX1_sumOfWait 1 σ), σ)
noncomputable def qa_fX9_ticksToShowBySums  (σ : qa_T) : ((Int32 ⊕ Nat) × qa_T) :=
    if (σ.1 (1, 11) 4) = (Int32.ofInt (-1)) then
      qa_fX9_ticksToShowBySums_19  (Int32.ofInt 0) σ
    else
      qa_fX9_ticksToShowBySums_19  (Int32.ofInt 1) σ
set_option maxRecDepth 100000 in
theorem qa_tX9_ticksToShowBySums_19 {L : Nat}   {y0 : Int32} {σ : qa_T} {r : ((Int32 ⊕ Nat) × qa_T)} (h : qa_fX9_ticksToShowBySums_19  y0 σ = r) : qa_Bk (qa_ds L) qa_mX9_ticksToShowBySums 19 [(0, .inl (0, 1))] [.inr (.int y0)] σ (qa_ri r.1) r.2 := by
  unfold qa_fX9_ticksToShowBySums_19 at h
  try dsimp only at h
  rcases qa_ite h with ⟨hc2, h⟩ | ⟨hc2, h⟩
  · subst h
    exact qa_bk_cx (qa_tX9_needState_x hc2) rfl rfl rfl rfl rfl rfl rfl rfl
  refine qa_bk_cs (qa_tX9_needState_o hc2) rfl rfl rfl rfl rfl rfl rfl ?_
  refine qa_bk_do (pc' := 23) rfl rfl ?_
  refine qa_bk_gr rfl rfl qa_dx_0_1 rfl ?_
  refine qa_bk_cv (qa_tX1_sumOfWait qa_rg_1 rfl) rfl rfl rfl rfl rfl rfl rfl (qa_ds0 qa_rg_1) ?_
  subst h
  exact qa_bk_ri rfl rfl
set_option maxRecDepth 100000 in
theorem qa_tX9_ticksToShowBySums {L : Nat}   {σ : qa_T} {r : ((Int32 ⊕ Nat) × qa_T)} (h : qa_fX9_ticksToShowBySums  σ = r) : qa_Bk (qa_ds L) qa_mX9_ticksToShowBySums 0 (qa_ag 0 [.inl (0, 1)]) [] σ (qa_ri r.1) r.2 := by
  unfold qa_fX9_ticksToShowBySums at h
  try dsimp only at h
  show qa_Bk (qa_ds L) qa_mX9_ticksToShowBySums 0 [(0, .inl (0, 1))] [] σ _ _
  refine qa_bk_do (pc' := 1) rfl rfl ?_
  refine qa_bk_gr rfl rfl qa_dx_0_1 rfl ?_
  refine qa_bk_gr rfl rfl (qa_ds0 qa_rg_1) rfl ?_
  refine qa_bk_gi rfl rfl (qa_ds11 qa_rg_1) rfl ?_
  refine qa_bk_do (pc' := 11) rfl rfl ?_
  rcases qa_ite h with ⟨hc1, h⟩ | ⟨hc1, h⟩
  · refine qa_bk_1t (a := 18) (b := 14) hc1 rfl rfl ?_
    refine qa_bk_do (pc' := 19) rfl rfl ?_
    exact qa_bk_lw (qa_tX9_ticksToShowBySums_19  h) rfl rfl (And.intro rfl (trivial))
  · refine qa_bk_1f (a := 18) (b := 14) hc1 rfl rfl ?_
    refine qa_bk_do (pc' := 15) rfl rfl ?_
    refine qa_bk_do (pc' := 19) rfl rfl ?_
    exact qa_bk_lw (qa_tX9_ticksToShowBySums_19  h) rfl rfl (And.intro rfl (trivial))
noncomputable def qa_fX9_burningsFor (a1 : Int32) (σ : qa_T) : Option ((Int32 ⊕ Nat) × qa_T) :=
    if (qa_bi (qa_fX6_has 1 a1 σ)) = 0 then
      some (.inr 345, σ)
    else
    (qa_fX1_burningsToLoad 1 a1 σ).bind fun c2 =>
    some (.inl c2.1, c2.2)
set_option maxRecDepth 100000 in
theorem qa_tX9_burningsFor {L : Nat} {a1 : Int32}  {σ : qa_T} {r : ((Int32 ⊕ Nat) × qa_T)} (h : qa_fX9_burningsFor a1 σ = some r) : qa_Bk (qa_ds L) qa_mX9_burningsFor 0 (qa_ag 0 [.inl (0, 1), .inr (.int a1)]) [] σ (qa_ri r.1) r.2 := by
  unfold qa_fX9_burningsFor at h
  try dsimp only at h
  show qa_Bk (qa_ds L) qa_mX9_burningsFor 0 [(0, .inl (0, 1)), (1, .inr (.int a1))] [] σ _ _
  refine qa_bk_do (pc' := 1) rfl rfl ?_
  refine qa_bk_gr rfl rfl qa_dx_0_1 rfl ?_
  refine qa_bk_gr rfl rfl (qa_ds0 qa_rg_1) rfl ?_
  refine qa_bk_do (pc' := 8) rfl rfl ?_
  refine qa_bk_cv (qa_tX6_has qa_rg_1 rfl) rfl rfl rfl rfl rfl rfl rfl (qa_ds1 qa_rg_1) ?_
  rcases qa_ite h with ⟨hc1, h⟩ | ⟨hc1, h⟩
  · cases h
    exact qa_bk_cx (qa_tX9_needIndex_x hc1) rfl rfl rfl rfl rfl rfl rfl rfl
  refine qa_bk_cs (qa_tX9_needIndex_o hc1) rfl rfl rfl rfl rfl rfl rfl ?_
  refine qa_bk_do (pc' := 15) rfl rfl ?_
  refine qa_bk_gr rfl rfl qa_dx_0_1 rfl ?_
  refine qa_bk_do (pc' := 19) rfl rfl ?_
  obtain ⟨c2, hc3, h⟩ := Option.bind_eq_some_iff.mp h
  refine qa_bk_cv (qa_tX1_burningsToLoad qa_rg_1 hc3) rfl rfl rfl rfl rfl rfl rfl (qa_ds0 qa_rg_1) ?_
  cases h
  exact qa_bk_ri rfl rfl
noncomputable def qa_fX9_missesOnTrial_113 (a1 : Int32) (k37 : Int32 → Int32 → qa_T → Option (Int32 × qa_T)) : Nat → Int32 → Int32 → Int32 → qa_T → Option (Int32 × qa_T)
  | 0, _, _, _, _ => none
  | n + 1, x2, x3, x4, σ =>
    if ((Int8.ofInt 10).toInt32) ≤ x4 then
      let v13 : Int32 := x3 + Int32.ofInt 1
      k37 x2 v13 σ
    else
      (qa_fX1_passTick 2 σ).bind fun c14 =>
      let v16 : Int32 := x4 + Int32.ofInt 1
      qa_fX9_missesOnTrial_113 a1 k37 n x2 x3 v16 c14.2
noncomputable def qa_fX9_missesOnTrial_110 (a1 : Int32) (k37 : Int32 → Int32 → qa_T → Option (Int32 × qa_T)) (x2 : Int32) (x3 : Int32) (σ : qa_T) : Option (Int32 × qa_T) :=
    qa_fX9_missesOnTrial_113 a1 k37 qa_fu x2 x3 (Int32.ofInt 0) σ
noncomputable def qa_fX9_missesOnTrial_74 (a1 : Int32) (k37 : Int32 → Int32 → qa_T → Option (Int32 × qa_T)) : Nat → Int32 → Int32 → Int32 → qa_T → Option (Int32 × qa_T)
  | 0, _, _, _, _ => none
  | n + 1, x2, x3, x4, σ =>
    if (σ.1 (2, 11) 4) = (Int32.ofInt (-1)) then
      qa_fX9_missesOnTrial_110 a1 k37 x2 x3 σ
    else
      if ((Int16.ofInt 1000).toInt32) ≤ x4 then
        qa_fX9_missesOnTrial_110 a1 k37 x2 x3 σ
      else
        (qa_fX1_passTick 2 σ).bind fun c18 =>
        let v20 : Int32 := x4 + Int32.ofInt 1
        qa_fX9_missesOnTrial_74 a1 k37 n x2 x3 v20 c18.2
noncomputable def qa_fX9_missesOnTrial_64 (a1 : Int32) (k37 : Int32 → Int32 → qa_T → Option (Int32 × qa_T)) (x2 : Int32) (x3 : Int32) (σ : qa_T) : Option (Int32 × qa_T) :=
    (qa_fX1_beginLoading 2 σ).bind fun c9 =>
    qa_fX9_missesOnTrial_74 a1 k37 qa_fu x2 x3 (Int32.ofInt 0) c9
noncomputable def qa_fX9_missesOnTrial_37 (a1 : Int32) : Nat → Int32 → Int32 → qa_T → Option (Int32 × qa_T)
  | 0, _, _, _ => none
  | n + 1, x2, x3, σ =>
    if (σ.1 (1, 9) 0) ≤ x3 then
      some (x2, σ)
    else
      (qa_fX1_proceed 2 σ).bind fun c6 =>
      if ¬ (qa_bi c6.1) = 0 then
        qa_fX9_missesOnTrial_64 a1 (qa_fX9_missesOnTrial_37 a1 n) x2 x3 c6.2
      else
        let v21 : Int32 := x2 + Int32.ofInt 1
        qa_fX9_missesOnTrial_64 a1 (qa_fX9_missesOnTrial_37 a1 n) v21 x3 c6.2
noncomputable def qa_fX9_missesOnTrial (a1 : Int32) (σ : qa_T) : Option (Int32 × qa_T) :=
    (qa_fX1_copyFrom 2 1 σ).bind fun c1 =>
    let σ3 := qa_wi c1 (2, 14) 2 a1
    let σ4 := qa_wi σ3 (2, 14) 4 (Int32.ofInt 0)
    qa_fX9_missesOnTrial_37 a1 qa_fu (Int32.ofInt 0) (Int32.ofInt 0) σ4
set_option maxRecDepth 100000 in
theorem qa_tX9_missesOnTrial_113 {L : Nat} {a1 : Int32}  {k37 : Int32 → Int32 → qa_T → Option (Int32 × qa_T)} (K37 : ∀ (x2 : Int32) (x3 : Int32) (σ : qa_T) (r : (Int32 × qa_T)), k37 x2 x3 σ = some r → qa_Bk (qa_ds L) qa_mX9_missesOnTrial 37 [(0, .inl (0, 1)), (1, .inr (.int a1)), (2, .inr (.int x2)), (3, .inr (.int x3))] [] σ (.inl (some (.inr (.int r.1)))) r.2) : ∀ (n : Nat) (x2 : Int32) (x3 : Int32) (x4 : Int32) (σ : qa_T) (r : (Int32 × qa_T)), qa_fX9_missesOnTrial_113 a1 k37 n x2 x3 x4 σ = some r → qa_Bk (qa_ds L) qa_mX9_missesOnTrial 113 [(0, .inl (0, 1)), (1, .inr (.int a1)), (2, .inr (.int x2)), (3, .inr (.int x3)), (4, .inr (.int x4))] [] σ (.inl (some (.inr (.int r.1)))) r.2 := by
  intro n
  induction n with
  | zero => intro x2 x3 x4 σ r h; cases h
  | succ n ih =>
    intro x2 x3 x4 σ r h
    unfold qa_fX9_missesOnTrial_113 at h
    try dsimp only at h
    refine qa_bk_do (pc' := 115) rfl rfl ?_
    refine qa_bk_do (pc' := 117) rfl rfl ?_
    rcases qa_ite h with ⟨hc12, h⟩ | ⟨hc12, h⟩
    · refine qa_bk_1t (a := 134) (b := 120) hc12 rfl rfl ?_
      refine qa_bk_do (pc' := 137) (lv' := [(3, _), (0, _), (1, _), (2, _), (4, _)]) rfl rfl ?_
      refine qa_bk_do (pc' := 37) rfl rfl ?_
      exact qa_bk_lw (K37 _ _ _ _ h) rfl rfl (And.intro rfl (And.intro rfl (And.intro rfl (And.intro rfl (trivial)))))
    · refine qa_bk_1f (a := 134) (b := 120) hc12 rfl rfl ?_
      refine qa_bk_do (pc' := 121) rfl rfl ?_
      refine qa_bk_gr rfl rfl qa_dx_0_1 rfl ?_
      obtain ⟨c14, hc15, h⟩ := Option.bind_eq_some_iff.mp h
      refine qa_bk_cv (qa_tX1_passTick qa_rg_2 hc15) rfl rfl rfl rfl rfl rfl rfl (qa_ds0 qa_rg_2) ?_
      refine qa_bk_do (pc' := 128) rfl rfl ?_
      refine qa_bk_do (pc' := 131) (lv' := [(4, _), (0, _), (1, _), (2, _), (3, _)]) rfl rfl ?_
      refine qa_bk_do (pc' := 113) rfl rfl ?_
      exact qa_bk_lw (ih _ _ _ _ _ h) rfl rfl (And.intro rfl (And.intro rfl (And.intro rfl (And.intro rfl (And.intro rfl (trivial))))))
set_option maxRecDepth 100000 in
theorem qa_tX9_missesOnTrial_110 {L : Nat} {a1 : Int32}  {k37 : Int32 → Int32 → qa_T → Option (Int32 × qa_T)} (K37 : ∀ (x2 : Int32) (x3 : Int32) (σ : qa_T) (r : (Int32 × qa_T)), k37 x2 x3 σ = some r → qa_Bk (qa_ds L) qa_mX9_missesOnTrial 37 [(0, .inl (0, 1)), (1, .inr (.int a1)), (2, .inr (.int x2)), (3, .inr (.int x3))] [] σ (.inl (some (.inr (.int r.1)))) r.2) {x2 : Int32} {x3 : Int32} {σ : qa_T} {r : (Int32 × qa_T)} (h : qa_fX9_missesOnTrial_110 a1 k37 x2 x3 σ = some r) : qa_Bk (qa_ds L) qa_mX9_missesOnTrial 110 [(0, .inl (0, 1)), (1, .inr (.int a1)), (2, .inr (.int x2)), (3, .inr (.int x3))] [] σ (.inl (some (.inr (.int r.1)))) r.2 := by
  unfold qa_fX9_missesOnTrial_110 at h
  try dsimp only at h
  refine qa_bk_do (pc' := 111) rfl rfl ?_
  refine qa_bk_do (pc' := 113) (lv' := [(4, _), (0, _), (1, _), (2, _), (3, _)]) rfl rfl ?_
  exact qa_bk_lw (qa_tX9_missesOnTrial_113  K37 _ _ _ _ _ _ h) rfl rfl (And.intro rfl (And.intro rfl (And.intro rfl (And.intro rfl (And.intro rfl (trivial))))))
set_option maxRecDepth 100000 in
theorem qa_tX9_missesOnTrial_74 {L : Nat} {a1 : Int32}  {k37 : Int32 → Int32 → qa_T → Option (Int32 × qa_T)} (K37 : ∀ (x2 : Int32) (x3 : Int32) (σ : qa_T) (r : (Int32 × qa_T)), k37 x2 x3 σ = some r → qa_Bk (qa_ds L) qa_mX9_missesOnTrial 37 [(0, .inl (0, 1)), (1, .inr (.int a1)), (2, .inr (.int x2)), (3, .inr (.int x3))] [] σ (.inl (some (.inr (.int r.1)))) r.2) : ∀ (n : Nat) (x2 : Int32) (x3 : Int32) (x4 : Int32) (σ : qa_T) (r : (Int32 × qa_T)), qa_fX9_missesOnTrial_74 a1 k37 n x2 x3 x4 σ = some r → qa_Bk (qa_ds L) qa_mX9_missesOnTrial 74 [(0, .inl (0, 1)), (1, .inr (.int a1)), (2, .inr (.int x2)), (3, .inr (.int x3)), (4, .inr (.int x4))] [] σ (.inl (some (.inr (.int r.1)))) r.2 := by
  intro n
  induction n with
  | zero => intro x2 x3 x4 σ r h; cases h
  | succ n ih =>
    intro x2 x3 x4 σ r h
    unfold qa_fX9_missesOnTrial_74 at h
    try dsimp only at h
    refine qa_bk_do (pc' := 75) rfl rfl ?_
    refine qa_bk_gr rfl rfl qa_dx_0_1 rfl ?_
    refine qa_bk_gr rfl rfl (qa_ds0 qa_rg_2) rfl ?_
    refine qa_bk_gi rfl rfl (qa_ds11 qa_rg_2) rfl ?_
    refine qa_bk_do (pc' := 85) rfl rfl ?_
    rcases qa_ite h with ⟨hc11, h⟩ | ⟨hc11, h⟩
    · refine qa_bk_1t (a := 110) (b := 88) hc11 rfl rfl ?_
      exact qa_bk_lw (qa_tX9_missesOnTrial_110  K37 h) rfl rfl (And.intro rfl (And.intro rfl (And.intro rfl (And.intro rfl (trivial)))))
    · refine qa_bk_1f (a := 110) (b := 88) hc11 rfl rfl ?_
      refine qa_bk_do (pc' := 90) rfl rfl ?_
      refine qa_bk_do (pc' := 93) rfl rfl ?_
      rcases qa_ite h with ⟨hc17, h⟩ | ⟨hc17, h⟩
      · refine qa_bk_1t (a := 110) (b := 96) hc17 rfl rfl ?_
        exact qa_bk_lw (qa_tX9_missesOnTrial_110  K37 h) rfl rfl (And.intro rfl (And.intro rfl (And.intro rfl (And.intro rfl (trivial)))))
      · refine qa_bk_1f (a := 110) (b := 96) hc17 rfl rfl ?_
        refine qa_bk_do (pc' := 97) rfl rfl ?_
        refine qa_bk_gr rfl rfl qa_dx_0_1 rfl ?_
        obtain ⟨c18, hc19, h⟩ := Option.bind_eq_some_iff.mp h
        refine qa_bk_cv (qa_tX1_passTick qa_rg_2 hc19) rfl rfl rfl rfl rfl rfl rfl (qa_ds0 qa_rg_2) ?_
        refine qa_bk_do (pc' := 104) rfl rfl ?_
        refine qa_bk_do (pc' := 107) (lv' := [(4, _), (0, _), (1, _), (2, _), (3, _)]) rfl rfl ?_
        refine qa_bk_do (pc' := 74) rfl rfl ?_
        exact qa_bk_lw (ih _ _ _ _ _ h) rfl rfl (And.intro rfl (And.intro rfl (And.intro rfl (And.intro rfl (And.intro rfl (trivial))))))
set_option maxRecDepth 100000 in
theorem qa_tX9_missesOnTrial_64 {L : Nat} {a1 : Int32}  {k37 : Int32 → Int32 → qa_T → Option (Int32 × qa_T)} (K37 : ∀ (x2 : Int32) (x3 : Int32) (σ : qa_T) (r : (Int32 × qa_T)), k37 x2 x3 σ = some r → qa_Bk (qa_ds L) qa_mX9_missesOnTrial 37 [(0, .inl (0, 1)), (1, .inr (.int a1)), (2, .inr (.int x2)), (3, .inr (.int x3))] [] σ (.inl (some (.inr (.int r.1)))) r.2) {x2 : Int32} {x3 : Int32} {σ : qa_T} {r : (Int32 × qa_T)} (h : qa_fX9_missesOnTrial_64 a1 k37 x2 x3 σ = some r) : qa_Bk (qa_ds L) qa_mX9_missesOnTrial 64 [(0, .inl (0, 1)), (1, .inr (.int a1)), (2, .inr (.int x2)), (3, .inr (.int x3))] [] σ (.inl (some (.inr (.int r.1)))) r.2 := by
  unfold qa_fX9_missesOnTrial_64 at h
  try dsimp only at h
  refine qa_bk_do (pc' := 65) rfl rfl ?_
  refine qa_bk_gr rfl rfl qa_dx_0_1 rfl ?_
  obtain ⟨c9, hc10, h⟩ := Option.bind_eq_some_iff.mp h
  refine qa_bk_cv (qa_tX1_beginLoading qa_rg_2 hc10) rfl rfl rfl rfl rfl rfl rfl (qa_ds0 qa_rg_2) ?_
  refine qa_bk_do (pc' := 72) rfl rfl ?_
  refine qa_bk_do (pc' := 74) (lv' := [(4, _), (0, _), (1, _), (2, _), (3, _)]) rfl rfl ?_
  exact qa_bk_lw (qa_tX9_missesOnTrial_74  K37 _ _ _ _ _ _ h) rfl rfl (And.intro rfl (And.intro rfl (And.intro rfl (And.intro rfl (And.intro rfl (trivial))))))
set_option maxRecDepth 100000 in
theorem qa_tX9_missesOnTrial_37 {L : Nat} {a1 : Int32}  : ∀ (n : Nat) (x2 : Int32) (x3 : Int32) (σ : qa_T) (r : (Int32 × qa_T)), qa_fX9_missesOnTrial_37 a1 n x2 x3 σ = some r → qa_Bk (qa_ds L) qa_mX9_missesOnTrial 37 [(0, .inl (0, 1)), (1, .inr (.int a1)), (2, .inr (.int x2)), (3, .inr (.int x3))] [] σ (.inl (some (.inr (.int r.1)))) r.2 := by
  intro n
  induction n with
  | zero => intro x2 x3 σ r h; cases h
  | succ n ih =>
    intro x2 x3 σ r h
    unfold qa_fX9_missesOnTrial_37 at h
    try dsimp only at h
    refine qa_bk_do (pc' := 38) rfl rfl ?_
    refine qa_bk_do (pc' := 39) rfl rfl ?_
    refine qa_bk_gr rfl rfl qa_dx_0_1 rfl ?_
    refine qa_bk_gr rfl rfl (qa_ds0 qa_rg_1) rfl ?_
    refine qa_bk_gi rfl rfl (qa_ds9 qa_rg_1) rfl ?_
    rcases qa_ite h with ⟨hc5, h⟩ | ⟨hc5, h⟩
    · refine qa_bk_1t (a := 140) (b := 51) hc5 rfl rfl ?_
      refine qa_bk_do (pc' := 141) rfl rfl ?_
      cases h
      exact qa_bk_ri rfl rfl
    · refine qa_bk_1f (a := 140) (b := 51) hc5 rfl rfl ?_
      refine qa_bk_do (pc' := 52) rfl rfl ?_
      refine qa_bk_gr rfl rfl qa_dx_0_1 rfl ?_
      obtain ⟨c6, hc7, h⟩ := Option.bind_eq_some_iff.mp h
      refine qa_bk_cv (qa_tX1_proceed qa_rg_2 hc7) rfl rfl rfl rfl rfl rfl rfl (qa_ds0 qa_rg_2) ?_
      rcases qa_ite h with ⟨hc8, h⟩ | ⟨hc8, h⟩
      · refine qa_bk_1t (a := 64) (b := 61) hc8 rfl rfl ?_
        exact qa_bk_lw (qa_tX9_missesOnTrial_64  ih h) rfl rfl (And.intro rfl (And.intro rfl (And.intro rfl (And.intro rfl (trivial)))))
      · refine qa_bk_1f (a := 64) (b := 61) hc8 rfl rfl ?_
        refine qa_bk_do (pc' := 64) (lv' := [(2, _), (0, _), (1, _), (3, _)]) rfl rfl ?_
        exact qa_bk_lw (qa_tX9_missesOnTrial_64  ih h) rfl rfl (And.intro rfl (And.intro rfl (And.intro rfl (And.intro rfl (trivial)))))
set_option maxRecDepth 100000 in
theorem qa_tX9_missesOnTrial {L : Nat} {a1 : Int32}  {σ : qa_T} {r : (Int32 × qa_T)} (h : qa_fX9_missesOnTrial a1 σ = some r) : qa_Bk (qa_ds L) qa_mX9_missesOnTrial 0 (qa_ag 0 [.inl (0, 1), .inr (.int a1)]) [] σ (.inl (some (.inr (.int r.1)))) r.2 := by
  unfold qa_fX9_missesOnTrial at h
  try dsimp only at h
  show qa_Bk (qa_ds L) qa_mX9_missesOnTrial 0 [(0, .inl (0, 1)), (1, .inr (.int a1))] [] σ _ _
  refine qa_bk_do (pc' := 1) rfl rfl ?_
  refine qa_bk_gr rfl rfl qa_dx_0_1 rfl ?_
  refine qa_bk_do (pc' := 5) rfl rfl ?_
  refine qa_bk_gr rfl rfl qa_dx_0_1 rfl ?_
  obtain ⟨c1, hc2, h⟩ := Option.bind_eq_some_iff.mp h
  refine qa_bk_cv (qa_tX1_copyFrom qa_rg_2 qa_rg_1 hc2) rfl rfl rfl rfl rfl rfl rfl (qa_ds0 qa_rg_2) ?_
  refine qa_bk_do (pc' := 12) rfl rfl ?_
  refine qa_bk_gr rfl rfl qa_dx_0_1 rfl ?_
  refine qa_bk_gr rfl rfl (qa_ds0 qa_rg_2) rfl ?_
  refine qa_bk_do (pc' := 19) rfl rfl ?_
  refine qa_bk_pf rfl rfl (qa_ds14 qa_rg_2) rfl (qa_fiti _) rfl ?_
  refine qa_bk_do (pc' := 23) rfl rfl ?_
  refine qa_bk_gr rfl rfl qa_dx_0_1 rfl ?_
  refine qa_bk_gr rfl rfl (qa_ds0 qa_rg_2) rfl ?_
  refine qa_bk_do (pc' := 30) rfl rfl ?_
  refine qa_bk_pf rfl rfl (qa_ds14 qa_rg_2) rfl (qa_fiti _) rfl ?_
  refine qa_bk_do (pc' := 34) rfl rfl ?_
  refine qa_bk_do (pc' := 35) (lv' := [(2, _), (0, _), (1, _)]) rfl rfl ?_
  refine qa_bk_do (pc' := 36) rfl rfl ?_
  refine qa_bk_do (pc' := 37) (lv' := [(3, _), (2, _), (0, _), (1, _)]) rfl rfl ?_
  exact qa_bk_lw (qa_tX9_missesOnTrial_37  _ _ _ _ _ h) rfl rfl (And.intro rfl (And.intro rfl (And.intro rfl (And.intro rfl (trivial)))))
noncomputable def qa_fX9_missesWith (a1 : Int32) (σ : qa_T) : Option ((Int32 ⊕ Nat) × qa_T) :=
    if (qa_bi (qa_fX9_isWithin a1 (Int32.ofInt 0) (Int32.ofInt 2) σ)) = 0 then
      some (.inr 342, σ)
    else
    if (qa_bi (qa_fX1_mayGoOn 1 σ)) = 0 then
      some (.inr 348, σ)
    else
    (qa_fX9_missesOnTrial a1 σ).bind fun c3 =>
    some (.inl c3.1, c3.2)
set_option maxRecDepth 100000 in
theorem qa_tX9_missesWith {L : Nat} {a1 : Int32}  {σ : qa_T} {r : ((Int32 ⊕ Nat) × qa_T)} (h : qa_fX9_missesWith a1 σ = some r) : qa_Bk (qa_ds L) qa_mX9_missesWith 0 (qa_ag 0 [.inl (0, 1), .inr (.int a1)]) [] σ (qa_ri r.1) r.2 := by
  unfold qa_fX9_missesWith at h
  try dsimp only at h
  show qa_Bk (qa_ds L) qa_mX9_missesWith 0 [(0, .inl (0, 1)), (1, .inr (.int a1))] [] σ _ _
  refine qa_bk_do (pc' := 1) rfl rfl ?_
  refine qa_bk_do (pc' := 2) rfl rfl ?_
  refine qa_bk_do (pc' := 3) rfl rfl ?_
  refine qa_bk_cs (qa_tX9_isWithin rfl) rfl rfl rfl rfl rfl rfl rfl ?_
  rcases qa_ite h with ⟨hc1, h⟩ | ⟨hc1, h⟩
  · cases h
    exact qa_bk_cx (qa_tX9_needArgument_x hc1) rfl rfl rfl rfl rfl rfl rfl rfl
  refine qa_bk_cs (qa_tX9_needArgument_o hc1) rfl rfl rfl rfl rfl rfl rfl ?_
  refine qa_bk_do (pc' := 10) rfl rfl ?_
  refine qa_bk_gr rfl rfl qa_dx_0_1 rfl ?_
  refine qa_bk_cv (qa_tX1_mayGoOn qa_rg_1 rfl) rfl rfl rfl rfl rfl rfl rfl (qa_ds0 qa_rg_1) ?_
  rcases qa_ite h with ⟨hc2, h⟩ | ⟨hc2, h⟩
  · cases h
    exact qa_bk_cx (qa_tX9_needState_x hc2) rfl rfl rfl rfl rfl rfl rfl rfl
  refine qa_bk_cs (qa_tX9_needState_o hc2) rfl rfl rfl rfl rfl rfl rfl ?_
  refine qa_bk_do (pc' := 20) rfl rfl ?_
  refine qa_bk_do (pc' := 21) rfl rfl ?_
  obtain ⟨c3, hc4, h⟩ := Option.bind_eq_some_iff.mp h
  refine qa_bk_cv (qa_tX9_missesOnTrial hc4) rfl rfl rfl rfl rfl rfl rfl qa_dx_0_1 ?_
  cases h
  exact qa_bk_ri rfl rfl
noncomputable def qa_fX9_bestOrder_43  (k20 : Int32 → Int32 → Int32 → qa_T → Option ((Int32 ⊕ Nat) × qa_T)) (x1 : Int32) (x2 : Int32) (x3 : Int32) (σ : qa_T) : Option ((Int32 ⊕ Nat) × qa_T) :=
    let v8 : Int32 := x3 + Int32.ofInt 1
    k20 x1 x2 v8 σ
noncomputable def qa_fX9_bestOrder_20  : Nat → Int32 → Int32 → Int32 → qa_T → Option ((Int32 ⊕ Nat) × qa_T)
  | 0, _, _, _, _ => none
  | n + 1, x1, x2, x3, σ =>
    if (Int32.ofInt 3) ≤ x3 then
      some (.inl x1, σ)
    else
      (qa_fX9_missesOnTrial x3 σ).bind fun c5 =>
      if x2 ≤ c5.1 then
        qa_fX9_bestOrder_43  (qa_fX9_bestOrder_20  n) x1 x2 x3 c5.2
      else
        qa_fX9_bestOrder_43  (qa_fX9_bestOrder_20  n) x3 c5.1 x3 c5.2
noncomputable def qa_fX9_bestOrder  (σ : qa_T) : Option ((Int32 ⊕ Nat) × qa_T) :=
    if (qa_bi (qa_fX1_mayGoOn 1 σ)) = 0 then
      some (.inr 348, σ)
    else
    (qa_fX9_missesOnTrial (Int32.ofInt 0) σ).bind fun c2 =>
    qa_fX9_bestOrder_20  qa_fu (Int32.ofInt 0) c2.1 (Int32.ofInt 1) c2.2
set_option maxRecDepth 100000 in
theorem qa_tX9_bestOrder_43 {L : Nat}   {k20 : Int32 → Int32 → Int32 → qa_T → Option ((Int32 ⊕ Nat) × qa_T)} (K20 : ∀ (x1 : Int32) (x2 : Int32) (x3 : Int32) (σ : qa_T) (r : ((Int32 ⊕ Nat) × qa_T)), k20 x1 x2 x3 σ = some r → qa_Bk (qa_ds L) qa_mX9_bestOrder 20 [(0, .inl (0, 1)), (1, .inr (.int x1)), (2, .inr (.int x2)), (3, .inr (.int x3))] [] σ (qa_ri r.1) r.2) {x1 : Int32} {x2 : Int32} {x3 : Int32} {σ : qa_T} {r : ((Int32 ⊕ Nat) × qa_T)} (h : qa_fX9_bestOrder_43  k20 x1 x2 x3 σ = some r) : qa_Bk (qa_ds L) qa_mX9_bestOrder 43 [(0, .inl (0, 1)), (1, .inr (.int x1)), (2, .inr (.int x2)), (3, .inr (.int x3))] [] σ (qa_ri r.1) r.2 := by
  unfold qa_fX9_bestOrder_43 at h
  try dsimp only at h
  refine qa_bk_do (pc' := 46) (lv' := [(3, _), (0, _), (1, _), (2, _)]) rfl rfl ?_
  refine qa_bk_do (pc' := 20) rfl rfl ?_
  exact qa_bk_lw (K20 _ _ _ _ _ h) rfl rfl (And.intro rfl (And.intro rfl (And.intro rfl (And.intro rfl (trivial)))))
set_option maxRecDepth 100000 in
theorem qa_tX9_bestOrder_20 {L : Nat}   : ∀ (n : Nat) (x1 : Int32) (x2 : Int32) (x3 : Int32) (σ : qa_T) (r : ((Int32 ⊕ Nat) × qa_T)), qa_fX9_bestOrder_20  n x1 x2 x3 σ = some r → qa_Bk (qa_ds L) qa_mX9_bestOrder 20 [(0, .inl (0, 1)), (1, .inr (.int x1)), (2, .inr (.int x2)), (3, .inr (.int x3))] [] σ (qa_ri r.1) r.2 := by
  intro n
  induction n with
  | zero => intro x1 x2 x3 σ r h; cases h
  | succ n ih =>
    intro x1 x2 x3 σ r h
    unfold qa_fX9_bestOrder_20 at h
    try dsimp only at h
    refine qa_bk_do (pc' := 21) rfl rfl ?_
    refine qa_bk_do (pc' := 22) rfl rfl ?_
    rcases qa_ite h with ⟨hc4, h⟩ | ⟨hc4, h⟩
    · refine qa_bk_1t (a := 49) (b := 25) hc4 rfl rfl ?_
      refine qa_bk_do (pc' := 50) rfl rfl ?_
      cases h
      exact qa_bk_ri rfl rfl
    · refine qa_bk_1f (a := 49) (b := 25) hc4 rfl rfl ?_
      refine qa_bk_do (pc' := 26) rfl rfl ?_
      refine qa_bk_do (pc' := 27) rfl rfl ?_
      obtain ⟨c5, hc6, h⟩ := Option.bind_eq_some_iff.mp h
      refine qa_bk_cv (qa_tX9_missesOnTrial hc6) rfl rfl rfl rfl rfl rfl rfl qa_dx_0_1 ?_
      refine qa_bk_do (pc' := 32) (lv' := [(4, _), (0, _), (1, _), (2, _), (3, _)]) rfl rfl ?_
      refine qa_bk_do (pc' := 34) rfl rfl ?_
      refine qa_bk_do (pc' := 35) rfl rfl ?_
      rcases qa_ite h with ⟨hc7, h⟩ | ⟨hc7, h⟩
      · refine qa_bk_1t (a := 43) (b := 38) hc7 rfl rfl ?_
        exact qa_bk_lw (qa_tX9_bestOrder_43  ih h) rfl rfl (And.intro rfl (And.intro rfl (And.intro rfl (And.intro rfl (trivial)))))
      · refine qa_bk_1f (a := 43) (b := 38) hc7 rfl rfl ?_
        refine qa_bk_do (pc' := 39) rfl rfl ?_
        refine qa_bk_do (pc' := 40) (lv' := [(1, _), (4, _), (0, _), (2, _), (3, _)]) rfl rfl ?_
        refine qa_bk_do (pc' := 42) rfl rfl ?_
        refine qa_bk_do (pc' := 43) (lv' := [(2, _), (1, _), (4, _), (0, _), (3, _)]) rfl rfl ?_
        exact qa_bk_lw (qa_tX9_bestOrder_43  ih h) rfl rfl (And.intro rfl (And.intro rfl (And.intro rfl (And.intro rfl (trivial)))))
set_option maxRecDepth 100000 in
theorem qa_tX9_bestOrder {L : Nat}   {σ : qa_T} {r : ((Int32 ⊕ Nat) × qa_T)} (h : qa_fX9_bestOrder  σ = some r) : qa_Bk (qa_ds L) qa_mX9_bestOrder 0 (qa_ag 0 [.inl (0, 1)]) [] σ (qa_ri r.1) r.2 := by
  unfold qa_fX9_bestOrder at h
  try dsimp only at h
  show qa_Bk (qa_ds L) qa_mX9_bestOrder 0 [(0, .inl (0, 1))] [] σ _ _
  refine qa_bk_do (pc' := 1) rfl rfl ?_
  refine qa_bk_gr rfl rfl qa_dx_0_1 rfl ?_
  refine qa_bk_cv (qa_tX1_mayGoOn qa_rg_1 rfl) rfl rfl rfl rfl rfl rfl rfl (qa_ds0 qa_rg_1) ?_
  rcases qa_ite h with ⟨hc1, h⟩ | ⟨hc1, h⟩
  · cases h
    exact qa_bk_cx (qa_tX9_needState_x hc1) rfl rfl rfl rfl rfl rfl rfl rfl
  refine qa_bk_cs (qa_tX9_needState_o hc1) rfl rfl rfl rfl rfl rfl rfl ?_
  refine qa_bk_do (pc' := 11) rfl rfl ?_
  refine qa_bk_do (pc' := 12) (lv' := [(1, _), (0, _)]) rfl rfl ?_
  refine qa_bk_do (pc' := 13) rfl rfl ?_
  refine qa_bk_do (pc' := 14) rfl rfl ?_
  obtain ⟨c2, hc3, h⟩ := Option.bind_eq_some_iff.mp h
  refine qa_bk_cv (qa_tX9_missesOnTrial hc3) rfl rfl rfl rfl rfl rfl rfl qa_dx_0_1 ?_
  refine qa_bk_do (pc' := 18) (lv' := [(2, _), (1, _), (0, _)]) rfl rfl ?_
  refine qa_bk_do (pc' := 19) rfl rfl ?_
  refine qa_bk_do (pc' := 20) (lv' := [(3, _), (2, _), (1, _), (0, _)]) rfl rfl ?_
  exact qa_bk_lw (qa_tX9_bestOrder_20  _ _ _ _ _ _ h) rfl rfl (And.intro rfl (And.intro rfl (And.intro rfl (And.intro rfl (trivial)))))
noncomputable def qa_fX9_time  (σ : qa_T) : Int32 :=
    (σ.1 (1, 15) 0)
set_option maxRecDepth 100000 in
theorem qa_tX9_time {L : Nat}   {σ : qa_T} {r : Int32} (h : qa_fX9_time  σ = r) : qa_Bk (qa_ds L) qa_mX9_time 0 (qa_ag 0 [.inl (0, 1)]) [] σ (.inl (some (.inr (.int r)))) σ := by
  unfold qa_fX9_time at h
  try dsimp only at h
  show qa_Bk (qa_ds L) qa_mX9_time 0 [(0, .inl (0, 1))] [] σ _ _
  refine qa_bk_do (pc' := 1) rfl rfl ?_
  refine qa_bk_gr rfl rfl qa_dx_0_1 rfl ?_
  refine qa_bk_gr rfl rfl (qa_ds0 qa_rg_1) rfl ?_
  refine qa_bk_gi rfl rfl (qa_ds15 qa_rg_1) rfl ?_
  subst h
  exact qa_bk_ri rfl rfl
noncomputable def qa_fX9_hits  (σ : qa_T) : Int32 :=
    (σ.1 (1, 15) 1)
set_option maxRecDepth 100000 in
theorem qa_tX9_hits {L : Nat}   {σ : qa_T} {r : Int32} (h : qa_fX9_hits  σ = r) : qa_Bk (qa_ds L) qa_mX9_hits 0 (qa_ag 0 [.inl (0, 1)]) [] σ (.inl (some (.inr (.int r)))) σ := by
  unfold qa_fX9_hits at h
  try dsimp only at h
  show qa_Bk (qa_ds L) qa_mX9_hits 0 [(0, .inl (0, 1))] [] σ _ _
  refine qa_bk_do (pc' := 1) rfl rfl ?_
  refine qa_bk_gr rfl rfl qa_dx_0_1 rfl ?_
  refine qa_bk_gr rfl rfl (qa_ds0 qa_rg_1) rfl ?_
  refine qa_bk_gi rfl rfl (qa_ds15 qa_rg_1) rfl ?_
  subst h
  exact qa_bk_ri rfl rfl
noncomputable def qa_fX9_misses  (σ : qa_T) : Int32 :=
    (σ.1 (1, 15) 2)
set_option maxRecDepth 100000 in
theorem qa_tX9_misses {L : Nat}   {σ : qa_T} {r : Int32} (h : qa_fX9_misses  σ = r) : qa_Bk (qa_ds L) qa_mX9_misses 0 (qa_ag 0 [.inl (0, 1)]) [] σ (.inl (some (.inr (.int r)))) σ := by
  unfold qa_fX9_misses at h
  try dsimp only at h
  show qa_Bk (qa_ds L) qa_mX9_misses 0 [(0, .inl (0, 1))] [] σ _ _
  refine qa_bk_do (pc' := 1) rfl rfl ?_
  refine qa_bk_gr rfl rfl qa_dx_0_1 rfl ?_
  refine qa_bk_gr rfl rfl (qa_ds0 qa_rg_1) rfl ?_
  refine qa_bk_gi rfl rfl (qa_ds15 qa_rg_1) rfl ?_
  subst h
  exact qa_bk_ri rfl rfl
noncomputable def qa_fX9_loads  (σ : qa_T) : Int32 :=
    (σ.1 (1, 15) 3)
set_option maxRecDepth 100000 in
theorem qa_tX9_loads {L : Nat}   {σ : qa_T} {r : Int32} (h : qa_fX9_loads  σ = r) : qa_Bk (qa_ds L) qa_mX9_loads 0 (qa_ag 0 [.inl (0, 1)]) [] σ (.inl (some (.inr (.int r)))) σ := by
  unfold qa_fX9_loads at h
  try dsimp only at h
  show qa_Bk (qa_ds L) qa_mX9_loads 0 [(0, .inl (0, 1))] [] σ _ _
  refine qa_bk_do (pc' := 1) rfl rfl ?_
  refine qa_bk_gr rfl rfl qa_dx_0_1 rfl ?_
  refine qa_bk_gr rfl rfl (qa_ds0 qa_rg_1) rfl ?_
  refine qa_bk_gi rfl rfl (qa_ds15 qa_rg_1) rfl ?_
  subst h
  exact qa_bk_ri rfl rfl
noncomputable def qa_fX9_warmLoads  (σ : qa_T) : Int32 :=
    (σ.1 (1, 15) 4)
set_option maxRecDepth 100000 in
theorem qa_tX9_warmLoads {L : Nat}   {σ : qa_T} {r : Int32} (h : qa_fX9_warmLoads  σ = r) : qa_Bk (qa_ds L) qa_mX9_warmLoads 0 (qa_ag 0 [.inl (0, 1)]) [] σ (.inl (some (.inr (.int r)))) σ := by
  unfold qa_fX9_warmLoads at h
  try dsimp only at h
  show qa_Bk (qa_ds L) qa_mX9_warmLoads 0 [(0, .inl (0, 1))] [] σ _ _
  refine qa_bk_do (pc' := 1) rfl rfl ?_
  refine qa_bk_gr rfl rfl qa_dx_0_1 rfl ?_
  refine qa_bk_gr rfl rfl (qa_ds0 qa_rg_1) rfl ?_
  refine qa_bk_gi rfl rfl (qa_ds15 qa_rg_1) rfl ?_
  subst h
  exact qa_bk_ri rfl rfl
noncomputable def qa_fX9_burnings  (σ : qa_T) : Int32 :=
    (σ.1 (1, 15) 5)
set_option maxRecDepth 100000 in
theorem qa_tX9_burnings {L : Nat}   {σ : qa_T} {r : Int32} (h : qa_fX9_burnings  σ = r) : qa_Bk (qa_ds L) qa_mX9_burnings 0 (qa_ag 0 [.inl (0, 1)]) [] σ (.inl (some (.inr (.int r)))) σ := by
  unfold qa_fX9_burnings at h
  try dsimp only at h
  show qa_Bk (qa_ds L) qa_mX9_burnings 0 [(0, .inl (0, 1))] [] σ _ _
  refine qa_bk_do (pc' := 1) rfl rfl ?_
  refine qa_bk_gr rfl rfl qa_dx_0_1 rfl ?_
  refine qa_bk_gr rfl rfl (qa_ds0 qa_rg_1) rfl ?_
  refine qa_bk_gi rfl rfl (qa_ds15 qa_rg_1) rfl ?_
  subst h
  exact qa_bk_ri rfl rfl
noncomputable def qa_fX9_waited  (σ : qa_T) : Int32 :=
    (σ.1 (1, 15) 6)
set_option maxRecDepth 100000 in
theorem qa_tX9_waited {L : Nat}   {σ : qa_T} {r : Int32} (h : qa_fX9_waited  σ = r) : qa_Bk (qa_ds L) qa_mX9_waited 0 (qa_ag 0 [.inl (0, 1)]) [] σ (.inl (some (.inr (.int r)))) σ := by
  unfold qa_fX9_waited at h
  try dsimp only at h
  show qa_Bk (qa_ds L) qa_mX9_waited 0 [(0, .inl (0, 1))] [] σ _ _
  refine qa_bk_do (pc' := 1) rfl rfl ?_
  refine qa_bk_gr rfl rfl qa_dx_0_1 rfl ?_
  refine qa_bk_gr rfl rfl (qa_ds0 qa_rg_1) rfl ?_
  refine qa_bk_gi rfl rfl (qa_ds15 qa_rg_1) rfl ?_
  subst h
  exact qa_bk_ri rfl rfl
noncomputable def qa_fX9_hitShare  (σ : qa_T) : Option UInt64 :=
    (qa_fX0_shareOfHits 1 σ).bind fun c1 =>
    some c1
set_option maxRecDepth 100000 in
theorem qa_tX9_hitShare {L : Nat}   {σ : qa_T} {r : UInt64} (h : qa_fX9_hitShare  σ = some r) : qa_Bk (qa_ds L) qa_mX9_hitShare 0 (qa_ag 0 [.inl (0, 1)]) [] σ (.inl (some (.inr (.double r)))) σ := by
  unfold qa_fX9_hitShare at h
  try dsimp only at h
  show qa_Bk (qa_ds L) qa_mX9_hitShare 0 [(0, .inl (0, 1))] [] σ _ _
  refine qa_bk_do (pc' := 1) rfl rfl ?_
  refine qa_bk_gr rfl rfl qa_dx_0_1 rfl ?_
  refine qa_bk_gr rfl rfl (qa_ds0 qa_rg_1) rfl ?_
  obtain ⟨c1, hc2, h⟩ := Option.bind_eq_some_iff.mp h
  refine qa_bk_cv (qa_tX0_shareOfHits qa_rg_1 hc2) rfl rfl rfl rfl rfl rfl rfl (qa_ds15 qa_rg_1) ?_
  cases h
  exact qa_bk_re rfl rfl rfl
noncomputable def qa_fX9_mix (a1 : Int64) (a2 : Int64) (σ : qa_T) : Int64 :=
    (((31 : Int64) * a1) + a2)
set_option maxRecDepth 100000 in
theorem qa_tX9_mix {L : Nat} {a1 : Int64} {a2 : Int64}  {σ : qa_T} {r : Int64} (h : qa_fX9_mix a1 a2 σ = r) : qa_Bk (qa_ds L) qa_mX9_mix 0 (qa_ag 0 [.inr (.long a1), .inr (.long a2)]) [] σ (.inl (some (.inr (.long r)))) σ := by
  unfold qa_fX9_mix at h
  try dsimp only at h
  show qa_Bk (qa_ds L) qa_mX9_mix 0 [(0, .inr (.long a1)), (2, .inr (.long a2))] [] σ _ _
  refine qa_bk_do (pc' := 3) rfl rfl ?_
  refine qa_bk_do (pc' := 4) rfl rfl ?_
  refine qa_bk_do (pc' := 5) rfl rfl ?_
  refine qa_bk_do (pc' := 6) rfl rfl ?_
  refine qa_bk_do (pc' := 7) rfl rfl ?_
  subst h
  exact qa_bk_re rfl rfl rfl
noncomputable def qa_fX9_mixSlide_110 (a1 : Int64) (a2 : Int32) (y0 : Int64) (y1 : Int64) (σ : qa_T) : Option (Int64 × qa_T) :=
    let v7 : Int64 := (qa_fX9_mix y1 y0 σ)
    let v8 : Int64 := (qa_fX9_mix v7 (((qa_fX9_at (1, 6) 16 a2 σ)).toInt64) σ)
    let v9 : Int64 := (qa_fX9_mix v8 (((qa_fX9_at (1, 7) 16 a2 σ)).toInt64) σ)
    (qa_fX3_placesUntil 1 a2 σ).bind fun c10 =>
    let v12 : Int64 := (qa_fX9_mix v9 ((c10).toInt64) σ)
    (qa_fX1_placeInLine 1 a2 σ).bind fun c13 =>
    let v15 : Int64 := (qa_fX9_mix v12 (((c13.1 + (Int32.ofInt 1))).toInt64) c13.2)
    (qa_fX1_burningsToLoad 1 a2 c13.2).bind fun c16 =>
    some ((qa_fX9_mix v15 ((c16.1).toInt64) c16.2), c16.2)
noncomputable def qa_fX9_mixSlide_84 (a1 : Int64) (a2 : Int32) (y0 : Int64) (y1 : Int64) (σ : qa_T) : Option (Int64 × qa_T) :=
    let v5 : Int64 := (qa_fX9_mix y1 y0 σ)
    if (qa_bi (qa_fX7_bears 1 a2 σ)) = 0 then
      qa_fX9_mixSlide_110 a1 a2 (Int64.ofNat ((0 : Fin 2) : Nat)) v5 σ
    else
      qa_fX9_mixSlide_110 a1 a2 (Int64.ofNat ((1 : Fin 2) : Nat)) v5 σ
noncomputable def qa_fX9_mixSlide (a1 : Int64) (a2 : Int32) (σ : qa_T) : Option (Int64 × qa_T) :=
    let v1 : Int64 := (qa_fX9_mix a1 (((qa_fX9_at (1, 2) 16 a2 σ)).toInt64) σ)
    let v2 : Int64 := (qa_fX9_mix v1 (((qa_fX6_ticksToLoad 1 a2 (Int32.ofInt 0) σ)).toInt64) σ)
    let v3 : Int64 := (qa_fX9_mix v2 (((qa_fX9_at (1, 4) 16 a2 σ)).toInt64) σ)
    if (qa_bi (qa_fX6_isReady 1 a2 σ)) = 0 then
      qa_fX9_mixSlide_84 a1 a2 (Int64.ofNat ((0 : Fin 2) : Nat)) v3 σ
    else
      qa_fX9_mixSlide_84 a1 a2 (Int64.ofNat ((1 : Fin 2) : Nat)) v3 σ
set_option maxRecDepth 100000 in
theorem qa_tX9_mixSlide_110 {L : Nat} {a1 : Int64} {a2 : Int32}  {y0 : Int64} {y1 : Int64} {σ : qa_T} {r : (Int64 × qa_T)} (h : qa_fX9_mixSlide_110 a1 a2 y0 y1 σ = some r) : qa_Bk (qa_ds L) qa_mX9_mixSlide 110 [(0, .inl (0, 1)), (1, .inr (.long a1)), (3, .inr (.int a2))] [.inr (.long y0), .inr (.long y1)] σ (.inl (some (.inr (.long r.1)))) r.2 := by
  unfold qa_fX9_mixSlide_110 at h
  try dsimp only at h
  refine qa_bk_cs (qa_tX9_mix rfl) rfl rfl rfl rfl rfl rfl rfl ?_
  refine qa_bk_do (pc' := 115) (lv' := [(4, _), (0, _), (1, _), (3, _)]) rfl rfl ?_
  refine qa_bk_do (pc' := 117) rfl rfl ?_
  refine qa_bk_do (pc' := 118) rfl rfl ?_
  refine qa_bk_gr rfl rfl qa_dx_0_1 rfl ?_
  refine qa_bk_gr rfl rfl (qa_ds0 qa_rg_1) rfl ?_
  refine qa_bk_gr rfl rfl (qa_ds1 qa_rg_1) rfl ?_
  refine qa_bk_do (pc' := 128) rfl rfl ?_
  refine qa_bk_cs (qa_tX9_at (qa_ds6 qa_rg_1) (Nat.le_of_ble_eq_true rfl) rfl) rfl rfl rfl rfl rfl rfl rfl ?_
  refine qa_bk_do (pc' := 132) rfl rfl ?_
  refine qa_bk_cs (qa_tX9_mix rfl) rfl rfl rfl rfl rfl rfl rfl ?_
  refine qa_bk_do (pc' := 137) (lv' := [(4, _), (0, _), (1, _), (3, _)]) rfl rfl ?_
  refine qa_bk_do (pc' := 139) rfl rfl ?_
  refine qa_bk_do (pc' := 140) rfl rfl ?_
  refine qa_bk_gr rfl rfl qa_dx_0_1 rfl ?_
  refine qa_bk_gr rfl rfl (qa_ds0 qa_rg_1) rfl ?_
  refine qa_bk_gr rfl rfl (qa_ds1 qa_rg_1) rfl ?_
  refine qa_bk_do (pc' := 150) rfl rfl ?_
  refine qa_bk_cs (qa_tX9_at (qa_ds7 qa_rg_1) (Nat.le_of_ble_eq_true rfl) rfl) rfl rfl rfl rfl rfl rfl rfl ?_
  refine qa_bk_do (pc' := 154) rfl rfl ?_
  refine qa_bk_cs (qa_tX9_mix rfl) rfl rfl rfl rfl rfl rfl rfl ?_
  refine qa_bk_do (pc' := 159) (lv' := [(4, _), (0, _), (1, _), (3, _)]) rfl rfl ?_
  refine qa_bk_do (pc' := 161) rfl rfl ?_
  refine qa_bk_do (pc' := 162) rfl rfl ?_
  refine qa_bk_gr rfl rfl qa_dx_0_1 rfl ?_
  refine qa_bk_gr rfl rfl (qa_ds0 qa_rg_1) rfl ?_
  refine qa_bk_do (pc' := 169) rfl rfl ?_
  obtain ⟨c10, hc11, h⟩ := Option.bind_eq_some_iff.mp h
  refine qa_bk_cv (qa_tX3_placesUntil qa_rg_1 hc11) rfl rfl rfl rfl rfl rfl rfl (qa_ds9 qa_rg_1) ?_
  refine qa_bk_do (pc' := 173) rfl rfl ?_
  refine qa_bk_cs (qa_tX9_mix rfl) rfl rfl rfl rfl rfl rfl rfl ?_
  refine qa_bk_do (pc' := 178) (lv' := [(4, _), (0, _), (1, _), (3, _)]) rfl rfl ?_
  refine qa_bk_do (pc' := 180) rfl rfl ?_
  refine qa_bk_do (pc' := 181) rfl rfl ?_
  refine qa_bk_gr rfl rfl qa_dx_0_1 rfl ?_
  refine qa_bk_do (pc' := 185) rfl rfl ?_
  obtain ⟨c13, hc14, h⟩ := Option.bind_eq_some_iff.mp h
  refine qa_bk_cv (qa_tX1_placeInLine qa_rg_1 hc14) rfl rfl rfl rfl rfl rfl rfl (qa_ds0 qa_rg_1) ?_
  refine qa_bk_do (pc' := 189) rfl rfl ?_
  refine qa_bk_do (pc' := 190) rfl rfl ?_
  refine qa_bk_do (pc' := 191) rfl rfl ?_
  refine qa_bk_cs (qa_tX9_mix rfl) rfl rfl rfl rfl rfl rfl rfl ?_
  refine qa_bk_do (pc' := 196) (lv' := [(4, _), (0, _), (1, _), (3, _)]) rfl rfl ?_
  refine qa_bk_do (pc' := 198) rfl rfl ?_
  refine qa_bk_do (pc' := 199) rfl rfl ?_
  refine qa_bk_gr rfl rfl qa_dx_0_1 rfl ?_
  refine qa_bk_do (pc' := 203) rfl rfl ?_
  obtain ⟨c16, hc17, h⟩ := Option.bind_eq_some_iff.mp h
  refine qa_bk_cv (qa_tX1_burningsToLoad qa_rg_1 hc17) rfl rfl rfl rfl rfl rfl rfl (qa_ds0 qa_rg_1) ?_
  refine qa_bk_do (pc' := 207) rfl rfl ?_
  refine qa_bk_cs (qa_tX9_mix rfl) rfl rfl rfl rfl rfl rfl rfl ?_
  cases h
  exact qa_bk_re rfl rfl rfl
set_option maxRecDepth 100000 in
theorem qa_tX9_mixSlide_84 {L : Nat} {a1 : Int64} {a2 : Int32}  {y0 : Int64} {y1 : Int64} {σ : qa_T} {r : (Int64 × qa_T)} (h : qa_fX9_mixSlide_84 a1 a2 y0 y1 σ = some r) : qa_Bk (qa_ds L) qa_mX9_mixSlide 84 [(0, .inl (0, 1)), (1, .inr (.long a1)), (3, .inr (.int a2))] [.inr (.long y0), .inr (.long y1)] σ (.inl (some (.inr (.long r.1)))) r.2 := by
  unfold qa_fX9_mixSlide_84 at h
  try dsimp only at h
  refine qa_bk_cs (qa_tX9_mix rfl) rfl rfl rfl rfl rfl rfl rfl ?_
  refine qa_bk_do (pc' := 89) (lv' := [(4, _), (0, _), (1, _), (3, _)]) rfl rfl ?_
  refine qa_bk_do (pc' := 91) rfl rfl ?_
  refine qa_bk_do (pc' := 92) rfl rfl ?_
  refine qa_bk_gr rfl rfl qa_dx_0_1 rfl ?_
  refine qa_bk_gr rfl rfl (qa_ds0 qa_rg_1) rfl ?_
  refine qa_bk_do (pc' := 99) rfl rfl ?_
  refine qa_bk_cv (qa_tX7_bears qa_rg_1 rfl) rfl rfl rfl rfl rfl rfl rfl (qa_ds11 qa_rg_1) ?_
  rcases qa_ite h with ⟨hc6, h⟩ | ⟨hc6, h⟩
  · refine qa_bk_1t (a := 109) (b := 105) hc6 rfl rfl ?_
    refine qa_bk_do (pc' := 110) rfl rfl ?_
    exact qa_bk_lw (qa_tX9_mixSlide_110  h) rfl rfl (And.intro rfl (And.intro rfl (And.intro rfl (trivial))))
  · refine qa_bk_1f (a := 109) (b := 105) hc6 rfl rfl ?_
    refine qa_bk_do (pc' := 106) rfl rfl ?_
    refine qa_bk_do (pc' := 110) rfl rfl ?_
    exact qa_bk_lw (qa_tX9_mixSlide_110  h) rfl rfl (And.intro rfl (And.intro rfl (And.intro rfl (trivial))))
set_option maxRecDepth 100000 in
theorem qa_tX9_mixSlide {L : Nat} {a1 : Int64} {a2 : Int32}  {σ : qa_T} {r : (Int64 × qa_T)} (h : qa_fX9_mixSlide a1 a2 σ = some r) : qa_Bk (qa_ds L) qa_mX9_mixSlide 0 (qa_ag 0 [.inl (0, 1), .inr (.long a1), .inr (.int a2)]) [] σ (.inl (some (.inr (.long r.1)))) r.2 := by
  unfold qa_fX9_mixSlide at h
  try dsimp only at h
  show qa_Bk (qa_ds L) qa_mX9_mixSlide 0 [(0, .inl (0, 1)), (1, .inr (.long a1)), (3, .inr (.int a2))] [] σ _ _
  refine qa_bk_do (pc' := 1) rfl rfl ?_
  refine qa_bk_do (pc' := 2) rfl rfl ?_
  refine qa_bk_gr rfl rfl qa_dx_0_1 rfl ?_
  refine qa_bk_gr rfl rfl (qa_ds0 qa_rg_1) rfl ?_
  refine qa_bk_gr rfl rfl (qa_ds1 qa_rg_1) rfl ?_
  refine qa_bk_do (pc' := 12) rfl rfl ?_
  refine qa_bk_cs (qa_tX9_at (qa_ds2 qa_rg_1) (Nat.le_of_ble_eq_true rfl) rfl) rfl rfl rfl rfl rfl rfl rfl ?_
  refine qa_bk_do (pc' := 16) rfl rfl ?_
  refine qa_bk_cs (qa_tX9_mix rfl) rfl rfl rfl rfl rfl rfl rfl ?_
  refine qa_bk_do (pc' := 21) (lv' := [(4, _), (0, _), (1, _), (3, _)]) rfl rfl ?_
  refine qa_bk_do (pc' := 23) rfl rfl ?_
  refine qa_bk_do (pc' := 24) rfl rfl ?_
  refine qa_bk_gr rfl rfl qa_dx_0_1 rfl ?_
  refine qa_bk_gr rfl rfl (qa_ds0 qa_rg_1) rfl ?_
  refine qa_bk_do (pc' := 31) rfl rfl ?_
  refine qa_bk_do (pc' := 32) rfl rfl ?_
  refine qa_bk_cv (qa_tX6_ticksToLoad qa_rg_1 rfl) rfl rfl rfl rfl rfl rfl rfl (qa_ds1 qa_rg_1) ?_
  refine qa_bk_do (pc' := 36) rfl rfl ?_
  refine qa_bk_cs (qa_tX9_mix rfl) rfl rfl rfl rfl rfl rfl rfl ?_
  refine qa_bk_do (pc' := 41) (lv' := [(4, _), (0, _), (1, _), (3, _)]) rfl rfl ?_
  refine qa_bk_do (pc' := 43) rfl rfl ?_
  refine qa_bk_do (pc' := 44) rfl rfl ?_
  refine qa_bk_gr rfl rfl qa_dx_0_1 rfl ?_
  refine qa_bk_gr rfl rfl (qa_ds0 qa_rg_1) rfl ?_
  refine qa_bk_gr rfl rfl (qa_ds1 qa_rg_1) rfl ?_
  refine qa_bk_do (pc' := 54) rfl rfl ?_
  refine qa_bk_cs (qa_tX9_at (qa_ds4 qa_rg_1) (Nat.le_of_ble_eq_true rfl) rfl) rfl rfl rfl rfl rfl rfl rfl ?_
  refine qa_bk_do (pc' := 58) rfl rfl ?_
  refine qa_bk_cs (qa_tX9_mix rfl) rfl rfl rfl rfl rfl rfl rfl ?_
  refine qa_bk_do (pc' := 63) (lv' := [(4, _), (0, _), (1, _), (3, _)]) rfl rfl ?_
  refine qa_bk_do (pc' := 65) rfl rfl ?_
  refine qa_bk_do (pc' := 66) rfl rfl ?_
  refine qa_bk_gr rfl rfl qa_dx_0_1 rfl ?_
  refine qa_bk_gr rfl rfl (qa_ds0 qa_rg_1) rfl ?_
  refine qa_bk_do (pc' := 73) rfl rfl ?_
  refine qa_bk_cv (qa_tX6_isReady qa_rg_1 rfl) rfl rfl rfl rfl rfl rfl rfl (qa_ds1 qa_rg_1) ?_
  rcases qa_ite h with ⟨hc4, h⟩ | ⟨hc4, h⟩
  · refine qa_bk_1t (a := 83) (b := 79) hc4 rfl rfl ?_
    refine qa_bk_do (pc' := 84) rfl rfl ?_
    exact qa_bk_lw (qa_tX9_mixSlide_84  h) rfl rfl (And.intro rfl (And.intro rfl (And.intro rfl (trivial))))
  · refine qa_bk_1f (a := 83) (b := 79) hc4 rfl rfl ?_
    refine qa_bk_do (pc' := 80) rfl rfl ?_
    refine qa_bk_do (pc' := 84) rfl rfl ?_
    exact qa_bk_lw (qa_tX9_mixSlide_84  h) rfl rfl (And.intro rfl (And.intro rfl (And.intro rfl (trivial))))
