/-! the methods as functions (written by wip/tools/gen.py) -/
noncomputable def qa_fX6_ticksToLoad_30 (R : Nat) (a1 : Int32) (a2 : Int32) (y0 : Int32) (σ : qa_T) : Int32 :=
    y0
noncomputable def qa_fX6_ticksToLoad (R : Nat) (a1 : Int32) (a2 : Int32) (σ : qa_T) : Int32 :=
    let v1 : Int32 := (qa_fX9_at (R, 3) 16 a1 σ)
    if (qa_fX9_at (R, 6) 16 a1 σ) ≤ a2 then
      qa_fX6_ticksToLoad_30 R a1 a2 v1 σ
    else
      qa_fX6_ticksToLoad_30 R a1 a2 ((v1 + (Int32.ofInt 1)) / (Int32.ofInt 2)) σ
set_option maxRecDepth 100000 in
theorem qa_tX6_ticksToLoad_30 {L : Nat} {R : Nat} {a1 : Int32} {a2 : Int32} (hR : qa_rg R) {y0 : Int32} {σ : qa_T} {r : Int32} (h : qa_fX6_ticksToLoad_30 R a1 a2 y0 σ = r) : qa_Bk (qa_ds L) qa_mX6_ticksToLoad 30 [(0, .inl (R, 1)), (1, .inr (.int a1)), (2, .inr (.int a2))] [.inr (.int y0)] σ (.inl (some (.inr (.int r)))) σ := by
  unfold qa_fX6_ticksToLoad_30 at h
  try dsimp only at h
  subst h
  exact qa_bk_ri rfl rfl
set_option maxRecDepth 100000 in
theorem qa_tX6_ticksToLoad {L : Nat} {R : Nat} {a1 : Int32} {a2 : Int32} (hR : qa_rg R) {σ : qa_T} {r : Int32} (h : qa_fX6_ticksToLoad R a1 a2 σ = r) : qa_Bk (qa_ds L) qa_mX6_ticksToLoad 0 (qa_ag 0 [.inl (R, 1), .inr (.int a1), .inr (.int a2)]) [] σ (.inl (some (.inr (.int r)))) σ := by
  unfold qa_fX6_ticksToLoad at h
  try dsimp only at h
  show qa_Bk (qa_ds L) qa_mX6_ticksToLoad 0 [(0, .inl (R, 1)), (1, .inr (.int a1)), (2, .inr (.int a2))] [] σ _ _
  refine qa_bk_do (pc' := 1) rfl rfl ?_
  refine qa_bk_gr rfl rfl (qa_ds1 hR) rfl ?_
  refine qa_bk_do (pc' := 5) rfl rfl ?_
  refine qa_bk_cs (qa_tX9_at (qa_ds3 hR) (Nat.le_of_ble_eq_true rfl) rfl) rfl rfl rfl rfl rfl rfl rfl ?_
  refine qa_bk_do (pc' := 9) (lv' := [(3, _), (0, _), (1, _), (2, _)]) rfl rfl ?_
  refine qa_bk_do (pc' := 10) rfl rfl ?_
  refine qa_bk_gr rfl rfl (qa_ds1 hR) rfl ?_
  refine qa_bk_do (pc' := 14) rfl rfl ?_
  refine qa_bk_cs (qa_tX9_at (qa_ds6 hR) (Nat.le_of_ble_eq_true rfl) rfl) rfl rfl rfl rfl rfl rfl rfl ?_
  refine qa_bk_do (pc' := 18) rfl rfl ?_
  rcases qa_ite h with ⟨hc2, h⟩ | ⟨hc2, h⟩
  · refine qa_bk_1t (a := 29) (b := 21) hc2 rfl rfl ?_
    refine qa_bk_do (pc' := 30) rfl rfl ?_
    exact qa_bk_lw (qa_tX6_ticksToLoad_30 hR h) rfl rfl (And.intro rfl (And.intro rfl (And.intro rfl (trivial))))
  · refine qa_bk_1f (a := 29) (b := 21) hc2 rfl rfl ?_
    refine qa_bk_do (pc' := 22) rfl rfl ?_
    refine qa_bk_do (pc' := 23) rfl rfl ?_
    refine qa_bk_do (pc' := 24) rfl rfl ?_
    refine qa_bk_do (pc' := 25) rfl rfl ?_
    refine qa_bk_dv (by decide) rfl ?_
    refine qa_bk_do (pc' := 30) rfl rfl ?_
    exact qa_bk_lw (qa_tX6_ticksToLoad_30 hR h) rfl rfl (And.intro rfl (And.intro rfl (And.intro rfl (trivial))))
noncomputable def qa_fX1_beginLoading_75 (R : Nat) (x1 : Int32) (x2 : Int32) (σ : qa_T) : Option qa_T :=
    let σ9 := qa_wi σ (R, 15) 3 ((σ.1 (R, 15) 3) + (Int32.ofInt 1))
    let σ10 := qa_wi σ9 (R, 12) 0 x1
    let σ11 := qa_wi σ10 (R, 12) 1 (qa_fX6_ticksToLoad R x1 (Int32.ofInt 0) σ10)
    let σ12 := qa_wi σ11 (R, 12) 4 ((σ11.1 (R, 12) 4) + x2)
    let σ13 := qa_fX9_set (R, 6) 16 x1 (Int32.ofInt 0) σ12
    some σ13
noncomputable def qa_fX1_beginLoading (R : Nat) (σ : qa_T) : Option qa_T :=
    if (σ.1 (R, 12) 0) = (Int32.ofInt (-1)) then
      (qa_fX1_nextToLoad R σ).bind fun c2 =>
      if ¬ c2.1 = (Int32.ofInt (-1)) then
        let v5 : Int32 := (qa_fX9_at (R, 2) 16 c2.1 c2.2)
        (qa_fX1_burnDownTo R ((c2.2.1 (R, 14) 0) - v5) c2.2).bind fun c6 =>
        if (qa_fX9_at (R, 6) 16 c2.1 c6) ≤ 0 then
          qa_fX1_beginLoading_75 R c2.1 v5 c6
        else
          let σ14 := qa_wi c6 (R, 15) 4 ((c6.1 (R, 15) 4) + (Int32.ofInt 1))
          qa_fX1_beginLoading_75 R c2.1 v5 σ14
      else
        some c2.2
    else
      some σ
set_option maxRecDepth 100000 in
theorem qa_tX1_beginLoading_75 {L : Nat} {R : Nat} (hR : qa_rg R) {x1 : Int32} {x2 : Int32} {σ : qa_T} {r : qa_T} (h : qa_fX1_beginLoading_75 R x1 x2 σ = some r) : qa_Bk (qa_ds L) qa_mX1_beginLoading 75 [(0, .inl (R, 0)), (1, .inr (.int x1)), (2, .inr (.int x2))] [] σ (.inl none) r := by
  unfold qa_fX1_beginLoading_75 at h
  try dsimp only at h
  refine qa_bk_do (pc' := 76) rfl rfl ?_
  refine qa_bk_gr rfl rfl (qa_ds0 hR) rfl ?_
  refine qa_bk_do (pc' := 80) rfl rfl ?_
  refine qa_bk_gi rfl rfl (qa_ds15 hR) rfl ?_
  refine qa_bk_do (pc' := 84) rfl rfl ?_
  refine qa_bk_do (pc' := 85) rfl rfl ?_
  refine qa_bk_pf rfl rfl (qa_ds15 hR) rfl (qa_fiti _) rfl ?_
  refine qa_bk_do (pc' := 89) rfl rfl ?_
  refine qa_bk_gr rfl rfl (qa_ds0 hR) rfl ?_
  refine qa_bk_do (pc' := 93) rfl rfl ?_
  refine qa_bk_pf rfl rfl (qa_ds12 hR) rfl (qa_fiti _) rfl ?_
  refine qa_bk_do (pc' := 97) rfl rfl ?_
  refine qa_bk_gr rfl rfl (qa_ds0 hR) rfl ?_
  refine qa_bk_do (pc' := 101) rfl rfl ?_
  refine qa_bk_gr rfl rfl (qa_ds0 hR) rfl ?_
  refine qa_bk_do (pc' := 105) rfl rfl ?_
  refine qa_bk_do (pc' := 106) rfl rfl ?_
  refine qa_bk_cv (qa_tX6_ticksToLoad hR rfl) rfl rfl rfl rfl rfl rfl rfl (qa_ds1 hR) ?_
  refine qa_bk_pf rfl rfl (qa_ds12 hR) rfl (qa_fiti _) rfl ?_
  refine qa_bk_do (pc' := 113) rfl rfl ?_
  refine qa_bk_gr rfl rfl (qa_ds0 hR) rfl ?_
  refine qa_bk_do (pc' := 117) rfl rfl ?_
  refine qa_bk_gi rfl rfl (qa_ds12 hR) rfl ?_
  refine qa_bk_do (pc' := 121) rfl rfl ?_
  refine qa_bk_do (pc' := 122) rfl rfl ?_
  refine qa_bk_pf rfl rfl (qa_ds12 hR) rfl (qa_fiti _) rfl ?_
  refine qa_bk_do (pc' := 126) rfl rfl ?_
  refine qa_bk_gr rfl rfl (qa_ds0 hR) rfl ?_
  refine qa_bk_gr rfl rfl (qa_ds1 hR) rfl ?_
  refine qa_bk_do (pc' := 133) rfl rfl ?_
  refine qa_bk_do (pc' := 134) rfl rfl ?_
  refine qa_bk_cs (qa_tX9_set (qa_ds6 hR) (Nat.le_of_ble_eq_true rfl) rfl) rfl rfl rfl rfl rfl rfl rfl ?_
  cases h
  exact qa_bk_re rfl rfl rfl
set_option maxRecDepth 100000 in
theorem qa_tX1_beginLoading {L : Nat} {R : Nat} (hR : qa_rg R) {σ : qa_T} {r : qa_T} (h : qa_fX1_beginLoading R σ = some r) : qa_Bk (qa_ds L) qa_mX1_beginLoading 0 (qa_ag 0 [.inl (R, 0)]) [] σ (.inl none) r := by
  unfold qa_fX1_beginLoading at h
  try dsimp only at h
  show qa_Bk (qa_ds L) qa_mX1_beginLoading 0 [(0, .inl (R, 0))] [] σ _ _
  refine qa_bk_do (pc' := 1) rfl rfl ?_
  refine qa_bk_gr rfl rfl (qa_ds0 hR) rfl ?_
  refine qa_bk_gi rfl rfl (qa_ds12 hR) rfl ?_
  refine qa_bk_do (pc' := 8) rfl rfl ?_
  rcases qa_ite h with ⟨hc1, h⟩ | ⟨hc1, h⟩
  · refine qa_bk_1t (a := 12) (b := 11) hc1 rfl rfl ?_
    refine qa_bk_do (pc' := 13) rfl rfl ?_
    obtain ⟨c2, hc3, h⟩ := Option.bind_eq_some_iff.mp h
    refine qa_bk_cv (qa_tX1_nextToLoad hR hc3) rfl rfl rfl rfl rfl rfl rfl (qa_ds0 hR) ?_
    refine qa_bk_do (pc' := 17) (lv' := [(1, _), (0, _)]) rfl rfl ?_
    refine qa_bk_do (pc' := 18) rfl rfl ?_
    refine qa_bk_do (pc' := 19) rfl rfl ?_
    rcases qa_ite h with ⟨hc4, h⟩ | ⟨hc4, h⟩
    · refine qa_bk_1t (a := 23) (b := 22) hc4 rfl rfl ?_
      refine qa_bk_do (pc' := 24) rfl rfl ?_
      refine qa_bk_gr rfl rfl (qa_ds0 hR) rfl ?_
      refine qa_bk_gr rfl rfl (qa_ds1 hR) rfl ?_
      refine qa_bk_do (pc' := 31) rfl rfl ?_
      refine qa_bk_cs (qa_tX9_at (qa_ds2 hR) (Nat.le_of_ble_eq_true rfl) rfl) rfl rfl rfl rfl rfl rfl rfl ?_
      refine qa_bk_do (pc' := 35) (lv' := [(2, _), (1, _), (0, _)]) rfl rfl ?_
      refine qa_bk_do (pc' := 36) rfl rfl ?_
      refine qa_bk_do (pc' := 37) rfl rfl ?_
      refine qa_bk_gr rfl rfl (qa_ds0 hR) rfl ?_
      refine qa_bk_gi rfl rfl (qa_ds14 hR) rfl ?_
      refine qa_bk_do (pc' := 44) rfl rfl ?_
      refine qa_bk_do (pc' := 45) rfl rfl ?_
      obtain ⟨c6, hc7, h⟩ := Option.bind_eq_some_iff.mp h
      refine qa_bk_cv (qa_tX1_burnDownTo hR hc7) rfl rfl rfl rfl rfl rfl rfl (qa_ds0 hR) ?_
      refine qa_bk_do (pc' := 49) rfl rfl ?_
      refine qa_bk_gr rfl rfl (qa_ds0 hR) rfl ?_
      refine qa_bk_gr rfl rfl (qa_ds1 hR) rfl ?_
      refine qa_bk_do (pc' := 56) rfl rfl ?_
      refine qa_bk_cs (qa_tX9_at (qa_ds6 hR) (Nat.le_of_ble_eq_true rfl) rfl) rfl rfl rfl rfl rfl rfl rfl ?_
      rcases qa_ite h with ⟨hc8, h⟩ | ⟨hc8, h⟩
      · refine qa_bk_1t (a := 75) (b := 62) hc8 rfl rfl ?_
        exact qa_bk_lw (qa_tX1_beginLoading_75 hR h) rfl rfl (And.intro rfl (And.intro rfl (And.intro rfl (trivial))))
      · refine qa_bk_1f (a := 75) (b := 62) hc8 rfl rfl ?_
        refine qa_bk_do (pc' := 63) rfl rfl ?_
        refine qa_bk_gr rfl rfl (qa_ds0 hR) rfl ?_
        refine qa_bk_do (pc' := 67) rfl rfl ?_
        refine qa_bk_gi rfl rfl (qa_ds15 hR) rfl ?_
        refine qa_bk_do (pc' := 71) rfl rfl ?_
        refine qa_bk_do (pc' := 72) rfl rfl ?_
        refine qa_bk_pf rfl rfl (qa_ds15 hR) rfl (qa_fiti _) rfl ?_
        exact qa_bk_lw (qa_tX1_beginLoading_75 hR h) rfl rfl (And.intro rfl (And.intro rfl (And.intro rfl (trivial))))
    · refine qa_bk_1f (a := 23) (b := 22) hc4 rfl rfl ?_
      cases h
      exact qa_bk_re rfl rfl rfl
  · refine qa_bk_1f (a := 12) (b := 11) hc1 rfl rfl ?_
    cases h
    exact qa_bk_re rfl rfl rfl
noncomputable def qa_fX1_passTick_87 (R : Nat) (x1 : Int32) (σ : qa_T) : Option (Int32 × qa_T) :=
    (qa_fX1_beginLoading R σ).bind fun c10 =>
    some (x1, c10)
noncomputable def qa_fX1_passTick_70 (R : Nat) (x1 : Int32) (σ : qa_T) : Option (Int32 × qa_T) :=
    if (qa_bi (qa_fX1_paceIsReached R σ)) = 0 then
      qa_fX1_passTick_87 R x1 σ
    else
      (qa_fX1_proceed R σ).bind fun c12 =>
      if (qa_bi c12.1) = 0 then
        qa_fX1_passTick_87 R x1 c12.2
      else
        let v15 : Int32 := x1 + Int32.ofInt 1
        qa_fX1_passTick_87 R v15 c12.2
noncomputable def qa_fX1_passTick_39 (R : Nat) (x1 : Int32) (σ : qa_T) : Option (Int32 × qa_T) :=
    (qa_fX6_coolEmbers R σ).bind fun c3 =>
    let σ5 := qa_fX7_fadeOnce R c3
    let σ6 := qa_fX7_countShown R σ5
    let c7 := qa_fX1_loadOnce R σ6
    if (qa_bi c7.1) = 0 then
      qa_fX1_passTick_70 R x1 c7.2
    else
      let v16 : Int32 := x1 + Int32.ofInt 1
      qa_fX1_passTick_70 R v16 c7.2
noncomputable def qa_fX1_passTick (R : Nat) (σ : qa_T) : Option (Int32 × qa_T) :=
    let σ1 := qa_wi σ (R, 15) 0 ((σ.1 (R, 15) 0) + (Int32.ofInt 1))
    if (σ1.1 (R, 11) 4) = (Int32.ofInt (-1)) then
      qa_fX1_passTick_39 R (Int32.ofInt 0) σ1
    else
      let σ17 := qa_wi σ1 (R, 15) 6 ((σ1.1 (R, 15) 6) + (Int32.ofInt 1))
      qa_fX1_passTick_39 R (Int32.ofInt 0) σ17
set_option maxRecDepth 100000 in
theorem qa_tX1_passTick_87 {L : Nat} {R : Nat} (hR : qa_rg R) {x1 : Int32} {σ : qa_T} {r : (Int32 × qa_T)} (h : qa_fX1_passTick_87 R x1 σ = some r) : qa_Bk (qa_ds L) qa_mX1_passTick 87 [(0, .inl (R, 0)), (1, .inr (.int x1))] [] σ (.inl (some (.inr (.int r.1)))) r.2 := by
  unfold qa_fX1_passTick_87 at h
  try dsimp only at h
  refine qa_bk_do (pc' := 88) rfl rfl ?_
  obtain ⟨c10, hc11, h⟩ := Option.bind_eq_some_iff.mp h
  refine qa_bk_cv (qa_tX1_beginLoading hR hc11) rfl rfl rfl rfl rfl rfl rfl (qa_ds0 hR) ?_
  refine qa_bk_do (pc' := 92) rfl rfl ?_
  cases h
  exact qa_bk_ri rfl rfl
set_option maxRecDepth 100000 in
theorem qa_tX1_passTick_70 {L : Nat} {R : Nat} (hR : qa_rg R) {x1 : Int32} {σ : qa_T} {r : (Int32 × qa_T)} (h : qa_fX1_passTick_70 R x1 σ = some r) : qa_Bk (qa_ds L) qa_mX1_passTick 70 [(0, .inl (R, 0)), (1, .inr (.int x1))] [] σ (.inl (some (.inr (.int r.1)))) r.2 := by
  unfold qa_fX1_passTick_70 at h
  try dsimp only at h
  refine qa_bk_do (pc' := 71) rfl rfl ?_
  refine qa_bk_cv (qa_tX1_paceIsReached hR rfl) rfl rfl rfl rfl rfl rfl rfl (qa_ds0 hR) ?_
  rcases qa_ite h with ⟨hc9, h⟩ | ⟨hc9, h⟩
  · refine qa_bk_1t (a := 87) (b := 77) hc9 rfl rfl ?_
    exact qa_bk_lw (qa_tX1_passTick_87 hR h) rfl rfl (And.intro rfl (And.intro rfl (trivial)))
  · refine qa_bk_1f (a := 87) (b := 77) hc9 rfl rfl ?_
    refine qa_bk_do (pc' := 78) rfl rfl ?_
    obtain ⟨c12, hc13, h⟩ := Option.bind_eq_some_iff.mp h
    refine qa_bk_cv (qa_tX1_proceed hR hc13) rfl rfl rfl rfl rfl rfl rfl (qa_ds0 hR) ?_
    rcases qa_ite h with ⟨hc14, h⟩ | ⟨hc14, h⟩
    · refine qa_bk_1t (a := 87) (b := 84) hc14 rfl rfl ?_
      exact qa_bk_lw (qa_tX1_passTick_87 hR h) rfl rfl (And.intro rfl (And.intro rfl (trivial)))
    · refine qa_bk_1f (a := 87) (b := 84) hc14 rfl rfl ?_
      refine qa_bk_do (pc' := 87) (lv' := [(1, _), (0, _)]) rfl rfl ?_
      exact qa_bk_lw (qa_tX1_passTick_87 hR h) rfl rfl (And.intro rfl (And.intro rfl (trivial)))
set_option maxRecDepth 100000 in
theorem qa_tX1_passTick_39 {L : Nat} {R : Nat} (hR : qa_rg R) {x1 : Int32} {σ : qa_T} {r : (Int32 × qa_T)} (h : qa_fX1_passTick_39 R x1 σ = some r) : qa_Bk (qa_ds L) qa_mX1_passTick 39 [(0, .inl (R, 0)), (1, .inr (.int x1))] [] σ (.inl (some (.inr (.int r.1)))) r.2 := by
  unfold qa_fX1_passTick_39 at h
  try dsimp only at h
  refine qa_bk_do (pc' := 40) rfl rfl ?_
  refine qa_bk_gr rfl rfl (qa_ds0 hR) rfl ?_
  obtain ⟨c3, hc4, h⟩ := Option.bind_eq_some_iff.mp h
  refine qa_bk_cv (qa_tX6_coolEmbers hR hc4) rfl rfl rfl rfl rfl rfl rfl (qa_ds1 hR) ?_
  refine qa_bk_do (pc' := 47) rfl rfl ?_
  refine qa_bk_gr rfl rfl (qa_ds0 hR) rfl ?_
  refine qa_bk_cv (qa_tX7_fadeOnce hR rfl) rfl rfl rfl rfl rfl rfl rfl (qa_ds11 hR) ?_
  refine qa_bk_do (pc' := 54) rfl rfl ?_
  refine qa_bk_gr rfl rfl (qa_ds0 hR) rfl ?_
  refine qa_bk_cv (qa_tX7_countShown hR rfl) rfl rfl rfl rfl rfl rfl rfl (qa_ds11 hR) ?_
  refine qa_bk_do (pc' := 61) rfl rfl ?_
  refine qa_bk_cv (qa_tX1_loadOnce hR rfl) rfl rfl rfl rfl rfl rfl rfl (qa_ds0 hR) ?_
  rcases qa_ite h with ⟨hc8, h⟩ | ⟨hc8, h⟩
  · refine qa_bk_1t (a := 70) (b := 67) hc8 rfl rfl ?_
    exact qa_bk_lw (qa_tX1_passTick_70 hR h) rfl rfl (And.intro rfl (And.intro rfl (trivial)))
  · refine qa_bk_1f (a := 70) (b := 67) hc8 rfl rfl ?_
    refine qa_bk_do (pc' := 70) (lv' := [(1, _), (0, _)]) rfl rfl ?_
    exact qa_bk_lw (qa_tX1_passTick_70 hR h) rfl rfl (And.intro rfl (And.intro rfl (trivial)))
set_option maxRecDepth 100000 in
theorem qa_tX1_passTick {L : Nat} {R : Nat} (hR : qa_rg R) {σ : qa_T} {r : (Int32 × qa_T)} (h : qa_fX1_passTick R σ = some r) : qa_Bk (qa_ds L) qa_mX1_passTick 0 (qa_ag 0 [.inl (R, 0)]) [] σ (.inl (some (.inr (.int r.1)))) r.2 := by
  unfold qa_fX1_passTick at h
  try dsimp only at h
  show qa_Bk (qa_ds L) qa_mX1_passTick 0 [(0, .inl (R, 0))] [] σ _ _
  refine qa_bk_do (pc' := 1) rfl rfl ?_
  refine qa_bk_do (pc' := 2) (lv' := [(1, _), (0, _)]) rfl rfl ?_
  refine qa_bk_do (pc' := 3) rfl rfl ?_
  refine qa_bk_gr rfl rfl (qa_ds0 hR) rfl ?_
  refine qa_bk_do (pc' := 7) rfl rfl ?_
  refine qa_bk_gi rfl rfl (qa_ds15 hR) rfl ?_
  refine qa_bk_do (pc' := 11) rfl rfl ?_
  refine qa_bk_do (pc' := 12) rfl rfl ?_
  refine qa_bk_pf rfl rfl (qa_ds15 hR) rfl (qa_fiti _) rfl ?_
  refine qa_bk_do (pc' := 16) rfl rfl ?_
  refine qa_bk_gr rfl rfl (qa_ds0 hR) rfl ?_
  refine qa_bk_gi rfl rfl (qa_ds11 hR) rfl ?_
  refine qa_bk_do (pc' := 23) rfl rfl ?_
  rcases qa_ite h with ⟨hc2, h⟩ | ⟨hc2, h⟩
  · refine qa_bk_1t (a := 39) (b := 26) hc2 rfl rfl ?_
    exact qa_bk_lw (qa_tX1_passTick_39 hR h) rfl rfl (And.intro rfl (And.intro rfl (trivial)))
  · refine qa_bk_1f (a := 39) (b := 26) hc2 rfl rfl ?_
    refine qa_bk_do (pc' := 27) rfl rfl ?_
    refine qa_bk_gr rfl rfl (qa_ds0 hR) rfl ?_
    refine qa_bk_do (pc' := 31) rfl rfl ?_
    refine qa_bk_gi rfl rfl (qa_ds15 hR) rfl ?_
    refine qa_bk_do (pc' := 35) rfl rfl ?_
    refine qa_bk_do (pc' := 36) rfl rfl ?_
    refine qa_bk_pf rfl rfl (qa_ds15 hR) rfl (qa_fiti _) rfl ?_
    exact qa_bk_lw (qa_tX1_passTick_39 hR h) rfl rfl (And.intro rfl (And.intro rfl (trivial)))
noncomputable def qa_fX1_passTicks_4 (R : Nat) (a1 : Int32) : Nat → Int32 → Int32 → qa_T → Option (Int32 × qa_T)
  | 0, _, _, _ => none
  | n + 1, x2, x3, σ =>
    if a1 ≤ x3 then
      some (x2, σ)
    else
      (qa_fX1_passTick R σ).bind fun c2 =>
      let v4 : Int32 := (x2 + c2.1)
      let v5 : Int32 := x3 + Int32.ofInt 1
      qa_fX1_passTicks_4 R a1 n v4 v5 c2.2
noncomputable def qa_fX1_passTicks (R : Nat) (a1 : Int32) (σ : qa_T) : Option (Int32 × qa_T) :=
    qa_fX1_passTicks_4 R a1 qa_fu (Int32.ofInt 0) (Int32.ofInt 0) σ
set_option maxRecDepth 100000 in
theorem qa_tX1_passTicks_4 {L : Nat} {R : Nat} {a1 : Int32} (hR : qa_rg R) : ∀ (n : Nat) (x2 : Int32) (x3 : Int32) (σ : qa_T) (r : (Int32 × qa_T)), qa_fX1_passTicks_4 R a1 n x2 x3 σ = some r → qa_Bk (qa_ds L) qa_mX1_passTicks 4 [(0, .inl (R, 0)), (1, .inr (.int a1)), (2, .inr (.int x2)), (3, .inr (.int x3))] [] σ (.inl (some (.inr (.int r.1)))) r.2 := by
  intro n
  induction n with
  | zero => intro x2 x3 σ r h; cases h
  | succ n ih =>
    intro x2 x3 σ r h
    unfold qa_fX1_passTicks_4 at h
    try dsimp only at h
    refine qa_bk_do (pc' := 5) rfl rfl ?_
    refine qa_bk_do (pc' := 6) rfl rfl ?_
    rcases qa_ite h with ⟨hc1, h⟩ | ⟨hc1, h⟩
    · refine qa_bk_1t (a := 22) (b := 9) hc1 rfl rfl ?_
      refine qa_bk_do (pc' := 23) rfl rfl ?_
      cases h
      exact qa_bk_ri rfl rfl
    · refine qa_bk_1f (a := 22) (b := 9) hc1 rfl rfl ?_
      refine qa_bk_do (pc' := 10) rfl rfl ?_
      refine qa_bk_do (pc' := 11) rfl rfl ?_
      obtain ⟨c2, hc3, h⟩ := Option.bind_eq_some_iff.mp h
      refine qa_bk_cv (qa_tX1_passTick hR hc3) rfl rfl rfl rfl rfl rfl rfl (qa_ds0 hR) ?_
      refine qa_bk_do (pc' := 15) rfl rfl ?_
      refine qa_bk_do (pc' := 16) (lv' := [(2, _), (0, _), (1, _), (3, _)]) rfl rfl ?_
      refine qa_bk_do (pc' := 19) (lv' := [(3, _), (2, _), (0, _), (1, _)]) rfl rfl ?_
      refine qa_bk_do (pc' := 4) rfl rfl ?_
      exact qa_bk_lw (ih _ _ _ _ h) rfl rfl (And.intro rfl (And.intro rfl (And.intro rfl (And.intro rfl (trivial)))))
set_option maxRecDepth 100000 in
theorem qa_tX1_passTicks {L : Nat} {R : Nat} {a1 : Int32} (hR : qa_rg R) {σ : qa_T} {r : (Int32 × qa_T)} (h : qa_fX1_passTicks R a1 σ = some r) : qa_Bk (qa_ds L) qa_mX1_passTicks 0 (qa_ag 0 [.inl (R, 0), .inr (.int a1)]) [] σ (.inl (some (.inr (.int r.1)))) r.2 := by
  unfold qa_fX1_passTicks at h
  try dsimp only at h
  show qa_Bk (qa_ds L) qa_mX1_passTicks 0 [(0, .inl (R, 0)), (1, .inr (.int a1))] [] σ _ _
  refine qa_bk_do (pc' := 1) rfl rfl ?_
  refine qa_bk_do (pc' := 2) (lv' := [(2, _), (0, _), (1, _)]) rfl rfl ?_
  refine qa_bk_do (pc' := 3) rfl rfl ?_
  refine qa_bk_do (pc' := 4) (lv' := [(3, _), (2, _), (0, _), (1, _)]) rfl rfl ?_
  exact qa_bk_lw (qa_tX1_passTicks_4 hR _ _ _ _ _ h) rfl rfl (And.intro rfl (And.intro rfl (And.intro rfl (And.intro rfl (trivial)))))
noncomputable def qa_fX1_placeInLine_7 (R : Nat) (a1 : Int32) : Nat → Int32 → Int32 → qa_T → Option (Int32 × qa_T)
  | 0, _, _, _ => none
  | n + 1, x2, x3, σ =>
    if x2 ≤ x3 then
      some ((Int32.ofInt (-1)), σ)
    else
      if ¬ (qa_fX9_at (R, 17) 16 x3 σ) = a1 then
        let v5 : Int32 := x3 + Int32.ofInt 1
        qa_fX1_placeInLine_7 R a1 n x2 v5 σ
      else
        some (x3, σ)
noncomputable def qa_fX1_placeInLine (R : Nat) (a1 : Int32) (σ : qa_T) : Option (Int32 × qa_T) :=
    (qa_fX1_lineUp R σ).bind fun c1 =>
    qa_fX1_placeInLine_7 R a1 qa_fu c1.1 (Int32.ofInt 0) c1.2
set_option maxRecDepth 100000 in
theorem qa_tX1_placeInLine_7 {L : Nat} {R : Nat} {a1 : Int32} (hR : qa_rg R) : ∀ (n : Nat) (x2 : Int32) (x3 : Int32) (σ : qa_T) (r : (Int32 × qa_T)), qa_fX1_placeInLine_7 R a1 n x2 x3 σ = some r → qa_Bk (qa_ds L) qa_mX1_placeInLine 7 [(0, .inl (R, 0)), (1, .inr (.int a1)), (2, .inr (.int x2)), (3, .inr (.int x3))] [] σ (.inl (some (.inr (.int r.1)))) r.2 := by
  intro n
  induction n with
  | zero => intro x2 x3 σ r h; cases h
  | succ n ih =>
    intro x2 x3 σ r h
    unfold qa_fX1_placeInLine_7 at h
    try dsimp only at h
    refine qa_bk_do (pc' := 8) rfl rfl ?_
    refine qa_bk_do (pc' := 9) rfl rfl ?_
    rcases qa_ite h with ⟨hc3, h⟩ | ⟨hc3, h⟩
    · refine qa_bk_1t (a := 32) (b := 12) hc3 rfl rfl ?_
      refine qa_bk_do (pc' := 33) rfl rfl ?_
      cases h
      exact qa_bk_ri rfl rfl
    · refine qa_bk_1f (a := 32) (b := 12) hc3 rfl rfl ?_
      refine qa_bk_do (pc' := 13) rfl rfl ?_
      refine qa_bk_gr rfl rfl (qa_ds0 hR) rfl ?_
      refine qa_bk_do (pc' := 17) rfl rfl ?_
      refine qa_bk_cs (qa_tX9_at (qa_ds17 hR) (Nat.le_of_ble_eq_true rfl) rfl) rfl rfl rfl rfl rfl rfl rfl ?_
      refine qa_bk_do (pc' := 21) rfl rfl ?_
      rcases qa_ite h with ⟨hc4, h⟩ | ⟨hc4, h⟩
      · refine qa_bk_1t (a := 26) (b := 24) hc4 rfl rfl ?_
        refine qa_bk_do (pc' := 29) (lv' := [(3, _), (0, _), (1, _), (2, _)]) rfl rfl ?_
        refine qa_bk_do (pc' := 7) rfl rfl ?_
        exact qa_bk_lw (ih _ _ _ _ h) rfl rfl (And.intro rfl (And.intro rfl (And.intro rfl (And.intro rfl (trivial)))))
      · refine qa_bk_1f (a := 26) (b := 24) hc4 rfl rfl ?_
        refine qa_bk_do (pc' := 25) rfl rfl ?_
        cases h
        exact qa_bk_ri rfl rfl
set_option maxRecDepth 100000 in
theorem qa_tX1_placeInLine {L : Nat} {R : Nat} {a1 : Int32} (hR : qa_rg R) {σ : qa_T} {r : (Int32 × qa_T)} (h : qa_fX1_placeInLine R a1 σ = some r) : qa_Bk (qa_ds L) qa_mX1_placeInLine 0 (qa_ag 0 [.inl (R, 0), .inr (.int a1)]) [] σ (.inl (some (.inr (.int r.1)))) r.2 := by
  unfold qa_fX1_placeInLine at h
  try dsimp only at h
  show qa_Bk (qa_ds L) qa_mX1_placeInLine 0 [(0, .inl (R, 0)), (1, .inr (.int a1))] [] σ _ _
  refine qa_bk_do (pc' := 1) rfl rfl ?_
  obtain ⟨c1, hc2, h⟩ := Option.bind_eq_some_iff.mp h
  refine qa_bk_cv (qa_tX1_lineUp hR hc2) rfl rfl rfl rfl rfl rfl rfl (qa_ds0 hR) ?_
  refine qa_bk_do (pc' := 5) (lv' := [(2, _), (0, _), (1, _)]) rfl rfl ?_
  refine qa_bk_do (pc' := 6) rfl rfl ?_
  refine qa_bk_do (pc' := 7) (lv' := [(3, _), (2, _), (0, _), (1, _)]) rfl rfl ?_
  exact qa_bk_lw (qa_tX1_placeInLine_7 hR _ _ _ _ _ h) rfl rfl (And.intro rfl (And.intro rfl (And.intro rfl (And.intro rfl (trivial)))))
noncomputable def qa_fX1_burningsToLoad_22 (R : Nat) (a1 : Int32) (σ : qa_T) : Option (Int32 × qa_T) :=
    some ((Int32.ofInt 0), σ)
noncomputable def qa_fX1_burningsToLoad_98 (R : Nat) (a1 : Int32) (x4 : Int32) (σ : qa_T) : Option (Int32 × qa_T) :=
    some (x4, σ)
noncomputable def qa_fX1_burningsToLoad_60 (R : Nat) (a1 : Int32) : Nat → Int32 → Int32 → Int32 → qa_T → Option (Int32 × qa_T)
  | 0, _, _, _, _ => none
  | n + 1, x2, x3, x4, σ =>
    if x3 ≤ x4 then
      qa_fX1_burningsToLoad_98 R a1 x4 σ
    else
      if x2 ≤ 0 then
        qa_fX1_burningsToLoad_98 R a1 x4 σ
      else
        let v8 : Int32 := (x2 - (qa_fX9_at (R, 2) 16 (qa_fX9_at (R, 17) 16 x4 σ) σ))
        let v9 : Int32 := x4 + Int32.ofInt 1
        qa_fX1_burningsToLoad_60 R a1 n v8 x3 v9 σ
noncomputable def qa_fX1_burningsToLoad (R : Nat) (a1 : Int32) (σ : qa_T) : Option (Int32 × qa_T) :=
    if ¬ (qa_bi (qa_fX6_isReady R a1 σ)) = 0 then
      qa_fX1_burningsToLoad_22 R a1 σ
    else
      if ¬ a1 = (σ.1 (R, 12) 0) then
        let v3 : Int32 := (((σ.1 (R, 12) 4) + (qa_fX9_at (R, 2) 16 a1 σ)) - (σ.1 (R, 14) 0))
        (qa_fX1_lineUp R σ).bind fun c4 =>
        qa_fX1_burningsToLoad_60 R a1 qa_fu v3 c4.1 (Int32.ofInt 0) c4.2
      else
        qa_fX1_burningsToLoad_22 R a1 σ
set_option maxRecDepth 100000 in
theorem qa_tX1_burningsToLoad_22 {L : Nat} {R : Nat} {a1 : Int32} (hR : qa_rg R) {σ : qa_T} {r : (Int32 × qa_T)} (h : qa_fX1_burningsToLoad_22 R a1 σ = some r) : qa_Bk (qa_ds L) qa_mX1_burningsToLoad 22 [(0, .inl (R, 0)), (1, .inr (.int a1))] [] σ (.inl (some (.inr (.int r.1)))) r.2 := by
  unfold qa_fX1_burningsToLoad_22 at h
  try dsimp only at h
  refine qa_bk_do (pc' := 23) rfl rfl ?_
  cases h
  exact qa_bk_ri rfl rfl
set_option maxRecDepth 100000 in
theorem qa_tX1_burningsToLoad_98 {L : Nat} {R : Nat} {a1 : Int32} (hR : qa_rg R) {x4 : Int32} {σ : qa_T} {r : (Int32 × qa_T)} (h : qa_fX1_burningsToLoad_98 R a1 x4 σ = some r) : qa_Bk (qa_ds L) qa_mX1_burningsToLoad 98 [(0, .inl (R, 0)), (1, .inr (.int a1)), (4, .inr (.int x4))] [] σ (.inl (some (.inr (.int r.1)))) r.2 := by
  unfold qa_fX1_burningsToLoad_98 at h
  try dsimp only at h
  refine qa_bk_do (pc' := 100) rfl rfl ?_
  cases h
  exact qa_bk_ri rfl rfl
set_option maxRecDepth 100000 in
theorem qa_tX1_burningsToLoad_60 {L : Nat} {R : Nat} {a1 : Int32} (hR : qa_rg R) : ∀ (n : Nat) (x2 : Int32) (x3 : Int32) (x4 : Int32) (σ : qa_T) (r : (Int32 × qa_T)), qa_fX1_burningsToLoad_60 R a1 n x2 x3 x4 σ = some r → qa_Bk (qa_ds L) qa_mX1_burningsToLoad 60 [(0, .inl (R, 0)), (1, .inr (.int a1)), (2, .inr (.int x2)), (3, .inr (.int x3)), (4, .inr (.int x4))] [] σ (.inl (some (.inr (.int r.1)))) r.2 := by
  intro n
  induction n with
  | zero => intro x2 x3 x4 σ r h; cases h
  | succ n ih =>
    intro x2 x3 x4 σ r h
    unfold qa_fX1_burningsToLoad_60 at h
    try dsimp only at h
    refine qa_bk_do (pc' := 62) rfl rfl ?_
    refine qa_bk_do (pc' := 63) rfl rfl ?_
    rcases qa_ite h with ⟨hc6, h⟩ | ⟨hc6, h⟩
    · refine qa_bk_1t (a := 98) (b := 66) hc6 rfl rfl ?_
      exact qa_bk_lw (qa_tX1_burningsToLoad_98 hR h) rfl rfl (And.intro rfl (And.intro rfl (And.intro rfl (trivial))))
    · refine qa_bk_1f (a := 98) (b := 66) hc6 rfl rfl ?_
      refine qa_bk_do (pc' := 67) rfl rfl ?_
      rcases qa_ite h with ⟨hc7, h⟩ | ⟨hc7, h⟩
      · refine qa_bk_1t (a := 98) (b := 70) hc7 rfl rfl ?_
        exact qa_bk_lw (qa_tX1_burningsToLoad_98 hR h) rfl rfl (And.intro rfl (And.intro rfl (And.intro rfl (trivial))))
      · refine qa_bk_1f (a := 98) (b := 70) hc7 rfl rfl ?_
        refine qa_bk_do (pc' := 71) rfl rfl ?_
        refine qa_bk_do (pc' := 72) rfl rfl ?_
        refine qa_bk_gr rfl rfl (qa_ds0 hR) rfl ?_
        refine qa_bk_gr rfl rfl (qa_ds1 hR) rfl ?_
        refine qa_bk_do (pc' := 79) rfl rfl ?_
        refine qa_bk_gr rfl rfl (qa_ds0 hR) rfl ?_
        refine qa_bk_do (pc' := 84) rfl rfl ?_
        refine qa_bk_cs (qa_tX9_at (qa_ds17 hR) (Nat.le_of_ble_eq_true rfl) rfl) rfl rfl rfl rfl rfl rfl rfl ?_
        refine qa_bk_cs (qa_tX9_at (qa_ds2 hR) (Nat.le_of_ble_eq_true rfl) rfl) rfl rfl rfl rfl rfl rfl rfl ?_
        refine qa_bk_do (pc' := 91) rfl rfl ?_
        refine qa_bk_do (pc' := 92) (lv' := [(2, _), (0, _), (1, _), (3, _), (4, _)]) rfl rfl ?_
        refine qa_bk_do (pc' := 95) (lv' := [(4, _), (2, _), (0, _), (1, _), (3, _)]) rfl rfl ?_
        refine qa_bk_do (pc' := 60) rfl rfl ?_
        exact qa_bk_lw (ih _ _ _ _ _ h) rfl rfl (And.intro rfl (And.intro rfl (And.intro rfl (And.intro rfl (And.intro rfl (trivial))))))
set_option maxRecDepth 100000 in
theorem qa_tX1_burningsToLoad {L : Nat} {R : Nat} {a1 : Int32} (hR : qa_rg R) {σ : qa_T} {r : (Int32 × qa_T)} (h : qa_fX1_burningsToLoad R a1 σ = some r) : qa_Bk (qa_ds L) qa_mX1_burningsToLoad 0 (qa_ag 0 [.inl (R, 0), .inr (.int a1)]) [] σ (.inl (some (.inr (.int r.1)))) r.2 := by
  unfold qa_fX1_burningsToLoad at h
  try dsimp only at h
  show qa_Bk (qa_ds L) qa_mX1_burningsToLoad 0 [(0, .inl (R, 0)), (1, .inr (.int a1))] [] σ _ _
  refine qa_bk_do (pc' := 1) rfl rfl ?_
  refine qa_bk_gr rfl rfl (qa_ds0 hR) rfl ?_
  refine qa_bk_do (pc' := 5) rfl rfl ?_
  refine qa_bk_cv (qa_tX6_isReady hR rfl) rfl rfl rfl rfl rfl rfl rfl (qa_ds1 hR) ?_
  rcases qa_ite h with ⟨hc1, h⟩ | ⟨hc1, h⟩
  · refine qa_bk_1t (a := 22) (b := 11) hc1 rfl rfl ?_
    exact qa_bk_lw (qa_tX1_burningsToLoad_22 hR h) rfl rfl (And.intro rfl (And.intro rfl (trivial)))
  · refine qa_bk_1f (a := 22) (b := 11) hc1 rfl rfl ?_
    refine qa_bk_do (pc' := 12) rfl rfl ?_
    refine qa_bk_do (pc' := 13) rfl rfl ?_
    refine qa_bk_gr rfl rfl (qa_ds0 hR) rfl ?_
    refine qa_bk_gi rfl rfl (qa_ds12 hR) rfl ?_
    rcases qa_ite h with ⟨hc2, h⟩ | ⟨hc2, h⟩
    · refine qa_bk_1t (a := 24) (b := 22) hc2 rfl rfl ?_
      refine qa_bk_do (pc' := 25) rfl rfl ?_
      refine qa_bk_gr rfl rfl (qa_ds0 hR) rfl ?_
      refine qa_bk_gi rfl rfl (qa_ds12 hR) rfl ?_
      refine qa_bk_do (pc' := 32) rfl rfl ?_
      refine qa_bk_gr rfl rfl (qa_ds0 hR) rfl ?_
      refine qa_bk_gr rfl rfl (qa_ds1 hR) rfl ?_
      refine qa_bk_do (pc' := 39) rfl rfl ?_
      refine qa_bk_cs (qa_tX9_at (qa_ds2 hR) (Nat.le_of_ble_eq_true rfl) rfl) rfl rfl rfl rfl rfl rfl rfl ?_
      refine qa_bk_do (pc' := 43) rfl rfl ?_
      refine qa_bk_do (pc' := 44) rfl rfl ?_
      refine qa_bk_gr rfl rfl (qa_ds0 hR) rfl ?_
      refine qa_bk_gi rfl rfl (qa_ds14 hR) rfl ?_
      refine qa_bk_do (pc' := 51) rfl rfl ?_
      refine qa_bk_do (pc' := 52) (lv' := [(2, _), (0, _), (1, _)]) rfl rfl ?_
      refine qa_bk_do (pc' := 53) rfl rfl ?_
      obtain ⟨c4, hc5, h⟩ := Option.bind_eq_some_iff.mp h
      refine qa_bk_cv (qa_tX1_lineUp hR hc5) rfl rfl rfl rfl rfl rfl rfl (qa_ds0 hR) ?_
      refine qa_bk_do (pc' := 57) (lv' := [(3, _), (2, _), (0, _), (1, _)]) rfl rfl ?_
      refine qa_bk_do (pc' := 58) rfl rfl ?_
      refine qa_bk_do (pc' := 60) (lv' := [(4, _), (3, _), (2, _), (0, _), (1, _)]) rfl rfl ?_
      exact qa_bk_lw (qa_tX1_burningsToLoad_60 hR _ _ _ _ _ _ h) rfl rfl (And.intro rfl (And.intro rfl (And.intro rfl (And.intro rfl (And.intro rfl (trivial))))))
    · refine qa_bk_1f (a := 24) (b := 22) hc2 rfl rfl ?_
      exact qa_bk_lw (qa_tX1_burningsToLoad_22 hR h) rfl rfl (And.intro rfl (And.intro rfl (trivial)))
noncomputable def qa_fX1_sumOfCosts_51 (R : Nat) (k4 : Int32 → Int32 → qa_T → Option Int32) (x1 : Int32) (x2 : Int32) (σ : qa_T) : Option Int32 :=
    let v4 : Int32 := x2 + Int32.ofInt 1
    k4 x1 v4 σ
noncomputable def qa_fX1_sumOfCosts_37 (R : Nat) (k4 : Int32 → Int32 → qa_T → Option Int32) (x1 : Int32) (x2 : Int32) (σ : qa_T) : Option Int32 :=
    let v3 : Int32 := (x1 + (qa_fX9_at (R, 2) 16 x2 σ))
    qa_fX1_sumOfCosts_51 R k4 v3 x2 σ
noncomputable def qa_fX1_sumOfCosts_4 (R : Nat) : Nat → Int32 → Int32 → qa_T → Option Int32
  | 0, _, _, _ => none
  | n + 1, x1, x2, σ =>
    if (σ.1 (R, 1) 0) ≤ x2 then
      some x1
    else
      if ¬ (qa_bi (qa_fX6_isReady R x2 σ)) = 0 then
        qa_fX1_sumOfCosts_37 R (qa_fX1_sumOfCosts_4 R n) x1 x2 σ
      else
        if ¬ x2 = (σ.1 (R, 12) 0) then
          qa_fX1_sumOfCosts_51 R (qa_fX1_sumOfCosts_4 R n) x1 x2 σ
        else
          qa_fX1_sumOfCosts_37 R (qa_fX1_sumOfCosts_4 R n) x1 x2 σ
noncomputable def qa_fX1_sumOfCosts (R : Nat) (σ : qa_T) : Option Int32 :=
    qa_fX1_sumOfCosts_4 R qa_fu (Int32.ofInt 0) (Int32.ofInt 0) σ
set_option maxRecDepth 100000 in
theorem qa_tX1_sumOfCosts_51 {L : Nat} {R : Nat} (hR : qa_rg R) {k4 : Int32 → Int32 → qa_T → Option Int32} (K4 : ∀ (x1 : Int32) (x2 : Int32) (σ : qa_T) (r : Int32), k4 x1 x2 σ = some r → qa_Bk (qa_ds L) qa_mX1_sumOfCosts 4 [(0, .inl (R, 0)), (1, .inr (.int x1)), (2, .inr (.int x2))] [] σ (.inl (some (.inr (.int r)))) σ) {x1 : Int32} {x2 : Int32} {σ : qa_T} {r : Int32} (h : qa_fX1_sumOfCosts_51 R k4 x1 x2 σ = some r) : qa_Bk (qa_ds L) qa_mX1_sumOfCosts 51 [(0, .inl (R, 0)), (1, .inr (.int x1)), (2, .inr (.int x2))] [] σ (.inl (some (.inr (.int r)))) σ := by
  unfold qa_fX1_sumOfCosts_51 at h
  try dsimp only at h
  refine qa_bk_do (pc' := 54) (lv' := [(2, _), (0, _), (1, _)]) rfl rfl ?_
  refine qa_bk_do (pc' := 4) rfl rfl ?_
  exact qa_bk_lw (K4 _ _ _ _ h) rfl rfl (And.intro rfl (And.intro rfl (And.intro rfl (trivial))))
set_option maxRecDepth 100000 in
theorem qa_tX1_sumOfCosts_37 {L : Nat} {R : Nat} (hR : qa_rg R) {k4 : Int32 → Int32 → qa_T → Option Int32} (K4 : ∀ (x1 : Int32) (x2 : Int32) (σ : qa_T) (r : Int32), k4 x1 x2 σ = some r → qa_Bk (qa_ds L) qa_mX1_sumOfCosts 4 [(0, .inl (R, 0)), (1, .inr (.int x1)), (2, .inr (.int x2))] [] σ (.inl (some (.inr (.int r)))) σ) {x1 : Int32} {x2 : Int32} {σ : qa_T} {r : Int32} (h : qa_fX1_sumOfCosts_37 R k4 x1 x2 σ = some r) : qa_Bk (qa_ds L) qa_mX1_sumOfCosts 37 [(0, .inl (R, 0)), (1, .inr (.int x1)), (2, .inr (.int x2))] [] σ (.inl (some (.inr (.int r)))) σ := by
  unfold qa_fX1_sumOfCosts_37 at h
  try dsimp only at h
  refine qa_bk_do (pc' := 38) rfl rfl ?_
  refine qa_bk_do (pc' := 39) rfl rfl ?_
  refine qa_bk_gr rfl rfl (qa_ds0 hR) rfl ?_
  refine qa_bk_gr rfl rfl (qa_ds1 hR) rfl ?_
  refine qa_bk_do (pc' := 46) rfl rfl ?_
  refine qa_bk_cs (qa_tX9_at (qa_ds2 hR) (Nat.le_of_ble_eq_true rfl) rfl) rfl rfl rfl rfl rfl rfl rfl ?_
  refine qa_bk_do (pc' := 50) rfl rfl ?_
  refine qa_bk_do (pc' := 51) (lv' := [(1, _), (0, _), (2, _)]) rfl rfl ?_
  exact qa_bk_lw (qa_tX1_sumOfCosts_51 hR K4 h) rfl rfl (And.intro rfl (And.intro rfl (And.intro rfl (trivial))))
set_option maxRecDepth 100000 in
theorem qa_tX1_sumOfCosts_4 {L : Nat} {R : Nat} (hR : qa_rg R) : ∀ (n : Nat) (x1 : Int32) (x2 : Int32) (σ : qa_T) (r : Int32), qa_fX1_sumOfCosts_4 R n x1 x2 σ = some r → qa_Bk (qa_ds L) qa_mX1_sumOfCosts 4 [(0, .inl (R, 0)), (1, .inr (.int x1)), (2, .inr (.int x2))] [] σ (.inl (some (.inr (.int r)))) σ := by
  intro n
  induction n with
  | zero => intro x1 x2 σ r h; cases h
  | succ n ih =>
    intro x1 x2 σ r h
    unfold qa_fX1_sumOfCosts_4 at h
    try dsimp only at h
    refine qa_bk_do (pc' := 5) rfl rfl ?_
    refine qa_bk_do (pc' := 6) rfl rfl ?_
    refine qa_bk_gr rfl rfl (qa_ds0 hR) rfl ?_
    refine qa_bk_gi rfl rfl (qa_ds1 hR) rfl ?_
    rcases qa_ite h with ⟨hc1, h⟩ | ⟨hc1, h⟩
    · refine qa_bk_1t (a := 57) (b := 15) hc1 rfl rfl ?_
      refine qa_bk_do (pc' := 58) rfl rfl ?_
      cases h
      exact qa_bk_ri rfl rfl
    · refine qa_bk_1f (a := 57) (b := 15) hc1 rfl rfl ?_
      refine qa_bk_do (pc' := 16) rfl rfl ?_
      refine qa_bk_gr rfl rfl (qa_ds0 hR) rfl ?_
      refine qa_bk_do (pc' := 20) rfl rfl ?_
      refine qa_bk_cv (qa_tX6_isReady hR rfl) rfl rfl rfl rfl rfl rfl rfl (qa_ds1 hR) ?_
      rcases qa_ite h with ⟨hc2, h⟩ | ⟨hc2, h⟩
      · refine qa_bk_1t (a := 37) (b := 26) hc2 rfl rfl ?_
        exact qa_bk_lw (qa_tX1_sumOfCosts_37 hR ih h) rfl rfl (And.intro rfl (And.intro rfl (And.intro rfl (trivial))))
      · refine qa_bk_1f (a := 37) (b := 26) hc2 rfl rfl ?_
        refine qa_bk_do (pc' := 27) rfl rfl ?_
        refine qa_bk_do (pc' := 28) rfl rfl ?_
        refine qa_bk_gr rfl rfl (qa_ds0 hR) rfl ?_
        refine qa_bk_gi rfl rfl (qa_ds12 hR) rfl ?_
        rcases qa_ite h with ⟨hc5, h⟩ | ⟨hc5, h⟩
        · refine qa_bk_1t (a := 51) (b := 37) hc5 rfl rfl ?_
          exact qa_bk_lw (qa_tX1_sumOfCosts_51 hR ih h) rfl rfl (And.intro rfl (And.intro rfl (And.intro rfl (trivial))))
        · refine qa_bk_1f (a := 51) (b := 37) hc5 rfl rfl ?_
          exact qa_bk_lw (qa_tX1_sumOfCosts_37 hR ih h) rfl rfl (And.intro rfl (And.intro rfl (And.intro rfl (trivial))))
set_option maxRecDepth 100000 in
theorem qa_tX1_sumOfCosts {L : Nat} {R : Nat} (hR : qa_rg R) {σ : qa_T} {r : Int32} (h : qa_fX1_sumOfCosts R σ = some r) : qa_Bk (qa_ds L) qa_mX1_sumOfCosts 0 (qa_ag 0 [.inl (R, 0)]) [] σ (.inl (some (.inr (.int r)))) σ := by
  unfold qa_fX1_sumOfCosts at h
  try dsimp only at h
  show qa_Bk (qa_ds L) qa_mX1_sumOfCosts 0 [(0, .inl (R, 0))] [] σ _ _
  refine qa_bk_do (pc' := 1) rfl rfl ?_
  refine qa_bk_do (pc' := 2) (lv' := [(1, _), (0, _)]) rfl rfl ?_
  refine qa_bk_do (pc' := 3) rfl rfl ?_
  refine qa_bk_do (pc' := 4) (lv' := [(2, _), (1, _), (0, _)]) rfl rfl ?_
  exact qa_bk_lw (qa_tX1_sumOfCosts_4 hR _ _ _ _ _ h) rfl rfl (And.intro rfl (And.intro rfl (And.intro rfl (trivial))))
noncomputable def qa_fX1_sumOfWait (R : Nat) (σ : qa_T) : Int32 :=
    if ¬ (σ.1 (R, 12) 0) = (σ.1 (R, 11) 4) then
      ((σ.1 (R, 12) 1) + (qa_fX6_ticksToLoad R (σ.1 (R, 11) 4) (σ.1 (R, 12) 1) σ))
    else
      (σ.1 (R, 12) 1)
set_option maxRecDepth 100000 in
theorem qa_tX1_sumOfWait {L : Nat} {R : Nat} (hR : qa_rg R) {σ : qa_T} {r : Int32} (h : qa_fX1_sumOfWait R σ = r) : qa_Bk (qa_ds L) qa_mX1_sumOfWait 0 (qa_ag 0 [.inl (R, 0)]) [] σ (.inl (some (.inr (.int r)))) σ := by
  unfold qa_fX1_sumOfWait at h
  try dsimp only at h
  show qa_Bk (qa_ds L) qa_mX1_sumOfWait 0 [(0, .inl (R, 0))] [] σ _ _
  refine qa_bk_do (pc' := 1) rfl rfl ?_
  refine qa_bk_gr rfl rfl (qa_ds0 hR) rfl ?_
  refine qa_bk_gi rfl rfl (qa_ds12 hR) rfl ?_
  refine qa_bk_do (pc' := 8) rfl rfl ?_
  refine qa_bk_gr rfl rfl (qa_ds0 hR) rfl ?_
  refine qa_bk_gi rfl rfl (qa_ds11 hR) rfl ?_
  rcases qa_ite h with ⟨hc1, h⟩ | ⟨hc1, h⟩
  · refine qa_bk_1t (a := 25) (b := 17) hc1 rfl rfl ?_
    refine qa_bk_do (pc' := 26) rfl rfl ?_
    refine qa_bk_gr rfl rfl (qa_ds0 hR) rfl ?_
    refine qa_bk_gi rfl rfl (qa_ds12 hR) rfl ?_
    refine qa_bk_do (pc' := 33) rfl rfl ?_
    refine qa_bk_gr rfl rfl (qa_ds0 hR) rfl ?_
    refine qa_bk_do (pc' := 37) rfl rfl ?_
    refine qa_bk_gr rfl rfl (qa_ds0 hR) rfl ?_
    refine qa_bk_gi rfl rfl (qa_ds11 hR) rfl ?_
    refine qa_bk_do (pc' := 44) rfl rfl ?_
    refine qa_bk_gr rfl rfl (qa_ds0 hR) rfl ?_
    refine qa_bk_gi rfl rfl (qa_ds12 hR) rfl ?_
    refine qa_bk_cv (qa_tX6_ticksToLoad hR rfl) rfl rfl rfl rfl rfl rfl rfl (qa_ds1 hR) ?_
    refine qa_bk_do (pc' := 54) rfl rfl ?_
    subst h
    exact qa_bk_ri rfl rfl
  · refine qa_bk_1f (a := 25) (b := 17) hc1 rfl rfl ?_
    refine qa_bk_do (pc' := 18) rfl rfl ?_
    refine qa_bk_gr rfl rfl (qa_ds0 hR) rfl ?_
    refine qa_bk_gi rfl rfl (qa_ds12 hR) rfl ?_
    subst h
    exact qa_bk_ri rfl rfl
noncomputable def qa_fX2_queue (R : Nat) (a1 : Int32) (σ : qa_T) : qa_T :=
    let σ1 := qa_fX9_set (R, 13) 16 (σ.1 (R, 12) 2) a1 σ
    let σ2 := qa_wi σ1 (R, 12) 2 ((σ1.1 (R, 12) 2) + (Int32.ofInt 1))
    σ2
set_option maxRecDepth 100000 in
theorem qa_tX2_queue {L : Nat} {R : Nat} {a1 : Int32} (hR : qa_rg R) {σ : qa_T} {r : qa_T} (h : qa_fX2_queue R a1 σ = r) : qa_Bk (qa_ds L) qa_mX2_queue 0 (qa_ag 0 [.inl (R, 12), .inr (.int a1)]) [] σ (.inl none) r := by
  unfold qa_fX2_queue at h
  try dsimp only at h
  show qa_Bk (qa_ds L) qa_mX2_queue 0 [(0, .inl (R, 12)), (1, .inr (.int a1))] [] σ _ _
  refine qa_bk_do (pc' := 1) rfl rfl ?_
  refine qa_bk_gr rfl rfl (qa_ds12 hR) rfl ?_
  refine qa_bk_do (pc' := 5) rfl rfl ?_
  refine qa_bk_gi rfl rfl (qa_ds12 hR) rfl ?_
  refine qa_bk_do (pc' := 9) rfl rfl ?_
  refine qa_bk_cs (qa_tX9_set (qa_ds13 hR) (Nat.le_of_ble_eq_true rfl) rfl) rfl rfl rfl rfl rfl rfl rfl ?_
  refine qa_bk_do (pc' := 13) rfl rfl ?_
  refine qa_bk_do (pc' := 14) rfl rfl ?_
  refine qa_bk_gi rfl rfl (qa_ds12 hR) rfl ?_
  refine qa_bk_do (pc' := 18) rfl rfl ?_
  refine qa_bk_do (pc' := 19) rfl rfl ?_
  refine qa_bk_pf rfl rfl (qa_ds12 hR) rfl (qa_fiti _) rfl ?_
  subst h
  exact qa_bk_re rfl rfl rfl
noncomputable def qa_fX3_has_16 (R : Nat) (a1 : Int32) (σ : qa_T) : Bool :=
    false
noncomputable def qa_fX3_has (R : Nat) (a1 : Int32) (σ : qa_T) : Bool :=
    if a1 < 0 then
      qa_fX3_has_16 R a1 σ
    else
      if (σ.1 (R, 9) 0) ≤ a1 then
        qa_fX3_has_16 R a1 σ
      else
        true
set_option maxRecDepth 100000 in
theorem qa_tX3_has_16 {L : Nat} {R : Nat} {a1 : Int32} (hR : qa_rg R) {σ : qa_T} {r : Bool} (h : qa_fX3_has_16 R a1 σ = r) : qa_Bk (qa_ds L) qa_mX3_has 16 [(0, .inl (R, 9)), (1, .inr (.int a1))] [] σ (.inl (some (.inr (.int (qa_bi r))))) σ := by
  unfold qa_fX3_has_16 at h
  try dsimp only at h
  refine qa_bk_do (pc' := 17) rfl rfl ?_
  subst h
  exact qa_bk_rb rfl rfl rfl
set_option maxRecDepth 100000 in
theorem qa_tX3_has {L : Nat} {R : Nat} {a1 : Int32} (hR : qa_rg R) {σ : qa_T} {r : Bool} (h : qa_fX3_has R a1 σ = r) : qa_Bk (qa_ds L) qa_mX3_has 0 (qa_ag 0 [.inl (R, 9), .inr (.int a1)]) [] σ (.inl (some (.inr (.int (qa_bi r))))) σ := by
  unfold qa_fX3_has at h
  try dsimp only at h
  show qa_Bk (qa_ds L) qa_mX3_has 0 [(0, .inl (R, 9)), (1, .inr (.int a1))] [] σ _ _
  refine qa_bk_do (pc' := 1) rfl rfl ?_
  rcases qa_ite h with ⟨hc1, h⟩ | ⟨hc1, h⟩
  · refine qa_bk_1t (a := 16) (b := 4) hc1 rfl rfl ?_
    exact qa_bk_lw (qa_tX3_has_16 hR h) rfl rfl (And.intro rfl (And.intro rfl (trivial)))
  · refine qa_bk_1f (a := 16) (b := 4) hc1 rfl rfl ?_
    refine qa_bk_do (pc' := 5) rfl rfl ?_
    refine qa_bk_do (pc' := 6) rfl rfl ?_
    refine qa_bk_gi rfl rfl (qa_ds9 hR) rfl ?_
    rcases qa_ite h with ⟨hc2, h⟩ | ⟨hc2, h⟩
    · refine qa_bk_1t (a := 16) (b := 12) hc2 rfl rfl ?_
      exact qa_bk_lw (qa_tX3_has_16 hR h) rfl rfl (And.intro rfl (And.intro rfl (trivial)))
    · refine qa_bk_1f (a := 16) (b := 12) hc2 rfl rfl ?_
      refine qa_bk_do (pc' := 13) rfl rfl ?_
      refine qa_bk_do (pc' := 17) rfl rfl ?_
      subst h
      exact qa_bk_rb rfl rfl rfl
noncomputable def qa_fX3_put_71 (R : Nat) (a1 : Int32) (a2 : Int32) (σ : qa_T) : Option qa_T :=
    some σ
noncomputable def qa_fX3_put_5 (R : Nat) (a1 : Int32) (a2 : Int32) : Nat → Int32 → qa_T → Option qa_T
  | 0, _, _ => none
  | n + 1, x3, σ =>
    if x3 ≤ a1 then
      let σ3 := qa_fX9_set (R, 10) 24 a1 a2 σ
      let σ4 := qa_wi σ3 (R, 9) 0 ((σ3.1 (R, 9) 0) + (Int32.ofInt 1))
      if (σ4.1 (R, 9) 1) < a1 then
        qa_fX3_put_71 R a1 a2 σ4
      else
        let σ6 := qa_wi σ4 (R, 9) 1 ((σ4.1 (R, 9) 1) + (Int32.ofInt 1))
        qa_fX3_put_71 R a1 a2 σ6
    else
      let σ7 := qa_fX9_set (R, 10) 24 x3 (qa_fX9_at (R, 10) 24 (x3 - (Int32.ofInt 1)) σ) σ
      let v8 : Int32 := x3 + Int32.ofInt (-1)
      qa_fX3_put_5 R a1 a2 n v8 σ7
noncomputable def qa_fX3_put (R : Nat) (a1 : Int32) (a2 : Int32) (σ : qa_T) : Option qa_T :=
    let v1 : Int32 := (σ.1 (R, 9) 0)
    qa_fX3_put_5 R a1 a2 qa_fu v1 σ
set_option maxRecDepth 100000 in
theorem qa_tX3_put_71 {L : Nat} {R : Nat} {a1 : Int32} {a2 : Int32} (hR : qa_rg R) {σ : qa_T} {r : qa_T} (h : qa_fX3_put_71 R a1 a2 σ = some r) : qa_Bk (qa_ds L) qa_mX3_put 71 [(0, .inl (R, 9)), (1, .inr (.int a1)), (2, .inr (.int a2))] [] σ (.inl none) r := by
  unfold qa_fX3_put_71 at h
  try dsimp only at h
  cases h
  exact qa_bk_re rfl rfl rfl
set_option maxRecDepth 100000 in
theorem qa_tX3_put_5 {L : Nat} {R : Nat} {a1 : Int32} {a2 : Int32} (hR : qa_rg R) : ∀ (n : Nat) (x3 : Int32) (σ : qa_T) (r : qa_T), qa_fX3_put_5 R a1 a2 n x3 σ = some r → qa_Bk (qa_ds L) qa_mX3_put 5 [(0, .inl (R, 9)), (1, .inr (.int a1)), (2, .inr (.int a2)), (3, .inr (.int x3))] [] σ (.inl none) r := by
  intro n
  induction n with
  | zero => intro x3 σ r h; cases h
  | succ n ih =>
    intro x3 σ r h
    unfold qa_fX3_put_5 at h
    try dsimp only at h
    refine qa_bk_do (pc' := 6) rfl rfl ?_
    refine qa_bk_do (pc' := 7) rfl rfl ?_
    rcases qa_ite h with ⟨hc2, h⟩ | ⟨hc2, h⟩
    · refine qa_bk_1t (a := 34) (b := 10) hc2 rfl rfl ?_
      refine qa_bk_do (pc' := 35) rfl rfl ?_
      refine qa_bk_gr rfl rfl (qa_ds9 hR) rfl ?_
      refine qa_bk_do (pc' := 39) rfl rfl ?_
      refine qa_bk_do (pc' := 40) rfl rfl ?_
      refine qa_bk_cs (qa_tX9_set (qa_ds10 hR) (Nat.le_of_ble_eq_true rfl) rfl) rfl rfl rfl rfl rfl rfl rfl ?_
      refine qa_bk_do (pc' := 44) rfl rfl ?_
      refine qa_bk_do (pc' := 45) rfl rfl ?_
      refine qa_bk_gi rfl rfl (qa_ds9 hR) rfl ?_
      refine qa_bk_do (pc' := 49) rfl rfl ?_
      refine qa_bk_do (pc' := 50) rfl rfl ?_
      refine qa_bk_pf rfl rfl (qa_ds9 hR) rfl (qa_fiti _) rfl ?_
      refine qa_bk_do (pc' := 54) rfl rfl ?_
      refine qa_bk_do (pc' := 55) rfl rfl ?_
      refine qa_bk_gi rfl rfl (qa_ds9 hR) rfl ?_
      rcases qa_ite h with ⟨hc5, h⟩ | ⟨hc5, h⟩
      · refine qa_bk_1t (a := 71) (b := 61) hc5 rfl rfl ?_
        exact qa_bk_lw (qa_tX3_put_71 hR h) rfl rfl (And.intro rfl (And.intro rfl (And.intro rfl (trivial))))
      · refine qa_bk_1f (a := 71) (b := 61) hc5 rfl rfl ?_
        refine qa_bk_do (pc' := 62) rfl rfl ?_
        refine qa_bk_do (pc' := 63) rfl rfl ?_
        refine qa_bk_gi rfl rfl (qa_ds9 hR) rfl ?_
        refine qa_bk_do (pc' := 67) rfl rfl ?_
        refine qa_bk_do (pc' := 68) rfl rfl ?_
        refine qa_bk_pf rfl rfl (qa_ds9 hR) rfl (qa_fiti _) rfl ?_
        exact qa_bk_lw (qa_tX3_put_71 hR h) rfl rfl (And.intro rfl (And.intro rfl (And.intro rfl (trivial))))
    · refine qa_bk_1f (a := 34) (b := 10) hc2 rfl rfl ?_
      refine qa_bk_do (pc' := 11) rfl rfl ?_
      refine qa_bk_gr rfl rfl (qa_ds9 hR) rfl ?_
      refine qa_bk_do (pc' := 15) rfl rfl ?_
      refine qa_bk_do (pc' := 16) rfl rfl ?_
      refine qa_bk_gr rfl rfl (qa_ds9 hR) rfl ?_
      refine qa_bk_do (pc' := 20) rfl rfl ?_
      refine qa_bk_do (pc' := 21) rfl rfl ?_
      refine qa_bk_do (pc' := 22) rfl rfl ?_
      refine qa_bk_cs (qa_tX9_at (qa_ds10 hR) (Nat.le_of_ble_eq_true rfl) rfl) rfl rfl rfl rfl rfl rfl rfl ?_
      refine qa_bk_cs (qa_tX9_set (qa_ds10 hR) (Nat.le_of_ble_eq_true rfl) rfl) rfl rfl rfl rfl rfl rfl rfl ?_
      refine qa_bk_do (pc' := 31) (lv' := [(3, _), (0, _), (1, _), (2, _)]) rfl rfl ?_
      refine qa_bk_do (pc' := 5) rfl rfl ?_
      exact qa_bk_lw (ih _ _ _ h) rfl rfl (And.intro rfl (And.intro rfl (And.intro rfl (And.intro rfl (trivial)))))
set_option maxRecDepth 100000 in
theorem qa_tX3_put {L : Nat} {R : Nat} {a1 : Int32} {a2 : Int32} (hR : qa_rg R) {σ : qa_T} {r : qa_T} (h : qa_fX3_put R a1 a2 σ = some r) : qa_Bk (qa_ds L) qa_mX3_put 0 (qa_ag 0 [.inl (R, 9), .inr (.int a1), .inr (.int a2)]) [] σ (.inl none) r := by
  unfold qa_fX3_put at h
  try dsimp only at h
  show qa_Bk (qa_ds L) qa_mX3_put 0 [(0, .inl (R, 9)), (1, .inr (.int a1)), (2, .inr (.int a2))] [] σ _ _
  refine qa_bk_do (pc' := 1) rfl rfl ?_
  refine qa_bk_gi rfl rfl (qa_ds9 hR) rfl ?_
  refine qa_bk_do (pc' := 5) (lv' := [(3, _), (0, _), (1, _), (2, _)]) rfl rfl ?_
  exact qa_bk_lw (qa_tX3_put_5 hR _ _ _ _ h) rfl rfl (And.intro rfl (And.intro rfl (And.intro rfl (And.intro rfl (trivial)))))
