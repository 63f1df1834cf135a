/-! the law's methods as functions (written by wip/tools/gen_law.py) -/
noncomputable def qa_fL_addSlide (a2 : Int32) (a3 : Int32) (a4 : Int32) (σ : qa_T) : Option (Int32 × qa_T) :=
    (qa_fX9_addSlide a2 a3 a4 σ).bind fun c1 => match c1 with
      | (.inl r3, σ4) =>
        let σ6 := qa_wl σ4 (10, 29) ((Int32.ofInt 0)).toNatClampNeg ((r3).toInt64)
        some ((Int32.ofInt 0), σ6)
      | (.inr E5, σ4) =>
        if E5 = 342 then some (Int32.ofInt 1, σ4) else
        if E5 = 348 then some (Int32.ofInt 2, σ4) else
        none
set_option maxRecDepth 1000000 in
theorem qa_tL_addSlide {L : Nat} {a2 : Int32} {a3 : Int32} {a4 : Int32}  {σ : qa_T} {r : (Int32 × qa_T)} (h : qa_fL_addSlide a2 a3 a4 σ = some r) : qa_Bn L 1 qa_mL_addSlide 0 (qa_ag 0 [.inl (0, 1), .inr (.int a2), .inr (.int a3), .inr (.int a4), .inl (10, 29)]) [] σ (some (.inr (.int r.1))) r.2 := by
  unfold qa_fL_addSlide at h
  try dsimp only at h
  show qa_Bn L 1 qa_mL_addSlide 0 [(0, .inl (0, 1)), (1, .inr (.int a2)), (2, .inr (.int a3)), (3, .inr (.int a4)), (4, .inl (10, 29))] [] σ _ _
  refine qa_bn_do (pc' := 2) rfl rfl ?_
  refine qa_bn_do (pc' := 3) rfl rfl ?_
  refine qa_bn_do (pc' := 4) rfl rfl ?_
  refine qa_bn_do (pc' := 5) rfl rfl ?_
  refine qa_bn_do (pc' := 6) rfl rfl ?_
  refine qa_bn_do (pc' := 7) rfl rfl ?_
  obtain ⟨⟨c1, σ4⟩, hc2, h⟩ := Option.bind_eq_some_iff.mp h
  cases c1 with
  | inl r3 =>
    try dsimp only at h
    refine qa_bn_cv (qa_tX9_addSlide hc2) rfl rfl rfl rfl rfl rfl rfl qa_dx_0_1 ?_
    refine qa_bn_do (pc' := 11) rfl rfl ?_
    refine qa_bn_js rfl qa_dx_10_29 rfl ?_
    refine qa_bn_do (pc' := 23) rfl rfl ?_
    refine qa_bn_do (pc' := 24) rfl rfl ?_
    cases h
    exact qa_bn_ri rfl rfl
  | inr E5 =>
    try dsimp only at h
    rcases qa_ite h with ⟨hE7, h⟩ | ⟨_, h⟩
    · cases h
      subst hE7
      exact qa_bn_ct (qa_tX9_addSlide hc2) rfl rfl rfl rfl rfl rfl rfl qa_dx_0_1 rfl rfl rfl (fun _ _ => rfl)
    rcases qa_ite h with ⟨hE8, h⟩ | ⟨_, h⟩
    · cases h
      subst hE8
      exact qa_bn_ct (qa_tX9_addSlide hc2) rfl rfl rfl rfl rfl rfl rfl qa_dx_0_1 rfl rfl rfl (fun _ _ => rfl)
    cases h
noncomputable def qa_fL_insert (a2 : Int32) (a3 : Int32) (σ : qa_T) : Option (Int32 × qa_T) :=
    (qa_fX9_insert a2 a3 σ).bind fun c1 => match c1 with
      | (.inl r3, σ4) =>
        let σ6 := qa_wl σ4 (10, 29) ((Int32.ofInt 0)).toNatClampNeg ((r3).toInt64)
        some ((Int32.ofInt 0), σ6)
      | (.inr E5, σ4) =>
        if E5 = 345 then some (Int32.ofInt 1, σ4) else
        if E5 = 348 then some (Int32.ofInt 2, σ4) else
        none
set_option maxRecDepth 1000000 in
theorem qa_tL_insert {L : Nat} {a2 : Int32} {a3 : Int32}  {σ : qa_T} {r : (Int32 × qa_T)} (h : qa_fL_insert a2 a3 σ = some r) : qa_Bn L 1 qa_mL_insert 0 (qa_ag 0 [.inl (0, 1), .inr (.int a2), .inr (.int a3), .inl (10, 29)]) [] σ (some (.inr (.int r.1))) r.2 := by
  unfold qa_fL_insert at h
  try dsimp only at h
  show qa_Bn L 1 qa_mL_insert 0 [(0, .inl (0, 1)), (1, .inr (.int a2)), (2, .inr (.int a3)), (3, .inl (10, 29))] [] σ _ _
  refine qa_bn_do (pc' := 1) rfl rfl ?_
  refine qa_bn_do (pc' := 2) rfl rfl ?_
  refine qa_bn_do (pc' := 3) rfl rfl ?_
  refine qa_bn_do (pc' := 4) rfl rfl ?_
  refine qa_bn_do (pc' := 5) rfl rfl ?_
  obtain ⟨⟨c1, σ4⟩, hc2, h⟩ := Option.bind_eq_some_iff.mp h
  cases c1 with
  | inl r3 =>
    try dsimp only at h
    refine qa_bn_cv (qa_tX9_insert hc2) rfl rfl rfl rfl rfl rfl rfl qa_dx_0_1 ?_
    refine qa_bn_do (pc' := 9) rfl rfl ?_
    refine qa_bn_js rfl qa_dx_10_29 rfl ?_
    refine qa_bn_do (pc' := 21) rfl rfl ?_
    refine qa_bn_do (pc' := 22) rfl rfl ?_
    cases h
    exact qa_bn_ri rfl rfl
  | inr E5 =>
    try dsimp only at h
    rcases qa_ite h with ⟨hE7, h⟩ | ⟨_, h⟩
    · cases h
      subst hE7
      exact qa_bn_ct (qa_tX9_insert hc2) rfl rfl rfl rfl rfl rfl rfl qa_dx_0_1 rfl rfl rfl (fun _ _ => rfl)
    rcases qa_ite h with ⟨hE8, h⟩ | ⟨_, h⟩
    · cases h
      subst hE8
      exact qa_bn_ct (qa_tX9_insert hc2) rfl rfl rfl rfl rfl rfl rfl qa_dx_0_1 rfl rfl rfl (fun _ _ => rfl)
    cases h
noncomputable def qa_fL_takeOut (a2 : Int32) (σ : qa_T) : Option (Int32 × qa_T) :=
    (qa_fX9_takeOut a2 σ).bind fun c1 => match c1 with
      | (.inl r3, σ4) =>
        let σ6 := qa_wl σ4 (10, 29) ((Int32.ofInt 0)).toNatClampNeg ((r3).toInt64)
        some ((Int32.ofInt 0), σ6)
      | (.inr E5, σ4) =>
        if E5 = 345 then some (Int32.ofInt 1, σ4) else
        none
set_option maxRecDepth 1000000 in
theorem qa_tL_takeOut {L : Nat} {a2 : Int32}  {σ : qa_T} {r : (Int32 × qa_T)} (h : qa_fL_takeOut a2 σ = some r) : qa_Bn L 1 qa_mL_takeOut 0 (qa_ag 0 [.inl (0, 1), .inr (.int a2), .inl (10, 29)]) [] σ (some (.inr (.int r.1))) r.2 := by
  unfold qa_fL_takeOut at h
  try dsimp only at h
  show qa_Bn L 1 qa_mL_takeOut 0 [(0, .inl (0, 1)), (1, .inr (.int a2)), (2, .inl (10, 29))] [] σ _ _
  refine qa_bn_do (pc' := 1) rfl rfl ?_
  refine qa_bn_do (pc' := 2) rfl rfl ?_
  refine qa_bn_do (pc' := 3) rfl rfl ?_
  refine qa_bn_do (pc' := 4) rfl rfl ?_
  obtain ⟨⟨c1, σ4⟩, hc2, h⟩ := Option.bind_eq_some_iff.mp h
  cases c1 with
  | inl r3 =>
    try dsimp only at h
    refine qa_bn_cv (qa_tX9_takeOut hc2) rfl rfl rfl rfl rfl rfl rfl qa_dx_0_1 ?_
    refine qa_bn_do (pc' := 8) rfl rfl ?_
    refine qa_bn_js rfl qa_dx_10_29 rfl ?_
    refine qa_bn_do (pc' := 15) rfl rfl ?_
    refine qa_bn_do (pc' := 16) rfl rfl ?_
    cases h
    exact qa_bn_ri rfl rfl
  | inr E5 =>
    try dsimp only at h
    rcases qa_ite h with ⟨hE7, h⟩ | ⟨_, h⟩
    · cases h
      subst hE7
      exact qa_bn_ct (qa_tX9_takeOut hc2) rfl rfl rfl rfl rfl rfl rfl qa_dx_0_1 rfl rfl rfl (fun _ _ => rfl)
    cases h
noncomputable def qa_fL_goOn_14  (y0 : Int64) (σ : qa_T) : Option (Int32 × qa_T) :=
    let σ7 := qa_wl σ (10, 29) ((Int32.ofInt 0)).toNatClampNeg y0
    some ((Int32.ofInt 0), σ7)
noncomputable def qa_fL_goOn  (σ : qa_T) : Option (Int32 × qa_T) :=
    (qa_fX9_goOn σ).bind fun c1 => match c1 with
      | (.inl r3, σ4) =>
        if (qa_bi r3) = 0 then
          qa_fL_goOn_14  (Int64.ofNat ((0 : Fin 2) : Nat)) σ4
        else
          qa_fL_goOn_14  (Int64.ofNat ((1 : Fin 2) : Nat)) σ4
      | (.inr E5, σ4) =>
        if E5 = 348 then some (Int32.ofInt 1, σ4) else
        none
set_option maxRecDepth 1000000 in
theorem qa_tL_goOn_14 {L : Nat}   {y0 : Int64} {σ : qa_T} {r : (Int32 × qa_T)} (h : qa_fL_goOn_14  y0 σ = some r) : qa_Bn L 1 qa_mL_goOn 14 [(0, .inl (0, 1)), (1, .inl (10, 29))] [.inr (.long y0), .inr (.int (Int32.ofInt 0)), .inl (10, 29)] σ (some (.inr (.int r.1))) r.2 := by
  unfold qa_fL_goOn_14 at h
  try dsimp only at h
  refine qa_bn_js rfl qa_dx_10_29 rfl ?_
  refine qa_bn_do (pc' := 21) rfl rfl ?_
  refine qa_bn_do (pc' := 22) rfl rfl ?_
  cases h
  exact qa_bn_ri rfl rfl
set_option maxRecDepth 1000000 in
theorem qa_tL_goOn {L : Nat}   {σ : qa_T} {r : (Int32 × qa_T)} (h : qa_fL_goOn  σ = some r) : qa_Bn L 1 qa_mL_goOn 0 (qa_ag 0 [.inl (0, 1), .inl (10, 29)]) [] σ (some (.inr (.int r.1))) r.2 := by
  unfold qa_fL_goOn at h
  try dsimp only at h
  show qa_Bn L 1 qa_mL_goOn 0 [(0, .inl (0, 1)), (1, .inl (10, 29))] [] σ _ _
  refine qa_bn_do (pc' := 1) rfl rfl ?_
  refine qa_bn_do (pc' := 2) rfl rfl ?_
  refine qa_bn_do (pc' := 3) rfl rfl ?_
  obtain ⟨⟨c1, σ4⟩, hc2, h⟩ := Option.bind_eq_some_iff.mp h
  cases c1 with
  | inl r3 =>
    try dsimp only at h
    refine qa_bn_cv (qa_tX9_goOn hc2) rfl rfl rfl rfl rfl rfl rfl qa_dx_0_1 ?_
    rcases qa_ite h with ⟨hc6, h⟩ | ⟨hc6, h⟩
    · refine qa_bn_1t (a := 13) (b := 9) hc6 rfl rfl ?_
      refine qa_bn_do (pc' := 14) rfl rfl ?_
      exact qa_bn_lw (qa_tL_goOn_14  h) rfl rfl (And.intro rfl (And.intro rfl (trivial)))
    · refine qa_bn_1f (a := 13) (b := 9) hc6 rfl rfl ?_
      refine qa_bn_do (pc' := 10) rfl rfl ?_
      refine qa_bn_do (pc' := 14) rfl rfl ?_
      exact qa_bn_lw (qa_tL_goOn_14  h) rfl rfl (And.intro rfl (And.intro rfl (trivial)))
  | inr E5 =>
    try dsimp only at h
    rcases qa_ite h with ⟨hE8, h⟩ | ⟨_, h⟩
    · cases h
      subst hE8
      exact qa_bn_ct (qa_tX9_goOn hc2) rfl rfl rfl rfl rfl rfl rfl qa_dx_0_1 rfl rfl rfl (fun _ _ => rfl)
    cases h
noncomputable def qa_fL_ask (a2 : Int32) (σ : qa_T) : Option (Int32 × qa_T) :=
    (qa_fX9_ask a2 σ).bind fun c1 => match c1 with
      | (.inl r3, σ4) =>
        let σ6 := qa_wl σ4 (10, 29) ((Int32.ofInt 0)).toNatClampNeg ((r3).toInt64)
        some ((Int32.ofInt 0), σ6)
      | (.inr E5, σ4) =>
        if E5 = 345 then some (Int32.ofInt 1, σ4) else
        if E5 = 348 then some (Int32.ofInt 2, σ4) else
        none
set_option maxRecDepth 1000000 in
theorem qa_tL_ask {L : Nat} {a2 : Int32}  {σ : qa_T} {r : (Int32 × qa_T)} (h : qa_fL_ask a2 σ = some r) : qa_Bn L 1 qa_mL_ask 0 (qa_ag 0 [.inl (0, 1), .inr (.int a2), .inl (10, 29)]) [] σ (some (.inr (.int r.1))) r.2 := by
  unfold qa_fL_ask at h
  try dsimp only at h
  show qa_Bn L 1 qa_mL_ask 0 [(0, .inl (0, 1)), (1, .inr (.int a2)), (2, .inl (10, 29))] [] σ _ _
  refine qa_bn_do (pc' := 1) rfl rfl ?_
  refine qa_bn_do (pc' := 2) rfl rfl ?_
  refine qa_bn_do (pc' := 3) rfl rfl ?_
  refine qa_bn_do (pc' := 4) rfl rfl ?_
  obtain ⟨⟨c1, σ4⟩, hc2, h⟩ := Option.bind_eq_some_iff.mp h
  cases c1 with
  | inl r3 =>
    try dsimp only at h
    refine qa_bn_cv (qa_tX9_ask hc2) rfl rfl rfl rfl rfl rfl rfl qa_dx_0_1 ?_
    refine qa_bn_do (pc' := 8) rfl rfl ?_
    refine qa_bn_js rfl qa_dx_10_29 rfl ?_
    refine qa_bn_do (pc' := 18) rfl rfl ?_
    refine qa_bn_do (pc' := 19) rfl rfl ?_
    cases h
    exact qa_bn_ri rfl rfl
  | inr E5 =>
    try dsimp only at h
    rcases qa_ite h with ⟨hE7, h⟩ | ⟨_, h⟩
    · cases h
      subst hE7
      exact qa_bn_ct (qa_tX9_ask hc2) rfl rfl rfl rfl rfl rfl rfl qa_dx_0_1 rfl rfl rfl (fun _ _ => rfl)
    rcases qa_ite h with ⟨hE8, h⟩ | ⟨_, h⟩
    · cases h
      subst hE8
      exact qa_bn_ct (qa_tX9_ask hc2) rfl rfl rfl rfl rfl rfl rfl qa_dx_0_1 rfl rfl rfl (fun _ _ => rfl)
    cases h
noncomputable def qa_fL_burn (a2 : Int32) (σ : qa_T) : Option (Int32 × qa_T) :=
    (qa_fX9_burn a2 σ).bind fun c1 => match c1 with
      | (.inl r3, σ4) =>
        let σ6 := qa_wl σ4 (10, 29) ((Int32.ofInt 0)).toNatClampNeg ((r3).toInt64)
        some ((Int32.ofInt 0), σ6)
      | (.inr E5, σ4) =>
        if E5 = 345 then some (Int32.ofInt 1, σ4) else
        if E5 = 348 then some (Int32.ofInt 2, σ4) else
        none
set_option maxRecDepth 1000000 in
theorem qa_tL_burn {L : Nat} {a2 : Int32}  {σ : qa_T} {r : (Int32 × qa_T)} (h : qa_fL_burn a2 σ = some r) : qa_Bn L 1 qa_mL_burn 0 (qa_ag 0 [.inl (0, 1), .inr (.int a2), .inl (10, 29)]) [] σ (some (.inr (.int r.1))) r.2 := by
  unfold qa_fL_burn at h
  try dsimp only at h
  show qa_Bn L 1 qa_mL_burn 0 [(0, .inl (0, 1)), (1, .inr (.int a2)), (2, .inl (10, 29))] [] σ _ _
  refine qa_bn_do (pc' := 1) rfl rfl ?_
  refine qa_bn_do (pc' := 2) rfl rfl ?_
  refine qa_bn_do (pc' := 3) rfl rfl ?_
  refine qa_bn_do (pc' := 4) rfl rfl ?_
  obtain ⟨⟨c1, σ4⟩, hc2, h⟩ := Option.bind_eq_some_iff.mp h
  cases c1 with
  | inl r3 =>
    try dsimp only at h
    refine qa_bn_cv (qa_tX9_burn hc2) rfl rfl rfl rfl rfl rfl rfl qa_dx_0_1 ?_
    refine qa_bn_do (pc' := 8) rfl rfl ?_
    refine qa_bn_js rfl qa_dx_10_29 rfl ?_
    refine qa_bn_do (pc' := 18) rfl rfl ?_
    refine qa_bn_do (pc' := 19) rfl rfl ?_
    cases h
    exact qa_bn_ri rfl rfl
  | inr E5 =>
    try dsimp only at h
    rcases qa_ite h with ⟨hE7, h⟩ | ⟨_, h⟩
    · cases h
      subst hE7
      exact qa_bn_ct (qa_tX9_burn hc2) rfl rfl rfl rfl rfl rfl rfl qa_dx_0_1 rfl rfl rfl (fun _ _ => rfl)
    rcases qa_ite h with ⟨hE8, h⟩ | ⟨_, h⟩
    · cases h
      subst hE8
      exact qa_bn_ct (qa_tX9_burn hc2) rfl rfl rfl rfl rfl rfl rfl qa_dx_0_1 rfl rfl rfl (fun _ _ => rfl)
    cases h
noncomputable def qa_fL_tick (a2 : Int32) (σ : qa_T) : Option (Int32 × qa_T) :=
    (qa_fX9_tick a2 σ).bind fun c1 => match c1 with
      | (.inl r3, σ4) =>
        let σ6 := qa_wl σ4 (10, 29) ((Int32.ofInt 0)).toNatClampNeg ((r3).toInt64)
        some ((Int32.ofInt 0), σ6)
      | (.inr E5, σ4) =>
        if E5 = 342 then some (Int32.ofInt 1, σ4) else
        none
set_option maxRecDepth 1000000 in
theorem qa_tL_tick {L : Nat} {a2 : Int32}  {σ : qa_T} {r : (Int32 × qa_T)} (h : qa_fL_tick a2 σ = some r) : qa_Bn L 1 qa_mL_tick 0 (qa_ag 0 [.inl (0, 1), .inr (.int a2), .inl (10, 29)]) [] σ (some (.inr (.int r.1))) r.2 := by
  unfold qa_fL_tick at h
  try dsimp only at h
  show qa_Bn L 1 qa_mL_tick 0 [(0, .inl (0, 1)), (1, .inr (.int a2)), (2, .inl (10, 29))] [] σ _ _
  refine qa_bn_do (pc' := 1) rfl rfl ?_
  refine qa_bn_do (pc' := 2) rfl rfl ?_
  refine qa_bn_do (pc' := 3) rfl rfl ?_
  refine qa_bn_do (pc' := 4) rfl rfl ?_
  obtain ⟨⟨c1, σ4⟩, hc2, h⟩ := Option.bind_eq_some_iff.mp h
  cases c1 with
  | inl r3 =>
    try dsimp only at h
    refine qa_bn_cv (qa_tX9_tick hc2) rfl rfl rfl rfl rfl rfl rfl qa_dx_0_1 ?_
    refine qa_bn_do (pc' := 8) rfl rfl ?_
    refine qa_bn_js rfl qa_dx_10_29 rfl ?_
    refine qa_bn_do (pc' := 15) rfl rfl ?_
    refine qa_bn_do (pc' := 16) rfl rfl ?_
    cases h
    exact qa_bn_ri rfl rfl
  | inr E5 =>
    try dsimp only at h
    rcases qa_ite h with ⟨hE7, h⟩ | ⟨_, h⟩
    · cases h
      subst hE7
      exact qa_bn_ct (qa_tX9_tick hc2) rfl rfl rfl rfl rfl rfl rfl qa_dx_0_1 rfl rfl rfl (fun _ _ => rfl)
    cases h
noncomputable def qa_fL_changeMemory (a2 : Int32) (σ : qa_T) : Option (Int32 × qa_T) :=
    (qa_fX9_changeMemory a2 σ).bind fun c1 => match c1 with
      | (.inl r3, σ4) =>
        let σ6 := qa_wl σ4 (10, 29) ((Int32.ofInt 0)).toNatClampNeg ((r3).toInt64)
        some ((Int32.ofInt 0), σ6)
      | (.inr E5, σ4) =>
        if E5 = 342 then some (Int32.ofInt 1, σ4) else
        none
set_option maxRecDepth 1000000 in
theorem qa_tL_changeMemory {L : Nat} {a2 : Int32}  {σ : qa_T} {r : (Int32 × qa_T)} (h : qa_fL_changeMemory a2 σ = some r) : qa_Bn L 1 qa_mL_changeMemory 0 (qa_ag 0 [.inl (0, 1), .inr (.int a2), .inl (10, 29)]) [] σ (some (.inr (.int r.1))) r.2 := by
  unfold qa_fL_changeMemory at h
  try dsimp only at h
  show qa_Bn L 1 qa_mL_changeMemory 0 [(0, .inl (0, 1)), (1, .inr (.int a2)), (2, .inl (10, 29))] [] σ _ _
  refine qa_bn_do (pc' := 1) rfl rfl ?_
  refine qa_bn_do (pc' := 2) rfl rfl ?_
  refine qa_bn_do (pc' := 3) rfl rfl ?_
  refine qa_bn_do (pc' := 4) rfl rfl ?_
  obtain ⟨⟨c1, σ4⟩, hc2, h⟩ := Option.bind_eq_some_iff.mp h
  cases c1 with
  | inl r3 =>
    try dsimp only at h
    refine qa_bn_cv (qa_tX9_changeMemory hc2) rfl rfl rfl rfl rfl rfl rfl qa_dx_0_1 ?_
    refine qa_bn_do (pc' := 8) rfl rfl ?_
    refine qa_bn_js rfl qa_dx_10_29 rfl ?_
    refine qa_bn_do (pc' := 15) rfl rfl ?_
    refine qa_bn_do (pc' := 16) rfl rfl ?_
    cases h
    exact qa_bn_ri rfl rfl
  | inr E5 =>
    try dsimp only at h
    rcases qa_ite h with ⟨hE7, h⟩ | ⟨_, h⟩
    · cases h
      subst hE7
      exact qa_bn_ct (qa_tX9_changeMemory hc2) rfl rfl rfl rfl rfl rfl rfl qa_dx_0_1 rfl rfl rfl (fun _ _ => rfl)
    cases h
noncomputable def qa_fL_changeAhead (a2 : Int32) (σ : qa_T) : Option (Int32 × qa_T) :=
    (qa_fX9_changeAhead a2 σ).bind fun c1 => match c1 with
      | (.inl r3, σ4) =>
        let σ6 := qa_wl σ4 (10, 29) ((Int32.ofInt 0)).toNatClampNeg ((r3).toInt64)
        some ((Int32.ofInt 0), σ6)
      | (.inr E5, σ4) =>
        if E5 = 342 then some (Int32.ofInt 1, σ4) else
        none
set_option maxRecDepth 1000000 in
theorem qa_tL_changeAhead {L : Nat} {a2 : Int32}  {σ : qa_T} {r : (Int32 × qa_T)} (h : qa_fL_changeAhead a2 σ = some r) : qa_Bn L 1 qa_mL_changeAhead 0 (qa_ag 0 [.inl (0, 1), .inr (.int a2), .inl (10, 29)]) [] σ (some (.inr (.int r.1))) r.2 := by
  unfold qa_fL_changeAhead at h
  try dsimp only at h
  show qa_Bn L 1 qa_mL_changeAhead 0 [(0, .inl (0, 1)), (1, .inr (.int a2)), (2, .inl (10, 29))] [] σ _ _
  refine qa_bn_do (pc' := 1) rfl rfl ?_
  refine qa_bn_do (pc' := 2) rfl rfl ?_
  refine qa_bn_do (pc' := 3) rfl rfl ?_
  refine qa_bn_do (pc' := 4) rfl rfl ?_
  obtain ⟨⟨c1, σ4⟩, hc2, h⟩ := Option.bind_eq_some_iff.mp h
  cases c1 with
  | inl r3 =>
    try dsimp only at h
    refine qa_bn_cv (qa_tX9_changeAhead hc2) rfl rfl rfl rfl rfl rfl rfl qa_dx_0_1 ?_
    refine qa_bn_do (pc' := 8) rfl rfl ?_
    refine qa_bn_js rfl qa_dx_10_29 rfl ?_
    refine qa_bn_do (pc' := 15) rfl rfl ?_
    refine qa_bn_do (pc' := 16) rfl rfl ?_
    cases h
    exact qa_bn_ri rfl rfl
  | inr E5 =>
    try dsimp only at h
    rcases qa_ite h with ⟨hE7, h⟩ | ⟨_, h⟩
    · cases h
      subst hE7
      exact qa_bn_ct (qa_tX9_changeAhead hc2) rfl rfl rfl rfl rfl rfl rfl qa_dx_0_1 rfl rfl rfl (fun _ _ => rfl)
    cases h
noncomputable def qa_fL_changeOrder (a2 : Int32) (σ : qa_T) : Option (Int32 × qa_T) :=
    (qa_fX9_changeOrder a2 σ).bind fun c1 => match c1 with
      | (.inl r3, σ4) =>
        let σ6 := qa_wl σ4 (10, 29) ((Int32.ofInt 0)).toNatClampNeg ((r3).toInt64)
        some ((Int32.ofInt 0), σ6)
      | (.inr E5, σ4) =>
        if E5 = 342 then some (Int32.ofInt 1, σ4) else
        none
set_option maxRecDepth 1000000 in
theorem qa_tL_changeOrder {L : Nat} {a2 : Int32}  {σ : qa_T} {r : (Int32 × qa_T)} (h : qa_fL_changeOrder a2 σ = some r) : qa_Bn L 1 qa_mL_changeOrder 0 (qa_ag 0 [.inl (0, 1), .inr (.int a2), .inl (10, 29)]) [] σ (some (.inr (.int r.1))) r.2 := by
  unfold qa_fL_changeOrder at h
  try dsimp only at h
  show qa_Bn L 1 qa_mL_changeOrder 0 [(0, .inl (0, 1)), (1, .inr (.int a2)), (2, .inl (10, 29))] [] σ _ _
  refine qa_bn_do (pc' := 1) rfl rfl ?_
  refine qa_bn_do (pc' := 2) rfl rfl ?_
  refine qa_bn_do (pc' := 3) rfl rfl ?_
  refine qa_bn_do (pc' := 4) rfl rfl ?_
  obtain ⟨⟨c1, σ4⟩, hc2, h⟩ := Option.bind_eq_some_iff.mp h
  cases c1 with
  | inl r3 =>
    try dsimp only at h
    refine qa_bn_cv (qa_tX9_changeOrder hc2) rfl rfl rfl rfl rfl rfl rfl qa_dx_0_1 ?_
    refine qa_bn_do (pc' := 8) rfl rfl ?_
    refine qa_bn_js rfl qa_dx_10_29 rfl ?_
    refine qa_bn_do (pc' := 15) rfl rfl ?_
    refine qa_bn_do (pc' := 16) rfl rfl ?_
    cases h
    exact qa_bn_ri rfl rfl
  | inr E5 =>
    try dsimp only at h
    rcases qa_ite h with ⟨hE7, h⟩ | ⟨_, h⟩
    · cases h
      subst hE7
      exact qa_bn_ct (qa_tX9_changeOrder hc2) rfl rfl rfl rfl rfl rfl rfl qa_dx_0_1 rfl rfl rfl (fun _ _ => rfl)
    cases h
noncomputable def qa_fL_changeGlow (a2 : Int32) (σ : qa_T) : Option (Int32 × qa_T) :=
    (qa_fX9_changeGlow a2 σ).bind fun c1 => match c1 with
      | (.inl r3, σ4) =>
        let σ6 := qa_wl σ4 (10, 29) ((Int32.ofInt 0)).toNatClampNeg ((r3).toInt64)
        some ((Int32.ofInt 0), σ6)
      | (.inr E5, σ4) =>
        if E5 = 342 then some (Int32.ofInt 1, σ4) else
        none
set_option maxRecDepth 1000000 in
theorem qa_tL_changeGlow {L : Nat} {a2 : Int32}  {σ : qa_T} {r : (Int32 × qa_T)} (h : qa_fL_changeGlow a2 σ = some r) : qa_Bn L 1 qa_mL_changeGlow 0 (qa_ag 0 [.inl (0, 1), .inr (.int a2), .inl (10, 29)]) [] σ (some (.inr (.int r.1))) r.2 := by
  unfold qa_fL_changeGlow at h
  try dsimp only at h
  show qa_Bn L 1 qa_mL_changeGlow 0 [(0, .inl (0, 1)), (1, .inr (.int a2)), (2, .inl (10, 29))] [] σ _ _
  refine qa_bn_do (pc' := 1) rfl rfl ?_
  refine qa_bn_do (pc' := 2) rfl rfl ?_
  refine qa_bn_do (pc' := 3) rfl rfl ?_
  refine qa_bn_do (pc' := 4) rfl rfl ?_
  obtain ⟨⟨c1, σ4⟩, hc2, h⟩ := Option.bind_eq_some_iff.mp h
  cases c1 with
  | inl r3 =>
    try dsimp only at h
    refine qa_bn_cv (qa_tX9_changeGlow hc2) rfl rfl rfl rfl rfl rfl rfl qa_dx_0_1 ?_
    refine qa_bn_do (pc' := 8) rfl rfl ?_
    refine qa_bn_js rfl qa_dx_10_29 rfl ?_
    refine qa_bn_do (pc' := 15) rfl rfl ?_
    refine qa_bn_do (pc' := 16) rfl rfl ?_
    cases h
    exact qa_bn_ri rfl rfl
  | inr E5 =>
    try dsimp only at h
    rcases qa_ite h with ⟨hE7, h⟩ | ⟨_, h⟩
    · cases h
      subst hE7
      exact qa_bn_ct (qa_tX9_changeGlow hc2) rfl rfl rfl rfl rfl rfl rfl qa_dx_0_1 rfl rfl rfl (fun _ _ => rfl)
    cases h
noncomputable def qa_fL_changePace (a2 : Int32) (σ : qa_T) : Option (Int32 × qa_T) :=
    (qa_fX9_changePace a2 σ).bind fun c1 => match c1 with
      | (.inl r3, σ4) =>
        let σ6 := qa_wl σ4 (10, 29) ((Int32.ofInt 0)).toNatClampNeg ((r3).toInt64)
        some ((Int32.ofInt 0), σ6)
      | (.inr E5, σ4) =>
        if E5 = 342 then some (Int32.ofInt 1, σ4) else
        none
set_option maxRecDepth 1000000 in
theorem qa_tL_changePace {L : Nat} {a2 : Int32}  {σ : qa_T} {r : (Int32 × qa_T)} (h : qa_fL_changePace a2 σ = some r) : qa_Bn L 1 qa_mL_changePace 0 (qa_ag 0 [.inl (0, 1), .inr (.int a2), .inl (10, 29)]) [] σ (some (.inr (.int r.1))) r.2 := by
  unfold qa_fL_changePace at h
  try dsimp only at h
  show qa_Bn L 1 qa_mL_changePace 0 [(0, .inl (0, 1)), (1, .inr (.int a2)), (2, .inl (10, 29))] [] σ _ _
  refine qa_bn_do (pc' := 1) rfl rfl ?_
  refine qa_bn_do (pc' := 2) rfl rfl ?_
  refine qa_bn_do (pc' := 3) rfl rfl ?_
  refine qa_bn_do (pc' := 4) rfl rfl ?_
  obtain ⟨⟨c1, σ4⟩, hc2, h⟩ := Option.bind_eq_some_iff.mp h
  cases c1 with
  | inl r3 =>
    try dsimp only at h
    refine qa_bn_cv (qa_tX9_changePace hc2) rfl rfl rfl rfl rfl rfl rfl qa_dx_0_1 ?_
    refine qa_bn_do (pc' := 8) rfl rfl ?_
    refine qa_bn_js rfl qa_dx_10_29 rfl ?_
    refine qa_bn_do (pc' := 15) rfl rfl ?_
    refine qa_bn_do (pc' := 16) rfl rfl ?_
    cases h
    exact qa_bn_ri rfl rfl
  | inr E5 =>
    try dsimp only at h
    rcases qa_ite h with ⟨hE7, h⟩ | ⟨_, h⟩
    · cases h
      subst hE7
      exact qa_bn_ct (qa_tX9_changePace hc2) rfl rfl rfl rfl rfl rfl rfl qa_dx_0_1 rfl rfl rfl (fun _ _ => rfl)
    cases h
noncomputable def qa_fL_append (a2 : Int32) (σ : qa_T) : Option (Int32 × qa_T) :=
    (some (qa_fX9_append a2 σ)).bind fun c1 => match c1 with
      | (.inl r3, σ4) =>
        let σ6 := qa_wl σ4 (10, 29) ((Int32.ofInt 0)).toNatClampNeg ((r3).toInt64)
        some ((Int32.ofInt 0), σ6)
      | (.inr E5, σ4) =>
        if E5 = 342 then some (Int32.ofInt 1, σ4) else
        if E5 = 348 then some (Int32.ofInt 2, σ4) else
        none
set_option maxRecDepth 1000000 in
theorem qa_tL_append {L : Nat} {a2 : Int32}  {σ : qa_T} {r : (Int32 × qa_T)} (h : qa_fL_append a2 σ = some r) : qa_Bn L 1 qa_mL_append 0 (qa_ag 0 [.inl (0, 1), .inr (.int a2), .inl (10, 29)]) [] σ (some (.inr (.int r.1))) r.2 := by
  unfold qa_fL_append at h
  try dsimp only at h
  show qa_Bn L 1 qa_mL_append 0 [(0, .inl (0, 1)), (1, .inr (.int a2)), (2, .inl (10, 29))] [] σ _ _
  refine qa_bn_do (pc' := 1) rfl rfl ?_
  refine qa_bn_do (pc' := 2) rfl rfl ?_
  refine qa_bn_do (pc' := 3) rfl rfl ?_
  refine qa_bn_do (pc' := 4) rfl rfl ?_
  obtain ⟨⟨c1, σ4⟩, hc2, h⟩ := Option.bind_eq_some_iff.mp h
  have hc2 := Option.some.inj hc2
  cases c1 with
  | inl r3 =>
    try dsimp only at h
    refine qa_bn_cv (qa_tX9_append hc2) rfl rfl rfl rfl rfl rfl rfl qa_dx_0_1 ?_
    refine qa_bn_do (pc' := 8) rfl rfl ?_
    refine qa_bn_js rfl qa_dx_10_29 rfl ?_
    refine qa_bn_do (pc' := 18) rfl rfl ?_
    refine qa_bn_do (pc' := 19) rfl rfl ?_
    cases h
    exact qa_bn_ri rfl rfl
  | inr E5 =>
    try dsimp only at h
    rcases qa_ite h with ⟨hE7, h⟩ | ⟨_, h⟩
    · cases h
      subst hE7
      exact qa_bn_ct (qa_tX9_append hc2) rfl rfl rfl rfl rfl rfl rfl qa_dx_0_1 rfl rfl rfl (fun _ _ => rfl)
    rcases qa_ite h with ⟨hE8, h⟩ | ⟨_, h⟩
    · cases h
      subst hE8
      exact qa_bn_ct (qa_tX9_append hc2) rfl rfl rfl rfl rfl rfl rfl qa_dx_0_1 rfl rfl rfl (fun _ _ => rfl)
    cases h
noncomputable def qa_fL_follow  (σ : qa_T) : Option (Int32 × qa_T) :=
    (qa_fX9_follow σ).bind fun c1 => match c1 with
      | (.inl r3, σ4) =>
        let σ6 := qa_wl σ4 (10, 29) ((Int32.ofInt 0)).toNatClampNeg ((r3).toInt64)
        some ((Int32.ofInt 0), σ6)
      | (.inr E5, σ4) =>
        if E5 = 342 then some (Int32.ofInt 1, σ4) else
        if E5 = 348 then some (Int32.ofInt 2, σ4) else
        none
set_option maxRecDepth 1000000 in
theorem qa_tL_follow {L : Nat}   {σ : qa_T} {r : (Int32 × qa_T)} (h : qa_fL_follow  σ = some r) : qa_Bn L 1 qa_mL_follow 0 (qa_ag 0 [.inl (0, 1), .inl (10, 29)]) [] σ (some (.inr (.int r.1))) r.2 := by
  unfold qa_fL_follow at h
  try dsimp only at h
  show qa_Bn L 1 qa_mL_follow 0 [(0, .inl (0, 1)), (1, .inl (10, 29))] [] σ _ _
  refine qa_bn_do (pc' := 1) rfl rfl ?_
  refine qa_bn_do (pc' := 2) rfl rfl ?_
  refine qa_bn_do (pc' := 3) rfl rfl ?_
  obtain ⟨⟨c1, σ4⟩, hc2, h⟩ := Option.bind_eq_some_iff.mp h
  cases c1 with
  | inl r3 =>
    try dsimp only at h
    refine qa_bn_cv (qa_tX9_follow hc2) rfl rfl rfl rfl rfl rfl rfl qa_dx_0_1 ?_
    refine qa_bn_do (pc' := 7) rfl rfl ?_
    refine qa_bn_js rfl qa_dx_10_29 rfl ?_
    refine qa_bn_do (pc' := 17) rfl rfl ?_
    refine qa_bn_do (pc' := 18) rfl rfl ?_
    cases h
    exact qa_bn_ri rfl rfl
  | inr E5 =>
    try dsimp only at h
    rcases qa_ite h with ⟨hE7, h⟩ | ⟨_, h⟩
    · cases h
      subst hE7
      exact qa_bn_ct (qa_tX9_follow hc2) rfl rfl rfl rfl rfl rfl rfl qa_dx_0_1 rfl rfl rfl (fun _ _ => rfl)
    rcases qa_ite h with ⟨hE8, h⟩ | ⟨_, h⟩
    · cases h
      subst hE8
      exact qa_bn_ct (qa_tX9_follow hc2) rfl rfl rfl rfl rfl rfl rfl qa_dx_0_1 rfl rfl rfl (fun _ _ => rfl)
    cases h
noncomputable def qa_fL_keep (a2 : Int32) (σ : qa_T) : Option (Int32 × qa_T) :=
    (qa_fX9_keep a2 σ).bind fun c1 => match c1 with
      | (.inl _, σ4) =>
        some ((Int32.ofInt 0), σ4)
      | (.inr E5, σ4) =>
        if E5 = 342 then some (Int32.ofInt 1, σ4) else
        none
set_option maxRecDepth 1000000 in
theorem qa_tL_keep {L : Nat} {a2 : Int32}  {σ : qa_T} {r : (Int32 × qa_T)} (h : qa_fL_keep a2 σ = some r) : qa_Bn L 1 qa_mL_keep 0 (qa_ag 0 [.inl (0, 1), .inr (.int a2)]) [] σ (some (.inr (.int r.1))) r.2 := by
  unfold qa_fL_keep at h
  try dsimp only at h
  show qa_Bn L 1 qa_mL_keep 0 [(0, .inl (0, 1)), (1, .inr (.int a2))] [] σ _ _
  refine qa_bn_do (pc' := 1) rfl rfl ?_
  refine qa_bn_do (pc' := 2) rfl rfl ?_
  obtain ⟨⟨c1, σ4⟩, hc2, h⟩ := Option.bind_eq_some_iff.mp h
  cases c1 with
  | inl r3 =>
    try dsimp only at h
    refine qa_bn_cv (qa_tX9_keep hc2) rfl rfl rfl rfl rfl rfl rfl qa_dx_0_1 ?_
    refine qa_bn_do (pc' := 11) rfl rfl ?_
    refine qa_bn_do (pc' := 12) rfl rfl ?_
    cases h
    exact qa_bn_ri rfl rfl
  | inr E5 =>
    try dsimp only at h
    rcases qa_ite h with ⟨hE6, h⟩ | ⟨_, h⟩
    · cases h
      subst hE6
      exact qa_bn_ct (qa_tX9_keep hc2) rfl rfl rfl rfl rfl rfl rfl qa_dx_0_1 rfl rfl rfl (fun _ _ => rfl)
    cases h
noncomputable def qa_fL_goBack (a2 : Int32) (σ : qa_T) : Option (Int32 × qa_T) :=
    (qa_fX9_goBack a2 σ).bind fun c1 => match c1 with
      | (.inl _, σ4) =>
        some ((Int32.ofInt 0), σ4)
      | (.inr E5, σ4) =>
        if E5 = 342 then some (Int32.ofInt 1, σ4) else
        if E5 = 348 then some (Int32.ofInt 2, σ4) else
        none
set_option maxRecDepth 1000000 in
theorem qa_tL_goBack {L : Nat} {a2 : Int32}  {σ : qa_T} {r : (Int32 × qa_T)} (h : qa_fL_goBack a2 σ = some r) : qa_Bn L 1 qa_mL_goBack 0 (qa_ag 0 [.inl (0, 1), .inr (.int a2)]) [] σ (some (.inr (.int r.1))) r.2 := by
  unfold qa_fL_goBack at h
  try dsimp only at h
  show qa_Bn L 1 qa_mL_goBack 0 [(0, .inl (0, 1)), (1, .inr (.int a2))] [] σ _ _
  refine qa_bn_do (pc' := 1) rfl rfl ?_
  refine qa_bn_do (pc' := 2) rfl rfl ?_
  obtain ⟨⟨c1, σ4⟩, hc2, h⟩ := Option.bind_eq_some_iff.mp h
  cases c1 with
  | inl r3 =>
    try dsimp only at h
    refine qa_bn_cv (qa_tX9_goBack hc2) rfl rfl rfl rfl rfl rfl rfl qa_dx_0_1 ?_
    refine qa_bn_do (pc' := 14) rfl rfl ?_
    refine qa_bn_do (pc' := 15) rfl rfl ?_
    cases h
    exact qa_bn_ri rfl rfl
  | inr E5 =>
    try dsimp only at h
    rcases qa_ite h with ⟨hE6, h⟩ | ⟨_, h⟩
    · cases h
      subst hE6
      exact qa_bn_ct (qa_tX9_goBack hc2) rfl rfl rfl rfl rfl rfl rfl qa_dx_0_1 rfl rfl rfl (fun _ _ => rfl)
    rcases qa_ite h with ⟨hE7, h⟩ | ⟨_, h⟩
    · cases h
      subst hE7
      exact qa_bn_ct (qa_tX9_goBack hc2) rfl rfl rfl rfl rfl rfl rfl qa_dx_0_1 rfl rfl rfl (fun _ _ => rfl)
    cases h
noncomputable def qa_fL_undo  (σ : qa_T) : Option (Int32 × qa_T) :=
    (qa_fX9_undo σ).bind fun c1 => match c1 with
      | (.inl _, σ4) =>
        some ((Int32.ofInt 0), σ4)
      | (.inr E5, σ4) =>
        if E5 = 348 then some (Int32.ofInt 1, σ4) else
        none
set_option maxRecDepth 1000000 in
theorem qa_tL_undo {L : Nat}   {σ : qa_T} {r : (Int32 × qa_T)} (h : qa_fL_undo  σ = some r) : qa_Bn L 1 qa_mL_undo 0 (qa_ag 0 [.inl (0, 1)]) [] σ (some (.inr (.int r.1))) r.2 := by
  unfold qa_fL_undo at h
  try dsimp only at h
  show qa_Bn L 1 qa_mL_undo 0 [(0, .inl (0, 1))] [] σ _ _
  refine qa_bn_do (pc' := 1) rfl rfl ?_
  obtain ⟨⟨c1, σ4⟩, hc2, h⟩ := Option.bind_eq_some_iff.mp h
  cases c1 with
  | inl r3 =>
    try dsimp only at h
    refine qa_bn_cv (qa_tX9_undo hc2) rfl rfl rfl rfl rfl rfl rfl qa_dx_0_1 ?_
    refine qa_bn_do (pc' := 10) rfl rfl ?_
    refine qa_bn_do (pc' := 11) rfl rfl ?_
    cases h
    exact qa_bn_ri rfl rfl
  | inr E5 =>
    try dsimp only at h
    rcases qa_ite h with ⟨hE6, h⟩ | ⟨_, h⟩
    · cases h
      subst hE6
      exact qa_bn_ct (qa_tX9_undo hc2) rfl rfl rfl rfl rfl rfl rfl qa_dx_0_1 rfl rfl rfl (fun _ _ => rfl)
    cases h
noncomputable def qa_fL_costOf (a2 : Int32) (σ : qa_T) : Option (Int32 × qa_T) :=
    (some (qa_fX9_costOf a2 σ)).bind fun c1 => match c1 with
      | (.inl r3, σ4) =>
        let σ6 := qa_wl σ4 (10, 29) ((Int32.ofInt 0)).toNatClampNeg ((r3).toInt64)
        some ((Int32.ofInt 0), σ6)
      | (.inr E5, σ4) =>
        if E5 = 345 then some (Int32.ofInt 1, σ4) else
        none
set_option maxRecDepth 1000000 in
theorem qa_tL_costOf {L : Nat} {a2 : Int32}  {σ : qa_T} {r : (Int32 × qa_T)} (h : qa_fL_costOf a2 σ = some r) : qa_Bn L 1 qa_mL_costOf 0 (qa_ag 0 [.inl (0, 1), .inr (.int a2), .inl (10, 29)]) [] σ (some (.inr (.int r.1))) r.2 := by
  unfold qa_fL_costOf at h
  try dsimp only at h
  show qa_Bn L 1 qa_mL_costOf 0 [(0, .inl (0, 1)), (1, .inr (.int a2)), (2, .inl (10, 29))] [] σ _ _
  refine qa_bn_do (pc' := 1) rfl rfl ?_
  refine qa_bn_do (pc' := 2) rfl rfl ?_
  refine qa_bn_do (pc' := 3) rfl rfl ?_
  refine qa_bn_do (pc' := 4) rfl rfl ?_
  obtain ⟨⟨c1, σ4⟩, hc2, h⟩ := Option.bind_eq_some_iff.mp h
  have hc2 := Option.some.inj hc2
  cases c1 with
  | inl r3 =>
    try dsimp only at h
    refine qa_bn_cv (qa_tX9_costOf hc2) rfl rfl rfl rfl rfl rfl rfl qa_dx_0_1 ?_
    refine qa_bn_do (pc' := 8) rfl rfl ?_
    refine qa_bn_js rfl qa_dx_10_29 rfl ?_
    refine qa_bn_do (pc' := 15) rfl rfl ?_
    refine qa_bn_do (pc' := 16) rfl rfl ?_
    cases h
    exact qa_bn_ri rfl rfl
  | inr E5 =>
    try dsimp only at h
    rcases qa_ite h with ⟨hE7, h⟩ | ⟨_, h⟩
    · cases h
      subst hE7
      exact qa_bn_ct (qa_tX9_costOf hc2) rfl rfl rfl rfl rfl rfl rfl qa_dx_0_1 rfl rfl rfl (fun _ _ => rfl)
    cases h
noncomputable def qa_fL_loadOf (a2 : Int32) (σ : qa_T) : Option (Int32 × qa_T) :=
    (some (qa_fX9_loadOf a2 σ)).bind fun c1 => match c1 with
      | (.inl r3, σ4) =>
        let σ6 := qa_wl σ4 (10, 29) ((Int32.ofInt 0)).toNatClampNeg ((r3).toInt64)
        some ((Int32.ofInt 0), σ6)
      | (.inr E5, σ4) =>
        if E5 = 345 then some (Int32.ofInt 1, σ4) else
        none
set_option maxRecDepth 1000000 in
theorem qa_tL_loadOf {L : Nat} {a2 : Int32}  {σ : qa_T} {r : (Int32 × qa_T)} (h : qa_fL_loadOf a2 σ = some r) : qa_Bn L 1 qa_mL_loadOf 0 (qa_ag 0 [.inl (0, 1), .inr (.int a2), .inl (10, 29)]) [] σ (some (.inr (.int r.1))) r.2 := by
  unfold qa_fL_loadOf at h
  try dsimp only at h
  show qa_Bn L 1 qa_mL_loadOf 0 [(0, .inl (0, 1)), (1, .inr (.int a2)), (2, .inl (10, 29))] [] σ _ _
  refine qa_bn_do (pc' := 1) rfl rfl ?_
  refine qa_bn_do (pc' := 2) rfl rfl ?_
  refine qa_bn_do (pc' := 3) rfl rfl ?_
  refine qa_bn_do (pc' := 4) rfl rfl ?_
  obtain ⟨⟨c1, σ4⟩, hc2, h⟩ := Option.bind_eq_some_iff.mp h
  have hc2 := Option.some.inj hc2
  cases c1 with
  | inl r3 =>
    try dsimp only at h
    refine qa_bn_cv (qa_tX9_loadOf hc2) rfl rfl rfl rfl rfl rfl rfl qa_dx_0_1 ?_
    refine qa_bn_do (pc' := 8) rfl rfl ?_
    refine qa_bn_js rfl qa_dx_10_29 rfl ?_
    refine qa_bn_do (pc' := 15) rfl rfl ?_
    refine qa_bn_do (pc' := 16) rfl rfl ?_
    cases h
    exact qa_bn_ri rfl rfl
  | inr E5 =>
    try dsimp only at h
    rcases qa_ite h with ⟨hE7, h⟩ | ⟨_, h⟩
    · cases h
      subst hE7
      exact qa_bn_ct (qa_tX9_loadOf hc2) rfl rfl rfl rfl rfl rfl rfl qa_dx_0_1 rfl rfl rfl (fun _ _ => rfl)
    cases h
noncomputable def qa_fL_fadeOf (a2 : Int32) (σ : qa_T) : Option (Int32 × qa_T) :=
    (some (qa_fX9_fadeOf a2 σ)).bind fun c1 => match c1 with
      | (.inl r3, σ4) =>
        let σ6 := qa_wl σ4 (10, 29) ((Int32.ofInt 0)).toNatClampNeg ((r3).toInt64)
        some ((Int32.ofInt 0), σ6)
      | (.inr E5, σ4) =>
        if E5 = 345 then some (Int32.ofInt 1, σ4) else
        none
set_option maxRecDepth 1000000 in
theorem qa_tL_fadeOf {L : Nat} {a2 : Int32}  {σ : qa_T} {r : (Int32 × qa_T)} (h : qa_fL_fadeOf a2 σ = some r) : qa_Bn L 1 qa_mL_fadeOf 0 (qa_ag 0 [.inl (0, 1), .inr (.int a2), .inl (10, 29)]) [] σ (some (.inr (.int r.1))) r.2 := by
  unfold qa_fL_fadeOf at h
  try dsimp only at h
  show qa_Bn L 1 qa_mL_fadeOf 0 [(0, .inl (0, 1)), (1, .inr (.int a2)), (2, .inl (10, 29))] [] σ _ _
  refine qa_bn_do (pc' := 1) rfl rfl ?_
  refine qa_bn_do (pc' := 2) rfl rfl ?_
  refine qa_bn_do (pc' := 3) rfl rfl ?_
  refine qa_bn_do (pc' := 4) rfl rfl ?_
  obtain ⟨⟨c1, σ4⟩, hc2, h⟩ := Option.bind_eq_some_iff.mp h
  have hc2 := Option.some.inj hc2
  cases c1 with
  | inl r3 =>
    try dsimp only at h
    refine qa_bn_cv (qa_tX9_fadeOf hc2) rfl rfl rfl rfl rfl rfl rfl qa_dx_0_1 ?_
    refine qa_bn_do (pc' := 8) rfl rfl ?_
    refine qa_bn_js rfl qa_dx_10_29 rfl ?_
    refine qa_bn_do (pc' := 15) rfl rfl ?_
    refine qa_bn_do (pc' := 16) rfl rfl ?_
    cases h
    exact qa_bn_ri rfl rfl
  | inr E5 =>
    try dsimp only at h
    rcases qa_ite h with ⟨hE7, h⟩ | ⟨_, h⟩
    · cases h
      subst hE7
      exact qa_bn_ct (qa_tX9_fadeOf hc2) rfl rfl rfl rfl rfl rfl rfl qa_dx_0_1 rfl rfl rfl (fun _ _ => rfl)
    cases h
noncomputable def qa_fL_isLoaded_15 (a2 : Int32) (y0 : Int64) (σ : qa_T) : Option (Int32 × qa_T) :=
    let σ7 := qa_wl σ (10, 29) ((Int32.ofInt 0)).toNatClampNeg y0
    some ((Int32.ofInt 0), σ7)
noncomputable def qa_fL_isLoaded (a2 : Int32) (σ : qa_T) : Option (Int32 × qa_T) :=
    (some (qa_fX9_isLoaded a2 σ)).bind fun c1 => match c1 with
      | (.inl r3, σ4) =>
        if (qa_bi r3) = 0 then
          qa_fL_isLoaded_15 a2 (Int64.ofNat ((0 : Fin 2) : Nat)) σ4
        else
          qa_fL_isLoaded_15 a2 (Int64.ofNat ((1 : Fin 2) : Nat)) σ4
      | (.inr E5, σ4) =>
        if E5 = 345 then some (Int32.ofInt 1, σ4) else
        none
set_option maxRecDepth 1000000 in
theorem qa_tL_isLoaded_15 {L : Nat} {a2 : Int32}  {y0 : Int64} {σ : qa_T} {r : (Int32 × qa_T)} (h : qa_fL_isLoaded_15 a2 y0 σ = some r) : qa_Bn L 1 qa_mL_isLoaded 15 [(0, .inl (0, 1)), (1, .inr (.int a2)), (2, .inl (10, 29))] [.inr (.long y0), .inr (.int (Int32.ofInt 0)), .inl (10, 29)] σ (some (.inr (.int r.1))) r.2 := by
  unfold qa_fL_isLoaded_15 at h
  try dsimp only at h
  refine qa_bn_js rfl qa_dx_10_29 rfl ?_
  refine qa_bn_do (pc' := 22) rfl rfl ?_
  refine qa_bn_do (pc' := 23) rfl rfl ?_
  cases h
  exact qa_bn_ri rfl rfl
set_option maxRecDepth 1000000 in
theorem qa_tL_isLoaded {L : Nat} {a2 : Int32}  {σ : qa_T} {r : (Int32 × qa_T)} (h : qa_fL_isLoaded a2 σ = some r) : qa_Bn L 1 qa_mL_isLoaded 0 (qa_ag 0 [.inl (0, 1), .inr (.int a2), .inl (10, 29)]) [] σ (some (.inr (.int r.1))) r.2 := by
  unfold qa_fL_isLoaded at h
  try dsimp only at h
  show qa_Bn L 1 qa_mL_isLoaded 0 [(0, .inl (0, 1)), (1, .inr (.int a2)), (2, .inl (10, 29))] [] σ _ _
  refine qa_bn_do (pc' := 1) rfl rfl ?_
  refine qa_bn_do (pc' := 2) rfl rfl ?_
  refine qa_bn_do (pc' := 3) rfl rfl ?_
  refine qa_bn_do (pc' := 4) rfl rfl ?_
  obtain ⟨⟨c1, σ4⟩, hc2, h⟩ := Option.bind_eq_some_iff.mp h
  have hc2 := Option.some.inj hc2
  cases c1 with
  | inl r3 =>
    try dsimp only at h
    refine qa_bn_cv (qa_tX9_isLoaded hc2) rfl rfl rfl rfl rfl rfl rfl qa_dx_0_1 ?_
    rcases qa_ite h with ⟨hc6, h⟩ | ⟨hc6, h⟩
    · refine qa_bn_1t (a := 14) (b := 10) hc6 rfl rfl ?_
      refine qa_bn_do (pc' := 15) rfl rfl ?_
      exact qa_bn_lw (qa_tL_isLoaded_15  h) rfl rfl (And.intro rfl (And.intro rfl (And.intro rfl (trivial))))
    · refine qa_bn_1f (a := 14) (b := 10) hc6 rfl rfl ?_
      refine qa_bn_do (pc' := 11) rfl rfl ?_
      refine qa_bn_do (pc' := 15) rfl rfl ?_
      exact qa_bn_lw (qa_tL_isLoaded_15  h) rfl rfl (And.intro rfl (And.intro rfl (And.intro rfl (trivial))))
  | inr E5 =>
    try dsimp only at h
    rcases qa_ite h with ⟨hE8, h⟩ | ⟨_, h⟩
    · cases h
      subst hE8
      exact qa_bn_ct (qa_tX9_isLoaded hc2) rfl rfl rfl rfl rfl rfl rfl qa_dx_0_1 rfl rfl rfl (fun _ _ => rfl)
    cases h
noncomputable def qa_fL_isOnShow_15 (a2 : Int32) (y0 : Int64) (σ : qa_T) : Option (Int32 × qa_T) :=
    let σ7 := qa_wl σ (10, 29) ((Int32.ofInt 0)).toNatClampNeg y0
    some ((Int32.ofInt 0), σ7)
noncomputable def qa_fL_isOnShow (a2 : Int32) (σ : qa_T) : Option (Int32 × qa_T) :=
    (some (qa_fX9_isOnShow a2 σ)).bind fun c1 => match c1 with
      | (.inl r3, σ4) =>
        if (qa_bi r3) = 0 then
          qa_fL_isOnShow_15 a2 (Int64.ofNat ((0 : Fin 2) : Nat)) σ4
        else
          qa_fL_isOnShow_15 a2 (Int64.ofNat ((1 : Fin 2) : Nat)) σ4
      | (.inr E5, σ4) =>
        if E5 = 345 then some (Int32.ofInt 1, σ4) else
        none
set_option maxRecDepth 1000000 in
theorem qa_tL_isOnShow_15 {L : Nat} {a2 : Int32}  {y0 : Int64} {σ : qa_T} {r : (Int32 × qa_T)} (h : qa_fL_isOnShow_15 a2 y0 σ = some r) : qa_Bn L 1 qa_mL_isOnShow 15 [(0, .inl (0, 1)), (1, .inr (.int a2)), (2, .inl (10, 29))] [.inr (.long y0), .inr (.int (Int32.ofInt 0)), .inl (10, 29)] σ (some (.inr (.int r.1))) r.2 := by
  unfold qa_fL_isOnShow_15 at h
  try dsimp only at h
  refine qa_bn_js rfl qa_dx_10_29 rfl ?_
  refine qa_bn_do (pc' := 22) rfl rfl ?_
  refine qa_bn_do (pc' := 23) rfl rfl ?_
  cases h
  exact qa_bn_ri rfl rfl
set_option maxRecDepth 1000000 in
theorem qa_tL_isOnShow {L : Nat} {a2 : Int32}  {σ : qa_T} {r : (Int32 × qa_T)} (h : qa_fL_isOnShow a2 σ = some r) : qa_Bn L 1 qa_mL_isOnShow 0 (qa_ag 0 [.inl (0, 1), .inr (.int a2), .inl (10, 29)]) [] σ (some (.inr (.int r.1))) r.2 := by
  unfold qa_fL_isOnShow at h
  try dsimp only at h
  show qa_Bn L 1 qa_mL_isOnShow 0 [(0, .inl (0, 1)), (1, .inr (.int a2)), (2, .inl (10, 29))] [] σ _ _
  refine qa_bn_do (pc' := 1) rfl rfl ?_
  refine qa_bn_do (pc' := 2) rfl rfl ?_
  refine qa_bn_do (pc' := 3) rfl rfl ?_
  refine qa_bn_do (pc' := 4) rfl rfl ?_
  obtain ⟨⟨c1, σ4⟩, hc2, h⟩ := Option.bind_eq_some_iff.mp h
  have hc2 := Option.some.inj hc2
  cases c1 with
  | inl r3 =>
    try dsimp only at h
    refine qa_bn_cv (qa_tX9_isOnShow hc2) rfl rfl rfl rfl rfl rfl rfl qa_dx_0_1 ?_
    rcases qa_ite h with ⟨hc6, h⟩ | ⟨hc6, h⟩
    · refine qa_bn_1t (a := 14) (b := 10) hc6 rfl rfl ?_
      refine qa_bn_do (pc' := 15) rfl rfl ?_
      exact qa_bn_lw (qa_tL_isOnShow_15  h) rfl rfl (And.intro rfl (And.intro rfl (And.intro rfl (trivial))))
    · refine qa_bn_1f (a := 14) (b := 10) hc6 rfl rfl ?_
      refine qa_bn_do (pc' := 11) rfl rfl ?_
      refine qa_bn_do (pc' := 15) rfl rfl ?_
      exact qa_bn_lw (qa_tL_isOnShow_15  h) rfl rfl (And.intro rfl (And.intro rfl (And.intro rfl (trivial))))
  | inr E5 =>
    try dsimp only at h
    rcases qa_ite h with ⟨hE8, h⟩ | ⟨_, h⟩
    · cases h
      subst hE8
      exact qa_bn_ct (qa_tX9_isOnShow hc2) rfl rfl rfl rfl rfl rfl rfl qa_dx_0_1 rfl rfl rfl (fun _ _ => rfl)
    cases h
noncomputable def qa_fL_glowOf (a2 : Int32) (σ : qa_T) : Option (Int32 × qa_T) :=
    (some (qa_fX9_glowOf a2 σ)).bind fun c1 => match c1 with
      | (.inl r3, σ4) =>
        let σ6 := qa_wl σ4 (10, 29) ((Int32.ofInt 0)).toNatClampNeg ((r3).toInt64)
        some ((Int32.ofInt 0), σ6)
      | (.inr E5, σ4) =>
        if E5 = 345 then some (Int32.ofInt 1, σ4) else
        none
set_option maxRecDepth 1000000 in
theorem qa_tL_glowOf {L : Nat} {a2 : Int32}  {σ : qa_T} {r : (Int32 × qa_T)} (h : qa_fL_glowOf a2 σ = some r) : qa_Bn L 1 qa_mL_glowOf 0 (qa_ag 0 [.inl (0, 1), .inr (.int a2), .inl (10, 29)]) [] σ (some (.inr (.int r.1))) r.2 := by
  unfold qa_fL_glowOf at h
  try dsimp only at h
  show qa_Bn L 1 qa_mL_glowOf 0 [(0, .inl (0, 1)), (1, .inr (.int a2)), (2, .inl (10, 29))] [] σ _ _
  refine qa_bn_do (pc' := 1) rfl rfl ?_
  refine qa_bn_do (pc' := 2) rfl rfl ?_
  refine qa_bn_do (pc' := 3) rfl rfl ?_
  refine qa_bn_do (pc' := 4) rfl rfl ?_
  obtain ⟨⟨c1, σ4⟩, hc2, h⟩ := Option.bind_eq_some_iff.mp h
  have hc2 := Option.some.inj hc2
  cases c1 with
  | inl r3 =>
    try dsimp only at h
    refine qa_bn_cv (qa_tX9_glowOf hc2) rfl rfl rfl rfl rfl rfl rfl qa_dx_0_1 ?_
    refine qa_bn_do (pc' := 8) rfl rfl ?_
    refine qa_bn_js rfl qa_dx_10_29 rfl ?_
    refine qa_bn_do (pc' := 15) rfl rfl ?_
    refine qa_bn_do (pc' := 16) rfl rfl ?_
    cases h
    exact qa_bn_ri rfl rfl
  | inr E5 =>
    try dsimp only at h
    rcases qa_ite h with ⟨hE7, h⟩ | ⟨_, h⟩
    · cases h
      subst hE7
      exact qa_bn_ct (qa_tX9_glowOf hc2) rfl rfl rfl rfl rfl rfl rfl qa_dx_0_1 rfl rfl rfl (fun _ _ => rfl)
    cases h
noncomputable def qa_fL_burntTimes (a2 : Int32) (σ : qa_T) : Option (Int32 × qa_T) :=
    (some (qa_fX9_burntTimes a2 σ)).bind fun c1 => match c1 with
      | (.inl r3, σ4) =>
        let σ6 := qa_wl σ4 (10, 29) ((Int32.ofInt 0)).toNatClampNeg ((r3).toInt64)
        some ((Int32.ofInt 0), σ6)
      | (.inr E5, σ4) =>
        if E5 = 345 then some (Int32.ofInt 1, σ4) else
        none
set_option maxRecDepth 1000000 in
theorem qa_tL_burntTimes {L : Nat} {a2 : Int32}  {σ : qa_T} {r : (Int32 × qa_T)} (h : qa_fL_burntTimes a2 σ = some r) : qa_Bn L 1 qa_mL_burntTimes 0 (qa_ag 0 [.inl (0, 1), .inr (.int a2), .inl (10, 29)]) [] σ (some (.inr (.int r.1))) r.2 := by
  unfold qa_fL_burntTimes at h
  try dsimp only at h
  show qa_Bn L 1 qa_mL_burntTimes 0 [(0, .inl (0, 1)), (1, .inr (.int a2)), (2, .inl (10, 29))] [] σ _ _
  refine qa_bn_do (pc' := 1) rfl rfl ?_
  refine qa_bn_do (pc' := 2) rfl rfl ?_
  refine qa_bn_do (pc' := 3) rfl rfl ?_
  refine qa_bn_do (pc' := 4) rfl rfl ?_
  obtain ⟨⟨c1, σ4⟩, hc2, h⟩ := Option.bind_eq_some_iff.mp h
  have hc2 := Option.some.inj hc2
  cases c1 with
  | inl r3 =>
    try dsimp only at h
    refine qa_bn_cv (qa_tX9_burntTimes hc2) rfl rfl rfl rfl rfl rfl rfl qa_dx_0_1 ?_
    refine qa_bn_do (pc' := 8) rfl rfl ?_
    refine qa_bn_js rfl qa_dx_10_29 rfl ?_
    refine qa_bn_do (pc' := 15) rfl rfl ?_
    refine qa_bn_do (pc' := 16) rfl rfl ?_
    cases h
    exact qa_bn_ri rfl rfl
  | inr E5 =>
    try dsimp only at h
    rcases qa_ite h with ⟨hE7, h⟩ | ⟨_, h⟩
    · cases h
      subst hE7
      exact qa_bn_ct (qa_tX9_burntTimes hc2) rfl rfl rfl rfl rfl rfl rfl qa_dx_0_1 rfl rfl rfl (fun _ _ => rfl)
    cases h
noncomputable def qa_fL_nextUse (a2 : Int32) (σ : qa_T) : Option (Int32 × qa_T) :=
    (qa_fX9_nextUse a2 σ).bind fun c1 => match c1 with
      | (.inl r3, σ4) =>
        let σ6 := qa_wl σ4 (10, 29) ((Int32.ofInt 0)).toNatClampNeg ((r3).toInt64)
        some ((Int32.ofInt 0), σ6)
      | (.inr E5, σ4) =>
        if E5 = 345 then some (Int32.ofInt 1, σ4) else
        if E5 = 348 then some (Int32.ofInt 2, σ4) else
        none
set_option maxRecDepth 1000000 in
theorem qa_tL_nextUse {L : Nat} {a2 : Int32}  {σ : qa_T} {r : (Int32 × qa_T)} (h : qa_fL_nextUse a2 σ = some r) : qa_Bn L 1 qa_mL_nextUse 0 (qa_ag 0 [.inl (0, 1), .inr (.int a2), .inl (10, 29)]) [] σ (some (.inr (.int r.1))) r.2 := by
  unfold qa_fL_nextUse at h
  try dsimp only at h
  show qa_Bn L 1 qa_mL_nextUse 0 [(0, .inl (0, 1)), (1, .inr (.int a2)), (2, .inl (10, 29))] [] σ _ _
  refine qa_bn_do (pc' := 1) rfl rfl ?_
  refine qa_bn_do (pc' := 2) rfl rfl ?_
  refine qa_bn_do (pc' := 3) rfl rfl ?_
  refine qa_bn_do (pc' := 4) rfl rfl ?_
  obtain ⟨⟨c1, σ4⟩, hc2, h⟩ := Option.bind_eq_some_iff.mp h
  cases c1 with
  | inl r3 =>
    try dsimp only at h
    refine qa_bn_cv (qa_tX9_nextUse hc2) rfl rfl rfl rfl rfl rfl rfl qa_dx_0_1 ?_
    refine qa_bn_do (pc' := 8) rfl rfl ?_
    refine qa_bn_js rfl qa_dx_10_29 rfl ?_
    refine qa_bn_do (pc' := 18) rfl rfl ?_
    refine qa_bn_do (pc' := 19) rfl rfl ?_
    cases h
    exact qa_bn_ri rfl rfl
  | inr E5 =>
    try dsimp only at h
    rcases qa_ite h with ⟨hE7, h⟩ | ⟨_, h⟩
    · cases h
      subst hE7
      exact qa_bn_ct (qa_tX9_nextUse hc2) rfl rfl rfl rfl rfl rfl rfl qa_dx_0_1 rfl rfl rfl (fun _ _ => rfl)
    rcases qa_ite h with ⟨hE8, h⟩ | ⟨_, h⟩
    · cases h
      subst hE8
      exact qa_bn_ct (qa_tX9_nextUse hc2) rfl rfl rfl rfl rfl rfl rfl qa_dx_0_1 rfl rfl rfl (fun _ _ => rfl)
    cases h
noncomputable def qa_fL_burnPlace (a2 : Int32) (σ : qa_T) : Option (Int32 × qa_T) :=
    (qa_fX9_burnPlace a2 σ).bind fun c1 => match c1 with
      | (.inl r3, σ4) =>
        let σ6 := qa_wl σ4 (10, 29) ((Int32.ofInt 0)).toNatClampNeg ((r3).toInt64)
        some ((Int32.ofInt 0), σ6)
      | (.inr E5, σ4) =>
        if E5 = 345 then some (Int32.ofInt 1, σ4) else
        if E5 = 348 then some (Int32.ofInt 2, σ4) else
        none
set_option maxRecDepth 1000000 in
theorem qa_tL_burnPlace {L : Nat} {a2 : Int32}  {σ : qa_T} {r : (Int32 × qa_T)} (h : qa_fL_burnPlace a2 σ = some r) : qa_Bn L 1 qa_mL_burnPlace 0 (qa_ag 0 [.inl (0, 1), .inr (.int a2), .inl (10, 29)]) [] σ (some (.inr (.int r.1))) r.2 := by
  unfold qa_fL_burnPlace at h
  try dsimp only at h
  show qa_Bn L 1 qa_mL_burnPlace 0 [(0, .inl (0, 1)), (1, .inr (.int a2)), (2, .inl (10, 29))] [] σ _ _
  refine qa_bn_do (pc' := 1) rfl rfl ?_
  refine qa_bn_do (pc' := 2) rfl rfl ?_
  refine qa_bn_do (pc' := 3) rfl rfl ?_
  refine qa_bn_do (pc' := 4) rfl rfl ?_
  obtain ⟨⟨c1, σ4⟩, hc2, h⟩ := Option.bind_eq_some_iff.mp h
  cases c1 with
  | inl r3 =>
    try dsimp only at h
    refine qa_bn_cv (qa_tX9_burnPlace hc2) rfl rfl rfl rfl rfl rfl rfl qa_dx_0_1 ?_
    refine qa_bn_do (pc' := 8) rfl rfl ?_
    refine qa_bn_js rfl qa_dx_10_29 rfl ?_
    refine qa_bn_do (pc' := 18) rfl rfl ?_
    refine qa_bn_do (pc' := 19) rfl rfl ?_
    cases h
    exact qa_bn_ri rfl rfl
  | inr E5 =>
    try dsimp only at h
    rcases qa_ite h with ⟨hE7, h⟩ | ⟨_, h⟩
    · cases h
      subst hE7
      exact qa_bn_ct (qa_tX9_burnPlace hc2) rfl rfl rfl rfl rfl rfl rfl qa_dx_0_1 rfl rfl rfl (fun _ _ => rfl)
    rcases qa_ite h with ⟨hE8, h⟩ | ⟨_, h⟩
    · cases h
      subst hE8
      exact qa_bn_ct (qa_tX9_burnPlace hc2) rfl rfl rfl rfl rfl rfl rfl qa_dx_0_1 rfl rfl rfl (fun _ _ => rfl)
    cases h
noncomputable def qa_fL_slideAt (a2 : Int32) (σ : qa_T) : Option (Int32 × qa_T) :=
    (some (qa_fX9_slideAt a2 σ)).bind fun c1 => match c1 with
      | (.inl r3, σ4) =>
        let σ6 := qa_wl σ4 (10, 29) ((Int32.ofInt 0)).toNatClampNeg ((r3).toInt64)
        some ((Int32.ofInt 0), σ6)
      | (.inr E5, σ4) =>
        if E5 = 345 then some (Int32.ofInt 1, σ4) else
        none
set_option maxRecDepth 1000000 in
theorem qa_tL_slideAt {L : Nat} {a2 : Int32}  {σ : qa_T} {r : (Int32 × qa_T)} (h : qa_fL_slideAt a2 σ = some r) : qa_Bn L 1 qa_mL_slideAt 0 (qa_ag 0 [.inl (0, 1), .inr (.int a2), .inl (10, 29)]) [] σ (some (.inr (.int r.1))) r.2 := by
  unfold qa_fL_slideAt at h
  try dsimp only at h
  show qa_Bn L 1 qa_mL_slideAt 0 [(0, .inl (0, 1)), (1, .inr (.int a2)), (2, .inl (10, 29))] [] σ _ _
  refine qa_bn_do (pc' := 1) rfl rfl ?_
  refine qa_bn_do (pc' := 2) rfl rfl ?_
  refine qa_bn_do (pc' := 3) rfl rfl ?_
  refine qa_bn_do (pc' := 4) rfl rfl ?_
  obtain ⟨⟨c1, σ4⟩, hc2, h⟩ := Option.bind_eq_some_iff.mp h
  have hc2 := Option.some.inj hc2
  cases c1 with
  | inl r3 =>
    try dsimp only at h
    refine qa_bn_cv (qa_tX9_slideAt hc2) rfl rfl rfl rfl rfl rfl rfl qa_dx_0_1 ?_
    refine qa_bn_do (pc' := 8) rfl rfl ?_
    refine qa_bn_js rfl qa_dx_10_29 rfl ?_
    refine qa_bn_do (pc' := 15) rfl rfl ?_
    refine qa_bn_do (pc' := 16) rfl rfl ?_
    cases h
    exact qa_bn_ri rfl rfl
  | inr E5 =>
    try dsimp only at h
    rcases qa_ite h with ⟨hE7, h⟩ | ⟨_, h⟩
    · cases h
      subst hE7
      exact qa_bn_ct (qa_tX9_slideAt hc2) rfl rfl rfl rfl rfl rfl rfl qa_dx_0_1 rfl rfl rfl (fun _ _ => rfl)
    cases h
noncomputable def qa_fL_showPlace  (σ : qa_T) : Option (Int32 × qa_T) :=
    (some (qa_fX9_showPlace σ)).bind fun c1 => match c1 with
      | (.inl r3, σ4) =>
        let σ6 := qa_wl σ4 (10, 29) ((Int32.ofInt 0)).toNatClampNeg ((r3).toInt64)
        some ((Int32.ofInt 0), σ6)
      | (.inr E5, σ4) =>
        if E5 = 348 then some (Int32.ofInt 1, σ4) else
        none
set_option maxRecDepth 1000000 in
theorem qa_tL_showPlace {L : Nat}   {σ : qa_T} {r : (Int32 × qa_T)} (h : qa_fL_showPlace  σ = some r) : qa_Bn L 1 qa_mL_showPlace 0 (qa_ag 0 [.inl (0, 1), .inl (10, 29)]) [] σ (some (.inr (.int r.1))) r.2 := by
  unfold qa_fL_showPlace at h
  try dsimp only at h
  show qa_Bn L 1 qa_mL_showPlace 0 [(0, .inl (0, 1)), (1, .inl (10, 29))] [] σ _ _
  refine qa_bn_do (pc' := 1) rfl rfl ?_
  refine qa_bn_do (pc' := 2) rfl rfl ?_
  refine qa_bn_do (pc' := 3) rfl rfl ?_
  obtain ⟨⟨c1, σ4⟩, hc2, h⟩ := Option.bind_eq_some_iff.mp h
  have hc2 := Option.some.inj hc2
  cases c1 with
  | inl r3 =>
    try dsimp only at h
    refine qa_bn_cv (qa_tX9_showPlace hc2) rfl rfl rfl rfl rfl rfl rfl qa_dx_0_1 ?_
    refine qa_bn_do (pc' := 7) rfl rfl ?_
    refine qa_bn_js rfl qa_dx_10_29 rfl ?_
    refine qa_bn_do (pc' := 14) rfl rfl ?_
    refine qa_bn_do (pc' := 15) rfl rfl ?_
    cases h
    exact qa_bn_ri rfl rfl
  | inr E5 =>
    try dsimp only at h
    rcases qa_ite h with ⟨hE7, h⟩ | ⟨_, h⟩
    · cases h
      subst hE7
      exact qa_bn_ct (qa_tX9_showPlace hc2) rfl rfl rfl rfl rfl rfl rfl qa_dx_0_1 rfl rfl rfl (fun _ _ => rfl)
    cases h
noncomputable def qa_fL_shown  (σ : qa_T) : Option (Int32 × qa_T) :=
    (some (qa_fX9_shown σ)).bind fun c1 => match c1 with
      | (.inl r3, σ4) =>
        let σ6 := qa_wl σ4 (10, 29) ((Int32.ofInt 0)).toNatClampNeg ((r3).toInt64)
        some ((Int32.ofInt 0), σ6)
      | (.inr E5, σ4) =>
        if E5 = 348 then some (Int32.ofInt 1, σ4) else
        none
set_option maxRecDepth 1000000 in
theorem qa_tL_shown {L : Nat}   {σ : qa_T} {r : (Int32 × qa_T)} (h : qa_fL_shown  σ = some r) : qa_Bn L 1 qa_mL_shown 0 (qa_ag 0 [.inl (0, 1), .inl (10, 29)]) [] σ (some (.inr (.int r.1))) r.2 := by
  unfold qa_fL_shown at h
  try dsimp only at h
  show qa_Bn L 1 qa_mL_shown 0 [(0, .inl (0, 1)), (1, .inl (10, 29))] [] σ _ _
  refine qa_bn_do (pc' := 1) rfl rfl ?_
  refine qa_bn_do (pc' := 2) rfl rfl ?_
  refine qa_bn_do (pc' := 3) rfl rfl ?_
  obtain ⟨⟨c1, σ4⟩, hc2, h⟩ := Option.bind_eq_some_iff.mp h
  have hc2 := Option.some.inj hc2
  cases c1 with
  | inl r3 =>
    try dsimp only at h
    refine qa_bn_cv (qa_tX9_shown hc2) rfl rfl rfl rfl rfl rfl rfl qa_dx_0_1 ?_
    refine qa_bn_do (pc' := 7) rfl rfl ?_
    refine qa_bn_js rfl qa_dx_10_29 rfl ?_
    refine qa_bn_do (pc' := 14) rfl rfl ?_
    refine qa_bn_do (pc' := 15) rfl rfl ?_
    cases h
    exact qa_bn_ri rfl rfl
  | inr E5 =>
    try dsimp only at h
    rcases qa_ite h with ⟨hE7, h⟩ | ⟨_, h⟩
    · cases h
      subst hE7
      exact qa_bn_ct (qa_tX9_shown hc2) rfl rfl rfl rfl rfl rfl rfl qa_dx_0_1 rfl rfl rfl (fun _ _ => rfl)
    cases h
noncomputable def qa_fL_fading  (σ : qa_T) : Option (Int32 × qa_T) :=
    (some (qa_fX9_fading σ)).bind fun c1 => match c1 with
      | (.inl r3, σ4) =>
        let σ6 := qa_wl σ4 (10, 29) ((Int32.ofInt 0)).toNatClampNeg ((r3).toInt64)
        some ((Int32.ofInt 0), σ6)
      | (.inr E5, σ4) =>
        if E5 = 348 then some (Int32.ofInt 1, σ4) else
        none
set_option maxRecDepth 1000000 in
theorem qa_tL_fading {L : Nat}   {σ : qa_T} {r : (Int32 × qa_T)} (h : qa_fL_fading  σ = some r) : qa_Bn L 1 qa_mL_fading 0 (qa_ag 0 [.inl (0, 1), .inl (10, 29)]) [] σ (some (.inr (.int r.1))) r.2 := by
  unfold qa_fL_fading at h
  try dsimp only at h
  show qa_Bn L 1 qa_mL_fading 0 [(0, .inl (0, 1)), (1, .inl (10, 29))] [] σ _ _
  refine qa_bn_do (pc' := 1) rfl rfl ?_
  refine qa_bn_do (pc' := 2) rfl rfl ?_
  refine qa_bn_do (pc' := 3) rfl rfl ?_
  obtain ⟨⟨c1, σ4⟩, hc2, h⟩ := Option.bind_eq_some_iff.mp h
  have hc2 := Option.some.inj hc2
  cases c1 with
  | inl r3 =>
    try dsimp only at h
    refine qa_bn_cv (qa_tX9_fading hc2) rfl rfl rfl rfl rfl rfl rfl qa_dx_0_1 ?_
    refine qa_bn_do (pc' := 7) rfl rfl ?_
    refine qa_bn_js rfl qa_dx_10_29 rfl ?_
    refine qa_bn_do (pc' := 14) rfl rfl ?_
    refine qa_bn_do (pc' := 15) rfl rfl ?_
    cases h
    exact qa_bn_ri rfl rfl
  | inr E5 =>
    try dsimp only at h
    rcases qa_ite h with ⟨hE7, h⟩ | ⟨_, h⟩
    · cases h
      subst hE7
      exact qa_bn_ct (qa_tX9_fading hc2) rfl rfl rfl rfl rfl rfl rfl qa_dx_0_1 rfl rfl rfl (fun _ _ => rfl)
    cases h
noncomputable def qa_fL_awaited  (σ : qa_T) : Option (Int32 × qa_T) :=
    (some (qa_fX9_awaited σ)).bind fun c1 => match c1 with
      | (.inl r3, σ4) =>
        let σ6 := qa_wl σ4 (10, 29) ((Int32.ofInt 0)).toNatClampNeg ((r3).toInt64)
        some ((Int32.ofInt 0), σ6)
      | (.inr E5, σ4) =>
        if E5 = 348 then some (Int32.ofInt 1, σ4) else
        none
set_option maxRecDepth 1000000 in
theorem qa_tL_awaited {L : Nat}   {σ : qa_T} {r : (Int32 × qa_T)} (h : qa_fL_awaited  σ = some r) : qa_Bn L 1 qa_mL_awaited 0 (qa_ag 0 [.inl (0, 1), .inl (10, 29)]) [] σ (some (.inr (.int r.1))) r.2 := by
  unfold qa_fL_awaited at h
  try dsimp only at h
  show qa_Bn L 1 qa_mL_awaited 0 [(0, .inl (0, 1)), (1, .inl (10, 29))] [] σ _ _
  refine qa_bn_do (pc' := 1) rfl rfl ?_
  refine qa_bn_do (pc' := 2) rfl rfl ?_
  refine qa_bn_do (pc' := 3) rfl rfl ?_
  obtain ⟨⟨c1, σ4⟩, hc2, h⟩ := Option.bind_eq_some_iff.mp h
  have hc2 := Option.some.inj hc2
  cases c1 with
  | inl r3 =>
    try dsimp only at h
    refine qa_bn_cv (qa_tX9_awaited hc2) rfl rfl rfl rfl rfl rfl rfl qa_dx_0_1 ?_
    refine qa_bn_do (pc' := 7) rfl rfl ?_
    refine qa_bn_js rfl qa_dx_10_29 rfl ?_
    refine qa_bn_do (pc' := 14) rfl rfl ?_
    refine qa_bn_do (pc' := 15) rfl rfl ?_
    cases h
    exact qa_bn_ri rfl rfl
  | inr E5 =>
    try dsimp only at h
    rcases qa_ite h with ⟨hE7, h⟩ | ⟨_, h⟩
    · cases h
      subst hE7
      exact qa_bn_ct (qa_tX9_awaited hc2) rfl rfl rfl rfl rfl rfl rfl qa_dx_0_1 rfl rfl rfl (fun _ _ => rfl)
    cases h
noncomputable def qa_fL_shownFor  (σ : qa_T) : Option (Int32 × qa_T) :=
    (some (qa_fX9_shownFor σ)).bind fun c1 => match c1 with
      | (.inl r3, σ4) =>
        let σ6 := qa_wl σ4 (10, 29) ((Int32.ofInt 0)).toNatClampNeg ((r3).toInt64)
        some ((Int32.ofInt 0), σ6)
      | (.inr E5, σ4) =>
        if E5 = 348 then some (Int32.ofInt 1, σ4) else
        none
set_option maxRecDepth 1000000 in
theorem qa_tL_shownFor {L : Nat}   {σ : qa_T} {r : (Int32 × qa_T)} (h : qa_fL_shownFor  σ = some r) : qa_Bn L 1 qa_mL_shownFor 0 (qa_ag 0 [.inl (0, 1), .inl (10, 29)]) [] σ (some (.inr (.int r.1))) r.2 := by
  unfold qa_fL_shownFor at h
  try dsimp only at h
  show qa_Bn L 1 qa_mL_shownFor 0 [(0, .inl (0, 1)), (1, .inl (10, 29))] [] σ _ _
  refine qa_bn_do (pc' := 1) rfl rfl ?_
  refine qa_bn_do (pc' := 2) rfl rfl ?_
  refine qa_bn_do (pc' := 3) rfl rfl ?_
  obtain ⟨⟨c1, σ4⟩, hc2, h⟩ := Option.bind_eq_some_iff.mp h
  have hc2 := Option.some.inj hc2
  cases c1 with
  | inl r3 =>
    try dsimp only at h
    refine qa_bn_cv (qa_tX9_shownFor hc2) rfl rfl rfl rfl rfl rfl rfl qa_dx_0_1 ?_
    refine qa_bn_do (pc' := 7) rfl rfl ?_
    refine qa_bn_js rfl qa_dx_10_29 rfl ?_
    refine qa_bn_do (pc' := 14) rfl rfl ?_
    refine qa_bn_do (pc' := 15) rfl rfl ?_
    cases h
    exact qa_bn_ri rfl rfl
  | inr E5 =>
    try dsimp only at h
    rcases qa_ite h with ⟨hE7, h⟩ | ⟨_, h⟩
    · cases h
      subst hE7
      exact qa_bn_ct (qa_tX9_shownFor hc2) rfl rfl rfl rfl rfl rfl rfl qa_dx_0_1 rfl rfl rfl (fun _ _ => rfl)
    cases h
noncomputable def qa_fL_loading  (σ : qa_T) : Option (Int32 × qa_T) :=
    (some (qa_fX9_loading σ)).bind fun c1 => match c1 with
      | (.inl r3, σ4) =>
        let σ6 := qa_wl σ4 (10, 29) ((Int32.ofInt 0)).toNatClampNeg ((r3).toInt64)
        some ((Int32.ofInt 0), σ6)
      | (.inr E5, σ4) =>
        if E5 = 348 then some (Int32.ofInt 1, σ4) else
        none
set_option maxRecDepth 1000000 in
theorem qa_tL_loading {L : Nat}   {σ : qa_T} {r : (Int32 × qa_T)} (h : qa_fL_loading  σ = some r) : qa_Bn L 1 qa_mL_loading 0 (qa_ag 0 [.inl (0, 1), .inl (10, 29)]) [] σ (some (.inr (.int r.1))) r.2 := by
  unfold qa_fL_loading at h
  try dsimp only at h
  show qa_Bn L 1 qa_mL_loading 0 [(0, .inl (0, 1)), (1, .inl (10, 29))] [] σ _ _
  refine qa_bn_do (pc' := 1) rfl rfl ?_
  refine qa_bn_do (pc' := 2) rfl rfl ?_
  refine qa_bn_do (pc' := 3) rfl rfl ?_
  obtain ⟨⟨c1, σ4⟩, hc2, h⟩ := Option.bind_eq_some_iff.mp h
  have hc2 := Option.some.inj hc2
  cases c1 with
  | inl r3 =>
    try dsimp only at h
    refine qa_bn_cv (qa_tX9_loading hc2) rfl rfl rfl rfl rfl rfl rfl qa_dx_0_1 ?_
    refine qa_bn_do (pc' := 7) rfl rfl ?_
    refine qa_bn_js rfl qa_dx_10_29 rfl ?_
    refine qa_bn_do (pc' := 14) rfl rfl ?_
    refine qa_bn_do (pc' := 15) rfl rfl ?_
    cases h
    exact qa_bn_ri rfl rfl
  | inr E5 =>
    try dsimp only at h
    rcases qa_ite h with ⟨hE7, h⟩ | ⟨_, h⟩
    · cases h
      subst hE7
      exact qa_bn_ct (qa_tX9_loading hc2) rfl rfl rfl rfl rfl rfl rfl qa_dx_0_1 rfl rfl rfl (fun _ _ => rfl)
    cases h
noncomputable def qa_fL_askedAt (a2 : Int32) (σ : qa_T) : Option (Int32 × qa_T) :=
    (some (qa_fX9_askedAt a2 σ)).bind fun c1 => match c1 with
      | (.inl r3, σ4) =>
        let σ6 := qa_wl σ4 (10, 29) ((Int32.ofInt 0)).toNatClampNeg ((r3).toInt64)
        some ((Int32.ofInt 0), σ6)
      | (.inr E5, σ4) =>
        if E5 = 345 then some (Int32.ofInt 1, σ4) else
        none
set_option maxRecDepth 1000000 in
theorem qa_tL_askedAt {L : Nat} {a2 : Int32}  {σ : qa_T} {r : (Int32 × qa_T)} (h : qa_fL_askedAt a2 σ = some r) : qa_Bn L 1 qa_mL_askedAt 0 (qa_ag 0 [.inl (0, 1), .inr (.int a2), .inl (10, 29)]) [] σ (some (.inr (.int r.1))) r.2 := by
  unfold qa_fL_askedAt at h
  try dsimp only at h
  show qa_Bn L 1 qa_mL_askedAt 0 [(0, .inl (0, 1)), (1, .inr (.int a2)), (2, .inl (10, 29))] [] σ _ _
  refine qa_bn_do (pc' := 1) rfl rfl ?_
  refine qa_bn_do (pc' := 2) rfl rfl ?_
  refine qa_bn_do (pc' := 3) rfl rfl ?_
  refine qa_bn_do (pc' := 4) rfl rfl ?_
  obtain ⟨⟨c1, σ4⟩, hc2, h⟩ := Option.bind_eq_some_iff.mp h
  have hc2 := Option.some.inj hc2
  cases c1 with
  | inl r3 =>
    try dsimp only at h
    refine qa_bn_cv (qa_tX9_askedAt hc2) rfl rfl rfl rfl rfl rfl rfl qa_dx_0_1 ?_
    refine qa_bn_do (pc' := 8) rfl rfl ?_
    refine qa_bn_js rfl qa_dx_10_29 rfl ?_
    refine qa_bn_do (pc' := 15) rfl rfl ?_
    refine qa_bn_do (pc' := 16) rfl rfl ?_
    cases h
    exact qa_bn_ri rfl rfl
  | inr E5 =>
    try dsimp only at h
    rcases qa_ite h with ⟨hE7, h⟩ | ⟨_, h⟩
    · cases h
      subst hE7
      exact qa_bn_ct (qa_tX9_askedAt hc2) rfl rfl rfl rfl rfl rfl rfl qa_dx_0_1 rfl rfl rfl (fun _ _ => rfl)
    cases h
noncomputable def qa_fL_ticksToShowByTicks  (σ : qa_T) : Option (Int32 × qa_T) :=
    (qa_fX9_ticksToShowByTicks σ).bind fun c1 => match c1 with
      | (.inl r3, σ4) =>
        let σ6 := qa_wl σ4 (10, 29) ((Int32.ofInt 0)).toNatClampNeg ((r3).toInt64)
        some ((Int32.ofInt 0), σ6)
      | (.inr E5, σ4) =>
        if E5 = 348 then some (Int32.ofInt 1, σ4) else
        none
set_option maxRecDepth 1000000 in
theorem qa_tL_ticksToShowByTicks {L : Nat}   {σ : qa_T} {r : (Int32 × qa_T)} (h : qa_fL_ticksToShowByTicks  σ = some r) : qa_Bn L 1 qa_mL_ticksToShowByTicks 0 (qa_ag 0 [.inl (0, 1), .inl (10, 29)]) [] σ (some (.inr (.int r.1))) r.2 := by
  unfold qa_fL_ticksToShowByTicks at h
  try dsimp only at h
  show qa_Bn L 1 qa_mL_ticksToShowByTicks 0 [(0, .inl (0, 1)), (1, .inl (10, 29))] [] σ _ _
  refine qa_bn_do (pc' := 1) rfl rfl ?_
  refine qa_bn_do (pc' := 2) rfl rfl ?_
  refine qa_bn_do (pc' := 3) rfl rfl ?_
  obtain ⟨⟨c1, σ4⟩, hc2, h⟩ := Option.bind_eq_some_iff.mp h
  cases c1 with
  | inl r3 =>
    try dsimp only at h
    refine qa_bn_cv (qa_tX9_ticksToShowByTicks hc2) rfl rfl rfl rfl rfl rfl rfl qa_dx_0_1 ?_
    refine qa_bn_do (pc' := 7) rfl rfl ?_
    refine qa_bn_js rfl qa_dx_10_29 rfl ?_
    refine qa_bn_do (pc' := 14) rfl rfl ?_
    refine qa_bn_do (pc' := 15) rfl rfl ?_
    cases h
    exact qa_bn_ri rfl rfl
  | inr E5 =>
    try dsimp only at h
    rcases qa_ite h with ⟨hE7, h⟩ | ⟨_, h⟩
    · cases h
      subst hE7
      exact qa_bn_ct (qa_tX9_ticksToShowByTicks hc2) rfl rfl rfl rfl rfl rfl rfl qa_dx_0_1 rfl rfl rfl (fun _ _ => rfl)
    cases h
noncomputable def qa_fL_ticksToShowBySums  (σ : qa_T) : Option (Int32 × qa_T) :=
    (some (qa_fX9_ticksToShowBySums σ)).bind fun c1 => match c1 with
      | (.inl r3, σ4) =>
        let σ6 := qa_wl σ4 (10, 29) ((Int32.ofInt 0)).toNatClampNeg ((r3).toInt64)
        some ((Int32.ofInt 0), σ6)
      | (.inr E5, σ4) =>
        if E5 = 348 then some (Int32.ofInt 1, σ4) else
        none
set_option maxRecDepth 1000000 in
theorem qa_tL_ticksToShowBySums {L : Nat}   {σ : qa_T} {r : (Int32 × qa_T)} (h : qa_fL_ticksToShowBySums  σ = some r) : qa_Bn L 1 qa_mL_ticksToShowBySums 0 (qa_ag 0 [.inl (0, 1), .inl (10, 29)]) [] σ (some (.inr (.int r.1))) r.2 := by
  unfold qa_fL_ticksToShowBySums at h
  try dsimp only at h
  show qa_Bn L 1 qa_mL_ticksToShowBySums 0 [(0, .inl (0, 1)), (1, .inl (10, 29))] [] σ _ _
  refine qa_bn_do (pc' := 1) rfl rfl ?_
  refine qa_bn_do (pc' := 2) rfl rfl ?_
  refine qa_bn_do (pc' := 3) rfl rfl ?_
  obtain ⟨⟨c1, σ4⟩, hc2, h⟩ := Option.bind_eq_some_iff.mp h
  have hc2 := Option.some.inj hc2
  cases c1 with
  | inl r3 =>
    try dsimp only at h
    refine qa_bn_cv (qa_tX9_ticksToShowBySums hc2) rfl rfl rfl rfl rfl rfl rfl qa_dx_0_1 ?_
    refine qa_bn_do (pc' := 7) rfl rfl ?_
    refine qa_bn_js rfl qa_dx_10_29 rfl ?_
    refine qa_bn_do (pc' := 14) rfl rfl ?_
    refine qa_bn_do (pc' := 15) rfl rfl ?_
    cases h
    exact qa_bn_ri rfl rfl
  | inr E5 =>
    try dsimp only at h
    rcases qa_ite h with ⟨hE7, h⟩ | ⟨_, h⟩
    · cases h
      subst hE7
      exact qa_bn_ct (qa_tX9_ticksToShowBySums hc2) rfl rfl rfl rfl rfl rfl rfl qa_dx_0_1 rfl rfl rfl (fun _ _ => rfl)
    cases h
noncomputable def qa_fL_burningsFor (a2 : Int32) (σ : qa_T) : Option (Int32 × qa_T) :=
    (qa_fX9_burningsFor a2 σ).bind fun c1 => match c1 with
      | (.inl r3, σ4) =>
        let σ6 := qa_wl σ4 (10, 29) ((Int32.ofInt 0)).toNatClampNeg ((r3).toInt64)
        some ((Int32.ofInt 0), σ6)
      | (.inr E5, σ4) =>
        if E5 = 345 then some (Int32.ofInt 1, σ4) else
        none
set_option maxRecDepth 1000000 in
theorem qa_tL_burningsFor {L : Nat} {a2 : Int32}  {σ : qa_T} {r : (Int32 × qa_T)} (h : qa_fL_burningsFor a2 σ = some r) : qa_Bn L 1 qa_mL_burningsFor 0 (qa_ag 0 [.inl (0, 1), .inr (.int a2), .inl (10, 29)]) [] σ (some (.inr (.int r.1))) r.2 := by
  unfold qa_fL_burningsFor at h
  try dsimp only at h
  show qa_Bn L 1 qa_mL_burningsFor 0 [(0, .inl (0, 1)), (1, .inr (.int a2)), (2, .inl (10, 29))] [] σ _ _
  refine qa_bn_do (pc' := 1) rfl rfl ?_
  refine qa_bn_do (pc' := 2) rfl rfl ?_
  refine qa_bn_do (pc' := 3) rfl rfl ?_
  refine qa_bn_do (pc' := 4) rfl rfl ?_
  obtain ⟨⟨c1, σ4⟩, hc2, h⟩ := Option.bind_eq_some_iff.mp h
  cases c1 with
  | inl r3 =>
    try dsimp only at h
    refine qa_bn_cv (qa_tX9_burningsFor hc2) rfl rfl rfl rfl rfl rfl rfl qa_dx_0_1 ?_
    refine qa_bn_do (pc' := 8) rfl rfl ?_
    refine qa_bn_js rfl qa_dx_10_29 rfl ?_
    refine qa_bn_do (pc' := 15) rfl rfl ?_
    refine qa_bn_do (pc' := 16) rfl rfl ?_
    cases h
    exact qa_bn_ri rfl rfl
  | inr E5 =>
    try dsimp only at h
    rcases qa_ite h with ⟨hE7, h⟩ | ⟨_, h⟩
    · cases h
      subst hE7
      exact qa_bn_ct (qa_tX9_burningsFor hc2) rfl rfl rfl rfl rfl rfl rfl qa_dx_0_1 rfl rfl rfl (fun _ _ => rfl)
    cases h
noncomputable def qa_fL_missesWith (a2 : Int32) (σ : qa_T) : Option (Int32 × qa_T) :=
    (qa_fX9_missesWith a2 σ).bind fun c1 => match c1 with
      | (.inl r3, σ4) =>
        let σ6 := qa_wl σ4 (10, 29) ((Int32.ofInt 0)).toNatClampNeg ((r3).toInt64)
        some ((Int32.ofInt 0), σ6)
      | (.inr E5, σ4) =>
        if E5 = 342 then some (Int32.ofInt 1, σ4) else
        if E5 = 348 then some (Int32.ofInt 2, σ4) else
        none
set_option maxRecDepth 1000000 in
theorem qa_tL_missesWith {L : Nat} {a2 : Int32}  {σ : qa_T} {r : (Int32 × qa_T)} (h : qa_fL_missesWith a2 σ = some r) : qa_Bn L 1 qa_mL_missesWith 0 (qa_ag 0 [.inl (0, 1), .inr (.int a2), .inl (10, 29)]) [] σ (some (.inr (.int r.1))) r.2 := by
  unfold qa_fL_missesWith at h
  try dsimp only at h
  show qa_Bn L 1 qa_mL_missesWith 0 [(0, .inl (0, 1)), (1, .inr (.int a2)), (2, .inl (10, 29))] [] σ _ _
  refine qa_bn_do (pc' := 1) rfl rfl ?_
  refine qa_bn_do (pc' := 2) rfl rfl ?_
  refine qa_bn_do (pc' := 3) rfl rfl ?_
  refine qa_bn_do (pc' := 4) rfl rfl ?_
  obtain ⟨⟨c1, σ4⟩, hc2, h⟩ := Option.bind_eq_some_iff.mp h
  cases c1 with
  | inl r3 =>
    try dsimp only at h
    refine qa_bn_cv (qa_tX9_missesWith hc2) rfl rfl rfl rfl rfl rfl rfl qa_dx_0_1 ?_
    refine qa_bn_do (pc' := 8) rfl rfl ?_
    refine qa_bn_js rfl qa_dx_10_29 rfl ?_
    refine qa_bn_do (pc' := 18) rfl rfl ?_
    refine qa_bn_do (pc' := 19) rfl rfl ?_
    cases h
    exact qa_bn_ri rfl rfl
  | inr E5 =>
    try dsimp only at h
    rcases qa_ite h with ⟨hE7, h⟩ | ⟨_, h⟩
    · cases h
      subst hE7
      exact qa_bn_ct (qa_tX9_missesWith hc2) rfl rfl rfl rfl rfl rfl rfl qa_dx_0_1 rfl rfl rfl (fun _ _ => rfl)
    rcases qa_ite h with ⟨hE8, h⟩ | ⟨_, h⟩
    · cases h
      subst hE8
      exact qa_bn_ct (qa_tX9_missesWith hc2) rfl rfl rfl rfl rfl rfl rfl qa_dx_0_1 rfl rfl rfl (fun _ _ => rfl)
    cases h
noncomputable def qa_fL_bestOrder  (σ : qa_T) : Option (Int32 × qa_T) :=
    (qa_fX9_bestOrder σ).bind fun c1 => match c1 with
      | (.inl r3, σ4) =>
        let σ6 := qa_wl σ4 (10, 29) ((Int32.ofInt 0)).toNatClampNeg ((r3).toInt64)
        some ((Int32.ofInt 0), σ6)
      | (.inr E5, σ4) =>
        if E5 = 348 then some (Int32.ofInt 1, σ4) else
        none
set_option maxRecDepth 1000000 in
theorem qa_tL_bestOrder {L : Nat}   {σ : qa_T} {r : (Int32 × qa_T)} (h : qa_fL_bestOrder  σ = some r) : qa_Bn L 1 qa_mL_bestOrder 0 (qa_ag 0 [.inl (0, 1), .inl (10, 29)]) [] σ (some (.inr (.int r.1))) r.2 := by
  unfold qa_fL_bestOrder at h
  try dsimp only at h
  show qa_Bn L 1 qa_mL_bestOrder 0 [(0, .inl (0, 1)), (1, .inl (10, 29))] [] σ _ _
  refine qa_bn_do (pc' := 1) rfl rfl ?_
  refine qa_bn_do (pc' := 2) rfl rfl ?_
  refine qa_bn_do (pc' := 3) rfl rfl ?_
  obtain ⟨⟨c1, σ4⟩, hc2, h⟩ := Option.bind_eq_some_iff.mp h
  cases c1 with
  | inl r3 =>
    try dsimp only at h
    refine qa_bn_cv (qa_tX9_bestOrder hc2) rfl rfl rfl rfl rfl rfl rfl qa_dx_0_1 ?_
    refine qa_bn_do (pc' := 7) rfl rfl ?_
    refine qa_bn_js rfl qa_dx_10_29 rfl ?_
    refine qa_bn_do (pc' := 14) rfl rfl ?_
    refine qa_bn_do (pc' := 15) rfl rfl ?_
    cases h
    exact qa_bn_ri rfl rfl
  | inr E5 =>
    try dsimp only at h
    rcases qa_ite h with ⟨hE7, h⟩ | ⟨_, h⟩
    · cases h
      subst hE7
      exact qa_bn_ct (qa_tX9_bestOrder hc2) rfl rfl rfl rfl rfl rfl rfl qa_dx_0_1 rfl rfl rfl (fun _ _ => rfl)
    cases h
