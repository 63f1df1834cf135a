/-! the law's methods as functions (written by wip/p66/gen_law.py) -/
section QL32
noncomputable def qa_fL_cell_24 (L : Nat) (a2 : Int32) (y0 : Int32) (σ : qa_T) : Option (Int32 × qa_T) :=
    some (y0, σ)
noncomputable def qa_fL_cell (L : Nat) (a2 : Int32) (σ : qa_T) : Option (Int32 × qa_T) :=
    if Int32.ofNat L ≤ a2 then
      qa_fL_cell_24 L a2 ((((Int16.ofInt 7919).toInt32) * (a2 + (Int32.ofInt 3))) * (a2 + ((Int8.ofInt 11).toInt32))) σ
    else
      if ¬ qa_in a2 L = true then none else
      qa_fL_cell_24 L a2 (σ.1 (0, 0) (a2).toNatClampNeg) σ
set_option maxRecDepth 1000000 in
theorem qa_tL_cell_24 {L : Nat} {a2 : Int32} (hL : L < 2147483648) {y0 : Int32} {σ : qa_T} {r : (Int32 × qa_T)} (h : qa_fL_cell_24 L a2 y0 σ = some r) : qa_Bn L (0) qa_mL_cell 24 [(0, .inl (0, 0)), (1, .inr (.int a2))] [.inr (.int y0)] σ (some (.inr (.int r.1))) r.2 := by
  unfold qa_fL_cell_24 at h
  try dsimp only at h
  refine qa_bn_mono (N := 0) (by omega) ?_
  cases h
  exact qa_bn_ri rfl rfl
set_option maxRecDepth 1000000 in
theorem qa_tL_cell {L : Nat} {a2 : Int32} (hL : L < 2147483648) {σ : qa_T} {r : (Int32 × qa_T)} (h : qa_fL_cell L a2 σ = some r) : qa_Bn L 0 qa_mL_cell 0 (qa_ag 0 [.inl (0, 0), .inr (.int a2)]) [] σ (some (.inr (.int r.1))) r.2 := by
  unfold qa_fL_cell at h
  try dsimp only at h
  show qa_Bn L 0 qa_mL_cell 0 [(0, .inl (0, 0)), (1, .inr (.int a2))] [] σ _ _
  refine qa_bn_do (pc' := 1) rfl rfl ?_
  refine qa_bn_do (pc' := 2) rfl rfl ?_
  refine qa_bn_al rfl qa_dx_0_0 (Or.inr rfl) ?_
  rcases qa_ite h with ⟨hc1, h⟩ | ⟨hc1, h⟩
  · refine qa_bn_1t (a := 12) (b := 6) hc1 rfl rfl ?_
    refine qa_bn_do (pc' := 15) rfl rfl ?_
    refine qa_bn_do (pc' := 16) rfl rfl ?_
    refine qa_bn_do (pc' := 17) rfl rfl ?_
    refine qa_bn_do (pc' := 18) rfl rfl ?_
    refine qa_bn_do (pc' := 19) rfl rfl ?_
    refine qa_bn_do (pc' := 20) rfl rfl ?_
    refine qa_bn_do (pc' := 22) rfl rfl ?_
    refine qa_bn_do (pc' := 23) rfl rfl ?_
    refine qa_bn_do (pc' := 24) rfl rfl ?_
    exact qa_bn_mono (N := 0) (by omega) <| qa_bn_lw (qa_tL_cell_24 hL h) rfl rfl (And.intro rfl (And.intro rfl (trivial)))
  · refine qa_bn_1f (a := 12) (b := 6) hc1 rfl rfl ?_
    refine qa_bn_do (pc' := 7) rfl rfl ?_
    refine qa_bn_do (pc' := 8) rfl rfl ?_
    rcases qa_ite h with ⟨_, h⟩ | ⟨hc2, h⟩
    · cases h
    refine qa_bn_ia rfl qa_dx_0_0 (Or.inr rfl) (Decidable.of_not_not hc2) ?_
    refine qa_bn_do (pc' := 24) rfl rfl ?_
    exact qa_bn_mono (N := 0) (by omega) <| qa_bn_lw (qa_tL_cell_24 hL h) rfl rfl (And.intro rfl (And.intro rfl (trivial)))
noncomputable def qa_fL_low (a1 : Int32) (a2 : Int32) (σ : qa_T) : Option (Int32 × qa_T) :=
    if a2 = 0 then none else
    some (((a1 &&& (2147483647 : Int32)) - (a1 &&& (2147483647 : Int32)) / a2 * a2), σ)
set_option maxRecDepth 1000000 in
theorem qa_tL_low {L : Nat} {a1 : Int32} {a2 : Int32}  {σ : qa_T} {r : (Int32 × qa_T)} (h : qa_fL_low a1 a2 σ = some r) : qa_Bn L 0 qa_mL_low 0 (qa_ag 0 [.inr (.int a1), .inr (.int a2)]) [] σ (some (.inr (.int r.1))) r.2 := by
  unfold qa_fL_low at h
  try dsimp only at h
  show qa_Bn L 0 qa_mL_low 0 [(0, .inr (.int a1)), (1, .inr (.int a2))] [] σ _ _
  refine qa_bn_do (pc' := 1) rfl rfl ?_
  refine qa_bn_do (pc' := 3) rfl rfl ?_
  refine qa_bn_do (pc' := 4) rfl rfl ?_
  refine qa_bn_do (pc' := 5) rfl rfl ?_
  rcases qa_ite h with ⟨_, h⟩ | ⟨hc1, h⟩
  · cases h
  refine qa_bn_rm hc1 rfl ?_
  cases h
  exact qa_bn_ri rfl rfl
noncomputable def qa_fL_told_39 (a2 : Int32) (y0 : Int32) (σ : qa_T) : Option (Int32 × qa_T) :=
    some (y0, σ)
noncomputable def qa_fL_told (a2 : Int32) (σ : qa_T) : Option (Int32 × qa_T) :=
    if ¬ a2 = 0 then
      if ¬ a2 = (Int32.ofInt 1) then
        if ¬ a2 = (Int32.ofInt 2) then
          (some (qa_fX9_loading σ)).bind fun c4 => match c4 with
            | (.inl r6, σ7) =>
              qa_fL_told_39 a2 r6 σ7
            | (.inr E8, σ7) =>
              if E8 = 348 then some (Int32.ofInt (-1), σ7) else
              none
        else
          (some (qa_fX9_fading σ)).bind fun c10 => match c10 with
            | (.inl r12, σ13) =>
              qa_fL_told_39 a2 r12 σ13
            | (.inr E14, σ13) =>
              if E14 = 348 then some (Int32.ofInt (-1), σ13) else
              none
      else
        (some (qa_fX9_shown σ)).bind fun c16 => match c16 with
          | (.inl r18, σ19) =>
            qa_fL_told_39 a2 r18 σ19
          | (.inr E20, σ19) =>
            if E20 = 348 then some (Int32.ofInt (-1), σ19) else
            none
    else
      (some (qa_fX9_awaited σ)).bind fun c22 => match c22 with
        | (.inl r24, σ25) =>
          qa_fL_told_39 a2 r24 σ25
        | (.inr E26, σ25) =>
          if E26 = 348 then some (Int32.ofInt (-1), σ25) else
          none
set_option maxRecDepth 1000000 in
theorem qa_tL_told_39 {L : Nat} {a2 : Int32}  {y0 : Int32} {σ : qa_T} {r : (Int32 × qa_T)} (h : qa_fL_told_39 a2 y0 σ = some r) : qa_Bn L (0) qa_mL_told 39 [(0, .inl (0, 1)), (1, .inr (.int a2))] [.inr (.int y0)] σ (some (.inr (.int r.1))) r.2 := by
  unfold qa_fL_told_39 at h
  try dsimp only at h
  refine qa_bn_mono (N := 0) (by omega) ?_
  cases h
  exact qa_bn_ri rfl rfl
set_option maxRecDepth 1000000 in
theorem qa_tL_told {L : Nat} {a2 : Int32}  {σ : qa_T} {r : (Int32 × qa_T)} (h : qa_fL_told a2 σ = some r) : qa_Bn L 1 qa_mL_told 0 (qa_ag 0 [.inl (0, 1), .inr (.int a2)]) [] σ (some (.inr (.int r.1))) r.2 := by
  unfold qa_fL_told at h
  try dsimp only at h
  show qa_Bn L 1 qa_mL_told 0 [(0, .inl (0, 1)), (1, .inr (.int a2))] [] σ _ _
  refine qa_bn_do (pc' := 1) rfl rfl ?_
  rcases qa_ite h with ⟨hc1, h⟩ | ⟨hc1, h⟩
  · refine qa_bn_1t (a := 11) (b := 4) hc1 rfl rfl ?_
    refine qa_bn_do (pc' := 12) rfl rfl ?_
    refine qa_bn_do (pc' := 13) rfl rfl ?_
    rcases qa_ite h with ⟨hc2, h⟩ | ⟨hc2, h⟩
    · refine qa_bn_1t (a := 23) (b := 16) hc2 rfl rfl ?_
      refine qa_bn_do (pc' := 24) rfl rfl ?_
      refine qa_bn_do (pc' := 25) rfl rfl ?_
      rcases qa_ite h with ⟨hc3, h⟩ | ⟨hc3, h⟩
      · refine qa_bn_1t (a := 35) (b := 28) hc3 rfl rfl ?_
        refine qa_bn_do (pc' := 36) rfl rfl ?_
        obtain ⟨⟨c4, σ7⟩, hc5, h⟩ := Option.bind_eq_some_iff.mp h
        have hc5 := Option.some.inj hc5
        cases c4 with
        | inl r6 =>
          try dsimp only at h
          refine qa_bn_mono (N := 0) (by omega) ?_
          refine qa_bn_cv (qa_tX9_loading hc5) rfl rfl rfl rfl rfl rfl rfl qa_dx_0_1 ?_
          exact qa_bn_mono (N := 0) (by omega) <| qa_bn_lw (qa_tL_told_39  h) rfl rfl (And.intro rfl (And.intro rfl (trivial)))
        | inr E8 =>
          try dsimp only at h
          rcases qa_ite h with ⟨hE9, h⟩ | ⟨_, h⟩
          · cases h
            subst hE9
            exact qa_bn_mono (N := 1) (by omega) <| qa_bn_ct (qa_tX9_loading hc5) rfl rfl rfl rfl rfl rfl rfl qa_dx_0_1 rfl rfl rfl (fun _ _ => rfl)
          cases h
      · refine qa_bn_1f (a := 35) (b := 28) hc3 rfl rfl ?_
        refine qa_bn_do (pc' := 29) rfl rfl ?_
        obtain ⟨⟨c10, σ13⟩, hc11, h⟩ := Option.bind_eq_some_iff.mp h
        have hc11 := Option.some.inj hc11
        cases c10 with
        | inl r12 =>
          try dsimp only at h
          refine qa_bn_mono (N := 0) (by omega) ?_
          refine qa_bn_cv (qa_tX9_fading hc11) rfl rfl rfl rfl rfl rfl rfl qa_dx_0_1 ?_
          refine qa_bn_do (pc' := 39) rfl rfl ?_
          exact qa_bn_mono (N := 0) (by omega) <| qa_bn_lw (qa_tL_told_39  h) rfl rfl (And.intro rfl (And.intro rfl (trivial)))
        | inr E14 =>
          try dsimp only at h
          rcases qa_ite h with ⟨hE15, h⟩ | ⟨_, h⟩
          · cases h
            subst hE15
            exact qa_bn_mono (N := 1) (by omega) <| qa_bn_ct (qa_tX9_fading hc11) rfl rfl rfl rfl rfl rfl rfl qa_dx_0_1 rfl rfl rfl (fun _ _ => rfl)
          cases h
    · refine qa_bn_1f (a := 23) (b := 16) hc2 rfl rfl ?_
      refine qa_bn_do (pc' := 17) rfl rfl ?_
      obtain ⟨⟨c16, σ19⟩, hc17, h⟩ := Option.bind_eq_some_iff.mp h
      have hc17 := Option.some.inj hc17
      cases c16 with
      | inl r18 =>
        try dsimp only at h
        refine qa_bn_mono (N := 0) (by omega) ?_
        refine qa_bn_cv (qa_tX9_shown hc17) rfl rfl rfl rfl rfl rfl rfl qa_dx_0_1 ?_
        refine qa_bn_do (pc' := 39) rfl rfl ?_
        exact qa_bn_mono (N := 0) (by omega) <| qa_bn_lw (qa_tL_told_39  h) rfl rfl (And.intro rfl (And.intro rfl (trivial)))
      | inr E20 =>
        try dsimp only at h
        rcases qa_ite h with ⟨hE21, h⟩ | ⟨_, h⟩
        · cases h
          subst hE21
          exact qa_bn_mono (N := 1) (by omega) <| qa_bn_ct (qa_tX9_shown hc17) rfl rfl rfl rfl rfl rfl rfl qa_dx_0_1 rfl rfl rfl (fun _ _ => rfl)
        cases h
  · refine qa_bn_1f (a := 11) (b := 4) hc1 rfl rfl ?_
    refine qa_bn_do (pc' := 5) rfl rfl ?_
    obtain ⟨⟨c22, σ25⟩, hc23, h⟩ := Option.bind_eq_some_iff.mp h
    have hc23 := Option.some.inj hc23
    cases c22 with
    | inl r24 =>
      try dsimp only at h
      refine qa_bn_mono (N := 0) (by omega) ?_
      refine qa_bn_cv (qa_tX9_awaited hc23) rfl rfl rfl rfl rfl rfl rfl qa_dx_0_1 ?_
      refine qa_bn_do (pc' := 39) rfl rfl ?_
      exact qa_bn_mono (N := 0) (by omega) <| qa_bn_lw (qa_tL_told_39  h) rfl rfl (And.intro rfl (And.intro rfl (trivial)))
    | inr E26 =>
      try dsimp only at h
      rcases qa_ite h with ⟨hE27, h⟩ | ⟨_, h⟩
      · cases h
        subst hE27
        exact qa_bn_mono (N := 1) (by omega) <| qa_bn_ct (qa_tX9_awaited hc23) rfl rfl rfl rfl rfl rfl rfl qa_dx_0_1 rfl rfl rfl (fun _ _ => rfl)
      cases h
noncomputable def qa_fL_showPlace  (σ : qa_T) : Option (Int32 × qa_T) :=
    (some (qa_fX9_showPlace σ)).bind fun c1 => match c1 with
      | (.inl r3, σ4) =>
        some (r3, σ4)
      | (.inr E5, σ4) =>
        if E5 = 348 then some (Int32.ofInt (-1), σ4) else
        none
set_option maxRecDepth 1000000 in
theorem qa_tL_showPlace {L : Nat}  {σ : qa_T} {r : (Int32 × qa_T)} (h : qa_fL_showPlace  σ = some r) : qa_Bn L 1 qa_mL_showPlace 0 (qa_ag 0 [.inl (0, 1)]) [] σ (some (.inr (.int r.1))) r.2 := by
  unfold qa_fL_showPlace at h
  try dsimp only at h
  show qa_Bn L 1 qa_mL_showPlace 0 [(0, .inl (0, 1))] [] σ _ _
  refine qa_bn_do (pc' := 1) rfl rfl ?_
  obtain ⟨⟨c1, σ4⟩, hc2, h⟩ := Option.bind_eq_some_iff.mp h
  have hc2 := Option.some.inj hc2
  cases c1 with
  | inl r3 =>
    try dsimp only at h
    refine qa_bn_mono (N := 0) (by omega) ?_
    refine qa_bn_cv (qa_tX9_showPlace hc2) rfl rfl rfl rfl rfl rfl rfl qa_dx_0_1 ?_
    cases h
    exact qa_bn_ri rfl rfl
  | inr E5 =>
    try dsimp only at h
    rcases qa_ite h with ⟨hE6, h⟩ | ⟨_, h⟩
    · cases h
      subst hE6
      exact qa_bn_mono (N := 1) (by omega) <| qa_bn_ct (qa_tX9_showPlace hc2) rfl rfl rfl rfl rfl rfl rfl qa_dx_0_1 rfl rfl rfl (fun _ _ => rfl)
    cases h
noncomputable def qa_fL_isAsked_30 (a2 : Int32) (k4 : Int32 → Int32 → qa_T → Option (Bool × qa_T)) (x3 : Int32) (σ : qa_T) : Option (Bool × qa_T) :=
    let v4 : Int32 := x3 + Int32.ofInt 1
    k4 (Int32.ofInt 1) v4 σ
noncomputable def qa_fL_isAsked_25 (a2 : Int32) (k4 : Int32 → Int32 → qa_T → Option (Bool × qa_T)) (x3 : Int32) (σ : qa_T) : Option (Bool × qa_T) :=
    qa_fL_isAsked_30 a2 k4 x3 σ
noncomputable def qa_fL_isAsked_30_1 (a2 : Int32) (k4 : Int32 → Int32 → qa_T → Option (Bool × qa_T)) (x3 : Int32) (σ : qa_T) : Option (Bool × qa_T) :=
    let v11 : Int32 := x3 + Int32.ofInt 1
    k4 (Int32.ofInt 0) v11 σ
noncomputable def qa_fL_isAsked_4 (a2 : Int32) : Nat → Int32 → Int32 → qa_T → Option (Bool × qa_T)
  | 0, _, _, _ => none
  | n + 1, x2, x3, σ =>
    if (qa_fX9_asked σ) ≤ x3 then
      if x2 = 0 then some (false, σ) else if x2 = 1 then some (true, σ) else none
    else
      if ¬ x2 = 0 then
        qa_fL_isAsked_25 a2 (qa_fL_isAsked_4 a2 n) x3 σ
      else
        (some (qa_fX9_askedAt x3 σ)).bind fun c5 => match c5 with
          | (.inl r7, σ8) =>
            if ¬ r7 = a2 then
              qa_fL_isAsked_30_1 a2 (qa_fL_isAsked_4 a2 n) x3 σ8
            else
              qa_fL_isAsked_25 a2 (qa_fL_isAsked_4 a2 n) x3 σ8
          | (.inr E9, σ8) =>
            none
noncomputable def qa_fL_isAsked (a2 : Int32) (σ : qa_T) : Option (Bool × qa_T) :=
    qa_fL_isAsked_4 a2 qa_gu (Int32.ofInt 0) (Int32.ofInt 0) σ
set_option maxRecDepth 1000000 in
theorem qa_tL_isAsked_30 {L : Nat} {a2 : Int32}  {k4 : Int32 → Int32 → qa_T → Option (Bool × qa_T)} {Nh : Nat} (K4 : ∀ (x2 : Int32) (x3 : Int32) (σ : qa_T) (r : (Bool × qa_T)), k4 x2 x3 σ = some r → qa_Bn L Nh qa_mL_isAsked 4 [(0, .inl (0, 1)), (1, .inr (.int a2)), (2, .inr (.int x2)), (3, .inr (.int x3))] [] σ (some (.inr (.int (qa_bi r.1)))) r.2) {x3 : Int32} {σ : qa_T} {r : (Bool × qa_T)} (h : qa_fL_isAsked_30 a2 k4 x3 σ = some r) : qa_Bn L (0 + Nh) qa_mL_isAsked 30 [(0, .inl (0, 1)), (1, .inr (.int a2)), (3, .inr (.int x3))] [.inr (.int (Int32.ofInt 1))] σ (some (.inr (.int (qa_bi r.1)))) r.2 := by
  unfold qa_fL_isAsked_30 at h
  try dsimp only at h
  refine qa_bn_mono (N := 0 + Nh) (by omega) ?_
  refine qa_bn_do (pc' := 31) (lv' := [(2, _), (0, _), (1, _), (3, _)]) rfl rfl ?_
  refine qa_bn_do (pc' := 34) (lv' := [(3, _), (2, _), (0, _), (1, _)]) rfl rfl ?_
  refine qa_bn_do (pc' := 4) rfl rfl ?_
  exact qa_bn_mono (N := Nh) (by omega) <| qa_bn_lw (K4 _ _ _ _ h) rfl rfl (And.intro rfl (And.intro rfl (And.intro rfl (And.intro rfl (trivial)))))
set_option maxRecDepth 1000000 in
theorem qa_tL_isAsked_25 {L : Nat} {a2 : Int32}  {k4 : Int32 → Int32 → qa_T → Option (Bool × qa_T)} {Nh : Nat} (K4 : ∀ (x2 : Int32) (x3 : Int32) (σ : qa_T) (r : (Bool × qa_T)), k4 x2 x3 σ = some r → qa_Bn L Nh qa_mL_isAsked 4 [(0, .inl (0, 1)), (1, .inr (.int a2)), (2, .inr (.int x2)), (3, .inr (.int x3))] [] σ (some (.inr (.int (qa_bi r.1)))) r.2) {x3 : Int32} {σ : qa_T} {r : (Bool × qa_T)} (h : qa_fL_isAsked_25 a2 k4 x3 σ = some r) : qa_Bn L (0 + Nh) qa_mL_isAsked 25 [(0, .inl (0, 1)), (1, .inr (.int a2)), (3, .inr (.int x3))] [] σ (some (.inr (.int (qa_bi r.1)))) r.2 := by
  unfold qa_fL_isAsked_25 at h
  try dsimp only at h
  refine qa_bn_mono (N := 0 + Nh) (by omega) ?_
  refine qa_bn_do (pc' := 26) rfl rfl ?_
  refine qa_bn_do (pc' := 30) rfl rfl ?_
  exact qa_bn_mono (N := 0 + (Nh)) (by omega) <| qa_bn_lw (qa_tL_isAsked_30  K4 h) rfl rfl (And.intro rfl (And.intro rfl (And.intro rfl (trivial))))
set_option maxRecDepth 1000000 in
theorem qa_tL_isAsked_30_1 {L : Nat} {a2 : Int32}  {k4 : Int32 → Int32 → qa_T → Option (Bool × qa_T)} {Nh : Nat} (K4 : ∀ (x2 : Int32) (x3 : Int32) (σ : qa_T) (r : (Bool × qa_T)), k4 x2 x3 σ = some r → qa_Bn L Nh qa_mL_isAsked 4 [(0, .inl (0, 1)), (1, .inr (.int a2)), (2, .inr (.int x2)), (3, .inr (.int x3))] [] σ (some (.inr (.int (qa_bi r.1)))) r.2) {x3 : Int32} {σ : qa_T} {r : (Bool × qa_T)} (h : qa_fL_isAsked_30_1 a2 k4 x3 σ = some r) : qa_Bn L (0 + Nh) qa_mL_isAsked 30 [(0, .inl (0, 1)), (1, .inr (.int a2)), (3, .inr (.int x3))] [.inr (.int (Int32.ofInt 0))] σ (some (.inr (.int (qa_bi r.1)))) r.2 := by
  unfold qa_fL_isAsked_30_1 at h
  try dsimp only at h
  refine qa_bn_mono (N := 0 + Nh) (by omega) ?_
  refine qa_bn_do (pc' := 31) (lv' := [(2, _), (0, _), (1, _), (3, _)]) rfl rfl ?_
  refine qa_bn_do (pc' := 34) (lv' := [(3, _), (2, _), (0, _), (1, _)]) rfl rfl ?_
  refine qa_bn_do (pc' := 4) rfl rfl ?_
  exact qa_bn_mono (N := Nh) (by omega) <| qa_bn_lw (K4 _ _ _ _ h) rfl rfl (And.intro rfl (And.intro rfl (And.intro rfl (And.intro rfl (trivial)))))
set_option maxRecDepth 1000000 in
theorem qa_tL_isAsked_4 {L : Nat} {a2 : Int32}  : ∀ (n : Nat) (x2 : Int32) (x3 : Int32) (σ : qa_T) (r : (Bool × qa_T)), qa_fL_isAsked_4 a2 n x2 x3 σ = some r → qa_Bn L (n * 0 + 0) qa_mL_isAsked 4 [(0, .inl (0, 1)), (1, .inr (.int a2)), (2, .inr (.int x2)), (3, .inr (.int x3))] [] σ (some (.inr (.int (qa_bi r.1)))) r.2 := by
  intro n
  induction n with
  | zero => intro x2 x3 σ r h; cases h
  | succ n ih =>
    intro x2 x3 σ r h
    unfold qa_fL_isAsked_4 at h
    try dsimp only at h
    refine qa_bn_mono (N := 0 + n * 0) (by omega) ?_
    refine qa_bn_do (pc' := 5) rfl rfl ?_
    refine qa_bn_do (pc' := 6) rfl rfl ?_
    refine qa_bn_cv (qa_tX9_asked rfl) rfl rfl rfl rfl rfl rfl rfl qa_dx_0_1 ?_
    rcases qa_ite h with ⟨hc1, h⟩ | ⟨hc1, h⟩
    · refine qa_bn_1t (a := 37) (b := 12) hc1 rfl rfl ?_
      refine qa_bn_do (pc' := 38) rfl rfl ?_
      rcases qa_ite h with ⟨hc2, h⟩ | ⟨_, h⟩
      · cases h
        exact qa_bn_rb (b := false) hc2 rfl rfl
      · rcases qa_ite h with ⟨hc2, h⟩ | ⟨_, h⟩
        · cases h
          exact qa_bn_rb (b := true) hc2 rfl rfl
        · cases h
    · refine qa_bn_1f (a := 37) (b := 12) hc1 rfl rfl ?_
      refine qa_bn_do (pc' := 13) rfl rfl ?_
      rcases qa_ite h with ⟨hc3, h⟩ | ⟨hc3, h⟩
      · refine qa_bn_1t (a := 25) (b := 16) hc3 rfl rfl ?_
        exact qa_bn_mono (N := 0 + (n * 0 + 0)) (by omega) <| qa_bn_lw (qa_tL_isAsked_25  ih h) rfl rfl (And.intro rfl (And.intro rfl (And.intro rfl (trivial))))
      · refine qa_bn_1f (a := 25) (b := 16) hc3 rfl rfl ?_
        refine qa_bn_do (pc' := 17) rfl rfl ?_
        refine qa_bn_do (pc' := 18) rfl rfl ?_
        obtain ⟨⟨c5, σ8⟩, hc6, h⟩ := Option.bind_eq_some_iff.mp h
        have hc6 := Option.some.inj hc6
        cases c5 with
        | inl r7 =>
          try dsimp only at h
          refine qa_bn_cv (qa_tX9_askedAt hc6) rfl rfl rfl rfl rfl rfl rfl qa_dx_0_1 ?_
          refine qa_bn_do (pc' := 22) rfl rfl ?_
          rcases qa_ite h with ⟨hc10, h⟩ | ⟨hc10, h⟩
          · refine qa_bn_1t (a := 29) (b := 25) hc10 rfl rfl ?_
            refine qa_bn_do (pc' := 30) rfl rfl ?_
            exact qa_bn_mono (N := 0 + (n * 0 + 0)) (by omega) <| qa_bn_lw (qa_tL_isAsked_30_1  ih h) rfl rfl (And.intro rfl (And.intro rfl (And.intro rfl (trivial))))
          · refine qa_bn_1f (a := 29) (b := 25) hc10 rfl rfl ?_
            exact qa_bn_mono (N := 0 + (n * 0 + 0)) (by omega) <| qa_bn_lw (qa_tL_isAsked_25  ih h) rfl rfl (And.intro rfl (And.intro rfl (And.intro rfl (trivial))))
        | inr E9 =>
          try dsimp only at h
          cases h
set_option maxRecDepth 1000000 in
theorem qa_tL_isAsked {L : Nat} {a2 : Int32}  {σ : qa_T} {r : (Bool × qa_T)} (h : qa_fL_isAsked a2 σ = some r) : qa_Bn L 0 qa_mL_isAsked 0 (qa_ag 0 [.inl (0, 1), .inr (.int a2)]) [] σ (some (.inr (.int (qa_bi r.1)))) r.2 := by
  unfold qa_fL_isAsked at h
  try dsimp only at h
  show qa_Bn L 0 qa_mL_isAsked 0 [(0, .inl (0, 1)), (1, .inr (.int a2))] [] σ _ _
  refine qa_bn_do (pc' := 1) rfl rfl ?_
  refine qa_bn_do (pc' := 2) (lv' := [(2, _), (0, _), (1, _)]) rfl rfl ?_
  refine qa_bn_do (pc' := 3) rfl rfl ?_
  refine qa_bn_do (pc' := 4) (lv' := [(3, _), (2, _), (0, _), (1, _)]) rfl rfl ?_
  exact qa_bn_mono (N := qa_gu * 0 + 0) (Nat.le_of_ble_eq_true rfl) <| qa_bn_lw (qa_tL_isAsked_4  _ _ _ _ _ h) rfl rfl (And.intro rfl (And.intro rfl (And.intro rfl (And.intro rfl (trivial)))))
noncomputable def qa_fL_isInserted_67 (a2 : Int32) (a3 : Int32) (σ : qa_T) : Option (Bool × qa_T) :=
    some (false, σ)
noncomputable def qa_fL_isInserted_60 (a2 : Int32) (a3 : Int32) (y0 : Int32) (y1 : Int32) (σ : qa_T) : Option (Bool × qa_T) :=
    if ¬ y1 = y0 then
      qa_fL_isInserted_67 a2 a3 σ
    else
      some (true, σ)
noncomputable def qa_fL_isInserted (a2 : Int32) (a3 : Int32) (σ : qa_T) : Option (Bool × qa_T) :=
    (qa_fL_showPlace σ).bind fun c1 =>
    let v3 : Int32 := (qa_fX9_places c1.2)
    (qa_fX9_insert a2 a3 c1.2).bind fun c4 => match c4 with
      | (.inl r6, σ7) =>
        if ¬ r6 = (v3 + (Int32.ofInt 1)) then
          qa_fL_isInserted_67 a2 a3 σ7
        else
          if ¬ (qa_fX9_places σ7) = (v3 + (Int32.ofInt 1)) then
            qa_fL_isInserted_67 a2 a3 σ7
          else
            (some (qa_fX9_slideAt a2 σ7)).bind fun c11 => match c11 with
              | (.inl r13, σ14) =>
                if ¬ r13 = a3 then
                  qa_fL_isInserted_67 a2 a3 σ14
                else
                  (qa_fL_showPlace σ14).bind fun c17 =>
                  if c1.1 < a2 then
                    qa_fL_isInserted_60 a2 a3 c1.1 c17.1 c17.2
                  else
                    qa_fL_isInserted_60 a2 a3 (c1.1 + (Int32.ofInt 1)) c17.1 c17.2
              | (.inr E15, σ14) =>
                none
      | (.inr E8, σ7) =>
        none
set_option maxRecDepth 1000000 in
theorem qa_tL_isInserted_67 {L : Nat} {a2 : Int32} {a3 : Int32}  {σ : qa_T} {r : (Bool × qa_T)} (h : qa_fL_isInserted_67 a2 a3 σ = some r) : qa_Bn L (0) qa_mL_isInserted 67 [(0, .inl (0, 1)), (1, .inr (.int a2)), (2, .inr (.int a3))] [] σ (some (.inr (.int (qa_bi r.1)))) r.2 := by
  unfold qa_fL_isInserted_67 at h
  try dsimp only at h
  refine qa_bn_mono (N := 0) (by omega) ?_
  refine qa_bn_do (pc' := 68) rfl rfl ?_
  cases h
  exact qa_bn_rb rfl rfl rfl
set_option maxRecDepth 1000000 in
theorem qa_tL_isInserted_60 {L : Nat} {a2 : Int32} {a3 : Int32}  {y0 : Int32} {y1 : Int32} {σ : qa_T} {r : (Bool × qa_T)} (h : qa_fL_isInserted_60 a2 a3 y0 y1 σ = some r) : qa_Bn L (0) qa_mL_isInserted 60 [(0, .inl (0, 1)), (1, .inr (.int a2)), (2, .inr (.int a3))] [.inr (.int y0), .inr (.int y1)] σ (some (.inr (.int (qa_bi r.1)))) r.2 := by
  unfold qa_fL_isInserted_60 at h
  try dsimp only at h
  refine qa_bn_mono (N := 0) (by omega) ?_
  rcases qa_ite h with ⟨hc20, h⟩ | ⟨hc20, h⟩
  · refine qa_bn_1t (a := 67) (b := 63) hc20 rfl rfl ?_
    exact qa_bn_mono (N := 0) (by omega) <| qa_bn_lw (qa_tL_isInserted_67  h) rfl rfl (And.intro rfl (And.intro rfl (And.intro rfl (trivial))))
  · refine qa_bn_1f (a := 67) (b := 63) hc20 rfl rfl ?_
    refine qa_bn_do (pc' := 64) rfl rfl ?_
    refine qa_bn_do (pc' := 68) rfl rfl ?_
    cases h
    exact qa_bn_rb rfl rfl rfl
set_option maxRecDepth 1000000 in
theorem qa_tL_isInserted {L : Nat} {a2 : Int32} {a3 : Int32}  {σ : qa_T} {r : (Bool × qa_T)} (h : qa_fL_isInserted a2 a3 σ = some r) : qa_Bn L 2 qa_mL_isInserted 0 (qa_ag 0 [.inl (0, 1), .inr (.int a2), .inr (.int a3)]) [] σ (some (.inr (.int (qa_bi r.1)))) r.2 := by
  unfold qa_fL_isInserted at h
  try dsimp only at h
  show qa_Bn L 2 qa_mL_isInserted 0 [(0, .inl (0, 1)), (1, .inr (.int a2)), (2, .inr (.int a3))] [] σ _ _
  refine qa_bn_do (pc' := 1) rfl rfl ?_
  obtain ⟨c1, hc2, h⟩ := Option.bind_eq_some_iff.mp h
  refine qa_bn_cl (N1 := 1) (N2 := 1) (N := 2) (by omega) (qa_tL_showPlace hc2) rfl rfl rfl rfl rfl rfl rfl ?_
  refine qa_bn_do (pc' := 5) (lv' := [(3, _), (0, _), (1, _), (2, _)]) rfl rfl ?_
  refine qa_bn_do (pc' := 6) rfl rfl ?_
  refine qa_bn_cv (qa_tX9_places rfl) rfl rfl rfl rfl rfl rfl rfl qa_dx_0_1 ?_
  refine qa_bn_do (pc' := 11) (lv' := [(4, _), (3, _), (0, _), (1, _), (2, _)]) rfl rfl ?_
  refine qa_bn_do (pc' := 12) rfl rfl ?_
  refine qa_bn_do (pc' := 13) rfl rfl ?_
  refine qa_bn_do (pc' := 14) rfl rfl ?_
  obtain ⟨⟨c4, σ7⟩, hc5, h⟩ := Option.bind_eq_some_iff.mp h
  cases c4 with
  | inl r6 =>
    try dsimp only at h
    refine qa_bn_cv (qa_tX9_insert hc5) rfl rfl rfl rfl rfl rfl rfl qa_dx_0_1 ?_
    refine qa_bn_do (pc' := 19) rfl rfl ?_
    refine qa_bn_do (pc' := 20) rfl rfl ?_
    refine qa_bn_do (pc' := 21) rfl rfl ?_
    rcases qa_ite h with ⟨hc9, h⟩ | ⟨hc9, h⟩
    · refine qa_bn_1t (a := 67) (b := 24) hc9 rfl rfl ?_
      exact qa_bn_mono (N := 0) (by omega) <| qa_bn_lw (qa_tL_isInserted_67  h) rfl rfl (And.intro rfl (And.intro rfl (And.intro rfl (trivial))))
    · refine qa_bn_1f (a := 67) (b := 24) hc9 rfl rfl ?_
      refine qa_bn_do (pc' := 25) rfl rfl ?_
      refine qa_bn_cv (qa_tX9_places rfl) rfl rfl rfl rfl rfl rfl rfl qa_dx_0_1 ?_
      refine qa_bn_do (pc' := 30) rfl rfl ?_
      refine qa_bn_do (pc' := 31) rfl rfl ?_
      refine qa_bn_do (pc' := 32) rfl rfl ?_
      rcases qa_ite h with ⟨hc10, h⟩ | ⟨hc10, h⟩
      · refine qa_bn_1t (a := 67) (b := 35) hc10 rfl rfl ?_
        exact qa_bn_mono (N := 0) (by omega) <| qa_bn_lw (qa_tL_isInserted_67  h) rfl rfl (And.intro rfl (And.intro rfl (And.intro rfl (trivial))))
      · refine qa_bn_1f (a := 67) (b := 35) hc10 rfl rfl ?_
        refine qa_bn_do (pc' := 36) rfl rfl ?_
        refine qa_bn_do (pc' := 37) rfl rfl ?_
        obtain ⟨⟨c11, σ14⟩, hc12, h⟩ := Option.bind_eq_some_iff.mp h
        have hc12 := Option.some.inj hc12
        cases c11 with
        | inl r13 =>
          try dsimp only at h
          refine qa_bn_cv (qa_tX9_slideAt hc12) rfl rfl rfl rfl rfl rfl rfl qa_dx_0_1 ?_
          refine qa_bn_do (pc' := 41) rfl rfl ?_
          rcases qa_ite h with ⟨hc16, h⟩ | ⟨hc16, h⟩
          · refine qa_bn_1t (a := 67) (b := 44) hc16 rfl rfl ?_
            exact qa_bn_mono (N := 0) (by omega) <| qa_bn_lw (qa_tL_isInserted_67  h) rfl rfl (And.intro rfl (And.intro rfl (And.intro rfl (trivial))))
          · refine qa_bn_1f (a := 67) (b := 44) hc16 rfl rfl ?_
            refine qa_bn_do (pc' := 45) rfl rfl ?_
            obtain ⟨c17, hc18, h⟩ := Option.bind_eq_some_iff.mp h
            refine qa_bn_cl (N1 := 1) (N2 := 0) (N := 1) (by omega) (qa_tL_showPlace hc18) rfl rfl rfl rfl rfl rfl rfl ?_
            refine qa_bn_do (pc' := 49) rfl rfl ?_
            refine qa_bn_do (pc' := 50) rfl rfl ?_
            rcases qa_ite h with ⟨hc19, h⟩ | ⟨hc19, h⟩
            · refine qa_bn_1t (a := 59) (b := 53) hc19 rfl rfl ?_
              refine qa_bn_do (pc' := 60) rfl rfl ?_
              exact qa_bn_mono (N := 0) (by omega) <| qa_bn_lw (qa_tL_isInserted_60  h) rfl rfl (And.intro rfl (And.intro rfl (And.intro rfl (trivial))))
            · refine qa_bn_1f (a := 59) (b := 53) hc19 rfl rfl ?_
              refine qa_bn_do (pc' := 54) rfl rfl ?_
              refine qa_bn_do (pc' := 55) rfl rfl ?_
              refine qa_bn_do (pc' := 56) rfl rfl ?_
              refine qa_bn_do (pc' := 60) rfl rfl ?_
              exact qa_bn_mono (N := 0) (by omega) <| qa_bn_lw (qa_tL_isInserted_60  h) rfl rfl (And.intro rfl (And.intro rfl (And.intro rfl (trivial))))
        | inr E15 =>
          try dsimp only at h
          cases h
  | inr E8 =>
    try dsimp only at h
    cases h
noncomputable def qa_fL_isTaken_60 (a2 : Int32) (σ : qa_T) : Option (Bool × qa_T) :=
    some (false, σ)
noncomputable def qa_fL_isTaken_53 (a2 : Int32) (y0 : Int32) (y1 : Int32) (σ : qa_T) : Option (Bool × qa_T) :=
    if ¬ y1 = y0 then
      qa_fL_isTaken_60 a2 σ
    else
      some (true, σ)
noncomputable def qa_fL_isTaken (a2 : Int32) (σ : qa_T) : Option (Bool × qa_T) :=
    (qa_fL_showPlace σ).bind fun c1 =>
    let v3 : Int32 := (qa_fX9_places c1.2)
    (some (qa_fX9_slideAt a2 c1.2)).bind fun c4 => match c4 with
      | (.inl r6, σ7) =>
        (qa_fX9_takeOut a2 σ7).bind fun c9 => match c9 with
          | (.inl r11, σ12) =>
            if ¬ r11 = r6 then
              qa_fL_isTaken_60 a2 σ12
            else
              if ¬ (qa_fX9_places σ12) = (v3 - (Int32.ofInt 1)) then
                qa_fL_isTaken_60 a2 σ12
              else
                (qa_fL_showPlace σ12).bind fun c16 =>
                if c1.1 < a2 then
                  qa_fL_isTaken_53 a2 c1.1 c16.1 c16.2
                else
                  qa_fL_isTaken_53 a2 (c1.1 - (Int32.ofInt 1)) c16.1 c16.2
          | (.inr E13, σ12) =>
            none
      | (.inr E8, σ7) =>
        none
set_option maxRecDepth 1000000 in
theorem qa_tL_isTaken_60 {L : Nat} {a2 : Int32}  {σ : qa_T} {r : (Bool × qa_T)} (h : qa_fL_isTaken_60 a2 σ = some r) : qa_Bn L (0) qa_mL_isTaken 60 [(0, .inl (0, 1)), (1, .inr (.int a2))] [] σ (some (.inr (.int (qa_bi r.1)))) r.2 := by
  unfold qa_fL_isTaken_60 at h
  try dsimp only at h
  refine qa_bn_mono (N := 0) (by omega) ?_
  refine qa_bn_do (pc' := 61) rfl rfl ?_
  cases h
  exact qa_bn_rb rfl rfl rfl
set_option maxRecDepth 1000000 in
theorem qa_tL_isTaken_53 {L : Nat} {a2 : Int32}  {y0 : Int32} {y1 : Int32} {σ : qa_T} {r : (Bool × qa_T)} (h : qa_fL_isTaken_53 a2 y0 y1 σ = some r) : qa_Bn L (0) qa_mL_isTaken 53 [(0, .inl (0, 1)), (1, .inr (.int a2))] [.inr (.int y0), .inr (.int y1)] σ (some (.inr (.int (qa_bi r.1)))) r.2 := by
  unfold qa_fL_isTaken_53 at h
  try dsimp only at h
  refine qa_bn_mono (N := 0) (by omega) ?_
  rcases qa_ite h with ⟨hc19, h⟩ | ⟨hc19, h⟩
  · refine qa_bn_1t (a := 60) (b := 56) hc19 rfl rfl ?_
    exact qa_bn_mono (N := 0) (by omega) <| qa_bn_lw (qa_tL_isTaken_60  h) rfl rfl (And.intro rfl (And.intro rfl (trivial)))
  · refine qa_bn_1f (a := 60) (b := 56) hc19 rfl rfl ?_
    refine qa_bn_do (pc' := 57) rfl rfl ?_
    refine qa_bn_do (pc' := 61) rfl rfl ?_
    cases h
    exact qa_bn_rb rfl rfl rfl
set_option maxRecDepth 1000000 in
theorem qa_tL_isTaken {L : Nat} {a2 : Int32}  {σ : qa_T} {r : (Bool × qa_T)} (h : qa_fL_isTaken a2 σ = some r) : qa_Bn L 2 qa_mL_isTaken 0 (qa_ag 0 [.inl (0, 1), .inr (.int a2)]) [] σ (some (.inr (.int (qa_bi r.1)))) r.2 := by
  unfold qa_fL_isTaken at h
  try dsimp only at h
  show qa_Bn L 2 qa_mL_isTaken 0 [(0, .inl (0, 1)), (1, .inr (.int a2))] [] σ _ _
  refine qa_bn_do (pc' := 1) rfl rfl ?_
  obtain ⟨c1, hc2, h⟩ := Option.bind_eq_some_iff.mp h
  refine qa_bn_cl (N1 := 1) (N2 := 1) (N := 2) (by omega) (qa_tL_showPlace hc2) rfl rfl rfl rfl rfl rfl rfl ?_
  refine qa_bn_do (pc' := 5) (lv' := [(2, _), (0, _), (1, _)]) rfl rfl ?_
  refine qa_bn_do (pc' := 6) rfl rfl ?_
  refine qa_bn_cv (qa_tX9_places rfl) rfl rfl rfl rfl rfl rfl rfl qa_dx_0_1 ?_
  refine qa_bn_do (pc' := 10) (lv' := [(3, _), (2, _), (0, _), (1, _)]) rfl rfl ?_
  refine qa_bn_do (pc' := 11) rfl rfl ?_
  refine qa_bn_do (pc' := 12) rfl rfl ?_
  obtain ⟨⟨c4, σ7⟩, hc5, h⟩ := Option.bind_eq_some_iff.mp h
  have hc5 := Option.some.inj hc5
  cases c4 with
  | inl r6 =>
    try dsimp only at h
    refine qa_bn_cv (qa_tX9_slideAt hc5) rfl rfl rfl rfl rfl rfl rfl qa_dx_0_1 ?_
    refine qa_bn_do (pc' := 17) (lv' := [(4, _), (3, _), (2, _), (0, _), (1, _)]) rfl rfl ?_
    refine qa_bn_do (pc' := 18) rfl rfl ?_
    refine qa_bn_do (pc' := 19) rfl rfl ?_
    obtain ⟨⟨c9, σ12⟩, hc10, h⟩ := Option.bind_eq_some_iff.mp h
    cases c9 with
    | inl r11 =>
      try dsimp only at h
      refine qa_bn_cv (qa_tX9_takeOut hc10) rfl rfl rfl rfl rfl rfl rfl qa_dx_0_1 ?_
      refine qa_bn_do (pc' := 24) rfl rfl ?_
      rcases qa_ite h with ⟨hc14, h⟩ | ⟨hc14, h⟩
      · refine qa_bn_1t (a := 60) (b := 27) hc14 rfl rfl ?_
        exact qa_bn_mono (N := 0) (by omega) <| qa_bn_lw (qa_tL_isTaken_60  h) rfl rfl (And.intro rfl (And.intro rfl (trivial)))
      · refine qa_bn_1f (a := 60) (b := 27) hc14 rfl rfl ?_
        refine qa_bn_do (pc' := 28) rfl rfl ?_
        refine qa_bn_cv (qa_tX9_places rfl) rfl rfl rfl rfl rfl rfl rfl qa_dx_0_1 ?_
        refine qa_bn_do (pc' := 32) rfl rfl ?_
        refine qa_bn_do (pc' := 33) rfl rfl ?_
        refine qa_bn_do (pc' := 34) rfl rfl ?_
        rcases qa_ite h with ⟨hc15, h⟩ | ⟨hc15, h⟩
        · refine qa_bn_1t (a := 60) (b := 37) hc15 rfl rfl ?_
          exact qa_bn_mono (N := 0) (by omega) <| qa_bn_lw (qa_tL_isTaken_60  h) rfl rfl (And.intro rfl (And.intro rfl (trivial)))
        · refine qa_bn_1f (a := 60) (b := 37) hc15 rfl rfl ?_
          refine qa_bn_do (pc' := 38) rfl rfl ?_
          obtain ⟨c16, hc17, h⟩ := Option.bind_eq_some_iff.mp h
          refine qa_bn_cl (N1 := 1) (N2 := 0) (N := 1) (by omega) (qa_tL_showPlace hc17) rfl rfl rfl rfl rfl rfl rfl ?_
          refine qa_bn_do (pc' := 42) rfl rfl ?_
          refine qa_bn_do (pc' := 43) rfl rfl ?_
          rcases qa_ite h with ⟨hc18, h⟩ | ⟨hc18, h⟩
          · refine qa_bn_1t (a := 52) (b := 46) hc18 rfl rfl ?_
            refine qa_bn_do (pc' := 53) rfl rfl ?_
            exact qa_bn_mono (N := 0) (by omega) <| qa_bn_lw (qa_tL_isTaken_53  h) rfl rfl (And.intro rfl (And.intro rfl (trivial)))
          · refine qa_bn_1f (a := 52) (b := 46) hc18 rfl rfl ?_
            refine qa_bn_do (pc' := 47) rfl rfl ?_
            refine qa_bn_do (pc' := 48) rfl rfl ?_
            refine qa_bn_do (pc' := 49) rfl rfl ?_
            refine qa_bn_do (pc' := 53) rfl rfl ?_
            exact qa_bn_mono (N := 0) (by omega) <| qa_bn_lw (qa_tL_isTaken_53  h) rfl rfl (And.intro rfl (And.intro rfl (trivial)))
    | inr E13 =>
      try dsimp only at h
      cases h
  | inr E8 =>
    try dsimp only at h
    cases h
noncomputable def qa_fL_isGone_207  (σ : qa_T) : Option (Bool × qa_T) :=
    some (false, σ)
noncomputable def qa_fL_isGone_203  (σ : qa_T) : Option (Bool × qa_T) :=
    some (true, σ)
noncomputable def qa_fL_isGone_102  (x2 : Int32) (x3 : Int32) (x4 : Int32) (σ : qa_T) : Option (Bool × qa_T) :=
    if (Int32.ofInt 0) = 0 then
      qa_fL_isGone_207  σ
    else
      if x3 = 0 then
        (qa_fL_told (Int32.ofInt 0) σ).bind fun c28 =>
        if ¬ c28.1 = x2 then
          qa_fL_isGone_207  c28.2
        else
          (qa_fL_told (Int32.ofInt 1) c28.2).bind fun c31 =>
          if ¬ c31.1 = x4 then
            qa_fL_isGone_207  c31.2
          else
            qa_fL_isGone_203  c31.2
      else
        (qa_fL_told (Int32.ofInt 1) σ).bind fun c34 =>
        if ¬ c34.1 = x2 then
          qa_fL_isGone_207  c34.2
        else
          (some (qa_fX9_shownFor c34.2)).bind fun c37 => match c37 with
            | (.inl r39, σ40) =>
              if ¬ r39 = 0 then
                qa_fL_isGone_207  σ40
              else
                if x4 < 0 then
                  qa_fL_isGone_203  σ40
                else
                  if x4 = x2 then
                    qa_fL_isGone_203  σ40
                  else
                    (some (qa_fX9_fadeOf x2 σ40)).bind fun c45 => match c45 with
                      | (.inl r47, σ48) =>
                        if ¬ r47 = 0 then
                          (qa_fL_told (Int32.ofInt 2) σ48).bind fun c51 =>
                          if ¬ c51.1 = x4 then
                            qa_fL_isGone_207  c51.2
                          else
                            (some (qa_fX9_fadeOf x2 c51.2)).bind fun c54 => match c54 with
                              | (.inl r56, σ57) =>
                                if ¬ (qa_fX9_fadeLeft c51.2) = r56 then
                                  qa_fL_isGone_207  σ57
                                else
                                  qa_fL_isGone_203  σ57
                              | (.inr E58, σ57) =>
                                none
                        else
                          (qa_fL_told (Int32.ofInt 2) σ48).bind fun c60 =>
                          if 0 ≤ c60.1 then
                            qa_fL_isGone_207  c60.2
                          else
                            qa_fL_isGone_203  c60.2
                      | (.inr E49, σ48) =>
                        none
            | (.inr E41, σ40) =>
              none
noncomputable def qa_fL_isGone_101  (x2 : Int32) (x3 : Int32) (x4 : Int32) (σ : qa_T) : Option (Bool × qa_T) :=
    qa_fL_isGone_102  x2 x3 x4 σ
noncomputable def qa_fL_isGone_102_1  (x2 : Int32) (x3 : Int32) (x4 : Int32) (σ : qa_T) : Option (Bool × qa_T) :=
    if (Int32.ofInt 1) = 0 then
      qa_fL_isGone_207  σ
    else
      if x3 = 0 then
        (qa_fL_told (Int32.ofInt 0) σ).bind fun c72 =>
        if ¬ c72.1 = x2 then
          qa_fL_isGone_207  c72.2
        else
          (qa_fL_told (Int32.ofInt 1) c72.2).bind fun c75 =>
          if ¬ c75.1 = x4 then
            qa_fL_isGone_207  c75.2
          else
            qa_fL_isGone_203  c75.2
      else
        (qa_fL_told (Int32.ofInt 1) σ).bind fun c78 =>
        if ¬ c78.1 = x2 then
          qa_fL_isGone_207  c78.2
        else
          (some (qa_fX9_shownFor c78.2)).bind fun c81 => match c81 with
            | (.inl r83, σ84) =>
              if ¬ r83 = 0 then
                qa_fL_isGone_207  σ84
              else
                if x4 < 0 then
                  qa_fL_isGone_203  σ84
                else
                  if x4 = x2 then
                    qa_fL_isGone_203  σ84
                  else
                    (some (qa_fX9_fadeOf x2 σ84)).bind fun c89 => match c89 with
                      | (.inl r91, σ92) =>
                        if ¬ r91 = 0 then
                          (qa_fL_told (Int32.ofInt 2) σ92).bind fun c95 =>
                          if ¬ c95.1 = x4 then
                            qa_fL_isGone_207  c95.2
                          else
                            (some (qa_fX9_fadeOf x2 c95.2)).bind fun c98 => match c98 with
                              | (.inl r100, σ101) =>
                                if ¬ (qa_fX9_fadeLeft c95.2) = r100 then
                                  qa_fL_isGone_207  σ101
                                else
                                  qa_fL_isGone_203  σ101
                              | (.inr E102, σ101) =>
                                none
                        else
                          (qa_fL_told (Int32.ofInt 2) σ92).bind fun c104 =>
                          if 0 ≤ c104.1 then
                            qa_fL_isGone_207  c104.2
                          else
                            qa_fL_isGone_203  c104.2
                      | (.inr E93, σ92) =>
                        none
            | (.inr E85, σ84) =>
              none
noncomputable def qa_fL_isGone_85  (x1 : Int32) (x2 : Int32) (x3 : Int32) (x4 : Int32) (y1 : Int32) (y2 : Int32) (σ : qa_T) : Option (Bool × qa_T) :=
    if ¬ y2 = (y1 + (Int32.ofInt 1)) then
      qa_fL_isGone_101  x2 x3 x4 σ
    else
      (qa_fL_showPlace σ).bind fun c67 =>
      if ¬ c67.1 = x1 then
        qa_fL_isGone_101  x2 x3 x4 c67.2
      else
        qa_fL_isGone_102_1  x2 x3 x4 c67.2
noncomputable def qa_fL_isGone_85_1  (x1 : Int32) (x2 : Int32) (x3 : Int32) (x4 : Int32) (y1 : Int32) (y2 : Int32) (σ : qa_T) : Option (Bool × qa_T) :=
    if ¬ y2 = (y1 + (Int32.ofInt 0)) then
      qa_fL_isGone_101  x2 x3 x4 σ
    else
      (qa_fL_showPlace σ).bind fun c108 =>
      if ¬ c108.1 = x1 then
        qa_fL_isGone_101  x2 x3 x4 c108.2
      else
        qa_fL_isGone_102_1  x2 x3 x4 c108.2
noncomputable def qa_fL_isGone_66  (x1 : Int32) (x2 : Int32) (x3 : Int32) (x4 : Int32) (x6 : Int32) (y1 : Int32) (y2 : Int32) (σ : qa_T) : Option (Bool × qa_T) :=
    if ¬ y2 = (y1 + (Int32.ofInt 0)) then
      qa_fL_isGone_101  x2 x3 x4 σ
    else
      if x3 = 0 then
        qa_fL_isGone_85  x1 x2 x3 x4 x6 (qa_fX9_misses σ) σ
      else
        qa_fL_isGone_85_1  x1 x2 x3 x4 x6 (qa_fX9_misses σ) σ
noncomputable def qa_fL_isGone_66_1  (x1 : Int32) (x2 : Int32) (x3 : Int32) (x4 : Int32) (x6 : Int32) (y1 : Int32) (y2 : Int32) (σ : qa_T) : Option (Bool × qa_T) :=
    if ¬ y2 = (y1 + (Int32.ofInt 1)) then
      qa_fL_isGone_101  x2 x3 x4 σ
    else
      if x3 = 0 then
        qa_fL_isGone_85  x1 x2 x3 x4 x6 (qa_fX9_misses σ) σ
      else
        qa_fL_isGone_85_1  x1 x2 x3 x4 x6 (qa_fX9_misses σ) σ
noncomputable def qa_fL_isGone  (σ : qa_T) : Option (Bool × qa_T) :=
    (qa_fL_showPlace σ).bind fun c1 =>
    if (qa_fX9_places c1.2) = 0 then none else
    let v4 : Int32 := ((c1.1 + (Int32.ofInt 1)) - (c1.1 + (Int32.ofInt 1)) / (qa_fX9_places c1.2) * (qa_fX9_places c1.2))
    (some (qa_fX9_slideAt v4 c1.2)).bind fun c5 => match c5 with
      | (.inl r7, σ8) =>
        (some (qa_fX9_isLoaded r7 σ8)).bind fun c10 => match c10 with
          | (.inl r12, σ13) =>
            let v15 : Int32 := (qa_bi r12)
            (qa_fL_told (Int32.ofInt 1) σ13).bind fun c16 =>
            let v18 : Int32 := (qa_fX9_hits c16.2)
            let v19 : Int32 := (qa_fX9_misses c16.2)
            (qa_fX9_goOn c16.2).bind fun c20 => match c20 with
              | (.inl r22, σ23) =>
                if ¬ (qa_bi r22) = v15 then
                  qa_fL_isGone_101  r7 v15 c16.1 σ23
                else
                  if v15 = 0 then
                    qa_fL_isGone_66  v4 r7 v15 c16.1 v19 v18 (qa_fX9_hits σ23) σ23
                  else
                    qa_fL_isGone_66_1  v4 r7 v15 c16.1 v19 v18 (qa_fX9_hits σ23) σ23
              | (.inr E24, σ23) =>
                none
          | (.inr E14, σ13) =>
            none
      | (.inr E9, σ8) =>
        none
set_option maxRecDepth 1000000 in
theorem qa_tL_isGone_207 {L : Nat}  {σ : qa_T} {r : (Bool × qa_T)} (h : qa_fL_isGone_207  σ = some r) : qa_Bn L (0) qa_mL_isGone 207 [(0, .inl (0, 1))] [] σ (some (.inr (.int (qa_bi r.1)))) r.2 := by
  unfold qa_fL_isGone_207 at h
  try dsimp only at h
  refine qa_bn_mono (N := 0) (by omega) ?_
  refine qa_bn_do (pc' := 208) rfl rfl ?_
  cases h
  exact qa_bn_rb rfl rfl rfl
set_option maxRecDepth 1000000 in
theorem qa_tL_isGone_203 {L : Nat}  {σ : qa_T} {r : (Bool × qa_T)} (h : qa_fL_isGone_203  σ = some r) : qa_Bn L (0) qa_mL_isGone 203 [(0, .inl (0, 1))] [] σ (some (.inr (.int (qa_bi r.1)))) r.2 := by
  unfold qa_fL_isGone_203 at h
  try dsimp only at h
  refine qa_bn_mono (N := 0) (by omega) ?_
  refine qa_bn_do (pc' := 204) rfl rfl ?_
  refine qa_bn_do (pc' := 208) rfl rfl ?_
  cases h
  exact qa_bn_rb rfl rfl rfl
set_option maxRecDepth 1000000 in
theorem qa_tL_isGone_102 {L : Nat}  {x2 : Int32} {x3 : Int32} {x4 : Int32} {σ : qa_T} {r : (Bool × qa_T)} (h : qa_fL_isGone_102  x2 x3 x4 σ = some r) : qa_Bn L (2) qa_mL_isGone 102 [(0, .inl (0, 1)), (2, .inr (.int x2)), (3, .inr (.int x3)), (4, .inr (.int x4))] [.inr (.int (Int32.ofInt 0))] σ (some (.inr (.int (qa_bi r.1)))) r.2 := by
  unfold qa_fL_isGone_102 at h
  try dsimp only at h
  refine qa_bn_mono (N := 2) (by omega) ?_
  refine qa_bn_do (pc' := 104) (lv' := [(7, _), (0, _), (2, _), (3, _), (4, _)]) rfl rfl ?_
  refine qa_bn_do (pc' := 106) rfl rfl ?_
  rcases qa_ite h with ⟨hc26, h⟩ | ⟨hc26, h⟩
  · refine qa_bn_1t (a := 207) (b := 109) hc26 rfl rfl ?_
    exact qa_bn_mono (N := 0) (by omega) <| qa_bn_lw (qa_tL_isGone_207  h) rfl rfl (And.intro rfl (trivial))
  · refine qa_bn_1f (a := 207) (b := 109) hc26 rfl rfl ?_
    refine qa_bn_do (pc' := 110) rfl rfl ?_
    rcases qa_ite h with ⟨hc27, h⟩ | ⟨hc27, h⟩
    · refine qa_bn_1t (a := 184) (b := 113) hc27 rfl rfl ?_
      refine qa_bn_do (pc' := 185) rfl rfl ?_
      refine qa_bn_do (pc' := 186) rfl rfl ?_
      obtain ⟨c28, hc29, h⟩ := Option.bind_eq_some_iff.mp h
      refine qa_bn_cl (N1 := 1) (N2 := 1) (N := 2) (by omega) (qa_tL_told hc29) rfl rfl rfl rfl rfl rfl rfl ?_
      refine qa_bn_do (pc' := 190) rfl rfl ?_
      rcases qa_ite h with ⟨hc30, h⟩ | ⟨hc30, h⟩
      · refine qa_bn_1t (a := 207) (b := 193) hc30 rfl rfl ?_
        exact qa_bn_mono (N := 0) (by omega) <| qa_bn_lw (qa_tL_isGone_207  h) rfl rfl (And.intro rfl (trivial))
      · refine qa_bn_1f (a := 207) (b := 193) hc30 rfl rfl ?_
        refine qa_bn_do (pc' := 194) rfl rfl ?_
        refine qa_bn_do (pc' := 195) rfl rfl ?_
        obtain ⟨c31, hc32, h⟩ := Option.bind_eq_some_iff.mp h
        refine qa_bn_cl (N1 := 1) (N2 := 0) (N := 1) (by omega) (qa_tL_told hc32) rfl rfl rfl rfl rfl rfl rfl ?_
        refine qa_bn_do (pc' := 200) rfl rfl ?_
        rcases qa_ite h with ⟨hc33, h⟩ | ⟨hc33, h⟩
        · refine qa_bn_1t (a := 207) (b := 203) hc33 rfl rfl ?_
          exact qa_bn_mono (N := 0) (by omega) <| qa_bn_lw (qa_tL_isGone_207  h) rfl rfl (And.intro rfl (trivial))
        · refine qa_bn_1f (a := 207) (b := 203) hc33 rfl rfl ?_
          exact qa_bn_mono (N := 0) (by omega) <| qa_bn_lw (qa_tL_isGone_203  h) rfl rfl (And.intro rfl (trivial))
    · refine qa_bn_1f (a := 184) (b := 113) hc27 rfl rfl ?_
      refine qa_bn_do (pc' := 114) rfl rfl ?_
      refine qa_bn_do (pc' := 115) rfl rfl ?_
      obtain ⟨c34, hc35, h⟩ := Option.bind_eq_some_iff.mp h
      refine qa_bn_cl (N1 := 1) (N2 := 1) (N := 2) (by omega) (qa_tL_told hc35) rfl rfl rfl rfl rfl rfl rfl ?_
      refine qa_bn_do (pc' := 119) rfl rfl ?_
      rcases qa_ite h with ⟨hc36, h⟩ | ⟨hc36, h⟩
      · refine qa_bn_1t (a := 207) (b := 122) hc36 rfl rfl ?_
        exact qa_bn_mono (N := 0) (by omega) <| qa_bn_lw (qa_tL_isGone_207  h) rfl rfl (And.intro rfl (trivial))
      · refine qa_bn_1f (a := 207) (b := 122) hc36 rfl rfl ?_
        refine qa_bn_do (pc' := 123) rfl rfl ?_
        obtain ⟨⟨c37, σ40⟩, hc38, h⟩ := Option.bind_eq_some_iff.mp h
        have hc38 := Option.some.inj hc38
        cases c37 with
        | inl r39 =>
          try dsimp only at h
          refine qa_bn_cv (qa_tX9_shownFor hc38) rfl rfl rfl rfl rfl rfl rfl qa_dx_0_1 ?_
          rcases qa_ite h with ⟨hc42, h⟩ | ⟨hc42, h⟩
          · refine qa_bn_1t (a := 207) (b := 129) hc42 rfl rfl ?_
            exact qa_bn_mono (N := 0) (by omega) <| qa_bn_lw (qa_tL_isGone_207  h) rfl rfl (And.intro rfl (trivial))
          · refine qa_bn_1f (a := 207) (b := 129) hc42 rfl rfl ?_
            refine qa_bn_do (pc' := 131) rfl rfl ?_
            rcases qa_ite h with ⟨hc43, h⟩ | ⟨hc43, h⟩
            · refine qa_bn_1t (a := 203) (b := 134) hc43 rfl rfl ?_
              exact qa_bn_mono (N := 0) (by omega) <| qa_bn_lw (qa_tL_isGone_203  h) rfl rfl (And.intro rfl (trivial))
            · refine qa_bn_1f (a := 203) (b := 134) hc43 rfl rfl ?_
              refine qa_bn_do (pc' := 136) rfl rfl ?_
              refine qa_bn_do (pc' := 137) rfl rfl ?_
              rcases qa_ite h with ⟨hc44, h⟩ | ⟨hc44, h⟩
              · refine qa_bn_1t (a := 203) (b := 140) hc44 rfl rfl ?_
                exact qa_bn_mono (N := 0) (by omega) <| qa_bn_lw (qa_tL_isGone_203  h) rfl rfl (And.intro rfl (trivial))
              · refine qa_bn_1f (a := 203) (b := 140) hc44 rfl rfl ?_
                refine qa_bn_do (pc' := 141) rfl rfl ?_
                refine qa_bn_do (pc' := 142) rfl rfl ?_
                obtain ⟨⟨c45, σ48⟩, hc46, h⟩ := Option.bind_eq_some_iff.mp h
                have hc46 := Option.some.inj hc46
                cases c45 with
                | inl r47 =>
                  try dsimp only at h
                  refine qa_bn_cv (qa_tX9_fadeOf hc46) rfl rfl rfl rfl rfl rfl rfl qa_dx_0_1 ?_
                  rcases qa_ite h with ⟨hc50, h⟩ | ⟨hc50, h⟩
                  · refine qa_bn_1t (a := 159) (b := 148) hc50 rfl rfl ?_
                    refine qa_bn_do (pc' := 160) rfl rfl ?_
                    refine qa_bn_do (pc' := 161) rfl rfl ?_
                    obtain ⟨c51, hc52, h⟩ := Option.bind_eq_some_iff.mp h
                    refine qa_bn_cl (N1 := 1) (N2 := 0) (N := 1) (by omega) (qa_tL_told hc52) rfl rfl rfl rfl rfl rfl rfl ?_
                    refine qa_bn_do (pc' := 166) rfl rfl ?_
                    rcases qa_ite h with ⟨hc53, h⟩ | ⟨hc53, h⟩
                    · refine qa_bn_1t (a := 207) (b := 169) hc53 rfl rfl ?_
                      exact qa_bn_mono (N := 0) (by omega) <| qa_bn_lw (qa_tL_isGone_207  h) rfl rfl (And.intro rfl (trivial))
                    · refine qa_bn_1f (a := 207) (b := 169) hc53 rfl rfl ?_
                      refine qa_bn_do (pc' := 170) rfl rfl ?_
                      refine qa_bn_cv (qa_tX9_fadeLeft rfl) rfl rfl rfl rfl rfl rfl rfl qa_dx_0_1 ?_
                      refine qa_bn_do (pc' := 174) rfl rfl ?_
                      refine qa_bn_do (pc' := 175) rfl rfl ?_
                      obtain ⟨⟨c54, σ57⟩, hc55, h⟩ := Option.bind_eq_some_iff.mp h
                      have hc55 := Option.some.inj hc55
                      cases c54 with
                      | inl r56 =>
                        try dsimp only at h
                        refine qa_bn_cv (qa_tX9_fadeOf hc55) rfl rfl rfl rfl rfl rfl rfl qa_dx_0_1 ?_
                        rcases qa_ite h with ⟨hc59, h⟩ | ⟨hc59, h⟩
                        · refine qa_bn_1t (a := 207) (b := 181) hc59 rfl rfl ?_
                          exact qa_bn_mono (N := 0) (by omega) <| qa_bn_lw (qa_tL_isGone_207  h) rfl rfl (And.intro rfl (trivial))
                        · refine qa_bn_1f (a := 207) (b := 181) hc59 rfl rfl ?_
                          refine qa_bn_do (pc' := 203) rfl rfl ?_
                          exact qa_bn_mono (N := 0) (by omega) <| qa_bn_lw (qa_tL_isGone_203  h) rfl rfl (And.intro rfl (trivial))
                      | inr E58 =>
                        try dsimp only at h
                        cases h
                  · refine qa_bn_1f (a := 159) (b := 148) hc50 rfl rfl ?_
                    refine qa_bn_do (pc' := 149) rfl rfl ?_
                    refine qa_bn_do (pc' := 150) rfl rfl ?_
                    obtain ⟨c60, hc61, h⟩ := Option.bind_eq_some_iff.mp h
                    refine qa_bn_cl (N1 := 1) (N2 := 0) (N := 1) (by omega) (qa_tL_told hc61) rfl rfl rfl rfl rfl rfl rfl ?_
                    rcases qa_ite h with ⟨hc62, h⟩ | ⟨hc62, h⟩
                    · refine qa_bn_1t (a := 207) (b := 156) hc62 rfl rfl ?_
                      exact qa_bn_mono (N := 0) (by omega) <| qa_bn_lw (qa_tL_isGone_207  h) rfl rfl (And.intro rfl (trivial))
                    · refine qa_bn_1f (a := 207) (b := 156) hc62 rfl rfl ?_
                      refine qa_bn_do (pc' := 203) rfl rfl ?_
                      exact qa_bn_mono (N := 0) (by omega) <| qa_bn_lw (qa_tL_isGone_203  h) rfl rfl (And.intro rfl (trivial))
                | inr E49 =>
                  try dsimp only at h
                  cases h
        | inr E41 =>
          try dsimp only at h
          cases h
set_option maxRecDepth 1000000 in
theorem qa_tL_isGone_101 {L : Nat}  {x2 : Int32} {x3 : Int32} {x4 : Int32} {σ : qa_T} {r : (Bool × qa_T)} (h : qa_fL_isGone_101  x2 x3 x4 σ = some r) : qa_Bn L (2) qa_mL_isGone 101 [(0, .inl (0, 1)), (2, .inr (.int x2)), (3, .inr (.int x3)), (4, .inr (.int x4))] [] σ (some (.inr (.int (qa_bi r.1)))) r.2 := by
  unfold qa_fL_isGone_101 at h
  try dsimp only at h
  refine qa_bn_mono (N := 2) (by omega) ?_
  refine qa_bn_do (pc' := 102) rfl rfl ?_
  exact qa_bn_mono (N := 2) (by omega) <| qa_bn_lw (qa_tL_isGone_102  h) rfl rfl (And.intro rfl (And.intro rfl (And.intro rfl (And.intro rfl (trivial)))))
set_option maxRecDepth 1000000 in
theorem qa_tL_isGone_102_1 {L : Nat}  {x2 : Int32} {x3 : Int32} {x4 : Int32} {σ : qa_T} {r : (Bool × qa_T)} (h : qa_fL_isGone_102_1  x2 x3 x4 σ = some r) : qa_Bn L (2) qa_mL_isGone 102 [(0, .inl (0, 1)), (2, .inr (.int x2)), (3, .inr (.int x3)), (4, .inr (.int x4))] [.inr (.int (Int32.ofInt 1))] σ (some (.inr (.int (qa_bi r.1)))) r.2 := by
  unfold qa_fL_isGone_102_1 at h
  try dsimp only at h
  refine qa_bn_mono (N := 2) (by omega) ?_
  refine qa_bn_do (pc' := 104) (lv' := [(7, _), (0, _), (2, _), (3, _), (4, _)]) rfl rfl ?_
  refine qa_bn_do (pc' := 106) rfl rfl ?_
  rcases qa_ite h with ⟨hc70, h⟩ | ⟨hc70, h⟩
  · refine qa_bn_1t (a := 207) (b := 109) hc70 rfl rfl ?_
    exact qa_bn_mono (N := 0) (by omega) <| qa_bn_lw (qa_tL_isGone_207  h) rfl rfl (And.intro rfl (trivial))
  · refine qa_bn_1f (a := 207) (b := 109) hc70 rfl rfl ?_
    refine qa_bn_do (pc' := 110) rfl rfl ?_
    rcases qa_ite h with ⟨hc71, h⟩ | ⟨hc71, h⟩
    · refine qa_bn_1t (a := 184) (b := 113) hc71 rfl rfl ?_
      refine qa_bn_do (pc' := 185) rfl rfl ?_
      refine qa_bn_do (pc' := 186) rfl rfl ?_
      obtain ⟨c72, hc73, h⟩ := Option.bind_eq_some_iff.mp h
      refine qa_bn_cl (N1 := 1) (N2 := 1) (N := 2) (by omega) (qa_tL_told hc73) rfl rfl rfl rfl rfl rfl rfl ?_
      refine qa_bn_do (pc' := 190) rfl rfl ?_
      rcases qa_ite h with ⟨hc74, h⟩ | ⟨hc74, h⟩
      · refine qa_bn_1t (a := 207) (b := 193) hc74 rfl rfl ?_
        exact qa_bn_mono (N := 0) (by omega) <| qa_bn_lw (qa_tL_isGone_207  h) rfl rfl (And.intro rfl (trivial))
      · refine qa_bn_1f (a := 207) (b := 193) hc74 rfl rfl ?_
        refine qa_bn_do (pc' := 194) rfl rfl ?_
        refine qa_bn_do (pc' := 195) rfl rfl ?_
        obtain ⟨c75, hc76, h⟩ := Option.bind_eq_some_iff.mp h
        refine qa_bn_cl (N1 := 1) (N2 := 0) (N := 1) (by omega) (qa_tL_told hc76) rfl rfl rfl rfl rfl rfl rfl ?_
        refine qa_bn_do (pc' := 200) rfl rfl ?_
        rcases qa_ite h with ⟨hc77, h⟩ | ⟨hc77, h⟩
        · refine qa_bn_1t (a := 207) (b := 203) hc77 rfl rfl ?_
          exact qa_bn_mono (N := 0) (by omega) <| qa_bn_lw (qa_tL_isGone_207  h) rfl rfl (And.intro rfl (trivial))
        · refine qa_bn_1f (a := 207) (b := 203) hc77 rfl rfl ?_
          exact qa_bn_mono (N := 0) (by omega) <| qa_bn_lw (qa_tL_isGone_203  h) rfl rfl (And.intro rfl (trivial))
    · refine qa_bn_1f (a := 184) (b := 113) hc71 rfl rfl ?_
      refine qa_bn_do (pc' := 114) rfl rfl ?_
      refine qa_bn_do (pc' := 115) rfl rfl ?_
      obtain ⟨c78, hc79, h⟩ := Option.bind_eq_some_iff.mp h
      refine qa_bn_cl (N1 := 1) (N2 := 1) (N := 2) (by omega) (qa_tL_told hc79) rfl rfl rfl rfl rfl rfl rfl ?_
      refine qa_bn_do (pc' := 119) rfl rfl ?_
      rcases qa_ite h with ⟨hc80, h⟩ | ⟨hc80, h⟩
      · refine qa_bn_1t (a := 207) (b := 122) hc80 rfl rfl ?_
        exact qa_bn_mono (N := 0) (by omega) <| qa_bn_lw (qa_tL_isGone_207  h) rfl rfl (And.intro rfl (trivial))
      · refine qa_bn_1f (a := 207) (b := 122) hc80 rfl rfl ?_
        refine qa_bn_do (pc' := 123) rfl rfl ?_
        obtain ⟨⟨c81, σ84⟩, hc82, h⟩ := Option.bind_eq_some_iff.mp h
        have hc82 := Option.some.inj hc82
        cases c81 with
        | inl r83 =>
          try dsimp only at h
          refine qa_bn_cv (qa_tX9_shownFor hc82) rfl rfl rfl rfl rfl rfl rfl qa_dx_0_1 ?_
          rcases qa_ite h with ⟨hc86, h⟩ | ⟨hc86, h⟩
          · refine qa_bn_1t (a := 207) (b := 129) hc86 rfl rfl ?_
            exact qa_bn_mono (N := 0) (by omega) <| qa_bn_lw (qa_tL_isGone_207  h) rfl rfl (And.intro rfl (trivial))
          · refine qa_bn_1f (a := 207) (b := 129) hc86 rfl rfl ?_
            refine qa_bn_do (pc' := 131) rfl rfl ?_
            rcases qa_ite h with ⟨hc87, h⟩ | ⟨hc87, h⟩
            · refine qa_bn_1t (a := 203) (b := 134) hc87 rfl rfl ?_
              exact qa_bn_mono (N := 0) (by omega) <| qa_bn_lw (qa_tL_isGone_203  h) rfl rfl (And.intro rfl (trivial))
            · refine qa_bn_1f (a := 203) (b := 134) hc87 rfl rfl ?_
              refine qa_bn_do (pc' := 136) rfl rfl ?_
              refine qa_bn_do (pc' := 137) rfl rfl ?_
              rcases qa_ite h with ⟨hc88, h⟩ | ⟨hc88, h⟩
              · refine qa_bn_1t (a := 203) (b := 140) hc88 rfl rfl ?_
                exact qa_bn_mono (N := 0) (by omega) <| qa_bn_lw (qa_tL_isGone_203  h) rfl rfl (And.intro rfl (trivial))
              · refine qa_bn_1f (a := 203) (b := 140) hc88 rfl rfl ?_
                refine qa_bn_do (pc' := 141) rfl rfl ?_
                refine qa_bn_do (pc' := 142) rfl rfl ?_
                obtain ⟨⟨c89, σ92⟩, hc90, h⟩ := Option.bind_eq_some_iff.mp h
                have hc90 := Option.some.inj hc90
                cases c89 with
                | inl r91 =>
                  try dsimp only at h
                  refine qa_bn_cv (qa_tX9_fadeOf hc90) rfl rfl rfl rfl rfl rfl rfl qa_dx_0_1 ?_
                  rcases qa_ite h with ⟨hc94, h⟩ | ⟨hc94, h⟩
                  · refine qa_bn_1t (a := 159) (b := 148) hc94 rfl rfl ?_
                    refine qa_bn_do (pc' := 160) rfl rfl ?_
                    refine qa_bn_do (pc' := 161) rfl rfl ?_
                    obtain ⟨c95, hc96, h⟩ := Option.bind_eq_some_iff.mp h
                    refine qa_bn_cl (N1 := 1) (N2 := 0) (N := 1) (by omega) (qa_tL_told hc96) rfl rfl rfl rfl rfl rfl rfl ?_
                    refine qa_bn_do (pc' := 166) rfl rfl ?_
                    rcases qa_ite h with ⟨hc97, h⟩ | ⟨hc97, h⟩
                    · refine qa_bn_1t (a := 207) (b := 169) hc97 rfl rfl ?_
                      exact qa_bn_mono (N := 0) (by omega) <| qa_bn_lw (qa_tL_isGone_207  h) rfl rfl (And.intro rfl (trivial))
                    · refine qa_bn_1f (a := 207) (b := 169) hc97 rfl rfl ?_
                      refine qa_bn_do (pc' := 170) rfl rfl ?_
                      refine qa_bn_cv (qa_tX9_fadeLeft rfl) rfl rfl rfl rfl rfl rfl rfl qa_dx_0_1 ?_
                      refine qa_bn_do (pc' := 174) rfl rfl ?_
                      refine qa_bn_do (pc' := 175) rfl rfl ?_
                      obtain ⟨⟨c98, σ101⟩, hc99, h⟩ := Option.bind_eq_some_iff.mp h
                      have hc99 := Option.some.inj hc99
                      cases c98 with
                      | inl r100 =>
                        try dsimp only at h
                        refine qa_bn_cv (qa_tX9_fadeOf hc99) rfl rfl rfl rfl rfl rfl rfl qa_dx_0_1 ?_
                        rcases qa_ite h with ⟨hc103, h⟩ | ⟨hc103, h⟩
                        · refine qa_bn_1t (a := 207) (b := 181) hc103 rfl rfl ?_
                          exact qa_bn_mono (N := 0) (by omega) <| qa_bn_lw (qa_tL_isGone_207  h) rfl rfl (And.intro rfl (trivial))
                        · refine qa_bn_1f (a := 207) (b := 181) hc103 rfl rfl ?_
                          refine qa_bn_do (pc' := 203) rfl rfl ?_
                          exact qa_bn_mono (N := 0) (by omega) <| qa_bn_lw (qa_tL_isGone_203  h) rfl rfl (And.intro rfl (trivial))
                      | inr E102 =>
                        try dsimp only at h
                        cases h
                  · refine qa_bn_1f (a := 159) (b := 148) hc94 rfl rfl ?_
                    refine qa_bn_do (pc' := 149) rfl rfl ?_
                    refine qa_bn_do (pc' := 150) rfl rfl ?_
                    obtain ⟨c104, hc105, h⟩ := Option.bind_eq_some_iff.mp h
                    refine qa_bn_cl (N1 := 1) (N2 := 0) (N := 1) (by omega) (qa_tL_told hc105) rfl rfl rfl rfl rfl rfl rfl ?_
                    rcases qa_ite h with ⟨hc106, h⟩ | ⟨hc106, h⟩
                    · refine qa_bn_1t (a := 207) (b := 156) hc106 rfl rfl ?_
                      exact qa_bn_mono (N := 0) (by omega) <| qa_bn_lw (qa_tL_isGone_207  h) rfl rfl (And.intro rfl (trivial))
                    · refine qa_bn_1f (a := 207) (b := 156) hc106 rfl rfl ?_
                      refine qa_bn_do (pc' := 203) rfl rfl ?_
                      exact qa_bn_mono (N := 0) (by omega) <| qa_bn_lw (qa_tL_isGone_203  h) rfl rfl (And.intro rfl (trivial))
                | inr E93 =>
                  try dsimp only at h
                  cases h
        | inr E85 =>
          try dsimp only at h
          cases h
set_option maxRecDepth 1000000 in
theorem qa_tL_isGone_85 {L : Nat}  {x1 : Int32} {x2 : Int32} {x3 : Int32} {x4 : Int32} {y1 : Int32} {y2 : Int32} {σ : qa_T} {r : (Bool × qa_T)} (h : qa_fL_isGone_85  x1 x2 x3 x4 y1 y2 σ = some r) : qa_Bn L (3) qa_mL_isGone 85 [(0, .inl (0, 1)), (1, .inr (.int x1)), (2, .inr (.int x2)), (3, .inr (.int x3)), (4, .inr (.int x4))] [.inr (.int (Int32.ofInt 1)), .inr (.int y1), .inr (.int y2)] σ (some (.inr (.int (qa_bi r.1)))) r.2 := by
  unfold qa_fL_isGone_85 at h
  try dsimp only at h
  refine qa_bn_mono (N := 3) (by omega) ?_
  refine qa_bn_do (pc' := 86) rfl rfl ?_
  rcases qa_ite h with ⟨hc66, h⟩ | ⟨hc66, h⟩
  · refine qa_bn_1t (a := 101) (b := 89) hc66 rfl rfl ?_
    exact qa_bn_mono (N := 2) (by omega) <| qa_bn_lw (qa_tL_isGone_101  h) rfl rfl (And.intro rfl (And.intro rfl (And.intro rfl (And.intro rfl (trivial)))))
  · refine qa_bn_1f (a := 101) (b := 89) hc66 rfl rfl ?_
    refine qa_bn_do (pc' := 90) rfl rfl ?_
    obtain ⟨c67, hc68, h⟩ := Option.bind_eq_some_iff.mp h
    refine qa_bn_cl (N1 := 1) (N2 := 2) (N := 3) (by omega) (qa_tL_showPlace hc68) rfl rfl rfl rfl rfl rfl rfl ?_
    refine qa_bn_do (pc' := 94) rfl rfl ?_
    rcases qa_ite h with ⟨hc69, h⟩ | ⟨hc69, h⟩
    · refine qa_bn_1t (a := 101) (b := 97) hc69 rfl rfl ?_
      exact qa_bn_mono (N := 2) (by omega) <| qa_bn_lw (qa_tL_isGone_101  h) rfl rfl (And.intro rfl (And.intro rfl (And.intro rfl (And.intro rfl (trivial)))))
    · refine qa_bn_1f (a := 101) (b := 97) hc69 rfl rfl ?_
      refine qa_bn_do (pc' := 98) rfl rfl ?_
      refine qa_bn_do (pc' := 102) rfl rfl ?_
      exact qa_bn_mono (N := 2) (by omega) <| qa_bn_lw (qa_tL_isGone_102_1  h) rfl rfl (And.intro rfl (And.intro rfl (And.intro rfl (And.intro rfl (trivial)))))
set_option maxRecDepth 1000000 in
theorem qa_tL_isGone_85_1 {L : Nat}  {x1 : Int32} {x2 : Int32} {x3 : Int32} {x4 : Int32} {y1 : Int32} {y2 : Int32} {σ : qa_T} {r : (Bool × qa_T)} (h : qa_fL_isGone_85_1  x1 x2 x3 x4 y1 y2 σ = some r) : qa_Bn L (3) qa_mL_isGone 85 [(0, .inl (0, 1)), (1, .inr (.int x1)), (2, .inr (.int x2)), (3, .inr (.int x3)), (4, .inr (.int x4))] [.inr (.int (Int32.ofInt 0)), .inr (.int y1), .inr (.int y2)] σ (some (.inr (.int (qa_bi r.1)))) r.2 := by
  unfold qa_fL_isGone_85_1 at h
  try dsimp only at h
  refine qa_bn_mono (N := 3) (by omega) ?_
  refine qa_bn_do (pc' := 86) rfl rfl ?_
  rcases qa_ite h with ⟨hc107, h⟩ | ⟨hc107, h⟩
  · refine qa_bn_1t (a := 101) (b := 89) hc107 rfl rfl ?_
    exact qa_bn_mono (N := 2) (by omega) <| qa_bn_lw (qa_tL_isGone_101  h) rfl rfl (And.intro rfl (And.intro rfl (And.intro rfl (And.intro rfl (trivial)))))
  · refine qa_bn_1f (a := 101) (b := 89) hc107 rfl rfl ?_
    refine qa_bn_do (pc' := 90) rfl rfl ?_
    obtain ⟨c108, hc109, h⟩ := Option.bind_eq_some_iff.mp h
    refine qa_bn_cl (N1 := 1) (N2 := 2) (N := 3) (by omega) (qa_tL_showPlace hc109) rfl rfl rfl rfl rfl rfl rfl ?_
    refine qa_bn_do (pc' := 94) rfl rfl ?_
    rcases qa_ite h with ⟨hc110, h⟩ | ⟨hc110, h⟩
    · refine qa_bn_1t (a := 101) (b := 97) hc110 rfl rfl ?_
      exact qa_bn_mono (N := 2) (by omega) <| qa_bn_lw (qa_tL_isGone_101  h) rfl rfl (And.intro rfl (And.intro rfl (And.intro rfl (And.intro rfl (trivial)))))
    · refine qa_bn_1f (a := 101) (b := 97) hc110 rfl rfl ?_
      refine qa_bn_do (pc' := 98) rfl rfl ?_
      refine qa_bn_do (pc' := 102) rfl rfl ?_
      exact qa_bn_mono (N := 2) (by omega) <| qa_bn_lw (qa_tL_isGone_102_1  h) rfl rfl (And.intro rfl (And.intro rfl (And.intro rfl (And.intro rfl (trivial)))))
set_option maxRecDepth 1000000 in
theorem qa_tL_isGone_66 {L : Nat}  {x1 : Int32} {x2 : Int32} {x3 : Int32} {x4 : Int32} {x6 : Int32} {y1 : Int32} {y2 : Int32} {σ : qa_T} {r : (Bool × qa_T)} (h : qa_fL_isGone_66  x1 x2 x3 x4 x6 y1 y2 σ = some r) : qa_Bn L (3) qa_mL_isGone 66 [(0, .inl (0, 1)), (1, .inr (.int x1)), (2, .inr (.int x2)), (3, .inr (.int x3)), (4, .inr (.int x4)), (6, .inr (.int x6))] [.inr (.int (Int32.ofInt 0)), .inr (.int y1), .inr (.int y2)] σ (some (.inr (.int (qa_bi r.1)))) r.2 := by
  unfold qa_fL_isGone_66 at h
  try dsimp only at h
  refine qa_bn_mono (N := 3) (by omega) ?_
  refine qa_bn_do (pc' := 67) rfl rfl ?_
  rcases qa_ite h with ⟨hc64, h⟩ | ⟨hc64, h⟩
  · refine qa_bn_1t (a := 101) (b := 70) hc64 rfl rfl ?_
    exact qa_bn_mono (N := 2) (by omega) <| qa_bn_lw (qa_tL_isGone_101  h) rfl rfl (And.intro rfl (And.intro rfl (And.intro rfl (And.intro rfl (trivial)))))
  · refine qa_bn_1f (a := 101) (b := 70) hc64 rfl rfl ?_
    refine qa_bn_do (pc' := 71) rfl rfl ?_
    refine qa_bn_cv (qa_tX9_misses rfl) rfl rfl rfl rfl rfl rfl rfl qa_dx_0_1 ?_
    refine qa_bn_do (pc' := 76) rfl rfl ?_
    refine qa_bn_do (pc' := 77) rfl rfl ?_
    rcases qa_ite h with ⟨hc65, h⟩ | ⟨hc65, h⟩
    · refine qa_bn_1t (a := 84) (b := 80) hc65 rfl rfl ?_
      refine qa_bn_do (pc' := 85) rfl rfl ?_
      exact qa_bn_mono (N := 3) (by omega) <| qa_bn_lw (qa_tL_isGone_85  h) rfl rfl (And.intro rfl (And.intro rfl (And.intro rfl (And.intro rfl (And.intro rfl (trivial))))))
    · refine qa_bn_1f (a := 84) (b := 80) hc65 rfl rfl ?_
      refine qa_bn_do (pc' := 81) rfl rfl ?_
      refine qa_bn_do (pc' := 85) rfl rfl ?_
      exact qa_bn_mono (N := 3) (by omega) <| qa_bn_lw (qa_tL_isGone_85_1  h) rfl rfl (And.intro rfl (And.intro rfl (And.intro rfl (And.intro rfl (And.intro rfl (trivial))))))
set_option maxRecDepth 1000000 in
theorem qa_tL_isGone_66_1 {L : Nat}  {x1 : Int32} {x2 : Int32} {x3 : Int32} {x4 : Int32} {x6 : Int32} {y1 : Int32} {y2 : Int32} {σ : qa_T} {r : (Bool × qa_T)} (h : qa_fL_isGone_66_1  x1 x2 x3 x4 x6 y1 y2 σ = some r) : qa_Bn L (3) qa_mL_isGone 66 [(0, .inl (0, 1)), (1, .inr (.int x1)), (2, .inr (.int x2)), (3, .inr (.int x3)), (4, .inr (.int x4)), (6, .inr (.int x6))] [.inr (.int (Int32.ofInt 1)), .inr (.int y1), .inr (.int y2)] σ (some (.inr (.int (qa_bi r.1)))) r.2 := by
  unfold qa_fL_isGone_66_1 at h
  try dsimp only at h
  refine qa_bn_mono (N := 3) (by omega) ?_
  refine qa_bn_do (pc' := 67) rfl rfl ?_
  rcases qa_ite h with ⟨hc111, h⟩ | ⟨hc111, h⟩
  · refine qa_bn_1t (a := 101) (b := 70) hc111 rfl rfl ?_
    exact qa_bn_mono (N := 2) (by omega) <| qa_bn_lw (qa_tL_isGone_101  h) rfl rfl (And.intro rfl (And.intro rfl (And.intro rfl (And.intro rfl (trivial)))))
  · refine qa_bn_1f (a := 101) (b := 70) hc111 rfl rfl ?_
    refine qa_bn_do (pc' := 71) rfl rfl ?_
    refine qa_bn_cv (qa_tX9_misses rfl) rfl rfl rfl rfl rfl rfl rfl qa_dx_0_1 ?_
    refine qa_bn_do (pc' := 76) rfl rfl ?_
    refine qa_bn_do (pc' := 77) rfl rfl ?_
    rcases qa_ite h with ⟨hc112, h⟩ | ⟨hc112, h⟩
    · refine qa_bn_1t (a := 84) (b := 80) hc112 rfl rfl ?_
      refine qa_bn_do (pc' := 85) rfl rfl ?_
      exact qa_bn_mono (N := 3) (by omega) <| qa_bn_lw (qa_tL_isGone_85  h) rfl rfl (And.intro rfl (And.intro rfl (And.intro rfl (And.intro rfl (And.intro rfl (trivial))))))
    · refine qa_bn_1f (a := 84) (b := 80) hc112 rfl rfl ?_
      refine qa_bn_do (pc' := 81) rfl rfl ?_
      refine qa_bn_do (pc' := 85) rfl rfl ?_
      exact qa_bn_mono (N := 3) (by omega) <| qa_bn_lw (qa_tL_isGone_85_1  h) rfl rfl (And.intro rfl (And.intro rfl (And.intro rfl (And.intro rfl (And.intro rfl (trivial))))))
set_option maxRecDepth 1000000 in
theorem qa_tL_isGone {L : Nat}  {σ : qa_T} {r : (Bool × qa_T)} (h : qa_fL_isGone  σ = some r) : qa_Bn L 5 qa_mL_isGone 0 (qa_ag 0 [.inl (0, 1)]) [] σ (some (.inr (.int (qa_bi r.1)))) r.2 := by
  unfold qa_fL_isGone at h
  try dsimp only at h
  show qa_Bn L 5 qa_mL_isGone 0 [(0, .inl (0, 1))] [] σ _ _
  refine qa_bn_do (pc' := 1) rfl rfl ?_
  obtain ⟨c1, hc2, h⟩ := Option.bind_eq_some_iff.mp h
  refine qa_bn_cl (N1 := 1) (N2 := 4) (N := 5) (by omega) (qa_tL_showPlace hc2) rfl rfl rfl rfl rfl rfl rfl ?_
  refine qa_bn_do (pc' := 5) rfl rfl ?_
  refine qa_bn_do (pc' := 6) rfl rfl ?_
  refine qa_bn_do (pc' := 7) rfl rfl ?_
  refine qa_bn_cv (qa_tX9_places rfl) rfl rfl rfl rfl rfl rfl rfl qa_dx_0_1 ?_
  rcases qa_ite h with ⟨_, h⟩ | ⟨hc3, h⟩
  · cases h
  refine qa_bn_rm hc3 rfl ?_
  refine qa_bn_do (pc' := 12) (lv' := [(1, _), (0, _)]) rfl rfl ?_
  refine qa_bn_do (pc' := 13) rfl rfl ?_
  refine qa_bn_do (pc' := 14) rfl rfl ?_
  obtain ⟨⟨c5, σ8⟩, hc6, h⟩ := Option.bind_eq_some_iff.mp h
  have hc6 := Option.some.inj hc6
  cases c5 with
  | inl r7 =>
    try dsimp only at h
    refine qa_bn_cv (qa_tX9_slideAt hc6) rfl rfl rfl rfl rfl rfl rfl qa_dx_0_1 ?_
    refine qa_bn_do (pc' := 18) (lv' := [(2, _), (1, _), (0, _)]) rfl rfl ?_
    refine qa_bn_do (pc' := 19) rfl rfl ?_
    refine qa_bn_do (pc' := 20) rfl rfl ?_
    obtain ⟨⟨c10, σ13⟩, hc11, h⟩ := Option.bind_eq_some_iff.mp h
    have hc11 := Option.some.inj hc11
    cases c10 with
    | inl r12 =>
      try dsimp only at h
      refine qa_bn_cv (qa_tX9_isLoaded hc11) rfl rfl rfl rfl rfl rfl rfl qa_dx_0_1 ?_
      refine qa_bn_do (pc' := 24) (lv' := [(3, _), (2, _), (1, _), (0, _)]) rfl rfl ?_
      refine qa_bn_do (pc' := 25) rfl rfl ?_
      refine qa_bn_do (pc' := 26) rfl rfl ?_
      obtain ⟨c16, hc17, h⟩ := Option.bind_eq_some_iff.mp h
      refine qa_bn_cl (N1 := 1) (N2 := 3) (N := 4) (by omega) (qa_tL_told hc17) rfl rfl rfl rfl rfl rfl rfl ?_
      refine qa_bn_do (pc' := 31) (lv' := [(4, _), (3, _), (2, _), (1, _), (0, _)]) rfl rfl ?_
      refine qa_bn_do (pc' := 32) rfl rfl ?_
      refine qa_bn_cv (qa_tX9_hits rfl) rfl rfl rfl rfl rfl rfl rfl qa_dx_0_1 ?_
      refine qa_bn_do (pc' := 37) (lv' := [(5, _), (4, _), (3, _), (2, _), (1, _), (0, _)]) rfl rfl ?_
      refine qa_bn_do (pc' := 38) rfl rfl ?_
      refine qa_bn_cv (qa_tX9_misses rfl) rfl rfl rfl rfl rfl rfl rfl qa_dx_0_1 ?_
      refine qa_bn_do (pc' := 43) (lv' := [(6, _), (5, _), (4, _), (3, _), (2, _), (1, _), (0, _)]) rfl rfl ?_
      refine qa_bn_do (pc' := 44) rfl rfl ?_
      obtain ⟨⟨c20, σ23⟩, hc21, h⟩ := Option.bind_eq_some_iff.mp h
      cases c20 with
      | inl r22 =>
        try dsimp only at h
        refine qa_bn_cv (qa_tX9_goOn hc21) rfl rfl rfl rfl rfl rfl rfl qa_dx_0_1 ?_
        refine qa_bn_do (pc' := 48) rfl rfl ?_
        rcases qa_ite h with ⟨hc25, h⟩ | ⟨hc25, h⟩
        · refine qa_bn_1t (a := 101) (b := 51) hc25 rfl rfl ?_
          exact qa_bn_mono (N := 2) (by omega) <| qa_bn_lw (qa_tL_isGone_101  h) rfl rfl (And.intro rfl (And.intro rfl (And.intro rfl (And.intro rfl (trivial)))))
        · refine qa_bn_1f (a := 101) (b := 51) hc25 rfl rfl ?_
          refine qa_bn_do (pc' := 52) rfl rfl ?_
          refine qa_bn_cv (qa_tX9_hits rfl) rfl rfl rfl rfl rfl rfl rfl qa_dx_0_1 ?_
          refine qa_bn_do (pc' := 57) rfl rfl ?_
          refine qa_bn_do (pc' := 58) rfl rfl ?_
          rcases qa_ite h with ⟨hc63, h⟩ | ⟨hc63, h⟩
          · refine qa_bn_1t (a := 65) (b := 61) hc63 rfl rfl ?_
            refine qa_bn_do (pc' := 66) rfl rfl ?_
            exact qa_bn_mono (N := 3) (by omega) <| qa_bn_lw (qa_tL_isGone_66  h) rfl rfl (And.intro rfl (And.intro rfl (And.intro rfl (And.intro rfl (And.intro rfl (And.intro rfl (trivial)))))))
          · refine qa_bn_1f (a := 65) (b := 61) hc63 rfl rfl ?_
            refine qa_bn_do (pc' := 62) rfl rfl ?_
            refine qa_bn_do (pc' := 66) rfl rfl ?_
            exact qa_bn_mono (N := 3) (by omega) <| qa_bn_lw (qa_tL_isGone_66_1  h) rfl rfl (And.intro rfl (And.intro rfl (And.intro rfl (And.intro rfl (And.intro rfl (And.intro rfl (trivial)))))))
      | inr E24 =>
        try dsimp only at h
        cases h
    | inr E14 =>
      try dsimp only at h
      cases h
  | inr E9 =>
    try dsimp only at h
    cases h
noncomputable def qa_fL_isBurnt_76 (a2 : Int32) (σ : qa_T) : Option (Bool × qa_T) :=
    some (false, σ)
noncomputable def qa_fL_isBurnt_72 (a2 : Int32) (σ : qa_T) : Option (Bool × qa_T) :=
    some (true, σ)
noncomputable def qa_fL_isBurnt (a2 : Int32) (σ : qa_T) : Option (Bool × qa_T) :=
    (some (qa_fX9_burntTimes a2 σ)).bind fun c1 => match c1 with
      | (.inl r3, σ4) =>
        let v6 : Int32 := (qa_fX9_burnings σ4)
        (qa_fX9_burn a2 σ4).bind fun c7 => match c7 with
          | (.inl r9, σ10) =>
            (some (qa_fX9_costOf a2 σ10)).bind fun c12 => match c12 with
              | (.inl r14, σ15) =>
                if ¬ r9 = r14 then
                  qa_fL_isBurnt_76 a2 σ15
                else
                  (some (qa_fX9_burntTimes a2 σ15)).bind fun c18 => match c18 with
                    | (.inl r20, σ21) =>
                      if ¬ r20 = (r3 + (Int32.ofInt 1)) then
                        qa_fL_isBurnt_76 a2 σ21
                      else
                        if (qa_fX9_burnings σ21) ≤ v6 then
                          qa_fL_isBurnt_76 a2 σ21
                        else
                          (some (qa_fX9_isLoaded a2 σ21)).bind fun c25 => match c25 with
                            | (.inl r27, σ28) =>
                              if ¬ (qa_bi r27) = 0 then
                                qa_fL_isBurnt_76 a2 σ28
                              else
                                (qa_fL_told (Int32.ofInt 3) σ28).bind fun c31 =>
                                if c31.1 = a2 then
                                  qa_fL_isBurnt_72 a2 c31.2
                                else
                                  (some (qa_fX9_glowOf a2 c31.2)).bind fun c34 => match c34 with
                                    | (.inl r36, σ37) =>
                                      if ¬ r36 = (qa_fX9_glow σ37) then
                                        qa_fL_isBurnt_76 a2 σ37
                                      else
                                        qa_fL_isBurnt_72 a2 σ37
                                    | (.inr E38, σ37) =>
                                      none
                            | (.inr E29, σ28) =>
                              none
                    | (.inr E22, σ21) =>
                      none
              | (.inr E16, σ15) =>
                none
          | (.inr E11, σ10) =>
            none
      | (.inr E5, σ4) =>
        none
set_option maxRecDepth 1000000 in
theorem qa_tL_isBurnt_76 {L : Nat} {a2 : Int32}  {σ : qa_T} {r : (Bool × qa_T)} (h : qa_fL_isBurnt_76 a2 σ = some r) : qa_Bn L (0) qa_mL_isBurnt 76 [(0, .inl (0, 1)), (1, .inr (.int a2))] [] σ (some (.inr (.int (qa_bi r.1)))) r.2 := by
  unfold qa_fL_isBurnt_76 at h
  try dsimp only at h
  refine qa_bn_mono (N := 0) (by omega) ?_
  refine qa_bn_do (pc' := 77) rfl rfl ?_
  cases h
  exact qa_bn_rb rfl rfl rfl
set_option maxRecDepth 1000000 in
theorem qa_tL_isBurnt_72 {L : Nat} {a2 : Int32}  {σ : qa_T} {r : (Bool × qa_T)} (h : qa_fL_isBurnt_72 a2 σ = some r) : qa_Bn L (0) qa_mL_isBurnt 72 [(0, .inl (0, 1)), (1, .inr (.int a2))] [] σ (some (.inr (.int (qa_bi r.1)))) r.2 := by
  unfold qa_fL_isBurnt_72 at h
  try dsimp only at h
  refine qa_bn_mono (N := 0) (by omega) ?_
  refine qa_bn_do (pc' := 73) rfl rfl ?_
  refine qa_bn_do (pc' := 77) rfl rfl ?_
  cases h
  exact qa_bn_rb rfl rfl rfl
set_option maxRecDepth 1000000 in
theorem qa_tL_isBurnt {L : Nat} {a2 : Int32}  {σ : qa_T} {r : (Bool × qa_T)} (h : qa_fL_isBurnt a2 σ = some r) : qa_Bn L 1 qa_mL_isBurnt 0 (qa_ag 0 [.inl (0, 1), .inr (.int a2)]) [] σ (some (.inr (.int (qa_bi r.1)))) r.2 := by
  unfold qa_fL_isBurnt at h
  try dsimp only at h
  show qa_Bn L 1 qa_mL_isBurnt 0 [(0, .inl (0, 1)), (1, .inr (.int a2))] [] σ _ _
  refine qa_bn_do (pc' := 1) rfl rfl ?_
  refine qa_bn_do (pc' := 2) rfl rfl ?_
  obtain ⟨⟨c1, σ4⟩, hc2, h⟩ := Option.bind_eq_some_iff.mp h
  have hc2 := Option.some.inj hc2
  cases c1 with
  | inl r3 =>
    try dsimp only at h
    refine qa_bn_cv (qa_tX9_burntTimes hc2) rfl rfl rfl rfl rfl rfl rfl qa_dx_0_1 ?_
    refine qa_bn_do (pc' := 6) (lv' := [(2, _), (0, _), (1, _)]) rfl rfl ?_
    refine qa_bn_do (pc' := 7) rfl rfl ?_
    refine qa_bn_cv (qa_tX9_burnings rfl) rfl rfl rfl rfl rfl rfl rfl qa_dx_0_1 ?_
    refine qa_bn_do (pc' := 11) (lv' := [(3, _), (2, _), (0, _), (1, _)]) rfl rfl ?_
    refine qa_bn_do (pc' := 12) rfl rfl ?_
    refine qa_bn_do (pc' := 13) rfl rfl ?_
    obtain ⟨⟨c7, σ10⟩, hc8, h⟩ := Option.bind_eq_some_iff.mp h
    cases c7 with
    | inl r9 =>
      try dsimp only at h
      refine qa_bn_cv (qa_tX9_burn hc8) rfl rfl rfl rfl rfl rfl rfl qa_dx_0_1 ?_
      refine qa_bn_do (pc' := 17) rfl rfl ?_
      refine qa_bn_do (pc' := 18) rfl rfl ?_
      obtain ⟨⟨c12, σ15⟩, hc13, h⟩ := Option.bind_eq_some_iff.mp h
      have hc13 := Option.some.inj hc13
      cases c12 with
      | inl r14 =>
        try dsimp only at h
        refine qa_bn_cv (qa_tX9_costOf hc13) rfl rfl rfl rfl rfl rfl rfl qa_dx_0_1 ?_
        rcases qa_ite h with ⟨hc17, h⟩ | ⟨hc17, h⟩
        · refine qa_bn_1t (a := 76) (b := 24) hc17 rfl rfl ?_
          exact qa_bn_mono (N := 0) (by omega) <| qa_bn_lw (qa_tL_isBurnt_76  h) rfl rfl (And.intro rfl (And.intro rfl (trivial)))
        · refine qa_bn_1f (a := 76) (b := 24) hc17 rfl rfl ?_
          refine qa_bn_do (pc' := 25) rfl rfl ?_
          refine qa_bn_do (pc' := 26) rfl rfl ?_
          obtain ⟨⟨c18, σ21⟩, hc19, h⟩ := Option.bind_eq_some_iff.mp h
          have hc19 := Option.some.inj hc19
          cases c18 with
          | inl r20 =>
            try dsimp only at h
            refine qa_bn_cv (qa_tX9_burntTimes hc19) rfl rfl rfl rfl rfl rfl rfl qa_dx_0_1 ?_
            refine qa_bn_do (pc' := 30) rfl rfl ?_
            refine qa_bn_do (pc' := 31) rfl rfl ?_
            refine qa_bn_do (pc' := 32) rfl rfl ?_
            rcases qa_ite h with ⟨hc23, h⟩ | ⟨hc23, h⟩
            · refine qa_bn_1t (a := 76) (b := 35) hc23 rfl rfl ?_
              exact qa_bn_mono (N := 0) (by omega) <| qa_bn_lw (qa_tL_isBurnt_76  h) rfl rfl (And.intro rfl (And.intro rfl (trivial)))
            · refine qa_bn_1f (a := 76) (b := 35) hc23 rfl rfl ?_
              refine qa_bn_do (pc' := 36) rfl rfl ?_
              refine qa_bn_cv (qa_tX9_burnings rfl) rfl rfl rfl rfl rfl rfl rfl qa_dx_0_1 ?_
              refine qa_bn_do (pc' := 40) rfl rfl ?_
              rcases qa_ite h with ⟨hc24, h⟩ | ⟨hc24, h⟩
              · refine qa_bn_1t (a := 76) (b := 43) hc24 rfl rfl ?_
                exact qa_bn_mono (N := 0) (by omega) <| qa_bn_lw (qa_tL_isBurnt_76  h) rfl rfl (And.intro rfl (And.intro rfl (trivial)))
              · refine qa_bn_1f (a := 76) (b := 43) hc24 rfl rfl ?_
                refine qa_bn_do (pc' := 44) rfl rfl ?_
                refine qa_bn_do (pc' := 45) rfl rfl ?_
                obtain ⟨⟨c25, σ28⟩, hc26, h⟩ := Option.bind_eq_some_iff.mp h
                have hc26 := Option.some.inj hc26
                cases c25 with
                | inl r27 =>
                  try dsimp only at h
                  refine qa_bn_cv (qa_tX9_isLoaded hc26) rfl rfl rfl rfl rfl rfl rfl qa_dx_0_1 ?_
                  rcases qa_ite h with ⟨hc30, h⟩ | ⟨hc30, h⟩
                  · refine qa_bn_1t (a := 76) (b := 51) hc30 rfl rfl ?_
                    exact qa_bn_mono (N := 0) (by omega) <| qa_bn_lw (qa_tL_isBurnt_76  h) rfl rfl (And.intro rfl (And.intro rfl (trivial)))
                  · refine qa_bn_1f (a := 76) (b := 51) hc30 rfl rfl ?_
                    refine qa_bn_do (pc' := 52) rfl rfl ?_
                    refine qa_bn_do (pc' := 53) rfl rfl ?_
                    obtain ⟨c31, hc32, h⟩ := Option.bind_eq_some_iff.mp h
                    refine qa_bn_cl (N1 := 1) (N2 := 0) (N := 1) (by omega) (qa_tL_told hc32) rfl rfl rfl rfl rfl rfl rfl ?_
                    refine qa_bn_do (pc' := 57) rfl rfl ?_
                    rcases qa_ite h with ⟨hc33, h⟩ | ⟨hc33, h⟩
                    · refine qa_bn_1t (a := 72) (b := 60) hc33 rfl rfl ?_
                      exact qa_bn_mono (N := 0) (by omega) <| qa_bn_lw (qa_tL_isBurnt_72  h) rfl rfl (And.intro rfl (And.intro rfl (trivial)))
                    · refine qa_bn_1f (a := 72) (b := 60) hc33 rfl rfl ?_
                      refine qa_bn_do (pc' := 61) rfl rfl ?_
                      refine qa_bn_do (pc' := 62) rfl rfl ?_
                      obtain ⟨⟨c34, σ37⟩, hc35, h⟩ := Option.bind_eq_some_iff.mp h
                      have hc35 := Option.some.inj hc35
                      cases c34 with
                      | inl r36 =>
                        try dsimp only at h
                        refine qa_bn_cv (qa_tX9_glowOf hc35) rfl rfl rfl rfl rfl rfl rfl qa_dx_0_1 ?_
                        refine qa_bn_do (pc' := 66) rfl rfl ?_
                        refine qa_bn_cv (qa_tX9_glow rfl) rfl rfl rfl rfl rfl rfl rfl qa_dx_0_1 ?_
                        rcases qa_ite h with ⟨hc39, h⟩ | ⟨hc39, h⟩
                        · refine qa_bn_1t (a := 76) (b := 72) hc39 rfl rfl ?_
                          exact qa_bn_mono (N := 0) (by omega) <| qa_bn_lw (qa_tL_isBurnt_76  h) rfl rfl (And.intro rfl (And.intro rfl (trivial)))
                        · refine qa_bn_1f (a := 76) (b := 72) hc39 rfl rfl ?_
                          exact qa_bn_mono (N := 0) (by omega) <| qa_bn_lw (qa_tL_isBurnt_72  h) rfl rfl (And.intro rfl (And.intro rfl (trivial)))
                      | inr E38 =>
                        try dsimp only at h
                        cases h
                | inr E29 =>
                  try dsimp only at h
                  cases h
          | inr E22 =>
            try dsimp only at h
            cases h
      | inr E16 =>
        try dsimp only at h
        cases h
    | inr E11 =>
      try dsimp only at h
      cases h
  | inr E5 =>
    try dsimp only at h
    cases h
noncomputable def qa_fL_isTicked_50 (a2 : Int32) (σ : qa_T) : Option (Bool × qa_T) :=
    some (false, σ)
noncomputable def qa_fL_isTicked (a2 : Int32) (σ : qa_T) : Option (Bool × qa_T) :=
    let v1 : Int32 := (qa_fX9_time σ)
    let v2 : Int32 := (qa_fX9_waited σ)
    (qa_fX9_tick a2 σ).bind fun c3 => match c3 with
      | (.inl r5, σ6) =>
        if r5 < 0 then
          qa_fL_isTicked_50 a2 σ6
        else
          if ¬ (qa_fX9_time σ6) = (v1 + a2) then
            qa_fL_isTicked_50 a2 σ6
          else
            if (qa_fX9_waited σ6) < v2 then
              qa_fL_isTicked_50 a2 σ6
            else
              if (v2 + a2) < (qa_fX9_waited σ6) then
                qa_fL_isTicked_50 a2 σ6
              else
                some (true, σ6)
      | (.inr E7, σ6) =>
        none
set_option maxRecDepth 1000000 in
theorem qa_tL_isTicked_50 {L : Nat} {a2 : Int32}  {σ : qa_T} {r : (Bool × qa_T)} (h : qa_fL_isTicked_50 a2 σ = some r) : qa_Bn L (0) qa_mL_isTicked 50 [(0, .inl (0, 1)), (1, .inr (.int a2))] [] σ (some (.inr (.int (qa_bi r.1)))) r.2 := by
  unfold qa_fL_isTicked_50 at h
  try dsimp only at h
  refine qa_bn_mono (N := 0) (by omega) ?_
  refine qa_bn_do (pc' := 51) rfl rfl ?_
  cases h
  exact qa_bn_rb rfl rfl rfl
set_option maxRecDepth 1000000 in
theorem qa_tL_isTicked {L : Nat} {a2 : Int32}  {σ : qa_T} {r : (Bool × qa_T)} (h : qa_fL_isTicked a2 σ = some r) : qa_Bn L 0 qa_mL_isTicked 0 (qa_ag 0 [.inl (0, 1), .inr (.int a2)]) [] σ (some (.inr (.int (qa_bi r.1)))) r.2 := by
  unfold qa_fL_isTicked at h
  try dsimp only at h
  show qa_Bn L 0 qa_mL_isTicked 0 [(0, .inl (0, 1)), (1, .inr (.int a2))] [] σ _ _
  refine qa_bn_do (pc' := 1) rfl rfl ?_
  refine qa_bn_cv (qa_tX9_time rfl) rfl rfl rfl rfl rfl rfl rfl qa_dx_0_1 ?_
  refine qa_bn_do (pc' := 5) (lv' := [(2, _), (0, _), (1, _)]) rfl rfl ?_
  refine qa_bn_do (pc' := 6) rfl rfl ?_
  refine qa_bn_cv (qa_tX9_waited rfl) rfl rfl rfl rfl rfl rfl rfl qa_dx_0_1 ?_
  refine qa_bn_do (pc' := 10) (lv' := [(3, _), (2, _), (0, _), (1, _)]) rfl rfl ?_
  refine qa_bn_do (pc' := 11) rfl rfl ?_
  refine qa_bn_do (pc' := 12) rfl rfl ?_
  obtain ⟨⟨c3, σ6⟩, hc4, h⟩ := Option.bind_eq_some_iff.mp h
  cases c3 with
  | inl r5 =>
    try dsimp only at h
    refine qa_bn_cv (qa_tX9_tick hc4) rfl rfl rfl rfl rfl rfl rfl qa_dx_0_1 ?_
    rcases qa_ite h with ⟨hc8, h⟩ | ⟨hc8, h⟩
    · refine qa_bn_1t (a := 50) (b := 18) hc8 rfl rfl ?_
      exact qa_bn_mono (N := 0) (by omega) <| qa_bn_lw (qa_tL_isTicked_50  h) rfl rfl (And.intro rfl (And.intro rfl (trivial)))
    · refine qa_bn_1f (a := 50) (b := 18) hc8 rfl rfl ?_
      refine qa_bn_do (pc' := 19) rfl rfl ?_
      refine qa_bn_cv (qa_tX9_time rfl) rfl rfl rfl rfl rfl rfl rfl qa_dx_0_1 ?_
      refine qa_bn_do (pc' := 23) rfl rfl ?_
      refine qa_bn_do (pc' := 24) rfl rfl ?_
      refine qa_bn_do (pc' := 25) rfl rfl ?_
      rcases qa_ite h with ⟨hc9, h⟩ | ⟨hc9, h⟩
      · refine qa_bn_1t (a := 50) (b := 28) hc9 rfl rfl ?_
        exact qa_bn_mono (N := 0) (by omega) <| qa_bn_lw (qa_tL_isTicked_50  h) rfl rfl (And.intro rfl (And.intro rfl (trivial)))
      · refine qa_bn_1f (a := 50) (b := 28) hc9 rfl rfl ?_
        refine qa_bn_do (pc' := 29) rfl rfl ?_
        refine qa_bn_cv (qa_tX9_waited rfl) rfl rfl rfl rfl rfl rfl rfl qa_dx_0_1 ?_
        refine qa_bn_do (pc' := 33) rfl rfl ?_
        rcases qa_ite h with ⟨hc10, h⟩ | ⟨hc10, h⟩
        · refine qa_bn_1t (a := 50) (b := 36) hc10 rfl rfl ?_
          exact qa_bn_mono (N := 0) (by omega) <| qa_bn_lw (qa_tL_isTicked_50  h) rfl rfl (And.intro rfl (And.intro rfl (trivial)))
        · refine qa_bn_1f (a := 50) (b := 36) hc10 rfl rfl ?_
          refine qa_bn_do (pc' := 37) rfl rfl ?_
          refine qa_bn_cv (qa_tX9_waited rfl) rfl rfl rfl rfl rfl rfl rfl qa_dx_0_1 ?_
          refine qa_bn_do (pc' := 41) rfl rfl ?_
          refine qa_bn_do (pc' := 42) rfl rfl ?_
          refine qa_bn_do (pc' := 43) rfl rfl ?_
          rcases qa_ite h with ⟨hc11, h⟩ | ⟨hc11, h⟩
          · refine qa_bn_1t (a := 50) (b := 46) hc11 rfl rfl ?_
            exact qa_bn_mono (N := 0) (by omega) <| qa_bn_lw (qa_tL_isTicked_50  h) rfl rfl (And.intro rfl (And.intro rfl (trivial)))
          · refine qa_bn_1f (a := 50) (b := 46) hc11 rfl rfl ?_
            refine qa_bn_do (pc' := 47) rfl rfl ?_
            refine qa_bn_do (pc' := 51) rfl rfl ?_
            cases h
            exact qa_bn_rb rfl rfl rfl
  | inr E7 =>
    try dsimp only at h
    cases h
noncomputable def qa_fL_isAwaited_118  (σ : qa_T) : Option (Bool × qa_T) :=
    some (false, σ)
noncomputable def qa_fL_isAwaited_77  (x1 : Int32) (x3 : Int32) (σ : qa_T) : Option (Bool × qa_T) :=
    if x3 = 0 then
      qa_fL_isAwaited_118  σ
    else
      (qa_fX9_tick (Int32.ofInt 1) σ).bind fun c16 => match c16 with
        | (.inl r18, σ19) =>
          if ¬ r18 = (Int32.ofInt 1) then
            qa_fL_isAwaited_118  σ19
          else
            (qa_fL_told (Int32.ofInt 0) σ19).bind fun c22 =>
            if 0 ≤ c22.1 then
              qa_fL_isAwaited_118  c22.2
            else
              (qa_fL_told (Int32.ofInt 1) c22.2).bind fun c25 =>
              if ¬ c25.1 = x1 then
                qa_fL_isAwaited_118  c25.2
              else
                (some (qa_fX9_shownFor c25.2)).bind fun c28 => match c28 with
                  | (.inl r30, σ31) =>
                    if ¬ r30 = 0 then
                      qa_fL_isAwaited_118  σ31
                    else
                      some (true, σ31)
                  | (.inr E32, σ31) =>
                    none
        | (.inr E20, σ19) =>
          none
noncomputable def qa_fL_isAwaited_76  (x1 : Int32) (σ : qa_T) : Option (Bool × qa_T) :=
    qa_fL_isAwaited_77  x1 (Int32.ofInt 0) σ
noncomputable def qa_fL_isAwaited_75  (x1 : Int32) (σ : qa_T) : Option (Bool × qa_T) :=
    qa_fL_isAwaited_76  x1 σ
noncomputable def qa_fL_isAwaited_76_1  (x1 : Int32) (σ : qa_T) : Option (Bool × qa_T) :=
    qa_fL_isAwaited_77  x1 (Int32.ofInt 1) σ
noncomputable def qa_fL_isAwaited_34  (x1 : Int32) (x2 : Int32) (σ : qa_T) : Option (Bool × qa_T) :=
    if x2 ≤ (Int32.ofInt 1) then
      qa_fL_isAwaited_77  x1 (Int32.ofInt 0) σ
    else
      if (Int32.ofInt 0) = 0 then
        qa_fL_isAwaited_75  x1 σ
      else
        (qa_fX9_tick (x2 - (Int32.ofInt 1)) σ).bind fun c35 => match c35 with
          | (.inl r37, σ38) =>
            if ¬ r37 = 0 then
              qa_fL_isAwaited_75  x1 σ38
            else
              (qa_fL_told (Int32.ofInt 0) σ38).bind fun c41 =>
              if ¬ c41.1 = x1 then
                qa_fL_isAwaited_75  x1 c41.2
              else
                (some (qa_fX9_ticksToShowBySums c41.2)).bind fun c44 => match c44 with
                  | (.inl r46, σ47) =>
                    if ¬ r46 = (Int32.ofInt 1) then
                      qa_fL_isAwaited_75  x1 σ47
                    else
                      qa_fL_isAwaited_76_1  x1 σ47
                  | (.inr E48, σ47) =>
                    none
          | (.inr E39, σ38) =>
            none
noncomputable def qa_fL_isAwaited_33  (x1 : Int32) (x2 : Int32) (σ : qa_T) : Option (Bool × qa_T) :=
    qa_fL_isAwaited_34  x1 x2 σ
noncomputable def qa_fL_isAwaited_34_1  (x1 : Int32) (x2 : Int32) (σ : qa_T) : Option (Bool × qa_T) :=
    if x2 ≤ (Int32.ofInt 1) then
      qa_fL_isAwaited_77  x1 (Int32.ofInt 1) σ
    else
      if (Int32.ofInt 1) = 0 then
        qa_fL_isAwaited_75  x1 σ
      else
        (qa_fX9_tick (x2 - (Int32.ofInt 1)) σ).bind fun c54 => match c54 with
          | (.inl r56, σ57) =>
            if ¬ r56 = 0 then
              qa_fL_isAwaited_75  x1 σ57
            else
              (qa_fL_told (Int32.ofInt 0) σ57).bind fun c60 =>
              if ¬ c60.1 = x1 then
                qa_fL_isAwaited_75  x1 c60.2
              else
                (some (qa_fX9_ticksToShowBySums c60.2)).bind fun c63 => match c63 with
                  | (.inl r65, σ66) =>
                    if ¬ r65 = (Int32.ofInt 1) then
                      qa_fL_isAwaited_75  x1 σ66
                    else
                      qa_fL_isAwaited_76_1  x1 σ66
                  | (.inr E67, σ66) =>
                    none
          | (.inr E58, σ57) =>
            none
noncomputable def qa_fL_isAwaited  (σ : qa_T) : Option (Bool × qa_T) :=
    (qa_fL_told (Int32.ofInt 0) σ).bind fun c1 =>
    (qa_fX9_ticksToShowByTicks c1.2).bind fun c3 => match c3 with
      | (.inl r5, σ6) =>
        (some (qa_fX9_ticksToShowBySums σ6)).bind fun c8 => match c8 with
          | (.inl r10, σ11) =>
            if ¬ r10 = r5 then
              qa_fL_isAwaited_33  c1.1 r5 σ11
            else
              if r5 ≤ 0 then
                qa_fL_isAwaited_33  c1.1 r5 σ11
              else
                if ((Int8.ofInt 41).toInt32) ≤ r5 then
                  qa_fL_isAwaited_33  c1.1 r5 σ11
                else
                  qa_fL_isAwaited_34_1  c1.1 r5 σ11
          | (.inr E12, σ11) =>
            none
      | (.inr E7, σ6) =>
        none
set_option maxRecDepth 1000000 in
theorem qa_tL_isAwaited_118 {L : Nat}  {σ : qa_T} {r : (Bool × qa_T)} (h : qa_fL_isAwaited_118  σ = some r) : qa_Bn L (0) qa_mL_isAwaited 118 [(0, .inl (0, 1))] [] σ (some (.inr (.int (qa_bi r.1)))) r.2 := by
  unfold qa_fL_isAwaited_118 at h
  try dsimp only at h
  refine qa_bn_mono (N := 0) (by omega) ?_
  refine qa_bn_do (pc' := 119) rfl rfl ?_
  cases h
  exact qa_bn_rb rfl rfl rfl
set_option maxRecDepth 1000000 in
theorem qa_tL_isAwaited_77 {L : Nat}  {x1 : Int32} {x3 : Int32} {σ : qa_T} {r : (Bool × qa_T)} (h : qa_fL_isAwaited_77  x1 x3 σ = some r) : qa_Bn L (2) qa_mL_isAwaited 77 [(0, .inl (0, 1)), (1, .inr (.int x1)), (3, .inr (.int x3))] [] σ (some (.inr (.int (qa_bi r.1)))) r.2 := by
  unfold qa_fL_isAwaited_77 at h
  try dsimp only at h
  refine qa_bn_mono (N := 2) (by omega) ?_
  refine qa_bn_do (pc' := 78) rfl rfl ?_
  rcases qa_ite h with ⟨hc15, h⟩ | ⟨hc15, h⟩
  · refine qa_bn_1t (a := 118) (b := 81) hc15 rfl rfl ?_
    exact qa_bn_mono (N := 0) (by omega) <| qa_bn_lw (qa_tL_isAwaited_118  h) rfl rfl (And.intro rfl (trivial))
  · refine qa_bn_1f (a := 118) (b := 81) hc15 rfl rfl ?_
    refine qa_bn_do (pc' := 82) rfl rfl ?_
    refine qa_bn_do (pc' := 83) rfl rfl ?_
    obtain ⟨⟨c16, σ19⟩, hc17, h⟩ := Option.bind_eq_some_iff.mp h
    cases c16 with
    | inl r18 =>
      try dsimp only at h
      refine qa_bn_cv (qa_tX9_tick hc17) rfl rfl rfl rfl rfl rfl rfl qa_dx_0_1 ?_
      refine qa_bn_do (pc' := 87) rfl rfl ?_
      rcases qa_ite h with ⟨hc21, h⟩ | ⟨hc21, h⟩
      · refine qa_bn_1t (a := 118) (b := 90) hc21 rfl rfl ?_
        exact qa_bn_mono (N := 0) (by omega) <| qa_bn_lw (qa_tL_isAwaited_118  h) rfl rfl (And.intro rfl (trivial))
      · refine qa_bn_1f (a := 118) (b := 90) hc21 rfl rfl ?_
        refine qa_bn_do (pc' := 91) rfl rfl ?_
        refine qa_bn_do (pc' := 92) rfl rfl ?_
        obtain ⟨c22, hc23, h⟩ := Option.bind_eq_some_iff.mp h
        refine qa_bn_cl (N1 := 1) (N2 := 1) (N := 2) (by omega) (qa_tL_told hc23) rfl rfl rfl rfl rfl rfl rfl ?_
        rcases qa_ite h with ⟨hc24, h⟩ | ⟨hc24, h⟩
        · refine qa_bn_1t (a := 118) (b := 98) hc24 rfl rfl ?_
          exact qa_bn_mono (N := 0) (by omega) <| qa_bn_lw (qa_tL_isAwaited_118  h) rfl rfl (And.intro rfl (trivial))
        · refine qa_bn_1f (a := 118) (b := 98) hc24 rfl rfl ?_
          refine qa_bn_do (pc' := 99) rfl rfl ?_
          refine qa_bn_do (pc' := 100) rfl rfl ?_
          obtain ⟨c25, hc26, h⟩ := Option.bind_eq_some_iff.mp h
          refine qa_bn_cl (N1 := 1) (N2 := 0) (N := 1) (by omega) (qa_tL_told hc26) rfl rfl rfl rfl rfl rfl rfl ?_
          refine qa_bn_do (pc' := 104) rfl rfl ?_
          rcases qa_ite h with ⟨hc27, h⟩ | ⟨hc27, h⟩
          · refine qa_bn_1t (a := 118) (b := 107) hc27 rfl rfl ?_
            exact qa_bn_mono (N := 0) (by omega) <| qa_bn_lw (qa_tL_isAwaited_118  h) rfl rfl (And.intro rfl (trivial))
          · refine qa_bn_1f (a := 118) (b := 107) hc27 rfl rfl ?_
            refine qa_bn_do (pc' := 108) rfl rfl ?_
            obtain ⟨⟨c28, σ31⟩, hc29, h⟩ := Option.bind_eq_some_iff.mp h
            have hc29 := Option.some.inj hc29
            cases c28 with
            | inl r30 =>
              try dsimp only at h
              refine qa_bn_cv (qa_tX9_shownFor hc29) rfl rfl rfl rfl rfl rfl rfl qa_dx_0_1 ?_
              rcases qa_ite h with ⟨hc33, h⟩ | ⟨hc33, h⟩
              · refine qa_bn_1t (a := 118) (b := 114) hc33 rfl rfl ?_
                exact qa_bn_mono (N := 0) (by omega) <| qa_bn_lw (qa_tL_isAwaited_118  h) rfl rfl (And.intro rfl (trivial))
              · refine qa_bn_1f (a := 118) (b := 114) hc33 rfl rfl ?_
                refine qa_bn_do (pc' := 115) rfl rfl ?_
                refine qa_bn_do (pc' := 119) rfl rfl ?_
                cases h
                exact qa_bn_rb rfl rfl rfl
            | inr E32 =>
              try dsimp only at h
              cases h
    | inr E20 =>
      try dsimp only at h
      cases h
set_option maxRecDepth 1000000 in
theorem qa_tL_isAwaited_76 {L : Nat}  {x1 : Int32} {σ : qa_T} {r : (Bool × qa_T)} (h : qa_fL_isAwaited_76  x1 σ = some r) : qa_Bn L (2) qa_mL_isAwaited 76 [(0, .inl (0, 1)), (1, .inr (.int x1))] [.inr (.int (Int32.ofInt 0))] σ (some (.inr (.int (qa_bi r.1)))) r.2 := by
  unfold qa_fL_isAwaited_76 at h
  try dsimp only at h
  refine qa_bn_mono (N := 2) (by omega) ?_
  refine qa_bn_do (pc' := 77) (lv' := [(3, _), (0, _), (1, _)]) rfl rfl ?_
  exact qa_bn_mono (N := 2) (by omega) <| qa_bn_lw (qa_tL_isAwaited_77  h) rfl rfl (And.intro rfl (And.intro rfl (And.intro rfl (trivial))))
set_option maxRecDepth 1000000 in
theorem qa_tL_isAwaited_75 {L : Nat}  {x1 : Int32} {σ : qa_T} {r : (Bool × qa_T)} (h : qa_fL_isAwaited_75  x1 σ = some r) : qa_Bn L (2) qa_mL_isAwaited 75 [(0, .inl (0, 1)), (1, .inr (.int x1))] [] σ (some (.inr (.int (qa_bi r.1)))) r.2 := by
  unfold qa_fL_isAwaited_75 at h
  try dsimp only at h
  refine qa_bn_mono (N := 2) (by omega) ?_
  refine qa_bn_do (pc' := 76) rfl rfl ?_
  exact qa_bn_mono (N := 2) (by omega) <| qa_bn_lw (qa_tL_isAwaited_76  h) rfl rfl (And.intro rfl (And.intro rfl (trivial)))
set_option maxRecDepth 1000000 in
theorem qa_tL_isAwaited_76_1 {L : Nat}  {x1 : Int32} {σ : qa_T} {r : (Bool × qa_T)} (h : qa_fL_isAwaited_76_1  x1 σ = some r) : qa_Bn L (2) qa_mL_isAwaited 76 [(0, .inl (0, 1)), (1, .inr (.int x1))] [.inr (.int (Int32.ofInt 1))] σ (some (.inr (.int (qa_bi r.1)))) r.2 := by
  unfold qa_fL_isAwaited_76_1 at h
  try dsimp only at h
  refine qa_bn_mono (N := 2) (by omega) ?_
  refine qa_bn_do (pc' := 77) (lv' := [(3, _), (0, _), (1, _)]) rfl rfl ?_
  exact qa_bn_mono (N := 2) (by omega) <| qa_bn_lw (qa_tL_isAwaited_77  h) rfl rfl (And.intro rfl (And.intro rfl (And.intro rfl (trivial))))
set_option maxRecDepth 1000000 in
theorem qa_tL_isAwaited_34 {L : Nat}  {x1 : Int32} {x2 : Int32} {σ : qa_T} {r : (Bool × qa_T)} (h : qa_fL_isAwaited_34  x1 x2 σ = some r) : qa_Bn L (3) qa_mL_isAwaited 34 [(0, .inl (0, 1)), (1, .inr (.int x1)), (2, .inr (.int x2))] [.inr (.int (Int32.ofInt 0))] σ (some (.inr (.int (qa_bi r.1)))) r.2 := by
  unfold qa_fL_isAwaited_34 at h
  try dsimp only at h
  refine qa_bn_mono (N := 3) (by omega) ?_
  refine qa_bn_do (pc' := 35) (lv' := [(3, _), (0, _), (1, _), (2, _)]) rfl rfl ?_
  refine qa_bn_do (pc' := 36) rfl rfl ?_
  refine qa_bn_do (pc' := 37) rfl rfl ?_
  rcases qa_ite h with ⟨hc14, h⟩ | ⟨hc14, h⟩
  · refine qa_bn_1t (a := 77) (b := 40) hc14 rfl rfl ?_
    exact qa_bn_mono (N := 2) (by omega) <| qa_bn_lw (qa_tL_isAwaited_77  h) rfl rfl (And.intro rfl (And.intro rfl (And.intro rfl (trivial))))
  · refine qa_bn_1f (a := 77) (b := 40) hc14 rfl rfl ?_
    refine qa_bn_do (pc' := 41) rfl rfl ?_
    rcases qa_ite h with ⟨hc34, h⟩ | ⟨hc34, h⟩
    · refine qa_bn_1t (a := 75) (b := 44) hc34 rfl rfl ?_
      exact qa_bn_mono (N := 2) (by omega) <| qa_bn_lw (qa_tL_isAwaited_75  h) rfl rfl (And.intro rfl (And.intro rfl (trivial)))
    · refine qa_bn_1f (a := 75) (b := 44) hc34 rfl rfl ?_
      refine qa_bn_do (pc' := 45) rfl rfl ?_
      refine qa_bn_do (pc' := 46) rfl rfl ?_
      refine qa_bn_do (pc' := 47) rfl rfl ?_
      refine qa_bn_do (pc' := 48) rfl rfl ?_
      obtain ⟨⟨c35, σ38⟩, hc36, h⟩ := Option.bind_eq_some_iff.mp h
      cases c35 with
      | inl r37 =>
        try dsimp only at h
        refine qa_bn_cv (qa_tX9_tick hc36) rfl rfl rfl rfl rfl rfl rfl qa_dx_0_1 ?_
        rcases qa_ite h with ⟨hc40, h⟩ | ⟨hc40, h⟩
        · refine qa_bn_1t (a := 75) (b := 54) hc40 rfl rfl ?_
          exact qa_bn_mono (N := 2) (by omega) <| qa_bn_lw (qa_tL_isAwaited_75  h) rfl rfl (And.intro rfl (And.intro rfl (trivial)))
        · refine qa_bn_1f (a := 75) (b := 54) hc40 rfl rfl ?_
          refine qa_bn_do (pc' := 55) rfl rfl ?_
          refine qa_bn_do (pc' := 56) rfl rfl ?_
          obtain ⟨c41, hc42, h⟩ := Option.bind_eq_some_iff.mp h
          refine qa_bn_cl (N1 := 1) (N2 := 2) (N := 3) (by omega) (qa_tL_told hc42) rfl rfl rfl rfl rfl rfl rfl ?_
          refine qa_bn_do (pc' := 60) rfl rfl ?_
          rcases qa_ite h with ⟨hc43, h⟩ | ⟨hc43, h⟩
          · refine qa_bn_1t (a := 75) (b := 63) hc43 rfl rfl ?_
            exact qa_bn_mono (N := 2) (by omega) <| qa_bn_lw (qa_tL_isAwaited_75  h) rfl rfl (And.intro rfl (And.intro rfl (trivial)))
          · refine qa_bn_1f (a := 75) (b := 63) hc43 rfl rfl ?_
            refine qa_bn_do (pc' := 64) rfl rfl ?_
            obtain ⟨⟨c44, σ47⟩, hc45, h⟩ := Option.bind_eq_some_iff.mp h
            have hc45 := Option.some.inj hc45
            cases c44 with
            | inl r46 =>
              try dsimp only at h
              refine qa_bn_cv (qa_tX9_ticksToShowBySums hc45) rfl rfl rfl rfl rfl rfl rfl qa_dx_0_1 ?_
              refine qa_bn_do (pc' := 68) rfl rfl ?_
              rcases qa_ite h with ⟨hc49, h⟩ | ⟨hc49, h⟩
              · refine qa_bn_1t (a := 75) (b := 71) hc49 rfl rfl ?_
                exact qa_bn_mono (N := 2) (by omega) <| qa_bn_lw (qa_tL_isAwaited_75  h) rfl rfl (And.intro rfl (And.intro rfl (trivial)))
              · refine qa_bn_1f (a := 75) (b := 71) hc49 rfl rfl ?_
                refine qa_bn_do (pc' := 72) rfl rfl ?_
                refine qa_bn_do (pc' := 76) rfl rfl ?_
                exact qa_bn_mono (N := 2) (by omega) <| qa_bn_lw (qa_tL_isAwaited_76_1  h) rfl rfl (And.intro rfl (And.intro rfl (trivial)))
            | inr E48 =>
              try dsimp only at h
              cases h
      | inr E39 =>
        try dsimp only at h
        cases h
set_option maxRecDepth 1000000 in
theorem qa_tL_isAwaited_33 {L : Nat}  {x1 : Int32} {x2 : Int32} {σ : qa_T} {r : (Bool × qa_T)} (h : qa_fL_isAwaited_33  x1 x2 σ = some r) : qa_Bn L (3) qa_mL_isAwaited 33 [(0, .inl (0, 1)), (1, .inr (.int x1)), (2, .inr (.int x2))] [] σ (some (.inr (.int (qa_bi r.1)))) r.2 := by
  unfold qa_fL_isAwaited_33 at h
  try dsimp only at h
  refine qa_bn_mono (N := 3) (by omega) ?_
  refine qa_bn_do (pc' := 34) rfl rfl ?_
  exact qa_bn_mono (N := 3) (by omega) <| qa_bn_lw (qa_tL_isAwaited_34  h) rfl rfl (And.intro rfl (And.intro rfl (And.intro rfl (trivial))))
set_option maxRecDepth 1000000 in
theorem qa_tL_isAwaited_34_1 {L : Nat}  {x1 : Int32} {x2 : Int32} {σ : qa_T} {r : (Bool × qa_T)} (h : qa_fL_isAwaited_34_1  x1 x2 σ = some r) : qa_Bn L (3) qa_mL_isAwaited 34 [(0, .inl (0, 1)), (1, .inr (.int x1)), (2, .inr (.int x2))] [.inr (.int (Int32.ofInt 1))] σ (some (.inr (.int (qa_bi r.1)))) r.2 := by
  unfold qa_fL_isAwaited_34_1 at h
  try dsimp only at h
  refine qa_bn_mono (N := 3) (by omega) ?_
  refine qa_bn_do (pc' := 35) (lv' := [(3, _), (0, _), (1, _), (2, _)]) rfl rfl ?_
  refine qa_bn_do (pc' := 36) rfl rfl ?_
  refine qa_bn_do (pc' := 37) rfl rfl ?_
  rcases qa_ite h with ⟨hc52, h⟩ | ⟨hc52, h⟩
  · refine qa_bn_1t (a := 77) (b := 40) hc52 rfl rfl ?_
    exact qa_bn_mono (N := 2) (by omega) <| qa_bn_lw (qa_tL_isAwaited_77  h) rfl rfl (And.intro rfl (And.intro rfl (And.intro rfl (trivial))))
  · refine qa_bn_1f (a := 77) (b := 40) hc52 rfl rfl ?_
    refine qa_bn_do (pc' := 41) rfl rfl ?_
    rcases qa_ite h with ⟨hc53, h⟩ | ⟨hc53, h⟩
    · refine qa_bn_1t (a := 75) (b := 44) hc53 rfl rfl ?_
      exact qa_bn_mono (N := 2) (by omega) <| qa_bn_lw (qa_tL_isAwaited_75  h) rfl rfl (And.intro rfl (And.intro rfl (trivial)))
    · refine qa_bn_1f (a := 75) (b := 44) hc53 rfl rfl ?_
      refine qa_bn_do (pc' := 45) rfl rfl ?_
      refine qa_bn_do (pc' := 46) rfl rfl ?_
      refine qa_bn_do (pc' := 47) rfl rfl ?_
      refine qa_bn_do (pc' := 48) rfl rfl ?_
      obtain ⟨⟨c54, σ57⟩, hc55, h⟩ := Option.bind_eq_some_iff.mp h
      cases c54 with
      | inl r56 =>
        try dsimp only at h
        refine qa_bn_cv (qa_tX9_tick hc55) rfl rfl rfl rfl rfl rfl rfl qa_dx_0_1 ?_
        rcases qa_ite h with ⟨hc59, h⟩ | ⟨hc59, h⟩
        · refine qa_bn_1t (a := 75) (b := 54) hc59 rfl rfl ?_
          exact qa_bn_mono (N := 2) (by omega) <| qa_bn_lw (qa_tL_isAwaited_75  h) rfl rfl (And.intro rfl (And.intro rfl (trivial)))
        · refine qa_bn_1f (a := 75) (b := 54) hc59 rfl rfl ?_
          refine qa_bn_do (pc' := 55) rfl rfl ?_
          refine qa_bn_do (pc' := 56) rfl rfl ?_
          obtain ⟨c60, hc61, h⟩ := Option.bind_eq_some_iff.mp h
          refine qa_bn_cl (N1 := 1) (N2 := 2) (N := 3) (by omega) (qa_tL_told hc61) rfl rfl rfl rfl rfl rfl rfl ?_
          refine qa_bn_do (pc' := 60) rfl rfl ?_
          rcases qa_ite h with ⟨hc62, h⟩ | ⟨hc62, h⟩
          · refine qa_bn_1t (a := 75) (b := 63) hc62 rfl rfl ?_
            exact qa_bn_mono (N := 2) (by omega) <| qa_bn_lw (qa_tL_isAwaited_75  h) rfl rfl (And.intro rfl (And.intro rfl (trivial)))
          · refine qa_bn_1f (a := 75) (b := 63) hc62 rfl rfl ?_
            refine qa_bn_do (pc' := 64) rfl rfl ?_
            obtain ⟨⟨c63, σ66⟩, hc64, h⟩ := Option.bind_eq_some_iff.mp h
            have hc64 := Option.some.inj hc64
            cases c63 with
            | inl r65 =>
              try dsimp only at h
              refine qa_bn_cv (qa_tX9_ticksToShowBySums hc64) rfl rfl rfl rfl rfl rfl rfl qa_dx_0_1 ?_
              refine qa_bn_do (pc' := 68) rfl rfl ?_
              rcases qa_ite h with ⟨hc68, h⟩ | ⟨hc68, h⟩
              · refine qa_bn_1t (a := 75) (b := 71) hc68 rfl rfl ?_
                exact qa_bn_mono (N := 2) (by omega) <| qa_bn_lw (qa_tL_isAwaited_75  h) rfl rfl (And.intro rfl (And.intro rfl (trivial)))
              · refine qa_bn_1f (a := 75) (b := 71) hc68 rfl rfl ?_
                refine qa_bn_do (pc' := 72) rfl rfl ?_
                refine qa_bn_do (pc' := 76) rfl rfl ?_
                exact qa_bn_mono (N := 2) (by omega) <| qa_bn_lw (qa_tL_isAwaited_76_1  h) rfl rfl (And.intro rfl (And.intro rfl (trivial)))
            | inr E67 =>
              try dsimp only at h
              cases h
      | inr E58 =>
        try dsimp only at h
        cases h
set_option maxRecDepth 1000000 in
theorem qa_tL_isAwaited {L : Nat}  {σ : qa_T} {r : (Bool × qa_T)} (h : qa_fL_isAwaited  σ = some r) : qa_Bn L 4 qa_mL_isAwaited 0 (qa_ag 0 [.inl (0, 1)]) [] σ (some (.inr (.int (qa_bi r.1)))) r.2 := by
  unfold qa_fL_isAwaited at h
  try dsimp only at h
  show qa_Bn L 4 qa_mL_isAwaited 0 [(0, .inl (0, 1))] [] σ _ _
  refine qa_bn_do (pc' := 1) rfl rfl ?_
  refine qa_bn_do (pc' := 2) rfl rfl ?_
  obtain ⟨c1, hc2, h⟩ := Option.bind_eq_some_iff.mp h
  refine qa_bn_cl (N1 := 1) (N2 := 3) (N := 4) (by omega) (qa_tL_told hc2) rfl rfl rfl rfl rfl rfl rfl ?_
  refine qa_bn_do (pc' := 6) (lv' := [(1, _), (0, _)]) rfl rfl ?_
  refine qa_bn_do (pc' := 7) rfl rfl ?_
  obtain ⟨⟨c3, σ6⟩, hc4, h⟩ := Option.bind_eq_some_iff.mp h
  cases c3 with
  | inl r5 =>
    try dsimp only at h
    refine qa_bn_cv (qa_tX9_ticksToShowByTicks hc4) rfl rfl rfl rfl rfl rfl rfl qa_dx_0_1 ?_
    refine qa_bn_do (pc' := 11) (lv' := [(2, _), (1, _), (0, _)]) rfl rfl ?_
    refine qa_bn_do (pc' := 12) rfl rfl ?_
    obtain ⟨⟨c8, σ11⟩, hc9, h⟩ := Option.bind_eq_some_iff.mp h
    have hc9 := Option.some.inj hc9
    cases c8 with
    | inl r10 =>
      try dsimp only at h
      refine qa_bn_cv (qa_tX9_ticksToShowBySums hc9) rfl rfl rfl rfl rfl rfl rfl qa_dx_0_1 ?_
      refine qa_bn_do (pc' := 16) rfl rfl ?_
      rcases qa_ite h with ⟨hc13, h⟩ | ⟨hc13, h⟩
      · refine qa_bn_1t (a := 33) (b := 19) hc13 rfl rfl ?_
        exact qa_bn_mono (N := 3) (by omega) <| qa_bn_lw (qa_tL_isAwaited_33  h) rfl rfl (And.intro rfl (And.intro rfl (And.intro rfl (trivial))))
      · refine qa_bn_1f (a := 33) (b := 19) hc13 rfl rfl ?_
        refine qa_bn_do (pc' := 20) rfl rfl ?_
        rcases qa_ite h with ⟨hc50, h⟩ | ⟨hc50, h⟩
        · refine qa_bn_1t (a := 33) (b := 23) hc50 rfl rfl ?_
          exact qa_bn_mono (N := 3) (by omega) <| qa_bn_lw (qa_tL_isAwaited_33  h) rfl rfl (And.intro rfl (And.intro rfl (And.intro rfl (trivial))))
        · refine qa_bn_1f (a := 33) (b := 23) hc50 rfl rfl ?_
          refine qa_bn_do (pc' := 24) rfl rfl ?_
          refine qa_bn_do (pc' := 26) rfl rfl ?_
          rcases qa_ite h with ⟨hc51, h⟩ | ⟨hc51, h⟩
          · refine qa_bn_1t (a := 33) (b := 29) hc51 rfl rfl ?_
            exact qa_bn_mono (N := 3) (by omega) <| qa_bn_lw (qa_tL_isAwaited_33  h) rfl rfl (And.intro rfl (And.intro rfl (And.intro rfl (trivial))))
          · refine qa_bn_1f (a := 33) (b := 29) hc51 rfl rfl ?_
            refine qa_bn_do (pc' := 30) rfl rfl ?_
            refine qa_bn_do (pc' := 34) rfl rfl ?_
            exact qa_bn_mono (N := 3) (by omega) <| qa_bn_lw (qa_tL_isAwaited_34_1  h) rfl rfl (And.intro rfl (And.intro rfl (And.intro rfl (trivial))))
    | inr E12 =>
      try dsimp only at h
      cases h
  | inr E7 =>
    try dsimp only at h
    cases h
end QL32
