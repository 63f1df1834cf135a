/-! the methods as functions (written by wip/tools/gen.py) -/
noncomputable def qa_fX8_accept_42 (a1 : Int32) (σ : qa_T) : (Bool × qa_T) :=
    (true, σ)
noncomputable def qa_fX8_accept (a1 : Int32) (σ : qa_T) : (Bool × qa_T) :=
    if ¬ (σ.1 (10, 19) 2) = 0 then
      if ¬ a1 = ((Int8.ofInt 59).toInt32) then
        let c3 := qa_fX8_acceptDigit a1 σ
        (c3.1, c3.2)
      else
        let v4 : Int32 := (qa_bi (qa_fX8_partMayEnd σ))
        let σ5 := qa_fX8_startPart σ
        ((qa_fX8_partMayEnd σ), σ5)
    else
      let σ6 := qa_wi σ (10, 19) 2 a1
      if a1 = ((Int8.ofInt 110).toInt32) then
        qa_fX8_accept_42 a1 σ6
      else
        if a1 = ((Int8.ofInt 97).toInt32) then
          qa_fX8_accept_42 a1 σ6
        else
          if a1 = ((Int8.ofInt 98).toInt32) then
            qa_fX8_accept_42 a1 σ6
          else
            if a1 = ((Int8.ofInt 112).toInt32) then
              qa_fX8_accept_42 a1 σ6
            else
              if ¬ a1 = ((Int8.ofInt 116).toInt32) then
                (false, σ6)
              else
                qa_fX8_accept_42 a1 σ6
set_option maxRecDepth 100000 in
theorem qa_tX8_accept_42 {L : Nat} {a1 : Int32}  {σ : qa_T} {r : (Bool × qa_T)} (h : qa_fX8_accept_42 a1 σ = r) : qa_Bk (qa_ds L) qa_mX8_accept 42 [(0, .inl (10, 19)), (1, .inr (.int a1))] [] σ (.inl (some (.inr (.int (qa_bi r.1))))) r.2 := by
  unfold qa_fX8_accept_42 at h
  try dsimp only at h
  refine qa_bk_do (pc' := 43) rfl rfl ?_
  refine qa_bk_do (pc' := 47) rfl rfl ?_
  subst h
  exact qa_bk_rb rfl rfl rfl
set_option maxRecDepth 100000 in
theorem qa_tX8_accept {L : Nat} {a1 : Int32}  {σ : qa_T} {r : (Bool × qa_T)} (h : qa_fX8_accept a1 σ = r) : qa_Bk (qa_ds L) qa_mX8_accept 0 (qa_ag 0 [.inl (10, 19), .inr (.int a1)]) [] σ (.inl (some (.inr (.int (qa_bi r.1))))) r.2 := by
  unfold qa_fX8_accept at h
  try dsimp only at h
  show qa_Bk (qa_ds L) qa_mX8_accept 0 [(0, .inl (10, 19)), (1, .inr (.int a1))] [] σ _ _
  refine qa_bk_do (pc' := 1) rfl rfl ?_
  refine qa_bk_gi rfl rfl qa_dx_10_19 rfl ?_
  rcases qa_ite h with ⟨hc1, h⟩ | ⟨hc1, h⟩
  · refine qa_bk_1t (a := 48) (b := 7) hc1 rfl rfl ?_
    refine qa_bk_do (pc' := 49) rfl rfl ?_
    refine qa_bk_do (pc' := 51) rfl rfl ?_
    rcases qa_ite h with ⟨hc2, h⟩ | ⟨hc2, h⟩
    · refine qa_bk_1t (a := 65) (b := 54) hc2 rfl rfl ?_
      refine qa_bk_do (pc' := 66) rfl rfl ?_
      refine qa_bk_do (pc' := 67) rfl rfl ?_
      refine qa_bk_cv (qa_tX8_acceptDigit rfl) rfl rfl rfl rfl rfl rfl rfl qa_dx_10_19 ?_
      subst h
      exact qa_bk_rb rfl rfl rfl
    · refine qa_bk_1f (a := 65) (b := 54) hc2 rfl rfl ?_
      refine qa_bk_do (pc' := 55) rfl rfl ?_
      refine qa_bk_cv (qa_tX8_partMayEnd rfl) rfl rfl rfl rfl rfl rfl rfl qa_dx_10_19 ?_
      refine qa_bk_do (pc' := 59) (lv' := [(2, _), (0, _), (1, _)]) rfl rfl ?_
      refine qa_bk_do (pc' := 60) rfl rfl ?_
      refine qa_bk_cv (qa_tX8_startPart rfl) rfl rfl rfl rfl rfl rfl rfl qa_dx_10_19 ?_
      refine qa_bk_do (pc' := 64) rfl rfl ?_
      subst h
      exact qa_bk_rb rfl rfl rfl
  · refine qa_bk_1f (a := 48) (b := 7) hc1 rfl rfl ?_
    refine qa_bk_do (pc' := 8) rfl rfl ?_
    refine qa_bk_do (pc' := 9) rfl rfl ?_
    refine qa_bk_pf rfl rfl qa_dx_10_19 rfl (qa_fiti _) rfl ?_
    refine qa_bk_do (pc' := 13) rfl rfl ?_
    refine qa_bk_do (pc' := 15) rfl rfl ?_
    rcases qa_ite h with ⟨hc7, h⟩ | ⟨hc7, h⟩
    · refine qa_bk_1t (a := 42) (b := 18) hc7 rfl rfl ?_
      exact qa_bk_lw (qa_tX8_accept_42  h) rfl rfl (And.intro rfl (And.intro rfl (trivial)))
    · refine qa_bk_1f (a := 42) (b := 18) hc7 rfl rfl ?_
      refine qa_bk_do (pc' := 19) rfl rfl ?_
      refine qa_bk_do (pc' := 21) rfl rfl ?_
      rcases qa_ite h with ⟨hc8, h⟩ | ⟨hc8, h⟩
      · refine qa_bk_1t (a := 42) (b := 24) hc8 rfl rfl ?_
        exact qa_bk_lw (qa_tX8_accept_42  h) rfl rfl (And.intro rfl (And.intro rfl (trivial)))
      · refine qa_bk_1f (a := 42) (b := 24) hc8 rfl rfl ?_
        refine qa_bk_do (pc' := 25) rfl rfl ?_
        refine qa_bk_do (pc' := 27) rfl rfl ?_
        rcases qa_ite h with ⟨hc9, h⟩ | ⟨hc9, h⟩
        · refine qa_bk_1t (a := 42) (b := 30) hc9 rfl rfl ?_
          exact qa_bk_lw (qa_tX8_accept_42  h) rfl rfl (And.intro rfl (And.intro rfl (trivial)))
        · refine qa_bk_1f (a := 42) (b := 30) hc9 rfl rfl ?_
          refine qa_bk_do (pc' := 31) rfl rfl ?_
          refine qa_bk_do (pc' := 33) rfl rfl ?_
          rcases qa_ite h with ⟨hc10, h⟩ | ⟨hc10, h⟩
          · refine qa_bk_1t (a := 42) (b := 36) hc10 rfl rfl ?_
            exact qa_bk_lw (qa_tX8_accept_42  h) rfl rfl (And.intro rfl (And.intro rfl (trivial)))
          · refine qa_bk_1f (a := 42) (b := 36) hc10 rfl rfl ?_
            refine qa_bk_do (pc' := 37) rfl rfl ?_
            refine qa_bk_do (pc' := 39) rfl rfl ?_
            rcases qa_ite h with ⟨hc11, h⟩ | ⟨hc11, h⟩
            · refine qa_bk_1t (a := 46) (b := 42) hc11 rfl rfl ?_
              refine qa_bk_do (pc' := 47) rfl rfl ?_
              subst h
              exact qa_bk_rb rfl rfl rfl
            · refine qa_bk_1f (a := 46) (b := 42) hc11 rfl rfl ?_
              exact qa_bk_lw (qa_tX8_accept_42  h) rfl rfl (And.intro rfl (And.intro rfl (trivial)))
noncomputable def qa_fX8_readPart_49  (x1 : Int32) (σ : qa_T) : Option (Bool × qa_T) :=
    let σ4 := qa_wi σ (10, 19) 4 (x1 + (Int32.ofInt 1))
    if (σ4.1 (10, 19) 2) = 0 then
      some (false, σ4)
    else
      some (true, σ4)
noncomputable def qa_fX8_readPart_9  : Nat → Int32 → qa_T → Option (Bool × qa_T)
  | 0, _, _ => none
  | n + 1, x1, σ =>
    if (σ.1 (10, 19) 0) ≤ x1 then
      qa_fX8_readPart_49  x1 σ
    else
      if (qa_fX9_at (10, 20) 60 x1 σ) = ((Int8.ofInt 59).toInt32) then
        qa_fX8_readPart_49  x1 σ
      else
        let c7 := qa_fX8_accept (qa_fX9_at (10, 20) 60 x1 σ) σ
        let v8 : Int32 := x1 + Int32.ofInt 1
        qa_fX8_readPart_9  n v8 c7.2
noncomputable def qa_fX8_readPart  (σ : qa_T) : Option (Bool × qa_T) :=
    let σ1 := qa_fX8_startPart σ
    let v2 : Int32 := (σ1.1 (10, 19) 4)
    qa_fX8_readPart_9  qa_fu v2 σ1
set_option maxRecDepth 100000 in
theorem qa_tX8_readPart_49 {L : Nat}   {x1 : Int32} {σ : qa_T} {r : (Bool × qa_T)} (h : qa_fX8_readPart_49  x1 σ = some r) : qa_Bk (qa_ds L) qa_mX8_readPart 49 [(0, .inl (10, 19)), (1, .inr (.int x1))] [] σ (.inl (some (.inr (.int (qa_bi r.1))))) r.2 := by
  unfold qa_fX8_readPart_49 at h
  try dsimp only at h
  refine qa_bk_do (pc' := 50) rfl rfl ?_
  refine qa_bk_do (pc' := 51) rfl rfl ?_
  refine qa_bk_do (pc' := 52) rfl rfl ?_
  refine qa_bk_do (pc' := 53) rfl rfl ?_
  refine qa_bk_pf rfl rfl qa_dx_10_19 rfl (qa_fiti _) rfl ?_
  refine qa_bk_do (pc' := 57) rfl rfl ?_
  refine qa_bk_gi rfl rfl qa_dx_10_19 rfl ?_
  rcases qa_ite h with ⟨hc5, h⟩ | ⟨hc5, h⟩
  · refine qa_bk_1t (a := 67) (b := 63) hc5 rfl rfl ?_
    refine qa_bk_do (pc' := 68) rfl rfl ?_
    cases h
    exact qa_bk_rb rfl rfl rfl
  · refine qa_bk_1f (a := 67) (b := 63) hc5 rfl rfl ?_
    refine qa_bk_do (pc' := 64) rfl rfl ?_
    refine qa_bk_do (pc' := 68) rfl rfl ?_
    cases h
    exact qa_bk_rb rfl rfl rfl
set_option maxRecDepth 100000 in
theorem qa_tX8_readPart_9 {L : Nat}   : ∀ (n : Nat) (x1 : Int32) (σ : qa_T) (r : (Bool × qa_T)), qa_fX8_readPart_9  n x1 σ = some r → qa_Bk (qa_ds L) qa_mX8_readPart 9 [(0, .inl (10, 19)), (1, .inr (.int x1))] [] σ (.inl (some (.inr (.int (qa_bi r.1))))) r.2 := by
  intro n
  induction n with
  | zero => intro x1 σ r h; cases h
  | succ n ih =>
    intro x1 σ r h
    unfold qa_fX8_readPart_9 at h
    try dsimp only at h
    refine qa_bk_do (pc' := 10) rfl rfl ?_
    refine qa_bk_do (pc' := 11) rfl rfl ?_
    refine qa_bk_gi rfl rfl qa_dx_10_19 rfl ?_
    rcases qa_ite h with ⟨hc3, h⟩ | ⟨hc3, h⟩
    · refine qa_bk_1t (a := 49) (b := 17) hc3 rfl rfl ?_
      exact qa_bk_lw (qa_tX8_readPart_49  h) rfl rfl (And.intro rfl (And.intro rfl (trivial)))
    · refine qa_bk_1f (a := 49) (b := 17) hc3 rfl rfl ?_
      refine qa_bk_do (pc' := 18) rfl rfl ?_
      refine qa_bk_gr rfl rfl qa_dx_10_19 rfl ?_
      refine qa_bk_do (pc' := 22) rfl rfl ?_
      refine qa_bk_cs (qa_tX9_at qa_dx_10_20 (Nat.le_of_ble_eq_true rfl) rfl) rfl rfl rfl rfl rfl rfl rfl ?_
      refine qa_bk_do (pc' := 27) rfl rfl ?_
      rcases qa_ite h with ⟨hc6, h⟩ | ⟨hc6, h⟩
      · refine qa_bk_1t (a := 49) (b := 30) hc6 rfl rfl ?_
        exact qa_bk_lw (qa_tX8_readPart_49  h) rfl rfl (And.intro rfl (And.intro rfl (trivial)))
      · refine qa_bk_1f (a := 49) (b := 30) hc6 rfl rfl ?_
        refine qa_bk_do (pc' := 31) rfl rfl ?_
        refine qa_bk_do (pc' := 32) rfl rfl ?_
        refine qa_bk_gr rfl rfl qa_dx_10_19 rfl ?_
        refine qa_bk_do (pc' := 36) rfl rfl ?_
        refine qa_bk_cs (qa_tX9_at qa_dx_10_20 (Nat.le_of_ble_eq_true rfl) rfl) rfl rfl rfl rfl rfl rfl rfl ?_
        refine qa_bk_cv (qa_tX8_accept rfl) rfl rfl rfl rfl rfl rfl rfl qa_dx_10_19 ?_
        refine qa_bk_do (pc' := 43) rfl rfl ?_
        refine qa_bk_do (pc' := 46) (lv' := [(1, _), (0, _)]) rfl rfl ?_
        refine qa_bk_do (pc' := 9) rfl rfl ?_
        exact qa_bk_lw (ih _ _ _ h) rfl rfl (And.intro rfl (And.intro rfl (trivial)))
set_option maxRecDepth 100000 in
theorem qa_tX8_readPart {L : Nat}   {σ : qa_T} {r : (Bool × qa_T)} (h : qa_fX8_readPart  σ = some r) : qa_Bk (qa_ds L) qa_mX8_readPart 0 (qa_ag 0 [.inl (10, 19)]) [] σ (.inl (some (.inr (.int (qa_bi r.1))))) r.2 := by
  unfold qa_fX8_readPart at h
  try dsimp only at h
  show qa_Bk (qa_ds L) qa_mX8_readPart 0 [(0, .inl (10, 19))] [] σ _ _
  refine qa_bk_do (pc' := 1) rfl rfl ?_
  refine qa_bk_cv (qa_tX8_startPart rfl) rfl rfl rfl rfl rfl rfl rfl qa_dx_10_19 ?_
  refine qa_bk_do (pc' := 5) rfl rfl ?_
  refine qa_bk_gi rfl rfl qa_dx_10_19 rfl ?_
  refine qa_bk_do (pc' := 9) (lv' := [(1, _), (0, _)]) rfl rfl ?_
  exact qa_bk_lw (qa_tX8_readPart_9  _ _ _ _ h) rfl rfl (And.intro rfl (And.intro rfl (trivial)))
noncomputable def qa_fX8_readToError_6  : Nat → Int32 → qa_T → Option (Int32 × qa_T)
  | 0, _, _ => none
  | n + 1, x1, σ =>
    if (σ.1 (10, 19) 0) ≤ x1 then
      some ((σ.1 (10, 19) 0), σ)
    else
      let c3 := qa_fX8_accept (qa_fX9_at (10, 20) 60 x1 σ) σ
      if ¬ (qa_bi c3.1) = 0 then
        let v5 : Int32 := x1 + Int32.ofInt 1
        qa_fX8_readToError_6  n v5 c3.2
      else
        some (x1, c3.2)
noncomputable def qa_fX8_readToError  (σ : qa_T) : Option (Int32 × qa_T) :=
    let σ1 := qa_fX8_startPart σ
    qa_fX8_readToError_6  qa_fu (Int32.ofInt 0) σ1
set_option maxRecDepth 100000 in
theorem qa_tX8_readToError_6 {L : Nat}   : ∀ (n : Nat) (x1 : Int32) (σ : qa_T) (r : (Int32 × qa_T)), qa_fX8_readToError_6  n x1 σ = some r → qa_Bk (qa_ds L) qa_mX8_readToError 6 [(0, .inl (10, 19)), (1, .inr (.int x1))] [] σ (.inl (some (.inr (.int r.1)))) r.2 := by
  intro n
  induction n with
  | zero => intro x1 σ r h; cases h
  | succ n ih =>
    intro x1 σ r h
    unfold qa_fX8_readToError_6 at h
    try dsimp only at h
    refine qa_bk_do (pc' := 7) rfl rfl ?_
    refine qa_bk_do (pc' := 8) rfl rfl ?_
    refine qa_bk_gi rfl rfl qa_dx_10_19 rfl ?_
    rcases qa_ite h with ⟨hc2, h⟩ | ⟨hc2, h⟩
    · refine qa_bk_1t (a := 37) (b := 14) hc2 rfl rfl ?_
      refine qa_bk_do (pc' := 38) rfl rfl ?_
      refine qa_bk_gi rfl rfl qa_dx_10_19 rfl ?_
      cases h
      exact qa_bk_ri rfl rfl
    · refine qa_bk_1f (a := 37) (b := 14) hc2 rfl rfl ?_
      refine qa_bk_do (pc' := 15) rfl rfl ?_
      refine qa_bk_do (pc' := 16) rfl rfl ?_
      refine qa_bk_gr rfl rfl qa_dx_10_19 rfl ?_
      refine qa_bk_do (pc' := 20) rfl rfl ?_
      refine qa_bk_cs (qa_tX9_at qa_dx_10_20 (Nat.le_of_ble_eq_true rfl) rfl) rfl rfl rfl rfl rfl rfl rfl ?_
      refine qa_bk_cv (qa_tX8_accept rfl) rfl rfl rfl rfl rfl rfl rfl qa_dx_10_19 ?_
      rcases qa_ite h with ⟨hc4, h⟩ | ⟨hc4, h⟩
      · refine qa_bk_1t (a := 31) (b := 29) hc4 rfl rfl ?_
        refine qa_bk_do (pc' := 34) (lv' := [(1, _), (0, _)]) rfl rfl ?_
        refine qa_bk_do (pc' := 6) rfl rfl ?_
        exact qa_bk_lw (ih _ _ _ h) rfl rfl (And.intro rfl (And.intro rfl (trivial)))
      · refine qa_bk_1f (a := 31) (b := 29) hc4 rfl rfl ?_
        refine qa_bk_do (pc' := 30) rfl rfl ?_
        cases h
        exact qa_bk_ri rfl rfl
set_option maxRecDepth 100000 in
theorem qa_tX8_readToError {L : Nat}   {σ : qa_T} {r : (Int32 × qa_T)} (h : qa_fX8_readToError  σ = some r) : qa_Bk (qa_ds L) qa_mX8_readToError 0 (qa_ag 0 [.inl (10, 19)]) [] σ (.inl (some (.inr (.int r.1)))) r.2 := by
  unfold qa_fX8_readToError at h
  try dsimp only at h
  show qa_Bk (qa_ds L) qa_mX8_readToError 0 [(0, .inl (10, 19))] [] σ _ _
  refine qa_bk_do (pc' := 1) rfl rfl ?_
  refine qa_bk_cv (qa_tX8_startPart rfl) rfl rfl rfl rfl rfl rfl rfl qa_dx_10_19 ?_
  refine qa_bk_do (pc' := 5) rfl rfl ?_
  refine qa_bk_do (pc' := 6) (lv' := [(1, _), (0, _)]) rfl rfl ?_
  exact qa_bk_lw (qa_tX8_readToError_6  _ _ _ _ h) rfl rfl (And.intro rfl (And.intro rfl (trivial)))
noncomputable def qa_fX8_tellsOrders_22  (σ : qa_T) : Option (Bool × qa_T) :=
    some (false, σ)
noncomputable def qa_fX8_tellsOrders  (σ : qa_T) : Option (Bool × qa_T) :=
    (qa_fX8_readToError σ).bind fun c1 =>
    if ¬ c1.1 = (c1.2.1 (10, 19) 0) then
      qa_fX8_tellsOrders_22  c1.2
    else
      if (qa_bi (qa_fX8_partMayEnd c1.2)) = 0 then
        qa_fX8_tellsOrders_22  c1.2
      else
        some (true, c1.2)
set_option maxRecDepth 100000 in
theorem qa_tX8_tellsOrders_22 {L : Nat}   {σ : qa_T} {r : (Bool × qa_T)} (h : qa_fX8_tellsOrders_22  σ = some r) : qa_Bk (qa_ds L) qa_mX8_tellsOrders 22 [(0, .inl (10, 19))] [] σ (.inl (some (.inr (.int (qa_bi r.1))))) r.2 := by
  unfold qa_fX8_tellsOrders_22 at h
  try dsimp only at h
  refine qa_bk_do (pc' := 23) rfl rfl ?_
  cases h
  exact qa_bk_rb rfl rfl rfl
set_option maxRecDepth 100000 in
theorem qa_tX8_tellsOrders {L : Nat}   {σ : qa_T} {r : (Bool × qa_T)} (h : qa_fX8_tellsOrders  σ = some r) : qa_Bk (qa_ds L) qa_mX8_tellsOrders 0 (qa_ag 0 [.inl (10, 19)]) [] σ (.inl (some (.inr (.int (qa_bi r.1))))) r.2 := by
  unfold qa_fX8_tellsOrders at h
  try dsimp only at h
  show qa_Bk (qa_ds L) qa_mX8_tellsOrders 0 [(0, .inl (10, 19))] [] σ _ _
  refine qa_bk_do (pc' := 1) rfl rfl ?_
  obtain ⟨c1, hc2, h⟩ := Option.bind_eq_some_iff.mp h
  refine qa_bk_cv (qa_tX8_readToError hc2) rfl rfl rfl rfl rfl rfl rfl qa_dx_10_19 ?_
  refine qa_bk_do (pc' := 5) rfl rfl ?_
  refine qa_bk_gi rfl rfl qa_dx_10_19 rfl ?_
  rcases qa_ite h with ⟨hc3, h⟩ | ⟨hc3, h⟩
  · refine qa_bk_1t (a := 22) (b := 11) hc3 rfl rfl ?_
    exact qa_bk_lw (qa_tX8_tellsOrders_22  h) rfl rfl (And.intro rfl (trivial))
  · refine qa_bk_1f (a := 22) (b := 11) hc3 rfl rfl ?_
    refine qa_bk_do (pc' := 12) rfl rfl ?_
    refine qa_bk_cv (qa_tX8_partMayEnd rfl) rfl rfl rfl rfl rfl rfl rfl qa_dx_10_19 ?_
    rcases qa_ite h with ⟨hc4, h⟩ | ⟨hc4, h⟩
    · refine qa_bk_1t (a := 22) (b := 18) hc4 rfl rfl ?_
      exact qa_bk_lw (qa_tX8_tellsOrders_22  h) rfl rfl (And.intro rfl (trivial))
    · refine qa_bk_1f (a := 22) (b := 18) hc4 rfl rfl ?_
      refine qa_bk_do (pc' := 19) rfl rfl ?_
      refine qa_bk_do (pc' := 23) rfl rfl ?_
      cases h
      exact qa_bk_rb rfl rfl rfl
noncomputable def qa_fX9_isWithin_14 (a1 : Int32) (a2 : Int32) (a3 : Int32) (σ : qa_T) : Bool :=
    false
noncomputable def qa_fX9_isWithin (a1 : Int32) (a2 : Int32) (a3 : Int32) (σ : qa_T) : Bool :=
    if a1 < a2 then
      qa_fX9_isWithin_14 a1 a2 a3 σ
    else
      if a3 < a1 then
        qa_fX9_isWithin_14 a1 a2 a3 σ
      else
        true
set_option maxRecDepth 100000 in
theorem qa_tX9_isWithin_14 {L : Nat} {a1 : Int32} {a2 : Int32} {a3 : Int32}  {σ : qa_T} {r : Bool} (h : qa_fX9_isWithin_14 a1 a2 a3 σ = r) : qa_Bk (qa_ds L) qa_mX9_isWithin 14 [(0, .inr (.int a1)), (1, .inr (.int a2)), (2, .inr (.int a3))] [] σ (.inl (some (.inr (.int (qa_bi r))))) σ := by
  unfold qa_fX9_isWithin_14 at h
  try dsimp only at h
  refine qa_bk_do (pc' := 15) rfl rfl ?_
  subst h
  exact qa_bk_rb rfl rfl rfl
set_option maxRecDepth 100000 in
theorem qa_tX9_isWithin {L : Nat} {a1 : Int32} {a2 : Int32} {a3 : Int32}  {σ : qa_T} {r : Bool} (h : qa_fX9_isWithin a1 a2 a3 σ = r) : qa_Bk (qa_ds L) qa_mX9_isWithin 0 (qa_ag 0 [.inr (.int a1), .inr (.int a2), .inr (.int a3)]) [] σ (.inl (some (.inr (.int (qa_bi r))))) σ := by
  unfold qa_fX9_isWithin at h
  try dsimp only at h
  show qa_Bk (qa_ds L) qa_mX9_isWithin 0 [(0, .inr (.int a1)), (1, .inr (.int a2)), (2, .inr (.int a3))] [] σ _ _
  refine qa_bk_do (pc' := 1) rfl rfl ?_
  refine qa_bk_do (pc' := 2) rfl rfl ?_
  rcases qa_ite h with ⟨hc1, h⟩ | ⟨hc1, h⟩
  · refine qa_bk_1t (a := 14) (b := 5) hc1 rfl rfl ?_
    exact qa_bk_lw (qa_tX9_isWithin_14  h) rfl rfl (And.intro rfl (And.intro rfl (And.intro rfl (trivial))))
  · refine qa_bk_1f (a := 14) (b := 5) hc1 rfl rfl ?_
    refine qa_bk_do (pc' := 6) rfl rfl ?_
    refine qa_bk_do (pc' := 7) rfl rfl ?_
    rcases qa_ite h with ⟨hc2, h⟩ | ⟨hc2, h⟩
    · refine qa_bk_1t (a := 14) (b := 10) hc2 rfl rfl ?_
      exact qa_bk_lw (qa_tX9_isWithin_14  h) rfl rfl (And.intro rfl (And.intro rfl (And.intro rfl (trivial))))
    · refine qa_bk_1f (a := 14) (b := 10) hc2 rfl rfl ?_
      refine qa_bk_do (pc' := 11) rfl rfl ?_
      refine qa_bk_do (pc' := 15) rfl rfl ?_
      subst h
      exact qa_bk_rb rfl rfl rfl
noncomputable def qa_fX9_addSlide_58 (a1 : Int32) (a2 : Int32) (a3 : Int32) (y0 : Int32) (σ : qa_T) : Option ((Int32 ⊕ Nat) × qa_T) :=
    if y0 = 0 then
      some (.inr 348, σ)
    else
    (qa_fX5_push 1 σ).bind fun c5 =>
    let c7 := qa_fX6_add 1 a1 a2 a3 c5
    (qa_fX1_beginLoading 1 c7.2).bind fun c8 =>
    some (.inl c7.1, c8)
noncomputable def qa_fX9_addSlide_35 (a1 : Int32) (a2 : Int32) (a3 : Int32) (y0 : Int32) (σ : qa_T) : Option ((Int32 ⊕ Nat) × qa_T) :=
    if y0 = 0 then
      some (.inr 342, σ)
    else
    if ((Int8.ofInt 16).toInt32) ≤ (σ.1 (1, 1) 0) then
      qa_fX9_addSlide_58 a1 a2 a3 (Int32.ofInt 0) σ
    else
      qa_fX9_addSlide_58 a1 a2 a3 (Int32.ofInt 1) σ
noncomputable def qa_fX9_addSlide_34 (a1 : Int32) (a2 : Int32) (a3 : Int32) (σ : qa_T) : Option ((Int32 ⊕ Nat) × qa_T) :=
    qa_fX9_addSlide_35 a1 a2 a3 (Int32.ofInt 0) σ
noncomputable def qa_fX9_addSlide (a1 : Int32) (a2 : Int32) (a3 : Int32) (σ : qa_T) : Option ((Int32 ⊕ Nat) × qa_T) :=
    if (qa_bi (qa_fX9_isWithin a1 (Int32.ofInt 1) ((Int8.ofInt 50).toInt32) σ)) = 0 then
      qa_fX9_addSlide_34 a1 a2 a3 σ
    else
      if (qa_bi (qa_fX9_isWithin a2 (Int32.ofInt 1) ((Int8.ofInt 20).toInt32) σ)) = 0 then
        qa_fX9_addSlide_34 a1 a2 a3 σ
      else
        if (qa_bi (qa_fX9_isWithin a3 (Int32.ofInt 0) ((Int8.ofInt 10).toInt32) σ)) = 0 then
          qa_fX9_addSlide_34 a1 a2 a3 σ
        else
          qa_fX9_addSlide_35 a1 a2 a3 (Int32.ofInt 1) σ
set_option maxRecDepth 100000 in
theorem qa_tX9_addSlide_58 {L : Nat} {a1 : Int32} {a2 : Int32} {a3 : Int32}  {y0 : Int32} {σ : qa_T} {r : ((Int32 ⊕ Nat) × qa_T)} (h : qa_fX9_addSlide_58 a1 a2 a3 y0 σ = some r) : qa_Bk (qa_ds L) qa_mX9_addSlide 58 [(0, .inl (0, 1)), (1, .inr (.int a1)), (2, .inr (.int a2)), (3, .inr (.int a3))] [.inr (.int y0)] σ (qa_ri r.1) r.2 := by
  unfold qa_fX9_addSlide_58 at h
  try dsimp only at h
  rcases qa_ite h with ⟨hc4, h⟩ | ⟨hc4, h⟩
  · cases h
    exact qa_bk_cx (qa_tX9_needState_x hc4) rfl rfl rfl rfl rfl rfl rfl rfl
  refine qa_bk_cs (qa_tX9_needState_o hc4) rfl rfl rfl rfl rfl rfl rfl ?_
  refine qa_bk_do (pc' := 62) rfl rfl ?_
  refine qa_bk_gr rfl rfl qa_dx_0_1 rfl ?_
  refine qa_bk_do (pc' := 66) rfl rfl ?_
  refine qa_bk_gr rfl rfl qa_dx_0_1 rfl ?_
  obtain ⟨c5, hc6, h⟩ := Option.bind_eq_some_iff.mp h
  refine qa_bk_cv (qa_tX5_push qa_rg_1 hc6) rfl rfl rfl rfl rfl rfl rfl qa_dx_2_18 ?_
  refine qa_bk_do (pc' := 73) rfl rfl ?_
  refine qa_bk_gr rfl rfl qa_dx_0_1 rfl ?_
  refine qa_bk_gr rfl rfl (qa_ds0 qa_rg_1) rfl ?_
  refine qa_bk_do (pc' := 80) rfl rfl ?_
  refine qa_bk_do (pc' := 81) rfl rfl ?_
  refine qa_bk_do (pc' := 82) rfl rfl ?_
  refine qa_bk_cv (qa_tX6_add qa_rg_1 rfl) rfl rfl rfl rfl rfl rfl rfl (qa_ds1 qa_rg_1) ?_
  refine qa_bk_do (pc' := 87) (lv' := [(4, _), (0, _), (1, _), (2, _), (3, _)]) rfl rfl ?_
  refine qa_bk_do (pc' := 88) rfl rfl ?_
  refine qa_bk_gr rfl rfl qa_dx_0_1 rfl ?_
  obtain ⟨c8, hc9, h⟩ := Option.bind_eq_some_iff.mp h
  refine qa_bk_cv (qa_tX1_beginLoading qa_rg_1 hc9) rfl rfl rfl rfl rfl rfl rfl (qa_ds0 qa_rg_1) ?_
  refine qa_bk_do (pc' := 96) rfl rfl ?_
  cases h
  exact qa_bk_ri rfl rfl
set_option maxRecDepth 100000 in
theorem qa_tX9_addSlide_35 {L : Nat} {a1 : Int32} {a2 : Int32} {a3 : Int32}  {y0 : Int32} {σ : qa_T} {r : ((Int32 ⊕ Nat) × qa_T)} (h : qa_fX9_addSlide_35 a1 a2 a3 y0 σ = some r) : qa_Bk (qa_ds L) qa_mX9_addSlide 35 [(0, .inl (0, 1)), (1, .inr (.int a1)), (2, .inr (.int a2)), (3, .inr (.int a3))] [.inr (.int y0)] σ (qa_ri r.1) r.2 := by
  unfold qa_fX9_addSlide_35 at h
  try dsimp only at h
  rcases qa_ite h with ⟨hc2, h⟩ | ⟨hc2, h⟩
  · cases h
    exact qa_bk_cx (qa_tX9_needArgument_x hc2) rfl rfl rfl rfl rfl rfl rfl rfl
  refine qa_bk_cs (qa_tX9_needArgument_o hc2) rfl rfl rfl rfl rfl rfl rfl ?_
  refine qa_bk_do (pc' := 39) rfl rfl ?_
  refine qa_bk_gr rfl rfl qa_dx_0_1 rfl ?_
  refine qa_bk_gr rfl rfl (qa_ds0 qa_rg_1) rfl ?_
  refine qa_bk_gi rfl rfl (qa_ds1 qa_rg_1) rfl ?_
  refine qa_bk_do (pc' := 50) rfl rfl ?_
  rcases qa_ite h with ⟨hc3, h⟩ | ⟨hc3, h⟩
  · refine qa_bk_1t (a := 57) (b := 53) hc3 rfl rfl ?_
    refine qa_bk_do (pc' := 58) rfl rfl ?_
    exact qa_bk_lw (qa_tX9_addSlide_58  h) rfl rfl (And.intro rfl (And.intro rfl (And.intro rfl (And.intro rfl (trivial)))))
  · refine qa_bk_1f (a := 57) (b := 53) hc3 rfl rfl ?_
    refine qa_bk_do (pc' := 54) rfl rfl ?_
    refine qa_bk_do (pc' := 58) rfl rfl ?_
    exact qa_bk_lw (qa_tX9_addSlide_58  h) rfl rfl (And.intro rfl (And.intro rfl (And.intro rfl (And.intro rfl (trivial)))))
set_option maxRecDepth 100000 in
theorem qa_tX9_addSlide_34 {L : Nat} {a1 : Int32} {a2 : Int32} {a3 : Int32}  {σ : qa_T} {r : ((Int32 ⊕ Nat) × qa_T)} (h : qa_fX9_addSlide_34 a1 a2 a3 σ = some r) : qa_Bk (qa_ds L) qa_mX9_addSlide 34 [(0, .inl (0, 1)), (1, .inr (.int a1)), (2, .inr (.int a2)), (3, .inr (.int a3))] [] σ (qa_ri r.1) r.2 := by
  unfold qa_fX9_addSlide_34 at h
  try dsimp only at h
  refine qa_bk_do (pc' := 35) rfl rfl ?_
  exact qa_bk_lw (qa_tX9_addSlide_35  h) rfl rfl (And.intro rfl (And.intro rfl (And.intro rfl (And.intro rfl (trivial)))))
set_option maxRecDepth 100000 in
theorem qa_tX9_addSlide {L : Nat} {a1 : Int32} {a2 : Int32} {a3 : Int32}  {σ : qa_T} {r : ((Int32 ⊕ Nat) × qa_T)} (h : qa_fX9_addSlide a1 a2 a3 σ = some r) : qa_Bk (qa_ds L) qa_mX9_addSlide 0 (qa_ag 0 [.inl (0, 1), .inr (.int a1), .inr (.int a2), .inr (.int a3)]) [] σ (qa_ri r.1) r.2 := by
  unfold qa_fX9_addSlide at h
  try dsimp only at h
  show qa_Bk (qa_ds L) qa_mX9_addSlide 0 [(0, .inl (0, 1)), (1, .inr (.int a1)), (2, .inr (.int a2)), (3, .inr (.int a3))] [] σ _ _
  refine qa_bk_do (pc' := 1) rfl rfl ?_
  refine qa_bk_do (pc' := 2) rfl rfl ?_
  refine qa_bk_do (pc' := 4) rfl rfl ?_
  refine qa_bk_cs (qa_tX9_isWithin rfl) rfl rfl rfl rfl rfl rfl rfl ?_
  rcases qa_ite h with ⟨hc1, h⟩ | ⟨hc1, h⟩
  · refine qa_bk_1t (a := 34) (b := 10) hc1 rfl rfl ?_
    exact qa_bk_lw (qa_tX9_addSlide_34  h) rfl rfl (And.intro rfl (And.intro rfl (And.intro rfl (And.intro rfl (trivial)))))
  · refine qa_bk_1f (a := 34) (b := 10) hc1 rfl rfl ?_
    refine qa_bk_do (pc' := 11) rfl rfl ?_
    refine qa_bk_do (pc' := 12) rfl rfl ?_
    refine qa_bk_do (pc' := 14) rfl rfl ?_
    refine qa_bk_cs (qa_tX9_isWithin rfl) rfl rfl rfl rfl rfl rfl rfl ?_
    rcases qa_ite h with ⟨hc10, h⟩ | ⟨hc10, h⟩
    · refine qa_bk_1t (a := 34) (b := 20) hc10 rfl rfl ?_
      exact qa_bk_lw (qa_tX9_addSlide_34  h) rfl rfl (And.intro rfl (And.intro rfl (And.intro rfl (And.intro rfl (trivial)))))
    · refine qa_bk_1f (a := 34) (b := 20) hc10 rfl rfl ?_
      refine qa_bk_do (pc' := 21) rfl rfl ?_
      refine qa_bk_do (pc' := 22) rfl rfl ?_
      refine qa_bk_do (pc' := 24) rfl rfl ?_
      refine qa_bk_cs (qa_tX9_isWithin rfl) rfl rfl rfl rfl rfl rfl rfl ?_
      rcases qa_ite h with ⟨hc11, h⟩ | ⟨hc11, h⟩
      · refine qa_bk_1t (a := 34) (b := 30) hc11 rfl rfl ?_
        exact qa_bk_lw (qa_tX9_addSlide_34  h) rfl rfl (And.intro rfl (And.intro rfl (And.intro rfl (And.intro rfl (trivial)))))
      · refine qa_bk_1f (a := 34) (b := 30) hc11 rfl rfl ?_
        refine qa_bk_do (pc' := 31) rfl rfl ?_
        refine qa_bk_do (pc' := 35) rfl rfl ?_
        exact qa_bk_lw (qa_tX9_addSlide_35  h) rfl rfl (And.intro rfl (And.intro rfl (And.intro rfl (And.intro rfl (trivial)))))
noncomputable def qa_fX9_insert_60 (a1 : Int32) (a2 : Int32) (y0 : Int32) (σ : qa_T) : Option ((Int32 ⊕ Nat) × qa_T) :=
    if y0 = 0 then
      some (.inr 348, σ)
    else
    (qa_fX5_push 1 σ).bind fun c5 =>
    (qa_fX3_put 1 a1 a2 c5).bind fun c7 =>
    (qa_fX1_beginLoading 1 c7).bind fun c9 =>
    some (.inl (c9.1 (1, 9) 0), c9)
noncomputable def qa_fX9_insert_37 (a1 : Int32) (a2 : Int32) (y0 : Int32) (σ : qa_T) : Option ((Int32 ⊕ Nat) × qa_T) :=
    if y0 = 0 then
      some (.inr 345, σ)
    else
    if ((Int8.ofInt 24).toInt32) ≤ (σ.1 (1, 9) 0) then
      qa_fX9_insert_60 a1 a2 (Int32.ofInt 0) σ
    else
      qa_fX9_insert_60 a1 a2 (Int32.ofInt 1) σ
noncomputable def qa_fX9_insert_36 (a1 : Int32) (a2 : Int32) (σ : qa_T) : Option ((Int32 ⊕ Nat) × qa_T) :=
    qa_fX9_insert_37 a1 a2 (Int32.ofInt 0) σ
noncomputable def qa_fX9_insert (a1 : Int32) (a2 : Int32) (σ : qa_T) : Option ((Int32 ⊕ Nat) × qa_T) :=
    if (qa_bi (qa_fX9_isWithin a1 (Int32.ofInt 0) (σ.1 (1, 9) 0) σ)) = 0 then
      qa_fX9_insert_36 a1 a2 σ
    else
      if (qa_bi (qa_fX6_has 1 a2 σ)) = 0 then
        qa_fX9_insert_36 a1 a2 σ
      else
        qa_fX9_insert_37 a1 a2 (Int32.ofInt 1) σ
set_option maxRecDepth 100000 in
theorem qa_tX9_insert_60 {L : Nat} {a1 : Int32} {a2 : Int32}  {y0 : Int32} {σ : qa_T} {r : ((Int32 ⊕ Nat) × qa_T)} (h : qa_fX9_insert_60 a1 a2 y0 σ = some r) : qa_Bk (qa_ds L) qa_mX9_insert 60 [(0, .inl (0, 1)), (1, .inr (.int a1)), (2, .inr (.int a2))] [.inr (.int y0)] σ (qa_ri r.1) r.2 := by
  unfold qa_fX9_insert_60 at h
  try dsimp only at h
  rcases qa_ite h with ⟨hc4, h⟩ | ⟨hc4, h⟩
  · cases h
    exact qa_bk_cx (qa_tX9_needState_x hc4) rfl rfl rfl rfl rfl rfl rfl rfl
  refine qa_bk_cs (qa_tX9_needState_o hc4) rfl rfl rfl rfl rfl rfl rfl ?_
  refine qa_bk_do (pc' := 64) rfl rfl ?_
  refine qa_bk_gr rfl rfl qa_dx_0_1 rfl ?_
  refine qa_bk_do (pc' := 68) rfl rfl ?_
  refine qa_bk_gr rfl rfl qa_dx_0_1 rfl ?_
  obtain ⟨c5, hc6, h⟩ := Option.bind_eq_some_iff.mp h
  refine qa_bk_cv (qa_tX5_push qa_rg_1 hc6) rfl rfl rfl rfl rfl rfl rfl qa_dx_2_18 ?_
  refine qa_bk_do (pc' := 75) rfl rfl ?_
  refine qa_bk_gr rfl rfl qa_dx_0_1 rfl ?_
  refine qa_bk_gr rfl rfl (qa_ds0 qa_rg_1) rfl ?_
  refine qa_bk_do (pc' := 82) rfl rfl ?_
  refine qa_bk_do (pc' := 83) rfl rfl ?_
  obtain ⟨c7, hc8, h⟩ := Option.bind_eq_some_iff.mp h
  refine qa_bk_cv (qa_tX3_put qa_rg_1 hc8) rfl rfl rfl rfl rfl rfl rfl (qa_ds9 qa_rg_1) ?_
  refine qa_bk_do (pc' := 87) rfl rfl ?_
  refine qa_bk_gr rfl rfl qa_dx_0_1 rfl ?_
  obtain ⟨c9, hc10, h⟩ := Option.bind_eq_some_iff.mp h
  refine qa_bk_cv (qa_tX1_beginLoading qa_rg_1 hc10) rfl rfl rfl rfl rfl rfl rfl (qa_ds0 qa_rg_1) ?_
  refine qa_bk_do (pc' := 94) rfl rfl ?_
  refine qa_bk_gr rfl rfl qa_dx_0_1 rfl ?_
  refine qa_bk_gr rfl rfl (qa_ds0 qa_rg_1) rfl ?_
  refine qa_bk_gi rfl rfl (qa_ds9 qa_rg_1) rfl ?_
  cases h
  exact qa_bk_ri rfl rfl
set_option maxRecDepth 100000 in
theorem qa_tX9_insert_37 {L : Nat} {a1 : Int32} {a2 : Int32}  {y0 : Int32} {σ : qa_T} {r : ((Int32 ⊕ Nat) × qa_T)} (h : qa_fX9_insert_37 a1 a2 y0 σ = some r) : qa_Bk (qa_ds L) qa_mX9_insert 37 [(0, .inl (0, 1)), (1, .inr (.int a1)), (2, .inr (.int a2))] [.inr (.int y0)] σ (qa_ri r.1) r.2 := by
  unfold qa_fX9_insert_37 at h
  try dsimp only at h
  rcases qa_ite h with ⟨hc2, h⟩ | ⟨hc2, h⟩
  · cases h
    exact qa_bk_cx (qa_tX9_needIndex_x hc2) rfl rfl rfl rfl rfl rfl rfl rfl
  refine qa_bk_cs (qa_tX9_needIndex_o hc2) rfl rfl rfl rfl rfl rfl rfl ?_
  refine qa_bk_do (pc' := 41) rfl rfl ?_
  refine qa_bk_gr rfl rfl qa_dx_0_1 rfl ?_
  refine qa_bk_gr rfl rfl (qa_ds0 qa_rg_1) rfl ?_
  refine qa_bk_gi rfl rfl (qa_ds9 qa_rg_1) rfl ?_
  refine qa_bk_do (pc' := 52) rfl rfl ?_
  rcases qa_ite h with ⟨hc3, h⟩ | ⟨hc3, h⟩
  · refine qa_bk_1t (a := 59) (b := 55) hc3 rfl rfl ?_
    refine qa_bk_do (pc' := 60) rfl rfl ?_
    exact qa_bk_lw (qa_tX9_insert_60  h) rfl rfl (And.intro rfl (And.intro rfl (And.intro rfl (trivial))))
  · refine qa_bk_1f (a := 59) (b := 55) hc3 rfl rfl ?_
    refine qa_bk_do (pc' := 56) rfl rfl ?_
    refine qa_bk_do (pc' := 60) rfl rfl ?_
    exact qa_bk_lw (qa_tX9_insert_60  h) rfl rfl (And.intro rfl (And.intro rfl (And.intro rfl (trivial))))
set_option maxRecDepth 100000 in
theorem qa_tX9_insert_36 {L : Nat} {a1 : Int32} {a2 : Int32}  {σ : qa_T} {r : ((Int32 ⊕ Nat) × qa_T)} (h : qa_fX9_insert_36 a1 a2 σ = some r) : qa_Bk (qa_ds L) qa_mX9_insert 36 [(0, .inl (0, 1)), (1, .inr (.int a1)), (2, .inr (.int a2))] [] σ (qa_ri r.1) r.2 := by
  unfold qa_fX9_insert_36 at h
  try dsimp only at h
  refine qa_bk_do (pc' := 37) rfl rfl ?_
  exact qa_bk_lw (qa_tX9_insert_37  h) rfl rfl (And.intro rfl (And.intro rfl (And.intro rfl (trivial))))
set_option maxRecDepth 100000 in
theorem qa_tX9_insert {L : Nat} {a1 : Int32} {a2 : Int32}  {σ : qa_T} {r : ((Int32 ⊕ Nat) × qa_T)} (h : qa_fX9_insert a1 a2 σ = some r) : qa_Bk (qa_ds L) qa_mX9_insert 0 (qa_ag 0 [.inl (0, 1), .inr (.int a1), .inr (.int a2)]) [] σ (qa_ri r.1) r.2 := by
  unfold qa_fX9_insert at h
  try dsimp only at h
  show qa_Bk (qa_ds L) qa_mX9_insert 0 [(0, .inl (0, 1)), (1, .inr (.int a1)), (2, .inr (.int a2))] [] σ _ _
  refine qa_bk_do (pc' := 1) rfl rfl ?_
  refine qa_bk_do (pc' := 2) rfl rfl ?_
  refine qa_bk_do (pc' := 3) rfl rfl ?_
  refine qa_bk_gr rfl rfl qa_dx_0_1 rfl ?_
  refine qa_bk_gr rfl rfl (qa_ds0 qa_rg_1) rfl ?_
  refine qa_bk_gi rfl rfl (qa_ds9 qa_rg_1) rfl ?_
  refine qa_bk_cs (qa_tX9_isWithin rfl) rfl rfl rfl rfl rfl rfl rfl ?_
  rcases qa_ite h with ⟨hc1, h⟩ | ⟨hc1, h⟩
  · refine qa_bk_1t (a := 36) (b := 18) hc1 rfl rfl ?_
    exact qa_bk_lw (qa_tX9_insert_36  h) rfl rfl (And.intro rfl (And.intro rfl (And.intro rfl (trivial))))
  · refine qa_bk_1f (a := 36) (b := 18) hc1 rfl rfl ?_
    refine qa_bk_do (pc' := 19) rfl rfl ?_
    refine qa_bk_gr rfl rfl qa_dx_0_1 rfl ?_
    refine qa_bk_gr rfl rfl (qa_ds0 qa_rg_1) rfl ?_
    refine qa_bk_do (pc' := 26) rfl rfl ?_
    refine qa_bk_cv (qa_tX6_has qa_rg_1 rfl) rfl rfl rfl rfl rfl rfl rfl (qa_ds1 qa_rg_1) ?_
    rcases qa_ite h with ⟨hc11, h⟩ | ⟨hc11, h⟩
    · refine qa_bk_1t (a := 36) (b := 32) hc11 rfl rfl ?_
      exact qa_bk_lw (qa_tX9_insert_36  h) rfl rfl (And.intro rfl (And.intro rfl (And.intro rfl (trivial))))
    · refine qa_bk_1f (a := 36) (b := 32) hc11 rfl rfl ?_
      refine qa_bk_do (pc' := 33) rfl rfl ?_
      refine qa_bk_do (pc' := 37) rfl rfl ?_
      exact qa_bk_lw (qa_tX9_insert_37  h) rfl rfl (And.intro rfl (And.intro rfl (And.intro rfl (trivial))))
noncomputable def qa_fX9_takeOut (a1 : Int32) (σ : qa_T) : Option ((Int32 ⊕ Nat) × qa_T) :=
    if (qa_bi (qa_fX3_has 1 a1 σ)) = 0 then
      some (.inr 345, σ)
    else
    (qa_fX5_push 1 σ).bind fun c2 =>
    (qa_fX3_remove 1 a1 c2).bind fun c4 =>
    (qa_fX1_beginLoading 1 c4.2).bind fun c6 =>
    some (.inl c4.1, c6)
set_option maxRecDepth 100000 in
theorem qa_tX9_takeOut {L : Nat} {a1 : Int32}  {σ : qa_T} {r : ((Int32 ⊕ Nat) × qa_T)} (h : qa_fX9_takeOut a1 σ = some r) : qa_Bk (qa_ds L) qa_mX9_takeOut 0 (qa_ag 0 [.inl (0, 1), .inr (.int a1)]) [] σ (qa_ri r.1) r.2 := by
  unfold qa_fX9_takeOut at h
  try dsimp only at h
  show qa_Bk (qa_ds L) qa_mX9_takeOut 0 [(0, .inl (0, 1)), (1, .inr (.int a1))] [] σ _ _
  refine qa_bk_do (pc' := 1) rfl rfl ?_
  refine qa_bk_gr rfl rfl qa_dx_0_1 rfl ?_
  refine qa_bk_gr rfl rfl (qa_ds0 qa_rg_1) rfl ?_
  refine qa_bk_do (pc' := 8) rfl rfl ?_
  refine qa_bk_cv (qa_tX3_has qa_rg_1 rfl) rfl rfl rfl rfl rfl rfl rfl (qa_ds9 qa_rg_1) ?_
  rcases qa_ite h with ⟨hc1, h⟩ | ⟨hc1, h⟩
  · cases h
    exact qa_bk_cx (qa_tX9_needIndex_x hc1) rfl rfl rfl rfl rfl rfl rfl rfl
  refine qa_bk_cs (qa_tX9_needIndex_o hc1) rfl rfl rfl rfl rfl rfl rfl ?_
  refine qa_bk_do (pc' := 15) rfl rfl ?_
  refine qa_bk_gr rfl rfl qa_dx_0_1 rfl ?_
  refine qa_bk_do (pc' := 19) rfl rfl ?_
  refine qa_bk_gr rfl rfl qa_dx_0_1 rfl ?_
  obtain ⟨c2, hc3, h⟩ := Option.bind_eq_some_iff.mp h
  refine qa_bk_cv (qa_tX5_push qa_rg_1 hc3) rfl rfl rfl rfl rfl rfl rfl qa_dx_2_18 ?_
  refine qa_bk_do (pc' := 26) rfl rfl ?_
  refine qa_bk_gr rfl rfl qa_dx_0_1 rfl ?_
  refine qa_bk_gr rfl rfl (qa_ds0 qa_rg_1) rfl ?_
  refine qa_bk_do (pc' := 33) rfl rfl ?_
  obtain ⟨c4, hc5, h⟩ := Option.bind_eq_some_iff.mp h
  refine qa_bk_cv (qa_tX3_remove qa_rg_1 hc5) rfl rfl rfl rfl rfl rfl rfl (qa_ds9 qa_rg_1) ?_
  refine qa_bk_do (pc' := 37) (lv' := [(2, _), (0, _), (1, _)]) rfl rfl ?_
  refine qa_bk_do (pc' := 38) rfl rfl ?_
  refine qa_bk_gr rfl rfl qa_dx_0_1 rfl ?_
  obtain ⟨c6, hc7, h⟩ := Option.bind_eq_some_iff.mp h
  refine qa_bk_cv (qa_tX1_beginLoading qa_rg_1 hc7) rfl rfl rfl rfl rfl rfl rfl (qa_ds0 qa_rg_1) ?_
  refine qa_bk_do (pc' := 45) rfl rfl ?_
  cases h
  exact qa_bk_ri rfl rfl
noncomputable def qa_fX9_goOn  (σ : qa_T) : Option ((Bool ⊕ Nat) × qa_T) :=
    if (qa_bi (qa_fX1_mayGoOn 1 σ)) = 0 then
      some (.inr 348, σ)
    else
    (qa_fX5_push 1 σ).bind fun c2 =>
    (qa_fX1_proceed 1 c2).bind fun c4 =>
    let v6 : Int32 := (qa_bi c4.1)
    (qa_fX1_beginLoading 1 c4.2).bind fun c7 =>
    some (.inl c4.1, c7)
set_option maxRecDepth 100000 in
theorem qa_tX9_goOn {L : Nat}   {σ : qa_T} {r : ((Bool ⊕ Nat) × qa_T)} (h : qa_fX9_goOn  σ = some r) : qa_Bk (qa_ds L) qa_mX9_goOn 0 (qa_ag 0 [.inl (0, 1)]) [] σ (qa_rz r.1) r.2 := by
  unfold qa_fX9_goOn at h
  try dsimp only at h
  show qa_Bk (qa_ds L) qa_mX9_goOn 0 [(0, .inl (0, 1))] [] σ _ _
  refine qa_bk_do (pc' := 1) rfl rfl ?_
  refine qa_bk_gr rfl rfl qa_dx_0_1 rfl ?_
  refine qa_bk_cv (qa_tX1_mayGoOn qa_rg_1 rfl) rfl rfl rfl rfl rfl rfl rfl (qa_ds0 qa_rg_1) ?_
  rcases qa_ite h with ⟨hc1, h⟩ | ⟨hc1, h⟩
  · cases h
    exact qa_bk_cx (qa_tX9_needState_x hc1) rfl rfl rfl rfl rfl rfl rfl rfl
  refine qa_bk_cs (qa_tX9_needState_o hc1) rfl rfl rfl rfl rfl rfl rfl ?_
  refine qa_bk_do (pc' := 11) rfl rfl ?_
  refine qa_bk_gr rfl rfl qa_dx_0_1 rfl ?_
  refine qa_bk_do (pc' := 15) rfl rfl ?_
  refine qa_bk_gr rfl rfl qa_dx_0_1 rfl ?_
  obtain ⟨c2, hc3, h⟩ := Option.bind_eq_some_iff.mp h
  refine qa_bk_cv (qa_tX5_push qa_rg_1 hc3) rfl rfl rfl rfl rfl rfl rfl qa_dx_2_18 ?_
  refine qa_bk_do (pc' := 22) rfl rfl ?_
  refine qa_bk_gr rfl rfl qa_dx_0_1 rfl ?_
  obtain ⟨c4, hc5, h⟩ := Option.bind_eq_some_iff.mp h
  refine qa_bk_cv (qa_tX1_proceed qa_rg_1 hc5) rfl rfl rfl rfl rfl rfl rfl (qa_ds0 qa_rg_1) ?_
  refine qa_bk_do (pc' := 29) (lv' := [(1, _), (0, _)]) rfl rfl ?_
  refine qa_bk_do (pc' := 30) rfl rfl ?_
  refine qa_bk_gr rfl rfl qa_dx_0_1 rfl ?_
  obtain ⟨c7, hc8, h⟩ := Option.bind_eq_some_iff.mp h
  refine qa_bk_cv (qa_tX1_beginLoading qa_rg_1 hc8) rfl rfl rfl rfl rfl rfl rfl (qa_ds0 qa_rg_1) ?_
  refine qa_bk_do (pc' := 37) rfl rfl ?_
  cases h
  exact qa_bk_rb rfl rfl rfl
noncomputable def qa_fX9_ask (a1 : Int32) (σ : qa_T) : Option ((Int32 ⊕ Nat) × qa_T) :=
    if (qa_bi (qa_fX6_has 1 a1 σ)) = 0 then
      some (.inr 345, σ)
    else
    (qa_fX1_mayAsk 1 a1 σ).bind fun c2 =>
    if (qa_bi c2) = 0 then
      some (.inr 348, σ)
    else
    (qa_fX5_push 1 σ).bind fun c5 =>
    let σ7 := qa_fX2_queue 1 a1 c5
    (qa_fX1_beginLoading 1 σ7).bind fun c8 =>
    some (.inl (c8.1 (1, 12) 2), c8)
set_option maxRecDepth 100000 in
theorem qa_tX9_ask {L : Nat} {a1 : Int32}  {σ : qa_T} {r : ((Int32 ⊕ Nat) × qa_T)} (h : qa_fX9_ask a1 σ = some r) : qa_Bk (qa_ds L) qa_mX9_ask 0 (qa_ag 0 [.inl (0, 1), .inr (.int a1)]) [] σ (qa_ri r.1) r.2 := by
  unfold qa_fX9_ask at h
  try dsimp only at h
  show qa_Bk (qa_ds L) qa_mX9_ask 0 [(0, .inl (0, 1)), (1, .inr (.int a1))] [] σ _ _
  refine qa_bk_do (pc' := 1) rfl rfl ?_
  refine qa_bk_gr rfl rfl qa_dx_0_1 rfl ?_
  refine qa_bk_gr rfl rfl (qa_ds0 qa_rg_1) rfl ?_
  refine qa_bk_do (pc' := 8) rfl rfl ?_
  refine qa_bk_cv (qa_tX6_has qa_rg_1 rfl) rfl rfl rfl rfl rfl rfl rfl (qa_ds1 qa_rg_1) ?_
  rcases qa_ite h with ⟨hc1, h⟩ | ⟨hc1, h⟩
  · cases h
    exact qa_bk_cx (qa_tX9_needIndex_x hc1) rfl rfl rfl rfl rfl rfl rfl rfl
  refine qa_bk_cs (qa_tX9_needIndex_o hc1) rfl rfl rfl rfl rfl rfl rfl ?_
  refine qa_bk_do (pc' := 15) rfl rfl ?_
  refine qa_bk_gr rfl rfl qa_dx_0_1 rfl ?_
  refine qa_bk_do (pc' := 19) rfl rfl ?_
  obtain ⟨c2, hc3, h⟩ := Option.bind_eq_some_iff.mp h
  refine qa_bk_cv (qa_tX1_mayAsk qa_rg_1 hc3) rfl rfl rfl rfl rfl rfl rfl (qa_ds0 qa_rg_1) ?_
  rcases qa_ite h with ⟨hc4, h⟩ | ⟨hc4, h⟩
  · cases h
    exact qa_bk_cx (qa_tX9_needState_x hc4) rfl rfl rfl rfl rfl rfl rfl rfl
  refine qa_bk_cs (qa_tX9_needState_o hc4) rfl rfl rfl rfl rfl rfl rfl ?_
  refine qa_bk_do (pc' := 26) rfl rfl ?_
  refine qa_bk_gr rfl rfl qa_dx_0_1 rfl ?_
  refine qa_bk_do (pc' := 30) rfl rfl ?_
  refine qa_bk_gr rfl rfl qa_dx_0_1 rfl ?_
  obtain ⟨c5, hc6, h⟩ := Option.bind_eq_some_iff.mp h
  refine qa_bk_cv (qa_tX5_push qa_rg_1 hc6) rfl rfl rfl rfl rfl rfl rfl qa_dx_2_18 ?_
  refine qa_bk_do (pc' := 37) rfl rfl ?_
  refine qa_bk_gr rfl rfl qa_dx_0_1 rfl ?_
  refine qa_bk_gr rfl rfl (qa_ds0 qa_rg_1) rfl ?_
  refine qa_bk_do (pc' := 44) rfl rfl ?_
  refine qa_bk_cv (qa_tX2_queue qa_rg_1 rfl) rfl rfl rfl rfl rfl rfl rfl (qa_ds12 qa_rg_1) ?_
  refine qa_bk_do (pc' := 48) rfl rfl ?_
  refine qa_bk_gr rfl rfl qa_dx_0_1 rfl ?_
  obtain ⟨c8, hc9, h⟩ := Option.bind_eq_some_iff.mp h
  refine qa_bk_cv (qa_tX1_beginLoading qa_rg_1 hc9) rfl rfl rfl rfl rfl rfl rfl (qa_ds0 qa_rg_1) ?_
  refine qa_bk_do (pc' := 55) rfl rfl ?_
  refine qa_bk_gr rfl rfl qa_dx_0_1 rfl ?_
  refine qa_bk_gr rfl rfl (qa_ds0 qa_rg_1) rfl ?_
  refine qa_bk_gi rfl rfl (qa_ds12 qa_rg_1) rfl ?_
  cases h
  exact qa_bk_ri rfl rfl
noncomputable def qa_fX9_burn (a1 : Int32) (σ : qa_T) : Option ((Int32 ⊕ Nat) × qa_T) :=
    if (qa_bi (qa_fX6_has 1 a1 σ)) = 0 then
      some (.inr 345, σ)
    else
    if (qa_bi (qa_fX1_mayBurn 1 a1 σ)) = 0 then
      some (.inr 348, σ)
    else
    (qa_fX5_push 1 σ).bind fun c3 =>
    let σ5 := qa_fX1_putOnFire 1 a1 c3
    (qa_fX1_beginLoading 1 σ5).bind fun c6 =>
    some (.inl (qa_fX9_at (1, 2) 16 a1 c6), c6)
set_option maxRecDepth 100000 in
theorem qa_tX9_burn {L : Nat} {a1 : Int32}  {σ : qa_T} {r : ((Int32 ⊕ Nat) × qa_T)} (h : qa_fX9_burn a1 σ = some r) : qa_Bk (qa_ds L) qa_mX9_burn 0 (qa_ag 0 [.inl (0, 1), .inr (.int a1)]) [] σ (qa_ri r.1) r.2 := by
  unfold qa_fX9_burn at h
  try dsimp only at h
  show qa_Bk (qa_ds L) qa_mX9_burn 0 [(0, .inl (0, 1)), (1, .inr (.int a1))] [] σ _ _
  refine qa_bk_do (pc' := 1) rfl rfl ?_
  refine qa_bk_gr rfl rfl qa_dx_0_1 rfl ?_
  refine qa_bk_gr rfl rfl (qa_ds0 qa_rg_1) rfl ?_
  refine qa_bk_do (pc' := 8) rfl rfl ?_
  refine qa_bk_cv (qa_tX6_has qa_rg_1 rfl) rfl rfl rfl rfl rfl rfl rfl (qa_ds1 qa_rg_1) ?_
  rcases qa_ite h with ⟨hc1, h⟩ | ⟨hc1, h⟩
  · cases h
    exact qa_bk_cx (qa_tX9_needIndex_x hc1) rfl rfl rfl rfl rfl rfl rfl rfl
  refine qa_bk_cs (qa_tX9_needIndex_o hc1) rfl rfl rfl rfl rfl rfl rfl ?_
  refine qa_bk_do (pc' := 15) rfl rfl ?_
  refine qa_bk_gr rfl rfl qa_dx_0_1 rfl ?_
  refine qa_bk_do (pc' := 19) rfl rfl ?_
  refine qa_bk_cv (qa_tX1_mayBurn qa_rg_1 rfl) rfl rfl rfl rfl rfl rfl rfl (qa_ds0 qa_rg_1) ?_
  rcases qa_ite h with ⟨hc2, h⟩ | ⟨hc2, h⟩
  · cases h
    exact qa_bk_cx (qa_tX9_needState_x hc2) rfl rfl rfl rfl rfl rfl rfl rfl
  refine qa_bk_cs (qa_tX9_needState_o hc2) rfl rfl rfl rfl rfl rfl rfl ?_
  refine qa_bk_do (pc' := 26) rfl rfl ?_
  refine qa_bk_gr rfl rfl qa_dx_0_1 rfl ?_
  refine qa_bk_do (pc' := 30) rfl rfl ?_
  refine qa_bk_gr rfl rfl qa_dx_0_1 rfl ?_
  obtain ⟨c3, hc4, h⟩ := Option.bind_eq_some_iff.mp h
  refine qa_bk_cv (qa_tX5_push qa_rg_1 hc4) rfl rfl rfl rfl rfl rfl rfl qa_dx_2_18 ?_
  refine qa_bk_do (pc' := 37) rfl rfl ?_
  refine qa_bk_gr rfl rfl qa_dx_0_1 rfl ?_
  refine qa_bk_do (pc' := 41) rfl rfl ?_
  refine qa_bk_cv (qa_tX1_putOnFire qa_rg_1 rfl) rfl rfl rfl rfl rfl rfl rfl (qa_ds0 qa_rg_1) ?_
  refine qa_bk_do (pc' := 45) rfl rfl ?_
  refine qa_bk_gr rfl rfl qa_dx_0_1 rfl ?_
  obtain ⟨c6, hc7, h⟩ := Option.bind_eq_some_iff.mp h
  refine qa_bk_cv (qa_tX1_beginLoading qa_rg_1 hc7) rfl rfl rfl rfl rfl rfl rfl (qa_ds0 qa_rg_1) ?_
  refine qa_bk_do (pc' := 52) rfl rfl ?_
  refine qa_bk_gr rfl rfl qa_dx_0_1 rfl ?_
  refine qa_bk_gr rfl rfl (qa_ds0 qa_rg_1) rfl ?_
  refine qa_bk_gr rfl rfl (qa_ds1 qa_rg_1) rfl ?_
  refine qa_bk_do (pc' := 62) rfl rfl ?_
  refine qa_bk_cs (qa_tX9_at (qa_ds2 qa_rg_1) (Nat.le_of_ble_eq_true rfl) rfl) rfl rfl rfl rfl rfl rfl rfl ?_
  cases h
  exact qa_bk_ri rfl rfl
