/-! the methods as functions (written by wip/tools/gen.py) -/
noncomputable def qa_fX10_burns (a1 : Int32) (σ : qa_T) : Option (Int32 × qa_T) :=
    (qa_fX10_lay a1 (Int32.ofInt 3) (Int32.ofInt 0) σ).bind fun c1 =>
    (qa_fX10_lay a1 (Int32.ofInt 4) (c1.1 (10, 22) (((Int16.ofInt 166).toInt32)).toNatClampNeg) c1).bind fun c3 =>
    (qa_fX10_of a1 (Int32.ofInt 5) c3).bind fun c5 =>
    (qa_fX10_lay a1 (Int32.ofInt 5) (c5 + (Int32.ofInt 1)) c3).bind fun c7 =>
    let σ9 := qa_wi c7 (10, 22) (((Int16.ofInt 173).toInt32)).toNatClampNeg ((c7.1 (10, 22) (((Int16.ofInt 173).toInt32)).toNatClampNeg) + (Int32.ofInt 1))
    (qa_fX10_of a1 (Int32.ofInt 0) σ9).bind fun c10 =>
    some (c10, σ9)
set_option maxRecDepth 100000 in
theorem qa_tX10_burns {L : Nat} {a1 : Int32}  {σ : qa_T} {r : (Int32 × qa_T)} (h : qa_fX10_burns a1 σ = some r) : qa_Bk (qa_ds L) qa_mX10_burns 0 (qa_ag 0 [.inl (10, 21), .inr (.int a1)]) [] σ (.inl (some (.inr (.int r.1)))) r.2 := by
  unfold qa_fX10_burns at h
  try dsimp only at h
  show qa_Bk (qa_ds L) qa_mX10_burns 0 [(0, .inl (10, 21)), (1, .inr (.int a1))] [] σ _ _
  refine qa_bk_do (pc' := 1) rfl rfl ?_
  refine qa_bk_do (pc' := 2) rfl rfl ?_
  refine qa_bk_do (pc' := 3) rfl rfl ?_
  refine qa_bk_do (pc' := 4) rfl rfl ?_
  obtain ⟨c1, hc2, h⟩ := Option.bind_eq_some_iff.mp h
  refine qa_bk_cv (qa_tX10_lay hc2) rfl rfl rfl rfl rfl rfl rfl qa_dx_10_21 ?_
  refine qa_bk_do (pc' := 8) rfl rfl ?_
  refine qa_bk_do (pc' := 9) rfl rfl ?_
  refine qa_bk_do (pc' := 10) rfl rfl ?_
  refine qa_bk_do (pc' := 11) rfl rfl ?_
  refine qa_bk_gr rfl rfl qa_dx_10_21 rfl ?_
  refine qa_bk_do (pc' := 17) rfl rfl ?_
  refine qa_bk_ia rfl qa_dx_10_22 (Or.inl rfl) rfl ?_
  obtain ⟨c3, hc4, h⟩ := Option.bind_eq_some_iff.mp h
  refine qa_bk_cv (qa_tX10_lay hc4) rfl rfl rfl rfl rfl rfl rfl qa_dx_10_21 ?_
  refine qa_bk_do (pc' := 22) rfl rfl ?_
  refine qa_bk_do (pc' := 23) rfl rfl ?_
  refine qa_bk_do (pc' := 24) rfl rfl ?_
  refine qa_bk_do (pc' := 25) rfl rfl ?_
  refine qa_bk_do (pc' := 26) rfl rfl ?_
  refine qa_bk_do (pc' := 27) rfl rfl ?_
  obtain ⟨c5, hc6, h⟩ := Option.bind_eq_some_iff.mp h
  refine qa_bk_cv (qa_tX10_of hc6) rfl rfl rfl rfl rfl rfl rfl qa_dx_10_21 ?_
  refine qa_bk_do (pc' := 31) rfl rfl ?_
  refine qa_bk_do (pc' := 32) rfl rfl ?_
  obtain ⟨c7, hc8, h⟩ := Option.bind_eq_some_iff.mp h
  refine qa_bk_cv (qa_tX10_lay hc8) rfl rfl rfl rfl rfl rfl rfl qa_dx_10_21 ?_
  refine qa_bk_do (pc' := 36) rfl rfl ?_
  refine qa_bk_gr rfl rfl qa_dx_10_21 rfl ?_
  refine qa_bk_do (pc' := 42) rfl rfl ?_
  refine qa_bk_do (pc' := 43) rfl rfl ?_
  refine qa_bk_ia rfl qa_dx_10_22 (Or.inl rfl) rfl ?_
  refine qa_bk_do (pc' := 45) rfl rfl ?_
  refine qa_bk_do (pc' := 46) rfl rfl ?_
  refine qa_bk_is rfl qa_dx_10_22 rfl ?_
  refine qa_bk_do (pc' := 48) rfl rfl ?_
  refine qa_bk_do (pc' := 49) rfl rfl ?_
  refine qa_bk_do (pc' := 50) rfl rfl ?_
  obtain ⟨c10, hc11, h⟩ := Option.bind_eq_some_iff.mp h
  refine qa_bk_cv (qa_tX10_of hc11) rfl rfl rfl rfl rfl rfl rfl qa_dx_10_21 ?_
  cases h
  exact qa_bk_ri rfl rfl
noncomputable def qa_fX10_makesRoom_42 (a1 : Int32) (x2 : Int32) (σ : qa_T) : Option (Int32 × qa_T) :=
    some (x2, σ)
noncomputable def qa_fX10_makesRoom_2 (a1 : Int32) : Nat → Int32 → qa_T → Option (Int32 × qa_T)
  | 0, _, _ => none
  | n + 1, x2, σ =>
    (qa_fX10_taken σ).bind fun c1 =>
    if (c1 + a1) ≤ (σ.1 (10, 22) (((Int16.ofInt 163).toInt32)).toNatClampNeg) then
      qa_fX10_makesRoom_42 a1 x2 σ
    else
      (qa_fX10_nextToBurn σ).bind fun c4 =>
      if c4 = (Int32.ofInt (-1)) then
        qa_fX10_makesRoom_42 a1 x2 σ
      else
        (qa_fX10_nextToBurn σ).bind fun c7 =>
        (qa_fX10_burns c7 σ).bind fun c9 =>
        let v11 : Int32 := x2 + Int32.ofInt 1
        qa_fX10_makesRoom_2 a1 n v11 c9.2
noncomputable def qa_fX10_makesRoom (a1 : Int32) (σ : qa_T) : Option (Int32 × qa_T) :=
    qa_fX10_makesRoom_2 a1 qa_fu (Int32.ofInt 0) σ
set_option maxRecDepth 100000 in
theorem qa_tX10_makesRoom_42 {L : Nat} {a1 : Int32}  {x2 : Int32} {σ : qa_T} {r : (Int32 × qa_T)} (h : qa_fX10_makesRoom_42 a1 x2 σ = some r) : qa_Bk (qa_ds L) qa_mX10_makesRoom 42 [(0, .inl (10, 21)), (1, .inr (.int a1)), (2, .inr (.int x2))] [] σ (.inl (some (.inr (.int r.1)))) r.2 := by
  unfold qa_fX10_makesRoom_42 at h
  try dsimp only at h
  refine qa_bk_do (pc' := 43) rfl rfl ?_
  cases h
  exact qa_bk_ri rfl rfl
set_option maxRecDepth 100000 in
theorem qa_tX10_makesRoom_2 {L : Nat} {a1 : Int32}  : ∀ (n : Nat) (x2 : Int32) (σ : qa_T) (r : (Int32 × qa_T)), qa_fX10_makesRoom_2 a1 n x2 σ = some r → qa_Bk (qa_ds L) qa_mX10_makesRoom 2 [(0, .inl (10, 21)), (1, .inr (.int a1)), (2, .inr (.int x2))] [] σ (.inl (some (.inr (.int r.1)))) r.2 := by
  intro n
  induction n with
  | zero => intro x2 σ r h; cases h
  | succ n ih =>
    intro x2 σ r h
    unfold qa_fX10_makesRoom_2 at h
    try dsimp only at h
    refine qa_bk_do (pc' := 3) rfl rfl ?_
    obtain ⟨c1, hc2, h⟩ := Option.bind_eq_some_iff.mp h
    refine qa_bk_cv (qa_tX10_taken hc2) rfl rfl rfl rfl rfl rfl rfl qa_dx_10_21 ?_
    refine qa_bk_do (pc' := 7) rfl rfl ?_
    refine qa_bk_do (pc' := 8) rfl rfl ?_
    refine qa_bk_do (pc' := 9) rfl rfl ?_
    refine qa_bk_gr rfl rfl qa_dx_10_21 rfl ?_
    refine qa_bk_do (pc' := 15) rfl rfl ?_
    refine qa_bk_ia rfl qa_dx_10_22 (Or.inl rfl) rfl ?_
    rcases qa_ite h with ⟨hc3, h⟩ | ⟨hc3, h⟩
    · refine qa_bk_1t (a := 42) (b := 19) hc3 rfl rfl ?_
      exact qa_bk_lw (qa_tX10_makesRoom_42  h) rfl rfl (And.intro rfl (And.intro rfl (And.intro rfl (trivial))))
    · refine qa_bk_1f (a := 42) (b := 19) hc3 rfl rfl ?_
      refine qa_bk_do (pc' := 20) rfl rfl ?_
      obtain ⟨c4, hc5, h⟩ := Option.bind_eq_some_iff.mp h
      refine qa_bk_cv (qa_tX10_nextToBurn hc5) rfl rfl rfl rfl rfl rfl rfl qa_dx_10_21 ?_
      refine qa_bk_do (pc' := 24) rfl rfl ?_
      rcases qa_ite h with ⟨hc6, h⟩ | ⟨hc6, h⟩
      · refine qa_bk_1t (a := 42) (b := 27) hc6 rfl rfl ?_
        exact qa_bk_lw (qa_tX10_makesRoom_42  h) rfl rfl (And.intro rfl (And.intro rfl (And.intro rfl (trivial))))
      · refine qa_bk_1f (a := 42) (b := 27) hc6 rfl rfl ?_
        refine qa_bk_do (pc' := 28) rfl rfl ?_
        refine qa_bk_do (pc' := 29) rfl rfl ?_
        obtain ⟨c7, hc8, h⟩ := Option.bind_eq_some_iff.mp h
        refine qa_bk_cv (qa_tX10_nextToBurn hc8) rfl rfl rfl rfl rfl rfl rfl qa_dx_10_21 ?_
        obtain ⟨c9, hc10, h⟩ := Option.bind_eq_some_iff.mp h
        refine qa_bk_cv (qa_tX10_burns hc10) rfl rfl rfl rfl rfl rfl rfl qa_dx_10_21 ?_
        refine qa_bk_do (pc' := 36) (lv' := [(3, _), (0, _), (1, _), (2, _)]) rfl rfl ?_
        refine qa_bk_do (pc' := 39) (lv' := [(2, _), (3, _), (0, _), (1, _)]) rfl rfl ?_
        refine qa_bk_do (pc' := 2) rfl rfl ?_
        exact qa_bk_lw (ih _ _ _ h) rfl rfl (And.intro rfl (And.intro rfl (And.intro rfl (trivial))))
set_option maxRecDepth 100000 in
theorem qa_tX10_makesRoom {L : Nat} {a1 : Int32}  {σ : qa_T} {r : (Int32 × qa_T)} (h : qa_fX10_makesRoom a1 σ = some r) : qa_Bk (qa_ds L) qa_mX10_makesRoom 0 (qa_ag 0 [.inl (10, 21), .inr (.int a1)]) [] σ (.inl (some (.inr (.int r.1)))) r.2 := by
  unfold qa_fX10_makesRoom at h
  try dsimp only at h
  show qa_Bk (qa_ds L) qa_mX10_makesRoom 0 [(0, .inl (10, 21)), (1, .inr (.int a1))] [] σ _ _
  refine qa_bk_do (pc' := 1) rfl rfl ?_
  refine qa_bk_do (pc' := 2) (lv' := [(2, _), (0, _), (1, _)]) rfl rfl ?_
  exact qa_bk_lw (qa_tX10_makesRoom_2  _ _ _ _ h) rfl rfl (And.intro rfl (And.intro rfl (And.intro rfl (trivial))))
noncomputable def qa_fX10_due_28 (a1 : Int32) (y0 : Int32) (σ : qa_T) : Option Int32 :=
    some y0
noncomputable def qa_fX10_due (a1 : Int32) (σ : qa_T) : Option Int32 :=
    (qa_fX10_of a1 (Int32.ofInt 4) σ).bind fun c1 =>
    if c1 ≤ 0 then
      (qa_fX10_of a1 (Int32.ofInt 1) σ).bind fun c4 =>
      qa_fX10_due_28 a1 c4 σ
    else
      (qa_fX10_of a1 (Int32.ofInt 1) σ).bind fun c6 =>
      qa_fX10_due_28 a1 ((c6 + (Int32.ofInt 1)) / (Int32.ofInt 2)) σ
set_option maxRecDepth 100000 in
theorem qa_tX10_due_28 {L : Nat} {a1 : Int32}  {y0 : Int32} {σ : qa_T} {r : Int32} (h : qa_fX10_due_28 a1 y0 σ = some r) : qa_Bk (qa_ds L) qa_mX10_due 28 [(0, .inl (10, 21)), (1, .inr (.int a1))] [.inr (.int y0)] σ (.inl (some (.inr (.int r)))) σ := by
  unfold qa_fX10_due_28 at h
  try dsimp only at h
  cases h
  exact qa_bk_ri rfl rfl
set_option maxRecDepth 100000 in
theorem qa_tX10_due {L : Nat} {a1 : Int32}  {σ : qa_T} {r : Int32} (h : qa_fX10_due a1 σ = some r) : qa_Bk (qa_ds L) qa_mX10_due 0 (qa_ag 0 [.inl (10, 21), .inr (.int a1)]) [] σ (.inl (some (.inr (.int r)))) σ := by
  unfold qa_fX10_due at h
  try dsimp only at h
  show qa_Bk (qa_ds L) qa_mX10_due 0 [(0, .inl (10, 21)), (1, .inr (.int a1))] [] σ _ _
  refine qa_bk_do (pc' := 1) rfl rfl ?_
  refine qa_bk_do (pc' := 2) rfl rfl ?_
  refine qa_bk_do (pc' := 3) rfl rfl ?_
  obtain ⟨c1, hc2, h⟩ := Option.bind_eq_some_iff.mp h
  refine qa_bk_cv (qa_tX10_of hc2) rfl rfl rfl rfl rfl rfl rfl qa_dx_10_21 ?_
  rcases qa_ite h with ⟨hc3, h⟩ | ⟨hc3, h⟩
  · refine qa_bk_1t (a := 22) (b := 9) hc3 rfl rfl ?_
    refine qa_bk_do (pc' := 23) rfl rfl ?_
    refine qa_bk_do (pc' := 24) rfl rfl ?_
    refine qa_bk_do (pc' := 25) rfl rfl ?_
    obtain ⟨c4, hc5, h⟩ := Option.bind_eq_some_iff.mp h
    refine qa_bk_cv (qa_tX10_of hc5) rfl rfl rfl rfl rfl rfl rfl qa_dx_10_21 ?_
    exact qa_bk_lw (qa_tX10_due_28  h) rfl rfl (And.intro rfl (And.intro rfl (trivial)))
  · refine qa_bk_1f (a := 22) (b := 9) hc3 rfl rfl ?_
    refine qa_bk_do (pc' := 10) rfl rfl ?_
    refine qa_bk_do (pc' := 11) rfl rfl ?_
    refine qa_bk_do (pc' := 12) rfl rfl ?_
    obtain ⟨c6, hc7, h⟩ := Option.bind_eq_some_iff.mp h
    refine qa_bk_cv (qa_tX10_of hc7) rfl rfl rfl rfl rfl rfl rfl qa_dx_10_21 ?_
    refine qa_bk_do (pc' := 16) rfl rfl ?_
    refine qa_bk_do (pc' := 17) rfl rfl ?_
    refine qa_bk_do (pc' := 18) rfl rfl ?_
    refine qa_bk_dv (by decide) rfl ?_
    refine qa_bk_do (pc' := 28) rfl rfl ?_
    exact qa_bk_lw (qa_tX10_due_28  h) rfl rfl (And.intro rfl (And.intro rfl (trivial)))
noncomputable def qa_fX10_starts_68 (a1 : Int32) (y0 : Int32) (y1 : Int32) (y2 : Int32) (σ : qa_T) : Option qa_T :=
    if ¬ qa_in y2 176 = true then none else
    let σ14 := qa_wi σ (10, 22) (y2).toNatClampNeg (y1 + y0)
    (qa_fX10_lay a1 (Int32.ofInt 4) (Int32.ofInt 0) σ14).bind fun c15 =>
    some c15
noncomputable def qa_fX10_starts (a1 : Int32) (σ : qa_T) : Option qa_T :=
    (qa_fX10_of a1 (Int32.ofInt 0) σ).bind fun c1 =>
    (qa_fX10_makesRoom c1 σ).bind fun c3 =>
    let σ5 := qa_wi c3.2 (10, 22) (((Int16.ofInt 144).toInt32)).toNatClampNeg a1
    (qa_fX10_due a1 σ5).bind fun c6 =>
    let σ8 := qa_wi σ5 (10, 22) (((Int16.ofInt 145).toInt32)).toNatClampNeg c6
    let σ9 := qa_wi σ8 (10, 22) (((Int16.ofInt 171).toInt32)).toNatClampNeg ((σ8.1 (10, 22) (((Int16.ofInt 171).toInt32)).toNatClampNeg) + (Int32.ofInt 1))
    (qa_fX10_of a1 (Int32.ofInt 4) σ9).bind fun c10 =>
    if c10 ≤ 0 then
      qa_fX10_starts_68 a1 (Int32.ofInt 0) (σ9.1 (10, 22) (((Int16.ofInt 172).toInt32)).toNatClampNeg) ((Int16.ofInt 172).toInt32) σ9
    else
      qa_fX10_starts_68 a1 (Int32.ofInt 1) (σ9.1 (10, 22) (((Int16.ofInt 172).toInt32)).toNatClampNeg) ((Int16.ofInt 172).toInt32) σ9
set_option maxRecDepth 100000 in
theorem qa_tX10_starts_68 {L : Nat} {a1 : Int32}  {y0 : Int32} {y1 : Int32} {y2 : Int32} {σ : qa_T} {r : qa_T} (h : qa_fX10_starts_68 a1 y0 y1 y2 σ = some r) : qa_Bk (qa_ds L) qa_mX10_starts 68 [(0, .inl (10, 21)), (1, .inr (.int a1))] [.inr (.int y0), .inr (.int y1), .inr (.int y2), .inl (10, 22)] σ (.inl none) r := by
  unfold qa_fX10_starts_68 at h
  try dsimp only at h
  refine qa_bk_do (pc' := 69) rfl rfl ?_
  rcases qa_ite h with ⟨_, h⟩ | ⟨hc13, h⟩
  · cases h
  refine qa_bk_is rfl qa_dx_10_22 (Decidable.of_not_not hc13) ?_
  refine qa_bk_do (pc' := 71) rfl rfl ?_
  refine qa_bk_do (pc' := 72) rfl rfl ?_
  refine qa_bk_do (pc' := 73) rfl rfl ?_
  refine qa_bk_do (pc' := 74) rfl rfl ?_
  obtain ⟨c15, hc16, h⟩ := Option.bind_eq_some_iff.mp h
  refine qa_bk_cv (qa_tX10_lay hc16) rfl rfl rfl rfl rfl rfl rfl qa_dx_10_21 ?_
  cases h
  exact qa_bk_re rfl rfl rfl
set_option maxRecDepth 100000 in
theorem qa_tX10_starts {L : Nat} {a1 : Int32}  {σ : qa_T} {r : qa_T} (h : qa_fX10_starts a1 σ = some r) : qa_Bk (qa_ds L) qa_mX10_starts 0 (qa_ag 0 [.inl (10, 21), .inr (.int a1)]) [] σ (.inl none) r := by
  unfold qa_fX10_starts at h
  try dsimp only at h
  show qa_Bk (qa_ds L) qa_mX10_starts 0 [(0, .inl (10, 21)), (1, .inr (.int a1))] [] σ _ _
  refine qa_bk_do (pc' := 1) rfl rfl ?_
  refine qa_bk_do (pc' := 2) rfl rfl ?_
  refine qa_bk_do (pc' := 3) rfl rfl ?_
  refine qa_bk_do (pc' := 4) rfl rfl ?_
  obtain ⟨c1, hc2, h⟩ := Option.bind_eq_some_iff.mp h
  refine qa_bk_cv (qa_tX10_of hc2) rfl rfl rfl rfl rfl rfl rfl qa_dx_10_21 ?_
  obtain ⟨c3, hc4, h⟩ := Option.bind_eq_some_iff.mp h
  refine qa_bk_cv (qa_tX10_makesRoom hc4) rfl rfl rfl rfl rfl rfl rfl qa_dx_10_21 ?_
  refine qa_bk_do (pc' := 11) (lv' := [(2, _), (0, _), (1, _)]) rfl rfl ?_
  refine qa_bk_do (pc' := 12) rfl rfl ?_
  refine qa_bk_gr rfl rfl qa_dx_10_21 rfl ?_
  refine qa_bk_do (pc' := 18) rfl rfl ?_
  refine qa_bk_do (pc' := 19) rfl rfl ?_
  refine qa_bk_is rfl qa_dx_10_22 rfl ?_
  refine qa_bk_do (pc' := 21) rfl rfl ?_
  refine qa_bk_gr rfl rfl qa_dx_10_21 rfl ?_
  refine qa_bk_do (pc' := 27) rfl rfl ?_
  refine qa_bk_do (pc' := 28) rfl rfl ?_
  refine qa_bk_do (pc' := 29) rfl rfl ?_
  obtain ⟨c6, hc7, h⟩ := Option.bind_eq_some_iff.mp h
  refine qa_bk_cv (qa_tX10_due hc7) rfl rfl rfl rfl rfl rfl rfl qa_dx_10_21 ?_
  refine qa_bk_is rfl qa_dx_10_22 rfl ?_
  refine qa_bk_do (pc' := 34) rfl rfl ?_
  refine qa_bk_gr rfl rfl qa_dx_10_21 rfl ?_
  refine qa_bk_do (pc' := 40) rfl rfl ?_
  refine qa_bk_do (pc' := 41) rfl rfl ?_
  refine qa_bk_ia rfl qa_dx_10_22 (Or.inl rfl) rfl ?_
  refine qa_bk_do (pc' := 43) rfl rfl ?_
  refine qa_bk_do (pc' := 44) rfl rfl ?_
  refine qa_bk_is rfl qa_dx_10_22 rfl ?_
  refine qa_bk_do (pc' := 46) rfl rfl ?_
  refine qa_bk_gr rfl rfl qa_dx_10_21 rfl ?_
  refine qa_bk_do (pc' := 52) rfl rfl ?_
  refine qa_bk_do (pc' := 53) rfl rfl ?_
  refine qa_bk_ia rfl qa_dx_10_22 (Or.inl rfl) rfl ?_
  refine qa_bk_do (pc' := 55) rfl rfl ?_
  refine qa_bk_do (pc' := 56) rfl rfl ?_
  refine qa_bk_do (pc' := 57) rfl rfl ?_
  obtain ⟨c10, hc11, h⟩ := Option.bind_eq_some_iff.mp h
  refine qa_bk_cv (qa_tX10_of hc11) rfl rfl rfl rfl rfl rfl rfl qa_dx_10_21 ?_
  rcases qa_ite h with ⟨hc12, h⟩ | ⟨hc12, h⟩
  · refine qa_bk_1t (a := 67) (b := 63) hc12 rfl rfl ?_
    refine qa_bk_do (pc' := 68) rfl rfl ?_
    exact qa_bk_lw (qa_tX10_starts_68  h) rfl rfl (And.intro rfl (And.intro rfl (trivial)))
  · refine qa_bk_1f (a := 67) (b := 63) hc12 rfl rfl ?_
    refine qa_bk_do (pc' := 64) rfl rfl ?_
    refine qa_bk_do (pc' := 68) rfl rfl ?_
    exact qa_bk_lw (qa_tX10_starts_68  h) rfl rfl (And.intro rfl (And.intro rfl (trivial)))
noncomputable def qa_fX10_forgets_61 (a1 : Int32) : Nat → Int32 → Int32 → qa_T → Option qa_T
  | 0, _, _, _ => none
  | n + 1, x2, x3, σ =>
    if (σ.1 (10, 22) (((Int16.ofInt 146).toInt32)).toNatClampNeg) ≤ x3 then
      let σ3 := qa_wi σ (10, 22) (((Int16.ofInt 146).toInt32)).toNatClampNeg x2
      some σ3
    else
      if ¬ qa_in (((Int16.ofInt 147).toInt32) + x3) 176 = true then none else
      let σ5 := qa_wi σ (10, 22) ((((Int16.ofInt 147).toInt32) + x3)).toNatClampNeg (Int32.ofInt 0)
      let v6 : Int32 := x3 + Int32.ofInt 1
      qa_fX10_forgets_61 a1 n x2 v6 σ5
noncomputable def qa_fX10_forgets_53 (a1 : Int32) (k4 : Int32 → Int32 → qa_T → Option qa_T) (x2 : Int32) (x3 : Int32) (σ : qa_T) : Option qa_T :=
    let v9 : Int32 := x3 + Int32.ofInt 1
    k4 x2 v9 σ
noncomputable def qa_fX10_forgets_4 (a1 : Int32) : Nat → Int32 → Int32 → qa_T → Option qa_T
  | 0, _, _, _ => none
  | n + 1, x2, x3, σ =>
    if (σ.1 (10, 22) (((Int16.ofInt 146).toInt32)).toNatClampNeg) ≤ x3 then
      qa_fX10_forgets_61 a1 qa_fu x2 x2 σ
    else
      if ¬ qa_in (((Int16.ofInt 147).toInt32) + x3) 176 = true then none else
      if (σ.1 (10, 22) ((((Int16.ofInt 147).toInt32) + x3)).toNatClampNeg) = a1 then
        qa_fX10_forgets_53 a1 (qa_fX10_forgets_4 a1 n) x2 x3 σ
      else
        if ¬ qa_in (((Int16.ofInt 147).toInt32) + x3) 176 = true then none else
        if ¬ qa_in (((Int16.ofInt 147).toInt32) + x2) 176 = true then none else
        let σ12 := qa_wi σ (10, 22) ((((Int16.ofInt 147).toInt32) + x2)).toNatClampNeg (σ.1 (10, 22) ((((Int16.ofInt 147).toInt32) + x3)).toNatClampNeg)
        let v13 : Int32 := x2 + Int32.ofInt 1
        qa_fX10_forgets_53 a1 (qa_fX10_forgets_4 a1 n) v13 x3 σ12
noncomputable def qa_fX10_forgets (a1 : Int32) (σ : qa_T) : Option qa_T :=
    qa_fX10_forgets_4 a1 qa_fu (Int32.ofInt 0) (Int32.ofInt 0) σ
set_option maxRecDepth 100000 in
theorem qa_tX10_forgets_61 {L : Nat} {a1 : Int32}  : ∀ (n : Nat) (x2 : Int32) (x3 : Int32) (σ : qa_T) (r : qa_T), qa_fX10_forgets_61 a1 n x2 x3 σ = some r → qa_Bk (qa_ds L) qa_mX10_forgets 61 [(0, .inl (10, 21)), (1, .inr (.int a1)), (2, .inr (.int x2)), (3, .inr (.int x3))] [] σ (.inl none) r := by
  intro n
  induction n with
  | zero => intro x2 x3 σ r h; cases h
  | succ n ih =>
    intro x2 x3 σ r h
    unfold qa_fX10_forgets_61 at h
    try dsimp only at h
    refine qa_bk_do (pc' := 62) rfl rfl ?_
    refine qa_bk_do (pc' := 63) rfl rfl ?_
    refine qa_bk_gr rfl rfl qa_dx_10_21 rfl ?_
    refine qa_bk_do (pc' := 69) rfl rfl ?_
    refine qa_bk_ia rfl qa_dx_10_22 (Or.inl rfl) rfl ?_
    rcases qa_ite h with ⟨hc2, h⟩ | ⟨hc2, h⟩
    · refine qa_bk_1t (a := 90) (b := 73) hc2 rfl rfl ?_
      refine qa_bk_do (pc' := 91) rfl rfl ?_
      refine qa_bk_gr rfl rfl qa_dx_10_21 rfl ?_
      refine qa_bk_do (pc' := 97) rfl rfl ?_
      refine qa_bk_do (pc' := 98) rfl rfl ?_
      refine qa_bk_is rfl qa_dx_10_22 rfl ?_
      cases h
      exact qa_bk_re rfl rfl rfl
    · refine qa_bk_1f (a := 90) (b := 73) hc2 rfl rfl ?_
      refine qa_bk_do (pc' := 74) rfl rfl ?_
      refine qa_bk_gr rfl rfl qa_dx_10_21 rfl ?_
      refine qa_bk_do (pc' := 80) rfl rfl ?_
      refine qa_bk_do (pc' := 81) rfl rfl ?_
      refine qa_bk_do (pc' := 82) rfl rfl ?_
      refine qa_bk_do (pc' := 83) rfl rfl ?_
      rcases qa_ite h with ⟨_, h⟩ | ⟨hc4, h⟩
      · cases h
      refine qa_bk_is rfl qa_dx_10_22 (Decidable.of_not_not hc4) ?_
      refine qa_bk_do (pc' := 87) (lv' := [(3, _), (0, _), (1, _), (2, _)]) rfl rfl ?_
      refine qa_bk_do (pc' := 61) rfl rfl ?_
      exact qa_bk_lw (ih _ _ _ _ h) rfl rfl (And.intro rfl (And.intro rfl (And.intro rfl (And.intro rfl (trivial)))))
set_option maxRecDepth 100000 in
theorem qa_tX10_forgets_53 {L : Nat} {a1 : Int32}  {k4 : Int32 → Int32 → qa_T → Option qa_T} (K4 : ∀ (x2 : Int32) (x3 : Int32) (σ : qa_T) (r : qa_T), k4 x2 x3 σ = some r → qa_Bk (qa_ds L) qa_mX10_forgets 4 [(0, .inl (10, 21)), (1, .inr (.int a1)), (2, .inr (.int x2)), (3, .inr (.int x3))] [] σ (.inl none) r) {x2 : Int32} {x3 : Int32} {σ : qa_T} {r : qa_T} (h : qa_fX10_forgets_53 a1 k4 x2 x3 σ = some r) : qa_Bk (qa_ds L) qa_mX10_forgets 53 [(0, .inl (10, 21)), (1, .inr (.int a1)), (2, .inr (.int x2)), (3, .inr (.int x3))] [] σ (.inl none) r := by
  unfold qa_fX10_forgets_53 at h
  try dsimp only at h
  refine qa_bk_do (pc' := 56) (lv' := [(3, _), (0, _), (1, _), (2, _)]) rfl rfl ?_
  refine qa_bk_do (pc' := 4) rfl rfl ?_
  exact qa_bk_lw (K4 _ _ _ _ h) rfl rfl (And.intro rfl (And.intro rfl (And.intro rfl (And.intro rfl (trivial)))))
set_option maxRecDepth 100000 in
theorem qa_tX10_forgets_4 {L : Nat} {a1 : Int32}  : ∀ (n : Nat) (x2 : Int32) (x3 : Int32) (σ : qa_T) (r : qa_T), qa_fX10_forgets_4 a1 n x2 x3 σ = some r → qa_Bk (qa_ds L) qa_mX10_forgets 4 [(0, .inl (10, 21)), (1, .inr (.int a1)), (2, .inr (.int x2)), (3, .inr (.int x3))] [] σ (.inl none) r := by
  intro n
  induction n with
  | zero => intro x2 x3 σ r h; cases h
  | succ n ih =>
    intro x2 x3 σ r h
    unfold qa_fX10_forgets_4 at h
    try dsimp only at h
    refine qa_bk_do (pc' := 5) rfl rfl ?_
    refine qa_bk_do (pc' := 6) rfl rfl ?_
    refine qa_bk_gr rfl rfl qa_dx_10_21 rfl ?_
    refine qa_bk_do (pc' := 12) rfl rfl ?_
    refine qa_bk_ia rfl qa_dx_10_22 (Or.inl rfl) rfl ?_
    rcases qa_ite h with ⟨hc1, h⟩ | ⟨hc1, h⟩
    · refine qa_bk_1t (a := 59) (b := 16) hc1 rfl rfl ?_
      refine qa_bk_do (pc' := 60) rfl rfl ?_
      refine qa_bk_do (pc' := 61) (lv' := [(3, _), (0, _), (1, _), (2, _)]) rfl rfl ?_
      exact qa_bk_lw (qa_tX10_forgets_61  _ _ _ _ _ h) rfl rfl (And.intro rfl (And.intro rfl (And.intro rfl (And.intro rfl (trivial)))))
    · refine qa_bk_1f (a := 59) (b := 16) hc1 rfl rfl ?_
      refine qa_bk_do (pc' := 17) rfl rfl ?_
      refine qa_bk_gr rfl rfl qa_dx_10_21 rfl ?_
      refine qa_bk_do (pc' := 23) rfl rfl ?_
      refine qa_bk_do (pc' := 24) rfl rfl ?_
      refine qa_bk_do (pc' := 25) rfl rfl ?_
      rcases qa_ite h with ⟨_, h⟩ | ⟨hc7, h⟩
      · cases h
      refine qa_bk_ia rfl qa_dx_10_22 (Or.inl rfl) (Decidable.of_not_not hc7) ?_
      refine qa_bk_do (pc' := 27) rfl rfl ?_
      rcases qa_ite h with ⟨hc8, h⟩ | ⟨hc8, h⟩
      · refine qa_bk_1t (a := 53) (b := 30) hc8 rfl rfl ?_
        exact qa_bk_lw (qa_tX10_forgets_53  ih h) rfl rfl (And.intro rfl (And.intro rfl (And.intro rfl (And.intro rfl (trivial)))))
      · refine qa_bk_1f (a := 53) (b := 30) hc8 rfl rfl ?_
        refine qa_bk_do (pc' := 31) rfl rfl ?_
        refine qa_bk_gr rfl rfl qa_dx_10_21 rfl ?_
        refine qa_bk_do (pc' := 37) rfl rfl ?_
        refine qa_bk_do (pc' := 38) rfl rfl ?_
        refine qa_bk_do (pc' := 39) rfl rfl ?_
        refine qa_bk_do (pc' := 40) rfl rfl ?_
        refine qa_bk_gr rfl rfl qa_dx_10_21 rfl ?_
        refine qa_bk_do (pc' := 46) rfl rfl ?_
        refine qa_bk_do (pc' := 47) rfl rfl ?_
        refine qa_bk_do (pc' := 48) rfl rfl ?_
        rcases qa_ite h with ⟨_, h⟩ | ⟨hc10, h⟩
        · cases h
        refine qa_bk_ia rfl qa_dx_10_22 (Or.inl rfl) (Decidable.of_not_not hc10) ?_
        rcases qa_ite h with ⟨_, h⟩ | ⟨hc11, h⟩
        · cases h
        refine qa_bk_is rfl qa_dx_10_22 (Decidable.of_not_not hc11) ?_
        refine qa_bk_do (pc' := 53) (lv' := [(2, _), (0, _), (1, _), (3, _)]) rfl rfl ?_
        exact qa_bk_lw (qa_tX10_forgets_53  ih h) rfl rfl (And.intro rfl (And.intro rfl (And.intro rfl (And.intro rfl (trivial)))))
set_option maxRecDepth 100000 in
theorem qa_tX10_forgets {L : Nat} {a1 : Int32}  {σ : qa_T} {r : qa_T} (h : qa_fX10_forgets a1 σ = some r) : qa_Bk (qa_ds L) qa_mX10_forgets 0 (qa_ag 0 [.inl (10, 21), .inr (.int a1)]) [] σ (.inl none) r := by
  unfold qa_fX10_forgets at h
  try dsimp only at h
  show qa_Bk (qa_ds L) qa_mX10_forgets 0 [(0, .inl (10, 21)), (1, .inr (.int a1))] [] σ _ _
  refine qa_bk_do (pc' := 1) rfl rfl ?_
  refine qa_bk_do (pc' := 2) (lv' := [(2, _), (0, _), (1, _)]) rfl rfl ?_
  refine qa_bk_do (pc' := 3) rfl rfl ?_
  refine qa_bk_do (pc' := 4) (lv' := [(3, _), (2, _), (0, _), (1, _)]) rfl rfl ?_
  exact qa_bk_lw (qa_tX10_forgets_4  _ _ _ _ _ h) rfl rfl (And.intro rfl (And.intro rfl (And.intro rfl (And.intro rfl (trivial)))))
noncomputable def qa_fX10_begins_183  (σ : qa_T) : Option qa_T :=
    some σ
noncomputable def qa_fX10_begins_151  (x1 : Int32) (σ : qa_T) : Option qa_T :=
    if x1 = (Int32.ofInt (-1)) then
      qa_fX10_begins_183  σ
    else
      (qa_fX10_taken σ).bind fun c6 =>
      (qa_fX10_of x1 (Int32.ofInt 0) σ).bind fun c8 =>
      if (σ.1 (10, 22) (((Int16.ofInt 163).toInt32)).toNatClampNeg) < (c6 + c8) then
        qa_fX10_begins_183  σ
      else
        (qa_fX10_starts x1 σ).bind fun c11 =>
        qa_fX10_begins_183  c11
noncomputable def qa_fX10_begins_144  (k77 : Int32 → Int32 → qa_T → Option qa_T) (x2 : Int32) (y0 : Int32) (σ : qa_T) : Option qa_T :=
    let v20 : Int32 := x2 + Int32.ofInt 1
    k77 y0 v20 σ
noncomputable def qa_fX10_begins_77  : Nat → Int32 → Int32 → qa_T → Option qa_T
  | 0, _, _, _ => none
  | n + 1, x1, x2, σ =>
    if (σ.1 (10, 22) (((Int16.ofInt 164).toInt32)).toNatClampNeg) < x2 then
      qa_fX10_begins_151  x1 σ
    else
      if (σ.1 (10, 22) (((Int8.ofInt 113).toInt32)).toNatClampNeg) ≤ 0 then
        qa_fX10_begins_151  x1 σ
      else
        if ¬ x1 = (Int32.ofInt (-1)) then
          qa_fX10_begins_151  x1 σ
        else
          if ¬ qa_in (((Int8.ofInt 114).toInt32) + (((σ.1 (10, 22) (((Int16.ofInt 138).toInt32)).toNatClampNeg) + x2) - ((σ.1 (10, 22) (((Int16.ofInt 138).toInt32)).toNatClampNeg) + x2) / (σ.1 (10, 22) (((Int8.ofInt 113).toInt32)).toNatClampNeg) * (σ.1 (10, 22) (((Int8.ofInt 113).toInt32)).toNatClampNeg))) 176 = true then none else
          let v16 : Int32 := (σ.1 (10, 22) ((((Int8.ofInt 114).toInt32) + (((σ.1 (10, 22) (((Int16.ofInt 138).toInt32)).toNatClampNeg) + x2) - ((σ.1 (10, 22) (((Int16.ofInt 138).toInt32)).toNatClampNeg) + x2) / (σ.1 (10, 22) (((Int8.ofInt 113).toInt32)).toNatClampNeg) * (σ.1 (10, 22) (((Int8.ofInt 113).toInt32)).toNatClampNeg)))).toNatClampNeg)
          (qa_fX10_loaded v16 σ).bind fun c17 =>
          if (qa_bi c17) = 0 then
            qa_fX10_begins_144  (qa_fX10_begins_77  n) x2 v16 σ
          else
            qa_fX10_begins_144  (qa_fX10_begins_77  n) x2 (Int32.ofInt (-1)) σ
noncomputable def qa_fX10_begins  (σ : qa_T) : Option qa_T :=
    if (σ.1 (10, 22) (((Int16.ofInt 144).toInt32)).toNatClampNeg) = (Int32.ofInt (-1)) then
      if (σ.1 (10, 22) (((Int16.ofInt 142).toInt32)).toNatClampNeg) = (Int32.ofInt (-1)) then
        if (σ.1 (10, 22) (((Int16.ofInt 146).toInt32)).toNatClampNeg) ≤ 0 then
          qa_fX10_begins_77  qa_fu (Int32.ofInt (-1)) (Int32.ofInt 1) σ
        else
          let v21 : Int32 := (σ.1 (10, 22) (((Int16.ofInt 147).toInt32)).toNatClampNeg)
          (qa_fX10_forgets v21 σ).bind fun c22 =>
          (qa_fX10_starts v21 c22).bind fun c24 =>
          qa_fX10_begins_183  c24
      else
        (qa_fX10_starts (σ.1 (10, 22) (((Int16.ofInt 142).toInt32)).toNatClampNeg) σ).bind fun c26 =>
        qa_fX10_begins_183  c26
    else
      some σ
set_option maxRecDepth 100000 in
theorem qa_tX10_begins_183 {L : Nat}   {σ : qa_T} {r : qa_T} (h : qa_fX10_begins_183  σ = some r) : qa_Bk (qa_ds L) qa_mX10_begins 183 [(0, .inl (10, 21))] [] σ (.inl none) r := by
  unfold qa_fX10_begins_183 at h
  try dsimp only at h
  cases h
  exact qa_bk_re rfl rfl rfl
set_option maxRecDepth 100000 in
theorem qa_tX10_begins_151 {L : Nat}   {x1 : Int32} {σ : qa_T} {r : qa_T} (h : qa_fX10_begins_151  x1 σ = some r) : qa_Bk (qa_ds L) qa_mX10_begins 151 [(0, .inl (10, 21)), (1, .inr (.int x1))] [] σ (.inl none) r := by
  unfold qa_fX10_begins_151 at h
  try dsimp only at h
  refine qa_bk_do (pc' := 152) rfl rfl ?_
  refine qa_bk_do (pc' := 153) rfl rfl ?_
  rcases qa_ite h with ⟨hc5, h⟩ | ⟨hc5, h⟩
  · refine qa_bk_1t (a := 183) (b := 156) hc5 rfl rfl ?_
    exact qa_bk_lw (qa_tX10_begins_183  h) rfl rfl (And.intro rfl (trivial))
  · refine qa_bk_1f (a := 183) (b := 156) hc5 rfl rfl ?_
    refine qa_bk_do (pc' := 157) rfl rfl ?_
    obtain ⟨c6, hc7, h⟩ := Option.bind_eq_some_iff.mp h
    refine qa_bk_cv (qa_tX10_taken hc7) rfl rfl rfl rfl rfl rfl rfl qa_dx_10_21 ?_
    refine qa_bk_do (pc' := 161) rfl rfl ?_
    refine qa_bk_do (pc' := 162) rfl rfl ?_
    refine qa_bk_do (pc' := 163) rfl rfl ?_
    obtain ⟨c8, hc9, h⟩ := Option.bind_eq_some_iff.mp h
    refine qa_bk_cv (qa_tX10_of hc9) rfl rfl rfl rfl rfl rfl rfl qa_dx_10_21 ?_
    refine qa_bk_do (pc' := 167) rfl rfl ?_
    refine qa_bk_do (pc' := 168) rfl rfl ?_
    refine qa_bk_gr rfl rfl qa_dx_10_21 rfl ?_
    refine qa_bk_do (pc' := 174) rfl rfl ?_
    refine qa_bk_ia rfl qa_dx_10_22 (Or.inl rfl) rfl ?_
    rcases qa_ite h with ⟨hc10, h⟩ | ⟨hc10, h⟩
    · refine qa_bk_1t (a := 183) (b := 178) hc10 rfl rfl ?_
      exact qa_bk_lw (qa_tX10_begins_183  h) rfl rfl (And.intro rfl (trivial))
    · refine qa_bk_1f (a := 183) (b := 178) hc10 rfl rfl ?_
      refine qa_bk_do (pc' := 179) rfl rfl ?_
      refine qa_bk_do (pc' := 180) rfl rfl ?_
      obtain ⟨c11, hc12, h⟩ := Option.bind_eq_some_iff.mp h
      refine qa_bk_cv (qa_tX10_starts hc12) rfl rfl rfl rfl rfl rfl rfl qa_dx_10_21 ?_
      exact qa_bk_lw (qa_tX10_begins_183  h) rfl rfl (And.intro rfl (trivial))
set_option maxRecDepth 100000 in
theorem qa_tX10_begins_144 {L : Nat}   {k77 : Int32 → Int32 → qa_T → Option qa_T} (K77 : ∀ (x1 : Int32) (x2 : Int32) (σ : qa_T) (r : qa_T), k77 x1 x2 σ = some r → qa_Bk (qa_ds L) qa_mX10_begins 77 [(0, .inl (10, 21)), (1, .inr (.int x1)), (2, .inr (.int x2))] [] σ (.inl none) r) {x2 : Int32} {y0 : Int32} {σ : qa_T} {r : qa_T} (h : qa_fX10_begins_144  k77 x2 y0 σ = some r) : qa_Bk (qa_ds L) qa_mX10_begins 144 [(0, .inl (10, 21)), (2, .inr (.int x2))] [.inr (.int y0)] σ (.inl none) r := by
  unfold qa_fX10_begins_144 at h
  try dsimp only at h
  refine qa_bk_do (pc' := 145) (lv' := [(1, _), (0, _), (2, _)]) rfl rfl ?_
  refine qa_bk_do (pc' := 148) (lv' := [(2, _), (1, _), (0, _)]) rfl rfl ?_
  refine qa_bk_do (pc' := 77) rfl rfl ?_
  exact qa_bk_lw (K77 _ _ _ _ h) rfl rfl (And.intro rfl (And.intro rfl (And.intro rfl (trivial))))
set_option maxRecDepth 100000 in
theorem qa_tX10_begins_77 {L : Nat}   : ∀ (n : Nat) (x1 : Int32) (x2 : Int32) (σ : qa_T) (r : qa_T), qa_fX10_begins_77  n x1 x2 σ = some r → qa_Bk (qa_ds L) qa_mX10_begins 77 [(0, .inl (10, 21)), (1, .inr (.int x1)), (2, .inr (.int x2))] [] σ (.inl none) r := by
  intro n
  induction n with
  | zero => intro x1 x2 σ r h; cases h
  | succ n ih =>
    intro x1 x2 σ r h
    unfold qa_fX10_begins_77 at h
    try dsimp only at h
    refine qa_bk_do (pc' := 78) rfl rfl ?_
    refine qa_bk_do (pc' := 79) rfl rfl ?_
    refine qa_bk_gr rfl rfl qa_dx_10_21 rfl ?_
    refine qa_bk_do (pc' := 85) rfl rfl ?_
    refine qa_bk_ia rfl qa_dx_10_22 (Or.inl rfl) rfl ?_
    rcases qa_ite h with ⟨hc4, h⟩ | ⟨hc4, h⟩
    · refine qa_bk_1t (a := 151) (b := 89) hc4 rfl rfl ?_
      exact qa_bk_lw (qa_tX10_begins_151  h) rfl rfl (And.intro rfl (And.intro rfl (trivial)))
    · refine qa_bk_1f (a := 151) (b := 89) hc4 rfl rfl ?_
      refine qa_bk_do (pc' := 90) rfl rfl ?_
      refine qa_bk_gr rfl rfl qa_dx_10_21 rfl ?_
      refine qa_bk_do (pc' := 95) rfl rfl ?_
      refine qa_bk_ia rfl qa_dx_10_22 (Or.inl rfl) rfl ?_
      rcases qa_ite h with ⟨hc13, h⟩ | ⟨hc13, h⟩
      · refine qa_bk_1t (a := 151) (b := 99) hc13 rfl rfl ?_
        exact qa_bk_lw (qa_tX10_begins_151  h) rfl rfl (And.intro rfl (And.intro rfl (trivial)))
      · refine qa_bk_1f (a := 151) (b := 99) hc13 rfl rfl ?_
        refine qa_bk_do (pc' := 100) rfl rfl ?_
        refine qa_bk_do (pc' := 101) rfl rfl ?_
        rcases qa_ite h with ⟨hc14, h⟩ | ⟨hc14, h⟩
        · refine qa_bk_1t (a := 151) (b := 104) hc14 rfl rfl ?_
          exact qa_bk_lw (qa_tX10_begins_151  h) rfl rfl (And.intro rfl (And.intro rfl (trivial)))
        · refine qa_bk_1f (a := 151) (b := 104) hc14 rfl rfl ?_
          refine qa_bk_do (pc' := 105) rfl rfl ?_
          refine qa_bk_gr rfl rfl qa_dx_10_21 rfl ?_
          refine qa_bk_do (pc' := 110) rfl rfl ?_
          refine qa_bk_do (pc' := 111) rfl rfl ?_
          refine qa_bk_gr rfl rfl qa_dx_10_21 rfl ?_
          refine qa_bk_do (pc' := 117) rfl rfl ?_
          refine qa_bk_ia rfl qa_dx_10_22 (Or.inl rfl) rfl ?_
          refine qa_bk_do (pc' := 119) rfl rfl ?_
          refine qa_bk_do (pc' := 120) rfl rfl ?_
          refine qa_bk_do (pc' := 121) rfl rfl ?_
          refine qa_bk_gr rfl rfl qa_dx_10_21 rfl ?_
          refine qa_bk_do (pc' := 126) rfl rfl ?_
          refine qa_bk_ia rfl qa_dx_10_22 (Or.inl rfl) rfl ?_
          refine qa_bk_rm (qa_ne0 hc13) rfl ?_
          refine qa_bk_do (pc' := 129) rfl rfl ?_
          rcases qa_ite h with ⟨_, h⟩ | ⟨hc15, h⟩
          · cases h
          refine qa_bk_ia rfl qa_dx_10_22 (Or.inl rfl) (Decidable.of_not_not hc15) ?_
          refine qa_bk_do (pc' := 131) (lv' := [(3, _), (0, _), (1, _), (2, _)]) rfl rfl ?_
          refine qa_bk_do (pc' := 132) rfl rfl ?_
          refine qa_bk_do (pc' := 133) rfl rfl ?_
          obtain ⟨c17, hc18, h⟩ := Option.bind_eq_some_iff.mp h
          refine qa_bk_cv (qa_tX10_loaded hc18) rfl rfl rfl rfl rfl rfl rfl qa_dx_10_21 ?_
          rcases qa_ite h with ⟨hc19, h⟩ | ⟨hc19, h⟩
          · refine qa_bk_1t (a := 143) (b := 139) hc19 rfl rfl ?_
            refine qa_bk_do (pc' := 144) rfl rfl ?_
            exact qa_bk_lw (qa_tX10_begins_144  ih h) rfl rfl (And.intro rfl (And.intro rfl (trivial)))
          · refine qa_bk_1f (a := 143) (b := 139) hc19 rfl rfl ?_
            refine qa_bk_do (pc' := 140) rfl rfl ?_
            refine qa_bk_do (pc' := 144) rfl rfl ?_
            exact qa_bk_lw (qa_tX10_begins_144  ih h) rfl rfl (And.intro rfl (And.intro rfl (trivial)))
set_option maxRecDepth 100000 in
theorem qa_tX10_begins {L : Nat}   {σ : qa_T} {r : qa_T} (h : qa_fX10_begins  σ = some r) : qa_Bk (qa_ds L) qa_mX10_begins 0 (qa_ag 0 [.inl (10, 21)]) [] σ (.inl none) r := by
  unfold qa_fX10_begins at h
  try dsimp only at h
  show qa_Bk (qa_ds L) qa_mX10_begins 0 [(0, .inl (10, 21))] [] σ _ _
  refine qa_bk_do (pc' := 1) rfl rfl ?_
  refine qa_bk_gr rfl rfl qa_dx_10_21 rfl ?_
  refine qa_bk_do (pc' := 7) rfl rfl ?_
  refine qa_bk_ia rfl qa_dx_10_22 (Or.inl rfl) rfl ?_
  refine qa_bk_do (pc' := 9) rfl rfl ?_
  rcases qa_ite h with ⟨hc1, h⟩ | ⟨hc1, h⟩
  · refine qa_bk_1t (a := 13) (b := 12) hc1 rfl rfl ?_
    refine qa_bk_do (pc' := 14) rfl rfl ?_
    refine qa_bk_gr rfl rfl qa_dx_10_21 rfl ?_
    refine qa_bk_do (pc' := 20) rfl rfl ?_
    refine qa_bk_ia rfl qa_dx_10_22 (Or.inl rfl) rfl ?_
    refine qa_bk_do (pc' := 22) rfl rfl ?_
    rcases qa_ite h with ⟨hc2, h⟩ | ⟨hc2, h⟩
    · refine qa_bk_1t (a := 40) (b := 25) hc2 rfl rfl ?_
      refine qa_bk_do (pc' := 41) rfl rfl ?_
      refine qa_bk_gr rfl rfl qa_dx_10_21 rfl ?_
      refine qa_bk_do (pc' := 47) rfl rfl ?_
      refine qa_bk_ia rfl qa_dx_10_22 (Or.inl rfl) rfl ?_
      rcases qa_ite h with ⟨hc3, h⟩ | ⟨hc3, h⟩
      · refine qa_bk_1t (a := 73) (b := 51) hc3 rfl rfl ?_
        refine qa_bk_do (pc' := 74) rfl rfl ?_
        refine qa_bk_do (pc' := 75) (lv' := [(1, _), (0, _)]) rfl rfl ?_
        refine qa_bk_do (pc' := 76) rfl rfl ?_
        refine qa_bk_do (pc' := 77) (lv' := [(2, _), (1, _), (0, _)]) rfl rfl ?_
        exact qa_bk_lw (qa_tX10_begins_77  _ _ _ _ _ h) rfl rfl (And.intro rfl (And.intro rfl (And.intro rfl (trivial))))
      · refine qa_bk_1f (a := 73) (b := 51) hc3 rfl rfl ?_
        refine qa_bk_do (pc' := 52) rfl rfl ?_
        refine qa_bk_gr rfl rfl qa_dx_10_21 rfl ?_
        refine qa_bk_do (pc' := 58) rfl rfl ?_
        refine qa_bk_ia rfl qa_dx_10_22 (Or.inl rfl) rfl ?_
        refine qa_bk_do (pc' := 60) (lv' := [(1, _), (0, _)]) rfl rfl ?_
        refine qa_bk_do (pc' := 61) rfl rfl ?_
        refine qa_bk_do (pc' := 62) rfl rfl ?_
        obtain ⟨c22, hc23, h⟩ := Option.bind_eq_some_iff.mp h
        refine qa_bk_cv (qa_tX10_forgets hc23) rfl rfl rfl rfl rfl rfl rfl qa_dx_10_21 ?_
        refine qa_bk_do (pc' := 66) rfl rfl ?_
        refine qa_bk_do (pc' := 67) rfl rfl ?_
        obtain ⟨c24, hc25, h⟩ := Option.bind_eq_some_iff.mp h
        refine qa_bk_cv (qa_tX10_starts hc25) rfl rfl rfl rfl rfl rfl rfl qa_dx_10_21 ?_
        refine qa_bk_do (pc' := 183) rfl rfl ?_
        exact qa_bk_lw (qa_tX10_begins_183  h) rfl rfl (And.intro rfl (trivial))
    · refine qa_bk_1f (a := 40) (b := 25) hc2 rfl rfl ?_
      refine qa_bk_do (pc' := 26) rfl rfl ?_
      refine qa_bk_do (pc' := 27) rfl rfl ?_
      refine qa_bk_gr rfl rfl qa_dx_10_21 rfl ?_
      refine qa_bk_do (pc' := 33) rfl rfl ?_
      refine qa_bk_ia rfl qa_dx_10_22 (Or.inl rfl) rfl ?_
      obtain ⟨c26, hc27, h⟩ := Option.bind_eq_some_iff.mp h
      refine qa_bk_cv (qa_tX10_starts hc27) rfl rfl rfl rfl rfl rfl rfl qa_dx_10_21 ?_
      refine qa_bk_do (pc' := 183) rfl rfl ?_
      exact qa_bk_lw (qa_tX10_begins_183  h) rfl rfl (And.intro rfl (trivial))
  · refine qa_bk_1f (a := 13) (b := 12) hc1 rfl rfl ?_
    cases h
    exact qa_bk_re rfl rfl rfl
noncomputable def qa_fX10_uses (a1 : Int32) (σ : qa_T) : Option qa_T :=
    let σ1 := qa_wi σ (10, 22) (((Int16.ofInt 175).toInt32)).toNatClampNeg ((σ.1 (10, 22) (((Int16.ofInt 175).toInt32)).toNatClampNeg) + (Int32.ofInt 1))
    (qa_fX10_lay a1 ((Int8.ofInt 6).toInt32) (σ1.1 (10, 22) (((Int16.ofInt 175).toInt32)).toNatClampNeg) σ1).bind fun c2 =>
    some c2
set_option maxRecDepth 100000 in
theorem qa_tX10_uses {L : Nat} {a1 : Int32}  {σ : qa_T} {r : qa_T} (h : qa_fX10_uses a1 σ = some r) : qa_Bk (qa_ds L) qa_mX10_uses 0 (qa_ag 0 [.inl (10, 21), .inr (.int a1)]) [] σ (.inl none) r := by
  unfold qa_fX10_uses at h
  try dsimp only at h
  show qa_Bk (qa_ds L) qa_mX10_uses 0 [(0, .inl (10, 21)), (1, .inr (.int a1))] [] σ _ _
  refine qa_bk_do (pc' := 1) rfl rfl ?_
  refine qa_bk_gr rfl rfl qa_dx_10_21 rfl ?_
  refine qa_bk_do (pc' := 7) rfl rfl ?_
  refine qa_bk_do (pc' := 8) rfl rfl ?_
  refine qa_bk_ia rfl qa_dx_10_22 (Or.inl rfl) rfl ?_
  refine qa_bk_do (pc' := 10) rfl rfl ?_
  refine qa_bk_do (pc' := 11) rfl rfl ?_
  refine qa_bk_is rfl qa_dx_10_22 rfl ?_
  refine qa_bk_do (pc' := 13) rfl rfl ?_
  refine qa_bk_do (pc' := 14) rfl rfl ?_
  refine qa_bk_do (pc' := 16) rfl rfl ?_
  refine qa_bk_do (pc' := 17) rfl rfl ?_
  refine qa_bk_gr rfl rfl qa_dx_10_21 rfl ?_
  refine qa_bk_do (pc' := 23) rfl rfl ?_
  refine qa_bk_ia rfl qa_dx_10_22 (Or.inl rfl) rfl ?_
  obtain ⟨c2, hc3, h⟩ := Option.bind_eq_some_iff.mp h
  refine qa_bk_cv (qa_tX10_lay hc3) rfl rfl rfl rfl rfl rfl rfl qa_dx_10_21 ?_
  cases h
  exact qa_bk_re rfl rfl rfl
noncomputable def qa_fX10_shows_69 (a1 : Int32) (σ : qa_T) : Option qa_T :=
    let σ2 := qa_wi σ (10, 22) (((Int16.ofInt 139).toInt32)).toNatClampNeg a1
    let σ3 := qa_wi σ2 (10, 22) (((Int16.ofInt 143).toInt32)).toNatClampNeg (Int32.ofInt 0)
    let σ4 := qa_wi σ3 (10, 22) (((Int16.ofInt 142).toInt32)).toNatClampNeg (Int32.ofInt (-1))
    (qa_fX10_uses a1 σ4).bind fun c5 =>
    let σ7 := qa_wi c5 (10, 21) 10 ((c5.1 (10, 21) 10) + (Int32.ofInt 1))
    some σ7
noncomputable def qa_fX10_shows_68 (a1 : Int32) (y0 : Int32) (y1 : Int32) (σ : qa_T) : Option qa_T :=
    if ¬ qa_in y1 176 = true then none else
    let σ14 := qa_wi σ (10, 22) (y1).toNatClampNeg y0
    qa_fX10_shows_69 a1 σ14
noncomputable def qa_fX10_shows (a1 : Int32) (σ : qa_T) : Option qa_T :=
    if (σ.1 (10, 22) (((Int16.ofInt 139).toInt32)).toNatClampNeg) = (Int32.ofInt (-1)) then
      qa_fX10_shows_69 a1 σ
    else
      if (σ.1 (10, 22) (((Int16.ofInt 139).toInt32)).toNatClampNeg) = a1 then
        qa_fX10_shows_69 a1 σ
      else
        (qa_fX10_of a1 (Int32.ofInt 2) σ).bind fun c9 =>
        let σ11 := qa_wi σ (10, 22) (((Int16.ofInt 141).toInt32)).toNatClampNeg c9
        if (σ11.1 (10, 22) (((Int16.ofInt 141).toInt32)).toNatClampNeg) ≤ 0 then
          qa_fX10_shows_68 a1 (Int32.ofInt (-1)) ((Int16.ofInt 140).toInt32) σ11
        else
          qa_fX10_shows_68 a1 (σ11.1 (10, 22) (((Int16.ofInt 139).toInt32)).toNatClampNeg) ((Int16.ofInt 140).toInt32) σ11
set_option maxRecDepth 100000 in
theorem qa_tX10_shows_69 {L : Nat} {a1 : Int32}  {σ : qa_T} {r : qa_T} (h : qa_fX10_shows_69 a1 σ = some r) : qa_Bk (qa_ds L) qa_mX10_shows 69 [(0, .inl (10, 21)), (1, .inr (.int a1))] [] σ (.inl none) r := by
  unfold qa_fX10_shows_69 at h
  try dsimp only at h
  refine qa_bk_do (pc' := 70) rfl rfl ?_
  refine qa_bk_gr rfl rfl qa_dx_10_21 rfl ?_
  refine qa_bk_do (pc' := 76) rfl rfl ?_
  refine qa_bk_do (pc' := 77) rfl rfl ?_
  refine qa_bk_is rfl qa_dx_10_22 rfl ?_
  refine qa_bk_do (pc' := 79) rfl rfl ?_
  refine qa_bk_gr rfl rfl qa_dx_10_21 rfl ?_
  refine qa_bk_do (pc' := 85) rfl rfl ?_
  refine qa_bk_do (pc' := 86) rfl rfl ?_
  refine qa_bk_is rfl qa_dx_10_22 rfl ?_
  refine qa_bk_do (pc' := 88) rfl rfl ?_
  refine qa_bk_gr rfl rfl qa_dx_10_21 rfl ?_
  refine qa_bk_do (pc' := 94) rfl rfl ?_
  refine qa_bk_do (pc' := 95) rfl rfl ?_
  refine qa_bk_is rfl qa_dx_10_22 rfl ?_
  refine qa_bk_do (pc' := 97) rfl rfl ?_
  refine qa_bk_do (pc' := 98) rfl rfl ?_
  obtain ⟨c5, hc6, h⟩ := Option.bind_eq_some_iff.mp h
  refine qa_bk_cv (qa_tX10_uses hc6) rfl rfl rfl rfl rfl rfl rfl qa_dx_10_21 ?_
  refine qa_bk_do (pc' := 102) rfl rfl ?_
  refine qa_bk_do (pc' := 103) rfl rfl ?_
  refine qa_bk_gi rfl rfl qa_dx_10_21 rfl ?_
  refine qa_bk_do (pc' := 107) rfl rfl ?_
  refine qa_bk_do (pc' := 108) rfl rfl ?_
  refine qa_bk_pf rfl rfl qa_dx_10_21 rfl (qa_fiti _) rfl ?_
  cases h
  exact qa_bk_re rfl rfl rfl
set_option maxRecDepth 100000 in
theorem qa_tX10_shows_68 {L : Nat} {a1 : Int32}  {y0 : Int32} {y1 : Int32} {σ : qa_T} {r : qa_T} (h : qa_fX10_shows_68 a1 y0 y1 σ = some r) : qa_Bk (qa_ds L) qa_mX10_shows 68 [(0, .inl (10, 21)), (1, .inr (.int a1))] [.inr (.int y0), .inr (.int y1), .inl (10, 22)] σ (.inl none) r := by
  unfold qa_fX10_shows_68 at h
  try dsimp only at h
  rcases qa_ite h with ⟨_, h⟩ | ⟨hc13, h⟩
  · cases h
  refine qa_bk_is rfl qa_dx_10_22 (Decidable.of_not_not hc13) ?_
  exact qa_bk_lw (qa_tX10_shows_69  h) rfl rfl (And.intro rfl (And.intro rfl (trivial)))
set_option maxRecDepth 100000 in
theorem qa_tX10_shows {L : Nat} {a1 : Int32}  {σ : qa_T} {r : qa_T} (h : qa_fX10_shows a1 σ = some r) : qa_Bk (qa_ds L) qa_mX10_shows 0 (qa_ag 0 [.inl (10, 21), .inr (.int a1)]) [] σ (.inl none) r := by
  unfold qa_fX10_shows at h
  try dsimp only at h
  show qa_Bk (qa_ds L) qa_mX10_shows 0 [(0, .inl (10, 21)), (1, .inr (.int a1))] [] σ _ _
  refine qa_bk_do (pc' := 1) rfl rfl ?_
  refine qa_bk_gr rfl rfl qa_dx_10_21 rfl ?_
  refine qa_bk_do (pc' := 7) rfl rfl ?_
  refine qa_bk_ia rfl qa_dx_10_22 (Or.inl rfl) rfl ?_
  refine qa_bk_do (pc' := 9) rfl rfl ?_
  rcases qa_ite h with ⟨hc1, h⟩ | ⟨hc1, h⟩
  · refine qa_bk_1t (a := 69) (b := 12) hc1 rfl rfl ?_
    exact qa_bk_lw (qa_tX10_shows_69  h) rfl rfl (And.intro rfl (And.intro rfl (trivial)))
  · refine qa_bk_1f (a := 69) (b := 12) hc1 rfl rfl ?_
    refine qa_bk_do (pc' := 13) rfl rfl ?_
    refine qa_bk_gr rfl rfl qa_dx_10_21 rfl ?_
    refine qa_bk_do (pc' := 19) rfl rfl ?_
    refine qa_bk_ia rfl qa_dx_10_22 (Or.inl rfl) rfl ?_
    refine qa_bk_do (pc' := 21) rfl rfl ?_
    rcases qa_ite h with ⟨hc8, h⟩ | ⟨hc8, h⟩
    · refine qa_bk_1t (a := 69) (b := 24) hc8 rfl rfl ?_
      exact qa_bk_lw (qa_tX10_shows_69  h) rfl rfl (And.intro rfl (And.intro rfl (trivial)))
    · refine qa_bk_1f (a := 69) (b := 24) hc8 rfl rfl ?_
      refine qa_bk_do (pc' := 25) rfl rfl ?_
      refine qa_bk_gr rfl rfl qa_dx_10_21 rfl ?_
      refine qa_bk_do (pc' := 31) rfl rfl ?_
      refine qa_bk_do (pc' := 32) rfl rfl ?_
      refine qa_bk_do (pc' := 33) rfl rfl ?_
      refine qa_bk_do (pc' := 34) rfl rfl ?_
      obtain ⟨c9, hc10, h⟩ := Option.bind_eq_some_iff.mp h
      refine qa_bk_cv (qa_tX10_of hc10) rfl rfl rfl rfl rfl rfl rfl qa_dx_10_21 ?_
      refine qa_bk_is rfl qa_dx_10_22 rfl ?_
      refine qa_bk_do (pc' := 39) rfl rfl ?_
      refine qa_bk_gr rfl rfl qa_dx_10_21 rfl ?_
      refine qa_bk_do (pc' := 45) rfl rfl ?_
      refine qa_bk_do (pc' := 46) rfl rfl ?_
      refine qa_bk_gr rfl rfl qa_dx_10_21 rfl ?_
      refine qa_bk_do (pc' := 52) rfl rfl ?_
      refine qa_bk_ia rfl qa_dx_10_22 (Or.inl rfl) rfl ?_
      rcases qa_ite h with ⟨hc12, h⟩ | ⟨hc12, h⟩
      · refine qa_bk_1t (a := 67) (b := 56) hc12 rfl rfl ?_
        refine qa_bk_do (pc' := 68) rfl rfl ?_
        exact qa_bk_lw (qa_tX10_shows_68  h) rfl rfl (And.intro rfl (And.intro rfl (trivial)))
      · refine qa_bk_1f (a := 67) (b := 56) hc12 rfl rfl ?_
        refine qa_bk_do (pc' := 57) rfl rfl ?_
        refine qa_bk_gr rfl rfl qa_dx_10_21 rfl ?_
        refine qa_bk_do (pc' := 63) rfl rfl ?_
        refine qa_bk_ia rfl qa_dx_10_22 (Or.inl rfl) rfl ?_
        refine qa_bk_do (pc' := 68) rfl rfl ?_
        exact qa_bk_lw (qa_tX10_shows_68  h) rfl rfl (And.intro rfl (And.intro rfl (trivial)))
