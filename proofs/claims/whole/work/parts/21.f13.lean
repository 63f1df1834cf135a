/-! the methods as functions (written by wip/tools/gen.py) -/
noncomputable def qa_fX10_canAsk_32 (a1 : Int32) (σ : qa_T) : Option Bool :=
    some false
noncomputable def qa_fX10_canAsk (a1 : Int32) (σ : qa_T) : Option Bool :=
    (qa_fX10_loaded a1 σ).bind fun c1 =>
    if ¬ (qa_bi c1) = 0 then
      qa_fX10_canAsk_32 a1 σ
    else
      if (σ.1 (10, 22) (((Int16.ofInt 144).toInt32)).toNatClampNeg) = a1 then
        qa_fX10_canAsk_32 a1 σ
      else
        (qa_fX10_isAsked a1 σ).bind fun c5 =>
        if ¬ (qa_bi c5) = 0 then
          qa_fX10_canAsk_32 a1 σ
        else
          some true
set_option maxRecDepth 100000 in
theorem qa_tX10_canAsk_32 {L : Nat} {a1 : Int32}  {σ : qa_T} {r : Bool} (h : qa_fX10_canAsk_32 a1 σ = some r) : qa_Bk (qa_ds L) qa_mX10_canAsk 32 [(0, .inl (10, 21)), (1, .inr (.int a1))] [] σ (.inl (some (.inr (.int (qa_bi r))))) σ := by
  unfold qa_fX10_canAsk_32 at h
  try dsimp only at h
  refine qa_bk_do (pc' := 33) rfl rfl ?_
  cases h
  exact qa_bk_rb rfl rfl rfl
set_option maxRecDepth 100000 in
theorem qa_tX10_canAsk {L : Nat} {a1 : Int32}  {σ : qa_T} {r : Bool} (h : qa_fX10_canAsk a1 σ = some r) : qa_Bk (qa_ds L) qa_mX10_canAsk 0 (qa_ag 0 [.inl (10, 21), .inr (.int a1)]) [] σ (.inl (some (.inr (.int (qa_bi r))))) σ := by
  unfold qa_fX10_canAsk at h
  try dsimp only at h
  show qa_Bk (qa_ds L) qa_mX10_canAsk 0 [(0, .inl (10, 21)), (1, .inr (.int a1))] [] σ _ _
  refine qa_bk_do (pc' := 1) rfl rfl ?_
  refine qa_bk_do (pc' := 2) rfl rfl ?_
  obtain ⟨c1, hc2, h⟩ := Option.bind_eq_some_iff.mp h
  refine qa_bk_cv (qa_tX10_loaded hc2) rfl rfl rfl rfl rfl rfl rfl qa_dx_10_21 ?_
  rcases qa_ite h with ⟨hc3, h⟩ | ⟨hc3, h⟩
  · refine qa_bk_1t (a := 32) (b := 8) hc3 rfl rfl ?_
    exact qa_bk_lw (qa_tX10_canAsk_32  h) rfl rfl (And.intro rfl (And.intro rfl (trivial)))
  · refine qa_bk_1f (a := 32) (b := 8) hc3 rfl rfl ?_
    refine qa_bk_do (pc' := 9) rfl rfl ?_
    refine qa_bk_gr rfl rfl qa_dx_10_21 rfl ?_
    refine qa_bk_do (pc' := 15) rfl rfl ?_
    refine qa_bk_ia rfl qa_dx_10_22 (Or.inl rfl) rfl ?_
    refine qa_bk_do (pc' := 17) rfl rfl ?_
    rcases qa_ite h with ⟨hc4, h⟩ | ⟨hc4, h⟩
    · refine qa_bk_1t (a := 32) (b := 20) hc4 rfl rfl ?_
      exact qa_bk_lw (qa_tX10_canAsk_32  h) rfl rfl (And.intro rfl (And.intro rfl (trivial)))
    · refine qa_bk_1f (a := 32) (b := 20) hc4 rfl rfl ?_
      refine qa_bk_do (pc' := 21) rfl rfl ?_
      refine qa_bk_do (pc' := 22) rfl rfl ?_
      obtain ⟨c5, hc6, h⟩ := Option.bind_eq_some_iff.mp h
      refine qa_bk_cv (qa_tX10_isAsked hc6) rfl rfl rfl rfl rfl rfl rfl qa_dx_10_21 ?_
      rcases qa_ite h with ⟨hc7, h⟩ | ⟨hc7, h⟩
      · refine qa_bk_1t (a := 32) (b := 28) hc7 rfl rfl ?_
        exact qa_bk_lw (qa_tX10_canAsk_32  h) rfl rfl (And.intro rfl (And.intro rfl (trivial)))
      · refine qa_bk_1f (a := 32) (b := 28) hc7 rfl rfl ?_
        refine qa_bk_do (pc' := 29) rfl rfl ?_
        refine qa_bk_do (pc' := 33) rfl rfl ?_
        cases h
        exact qa_bk_rb rfl rfl rfl
noncomputable def qa_fX10_asks (a1 : Int32) (σ : qa_T) : Option (Int32 × qa_T) :=
    if ¬ qa_in (((Int16.ofInt 147).toInt32) + (σ.1 (10, 22) (((Int16.ofInt 146).toInt32)).toNatClampNeg)) 176 = true then none else
    let σ2 := qa_wi σ (10, 22) ((((Int16.ofInt 147).toInt32) + (σ.1 (10, 22) (((Int16.ofInt 146).toInt32)).toNatClampNeg))).toNatClampNeg a1
    let σ3 := qa_wi σ2 (10, 22) (((Int16.ofInt 146).toInt32)).toNatClampNeg ((σ2.1 (10, 22) (((Int16.ofInt 146).toInt32)).toNatClampNeg) + (Int32.ofInt 1))
    (qa_fX10_begins σ3).bind fun c4 =>
    some ((c4.1 (10, 22) (((Int16.ofInt 146).toInt32)).toNatClampNeg), c4)
set_option maxRecDepth 100000 in
theorem qa_tX10_asks {L : Nat} {a1 : Int32}  {σ : qa_T} {r : (Int32 × qa_T)} (h : qa_fX10_asks a1 σ = some r) : qa_Bk (qa_ds L) qa_mX10_asks 0 (qa_ag 0 [.inl (10, 21), .inr (.int a1)]) [] σ (.inl (some (.inr (.int r.1)))) r.2 := by
  unfold qa_fX10_asks at h
  try dsimp only at h
  show qa_Bk (qa_ds L) qa_mX10_asks 0 [(0, .inl (10, 21)), (1, .inr (.int a1))] [] σ _ _
  refine qa_bk_do (pc' := 1) rfl rfl ?_
  refine qa_bk_gr rfl rfl qa_dx_10_21 rfl ?_
  refine qa_bk_do (pc' := 7) rfl rfl ?_
  refine qa_bk_do (pc' := 8) rfl rfl ?_
  refine qa_bk_gr rfl rfl qa_dx_10_21 rfl ?_
  refine qa_bk_do (pc' := 14) rfl rfl ?_
  refine qa_bk_ia rfl qa_dx_10_22 (Or.inl rfl) rfl ?_
  refine qa_bk_do (pc' := 16) rfl rfl ?_
  refine qa_bk_do (pc' := 17) rfl rfl ?_
  rcases qa_ite h with ⟨_, h⟩ | ⟨hc1, h⟩
  · cases h
  refine qa_bk_is rfl qa_dx_10_22 (Decidable.of_not_not hc1) ?_
  refine qa_bk_do (pc' := 19) rfl rfl ?_
  refine qa_bk_gr rfl rfl qa_dx_10_21 rfl ?_
  refine qa_bk_do (pc' := 25) rfl rfl ?_
  refine qa_bk_do (pc' := 26) rfl rfl ?_
  refine qa_bk_ia rfl qa_dx_10_22 (Or.inl rfl) rfl ?_
  refine qa_bk_do (pc' := 28) rfl rfl ?_
  refine qa_bk_do (pc' := 29) rfl rfl ?_
  refine qa_bk_is rfl qa_dx_10_22 rfl ?_
  refine qa_bk_do (pc' := 31) rfl rfl ?_
  obtain ⟨c4, hc5, h⟩ := Option.bind_eq_some_iff.mp h
  refine qa_bk_cv (qa_tX10_begins hc5) rfl rfl rfl rfl rfl rfl rfl qa_dx_10_21 ?_
  refine qa_bk_do (pc' := 35) rfl rfl ?_
  refine qa_bk_gr rfl rfl qa_dx_10_21 rfl ?_
  refine qa_bk_do (pc' := 41) rfl rfl ?_
  refine qa_bk_ia rfl qa_dx_10_22 (Or.inl rfl) rfl ?_
  cases h
  exact qa_bk_ri rfl rfl
noncomputable def qa_fX10_passes_7 (a1 : Int32) : Nat → Int32 → qa_T → Option (Int32 × qa_T)
  | 0, _, _ => none
  | n + 1, x2, σ =>
    if a1 ≤ x2 then
      some ((σ.1 (10, 21) 10), σ)
    else
      (qa_fX10_ticks σ).bind fun c3 =>
      let v5 : Int32 := x2 + Int32.ofInt 1
      qa_fX10_passes_7 a1 n v5 c3
noncomputable def qa_fX10_passes (a1 : Int32) (σ : qa_T) : Option (Int32 × qa_T) :=
    let σ1 := qa_wi σ (10, 21) 10 (Int32.ofInt 0)
    qa_fX10_passes_7 a1 qa_fu (Int32.ofInt 0) σ1
set_option maxRecDepth 100000 in
theorem qa_tX10_passes_7 {L : Nat} {a1 : Int32}  : ∀ (n : Nat) (x2 : Int32) (σ : qa_T) (r : (Int32 × qa_T)), qa_fX10_passes_7 a1 n x2 σ = some r → qa_Bk (qa_ds L) qa_mX10_passes 7 [(0, .inl (10, 21)), (1, .inr (.int a1)), (2, .inr (.int x2))] [] σ (.inl (some (.inr (.int r.1)))) r.2 := by
  intro n
  induction n with
  | zero => intro x2 σ r h; cases h
  | succ n ih =>
    intro x2 σ r h
    unfold qa_fX10_passes_7 at h
    try dsimp only at h
    refine qa_bk_do (pc' := 8) rfl rfl ?_
    refine qa_bk_do (pc' := 9) rfl rfl ?_
    rcases qa_ite h with ⟨hc2, h⟩ | ⟨hc2, h⟩
    · refine qa_bk_1t (a := 22) (b := 12) hc2 rfl rfl ?_
      refine qa_bk_do (pc' := 23) rfl rfl ?_
      refine qa_bk_gi rfl rfl qa_dx_10_21 rfl ?_
      cases h
      exact qa_bk_ri rfl rfl
    · refine qa_bk_1f (a := 22) (b := 12) hc2 rfl rfl ?_
      refine qa_bk_do (pc' := 13) rfl rfl ?_
      obtain ⟨c3, hc4, h⟩ := Option.bind_eq_some_iff.mp h
      refine qa_bk_cv (qa_tX10_ticks hc4) rfl rfl rfl rfl rfl rfl rfl qa_dx_10_21 ?_
      refine qa_bk_do (pc' := 19) (lv' := [(2, _), (0, _), (1, _)]) rfl rfl ?_
      refine qa_bk_do (pc' := 7) rfl rfl ?_
      exact qa_bk_lw (ih _ _ _ h) rfl rfl (And.intro rfl (And.intro rfl (And.intro rfl (trivial))))
set_option maxRecDepth 100000 in
theorem qa_tX10_passes {L : Nat} {a1 : Int32}  {σ : qa_T} {r : (Int32 × qa_T)} (h : qa_fX10_passes a1 σ = some r) : qa_Bk (qa_ds L) qa_mX10_passes 0 (qa_ag 0 [.inl (10, 21), .inr (.int a1)]) [] σ (.inl (some (.inr (.int r.1)))) r.2 := by
  unfold qa_fX10_passes at h
  try dsimp only at h
  show qa_Bk (qa_ds L) qa_mX10_passes 0 [(0, .inl (10, 21)), (1, .inr (.int a1))] [] σ _ _
  refine qa_bk_do (pc' := 1) rfl rfl ?_
  refine qa_bk_do (pc' := 2) rfl rfl ?_
  refine qa_bk_pf rfl rfl qa_dx_10_21 rfl (qa_fiti _) rfl ?_
  refine qa_bk_do (pc' := 6) rfl rfl ?_
  refine qa_bk_do (pc' := 7) (lv' := [(2, _), (0, _), (1, _)]) rfl rfl ?_
  exact qa_bk_lw (qa_tX10_passes_7  _ _ _ _ h) rfl rfl (And.intro rfl (And.intro rfl (And.intro rfl (trivial))))
noncomputable def qa_fX10_addSlide_35 (a1 : Int32) (a2 : Int32) (a3 : Int32) (σ : qa_T) : Option (Int32 × qa_T) :=
    let c3 := qa_fX10_throwing (Int32.ofInt 1) σ
    some (c3.1, c3.2)
noncomputable def qa_fX10_addSlide (a1 : Int32) (a2 : Int32) (a3 : Int32) (σ : qa_T) : Option (Int32 × qa_T) :=
    let σ1 := qa_wi σ (10, 21) 9 (Int32.ofInt 0)
    if (qa_bi (qa_fX10_in a1 (Int32.ofInt 1) ((Int8.ofInt 50).toInt32) σ1)) = 0 then
      qa_fX10_addSlide_35 a1 a2 a3 σ1
    else
      if (qa_bi (qa_fX10_in a2 (Int32.ofInt 1) ((Int8.ofInt 20).toInt32) σ1)) = 0 then
        qa_fX10_addSlide_35 a1 a2 a3 σ1
      else
        if ¬ (qa_bi (qa_fX10_in a3 (Int32.ofInt 0) ((Int8.ofInt 10).toInt32) σ1)) = 0 then
          if ¬ (σ1.1 (10, 22) ((Int32.ofInt 0)).toNatClampNeg) = ((Int8.ofInt 16).toInt32) then
            (qa_fX10_save σ1).bind fun c7 =>
            let v9 : Int32 := (c7.1 (10, 22) ((Int32.ofInt 0)).toNatClampNeg)
            let σ10 := qa_wi c7 (10, 22) ((Int32.ofInt 0)).toNatClampNeg ((c7.1 (10, 22) ((Int32.ofInt 0)).toNatClampNeg) + (Int32.ofInt 1))
            (qa_fX10_lay v9 (Int32.ofInt 0) a1 σ10).bind fun c11 =>
            (qa_fX10_lay v9 (Int32.ofInt 1) a2 c11).bind fun c13 =>
            (qa_fX10_lay v9 (Int32.ofInt 2) a3 c13).bind fun c15 =>
            some (v9, c15)
          else
            let c17 := qa_fX10_throwing (Int32.ofInt 2) σ1
            some (c17.1, c17.2)
        else
          qa_fX10_addSlide_35 a1 a2 a3 σ1
set_option maxRecDepth 100000 in
theorem qa_tX10_addSlide_35 {L : Nat} {a1 : Int32} {a2 : Int32} {a3 : Int32}  {σ : qa_T} {r : (Int32 × qa_T)} (h : qa_fX10_addSlide_35 a1 a2 a3 σ = some r) : qa_Bk (qa_ds L) qa_mX10_addSlide 35 [(0, .inl (10, 21)), (1, .inr (.int a1)), (2, .inr (.int a2)), (3, .inr (.int a3))] [] σ (.inl (some (.inr (.int r.1)))) r.2 := by
  unfold qa_fX10_addSlide_35 at h
  try dsimp only at h
  refine qa_bk_do (pc' := 36) rfl rfl ?_
  refine qa_bk_do (pc' := 37) rfl rfl ?_
  refine qa_bk_cv (qa_tX10_throwing rfl) rfl rfl rfl rfl rfl rfl rfl qa_dx_10_21 ?_
  cases h
  exact qa_bk_ri rfl rfl
set_option maxRecDepth 100000 in
theorem qa_tX10_addSlide {L : Nat} {a1 : Int32} {a2 : Int32} {a3 : Int32}  {σ : qa_T} {r : (Int32 × qa_T)} (h : qa_fX10_addSlide a1 a2 a3 σ = some r) : qa_Bk (qa_ds L) qa_mX10_addSlide 0 (qa_ag 0 [.inl (10, 21), .inr (.int a1), .inr (.int a2), .inr (.int a3)]) [] σ (.inl (some (.inr (.int r.1)))) r.2 := by
  unfold qa_fX10_addSlide at h
  try dsimp only at h
  show qa_Bk (qa_ds L) qa_mX10_addSlide 0 [(0, .inl (10, 21)), (1, .inr (.int a1)), (2, .inr (.int a2)), (3, .inr (.int a3))] [] σ _ _
  refine qa_bk_do (pc' := 1) rfl rfl ?_
  refine qa_bk_do (pc' := 2) rfl rfl ?_
  refine qa_bk_pf rfl rfl qa_dx_10_21 rfl (qa_fiti _) rfl ?_
  refine qa_bk_do (pc' := 6) rfl rfl ?_
  refine qa_bk_do (pc' := 7) rfl rfl ?_
  refine qa_bk_do (pc' := 9) rfl rfl ?_
  refine qa_bk_cs (qa_tX10_in rfl) rfl rfl rfl rfl rfl rfl rfl ?_
  rcases qa_ite h with ⟨hc2, h⟩ | ⟨hc2, h⟩
  · refine qa_bk_1t (a := 35) (b := 15) hc2 rfl rfl ?_
    exact qa_bk_lw (qa_tX10_addSlide_35  h) rfl rfl (And.intro rfl (And.intro rfl (And.intro rfl (And.intro rfl (trivial)))))
  · refine qa_bk_1f (a := 35) (b := 15) hc2 rfl rfl ?_
    refine qa_bk_do (pc' := 16) rfl rfl ?_
    refine qa_bk_do (pc' := 17) rfl rfl ?_
    refine qa_bk_do (pc' := 19) rfl rfl ?_
    refine qa_bk_cs (qa_tX10_in rfl) rfl rfl rfl rfl rfl rfl rfl ?_
    rcases qa_ite h with ⟨hc4, h⟩ | ⟨hc4, h⟩
    · refine qa_bk_1t (a := 35) (b := 25) hc4 rfl rfl ?_
      exact qa_bk_lw (qa_tX10_addSlide_35  h) rfl rfl (And.intro rfl (And.intro rfl (And.intro rfl (And.intro rfl (trivial)))))
    · refine qa_bk_1f (a := 35) (b := 25) hc4 rfl rfl ?_
      refine qa_bk_do (pc' := 26) rfl rfl ?_
      refine qa_bk_do (pc' := 27) rfl rfl ?_
      refine qa_bk_do (pc' := 29) rfl rfl ?_
      refine qa_bk_cs (qa_tX10_in rfl) rfl rfl rfl rfl rfl rfl rfl ?_
      rcases qa_ite h with ⟨hc5, h⟩ | ⟨hc5, h⟩
      · refine qa_bk_1t (a := 41) (b := 35) hc5 rfl rfl ?_
        refine qa_bk_do (pc' := 42) rfl rfl ?_
        refine qa_bk_gr rfl rfl qa_dx_10_21 rfl ?_
        refine qa_bk_do (pc' := 46) rfl rfl ?_
        refine qa_bk_ia rfl qa_dx_10_22 (Or.inl rfl) rfl ?_
        refine qa_bk_do (pc' := 49) rfl rfl ?_
        rcases qa_ite h with ⟨hc6, h⟩ | ⟨hc6, h⟩
        · refine qa_bk_1t (a := 58) (b := 52) hc6 rfl rfl ?_
          refine qa_bk_do (pc' := 59) rfl rfl ?_
          obtain ⟨c7, hc8, h⟩ := Option.bind_eq_some_iff.mp h
          refine qa_bk_cv (qa_tX10_save hc8) rfl rfl rfl rfl rfl rfl rfl qa_dx_10_21 ?_
          refine qa_bk_do (pc' := 63) rfl rfl ?_
          refine qa_bk_gr rfl rfl qa_dx_10_21 rfl ?_
          refine qa_bk_do (pc' := 67) rfl rfl ?_
          refine qa_bk_ia rfl qa_dx_10_22 (Or.inl rfl) rfl ?_
          refine qa_bk_do (pc' := 70) (lv' := [(4, _), (0, _), (1, _), (2, _), (3, _)]) rfl rfl ?_
          refine qa_bk_do (pc' := 71) rfl rfl ?_
          refine qa_bk_gr rfl rfl qa_dx_10_21 rfl ?_
          refine qa_bk_do (pc' := 75) rfl rfl ?_
          refine qa_bk_do (pc' := 76) rfl rfl ?_
          refine qa_bk_ia rfl qa_dx_10_22 (Or.inl rfl) rfl ?_
          refine qa_bk_do (pc' := 78) rfl rfl ?_
          refine qa_bk_do (pc' := 79) rfl rfl ?_
          refine qa_bk_is rfl qa_dx_10_22 rfl ?_
          refine qa_bk_do (pc' := 81) rfl rfl ?_
          refine qa_bk_do (pc' := 83) rfl rfl ?_
          refine qa_bk_do (pc' := 84) rfl rfl ?_
          refine qa_bk_do (pc' := 85) rfl rfl ?_
          obtain ⟨c11, hc12, h⟩ := Option.bind_eq_some_iff.mp h
          refine qa_bk_cv (qa_tX10_lay hc12) rfl rfl rfl rfl rfl rfl rfl qa_dx_10_21 ?_
          refine qa_bk_do (pc' := 89) rfl rfl ?_
          refine qa_bk_do (pc' := 91) rfl rfl ?_
          refine qa_bk_do (pc' := 92) rfl rfl ?_
          refine qa_bk_do (pc' := 93) rfl rfl ?_
          obtain ⟨c13, hc14, h⟩ := Option.bind_eq_some_iff.mp h
          refine qa_bk_cv (qa_tX10_lay hc14) rfl rfl rfl rfl rfl rfl rfl qa_dx_10_21 ?_
          refine qa_bk_do (pc' := 97) rfl rfl ?_
          refine qa_bk_do (pc' := 99) rfl rfl ?_
          refine qa_bk_do (pc' := 100) rfl rfl ?_
          refine qa_bk_do (pc' := 101) rfl rfl ?_
          obtain ⟨c15, hc16, h⟩ := Option.bind_eq_some_iff.mp h
          refine qa_bk_cv (qa_tX10_lay hc16) rfl rfl rfl rfl rfl rfl rfl qa_dx_10_21 ?_
          refine qa_bk_do (pc' := 106) rfl rfl ?_
          cases h
          exact qa_bk_ri rfl rfl
        · refine qa_bk_1f (a := 58) (b := 52) hc6 rfl rfl ?_
          refine qa_bk_do (pc' := 53) rfl rfl ?_
          refine qa_bk_do (pc' := 54) rfl rfl ?_
          refine qa_bk_cv (qa_tX10_throwing rfl) rfl rfl rfl rfl rfl rfl rfl qa_dx_10_21 ?_
          cases h
          exact qa_bk_ri rfl rfl
      · refine qa_bk_1f (a := 41) (b := 35) hc5 rfl rfl ?_
        exact qa_bk_lw (qa_tX10_addSlide_35  h) rfl rfl (And.intro rfl (And.intro rfl (And.intro rfl (And.intro rfl (trivial)))))
noncomputable def qa_fX10_insert_23 (a1 : Int32) (a2 : Int32) (σ : qa_T) : Option (Int32 × qa_T) :=
    let c3 := qa_fX10_throwing (Int32.ofInt 1) σ
    some (c3.1, c3.2)
noncomputable def qa_fX10_insert (a1 : Int32) (a2 : Int32) (σ : qa_T) : Option (Int32 × qa_T) :=
    let c1 := qa_fX10_isThere a2 σ
    if (qa_bi c1.1) = 0 then
      qa_fX10_insert_23 a1 a2 c1.2
    else
      if ¬ (qa_bi (qa_fX10_in a1 (Int32.ofInt 0) (c1.2.1 (10, 22) (((Int8.ofInt 113).toInt32)).toNatClampNeg) c1.2)) = 0 then
        if ¬ (c1.2.1 (10, 22) (((Int8.ofInt 113).toInt32)).toNatClampNeg) = ((Int8.ofInt 24).toInt32) then
          (qa_fX10_save c1.2).bind fun c6 =>
          (qa_fX10_inserts a1 a2 c6).bind fun c8 =>
          some (c8.1, c8.2)
        else
          let c10 := qa_fX10_throwing (Int32.ofInt 2) c1.2
          some (c10.1, c10.2)
      else
        qa_fX10_insert_23 a1 a2 c1.2
set_option maxRecDepth 100000 in
theorem qa_tX10_insert_23 {L : Nat} {a1 : Int32} {a2 : Int32}  {σ : qa_T} {r : (Int32 × qa_T)} (h : qa_fX10_insert_23 a1 a2 σ = some r) : qa_Bk (qa_ds L) qa_mX10_insert 23 [(0, .inl (10, 21)), (1, .inr (.int a1)), (2, .inr (.int a2))] [] σ (.inl (some (.inr (.int r.1)))) r.2 := by
  unfold qa_fX10_insert_23 at h
  try dsimp only at h
  refine qa_bk_do (pc' := 24) rfl rfl ?_
  refine qa_bk_do (pc' := 25) rfl rfl ?_
  refine qa_bk_cv (qa_tX10_throwing rfl) rfl rfl rfl rfl rfl rfl rfl qa_dx_10_21 ?_
  cases h
  exact qa_bk_ri rfl rfl
set_option maxRecDepth 100000 in
theorem qa_tX10_insert {L : Nat} {a1 : Int32} {a2 : Int32}  {σ : qa_T} {r : (Int32 × qa_T)} (h : qa_fX10_insert a1 a2 σ = some r) : qa_Bk (qa_ds L) qa_mX10_insert 0 (qa_ag 0 [.inl (10, 21), .inr (.int a1), .inr (.int a2)]) [] σ (.inl (some (.inr (.int r.1)))) r.2 := by
  unfold qa_fX10_insert at h
  try dsimp only at h
  show qa_Bk (qa_ds L) qa_mX10_insert 0 [(0, .inl (10, 21)), (1, .inr (.int a1)), (2, .inr (.int a2))] [] σ _ _
  refine qa_bk_do (pc' := 1) rfl rfl ?_
  refine qa_bk_do (pc' := 2) rfl rfl ?_
  refine qa_bk_cv (qa_tX10_isThere rfl) rfl rfl rfl rfl rfl rfl rfl qa_dx_10_21 ?_
  rcases qa_ite h with ⟨hc2, h⟩ | ⟨hc2, h⟩
  · refine qa_bk_1t (a := 23) (b := 8) hc2 rfl rfl ?_
    exact qa_bk_lw (qa_tX10_insert_23  h) rfl rfl (And.intro rfl (And.intro rfl (And.intro rfl (trivial))))
  · refine qa_bk_1f (a := 23) (b := 8) hc2 rfl rfl ?_
    refine qa_bk_do (pc' := 9) rfl rfl ?_
    refine qa_bk_do (pc' := 10) rfl rfl ?_
    refine qa_bk_do (pc' := 11) rfl rfl ?_
    refine qa_bk_gr rfl rfl qa_dx_10_21 rfl ?_
    refine qa_bk_do (pc' := 16) rfl rfl ?_
    refine qa_bk_ia rfl qa_dx_10_22 (Or.inl rfl) rfl ?_
    refine qa_bk_cs (qa_tX10_in rfl) rfl rfl rfl rfl rfl rfl rfl ?_
    rcases qa_ite h with ⟨hc4, h⟩ | ⟨hc4, h⟩
    · refine qa_bk_1t (a := 29) (b := 23) hc4 rfl rfl ?_
      refine qa_bk_do (pc' := 30) rfl rfl ?_
      refine qa_bk_gr rfl rfl qa_dx_10_21 rfl ?_
      refine qa_bk_do (pc' := 35) rfl rfl ?_
      refine qa_bk_ia rfl qa_dx_10_22 (Or.inl rfl) rfl ?_
      refine qa_bk_do (pc' := 38) rfl rfl ?_
      rcases qa_ite h with ⟨hc5, h⟩ | ⟨hc5, h⟩
      · refine qa_bk_1t (a := 47) (b := 41) hc5 rfl rfl ?_
        refine qa_bk_do (pc' := 48) rfl rfl ?_
        obtain ⟨c6, hc7, h⟩ := Option.bind_eq_some_iff.mp h
        refine qa_bk_cv (qa_tX10_save hc7) rfl rfl rfl rfl rfl rfl rfl qa_dx_10_21 ?_
        refine qa_bk_do (pc' := 52) rfl rfl ?_
        refine qa_bk_do (pc' := 53) rfl rfl ?_
        refine qa_bk_do (pc' := 54) rfl rfl ?_
        obtain ⟨c8, hc9, h⟩ := Option.bind_eq_some_iff.mp h
        refine qa_bk_cv (qa_tX10_inserts hc9) rfl rfl rfl rfl rfl rfl rfl qa_dx_10_21 ?_
        cases h
        exact qa_bk_ri rfl rfl
      · refine qa_bk_1f (a := 47) (b := 41) hc5 rfl rfl ?_
        refine qa_bk_do (pc' := 42) rfl rfl ?_
        refine qa_bk_do (pc' := 43) rfl rfl ?_
        refine qa_bk_cv (qa_tX10_throwing rfl) rfl rfl rfl rfl rfl rfl rfl qa_dx_10_21 ?_
        cases h
        exact qa_bk_ri rfl rfl
    · refine qa_bk_1f (a := 29) (b := 23) hc4 rfl rfl ?_
      exact qa_bk_lw (qa_tX10_insert_23  h) rfl rfl (And.intro rfl (And.intro rfl (And.intro rfl (trivial))))
noncomputable def qa_fX10_takeOut_146 (a1 : Int32) (x2 : Int32) (y0 : Int32) (y1 : Int32) (y2 : Int32) (σ : qa_T) : Option (Int32 × qa_T) :=
    if ¬ qa_in y2 176 = true then none else
    let σ13 := qa_wi σ (10, 22) (y2).toNatClampNeg (y1 - y0)
    (qa_fX10_begins σ13).bind fun c14 =>
    some (x2, c14)
noncomputable def qa_fX10_takeOut_145 (a1 : Int32) (x2 : Int32) (y0 : Int32) (y1 : Int32) (σ : qa_T) : Option (Int32 × qa_T) :=
    qa_fX10_takeOut_146 a1 x2 (Int32.ofInt 0) y0 y1 σ
noncomputable def qa_fX10_takeOut_55 (a1 : Int32) : Nat → Int32 → Int32 → qa_T → Option (Int32 × qa_T)
  | 0, _, _, _ => none
  | n + 1, x2, x3, σ =>
    if (σ.1 (10, 22) (((Int8.ofInt 113).toInt32)).toNatClampNeg) ≤ x3 then
      if ¬ qa_in (((Int8.ofInt 114).toInt32) + (σ.1 (10, 22) (((Int8.ofInt 113).toInt32)).toNatClampNeg)) 176 = true then none else
      let σ10 := qa_wi σ (10, 22) ((((Int8.ofInt 114).toInt32) + (σ.1 (10, 22) (((Int8.ofInt 113).toInt32)).toNatClampNeg))).toNatClampNeg (Int32.ofInt 0)
      if (σ10.1 (10, 22) (((Int16.ofInt 138).toInt32)).toNatClampNeg) = (Int32.ofInt (-1)) then
        qa_fX10_takeOut_145 a1 x2 (σ10.1 (10, 22) (((Int16.ofInt 138).toInt32)).toNatClampNeg) ((Int16.ofInt 138).toInt32) σ10
      else
        if (σ10.1 (10, 22) (((Int16.ofInt 138).toInt32)).toNatClampNeg) < a1 then
          qa_fX10_takeOut_145 a1 x2 (σ10.1 (10, 22) (((Int16.ofInt 138).toInt32)).toNatClampNeg) ((Int16.ofInt 138).toInt32) σ10
        else
          qa_fX10_takeOut_146 a1 x2 (Int32.ofInt 1) (σ10.1 (10, 22) (((Int16.ofInt 138).toInt32)).toNatClampNeg) ((Int16.ofInt 138).toInt32) σ10
    else
      if ¬ qa_in ((((Int8.ofInt 114).toInt32) + x3) + (Int32.ofInt 1)) 176 = true then none else
      if ¬ qa_in (((Int8.ofInt 114).toInt32) + x3) 176 = true then none else
      let σ19 := qa_wi σ (10, 22) ((((Int8.ofInt 114).toInt32) + x3)).toNatClampNeg (σ.1 (10, 22) (((((Int8.ofInt 114).toInt32) + x3) + (Int32.ofInt 1))).toNatClampNeg)
      let v20 : Int32 := x3 + Int32.ofInt 1
      qa_fX10_takeOut_55 a1 n x2 v20 σ19
noncomputable def qa_fX10_takeOut (a1 : Int32) (σ : qa_T) : Option (Int32 × qa_T) :=
    let σ1 := qa_wi σ (10, 21) 9 (Int32.ofInt 0)
    if ¬ (qa_bi (qa_fX10_in a1 (Int32.ofInt 0) ((σ1.1 (10, 22) (((Int8.ofInt 113).toInt32)).toNatClampNeg) - (Int32.ofInt 1)) σ1)) = 0 then
      (qa_fX10_save σ1).bind fun c3 =>
      if ¬ qa_in (((Int8.ofInt 114).toInt32) + a1) 176 = true then none else
      let v6 : Int32 := (c3.1 (10, 22) ((((Int8.ofInt 114).toInt32) + a1)).toNatClampNeg)
      let σ7 := qa_wi c3 (10, 22) (((Int8.ofInt 113).toInt32)).toNatClampNeg ((c3.1 (10, 22) (((Int8.ofInt 113).toInt32)).toNatClampNeg) - (Int32.ofInt 1))
      qa_fX10_takeOut_55 a1 qa_fu v6 a1 σ7
    else
      let c21 := qa_fX10_throwing (Int32.ofInt 1) σ1
      some (c21.1, c21.2)
set_option maxRecDepth 100000 in
theorem qa_tX10_takeOut_146 {L : Nat} {a1 : Int32}  {x2 : Int32} {y0 : Int32} {y1 : Int32} {y2 : Int32} {σ : qa_T} {r : (Int32 × qa_T)} (h : qa_fX10_takeOut_146 a1 x2 y0 y1 y2 σ = some r) : qa_Bk (qa_ds L) qa_mX10_takeOut 146 [(0, .inl (10, 21)), (1, .inr (.int a1)), (2, .inr (.int x2))] [.inr (.int y0), .inr (.int y1), .inr (.int y2), .inl (10, 22)] σ (.inl (some (.inr (.int r.1)))) r.2 := by
  unfold qa_fX10_takeOut_146 at h
  try dsimp only at h
  refine qa_bk_do (pc' := 147) rfl rfl ?_
  rcases qa_ite h with ⟨_, h⟩ | ⟨hc12, h⟩
  · cases h
  refine qa_bk_is rfl qa_dx_10_22 (Decidable.of_not_not hc12) ?_
  refine qa_bk_do (pc' := 149) rfl rfl ?_
  obtain ⟨c14, hc15, h⟩ := Option.bind_eq_some_iff.mp h
  refine qa_bk_cv (qa_tX10_begins hc15) rfl rfl rfl rfl rfl rfl rfl qa_dx_10_21 ?_
  refine qa_bk_do (pc' := 153) rfl rfl ?_
  cases h
  exact qa_bk_ri rfl rfl
set_option maxRecDepth 100000 in
theorem qa_tX10_takeOut_145 {L : Nat} {a1 : Int32}  {x2 : Int32} {y0 : Int32} {y1 : Int32} {σ : qa_T} {r : (Int32 × qa_T)} (h : qa_fX10_takeOut_145 a1 x2 y0 y1 σ = some r) : qa_Bk (qa_ds L) qa_mX10_takeOut 145 [(0, .inl (10, 21)), (1, .inr (.int a1)), (2, .inr (.int x2))] [.inr (.int y0), .inr (.int y1), .inl (10, 22)] σ (.inl (some (.inr (.int r.1)))) r.2 := by
  unfold qa_fX10_takeOut_145 at h
  try dsimp only at h
  refine qa_bk_do (pc' := 146) rfl rfl ?_
  exact qa_bk_lw (qa_tX10_takeOut_146  h) rfl rfl (And.intro rfl (And.intro rfl (And.intro rfl (trivial))))
set_option maxRecDepth 100000 in
theorem qa_tX10_takeOut_55 {L : Nat} {a1 : Int32}  : ∀ (n : Nat) (x2 : Int32) (x3 : Int32) (σ : qa_T) (r : (Int32 × qa_T)), qa_fX10_takeOut_55 a1 n x2 x3 σ = some r → qa_Bk (qa_ds L) qa_mX10_takeOut 55 [(0, .inl (10, 21)), (1, .inr (.int a1)), (2, .inr (.int x2)), (3, .inr (.int x3))] [] σ (.inl (some (.inr (.int r.1)))) r.2 := by
  intro n
  induction n with
  | zero => intro x2 x3 σ r h; cases h
  | succ n ih =>
    intro x2 x3 σ r h
    unfold qa_fX10_takeOut_55 at h
    try dsimp only at h
    refine qa_bk_do (pc' := 56) rfl rfl ?_
    refine qa_bk_do (pc' := 57) rfl rfl ?_
    refine qa_bk_gr rfl rfl qa_dx_10_21 rfl ?_
    refine qa_bk_do (pc' := 62) rfl rfl ?_
    refine qa_bk_ia rfl qa_dx_10_22 (Or.inl rfl) rfl ?_
    rcases qa_ite h with ⟨hc8, h⟩ | ⟨hc8, h⟩
    · refine qa_bk_1t (a := 92) (b := 66) hc8 rfl rfl ?_
      refine qa_bk_do (pc' := 93) rfl rfl ?_
      refine qa_bk_gr rfl rfl qa_dx_10_21 rfl ?_
      refine qa_bk_do (pc' := 98) rfl rfl ?_
      refine qa_bk_do (pc' := 99) rfl rfl ?_
      refine qa_bk_gr rfl rfl qa_dx_10_21 rfl ?_
      refine qa_bk_do (pc' := 104) rfl rfl ?_
      refine qa_bk_ia rfl qa_dx_10_22 (Or.inl rfl) rfl ?_
      refine qa_bk_do (pc' := 106) rfl rfl ?_
      refine qa_bk_do (pc' := 107) rfl rfl ?_
      rcases qa_ite h with ⟨_, h⟩ | ⟨hc9, h⟩
      · cases h
      refine qa_bk_is rfl qa_dx_10_22 (Decidable.of_not_not hc9) ?_
      refine qa_bk_do (pc' := 109) rfl rfl ?_
      refine qa_bk_gr rfl rfl qa_dx_10_21 rfl ?_
      refine qa_bk_do (pc' := 115) rfl rfl ?_
      refine qa_bk_do (pc' := 116) rfl rfl ?_
      refine qa_bk_ia rfl qa_dx_10_22 (Or.inl rfl) rfl ?_
      refine qa_bk_do (pc' := 118) rfl rfl ?_
      refine qa_bk_gr rfl rfl qa_dx_10_21 rfl ?_
      refine qa_bk_do (pc' := 124) rfl rfl ?_
      refine qa_bk_ia rfl qa_dx_10_22 (Or.inl rfl) rfl ?_
      refine qa_bk_do (pc' := 126) rfl rfl ?_
      rcases qa_ite h with ⟨hc11, h⟩ | ⟨hc11, h⟩
      · refine qa_bk_1t (a := 145) (b := 129) hc11 rfl rfl ?_
        exact qa_bk_lw (qa_tX10_takeOut_145  h) rfl rfl (And.intro rfl (And.intro rfl (And.intro rfl (trivial))))
      · refine qa_bk_1f (a := 145) (b := 129) hc11 rfl rfl ?_
        refine qa_bk_do (pc' := 130) rfl rfl ?_
        refine qa_bk_do (pc' := 131) rfl rfl ?_
        refine qa_bk_gr rfl rfl qa_dx_10_21 rfl ?_
        refine qa_bk_do (pc' := 137) rfl rfl ?_
        refine qa_bk_ia rfl qa_dx_10_22 (Or.inl rfl) rfl ?_
        rcases qa_ite h with ⟨hc16, h⟩ | ⟨hc16, h⟩
        · refine qa_bk_1t (a := 145) (b := 141) hc16 rfl rfl ?_
          exact qa_bk_lw (qa_tX10_takeOut_145  h) rfl rfl (And.intro rfl (And.intro rfl (And.intro rfl (trivial))))
        · refine qa_bk_1f (a := 145) (b := 141) hc16 rfl rfl ?_
          refine qa_bk_do (pc' := 142) rfl rfl ?_
          refine qa_bk_do (pc' := 146) rfl rfl ?_
          exact qa_bk_lw (qa_tX10_takeOut_146  h) rfl rfl (And.intro rfl (And.intro rfl (And.intro rfl (trivial))))
    · refine qa_bk_1f (a := 92) (b := 66) hc8 rfl rfl ?_
      refine qa_bk_do (pc' := 67) rfl rfl ?_
      refine qa_bk_gr rfl rfl qa_dx_10_21 rfl ?_
      refine qa_bk_do (pc' := 72) rfl rfl ?_
      refine qa_bk_do (pc' := 73) rfl rfl ?_
      refine qa_bk_do (pc' := 74) rfl rfl ?_
      refine qa_bk_do (pc' := 75) rfl rfl ?_
      refine qa_bk_gr rfl rfl qa_dx_10_21 rfl ?_
      refine qa_bk_do (pc' := 80) rfl rfl ?_
      refine qa_bk_do (pc' := 81) rfl rfl ?_
      refine qa_bk_do (pc' := 82) rfl rfl ?_
      refine qa_bk_do (pc' := 83) rfl rfl ?_
      refine qa_bk_do (pc' := 84) rfl rfl ?_
      rcases qa_ite h with ⟨_, h⟩ | ⟨hc17, h⟩
      · cases h
      refine qa_bk_ia rfl qa_dx_10_22 (Or.inl rfl) (Decidable.of_not_not hc17) ?_
      rcases qa_ite h with ⟨_, h⟩ | ⟨hc18, h⟩
      · cases h
      refine qa_bk_is rfl qa_dx_10_22 (Decidable.of_not_not hc18) ?_
      refine qa_bk_do (pc' := 89) (lv' := [(3, _), (0, _), (1, _), (2, _)]) rfl rfl ?_
      refine qa_bk_do (pc' := 55) rfl rfl ?_
      exact qa_bk_lw (ih _ _ _ _ h) rfl rfl (And.intro rfl (And.intro rfl (And.intro rfl (And.intro rfl (trivial)))))
set_option maxRecDepth 100000 in
theorem qa_tX10_takeOut {L : Nat} {a1 : Int32}  {σ : qa_T} {r : (Int32 × qa_T)} (h : qa_fX10_takeOut a1 σ = some r) : qa_Bk (qa_ds L) qa_mX10_takeOut 0 (qa_ag 0 [.inl (10, 21), .inr (.int a1)]) [] σ (.inl (some (.inr (.int r.1)))) r.2 := by
  unfold qa_fX10_takeOut at h
  try dsimp only at h
  show qa_Bk (qa_ds L) qa_mX10_takeOut 0 [(0, .inl (10, 21)), (1, .inr (.int a1))] [] σ _ _
  refine qa_bk_do (pc' := 1) rfl rfl ?_
  refine qa_bk_do (pc' := 2) rfl rfl ?_
  refine qa_bk_pf rfl rfl qa_dx_10_21 rfl (qa_fiti _) rfl ?_
  refine qa_bk_do (pc' := 6) rfl rfl ?_
  refine qa_bk_do (pc' := 7) rfl rfl ?_
  refine qa_bk_do (pc' := 8) rfl rfl ?_
  refine qa_bk_gr rfl rfl qa_dx_10_21 rfl ?_
  refine qa_bk_do (pc' := 13) rfl rfl ?_
  refine qa_bk_ia rfl qa_dx_10_22 (Or.inl rfl) rfl ?_
  refine qa_bk_do (pc' := 15) rfl rfl ?_
  refine qa_bk_do (pc' := 16) rfl rfl ?_
  refine qa_bk_cs (qa_tX10_in rfl) rfl rfl rfl rfl rfl rfl rfl ?_
  rcases qa_ite h with ⟨hc2, h⟩ | ⟨hc2, h⟩
  · refine qa_bk_1t (a := 28) (b := 22) hc2 rfl rfl ?_
    refine qa_bk_do (pc' := 29) rfl rfl ?_
    obtain ⟨c3, hc4, h⟩ := Option.bind_eq_some_iff.mp h
    refine qa_bk_cv (qa_tX10_save hc4) rfl rfl rfl rfl rfl rfl rfl qa_dx_10_21 ?_
    refine qa_bk_do (pc' := 33) rfl rfl ?_
    refine qa_bk_gr rfl rfl qa_dx_10_21 rfl ?_
    refine qa_bk_do (pc' := 38) rfl rfl ?_
    refine qa_bk_do (pc' := 39) rfl rfl ?_
    refine qa_bk_do (pc' := 40) rfl rfl ?_
    rcases qa_ite h with ⟨_, h⟩ | ⟨hc5, h⟩
    · cases h
    refine qa_bk_ia rfl qa_dx_10_22 (Or.inl rfl) (Decidable.of_not_not hc5) ?_
    refine qa_bk_do (pc' := 42) (lv' := [(2, _), (0, _), (1, _)]) rfl rfl ?_
    refine qa_bk_do (pc' := 43) rfl rfl ?_
    refine qa_bk_gr rfl rfl qa_dx_10_21 rfl ?_
    refine qa_bk_do (pc' := 48) rfl rfl ?_
    refine qa_bk_do (pc' := 49) rfl rfl ?_
    refine qa_bk_ia rfl qa_dx_10_22 (Or.inl rfl) rfl ?_
    refine qa_bk_do (pc' := 51) rfl rfl ?_
    refine qa_bk_do (pc' := 52) rfl rfl ?_
    refine qa_bk_is rfl qa_dx_10_22 rfl ?_
    refine qa_bk_do (pc' := 54) rfl rfl ?_
    refine qa_bk_do (pc' := 55) (lv' := [(3, _), (2, _), (0, _), (1, _)]) rfl rfl ?_
    exact qa_bk_lw (qa_tX10_takeOut_55  _ _ _ _ _ h) rfl rfl (And.intro rfl (And.intro rfl (And.intro rfl (And.intro rfl (trivial)))))
  · refine qa_bk_1f (a := 28) (b := 22) hc2 rfl rfl ?_
    refine qa_bk_do (pc' := 23) rfl rfl ?_
    refine qa_bk_do (pc' := 24) rfl rfl ?_
    refine qa_bk_cv (qa_tX10_throwing rfl) rfl rfl rfl rfl rfl rfl rfl qa_dx_10_21 ?_
    cases h
    exact qa_bk_ri rfl rfl
noncomputable def qa_fX10_goOn_13  (y0 : Int32) (σ : qa_T) : Option (Bool × qa_T) :=
    let σ2 := qa_wi σ (10, 21) 9 y0
    if (σ2.1 (10, 21) 9) ≤ 0 then
      (qa_fX10_save σ2).bind fun c4 =>
      (qa_fX10_goesOn c4).bind fun c6 =>
      let v8 : Int32 := (qa_bi c6.1)
      (qa_fX10_begins c6.2).bind fun c9 =>
      some (c6.1, c9)
    else
      some (false, σ2)
noncomputable def qa_fX10_goOn  (σ : qa_T) : Option (Bool × qa_T) :=
    if (qa_bi (qa_fX10_canGoOn σ)) = 0 then
      qa_fX10_goOn_13  (Int32.ofInt 1) σ
    else
      qa_fX10_goOn_13  (Int32.ofInt 0) σ
set_option maxRecDepth 100000 in
theorem qa_tX10_goOn_13 {L : Nat}   {y0 : Int32} {σ : qa_T} {r : (Bool × qa_T)} (h : qa_fX10_goOn_13  y0 σ = some r) : qa_Bk (qa_ds L) qa_mX10_goOn 13 [(0, .inl (10, 21))] [.inr (.int y0), .inl (10, 21)] σ (.inl (some (.inr (.int (qa_bi r.1))))) r.2 := by
  unfold qa_fX10_goOn_13 at h
  try dsimp only at h
  refine qa_bk_pf rfl rfl qa_dx_10_21 rfl (qa_fiti _) rfl ?_
  refine qa_bk_do (pc' := 17) rfl rfl ?_
  refine qa_bk_gi rfl rfl qa_dx_10_21 rfl ?_
  rcases qa_ite h with ⟨hc3, h⟩ | ⟨hc3, h⟩
  · refine qa_bk_1t (a := 25) (b := 23) hc3 rfl rfl ?_
    refine qa_bk_do (pc' := 26) rfl rfl ?_
    obtain ⟨c4, hc5, h⟩ := Option.bind_eq_some_iff.mp h
    refine qa_bk_cv (qa_tX10_save hc5) rfl rfl rfl rfl rfl rfl rfl qa_dx_10_21 ?_
    refine qa_bk_do (pc' := 30) rfl rfl ?_
    obtain ⟨c6, hc7, h⟩ := Option.bind_eq_some_iff.mp h
    refine qa_bk_cv (qa_tX10_goesOn hc7) rfl rfl rfl rfl rfl rfl rfl qa_dx_10_21 ?_
    refine qa_bk_do (pc' := 34) (lv' := [(1, _), (0, _)]) rfl rfl ?_
    refine qa_bk_do (pc' := 35) rfl rfl ?_
    obtain ⟨c9, hc10, h⟩ := Option.bind_eq_some_iff.mp h
    refine qa_bk_cv (qa_tX10_begins hc10) rfl rfl rfl rfl rfl rfl rfl qa_dx_10_21 ?_
    refine qa_bk_do (pc' := 39) rfl rfl ?_
    cases h
    exact qa_bk_rb rfl rfl rfl
  · refine qa_bk_1f (a := 25) (b := 23) hc3 rfl rfl ?_
    refine qa_bk_do (pc' := 24) rfl rfl ?_
    cases h
    exact qa_bk_rb rfl rfl rfl
set_option maxRecDepth 100000 in
theorem qa_tX10_goOn {L : Nat}   {σ : qa_T} {r : (Bool × qa_T)} (h : qa_fX10_goOn  σ = some r) : qa_Bk (qa_ds L) qa_mX10_goOn 0 (qa_ag 0 [.inl (10, 21)]) [] σ (.inl (some (.inr (.int (qa_bi r.1))))) r.2 := by
  unfold qa_fX10_goOn at h
  try dsimp only at h
  show qa_Bk (qa_ds L) qa_mX10_goOn 0 [(0, .inl (10, 21))] [] σ _ _
  refine qa_bk_do (pc' := 1) rfl rfl ?_
  refine qa_bk_do (pc' := 2) rfl rfl ?_
  refine qa_bk_cv (qa_tX10_canGoOn rfl) rfl rfl rfl rfl rfl rfl rfl qa_dx_10_21 ?_
  rcases qa_ite h with ⟨hc1, h⟩ | ⟨hc1, h⟩
  · refine qa_bk_1t (a := 12) (b := 8) hc1 rfl rfl ?_
    refine qa_bk_do (pc' := 13) rfl rfl ?_
    exact qa_bk_lw (qa_tX10_goOn_13  h) rfl rfl (And.intro rfl (trivial))
  · refine qa_bk_1f (a := 12) (b := 8) hc1 rfl rfl ?_
    refine qa_bk_do (pc' := 9) rfl rfl ?_
    refine qa_bk_do (pc' := 13) rfl rfl ?_
    exact qa_bk_lw (qa_tX10_goOn_13  h) rfl rfl (And.intro rfl (trivial))
noncomputable def qa_fX10_ask (a1 : Int32) (σ : qa_T) : Option (Int32 × qa_T) :=
    let c1 := qa_fX10_isThere a1 σ
    if ¬ (qa_bi c1.1) = 0 then
      (qa_fX10_canAsk a1 c1.2).bind fun c3 =>
      if ¬ (qa_bi c3) = 0 then
        (qa_fX10_save c1.2).bind fun c6 =>
        (qa_fX10_asks a1 c6).bind fun c8 =>
        some (c8.1, c8.2)
      else
        let c10 := qa_fX10_throwing (Int32.ofInt 2) c1.2
        some (c10.1, c10.2)
    else
      some ((Int32.ofInt 0), c1.2)
set_option maxRecDepth 100000 in
theorem qa_tX10_ask {L : Nat} {a1 : Int32}  {σ : qa_T} {r : (Int32 × qa_T)} (h : qa_fX10_ask a1 σ = some r) : qa_Bk (qa_ds L) qa_mX10_ask 0 (qa_ag 0 [.inl (10, 21), .inr (.int a1)]) [] σ (.inl (some (.inr (.int r.1)))) r.2 := by
  unfold qa_fX10_ask at h
  try dsimp only at h
  show qa_Bk (qa_ds L) qa_mX10_ask 0 [(0, .inl (10, 21)), (1, .inr (.int a1))] [] σ _ _
  refine qa_bk_do (pc' := 1) rfl rfl ?_
  refine qa_bk_do (pc' := 2) rfl rfl ?_
  refine qa_bk_cv (qa_tX10_isThere rfl) rfl rfl rfl rfl rfl rfl rfl qa_dx_10_21 ?_
  rcases qa_ite h with ⟨hc2, h⟩ | ⟨hc2, h⟩
  · refine qa_bk_1t (a := 10) (b := 8) hc2 rfl rfl ?_
    refine qa_bk_do (pc' := 11) rfl rfl ?_
    refine qa_bk_do (pc' := 12) rfl rfl ?_
    obtain ⟨c3, hc4, h⟩ := Option.bind_eq_some_iff.mp h
    refine qa_bk_cv (qa_tX10_canAsk hc4) rfl rfl rfl rfl rfl rfl rfl qa_dx_10_21 ?_
    rcases qa_ite h with ⟨hc5, h⟩ | ⟨hc5, h⟩
    · refine qa_bk_1t (a := 24) (b := 18) hc5 rfl rfl ?_
      refine qa_bk_do (pc' := 25) rfl rfl ?_
      obtain ⟨c6, hc7, h⟩ := Option.bind_eq_some_iff.mp h
      refine qa_bk_cv (qa_tX10_save hc7) rfl rfl rfl rfl rfl rfl rfl qa_dx_10_21 ?_
      refine qa_bk_do (pc' := 29) rfl rfl ?_
      refine qa_bk_do (pc' := 30) rfl rfl ?_
      obtain ⟨c8, hc9, h⟩ := Option.bind_eq_some_iff.mp h
      refine qa_bk_cv (qa_tX10_asks hc9) rfl rfl rfl rfl rfl rfl rfl qa_dx_10_21 ?_
      cases h
      exact qa_bk_ri rfl rfl
    · refine qa_bk_1f (a := 24) (b := 18) hc5 rfl rfl ?_
      refine qa_bk_do (pc' := 19) rfl rfl ?_
      refine qa_bk_do (pc' := 20) rfl rfl ?_
      refine qa_bk_cv (qa_tX10_throwing rfl) rfl rfl rfl rfl rfl rfl rfl qa_dx_10_21 ?_
      cases h
      exact qa_bk_ri rfl rfl
  · refine qa_bk_1f (a := 10) (b := 8) hc2 rfl rfl ?_
    refine qa_bk_do (pc' := 9) rfl rfl ?_
    cases h
    exact qa_bk_ri rfl rfl
noncomputable def qa_fX10_burn (a1 : Int32) (σ : qa_T) : Option (Int32 × qa_T) :=
    let c1 := qa_fX10_isThere a1 σ
    if ¬ (qa_bi c1.1) = 0 then
      (qa_fX10_canBurn a1 c1.2).bind fun c3 =>
      if ¬ (qa_bi c3) = 0 then
        (qa_fX10_save c1.2).bind fun c6 =>
        (qa_fX10_burns a1 c6).bind fun c8 =>
        (qa_fX10_begins c8.2).bind fun c10 =>
        some (c8.1, c10)
      else
        let c12 := qa_fX10_throwing (Int32.ofInt 2) c1.2
        some (c12.1, c12.2)
    else
      some ((Int32.ofInt 0), c1.2)
set_option maxRecDepth 100000 in
theorem qa_tX10_burn {L : Nat} {a1 : Int32}  {σ : qa_T} {r : (Int32 × qa_T)} (h : qa_fX10_burn a1 σ = some r) : qa_Bk (qa_ds L) qa_mX10_burn 0 (qa_ag 0 [.inl (10, 21), .inr (.int a1)]) [] σ (.inl (some (.inr (.int r.1)))) r.2 := by
  unfold qa_fX10_burn at h
  try dsimp only at h
  show qa_Bk (qa_ds L) qa_mX10_burn 0 [(0, .inl (10, 21)), (1, .inr (.int a1))] [] σ _ _
  refine qa_bk_do (pc' := 1) rfl rfl ?_
  refine qa_bk_do (pc' := 2) rfl rfl ?_
  refine qa_bk_cv (qa_tX10_isThere rfl) rfl rfl rfl rfl rfl rfl rfl qa_dx_10_21 ?_
  rcases qa_ite h with ⟨hc2, h⟩ | ⟨hc2, h⟩
  · refine qa_bk_1t (a := 10) (b := 8) hc2 rfl rfl ?_
    refine qa_bk_do (pc' := 11) rfl rfl ?_
    refine qa_bk_do (pc' := 12) rfl rfl ?_
    obtain ⟨c3, hc4, h⟩ := Option.bind_eq_some_iff.mp h
    refine qa_bk_cv (qa_tX10_canBurn hc4) rfl rfl rfl rfl rfl rfl rfl qa_dx_10_21 ?_
    rcases qa_ite h with ⟨hc5, h⟩ | ⟨hc5, h⟩
    · refine qa_bk_1t (a := 24) (b := 18) hc5 rfl rfl ?_
      refine qa_bk_do (pc' := 25) rfl rfl ?_
      obtain ⟨c6, hc7, h⟩ := Option.bind_eq_some_iff.mp h
      refine qa_bk_cv (qa_tX10_save hc7) rfl rfl rfl rfl rfl rfl rfl qa_dx_10_21 ?_
      refine qa_bk_do (pc' := 29) rfl rfl ?_
      refine qa_bk_do (pc' := 30) rfl rfl ?_
      obtain ⟨c8, hc9, h⟩ := Option.bind_eq_some_iff.mp h
      refine qa_bk_cv (qa_tX10_burns hc9) rfl rfl rfl rfl rfl rfl rfl qa_dx_10_21 ?_
      refine qa_bk_do (pc' := 34) (lv' := [(2, _), (0, _), (1, _)]) rfl rfl ?_
      refine qa_bk_do (pc' := 35) rfl rfl ?_
      obtain ⟨c10, hc11, h⟩ := Option.bind_eq_some_iff.mp h
      refine qa_bk_cv (qa_tX10_begins hc11) rfl rfl rfl rfl rfl rfl rfl qa_dx_10_21 ?_
      refine qa_bk_do (pc' := 39) rfl rfl ?_
      cases h
      exact qa_bk_ri rfl rfl
    · refine qa_bk_1f (a := 24) (b := 18) hc5 rfl rfl ?_
      refine qa_bk_do (pc' := 19) rfl rfl ?_
      refine qa_bk_do (pc' := 20) rfl rfl ?_
      refine qa_bk_cv (qa_tX10_throwing rfl) rfl rfl rfl rfl rfl rfl rfl qa_dx_10_21 ?_
      cases h
      exact qa_bk_ri rfl rfl
  · refine qa_bk_1f (a := 10) (b := 8) hc2 rfl rfl ?_
    refine qa_bk_do (pc' := 9) rfl rfl ?_
    cases h
    exact qa_bk_ri rfl rfl
noncomputable def qa_fX10_tick (a1 : Int32) (σ : qa_T) : Option (Int32 × qa_T) :=
    let σ1 := qa_wi σ (10, 21) 9 (Int32.ofInt 0)
    if ¬ (qa_bi (qa_fX10_in a1 (Int32.ofInt 1) ((Int8.ofInt 100).toInt32) σ1)) = 0 then
      (qa_fX10_save σ1).bind fun c3 =>
      (qa_fX10_passes a1 c3).bind fun c5 =>
      some (c5.1, c5.2)
    else
      let c7 := qa_fX10_throwing (Int32.ofInt 1) σ1
      some (c7.1, c7.2)
set_option maxRecDepth 100000 in
theorem qa_tX10_tick {L : Nat} {a1 : Int32}  {σ : qa_T} {r : (Int32 × qa_T)} (h : qa_fX10_tick a1 σ = some r) : qa_Bk (qa_ds L) qa_mX10_tick 0 (qa_ag 0 [.inl (10, 21), .inr (.int a1)]) [] σ (.inl (some (.inr (.int r.1)))) r.2 := by
  unfold qa_fX10_tick at h
  try dsimp only at h
  show qa_Bk (qa_ds L) qa_mX10_tick 0 [(0, .inl (10, 21)), (1, .inr (.int a1))] [] σ _ _
  refine qa_bk_do (pc' := 1) rfl rfl ?_
  refine qa_bk_do (pc' := 2) rfl rfl ?_
  refine qa_bk_pf rfl rfl qa_dx_10_21 rfl (qa_fiti _) rfl ?_
  refine qa_bk_do (pc' := 6) rfl rfl ?_
  refine qa_bk_do (pc' := 7) rfl rfl ?_
  refine qa_bk_do (pc' := 9) rfl rfl ?_
  refine qa_bk_cs (qa_tX10_in rfl) rfl rfl rfl rfl rfl rfl rfl ?_
  rcases qa_ite h with ⟨hc2, h⟩ | ⟨hc2, h⟩
  · refine qa_bk_1t (a := 21) (b := 15) hc2 rfl rfl ?_
    refine qa_bk_do (pc' := 22) rfl rfl ?_
    obtain ⟨c3, hc4, h⟩ := Option.bind_eq_some_iff.mp h
    refine qa_bk_cv (qa_tX10_save hc4) rfl rfl rfl rfl rfl rfl rfl qa_dx_10_21 ?_
    refine qa_bk_do (pc' := 26) rfl rfl ?_
    refine qa_bk_do (pc' := 27) rfl rfl ?_
    obtain ⟨c5, hc6, h⟩ := Option.bind_eq_some_iff.mp h
    refine qa_bk_cv (qa_tX10_passes hc6) rfl rfl rfl rfl rfl rfl rfl qa_dx_10_21 ?_
    cases h
    exact qa_bk_ri rfl rfl
  · refine qa_bk_1f (a := 21) (b := 15) hc2 rfl rfl ?_
    refine qa_bk_do (pc' := 16) rfl rfl ?_
    refine qa_bk_do (pc' := 17) rfl rfl ?_
    refine qa_bk_cv (qa_tX10_throwing rfl) rfl rfl rfl rfl rfl rfl rfl qa_dx_10_21 ?_
    cases h
    exact qa_bk_ri rfl rfl
noncomputable def qa_fX10_changes (a1 : Int32) (a2 : Int32) (a3 : Int32) (a4 : Int32) (σ : qa_T) : Option (Int32 × qa_T) :=
    let σ1 := qa_wi σ (10, 21) 9 (Int32.ofInt 0)
    if ¬ (qa_bi (qa_fX10_in a2 a3 a4 σ1)) = 0 then
      (qa_fX10_save σ1).bind fun c3 =>
      if ¬ qa_in a1 176 = true then none else
      let v6 : Int32 := (c3.1 (10, 22) (a1).toNatClampNeg)
      if ¬ qa_in a1 176 = true then none else
      let σ8 := qa_wi c3 (10, 22) (a1).toNatClampNeg a2
      (qa_fX10_makesRoom (Int32.ofInt 0) σ8).bind fun c9 =>
      (qa_fX10_begins c9.2).bind fun c11 =>
      some (v6, c11)
    else
      let c13 := qa_fX10_throwing (Int32.ofInt 1) σ1
      some (c13.1, c13.2)
set_option maxRecDepth 100000 in
theorem qa_tX10_changes {L : Nat} {a1 : Int32} {a2 : Int32} {a3 : Int32} {a4 : Int32}  {σ : qa_T} {r : (Int32 × qa_T)} (h : qa_fX10_changes a1 a2 a3 a4 σ = some r) : qa_Bk (qa_ds L) qa_mX10_changes 0 (qa_ag 0 [.inl (10, 21), .inr (.int a1), .inr (.int a2), .inr (.int a3), .inr (.int a4)]) [] σ (.inl (some (.inr (.int r.1)))) r.2 := by
  unfold qa_fX10_changes at h
  try dsimp only at h
  show qa_Bk (qa_ds L) qa_mX10_changes 0 [(0, .inl (10, 21)), (1, .inr (.int a1)), (2, .inr (.int a2)), (3, .inr (.int a3)), (4, .inr (.int a4))] [] σ _ _
  refine qa_bk_do (pc' := 1) rfl rfl ?_
  refine qa_bk_do (pc' := 2) rfl rfl ?_
  refine qa_bk_pf rfl rfl qa_dx_10_21 rfl (qa_fiti _) rfl ?_
  refine qa_bk_do (pc' := 6) rfl rfl ?_
  refine qa_bk_do (pc' := 7) rfl rfl ?_
  refine qa_bk_do (pc' := 9) rfl rfl ?_
  refine qa_bk_cs (qa_tX10_in rfl) rfl rfl rfl rfl rfl rfl rfl ?_
  rcases qa_ite h with ⟨hc2, h⟩ | ⟨hc2, h⟩
  · refine qa_bk_1t (a := 21) (b := 15) hc2 rfl rfl ?_
    refine qa_bk_do (pc' := 22) rfl rfl ?_
    obtain ⟨c3, hc4, h⟩ := Option.bind_eq_some_iff.mp h
    refine qa_bk_cv (qa_tX10_save hc4) rfl rfl rfl rfl rfl rfl rfl qa_dx_10_21 ?_
    refine qa_bk_do (pc' := 26) rfl rfl ?_
    refine qa_bk_gr rfl rfl qa_dx_10_21 rfl ?_
    refine qa_bk_do (pc' := 30) rfl rfl ?_
    rcases qa_ite h with ⟨_, h⟩ | ⟨hc5, h⟩
    · cases h
    refine qa_bk_ia rfl qa_dx_10_22 (Or.inl rfl) (Decidable.of_not_not hc5) ?_
    refine qa_bk_do (pc' := 33) (lv' := [(5, _), (0, _), (1, _), (2, _), (3, _), (4, _)]) rfl rfl ?_
    refine qa_bk_do (pc' := 34) rfl rfl ?_
    refine qa_bk_gr rfl rfl qa_dx_10_21 rfl ?_
    refine qa_bk_do (pc' := 38) rfl rfl ?_
    refine qa_bk_do (pc' := 39) rfl rfl ?_
    rcases qa_ite h with ⟨_, h⟩ | ⟨hc7, h⟩
    · cases h
    refine qa_bk_is rfl qa_dx_10_22 (Decidable.of_not_not hc7) ?_
    refine qa_bk_do (pc' := 41) rfl rfl ?_
    refine qa_bk_do (pc' := 42) rfl rfl ?_
    obtain ⟨c9, hc10, h⟩ := Option.bind_eq_some_iff.mp h
    refine qa_bk_cv (qa_tX10_makesRoom hc10) rfl rfl rfl rfl rfl rfl rfl qa_dx_10_21 ?_
    refine qa_bk_do (pc' := 47) (lv' := [(6, _), (5, _), (0, _), (1, _), (2, _), (3, _), (4, _)]) rfl rfl ?_
    refine qa_bk_do (pc' := 48) rfl rfl ?_
    obtain ⟨c11, hc12, h⟩ := Option.bind_eq_some_iff.mp h
    refine qa_bk_cv (qa_tX10_begins hc12) rfl rfl rfl rfl rfl rfl rfl qa_dx_10_21 ?_
    refine qa_bk_do (pc' := 53) rfl rfl ?_
    cases h
    exact qa_bk_ri rfl rfl
  · refine qa_bk_1f (a := 21) (b := 15) hc2 rfl rfl ?_
    refine qa_bk_do (pc' := 16) rfl rfl ?_
    refine qa_bk_do (pc' := 17) rfl rfl ?_
    refine qa_bk_cv (qa_tX10_throwing rfl) rfl rfl rfl rfl rfl rfl rfl qa_dx_10_21 ?_
    cases h
    exact qa_bk_ri rfl rfl
