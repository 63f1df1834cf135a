/-! the methods as functions (written by wip/tools/gen.py) -/
noncomputable def qa_fX10_goesOn_99  (x2 : Int32) (σ : qa_T) : Option (Bool × qa_T) :=
    if x2 = 0 then some (false, σ) else if x2 = 1 then some (true, σ) else none
noncomputable def qa_fX10_goesOn  (σ : qa_T) : Option (Bool × qa_T) :=
    if (σ.1 (10, 22) (((Int8.ofInt 113).toInt32)).toNatClampNeg) = 0 then none else
    let σ2 := qa_wi σ (10, 22) (((Int16.ofInt 138).toInt32)).toNatClampNeg (((σ.1 (10, 22) (((Int16.ofInt 138).toInt32)).toNatClampNeg) + (Int32.ofInt 1)) - ((σ.1 (10, 22) (((Int16.ofInt 138).toInt32)).toNatClampNeg) + (Int32.ofInt 1)) / (σ.1 (10, 22) (((Int8.ofInt 113).toInt32)).toNatClampNeg) * (σ.1 (10, 22) (((Int8.ofInt 113).toInt32)).toNatClampNeg))
    if ¬ qa_in (((Int8.ofInt 114).toInt32) + (σ2.1 (10, 22) (((Int16.ofInt 138).toInt32)).toNatClampNeg)) 176 = true then none else
    let v4 : Int32 := (σ2.1 (10, 22) ((((Int8.ofInt 114).toInt32) + (σ2.1 (10, 22) (((Int16.ofInt 138).toInt32)).toNatClampNeg))).toNatClampNeg)
    (qa_fX10_loaded v4 σ2).bind fun c5 =>
    let v7 : Int32 := (qa_bi c5)
    if v7 = 0 then
      let σ9 := qa_wi σ2 (10, 22) (((Int16.ofInt 170).toInt32)).toNatClampNeg ((σ2.1 (10, 22) (((Int16.ofInt 170).toInt32)).toNatClampNeg) + (Int32.ofInt 1))
      let σ10 := qa_wi σ9 (10, 22) (((Int16.ofInt 142).toInt32)).toNatClampNeg v4
      (qa_fX10_forgets v4 σ10).bind fun c11 =>
      qa_fX10_goesOn_99  v7 c11
    else
      let σ14 := qa_wi σ2 (10, 22) (((Int16.ofInt 169).toInt32)).toNatClampNeg ((σ2.1 (10, 22) (((Int16.ofInt 169).toInt32)).toNatClampNeg) + (Int32.ofInt 1))
      (qa_fX10_shows v4 σ14).bind fun c15 =>
      qa_fX10_goesOn_99  v7 c15
set_option maxRecDepth 100000 in
theorem qa_tX10_goesOn_99 {L : Nat}   {x2 : Int32} {σ : qa_T} {r : (Bool × qa_T)} (h : qa_fX10_goesOn_99  x2 σ = some r) : qa_Bk (qa_ds L) qa_mX10_goesOn 99 [(0, .inl (10, 21)), (2, .inr (.int x2))] [] σ (.inl (some (.inr (.int (qa_bi r.1))))) r.2 := by
  unfold qa_fX10_goesOn_99 at h
  try dsimp only at h
  refine qa_bk_do (pc' := 100) rfl rfl ?_
  rcases qa_ite h with ⟨hc13, h⟩ | ⟨_, h⟩
  · cases h
    exact qa_bk_rb (b := false) hc13 rfl rfl
  · rcases qa_ite h with ⟨hc13, h⟩ | ⟨_, h⟩
    · cases h
      exact qa_bk_rb (b := true) hc13 rfl rfl
    · cases h
set_option maxRecDepth 100000 in
theorem qa_tX10_goesOn {L : Nat}   {σ : qa_T} {r : (Bool × qa_T)} (h : qa_fX10_goesOn  σ = some r) : qa_Bk (qa_ds L) qa_mX10_goesOn 0 (qa_ag 0 [.inl (10, 21)]) [] σ (.inl (some (.inr (.int (qa_bi r.1))))) r.2 := by
  unfold qa_fX10_goesOn at h
  try dsimp only at h
  show qa_Bk (qa_ds L) qa_mX10_goesOn 0 [(0, .inl (10, 21))] [] σ _ _
  refine qa_bk_do (pc' := 1) rfl rfl ?_
  refine qa_bk_gr rfl rfl qa_dx_10_21 rfl ?_
  refine qa_bk_do (pc' := 7) rfl rfl ?_
  refine qa_bk_do (pc' := 8) rfl rfl ?_
  refine qa_bk_gr rfl rfl qa_dx_10_21 rfl ?_
  refine qa_bk_do (pc' := 14) rfl rfl ?_
  refine qa_bk_ia rfl qa_dx_10_22 (Or.inl rfl) rfl ?_
  refine qa_bk_do (pc' := 16) rfl rfl ?_
  refine qa_bk_do (pc' := 17) rfl rfl ?_
  refine qa_bk_do (pc' := 18) rfl rfl ?_
  refine qa_bk_gr rfl rfl qa_dx_10_21 rfl ?_
  refine qa_bk_do (pc' := 23) rfl rfl ?_
  refine qa_bk_ia rfl qa_dx_10_22 (Or.inl rfl) rfl ?_
  rcases qa_ite h with ⟨_, h⟩ | ⟨hc1, h⟩
  · cases h
  refine qa_bk_rm hc1 rfl ?_
  refine qa_bk_is rfl qa_dx_10_22 rfl ?_
  refine qa_bk_do (pc' := 27) rfl rfl ?_
  refine qa_bk_gr rfl rfl qa_dx_10_21 rfl ?_
  refine qa_bk_do (pc' := 32) rfl rfl ?_
  refine qa_bk_do (pc' := 33) rfl rfl ?_
  refine qa_bk_gr rfl rfl qa_dx_10_21 rfl ?_
  refine qa_bk_do (pc' := 39) rfl rfl ?_
  refine qa_bk_ia rfl qa_dx_10_22 (Or.inl rfl) rfl ?_
  refine qa_bk_do (pc' := 41) rfl rfl ?_
  rcases qa_ite h with ⟨_, h⟩ | ⟨hc3, h⟩
  · cases h
  refine qa_bk_ia rfl qa_dx_10_22 (Or.inl rfl) (Decidable.of_not_not hc3) ?_
  refine qa_bk_do (pc' := 43) (lv' := [(1, _), (0, _)]) rfl rfl ?_
  refine qa_bk_do (pc' := 44) rfl rfl ?_
  refine qa_bk_do (pc' := 45) rfl rfl ?_
  obtain ⟨c5, hc6, h⟩ := Option.bind_eq_some_iff.mp h
  refine qa_bk_cv (qa_tX10_loaded hc6) rfl rfl rfl rfl rfl rfl rfl qa_dx_10_21 ?_
  refine qa_bk_do (pc' := 49) (lv' := [(2, _), (1, _), (0, _)]) rfl rfl ?_
  refine qa_bk_do (pc' := 50) rfl rfl ?_
  rcases qa_ite h with ⟨hc8, h⟩ | ⟨hc8, h⟩
  · refine qa_bk_1t (a := 73) (b := 53) hc8 rfl rfl ?_
    refine qa_bk_do (pc' := 74) rfl rfl ?_
    refine qa_bk_gr rfl rfl qa_dx_10_21 rfl ?_
    refine qa_bk_do (pc' := 80) rfl rfl ?_
    refine qa_bk_do (pc' := 81) rfl rfl ?_
    refine qa_bk_ia rfl qa_dx_10_22 (Or.inl rfl) rfl ?_
    refine qa_bk_do (pc' := 83) rfl rfl ?_
    refine qa_bk_do (pc' := 84) rfl rfl ?_
    refine qa_bk_is rfl qa_dx_10_22 rfl ?_
    refine qa_bk_do (pc' := 86) rfl rfl ?_
    refine qa_bk_gr rfl rfl qa_dx_10_21 rfl ?_
    refine qa_bk_do (pc' := 92) rfl rfl ?_
    refine qa_bk_do (pc' := 93) rfl rfl ?_
    refine qa_bk_is rfl qa_dx_10_22 rfl ?_
    refine qa_bk_do (pc' := 95) rfl rfl ?_
    refine qa_bk_do (pc' := 96) rfl rfl ?_
    obtain ⟨c11, hc12, h⟩ := Option.bind_eq_some_iff.mp h
    refine qa_bk_cv (qa_tX10_forgets hc12) rfl rfl rfl rfl rfl rfl rfl qa_dx_10_21 ?_
    exact qa_bk_lw (qa_tX10_goesOn_99  h) rfl rfl (And.intro rfl (And.intro rfl (trivial)))
  · refine qa_bk_1f (a := 73) (b := 53) hc8 rfl rfl ?_
    refine qa_bk_do (pc' := 54) rfl rfl ?_
    refine qa_bk_gr rfl rfl qa_dx_10_21 rfl ?_
    refine qa_bk_do (pc' := 60) rfl rfl ?_
    refine qa_bk_do (pc' := 61) rfl rfl ?_
    refine qa_bk_ia rfl qa_dx_10_22 (Or.inl rfl) rfl ?_
    refine qa_bk_do (pc' := 63) rfl rfl ?_
    refine qa_bk_do (pc' := 64) rfl rfl ?_
    refine qa_bk_is rfl qa_dx_10_22 rfl ?_
    refine qa_bk_do (pc' := 66) rfl rfl ?_
    refine qa_bk_do (pc' := 67) rfl rfl ?_
    obtain ⟨c15, hc16, h⟩ := Option.bind_eq_some_iff.mp h
    refine qa_bk_cv (qa_tX10_shows hc16) rfl rfl rfl rfl rfl rfl rfl qa_dx_10_21 ?_
    refine qa_bk_do (pc' := 99) rfl rfl ?_
    exact qa_bk_lw (qa_tX10_goesOn_99  h) rfl rfl (And.intro rfl (And.intro rfl (trivial)))
noncomputable def qa_fX10_ticks_322  (σ : qa_T) : Option qa_T :=
    (qa_fX10_begins σ).bind fun c17 =>
    some c17
noncomputable def qa_fX10_ticks_253  (σ : qa_T) : Option qa_T :=
    if ¬ (σ.1 (10, 22) (((Int16.ofInt 142).toInt32)).toNatClampNeg) = (Int32.ofInt (-1)) then
      qa_fX10_ticks_322  σ
    else
      if (σ.1 (10, 22) (((Int16.ofInt 139).toInt32)).toNatClampNeg) = (Int32.ofInt (-1)) then
        qa_fX10_ticks_322  σ
      else
        if (σ.1 (10, 22) (((Int16.ofInt 167).toInt32)).toNatClampNeg) ≤ 0 then
          qa_fX10_ticks_322  σ
        else
          if (σ.1 (10, 22) (((Int16.ofInt 143).toInt32)).toNatClampNeg) < (σ.1 (10, 22) (((Int16.ofInt 167).toInt32)).toNatClampNeg) then
            qa_fX10_ticks_322  σ
          else
            if (σ.1 (10, 22) (((Int8.ofInt 113).toInt32)).toNatClampNeg) ≤ 0 then
              qa_fX10_ticks_322  σ
            else
              (qa_fX10_goesOn σ).bind fun c23 =>
              let v25 : Int32 := (qa_bi c23.1)
              qa_fX10_ticks_322  c23.2
noncomputable def qa_fX10_ticks_170  (y0 : Int32) (y1 : Int32) (σ : qa_T) : Option qa_T :=
    if ¬ qa_in y1 176 = true then none else
    let σ14 := qa_wi σ (10, 22) (y1).toNatClampNeg y0
    if (σ14.1 (10, 22) (((Int16.ofInt 144).toInt32)).toNatClampNeg) = (Int32.ofInt (-1)) then
      qa_fX10_ticks_253  σ14
    else
      let σ26 := qa_wi σ14 (10, 22) (((Int16.ofInt 145).toInt32)).toNatClampNeg ((σ14.1 (10, 22) (((Int16.ofInt 145).toInt32)).toNatClampNeg) - (Int32.ofInt 1))
      if ¬ (σ26.1 (10, 22) (((Int16.ofInt 145).toInt32)).toNatClampNeg) = 0 then
        qa_fX10_ticks_253  σ26
      else
        let v28 : Int32 := (σ26.1 (10, 22) (((Int16.ofInt 144).toInt32)).toNatClampNeg)
        let σ29 := qa_wi σ26 (10, 22) (((Int16.ofInt 144).toInt32)).toNatClampNeg (Int32.ofInt (-1))
        (qa_fX10_lay v28 (Int32.ofInt 3) (Int32.ofInt 1) σ29).bind fun c30 =>
        (qa_fX10_uses v28 c30).bind fun c32 =>
        if ¬ (c32.1 (10, 22) (((Int16.ofInt 142).toInt32)).toNatClampNeg) = v28 then
          qa_fX10_ticks_253  c32
        else
          (qa_fX10_shows v28 c32).bind fun c35 =>
          qa_fX10_ticks_253  c35
noncomputable def qa_fX10_ticks_138  (y0 : Int32) (y1 : Int32) (y2 : Int32) (σ : qa_T) : Option qa_T :=
    if ¬ qa_in y2 176 = true then none else
    let σ11 := qa_wi σ (10, 22) (y2).toNatClampNeg (y1 - y0)
    if (σ11.1 (10, 22) (((Int16.ofInt 141).toInt32)).toNatClampNeg) ≤ 0 then
      qa_fX10_ticks_170  (Int32.ofInt (-1)) ((Int16.ofInt 140).toInt32) σ11
    else
      qa_fX10_ticks_170  (σ11.1 (10, 22) (((Int16.ofInt 140).toInt32)).toNatClampNeg) ((Int16.ofInt 140).toInt32) σ11
noncomputable def qa_fX10_ticks_104  (k70 : Int32 → qa_T → Option qa_T) (x1 : Int32) (y0 : Int32) (y1 : Int32) (y2 : Int32) (σ : qa_T) : Option qa_T :=
    (qa_fX10_lay y2 y1 y0 σ).bind fun c40 =>
    let v42 : Int32 := x1 + Int32.ofInt 1
    k70 v42 c40
noncomputable def qa_fX10_ticks_70  : Nat → Int32 → qa_T → Option qa_T
  | 0, _, _ => none
  | n + 1, x1, σ =>
    if (σ.1 (10, 22) ((Int32.ofInt 0)).toNatClampNeg) ≤ x1 then
      if (σ.1 (10, 22) (((Int16.ofInt 141).toInt32)).toNatClampNeg) ≤ 0 then
        qa_fX10_ticks_138  (Int32.ofInt 0) (σ.1 (10, 22) (((Int16.ofInt 141).toInt32)).toNatClampNeg) ((Int16.ofInt 141).toInt32) σ
      else
        qa_fX10_ticks_138  (Int32.ofInt 1) (σ.1 (10, 22) (((Int16.ofInt 141).toInt32)).toNatClampNeg) ((Int16.ofInt 141).toInt32) σ
    else
      (qa_fX10_of x1 (Int32.ofInt 4) σ).bind fun c37 =>
      if c37 ≤ 0 then
        qa_fX10_ticks_104  (qa_fX10_ticks_70  n) x1 (Int32.ofInt 0) (Int32.ofInt 4) x1 σ
      else
        (qa_fX10_of x1 (Int32.ofInt 4) σ).bind fun c43 =>
        qa_fX10_ticks_104  (qa_fX10_ticks_70  n) x1 (c43 - (Int32.ofInt 1)) (Int32.ofInt 4) x1 σ
noncomputable def qa_fX10_ticks_66  (y0 : Int32) (y1 : Int32) (y2 : Int32) (σ : qa_T) : Option qa_T :=
    if ¬ qa_in y2 176 = true then none else
    let σ7 := qa_wi σ (10, 22) (y2).toNatClampNeg (y1 + y0)
    qa_fX10_ticks_70  qa_fu (Int32.ofInt 0) σ7
noncomputable def qa_fX10_ticks_38  (y0 : Int32) (y1 : Int32) (y2 : Int32) (σ : qa_T) : Option qa_T :=
    if ¬ qa_in y2 176 = true then none else
    let σ4 := qa_wi σ (10, 22) (y2).toNatClampNeg (y1 + y0)
    if (σ4.1 (10, 22) (((Int16.ofInt 139).toInt32)).toNatClampNeg) = (Int32.ofInt (-1)) then
      qa_fX10_ticks_66  (Int32.ofInt 0) (σ4.1 (10, 22) (((Int16.ofInt 143).toInt32)).toNatClampNeg) ((Int16.ofInt 143).toInt32) σ4
    else
      qa_fX10_ticks_66  (Int32.ofInt 1) (σ4.1 (10, 22) (((Int16.ofInt 143).toInt32)).toNatClampNeg) ((Int16.ofInt 143).toInt32) σ4
noncomputable def qa_fX10_ticks  (σ : qa_T) : Option qa_T :=
    let σ1 := qa_wi σ (10, 22) (((Int16.ofInt 168).toInt32)).toNatClampNeg ((σ.1 (10, 22) (((Int16.ofInt 168).toInt32)).toNatClampNeg) + (Int32.ofInt 1))
    if (σ1.1 (10, 22) (((Int16.ofInt 142).toInt32)).toNatClampNeg) = (Int32.ofInt (-1)) then
      qa_fX10_ticks_38  (Int32.ofInt 0) (σ1.1 (10, 22) (((Int16.ofInt 174).toInt32)).toNatClampNeg) ((Int16.ofInt 174).toInt32) σ1
    else
      qa_fX10_ticks_38  (Int32.ofInt 1) (σ1.1 (10, 22) (((Int16.ofInt 174).toInt32)).toNatClampNeg) ((Int16.ofInt 174).toInt32) σ1
set_option maxRecDepth 100000 in
theorem qa_tX10_ticks_322 {L : Nat}   {σ : qa_T} {r : qa_T} (h : qa_fX10_ticks_322  σ = some r) : qa_Bk (qa_ds L) qa_mX10_ticks 322 [(0, .inl (10, 21))] [] σ (.inl none) r := by
  unfold qa_fX10_ticks_322 at h
  try dsimp only at h
  refine qa_bk_do (pc' := 323) rfl rfl ?_
  obtain ⟨c17, hc18, h⟩ := Option.bind_eq_some_iff.mp h
  refine qa_bk_cv (qa_tX10_begins hc18) rfl rfl rfl rfl rfl rfl rfl qa_dx_10_21 ?_
  cases h
  exact qa_bk_re rfl rfl rfl
set_option maxRecDepth 100000 in
theorem qa_tX10_ticks_253 {L : Nat}   {σ : qa_T} {r : qa_T} (h : qa_fX10_ticks_253  σ = some r) : qa_Bk (qa_ds L) qa_mX10_ticks 253 [(0, .inl (10, 21))] [] σ (.inl none) r := by
  unfold qa_fX10_ticks_253 at h
  try dsimp only at h
  refine qa_bk_do (pc' := 254) rfl rfl ?_
  refine qa_bk_gr rfl rfl qa_dx_10_21 rfl ?_
  refine qa_bk_do (pc' := 260) rfl rfl ?_
  refine qa_bk_ia rfl qa_dx_10_22 (Or.inl rfl) rfl ?_
  refine qa_bk_do (pc' := 262) rfl rfl ?_
  rcases qa_ite h with ⟨hc16, h⟩ | ⟨hc16, h⟩
  · refine qa_bk_1t (a := 322) (b := 265) hc16 rfl rfl ?_
    exact qa_bk_lw (qa_tX10_ticks_322  h) rfl rfl (And.intro rfl (trivial))
  · refine qa_bk_1f (a := 322) (b := 265) hc16 rfl rfl ?_
    refine qa_bk_do (pc' := 266) rfl rfl ?_
    refine qa_bk_gr rfl rfl qa_dx_10_21 rfl ?_
    refine qa_bk_do (pc' := 272) rfl rfl ?_
    refine qa_bk_ia rfl qa_dx_10_22 (Or.inl rfl) rfl ?_
    refine qa_bk_do (pc' := 274) rfl rfl ?_
    rcases qa_ite h with ⟨hc19, h⟩ | ⟨hc19, h⟩
    · refine qa_bk_1t (a := 322) (b := 277) hc19 rfl rfl ?_
      exact qa_bk_lw (qa_tX10_ticks_322  h) rfl rfl (And.intro rfl (trivial))
    · refine qa_bk_1f (a := 322) (b := 277) hc19 rfl rfl ?_
      refine qa_bk_do (pc' := 278) rfl rfl ?_
      refine qa_bk_gr rfl rfl qa_dx_10_21 rfl ?_
      refine qa_bk_do (pc' := 284) rfl rfl ?_
      refine qa_bk_ia rfl qa_dx_10_22 (Or.inl rfl) rfl ?_
      rcases qa_ite h with ⟨hc20, h⟩ | ⟨hc20, h⟩
      · refine qa_bk_1t (a := 322) (b := 288) hc20 rfl rfl ?_
        exact qa_bk_lw (qa_tX10_ticks_322  h) rfl rfl (And.intro rfl (trivial))
      · refine qa_bk_1f (a := 322) (b := 288) hc20 rfl rfl ?_
        refine qa_bk_do (pc' := 289) rfl rfl ?_
        refine qa_bk_gr rfl rfl qa_dx_10_21 rfl ?_
        refine qa_bk_do (pc' := 295) rfl rfl ?_
        refine qa_bk_ia rfl qa_dx_10_22 (Or.inl rfl) rfl ?_
        refine qa_bk_do (pc' := 297) rfl rfl ?_
        refine qa_bk_gr rfl rfl qa_dx_10_21 rfl ?_
        refine qa_bk_do (pc' := 303) rfl rfl ?_
        refine qa_bk_ia rfl qa_dx_10_22 (Or.inl rfl) rfl ?_
        rcases qa_ite h with ⟨hc21, h⟩ | ⟨hc21, h⟩
        · refine qa_bk_1t (a := 322) (b := 307) hc21 rfl rfl ?_
          exact qa_bk_lw (qa_tX10_ticks_322  h) rfl rfl (And.intro rfl (trivial))
        · refine qa_bk_1f (a := 322) (b := 307) hc21 rfl rfl ?_
          refine qa_bk_do (pc' := 308) rfl rfl ?_
          refine qa_bk_gr rfl rfl qa_dx_10_21 rfl ?_
          refine qa_bk_do (pc' := 313) rfl rfl ?_
          refine qa_bk_ia rfl qa_dx_10_22 (Or.inl rfl) rfl ?_
          rcases qa_ite h with ⟨hc22, h⟩ | ⟨hc22, h⟩
          · refine qa_bk_1t (a := 322) (b := 317) hc22 rfl rfl ?_
            exact qa_bk_lw (qa_tX10_ticks_322  h) rfl rfl (And.intro rfl (trivial))
          · refine qa_bk_1f (a := 322) (b := 317) hc22 rfl rfl ?_
            refine qa_bk_do (pc' := 318) rfl rfl ?_
            obtain ⟨c23, hc24, h⟩ := Option.bind_eq_some_iff.mp h
            refine qa_bk_cv (qa_tX10_goesOn hc24) rfl rfl rfl rfl rfl rfl rfl qa_dx_10_21 ?_
            refine qa_bk_do (pc' := 322) (lv' := [(1, _), (0, _)]) rfl rfl ?_
            exact qa_bk_lw (qa_tX10_ticks_322  h) rfl rfl (And.intro rfl (trivial))
set_option maxRecDepth 100000 in
theorem qa_tX10_ticks_170 {L : Nat}   {y0 : Int32} {y1 : Int32} {σ : qa_T} {r : qa_T} (h : qa_fX10_ticks_170  y0 y1 σ = some r) : qa_Bk (qa_ds L) qa_mX10_ticks 170 [(0, .inl (10, 21))] [.inr (.int y0), .inr (.int y1), .inl (10, 22)] σ (.inl none) r := by
  unfold qa_fX10_ticks_170 at h
  try dsimp only at h
  rcases qa_ite h with ⟨_, h⟩ | ⟨hc13, h⟩
  · cases h
  refine qa_bk_is rfl qa_dx_10_22 (Decidable.of_not_not hc13) ?_
  refine qa_bk_do (pc' := 172) rfl rfl ?_
  refine qa_bk_gr rfl rfl qa_dx_10_21 rfl ?_
  refine qa_bk_do (pc' := 178) rfl rfl ?_
  refine qa_bk_ia rfl qa_dx_10_22 (Or.inl rfl) rfl ?_
  refine qa_bk_do (pc' := 180) rfl rfl ?_
  rcases qa_ite h with ⟨hc15, h⟩ | ⟨hc15, h⟩
  · refine qa_bk_1t (a := 253) (b := 183) hc15 rfl rfl ?_
    exact qa_bk_lw (qa_tX10_ticks_253  h) rfl rfl (And.intro rfl (trivial))
  · refine qa_bk_1f (a := 253) (b := 183) hc15 rfl rfl ?_
    refine qa_bk_do (pc' := 184) rfl rfl ?_
    refine qa_bk_gr rfl rfl qa_dx_10_21 rfl ?_
    refine qa_bk_do (pc' := 190) rfl rfl ?_
    refine qa_bk_do (pc' := 191) rfl rfl ?_
    refine qa_bk_ia rfl qa_dx_10_22 (Or.inl rfl) rfl ?_
    refine qa_bk_do (pc' := 193) rfl rfl ?_
    refine qa_bk_do (pc' := 194) rfl rfl ?_
    refine qa_bk_is rfl qa_dx_10_22 rfl ?_
    refine qa_bk_do (pc' := 196) rfl rfl ?_
    refine qa_bk_gr rfl rfl qa_dx_10_21 rfl ?_
    refine qa_bk_do (pc' := 202) rfl rfl ?_
    refine qa_bk_ia rfl qa_dx_10_22 (Or.inl rfl) rfl ?_
    rcases qa_ite h with ⟨hc27, h⟩ | ⟨hc27, h⟩
    · refine qa_bk_1t (a := 253) (b := 206) hc27 rfl rfl ?_
      exact qa_bk_lw (qa_tX10_ticks_253  h) rfl rfl (And.intro rfl (trivial))
    · refine qa_bk_1f (a := 253) (b := 206) hc27 rfl rfl ?_
      refine qa_bk_do (pc' := 207) rfl rfl ?_
      refine qa_bk_gr rfl rfl qa_dx_10_21 rfl ?_
      refine qa_bk_do (pc' := 213) rfl rfl ?_
      refine qa_bk_ia rfl qa_dx_10_22 (Or.inl rfl) rfl ?_
      refine qa_bk_do (pc' := 215) (lv' := [(1, _), (0, _)]) rfl rfl ?_
      refine qa_bk_do (pc' := 216) rfl rfl ?_
      refine qa_bk_gr rfl rfl qa_dx_10_21 rfl ?_
      refine qa_bk_do (pc' := 222) rfl rfl ?_
      refine qa_bk_do (pc' := 223) rfl rfl ?_
      refine qa_bk_is rfl qa_dx_10_22 rfl ?_
      refine qa_bk_do (pc' := 225) rfl rfl ?_
      refine qa_bk_do (pc' := 226) rfl rfl ?_
      refine qa_bk_do (pc' := 227) rfl rfl ?_
      refine qa_bk_do (pc' := 228) rfl rfl ?_
      obtain ⟨c30, hc31, h⟩ := Option.bind_eq_some_iff.mp h
      refine qa_bk_cv (qa_tX10_lay hc31) rfl rfl rfl rfl rfl rfl rfl qa_dx_10_21 ?_
      refine qa_bk_do (pc' := 232) rfl rfl ?_
      refine qa_bk_do (pc' := 233) rfl rfl ?_
      obtain ⟨c32, hc33, h⟩ := Option.bind_eq_some_iff.mp h
      refine qa_bk_cv (qa_tX10_uses hc33) rfl rfl rfl rfl rfl rfl rfl qa_dx_10_21 ?_
      refine qa_bk_do (pc' := 237) rfl rfl ?_
      refine qa_bk_gr rfl rfl qa_dx_10_21 rfl ?_
      refine qa_bk_do (pc' := 243) rfl rfl ?_
      refine qa_bk_ia rfl qa_dx_10_22 (Or.inl rfl) rfl ?_
      refine qa_bk_do (pc' := 245) rfl rfl ?_
      rcases qa_ite h with ⟨hc34, h⟩ | ⟨hc34, h⟩
      · refine qa_bk_1t (a := 253) (b := 248) hc34 rfl rfl ?_
        exact qa_bk_lw (qa_tX10_ticks_253  h) rfl rfl (And.intro rfl (trivial))
      · refine qa_bk_1f (a := 253) (b := 248) hc34 rfl rfl ?_
        refine qa_bk_do (pc' := 249) rfl rfl ?_
        refine qa_bk_do (pc' := 250) rfl rfl ?_
        obtain ⟨c35, hc36, h⟩ := Option.bind_eq_some_iff.mp h
        refine qa_bk_cv (qa_tX10_shows hc36) rfl rfl rfl rfl rfl rfl rfl qa_dx_10_21 ?_
        exact qa_bk_lw (qa_tX10_ticks_253  h) rfl rfl (And.intro rfl (trivial))
set_option maxRecDepth 100000 in
theorem qa_tX10_ticks_138 {L : Nat}   {y0 : Int32} {y1 : Int32} {y2 : Int32} {σ : qa_T} {r : qa_T} (h : qa_fX10_ticks_138  y0 y1 y2 σ = some r) : qa_Bk (qa_ds L) qa_mX10_ticks 138 [(0, .inl (10, 21))] [.inr (.int y0), .inr (.int y1), .inr (.int y2), .inl (10, 22)] σ (.inl none) r := by
  unfold qa_fX10_ticks_138 at h
  try dsimp only at h
  refine qa_bk_do (pc' := 139) rfl rfl ?_
  rcases qa_ite h with ⟨_, h⟩ | ⟨hc10, h⟩
  · cases h
  refine qa_bk_is rfl qa_dx_10_22 (Decidable.of_not_not hc10) ?_
  refine qa_bk_do (pc' := 141) rfl rfl ?_
  refine qa_bk_gr rfl rfl qa_dx_10_21 rfl ?_
  refine qa_bk_do (pc' := 147) rfl rfl ?_
  refine qa_bk_do (pc' := 148) rfl rfl ?_
  refine qa_bk_gr rfl rfl qa_dx_10_21 rfl ?_
  refine qa_bk_do (pc' := 154) rfl rfl ?_
  refine qa_bk_ia rfl qa_dx_10_22 (Or.inl rfl) rfl ?_
  rcases qa_ite h with ⟨hc12, h⟩ | ⟨hc12, h⟩
  · refine qa_bk_1t (a := 169) (b := 158) hc12 rfl rfl ?_
    refine qa_bk_do (pc' := 170) rfl rfl ?_
    exact qa_bk_lw (qa_tX10_ticks_170  h) rfl rfl (And.intro rfl (trivial))
  · refine qa_bk_1f (a := 169) (b := 158) hc12 rfl rfl ?_
    refine qa_bk_do (pc' := 159) rfl rfl ?_
    refine qa_bk_gr rfl rfl qa_dx_10_21 rfl ?_
    refine qa_bk_do (pc' := 165) rfl rfl ?_
    refine qa_bk_ia rfl qa_dx_10_22 (Or.inl rfl) rfl ?_
    refine qa_bk_do (pc' := 170) rfl rfl ?_
    exact qa_bk_lw (qa_tX10_ticks_170  h) rfl rfl (And.intro rfl (trivial))
set_option maxRecDepth 100000 in
theorem qa_tX10_ticks_104 {L : Nat}   {k70 : Int32 → qa_T → Option qa_T} (K70 : ∀ (x1 : Int32) (σ : qa_T) (r : qa_T), k70 x1 σ = some r → qa_Bk (qa_ds L) qa_mX10_ticks 70 [(0, .inl (10, 21)), (1, .inr (.int x1))] [] σ (.inl none) r) {x1 : Int32} {y0 : Int32} {y1 : Int32} {y2 : Int32} {σ : qa_T} {r : qa_T} (h : qa_fX10_ticks_104  k70 x1 y0 y1 y2 σ = some r) : qa_Bk (qa_ds L) qa_mX10_ticks 104 [(0, .inl (10, 21)), (1, .inr (.int x1))] [.inr (.int y0), .inr (.int y1), .inr (.int y2), .inl (10, 21)] σ (.inl none) r := by
  unfold qa_fX10_ticks_104 at h
  try dsimp only at h
  obtain ⟨c40, hc41, h⟩ := Option.bind_eq_some_iff.mp h
  refine qa_bk_cv (qa_tX10_lay hc41) rfl rfl rfl rfl rfl rfl rfl qa_dx_10_21 ?_
  refine qa_bk_do (pc' := 110) (lv' := [(1, _), (0, _)]) rfl rfl ?_
  refine qa_bk_do (pc' := 70) rfl rfl ?_
  exact qa_bk_lw (K70 _ _ _ h) rfl rfl (And.intro rfl (And.intro rfl (trivial)))
set_option maxRecDepth 100000 in
theorem qa_tX10_ticks_70 {L : Nat}   : ∀ (n : Nat) (x1 : Int32) (σ : qa_T) (r : qa_T), qa_fX10_ticks_70  n x1 σ = some r → qa_Bk (qa_ds L) qa_mX10_ticks 70 [(0, .inl (10, 21)), (1, .inr (.int x1))] [] σ (.inl none) r := by
  intro n
  induction n with
  | zero => intro x1 σ r h; cases h
  | succ n ih =>
    intro x1 σ r h
    unfold qa_fX10_ticks_70 at h
    try dsimp only at h
    refine qa_bk_do (pc' := 71) rfl rfl ?_
    refine qa_bk_do (pc' := 72) rfl rfl ?_
    refine qa_bk_gr rfl rfl qa_dx_10_21 rfl ?_
    refine qa_bk_do (pc' := 76) rfl rfl ?_
    refine qa_bk_ia rfl qa_dx_10_22 (Or.inl rfl) rfl ?_
    rcases qa_ite h with ⟨hc8, h⟩ | ⟨hc8, h⟩
    · refine qa_bk_1t (a := 113) (b := 80) hc8 rfl rfl ?_
      refine qa_bk_do (pc' := 114) rfl rfl ?_
      refine qa_bk_gr rfl rfl qa_dx_10_21 rfl ?_
      refine qa_bk_do (pc' := 120) rfl rfl ?_
      refine qa_bk_do (pc' := 121) rfl rfl ?_
      refine qa_bk_ia rfl qa_dx_10_22 (Or.inl rfl) rfl ?_
      refine qa_bk_do (pc' := 123) rfl rfl ?_
      refine qa_bk_gr rfl rfl qa_dx_10_21 rfl ?_
      refine qa_bk_do (pc' := 129) rfl rfl ?_
      refine qa_bk_ia rfl qa_dx_10_22 (Or.inl rfl) rfl ?_
      rcases qa_ite h with ⟨hc9, h⟩ | ⟨hc9, h⟩
      · refine qa_bk_1t (a := 137) (b := 133) hc9 rfl rfl ?_
        refine qa_bk_do (pc' := 138) rfl rfl ?_
        exact qa_bk_lw (qa_tX10_ticks_138  h) rfl rfl (And.intro rfl (trivial))
      · refine qa_bk_1f (a := 137) (b := 133) hc9 rfl rfl ?_
        refine qa_bk_do (pc' := 134) rfl rfl ?_
        refine qa_bk_do (pc' := 138) rfl rfl ?_
        exact qa_bk_lw (qa_tX10_ticks_138  h) rfl rfl (And.intro rfl (trivial))
    · refine qa_bk_1f (a := 113) (b := 80) hc8 rfl rfl ?_
      refine qa_bk_do (pc' := 81) rfl rfl ?_
      refine qa_bk_do (pc' := 82) rfl rfl ?_
      refine qa_bk_do (pc' := 83) rfl rfl ?_
      refine qa_bk_do (pc' := 84) rfl rfl ?_
      refine qa_bk_do (pc' := 85) rfl rfl ?_
      refine qa_bk_do (pc' := 86) rfl rfl ?_
      obtain ⟨c37, hc38, h⟩ := Option.bind_eq_some_iff.mp h
      refine qa_bk_cv (qa_tX10_of hc38) rfl rfl rfl rfl rfl rfl rfl qa_dx_10_21 ?_
      rcases qa_ite h with ⟨hc39, h⟩ | ⟨hc39, h⟩
      · refine qa_bk_1t (a := 103) (b := 92) hc39 rfl rfl ?_
        refine qa_bk_do (pc' := 104) rfl rfl ?_
        exact qa_bk_lw (qa_tX10_ticks_104  ih h) rfl rfl (And.intro rfl (And.intro rfl (trivial)))
      · refine qa_bk_1f (a := 103) (b := 92) hc39 rfl rfl ?_
        refine qa_bk_do (pc' := 93) rfl rfl ?_
        refine qa_bk_do (pc' := 94) rfl rfl ?_
        refine qa_bk_do (pc' := 95) rfl rfl ?_
        obtain ⟨c43, hc44, h⟩ := Option.bind_eq_some_iff.mp h
        refine qa_bk_cv (qa_tX10_of hc44) rfl rfl rfl rfl rfl rfl rfl qa_dx_10_21 ?_
        refine qa_bk_do (pc' := 99) rfl rfl ?_
        refine qa_bk_do (pc' := 100) rfl rfl ?_
        refine qa_bk_do (pc' := 104) rfl rfl ?_
        exact qa_bk_lw (qa_tX10_ticks_104  ih h) rfl rfl (And.intro rfl (And.intro rfl (trivial)))
set_option maxRecDepth 100000 in
theorem qa_tX10_ticks_66 {L : Nat}   {y0 : Int32} {y1 : Int32} {y2 : Int32} {σ : qa_T} {r : qa_T} (h : qa_fX10_ticks_66  y0 y1 y2 σ = some r) : qa_Bk (qa_ds L) qa_mX10_ticks 66 [(0, .inl (10, 21))] [.inr (.int y0), .inr (.int y1), .inr (.int y2), .inl (10, 22)] σ (.inl none) r := by
  unfold qa_fX10_ticks_66 at h
  try dsimp only at h
  refine qa_bk_do (pc' := 67) rfl rfl ?_
  rcases qa_ite h with ⟨_, h⟩ | ⟨hc6, h⟩
  · cases h
  refine qa_bk_is rfl qa_dx_10_22 (Decidable.of_not_not hc6) ?_
  refine qa_bk_do (pc' := 69) rfl rfl ?_
  refine qa_bk_do (pc' := 70) (lv' := [(1, _), (0, _)]) rfl rfl ?_
  exact qa_bk_lw (qa_tX10_ticks_70  _ _ _ _ h) rfl rfl (And.intro rfl (And.intro rfl (trivial)))
set_option maxRecDepth 100000 in
theorem qa_tX10_ticks_38 {L : Nat}   {y0 : Int32} {y1 : Int32} {y2 : Int32} {σ : qa_T} {r : qa_T} (h : qa_fX10_ticks_38  y0 y1 y2 σ = some r) : qa_Bk (qa_ds L) qa_mX10_ticks 38 [(0, .inl (10, 21))] [.inr (.int y0), .inr (.int y1), .inr (.int y2), .inl (10, 22)] σ (.inl none) r := by
  unfold qa_fX10_ticks_38 at h
  try dsimp only at h
  refine qa_bk_do (pc' := 39) rfl rfl ?_
  rcases qa_ite h with ⟨_, h⟩ | ⟨hc3, h⟩
  · cases h
  refine qa_bk_is rfl qa_dx_10_22 (Decidable.of_not_not hc3) ?_
  refine qa_bk_do (pc' := 41) rfl rfl ?_
  refine qa_bk_gr rfl rfl qa_dx_10_21 rfl ?_
  refine qa_bk_do (pc' := 47) rfl rfl ?_
  refine qa_bk_do (pc' := 48) rfl rfl ?_
  refine qa_bk_ia rfl qa_dx_10_22 (Or.inl rfl) rfl ?_
  refine qa_bk_do (pc' := 50) rfl rfl ?_
  refine qa_bk_gr rfl rfl qa_dx_10_21 rfl ?_
  refine qa_bk_do (pc' := 56) rfl rfl ?_
  refine qa_bk_ia rfl qa_dx_10_22 (Or.inl rfl) rfl ?_
  refine qa_bk_do (pc' := 58) rfl rfl ?_
  rcases qa_ite h with ⟨hc5, h⟩ | ⟨hc5, h⟩
  · refine qa_bk_1t (a := 65) (b := 61) hc5 rfl rfl ?_
    refine qa_bk_do (pc' := 66) rfl rfl ?_
    exact qa_bk_lw (qa_tX10_ticks_66  h) rfl rfl (And.intro rfl (trivial))
  · refine qa_bk_1f (a := 65) (b := 61) hc5 rfl rfl ?_
    refine qa_bk_do (pc' := 62) rfl rfl ?_
    refine qa_bk_do (pc' := 66) rfl rfl ?_
    exact qa_bk_lw (qa_tX10_ticks_66  h) rfl rfl (And.intro rfl (trivial))
set_option maxRecDepth 100000 in
theorem qa_tX10_ticks {L : Nat}   {σ : qa_T} {r : qa_T} (h : qa_fX10_ticks  σ = some r) : qa_Bk (qa_ds L) qa_mX10_ticks 0 (qa_ag 0 [.inl (10, 21)]) [] σ (.inl none) r := by
  unfold qa_fX10_ticks at h
  try dsimp only at h
  show qa_Bk (qa_ds L) qa_mX10_ticks 0 [(0, .inl (10, 21))] [] σ _ _
  refine qa_bk_do (pc' := 1) rfl rfl ?_
  refine qa_bk_gr rfl rfl qa_dx_10_21 rfl ?_
  refine qa_bk_do (pc' := 7) rfl rfl ?_
  refine qa_bk_do (pc' := 8) rfl rfl ?_
  refine qa_bk_ia rfl qa_dx_10_22 (Or.inl rfl) rfl ?_
  refine qa_bk_do (pc' := 10) rfl rfl ?_
  refine qa_bk_do (pc' := 11) rfl rfl ?_
  refine qa_bk_is rfl qa_dx_10_22 rfl ?_
  refine qa_bk_do (pc' := 13) rfl rfl ?_
  refine qa_bk_gr rfl rfl qa_dx_10_21 rfl ?_
  refine qa_bk_do (pc' := 19) rfl rfl ?_
  refine qa_bk_do (pc' := 20) rfl rfl ?_
  refine qa_bk_ia rfl qa_dx_10_22 (Or.inl rfl) rfl ?_
  refine qa_bk_do (pc' := 22) rfl rfl ?_
  refine qa_bk_gr rfl rfl qa_dx_10_21 rfl ?_
  refine qa_bk_do (pc' := 28) rfl rfl ?_
  refine qa_bk_ia rfl qa_dx_10_22 (Or.inl rfl) rfl ?_
  refine qa_bk_do (pc' := 30) rfl rfl ?_
  rcases qa_ite h with ⟨hc2, h⟩ | ⟨hc2, h⟩
  · refine qa_bk_1t (a := 37) (b := 33) hc2 rfl rfl ?_
    refine qa_bk_do (pc' := 38) rfl rfl ?_
    exact qa_bk_lw (qa_tX10_ticks_38  h) rfl rfl (And.intro rfl (trivial))
  · refine qa_bk_1f (a := 37) (b := 33) hc2 rfl rfl ?_
    refine qa_bk_do (pc' := 34) rfl rfl ?_
    refine qa_bk_do (pc' := 38) rfl rfl ?_
    exact qa_bk_lw (qa_tX10_ticks_38  h) rfl rfl (And.intro rfl (trivial))
noncomputable def qa_fX10_inserts_98 (a1 : Int32) (a2 : Int32) (y0 : Int32) (y1 : Int32) (y2 : Int32) (σ : qa_T) : Option (Int32 × qa_T) :=
    if ¬ qa_in y2 176 = true then none else
    let σ8 := qa_wi σ (10, 22) (y2).toNatClampNeg (y1 + y0)
    (qa_fX10_begins σ8).bind fun c9 =>
    some ((c9.1 (10, 22) (((Int8.ofInt 113).toInt32)).toNatClampNeg), c9)
noncomputable def qa_fX10_inserts_97 (a1 : Int32) (a2 : Int32) (y0 : Int32) (y1 : Int32) (σ : qa_T) : Option (Int32 × qa_T) :=
    qa_fX10_inserts_98 a1 a2 (Int32.ofInt 0) y0 y1 σ
noncomputable def qa_fX10_inserts_8 (a1 : Int32) (a2 : Int32) : Nat → Int32 → qa_T → Option (Int32 × qa_T)
  | 0, _, _ => none
  | n + 1, x3, σ =>
    if x3 ≤ a1 then
      if ¬ qa_in (((Int8.ofInt 114).toInt32) + a1) 176 = true then none else
      let σ4 := qa_wi σ (10, 22) ((((Int8.ofInt 114).toInt32) + a1)).toNatClampNeg a2
      let σ5 := qa_wi σ4 (10, 22) (((Int8.ofInt 113).toInt32)).toNatClampNeg ((σ4.1 (10, 22) (((Int8.ofInt 113).toInt32)).toNatClampNeg) + (Int32.ofInt 1))
      if (σ5.1 (10, 22) (((Int16.ofInt 138).toInt32)).toNatClampNeg) = (Int32.ofInt (-1)) then
        qa_fX10_inserts_97 a1 a2 (σ5.1 (10, 22) (((Int16.ofInt 138).toInt32)).toNatClampNeg) ((Int16.ofInt 138).toInt32) σ5
      else
        if (σ5.1 (10, 22) (((Int16.ofInt 138).toInt32)).toNatClampNeg) < a1 then
          qa_fX10_inserts_97 a1 a2 (σ5.1 (10, 22) (((Int16.ofInt 138).toInt32)).toNatClampNeg) ((Int16.ofInt 138).toInt32) σ5
        else
          qa_fX10_inserts_98 a1 a2 (Int32.ofInt 1) (σ5.1 (10, 22) (((Int16.ofInt 138).toInt32)).toNatClampNeg) ((Int16.ofInt 138).toInt32) σ5
    else
      if ¬ qa_in ((((Int8.ofInt 114).toInt32) + x3) - (Int32.ofInt 1)) 176 = true then none else
      if ¬ qa_in (((Int8.ofInt 114).toInt32) + x3) 176 = true then none else
      let σ14 := qa_wi σ (10, 22) ((((Int8.ofInt 114).toInt32) + x3)).toNatClampNeg (σ.1 (10, 22) (((((Int8.ofInt 114).toInt32) + x3) - (Int32.ofInt 1))).toNatClampNeg)
      let v15 : Int32 := x3 + Int32.ofInt (-1)
      qa_fX10_inserts_8 a1 a2 n v15 σ14
noncomputable def qa_fX10_inserts (a1 : Int32) (a2 : Int32) (σ : qa_T) : Option (Int32 × qa_T) :=
    let v1 : Int32 := (σ.1 (10, 22) (((Int8.ofInt 113).toInt32)).toNatClampNeg)
    qa_fX10_inserts_8 a1 a2 qa_fu v1 σ
set_option maxRecDepth 100000 in
theorem qa_tX10_inserts_98 {L : Nat} {a1 : Int32} {a2 : Int32}  {y0 : Int32} {y1 : Int32} {y2 : Int32} {σ : qa_T} {r : (Int32 × qa_T)} (h : qa_fX10_inserts_98 a1 a2 y0 y1 y2 σ = some r) : qa_Bk (qa_ds L) qa_mX10_inserts 98 [(0, .inl (10, 21)), (1, .inr (.int a1)), (2, .inr (.int a2))] [.inr (.int y0), .inr (.int y1), .inr (.int y2), .inl (10, 22)] σ (.inl (some (.inr (.int r.1)))) r.2 := by
  unfold qa_fX10_inserts_98 at h
  try dsimp only at h
  refine qa_bk_do (pc' := 99) rfl rfl ?_
  rcases qa_ite h with ⟨_, h⟩ | ⟨hc7, h⟩
  · cases h
  refine qa_bk_is rfl qa_dx_10_22 (Decidable.of_not_not hc7) ?_
  refine qa_bk_do (pc' := 101) rfl rfl ?_
  obtain ⟨c9, hc10, h⟩ := Option.bind_eq_some_iff.mp h
  refine qa_bk_cv (qa_tX10_begins hc10) rfl rfl rfl rfl rfl rfl rfl qa_dx_10_21 ?_
  refine qa_bk_do (pc' := 105) rfl rfl ?_
  refine qa_bk_gr rfl rfl qa_dx_10_21 rfl ?_
  refine qa_bk_do (pc' := 110) rfl rfl ?_
  refine qa_bk_ia rfl qa_dx_10_22 (Or.inl rfl) rfl ?_
  cases h
  exact qa_bk_ri rfl rfl
set_option maxRecDepth 100000 in
theorem qa_tX10_inserts_97 {L : Nat} {a1 : Int32} {a2 : Int32}  {y0 : Int32} {y1 : Int32} {σ : qa_T} {r : (Int32 × qa_T)} (h : qa_fX10_inserts_97 a1 a2 y0 y1 σ = some r) : qa_Bk (qa_ds L) qa_mX10_inserts 97 [(0, .inl (10, 21)), (1, .inr (.int a1)), (2, .inr (.int a2))] [.inr (.int y0), .inr (.int y1), .inl (10, 22)] σ (.inl (some (.inr (.int r.1)))) r.2 := by
  unfold qa_fX10_inserts_97 at h
  try dsimp only at h
  refine qa_bk_do (pc' := 98) rfl rfl ?_
  exact qa_bk_lw (qa_tX10_inserts_98  h) rfl rfl (And.intro rfl (And.intro rfl (And.intro rfl (trivial))))
set_option maxRecDepth 100000 in
theorem qa_tX10_inserts_8 {L : Nat} {a1 : Int32} {a2 : Int32}  : ∀ (n : Nat) (x3 : Int32) (σ : qa_T) (r : (Int32 × qa_T)), qa_fX10_inserts_8 a1 a2 n x3 σ = some r → qa_Bk (qa_ds L) qa_mX10_inserts 8 [(0, .inl (10, 21)), (1, .inr (.int a1)), (2, .inr (.int a2)), (3, .inr (.int x3))] [] σ (.inl (some (.inr (.int r.1)))) r.2 := by
  intro n
  induction n with
  | zero => intro x3 σ r h; cases h
  | succ n ih =>
    intro x3 σ r h
    unfold qa_fX10_inserts_8 at h
    try dsimp only at h
    refine qa_bk_do (pc' := 9) rfl rfl ?_
    refine qa_bk_do (pc' := 10) rfl rfl ?_
    rcases qa_ite h with ⟨hc2, h⟩ | ⟨hc2, h⟩
    · refine qa_bk_1t (a := 39) (b := 13) hc2 rfl rfl ?_
      refine qa_bk_do (pc' := 40) rfl rfl ?_
      refine qa_bk_gr rfl rfl qa_dx_10_21 rfl ?_
      refine qa_bk_do (pc' := 45) rfl rfl ?_
      refine qa_bk_do (pc' := 46) rfl rfl ?_
      refine qa_bk_do (pc' := 47) rfl rfl ?_
      refine qa_bk_do (pc' := 48) rfl rfl ?_
      rcases qa_ite h with ⟨_, h⟩ | ⟨hc3, h⟩
      · cases h
      refine qa_bk_is rfl qa_dx_10_22 (Decidable.of_not_not hc3) ?_
      refine qa_bk_do (pc' := 50) rfl rfl ?_
      refine qa_bk_gr rfl rfl qa_dx_10_21 rfl ?_
      refine qa_bk_do (pc' := 55) rfl rfl ?_
      refine qa_bk_do (pc' := 56) rfl rfl ?_
      refine qa_bk_ia rfl qa_dx_10_22 (Or.inl rfl) rfl ?_
      refine qa_bk_do (pc' := 58) rfl rfl ?_
      refine qa_bk_do (pc' := 59) rfl rfl ?_
      refine qa_bk_is rfl qa_dx_10_22 rfl ?_
      refine qa_bk_do (pc' := 61) rfl rfl ?_
      refine qa_bk_gr rfl rfl qa_dx_10_21 rfl ?_
      refine qa_bk_do (pc' := 67) rfl rfl ?_
      refine qa_bk_do (pc' := 68) rfl rfl ?_
      refine qa_bk_ia rfl qa_dx_10_22 (Or.inl rfl) rfl ?_
      refine qa_bk_do (pc' := 70) rfl rfl ?_
      refine qa_bk_gr rfl rfl qa_dx_10_21 rfl ?_
      refine qa_bk_do (pc' := 76) rfl rfl ?_
      refine qa_bk_ia rfl qa_dx_10_22 (Or.inl rfl) rfl ?_
      refine qa_bk_do (pc' := 78) rfl rfl ?_
      rcases qa_ite h with ⟨hc6, h⟩ | ⟨hc6, h⟩
      · refine qa_bk_1t (a := 97) (b := 81) hc6 rfl rfl ?_
        exact qa_bk_lw (qa_tX10_inserts_97  h) rfl rfl (And.intro rfl (And.intro rfl (And.intro rfl (trivial))))
      · refine qa_bk_1f (a := 97) (b := 81) hc6 rfl rfl ?_
        refine qa_bk_do (pc' := 82) rfl rfl ?_
        refine qa_bk_do (pc' := 83) rfl rfl ?_
        refine qa_bk_gr rfl rfl qa_dx_10_21 rfl ?_
        refine qa_bk_do (pc' := 89) rfl rfl ?_
        refine qa_bk_ia rfl qa_dx_10_22 (Or.inl rfl) rfl ?_
        rcases qa_ite h with ⟨hc11, h⟩ | ⟨hc11, h⟩
        · refine qa_bk_1t (a := 97) (b := 93) hc11 rfl rfl ?_
          exact qa_bk_lw (qa_tX10_inserts_97  h) rfl rfl (And.intro rfl (And.intro rfl (And.intro rfl (trivial))))
        · refine qa_bk_1f (a := 97) (b := 93) hc11 rfl rfl ?_
          refine qa_bk_do (pc' := 94) rfl rfl ?_
          refine qa_bk_do (pc' := 98) rfl rfl ?_
          exact qa_bk_lw (qa_tX10_inserts_98  h) rfl rfl (And.intro rfl (And.intro rfl (And.intro rfl (trivial))))
    · refine qa_bk_1f (a := 39) (b := 13) hc2 rfl rfl ?_
      refine qa_bk_do (pc' := 14) rfl rfl ?_
      refine qa_bk_gr rfl rfl qa_dx_10_21 rfl ?_
      refine qa_bk_do (pc' := 19) rfl rfl ?_
      refine qa_bk_do (pc' := 20) rfl rfl ?_
      refine qa_bk_do (pc' := 21) rfl rfl ?_
      refine qa_bk_do (pc' := 22) rfl rfl ?_
      refine qa_bk_gr rfl rfl qa_dx_10_21 rfl ?_
      refine qa_bk_do (pc' := 27) rfl rfl ?_
      refine qa_bk_do (pc' := 28) rfl rfl ?_
      refine qa_bk_do (pc' := 29) rfl rfl ?_
      refine qa_bk_do (pc' := 30) rfl rfl ?_
      refine qa_bk_do (pc' := 31) rfl rfl ?_
      rcases qa_ite h with ⟨_, h⟩ | ⟨hc12, h⟩
      · cases h
      refine qa_bk_ia rfl qa_dx_10_22 (Or.inl rfl) (Decidable.of_not_not hc12) ?_
      rcases qa_ite h with ⟨_, h⟩ | ⟨hc13, h⟩
      · cases h
      refine qa_bk_is rfl qa_dx_10_22 (Decidable.of_not_not hc13) ?_
      refine qa_bk_do (pc' := 36) (lv' := [(3, _), (0, _), (1, _), (2, _)]) rfl rfl ?_
      refine qa_bk_do (pc' := 8) rfl rfl ?_
      exact qa_bk_lw (ih _ _ _ h) rfl rfl (And.intro rfl (And.intro rfl (And.intro rfl (And.intro rfl (trivial)))))
set_option maxRecDepth 100000 in
theorem qa_tX10_inserts {L : Nat} {a1 : Int32} {a2 : Int32}  {σ : qa_T} {r : (Int32 × qa_T)} (h : qa_fX10_inserts a1 a2 σ = some r) : qa_Bk (qa_ds L) qa_mX10_inserts 0 (qa_ag 0 [.inl (10, 21), .inr (.int a1), .inr (.int a2)]) [] σ (.inl (some (.inr (.int r.1)))) r.2 := by
  unfold qa_fX10_inserts at h
  try dsimp only at h
  show qa_Bk (qa_ds L) qa_mX10_inserts 0 [(0, .inl (10, 21)), (1, .inr (.int a1)), (2, .inr (.int a2))] [] σ _ _
  refine qa_bk_do (pc' := 1) rfl rfl ?_
  refine qa_bk_gr rfl rfl qa_dx_10_21 rfl ?_
  refine qa_bk_do (pc' := 6) rfl rfl ?_
  refine qa_bk_ia rfl qa_dx_10_22 (Or.inl rfl) rfl ?_
  refine qa_bk_do (pc' := 8) (lv' := [(3, _), (0, _), (1, _), (2, _)]) rfl rfl ?_
  exact qa_bk_lw (qa_tX10_inserts_8  _ _ _ _ h) rfl rfl (And.intro rfl (And.intro rfl (And.intro rfl (And.intro rfl (trivial)))))
noncomputable def qa_fX10_canGoOn_26  (σ : qa_T) : Bool :=
    false
noncomputable def qa_fX10_canGoOn  (σ : qa_T) : Bool :=
    if (σ.1 (10, 22) (((Int8.ofInt 113).toInt32)).toNatClampNeg) ≤ 0 then
      qa_fX10_canGoOn_26  σ
    else
      if ¬ (σ.1 (10, 22) (((Int16.ofInt 142).toInt32)).toNatClampNeg) = (Int32.ofInt (-1)) then
        qa_fX10_canGoOn_26  σ
      else
        true
set_option maxRecDepth 100000 in
theorem qa_tX10_canGoOn_26 {L : Nat}   {σ : qa_T} {r : Bool} (h : qa_fX10_canGoOn_26  σ = r) : qa_Bk (qa_ds L) qa_mX10_canGoOn 26 [(0, .inl (10, 21))] [] σ (.inl (some (.inr (.int (qa_bi r))))) σ := by
  unfold qa_fX10_canGoOn_26 at h
  try dsimp only at h
  refine qa_bk_do (pc' := 27) rfl rfl ?_
  subst h
  exact qa_bk_rb rfl rfl rfl
set_option maxRecDepth 100000 in
theorem qa_tX10_canGoOn {L : Nat}   {σ : qa_T} {r : Bool} (h : qa_fX10_canGoOn  σ = r) : qa_Bk (qa_ds L) qa_mX10_canGoOn 0 (qa_ag 0 [.inl (10, 21)]) [] σ (.inl (some (.inr (.int (qa_bi r))))) σ := by
  unfold qa_fX10_canGoOn at h
  try dsimp only at h
  show qa_Bk (qa_ds L) qa_mX10_canGoOn 0 [(0, .inl (10, 21))] [] σ _ _
  refine qa_bk_do (pc' := 1) rfl rfl ?_
  refine qa_bk_gr rfl rfl qa_dx_10_21 rfl ?_
  refine qa_bk_do (pc' := 6) rfl rfl ?_
  refine qa_bk_ia rfl qa_dx_10_22 (Or.inl rfl) rfl ?_
  rcases qa_ite h with ⟨hc1, h⟩ | ⟨hc1, h⟩
  · refine qa_bk_1t (a := 26) (b := 10) hc1 rfl rfl ?_
    exact qa_bk_lw (qa_tX10_canGoOn_26  h) rfl rfl (And.intro rfl (trivial))
  · refine qa_bk_1f (a := 26) (b := 10) hc1 rfl rfl ?_
    refine qa_bk_do (pc' := 11) rfl rfl ?_
    refine qa_bk_gr rfl rfl qa_dx_10_21 rfl ?_
    refine qa_bk_do (pc' := 17) rfl rfl ?_
    refine qa_bk_ia rfl qa_dx_10_22 (Or.inl rfl) rfl ?_
    refine qa_bk_do (pc' := 19) rfl rfl ?_
    rcases qa_ite h with ⟨hc2, h⟩ | ⟨hc2, h⟩
    · refine qa_bk_1t (a := 26) (b := 22) hc2 rfl rfl ?_
      exact qa_bk_lw (qa_tX10_canGoOn_26  h) rfl rfl (And.intro rfl (trivial))
    · refine qa_bk_1f (a := 26) (b := 22) hc2 rfl rfl ?_
      refine qa_bk_do (pc' := 23) rfl rfl ?_
      refine qa_bk_do (pc' := 27) rfl rfl ?_
      subst h
      exact qa_bk_rb rfl rfl rfl
noncomputable def qa_fX10_isAsked_55 (a1 : Int32) (k20 : Int32 → Int32 → qa_T → Option Bool) (x3 : Int32) (y0 : Int32) (σ : qa_T) : Option Bool :=
    let v5 : Int32 := x3 + Int32.ofInt 1
    k20 y0 v5 σ
noncomputable def qa_fX10_isAsked_50 (a1 : Int32) (k20 : Int32 → Int32 → qa_T → Option Bool) (x3 : Int32) (σ : qa_T) : Option Bool :=
    qa_fX10_isAsked_55 a1 k20 x3 (Int32.ofInt 1) σ
noncomputable def qa_fX10_isAsked_20 (a1 : Int32) : Nat → Int32 → Int32 → qa_T → Option Bool
  | 0, _, _, _ => none
  | n + 1, x2, x3, σ =>
    if (σ.1 (10, 22) (((Int16.ofInt 146).toInt32)).toNatClampNeg) ≤ x3 then
      if x2 = 0 then some false else if x2 = 1 then some true else none
    else
      if ¬ x2 = 0 then
        qa_fX10_isAsked_50 a1 (qa_fX10_isAsked_20 a1 n) x3 σ
      else
        if ¬ qa_in (((Int16.ofInt 147).toInt32) + x3) 176 = true then none else
        if ¬ (σ.1 (10, 22) ((((Int16.ofInt 147).toInt32) + x3)).toNatClampNeg) = a1 then
          qa_fX10_isAsked_55 a1 (qa_fX10_isAsked_20 a1 n) x3 (Int32.ofInt 0) σ
        else
          qa_fX10_isAsked_50 a1 (qa_fX10_isAsked_20 a1 n) x3 σ
noncomputable def qa_fX10_isAsked_17 (a1 : Int32) (y0 : Int32) (σ : qa_T) : Option Bool :=
    qa_fX10_isAsked_20 a1 qa_fu y0 (Int32.ofInt 0) σ
noncomputable def qa_fX10_isAsked (a1 : Int32) (σ : qa_T) : Option Bool :=
    if ¬ a1 = (σ.1 (10, 22) (((Int16.ofInt 142).toInt32)).toNatClampNeg) then
      qa_fX10_isAsked_17 a1 (Int32.ofInt 0) σ
    else
      qa_fX10_isAsked_17 a1 (Int32.ofInt 1) σ
set_option maxRecDepth 100000 in
theorem qa_tX10_isAsked_55 {L : Nat} {a1 : Int32}  {k20 : Int32 → Int32 → qa_T → Option Bool} (K20 : ∀ (x2 : Int32) (x3 : Int32) (σ : qa_T) (r : Bool), k20 x2 x3 σ = some r → qa_Bk (qa_ds L) qa_mX10_isAsked 20 [(0, .inl (10, 21)), (1, .inr (.int a1)), (2, .inr (.int x2)), (3, .inr (.int x3))] [] σ (.inl (some (.inr (.int (qa_bi r))))) σ) {x3 : Int32} {y0 : Int32} {σ : qa_T} {r : Bool} (h : qa_fX10_isAsked_55 a1 k20 x3 y0 σ = some r) : qa_Bk (qa_ds L) qa_mX10_isAsked 55 [(0, .inl (10, 21)), (1, .inr (.int a1)), (3, .inr (.int x3))] [.inr (.int y0)] σ (.inl (some (.inr (.int (qa_bi r))))) σ := by
  unfold qa_fX10_isAsked_55 at h
  try dsimp only at h
  refine qa_bk_do (pc' := 56) (lv' := [(2, _), (0, _), (1, _), (3, _)]) rfl rfl ?_
  refine qa_bk_do (pc' := 59) (lv' := [(3, _), (2, _), (0, _), (1, _)]) rfl rfl ?_
  refine qa_bk_do (pc' := 20) rfl rfl ?_
  exact qa_bk_lw (K20 _ _ _ _ h) rfl rfl (And.intro rfl (And.intro rfl (And.intro rfl (And.intro rfl (trivial)))))
set_option maxRecDepth 100000 in
theorem qa_tX10_isAsked_50 {L : Nat} {a1 : Int32}  {k20 : Int32 → Int32 → qa_T → Option Bool} (K20 : ∀ (x2 : Int32) (x3 : Int32) (σ : qa_T) (r : Bool), k20 x2 x3 σ = some r → qa_Bk (qa_ds L) qa_mX10_isAsked 20 [(0, .inl (10, 21)), (1, .inr (.int a1)), (2, .inr (.int x2)), (3, .inr (.int x3))] [] σ (.inl (some (.inr (.int (qa_bi r))))) σ) {x3 : Int32} {σ : qa_T} {r : Bool} (h : qa_fX10_isAsked_50 a1 k20 x3 σ = some r) : qa_Bk (qa_ds L) qa_mX10_isAsked 50 [(0, .inl (10, 21)), (1, .inr (.int a1)), (3, .inr (.int x3))] [] σ (.inl (some (.inr (.int (qa_bi r))))) σ := by
  unfold qa_fX10_isAsked_50 at h
  try dsimp only at h
  refine qa_bk_do (pc' := 51) rfl rfl ?_
  refine qa_bk_do (pc' := 55) rfl rfl ?_
  exact qa_bk_lw (qa_tX10_isAsked_55  K20 h) rfl rfl (And.intro rfl (And.intro rfl (And.intro rfl (trivial))))
set_option maxRecDepth 100000 in
theorem qa_tX10_isAsked_20 {L : Nat} {a1 : Int32}  : ∀ (n : Nat) (x2 : Int32) (x3 : Int32) (σ : qa_T) (r : Bool), qa_fX10_isAsked_20 a1 n x2 x3 σ = some r → qa_Bk (qa_ds L) qa_mX10_isAsked 20 [(0, .inl (10, 21)), (1, .inr (.int a1)), (2, .inr (.int x2)), (3, .inr (.int x3))] [] σ (.inl (some (.inr (.int (qa_bi r))))) σ := by
  intro n
  induction n with
  | zero => intro x2 x3 σ r h; cases h
  | succ n ih =>
    intro x2 x3 σ r h
    unfold qa_fX10_isAsked_20 at h
    try dsimp only at h
    refine qa_bk_do (pc' := 21) rfl rfl ?_
    refine qa_bk_do (pc' := 22) rfl rfl ?_
    refine qa_bk_gr rfl rfl qa_dx_10_21 rfl ?_
    refine qa_bk_do (pc' := 28) rfl rfl ?_
    refine qa_bk_ia rfl qa_dx_10_22 (Or.inl rfl) rfl ?_
    rcases qa_ite h with ⟨hc2, h⟩ | ⟨hc2, h⟩
    · refine qa_bk_1t (a := 62) (b := 32) hc2 rfl rfl ?_
      refine qa_bk_do (pc' := 63) rfl rfl ?_
      rcases qa_ite h with ⟨hc3, h⟩ | ⟨_, h⟩
      · cases h
        exact qa_bk_rb (b := false) hc3 rfl rfl
      · rcases qa_ite h with ⟨hc3, h⟩ | ⟨_, h⟩
        · cases h
          exact qa_bk_rb (b := true) hc3 rfl rfl
        · cases h
    · refine qa_bk_1f (a := 62) (b := 32) hc2 rfl rfl ?_
      refine qa_bk_do (pc' := 33) rfl rfl ?_
      rcases qa_ite h with ⟨hc4, h⟩ | ⟨hc4, h⟩
      · refine qa_bk_1t (a := 50) (b := 36) hc4 rfl rfl ?_
        exact qa_bk_lw (qa_tX10_isAsked_50  ih h) rfl rfl (And.intro rfl (And.intro rfl (And.intro rfl (trivial))))
      · refine qa_bk_1f (a := 50) (b := 36) hc4 rfl rfl ?_
        refine qa_bk_do (pc' := 37) rfl rfl ?_
        refine qa_bk_gr rfl rfl qa_dx_10_21 rfl ?_
        refine qa_bk_do (pc' := 43) rfl rfl ?_
        refine qa_bk_do (pc' := 44) rfl rfl ?_
        refine qa_bk_do (pc' := 45) rfl rfl ?_
        rcases qa_ite h with ⟨_, h⟩ | ⟨hc6, h⟩
        · cases h
        refine qa_bk_ia rfl qa_dx_10_22 (Or.inl rfl) (Decidable.of_not_not hc6) ?_
        refine qa_bk_do (pc' := 47) rfl rfl ?_
        rcases qa_ite h with ⟨hc7, h⟩ | ⟨hc7, h⟩
        · refine qa_bk_1t (a := 54) (b := 50) hc7 rfl rfl ?_
          refine qa_bk_do (pc' := 55) rfl rfl ?_
          exact qa_bk_lw (qa_tX10_isAsked_55  ih h) rfl rfl (And.intro rfl (And.intro rfl (And.intro rfl (trivial))))
        · refine qa_bk_1f (a := 54) (b := 50) hc7 rfl rfl ?_
          exact qa_bk_lw (qa_tX10_isAsked_50  ih h) rfl rfl (And.intro rfl (And.intro rfl (And.intro rfl (trivial))))
set_option maxRecDepth 100000 in
theorem qa_tX10_isAsked_17 {L : Nat} {a1 : Int32}  {y0 : Int32} {σ : qa_T} {r : Bool} (h : qa_fX10_isAsked_17 a1 y0 σ = some r) : qa_Bk (qa_ds L) qa_mX10_isAsked 17 [(0, .inl (10, 21)), (1, .inr (.int a1))] [.inr (.int y0)] σ (.inl (some (.inr (.int (qa_bi r))))) σ := by
  unfold qa_fX10_isAsked_17 at h
  try dsimp only at h
  refine qa_bk_do (pc' := 18) (lv' := [(2, _), (0, _), (1, _)]) rfl rfl ?_
  refine qa_bk_do (pc' := 19) rfl rfl ?_
  refine qa_bk_do (pc' := 20) (lv' := [(3, _), (2, _), (0, _), (1, _)]) rfl rfl ?_
  exact qa_bk_lw (qa_tX10_isAsked_20  _ _ _ _ _ h) rfl rfl (And.intro rfl (And.intro rfl (And.intro rfl (And.intro rfl (trivial)))))
set_option maxRecDepth 100000 in
theorem qa_tX10_isAsked {L : Nat} {a1 : Int32}  {σ : qa_T} {r : Bool} (h : qa_fX10_isAsked a1 σ = some r) : qa_Bk (qa_ds L) qa_mX10_isAsked 0 (qa_ag 0 [.inl (10, 21), .inr (.int a1)]) [] σ (.inl (some (.inr (.int (qa_bi r))))) σ := by
  unfold qa_fX10_isAsked at h
  try dsimp only at h
  show qa_Bk (qa_ds L) qa_mX10_isAsked 0 [(0, .inl (10, 21)), (1, .inr (.int a1))] [] σ _ _
  refine qa_bk_do (pc' := 1) rfl rfl ?_
  refine qa_bk_do (pc' := 2) rfl rfl ?_
  refine qa_bk_gr rfl rfl qa_dx_10_21 rfl ?_
  refine qa_bk_do (pc' := 8) rfl rfl ?_
  refine qa_bk_ia rfl qa_dx_10_22 (Or.inl rfl) rfl ?_
  rcases qa_ite h with ⟨hc1, h⟩ | ⟨hc1, h⟩
  · refine qa_bk_1t (a := 16) (b := 12) hc1 rfl rfl ?_
    refine qa_bk_do (pc' := 17) rfl rfl ?_
    exact qa_bk_lw (qa_tX10_isAsked_17  h) rfl rfl (And.intro rfl (And.intro rfl (trivial)))
  · refine qa_bk_1f (a := 16) (b := 12) hc1 rfl rfl ?_
    refine qa_bk_do (pc' := 13) rfl rfl ?_
    refine qa_bk_do (pc' := 17) rfl rfl ?_
    exact qa_bk_lw (qa_tX10_isAsked_17  h) rfl rfl (And.intro rfl (And.intro rfl (trivial)))
