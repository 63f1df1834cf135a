/-! the methods as functions (written by wip/tools/gen.py) -/
noncomputable def qa_fX10_isOrdered_156 (a1 : Bool) (σ : qa_T) : Option (Bool × qa_T) :=
    some (true, σ)
noncomputable def qa_fX10_isOrdered_140 (a1 : Bool) (x2 : Int32) (y0 : Int32) (σ : qa_T) : Option (Bool × qa_T) :=
    if (qa_bi a1) = 0 then
      qa_fX10_isOrdered_156 a1 σ
    else
      (qa_fX10_isFollowed x2 y0 σ).bind fun c10 =>
      if (qa_bi c10.1) = 0 then
        some (false, c10.2)
      else
        qa_fX10_isOrdered_156 a1 c10.2
noncomputable def qa_fX10_isOrdered_105 (a1 : Bool) (x2 : Int32) (x3 : Int32) (y0 : Int32) (y1 : Int32) (σ : qa_T) : Option (Bool × qa_T) :=
    let σ6 := qa_wi σ (10, 21) 11 (y1 + y0)
    if x3 = 0 then
      if ¬ x2 = ((Int8.ofInt 116).toInt32) then
        qa_fX10_isOrdered_140 a1 x2 (Int32.ofInt 0) σ6
      else
        (qa_fX10_number (Int32.ofInt 1) ((Int8.ofInt 100).toInt32) σ6).bind fun c13 =>
        qa_fX10_isOrdered_140 a1 x2 c13.1 c13.2
    else
      (qa_fX10_number (Int32.ofInt 0) ((Int8.ofInt 15).toInt32) σ6).bind fun c15 =>
      qa_fX10_isOrdered_140 a1 x2 c15.1 c15.2
noncomputable def qa_fX10_isOrdered_80 (a1 : Bool) (x2 : Int32) (x3 : Int32) (σ : qa_T) : Option (Bool × qa_T) :=
    let σ4 := qa_wi σ (10, 21) 12 (qa_bi true)
    if (σ4.1 (10, 21) 12) = 0 then
      qa_fX10_isOrdered_105 a1 x2 x3 (Int32.ofInt 1) (σ4.1 (10, 21) 11) σ4
    else
      qa_fX10_isOrdered_105 a1 x2 x3 (Int32.ofInt 0) (σ4.1 (10, 21) 11) σ4
noncomputable def qa_fX10_isOrdered_84 (a1 : Bool) (x2 : Int32) (x3 : Int32) (σ : qa_T) : Option (Bool × qa_T) :=
    let σ18 := qa_wi σ (10, 21) 12 (qa_bi false)
    if (σ18.1 (10, 21) 12) = 0 then
      qa_fX10_isOrdered_105 a1 x2 x3 (Int32.ofInt 1) (σ18.1 (10, 21) 11) σ18
    else
      qa_fX10_isOrdered_105 a1 x2 x3 (Int32.ofInt 0) (σ18.1 (10, 21) 11) σ18
noncomputable def qa_fX10_isOrdered_55 (a1 : Bool) (x2 : Int32) (y0 : Int32) (σ : qa_T) : Option (Bool × qa_T) :=
    if ¬ (σ.1 (10, 21) 12) = 0 then
      qa_fX10_isOrdered_80 a1 x2 y0 σ
    else
      if ¬ y0 = 0 then
        qa_fX10_isOrdered_84 a1 x2 y0 σ
      else
        if x2 = ((Int8.ofInt 110).toInt32) then
          qa_fX10_isOrdered_84 a1 x2 y0 σ
        else
          if x2 = ((Int8.ofInt 116).toInt32) then
            qa_fX10_isOrdered_84 a1 x2 y0 σ
          else
            qa_fX10_isOrdered_80 a1 x2 y0 σ
noncomputable def qa_fX10_isOrdered_50 (a1 : Bool) (x2 : Int32) (σ : qa_T) : Option (Bool × qa_T) :=
    qa_fX10_isOrdered_55 a1 x2 (Int32.ofInt 1) σ
noncomputable def qa_fX10_isOrdered_31 (a1 : Bool) (y0 : Int32) (σ : qa_T) : Option (Bool × qa_T) :=
    if y0 = ((Int8.ofInt 97).toInt32) then
      qa_fX10_isOrdered_50 a1 y0 σ
    else
      if y0 = ((Int8.ofInt 98).toInt32) then
        qa_fX10_isOrdered_50 a1 y0 σ
      else
        if ¬ y0 = ((Int8.ofInt 112).toInt32) then
          qa_fX10_isOrdered_55 a1 y0 (Int32.ofInt 0) σ
        else
          qa_fX10_isOrdered_50 a1 y0 σ
noncomputable def qa_fX10_isOrdered_30 (a1 : Bool) (σ : qa_T) : Option (Bool × qa_T) :=
    qa_fX10_isOrdered_31 a1 (Int32.ofInt 0) σ
noncomputable def qa_fX10_isOrdered (a1 : Bool) (σ : qa_T) : Option (Bool × qa_T) :=
    if (σ.1 (10, 21) 8) ≤ (σ.1 (10, 21) 11) then
      qa_fX10_isOrdered_30 a1 σ
    else
      if ¬ (σ.1 (10, 21) 12) = 0 then
        qa_fX10_isOrdered_30 a1 σ
      else
        if ¬ qa_in (σ.1 (10, 21) 11) 60 = true then none else
        qa_fX10_isOrdered_31 a1 (σ.1 (10, 28) ((σ.1 (10, 21) 11)).toNatClampNeg) σ
set_option maxRecDepth 100000 in
theorem qa_tX10_isOrdered_156 {L : Nat} {a1 : Bool}  {σ : qa_T} {r : (Bool × qa_T)} (h : qa_fX10_isOrdered_156 a1 σ = some r) : qa_Bk (qa_ds L) qa_mX10_isOrdered 156 [(0, .inl (10, 21)), (1, .inr (.int (qa_bi a1)))] [] σ (.inl (some (.inr (.int (qa_bi r.1))))) r.2 := by
  unfold qa_fX10_isOrdered_156 at h
  try dsimp only at h
  refine qa_bk_do (pc' := 157) rfl rfl ?_
  refine qa_bk_do (pc' := 161) rfl rfl ?_
  cases h
  exact qa_bk_rb rfl rfl rfl
set_option maxRecDepth 100000 in
theorem qa_tX10_isOrdered_140 {L : Nat} {a1 : Bool}  {x2 : Int32} {y0 : Int32} {σ : qa_T} {r : (Bool × qa_T)} (h : qa_fX10_isOrdered_140 a1 x2 y0 σ = some r) : qa_Bk (qa_ds L) qa_mX10_isOrdered 140 [(0, .inl (10, 21)), (1, .inr (.int (qa_bi a1))), (2, .inr (.int x2))] [.inr (.int y0)] σ (.inl (some (.inr (.int (qa_bi r.1))))) r.2 := by
  unfold qa_fX10_isOrdered_140 at h
  try dsimp only at h
  refine qa_bk_do (pc' := 142) (lv' := [(4, _), (0, _), (1, _), (2, _)]) rfl rfl ?_
  refine qa_bk_do (pc' := 143) rfl rfl ?_
  rcases qa_ite h with ⟨hc9, h⟩ | ⟨hc9, h⟩
  · refine qa_bk_1t (a := 156) (b := 146) hc9 rfl rfl ?_
    exact qa_bk_lw (qa_tX10_isOrdered_156  h) rfl rfl (And.intro rfl (And.intro rfl (trivial)))
  · refine qa_bk_1f (a := 156) (b := 146) hc9 rfl rfl ?_
    refine qa_bk_do (pc' := 147) rfl rfl ?_
    refine qa_bk_do (pc' := 148) rfl rfl ?_
    refine qa_bk_do (pc' := 150) rfl rfl ?_
    obtain ⟨c10, hc11, h⟩ := Option.bind_eq_some_iff.mp h
    refine qa_bk_cv (qa_tX10_isFollowed hc11) rfl rfl rfl rfl rfl rfl rfl qa_dx_10_21 ?_
    rcases qa_ite h with ⟨hc12, h⟩ | ⟨hc12, h⟩
    · refine qa_bk_1t (a := 160) (b := 156) hc12 rfl rfl ?_
      refine qa_bk_do (pc' := 161) rfl rfl ?_
      cases h
      exact qa_bk_rb rfl rfl rfl
    · refine qa_bk_1f (a := 160) (b := 156) hc12 rfl rfl ?_
      exact qa_bk_lw (qa_tX10_isOrdered_156  h) rfl rfl (And.intro rfl (And.intro rfl (trivial)))
set_option maxRecDepth 100000 in
theorem qa_tX10_isOrdered_105 {L : Nat} {a1 : Bool}  {x2 : Int32} {x3 : Int32} {y0 : Int32} {y1 : Int32} {σ : qa_T} {r : (Bool × qa_T)} (h : qa_fX10_isOrdered_105 a1 x2 x3 y0 y1 σ = some r) : qa_Bk (qa_ds L) qa_mX10_isOrdered 105 [(0, .inl (10, 21)), (1, .inr (.int (qa_bi a1))), (2, .inr (.int x2)), (3, .inr (.int x3))] [.inr (.int y0), .inr (.int y1), .inl (10, 21)] σ (.inl (some (.inr (.int (qa_bi r.1))))) r.2 := by
  unfold qa_fX10_isOrdered_105 at h
  try dsimp only at h
  refine qa_bk_do (pc' := 106) rfl rfl ?_
  refine qa_bk_pf rfl rfl qa_dx_10_21 rfl (qa_fiti _) rfl ?_
  refine qa_bk_do (pc' := 110) rfl rfl ?_
  rcases qa_ite h with ⟨hc7, h⟩ | ⟨hc7, h⟩
  · refine qa_bk_1t (a := 123) (b := 113) hc7 rfl rfl ?_
    refine qa_bk_do (pc' := 124) rfl rfl ?_
    refine qa_bk_do (pc' := 126) rfl rfl ?_
    rcases qa_ite h with ⟨hc8, h⟩ | ⟨hc8, h⟩
    · refine qa_bk_1t (a := 139) (b := 129) hc8 rfl rfl ?_
      refine qa_bk_do (pc' := 140) rfl rfl ?_
      exact qa_bk_lw (qa_tX10_isOrdered_140  h) rfl rfl (And.intro rfl (And.intro rfl (And.intro rfl (trivial))))
    · refine qa_bk_1f (a := 139) (b := 129) hc8 rfl rfl ?_
      refine qa_bk_do (pc' := 130) rfl rfl ?_
      refine qa_bk_do (pc' := 131) rfl rfl ?_
      refine qa_bk_do (pc' := 133) rfl rfl ?_
      obtain ⟨c13, hc14, h⟩ := Option.bind_eq_some_iff.mp h
      refine qa_bk_cv (qa_tX10_number hc14) rfl rfl rfl rfl rfl rfl rfl qa_dx_10_21 ?_
      refine qa_bk_do (pc' := 140) rfl rfl ?_
      exact qa_bk_lw (qa_tX10_isOrdered_140  h) rfl rfl (And.intro rfl (And.intro rfl (And.intro rfl (trivial))))
  · refine qa_bk_1f (a := 123) (b := 113) hc7 rfl rfl ?_
    refine qa_bk_do (pc' := 114) rfl rfl ?_
    refine qa_bk_do (pc' := 115) rfl rfl ?_
    refine qa_bk_do (pc' := 117) rfl rfl ?_
    obtain ⟨c15, hc16, h⟩ := Option.bind_eq_some_iff.mp h
    refine qa_bk_cv (qa_tX10_number hc16) rfl rfl rfl rfl rfl rfl rfl qa_dx_10_21 ?_
    refine qa_bk_do (pc' := 140) rfl rfl ?_
    exact qa_bk_lw (qa_tX10_isOrdered_140  h) rfl rfl (And.intro rfl (And.intro rfl (And.intro rfl (trivial))))
set_option maxRecDepth 100000 in
theorem qa_tX10_isOrdered_80 {L : Nat} {a1 : Bool}  {x2 : Int32} {x3 : Int32} {σ : qa_T} {r : (Bool × qa_T)} (h : qa_fX10_isOrdered_80 a1 x2 x3 σ = some r) : qa_Bk (qa_ds L) qa_mX10_isOrdered 80 [(0, .inl (10, 21)), (1, .inr (.int (qa_bi a1))), (2, .inr (.int x2)), (3, .inr (.int x3))] [.inl (10, 21)] σ (.inl (some (.inr (.int (qa_bi r.1))))) r.2 := by
  unfold qa_fX10_isOrdered_80 at h
  try dsimp only at h
  refine qa_bk_do (pc' := 81) rfl rfl ?_
  refine qa_bk_do (pc' := 85) rfl rfl ?_
  refine qa_bk_pf (v := qa_bi true) rfl rfl qa_dx_10_21 rfl (qa_fitz _) rfl ?_
  refine qa_bk_do (pc' := 89) rfl rfl ?_
  refine qa_bk_do (pc' := 90) rfl rfl ?_
  refine qa_bk_gi rfl rfl qa_dx_10_21 rfl ?_
  refine qa_bk_do (pc' := 94) rfl rfl ?_
  refine qa_bk_gi rfl rfl qa_dx_10_21 rfl ?_
  rcases qa_ite h with ⟨hc5, h⟩ | ⟨hc5, h⟩
  · refine qa_bk_1t (a := 104) (b := 100) hc5 rfl rfl ?_
    refine qa_bk_do (pc' := 105) rfl rfl ?_
    exact qa_bk_lw (qa_tX10_isOrdered_105  h) rfl rfl (And.intro rfl (And.intro rfl (And.intro rfl (And.intro rfl (trivial)))))
  · refine qa_bk_1f (a := 104) (b := 100) hc5 rfl rfl ?_
    refine qa_bk_do (pc' := 101) rfl rfl ?_
    refine qa_bk_do (pc' := 105) rfl rfl ?_
    exact qa_bk_lw (qa_tX10_isOrdered_105  h) rfl rfl (And.intro rfl (And.intro rfl (And.intro rfl (And.intro rfl (trivial)))))
set_option maxRecDepth 100000 in
theorem qa_tX10_isOrdered_84 {L : Nat} {a1 : Bool}  {x2 : Int32} {x3 : Int32} {σ : qa_T} {r : (Bool × qa_T)} (h : qa_fX10_isOrdered_84 a1 x2 x3 σ = some r) : qa_Bk (qa_ds L) qa_mX10_isOrdered 84 [(0, .inl (10, 21)), (1, .inr (.int (qa_bi a1))), (2, .inr (.int x2)), (3, .inr (.int x3))] [.inl (10, 21)] σ (.inl (some (.inr (.int (qa_bi r.1))))) r.2 := by
  unfold qa_fX10_isOrdered_84 at h
  try dsimp only at h
  refine qa_bk_do (pc' := 85) rfl rfl ?_
  refine qa_bk_pf (v := qa_bi false) rfl rfl qa_dx_10_21 rfl (qa_fitz _) rfl ?_
  refine qa_bk_do (pc' := 89) rfl rfl ?_
  refine qa_bk_do (pc' := 90) rfl rfl ?_
  refine qa_bk_gi rfl rfl qa_dx_10_21 rfl ?_
  refine qa_bk_do (pc' := 94) rfl rfl ?_
  refine qa_bk_gi rfl rfl qa_dx_10_21 rfl ?_
  rcases qa_ite h with ⟨hc19, h⟩ | ⟨hc19, h⟩
  · refine qa_bk_1t (a := 104) (b := 100) hc19 rfl rfl ?_
    refine qa_bk_do (pc' := 105) rfl rfl ?_
    exact qa_bk_lw (qa_tX10_isOrdered_105  h) rfl rfl (And.intro rfl (And.intro rfl (And.intro rfl (And.intro rfl (trivial)))))
  · refine qa_bk_1f (a := 104) (b := 100) hc19 rfl rfl ?_
    refine qa_bk_do (pc' := 101) rfl rfl ?_
    refine qa_bk_do (pc' := 105) rfl rfl ?_
    exact qa_bk_lw (qa_tX10_isOrdered_105  h) rfl rfl (And.intro rfl (And.intro rfl (And.intro rfl (And.intro rfl (trivial)))))
set_option maxRecDepth 100000 in
theorem qa_tX10_isOrdered_55 {L : Nat} {a1 : Bool}  {x2 : Int32} {y0 : Int32} {σ : qa_T} {r : (Bool × qa_T)} (h : qa_fX10_isOrdered_55 a1 x2 y0 σ = some r) : qa_Bk (qa_ds L) qa_mX10_isOrdered 55 [(0, .inl (10, 21)), (1, .inr (.int (qa_bi a1))), (2, .inr (.int x2))] [.inr (.int y0)] σ (.inl (some (.inr (.int (qa_bi r.1))))) r.2 := by
  unfold qa_fX10_isOrdered_55 at h
  try dsimp only at h
  refine qa_bk_do (pc' := 56) (lv' := [(3, _), (0, _), (1, _), (2, _)]) rfl rfl ?_
  refine qa_bk_do (pc' := 57) rfl rfl ?_
  refine qa_bk_do (pc' := 58) rfl rfl ?_
  refine qa_bk_gi rfl rfl qa_dx_10_21 rfl ?_
  rcases qa_ite h with ⟨hc3, h⟩ | ⟨hc3, h⟩
  · refine qa_bk_1t (a := 80) (b := 64) hc3 rfl rfl ?_
    exact qa_bk_lw (qa_tX10_isOrdered_80  h) rfl rfl (And.intro rfl (And.intro rfl (And.intro rfl (And.intro rfl (trivial)))))
  · refine qa_bk_1f (a := 80) (b := 64) hc3 rfl rfl ?_
    refine qa_bk_do (pc' := 65) rfl rfl ?_
    rcases qa_ite h with ⟨hc17, h⟩ | ⟨hc17, h⟩
    · refine qa_bk_1t (a := 84) (b := 68) hc17 rfl rfl ?_
      exact qa_bk_lw (qa_tX10_isOrdered_84  h) rfl rfl (And.intro rfl (And.intro rfl (And.intro rfl (And.intro rfl (trivial)))))
    · refine qa_bk_1f (a := 84) (b := 68) hc17 rfl rfl ?_
      refine qa_bk_do (pc' := 69) rfl rfl ?_
      refine qa_bk_do (pc' := 71) rfl rfl ?_
      rcases qa_ite h with ⟨hc20, h⟩ | ⟨hc20, h⟩
      · refine qa_bk_1t (a := 84) (b := 74) hc20 rfl rfl ?_
        exact qa_bk_lw (qa_tX10_isOrdered_84  h) rfl rfl (And.intro rfl (And.intro rfl (And.intro rfl (And.intro rfl (trivial)))))
      · refine qa_bk_1f (a := 84) (b := 74) hc20 rfl rfl ?_
        refine qa_bk_do (pc' := 75) rfl rfl ?_
        refine qa_bk_do (pc' := 77) rfl rfl ?_
        rcases qa_ite h with ⟨hc21, h⟩ | ⟨hc21, h⟩
        · refine qa_bk_1t (a := 84) (b := 80) hc21 rfl rfl ?_
          exact qa_bk_lw (qa_tX10_isOrdered_84  h) rfl rfl (And.intro rfl (And.intro rfl (And.intro rfl (And.intro rfl (trivial)))))
        · refine qa_bk_1f (a := 84) (b := 80) hc21 rfl rfl ?_
          exact qa_bk_lw (qa_tX10_isOrdered_80  h) rfl rfl (And.intro rfl (And.intro rfl (And.intro rfl (And.intro rfl (trivial)))))
set_option maxRecDepth 100000 in
theorem qa_tX10_isOrdered_50 {L : Nat} {a1 : Bool}  {x2 : Int32} {σ : qa_T} {r : (Bool × qa_T)} (h : qa_fX10_isOrdered_50 a1 x2 σ = some r) : qa_Bk (qa_ds L) qa_mX10_isOrdered 50 [(0, .inl (10, 21)), (1, .inr (.int (qa_bi a1))), (2, .inr (.int x2))] [] σ (.inl (some (.inr (.int (qa_bi r.1))))) r.2 := by
  unfold qa_fX10_isOrdered_50 at h
  try dsimp only at h
  refine qa_bk_do (pc' := 51) rfl rfl ?_
  refine qa_bk_do (pc' := 55) rfl rfl ?_
  exact qa_bk_lw (qa_tX10_isOrdered_55  h) rfl rfl (And.intro rfl (And.intro rfl (And.intro rfl (trivial))))
set_option maxRecDepth 100000 in
theorem qa_tX10_isOrdered_31 {L : Nat} {a1 : Bool}  {y0 : Int32} {σ : qa_T} {r : (Bool × qa_T)} (h : qa_fX10_isOrdered_31 a1 y0 σ = some r) : qa_Bk (qa_ds L) qa_mX10_isOrdered 31 [(0, .inl (10, 21)), (1, .inr (.int (qa_bi a1)))] [.inr (.int y0)] σ (.inl (some (.inr (.int (qa_bi r.1))))) r.2 := by
  unfold qa_fX10_isOrdered_31 at h
  try dsimp only at h
  refine qa_bk_do (pc' := 32) (lv' := [(2, _), (0, _), (1, _)]) rfl rfl ?_
  refine qa_bk_do (pc' := 33) rfl rfl ?_
  refine qa_bk_do (pc' := 35) rfl rfl ?_
  rcases qa_ite h with ⟨hc2, h⟩ | ⟨hc2, h⟩
  · refine qa_bk_1t (a := 50) (b := 38) hc2 rfl rfl ?_
    exact qa_bk_lw (qa_tX10_isOrdered_50  h) rfl rfl (And.intro rfl (And.intro rfl (And.intro rfl (trivial))))
  · refine qa_bk_1f (a := 50) (b := 38) hc2 rfl rfl ?_
    refine qa_bk_do (pc' := 39) rfl rfl ?_
    refine qa_bk_do (pc' := 41) rfl rfl ?_
    rcases qa_ite h with ⟨hc22, h⟩ | ⟨hc22, h⟩
    · refine qa_bk_1t (a := 50) (b := 44) hc22 rfl rfl ?_
      exact qa_bk_lw (qa_tX10_isOrdered_50  h) rfl rfl (And.intro rfl (And.intro rfl (And.intro rfl (trivial))))
    · refine qa_bk_1f (a := 50) (b := 44) hc22 rfl rfl ?_
      refine qa_bk_do (pc' := 45) rfl rfl ?_
      refine qa_bk_do (pc' := 47) rfl rfl ?_
      rcases qa_ite h with ⟨hc23, h⟩ | ⟨hc23, h⟩
      · refine qa_bk_1t (a := 54) (b := 50) hc23 rfl rfl ?_
        refine qa_bk_do (pc' := 55) rfl rfl ?_
        exact qa_bk_lw (qa_tX10_isOrdered_55  h) rfl rfl (And.intro rfl (And.intro rfl (And.intro rfl (trivial))))
      · refine qa_bk_1f (a := 54) (b := 50) hc23 rfl rfl ?_
        exact qa_bk_lw (qa_tX10_isOrdered_50  h) rfl rfl (And.intro rfl (And.intro rfl (And.intro rfl (trivial))))
set_option maxRecDepth 100000 in
theorem qa_tX10_isOrdered_30 {L : Nat} {a1 : Bool}  {σ : qa_T} {r : (Bool × qa_T)} (h : qa_fX10_isOrdered_30 a1 σ = some r) : qa_Bk (qa_ds L) qa_mX10_isOrdered 30 [(0, .inl (10, 21)), (1, .inr (.int (qa_bi a1)))] [] σ (.inl (some (.inr (.int (qa_bi r.1))))) r.2 := by
  unfold qa_fX10_isOrdered_30 at h
  try dsimp only at h
  refine qa_bk_do (pc' := 31) rfl rfl ?_
  exact qa_bk_lw (qa_tX10_isOrdered_31  h) rfl rfl (And.intro rfl (And.intro rfl (trivial)))
set_option maxRecDepth 100000 in
theorem qa_tX10_isOrdered {L : Nat} {a1 : Bool}  {σ : qa_T} {r : (Bool × qa_T)} (h : qa_fX10_isOrdered a1 σ = some r) : qa_Bk (qa_ds L) qa_mX10_isOrdered 0 (qa_ag 0 [.inl (10, 21), .inr (.int (qa_bi a1))]) [] σ (.inl (some (.inr (.int (qa_bi r.1))))) r.2 := by
  unfold qa_fX10_isOrdered at h
  try dsimp only at h
  show qa_Bk (qa_ds L) qa_mX10_isOrdered 0 [(0, .inl (10, 21)), (1, .inr (.int (qa_bi a1)))] [] σ _ _
  refine qa_bk_do (pc' := 1) rfl rfl ?_
  refine qa_bk_gi rfl rfl qa_dx_10_21 rfl ?_
  refine qa_bk_do (pc' := 5) rfl rfl ?_
  refine qa_bk_gi rfl rfl qa_dx_10_21 rfl ?_
  rcases qa_ite h with ⟨hc1, h⟩ | ⟨hc1, h⟩
  · refine qa_bk_1t (a := 30) (b := 11) hc1 rfl rfl ?_
    exact qa_bk_lw (qa_tX10_isOrdered_30  h) rfl rfl (And.intro rfl (And.intro rfl (trivial)))
  · refine qa_bk_1f (a := 30) (b := 11) hc1 rfl rfl ?_
    refine qa_bk_do (pc' := 12) rfl rfl ?_
    refine qa_bk_gi rfl rfl qa_dx_10_21 rfl ?_
    rcases qa_ite h with ⟨hc24, h⟩ | ⟨hc24, h⟩
    · refine qa_bk_1t (a := 30) (b := 18) hc24 rfl rfl ?_
      exact qa_bk_lw (qa_tX10_isOrdered_30  h) rfl rfl (And.intro rfl (And.intro rfl (trivial)))
    · refine qa_bk_1f (a := 30) (b := 18) hc24 rfl rfl ?_
      refine qa_bk_do (pc' := 19) rfl rfl ?_
      refine qa_bk_gr rfl rfl qa_dx_10_21 rfl ?_
      refine qa_bk_do (pc' := 23) rfl rfl ?_
      refine qa_bk_gi rfl rfl qa_dx_10_21 rfl ?_
      rcases qa_ite h with ⟨_, h⟩ | ⟨hc25, h⟩
      · cases h
      refine qa_bk_ia rfl qa_dx_10_28 (Or.inl rfl) (Decidable.of_not_not hc25) ?_
      refine qa_bk_do (pc' := 31) rfl rfl ?_
      exact qa_bk_lw (qa_tX10_isOrdered_31  h) rfl rfl (And.intro rfl (And.intro rfl (trivial)))
noncomputable def qa_fX10_go_90 (a1 : Bool) (k17 : Int32 → qa_T → Option (Bool × qa_T)) (y0 : Int32) (σ : qa_T) : Option (Bool × qa_T) :=
    k17 y0 σ
noncomputable def qa_fX10_go_64 (a1 : Bool) (k17 : Int32 → qa_T → Option (Bool × qa_T)) (y0 : Int32) (σ : qa_T) : Option (Bool × qa_T) :=
    if y0 = 0 then
      k17 y0 σ
    else
      (qa_fX10_sign ((Int8.ofInt 59).toInt32) ((Int8.ofInt 59).toInt32) σ).bind fun c11 =>
      if ¬ (c11.2.1 (10, 21) 12) = 0 then
        qa_fX10_go_90 a1 k17 (Int32.ofInt 0) c11.2
      else
        qa_fX10_go_90 a1 k17 (Int32.ofInt 1) c11.2
noncomputable def qa_fX10_go_63 (a1 : Bool) (k17 : Int32 → qa_T → Option (Bool × qa_T)) (σ : qa_T) : Option (Bool × qa_T) :=
    qa_fX10_go_64 a1 k17 (Int32.ofInt 0) σ
noncomputable def qa_fX10_go_17 (a1 : Bool) : Nat → Int32 → qa_T → Option (Bool × qa_T)
  | 0, _, _ => none
  | n + 1, x2, σ =>
    if x2 = 0 then
      some (true, σ)
    else
      (qa_fX10_isOrdered a1 σ).bind fun c5 =>
      if ¬ (qa_bi c5.1) = 0 then
        let σ8 := qa_wi c5.2 (10, 21) 13 ((c5.2.1 (10, 21) 13) + (Int32.ofInt 1))
        if ¬ (σ8.1 (10, 21) 12) = 0 then
          qa_fX10_go_63 a1 (qa_fX10_go_17 a1 n) σ8
        else
          if (σ8.1 (10, 21) 8) ≤ (σ8.1 (10, 21) 11) then
            qa_fX10_go_63 a1 (qa_fX10_go_17 a1 n) σ8
          else
            qa_fX10_go_64 a1 (qa_fX10_go_17 a1 n) (Int32.ofInt 1) σ8
      else
        some (false, c5.2)
noncomputable def qa_fX10_go (a1 : Bool) (σ : qa_T) : Option (Bool × qa_T) :=
    let σ1 := qa_wi σ (10, 21) 11 (Int32.ofInt 0)
    let σ2 := qa_wi σ1 (10, 21) 12 (qa_bi false)
    let σ3 := qa_wi σ2 (10, 21) 13 (Int32.ofInt 0)
    qa_fX10_go_17 a1 qa_fu (Int32.ofInt 1) σ3
set_option maxRecDepth 100000 in
theorem qa_tX10_go_90 {L : Nat} {a1 : Bool}  {k17 : Int32 → qa_T → Option (Bool × qa_T)} (K17 : ∀ (x2 : Int32) (σ : qa_T) (r : (Bool × qa_T)), k17 x2 σ = some r → qa_Bk (qa_ds L) qa_mX10_go 17 [(0, .inl (10, 21)), (1, .inr (.int (qa_bi a1))), (2, .inr (.int x2))] [] σ (.inl (some (.inr (.int (qa_bi r.1))))) r.2) {y0 : Int32} {σ : qa_T} {r : (Bool × qa_T)} (h : qa_fX10_go_90 a1 k17 y0 σ = some r) : qa_Bk (qa_ds L) qa_mX10_go 90 [(0, .inl (10, 21)), (1, .inr (.int (qa_bi a1)))] [.inr (.int y0)] σ (.inl (some (.inr (.int (qa_bi r.1))))) r.2 := by
  unfold qa_fX10_go_90 at h
  try dsimp only at h
  refine qa_bk_do (pc' := 91) (lv' := [(2, _), (0, _), (1, _)]) rfl rfl ?_
  refine qa_bk_do (pc' := 17) rfl rfl ?_
  exact qa_bk_lw (K17 _ _ _ h) rfl rfl (And.intro rfl (And.intro rfl (And.intro rfl (trivial))))
set_option maxRecDepth 100000 in
theorem qa_tX10_go_64 {L : Nat} {a1 : Bool}  {k17 : Int32 → qa_T → Option (Bool × qa_T)} (K17 : ∀ (x2 : Int32) (σ : qa_T) (r : (Bool × qa_T)), k17 x2 σ = some r → qa_Bk (qa_ds L) qa_mX10_go 17 [(0, .inl (10, 21)), (1, .inr (.int (qa_bi a1))), (2, .inr (.int x2))] [] σ (.inl (some (.inr (.int (qa_bi r.1))))) r.2) {y0 : Int32} {σ : qa_T} {r : (Bool × qa_T)} (h : qa_fX10_go_64 a1 k17 y0 σ = some r) : qa_Bk (qa_ds L) qa_mX10_go 64 [(0, .inl (10, 21)), (1, .inr (.int (qa_bi a1)))] [.inr (.int y0)] σ (.inl (some (.inr (.int (qa_bi r.1))))) r.2 := by
  unfold qa_fX10_go_64 at h
  try dsimp only at h
  refine qa_bk_do (pc' := 65) (lv' := [(2, _), (0, _), (1, _)]) rfl rfl ?_
  refine qa_bk_do (pc' := 66) rfl rfl ?_
  rcases qa_ite h with ⟨hc10, h⟩ | ⟨hc10, h⟩
  · refine qa_bk_1t (a := 17) (b := 69) hc10 rfl rfl ?_
    exact qa_bk_lw (K17 _ _ _ h) rfl rfl (And.intro rfl (And.intro rfl (And.intro rfl (trivial))))
  · refine qa_bk_1f (a := 17) (b := 69) hc10 rfl rfl ?_
    refine qa_bk_do (pc' := 70) rfl rfl ?_
    refine qa_bk_do (pc' := 72) rfl rfl ?_
    refine qa_bk_do (pc' := 74) rfl rfl ?_
    obtain ⟨c11, hc12, h⟩ := Option.bind_eq_some_iff.mp h
    refine qa_bk_cv (qa_tX10_sign hc12) rfl rfl rfl rfl rfl rfl rfl qa_dx_10_21 ?_
    refine qa_bk_do (pc' := 78) (lv' := [(3, _), (2, _), (0, _), (1, _)]) rfl rfl ?_
    refine qa_bk_do (pc' := 79) rfl rfl ?_
    refine qa_bk_gi rfl rfl qa_dx_10_21 rfl ?_
    rcases qa_ite h with ⟨hc13, h⟩ | ⟨hc13, h⟩
    · refine qa_bk_1t (a := 89) (b := 85) hc13 rfl rfl ?_
      refine qa_bk_do (pc' := 90) rfl rfl ?_
      exact qa_bk_lw (qa_tX10_go_90  K17 h) rfl rfl (And.intro rfl (And.intro rfl (trivial)))
    · refine qa_bk_1f (a := 89) (b := 85) hc13 rfl rfl ?_
      refine qa_bk_do (pc' := 86) rfl rfl ?_
      refine qa_bk_do (pc' := 90) rfl rfl ?_
      exact qa_bk_lw (qa_tX10_go_90  K17 h) rfl rfl (And.intro rfl (And.intro rfl (trivial)))
set_option maxRecDepth 100000 in
theorem qa_tX10_go_63 {L : Nat} {a1 : Bool}  {k17 : Int32 → qa_T → Option (Bool × qa_T)} (K17 : ∀ (x2 : Int32) (σ : qa_T) (r : (Bool × qa_T)), k17 x2 σ = some r → qa_Bk (qa_ds L) qa_mX10_go 17 [(0, .inl (10, 21)), (1, .inr (.int (qa_bi a1))), (2, .inr (.int x2))] [] σ (.inl (some (.inr (.int (qa_bi r.1))))) r.2) {σ : qa_T} {r : (Bool × qa_T)} (h : qa_fX10_go_63 a1 k17 σ = some r) : qa_Bk (qa_ds L) qa_mX10_go 63 [(0, .inl (10, 21)), (1, .inr (.int (qa_bi a1)))] [] σ (.inl (some (.inr (.int (qa_bi r.1))))) r.2 := by
  unfold qa_fX10_go_63 at h
  try dsimp only at h
  refine qa_bk_do (pc' := 64) rfl rfl ?_
  exact qa_bk_lw (qa_tX10_go_64  K17 h) rfl rfl (And.intro rfl (And.intro rfl (trivial)))
set_option maxRecDepth 100000 in
theorem qa_tX10_go_17 {L : Nat} {a1 : Bool}  : ∀ (n : Nat) (x2 : Int32) (σ : qa_T) (r : (Bool × qa_T)), qa_fX10_go_17 a1 n x2 σ = some r → qa_Bk (qa_ds L) qa_mX10_go 17 [(0, .inl (10, 21)), (1, .inr (.int (qa_bi a1))), (2, .inr (.int x2))] [] σ (.inl (some (.inr (.int (qa_bi r.1))))) r.2 := by
  intro n
  induction n with
  | zero => intro x2 σ r h; cases h
  | succ n ih =>
    intro x2 σ r h
    unfold qa_fX10_go_17 at h
    try dsimp only at h
    refine qa_bk_do (pc' := 18) rfl rfl ?_
    rcases qa_ite h with ⟨hc4, h⟩ | ⟨hc4, h⟩
    · refine qa_bk_1t (a := 94) (b := 21) hc4 rfl rfl ?_
      refine qa_bk_do (pc' := 95) rfl rfl ?_
      cases h
      exact qa_bk_rb rfl rfl rfl
    · refine qa_bk_1f (a := 94) (b := 21) hc4 rfl rfl ?_
      refine qa_bk_do (pc' := 22) rfl rfl ?_
      refine qa_bk_do (pc' := 23) rfl rfl ?_
      obtain ⟨c5, hc6, h⟩ := Option.bind_eq_some_iff.mp h
      refine qa_bk_cv (qa_tX10_isOrdered (a1 := a1) hc6) rfl rfl rfl rfl rfl rfl rfl qa_dx_10_21 ?_
      rcases qa_ite h with ⟨hc7, h⟩ | ⟨hc7, h⟩
      · refine qa_bk_1t (a := 31) (b := 29) hc7 rfl rfl ?_
        refine qa_bk_do (pc' := 32) rfl rfl ?_
        refine qa_bk_do (pc' := 33) rfl rfl ?_
        refine qa_bk_gi rfl rfl qa_dx_10_21 rfl ?_
        refine qa_bk_do (pc' := 37) rfl rfl ?_
        refine qa_bk_do (pc' := 38) rfl rfl ?_
        refine qa_bk_pf rfl rfl qa_dx_10_21 rfl (qa_fiti _) rfl ?_
        refine qa_bk_do (pc' := 42) rfl rfl ?_
        refine qa_bk_gi rfl rfl qa_dx_10_21 rfl ?_
        rcases qa_ite h with ⟨hc9, h⟩ | ⟨hc9, h⟩
        · refine qa_bk_1t (a := 63) (b := 48) hc9 rfl rfl ?_
          exact qa_bk_lw (qa_tX10_go_63  ih h) rfl rfl (And.intro rfl (And.intro rfl (trivial)))
        · refine qa_bk_1f (a := 63) (b := 48) hc9 rfl rfl ?_
          refine qa_bk_do (pc' := 49) rfl rfl ?_
          refine qa_bk_gi rfl rfl qa_dx_10_21 rfl ?_
          refine qa_bk_do (pc' := 53) rfl rfl ?_
          refine qa_bk_gi rfl rfl qa_dx_10_21 rfl ?_
          rcases qa_ite h with ⟨hc14, h⟩ | ⟨hc14, h⟩
          · refine qa_bk_1t (a := 63) (b := 59) hc14 rfl rfl ?_
            exact qa_bk_lw (qa_tX10_go_63  ih h) rfl rfl (And.intro rfl (And.intro rfl (trivial)))
          · refine qa_bk_1f (a := 63) (b := 59) hc14 rfl rfl ?_
            refine qa_bk_do (pc' := 60) rfl rfl ?_
            refine qa_bk_do (pc' := 64) rfl rfl ?_
            exact qa_bk_lw (qa_tX10_go_64  ih h) rfl rfl (And.intro rfl (And.intro rfl (trivial)))
      · refine qa_bk_1f (a := 31) (b := 29) hc7 rfl rfl ?_
        refine qa_bk_do (pc' := 30) rfl rfl ?_
        cases h
        exact qa_bk_rb rfl rfl rfl
set_option maxRecDepth 100000 in
theorem qa_tX10_go {L : Nat} {a1 : Bool}  {σ : qa_T} {r : (Bool × qa_T)} (h : qa_fX10_go a1 σ = some r) : qa_Bk (qa_ds L) qa_mX10_go 0 (qa_ag 0 [.inl (10, 21), .inr (.int (qa_bi a1))]) [] σ (.inl (some (.inr (.int (qa_bi r.1))))) r.2 := by
  unfold qa_fX10_go at h
  try dsimp only at h
  show qa_Bk (qa_ds L) qa_mX10_go 0 [(0, .inl (10, 21)), (1, .inr (.int (qa_bi a1)))] [] σ _ _
  refine qa_bk_do (pc' := 1) rfl rfl ?_
  refine qa_bk_do (pc' := 2) rfl rfl ?_
  refine qa_bk_pf rfl rfl qa_dx_10_21 rfl (qa_fiti _) rfl ?_
  refine qa_bk_do (pc' := 6) rfl rfl ?_
  refine qa_bk_do (pc' := 7) rfl rfl ?_
  refine qa_bk_pf (v := qa_bi false) rfl rfl qa_dx_10_21 rfl (qa_fitz _) rfl ?_
  refine qa_bk_do (pc' := 11) rfl rfl ?_
  refine qa_bk_do (pc' := 12) rfl rfl ?_
  refine qa_bk_pf rfl rfl qa_dx_10_21 rfl (qa_fiti _) rfl ?_
  refine qa_bk_do (pc' := 16) rfl rfl ?_
  refine qa_bk_do (pc' := 17) (lv' := [(2, _), (0, _), (1, _)]) rfl rfl ?_
  exact qa_bk_lw (qa_tX10_go_17  _ _ _ _ h) rfl rfl (And.intro rfl (And.intro rfl (And.intro rfl (trivial))))
noncomputable def qa_fX10_firstError_29  (y0 : Int32) (σ : qa_T) : Option (Int32 × qa_T) :=
    some (y0, σ)
noncomputable def qa_fX10_firstError  (σ : qa_T) : Option (Int32 × qa_T) :=
    let σ1 := qa_wi σ (10, 21) 9 (Int32.ofInt 0)
    (qa_fX10_go false σ1).bind fun c2 =>
    let v4 : Int32 := (qa_bi c2.1)
    if (c2.2.1 (10, 21) 12) = 0 then
      qa_fX10_firstError_29  (c2.2.1 (10, 21) 8) c2.2
    else
      qa_fX10_firstError_29  (c2.2.1 (10, 21) 11) c2.2
set_option maxRecDepth 100000 in
theorem qa_tX10_firstError_29 {L : Nat}   {y0 : Int32} {σ : qa_T} {r : (Int32 × qa_T)} (h : qa_fX10_firstError_29  y0 σ = some r) : qa_Bk (qa_ds L) qa_mX10_firstError 29 [(0, .inl (10, 21))] [.inr (.int y0)] σ (.inl (some (.inr (.int r.1)))) r.2 := by
  unfold qa_fX10_firstError_29 at h
  try dsimp only at h
  cases h
  exact qa_bk_ri rfl rfl
set_option maxRecDepth 100000 in
theorem qa_tX10_firstError {L : Nat}   {σ : qa_T} {r : (Int32 × qa_T)} (h : qa_fX10_firstError  σ = some r) : qa_Bk (qa_ds L) qa_mX10_firstError 0 (qa_ag 0 [.inl (10, 21)]) [] σ (.inl (some (.inr (.int r.1)))) r.2 := by
  unfold qa_fX10_firstError at h
  try dsimp only at h
  show qa_Bk (qa_ds L) qa_mX10_firstError 0 [(0, .inl (10, 21))] [] σ _ _
  refine qa_bk_do (pc' := 1) rfl rfl ?_
  refine qa_bk_do (pc' := 2) rfl rfl ?_
  refine qa_bk_pf rfl rfl qa_dx_10_21 rfl (qa_fiti _) rfl ?_
  refine qa_bk_do (pc' := 6) rfl rfl ?_
  refine qa_bk_do (pc' := 7) rfl rfl ?_
  obtain ⟨c2, hc3, h⟩ := Option.bind_eq_some_iff.mp h
  refine qa_bk_cv (qa_tX10_go (a1 := false) hc3) rfl rfl rfl rfl rfl rfl rfl qa_dx_10_21 ?_
  refine qa_bk_do (pc' := 11) (lv' := [(1, _), (0, _)]) rfl rfl ?_
  refine qa_bk_do (pc' := 12) rfl rfl ?_
  refine qa_bk_gi rfl rfl qa_dx_10_21 rfl ?_
  rcases qa_ite h with ⟨hc5, h⟩ | ⟨hc5, h⟩
  · refine qa_bk_1t (a := 25) (b := 18) hc5 rfl rfl ?_
    refine qa_bk_do (pc' := 26) rfl rfl ?_
    refine qa_bk_gi rfl rfl qa_dx_10_21 rfl ?_
    exact qa_bk_lw (qa_tX10_firstError_29  h) rfl rfl (And.intro rfl (trivial))
  · refine qa_bk_1f (a := 25) (b := 18) hc5 rfl rfl ?_
    refine qa_bk_do (pc' := 19) rfl rfl ?_
    refine qa_bk_gi rfl rfl qa_dx_10_21 rfl ?_
    refine qa_bk_do (pc' := 29) rfl rfl ?_
    exact qa_bk_lw (qa_tX10_firstError_29  h) rfl rfl (And.intro rfl (trivial))
noncomputable def qa_fX10_keepsAside_2  : Nat → Int32 → qa_T → Option qa_T
  | 0, _, _ => none
  | n + 1, x1, σ =>
    if ((Int16.ofInt 176).toInt32) ≤ x1 then
      some σ
    else
      if ¬ qa_in x1 176 = true then none else
      if ¬ qa_in x1 176 = true then none else
      let σ4 := qa_wi σ (10, 26) (x1).toNatClampNeg (σ.1 (10, 22) (x1).toNatClampNeg)
      let v5 : Int32 := x1 + Int32.ofInt 1
      qa_fX10_keepsAside_2  n v5 σ4
noncomputable def qa_fX10_keepsAside  (σ : qa_T) : Option qa_T :=
    qa_fX10_keepsAside_2  qa_fu (Int32.ofInt 0) σ
set_option maxRecDepth 100000 in
theorem qa_tX10_keepsAside_2 {L : Nat}   : ∀ (n : Nat) (x1 : Int32) (σ : qa_T) (r : qa_T), qa_fX10_keepsAside_2  n x1 σ = some r → qa_Bk (qa_ds L) qa_mX10_keepsAside 2 [(0, .inl (10, 21)), (1, .inr (.int x1))] [] σ (.inl none) r := by
  intro n
  induction n with
  | zero => intro x1 σ r h; cases h
  | succ n ih =>
    intro x1 σ r h
    unfold qa_fX10_keepsAside_2 at h
    try dsimp only at h
    refine qa_bk_do (pc' := 3) rfl rfl ?_
    refine qa_bk_do (pc' := 6) rfl rfl ?_
    rcases qa_ite h with ⟨hc1, h⟩ | ⟨hc1, h⟩
    · refine qa_bk_1t (a := 27) (b := 9) hc1 rfl rfl ?_
      cases h
      exact qa_bk_re rfl rfl rfl
    · refine qa_bk_1f (a := 27) (b := 9) hc1 rfl rfl ?_
      refine qa_bk_do (pc' := 10) rfl rfl ?_
      refine qa_bk_gr rfl rfl qa_dx_10_21 rfl ?_
      refine qa_bk_do (pc' := 14) rfl rfl ?_
      refine qa_bk_do (pc' := 15) rfl rfl ?_
      refine qa_bk_gr rfl rfl qa_dx_10_21 rfl ?_
      refine qa_bk_do (pc' := 19) rfl rfl ?_
      rcases qa_ite h with ⟨_, h⟩ | ⟨hc2, h⟩
      · cases h
      refine qa_bk_ia rfl qa_dx_10_22 (Or.inl rfl) (Decidable.of_not_not hc2) ?_
      rcases qa_ite h with ⟨_, h⟩ | ⟨hc3, h⟩
      · cases h
      refine qa_bk_is rfl qa_dx_10_26 (Decidable.of_not_not hc3) ?_
      refine qa_bk_do (pc' := 24) (lv' := [(1, _), (0, _)]) rfl rfl ?_
      refine qa_bk_do (pc' := 2) rfl rfl ?_
      exact qa_bk_lw (ih _ _ _ h) rfl rfl (And.intro rfl (And.intro rfl (trivial)))
set_option maxRecDepth 100000 in
theorem qa_tX10_keepsAside {L : Nat}   {σ : qa_T} {r : qa_T} (h : qa_fX10_keepsAside  σ = some r) : qa_Bk (qa_ds L) qa_mX10_keepsAside 0 (qa_ag 0 [.inl (10, 21)]) [] σ (.inl none) r := by
  unfold qa_fX10_keepsAside at h
  try dsimp only at h
  show qa_Bk (qa_ds L) qa_mX10_keepsAside 0 [(0, .inl (10, 21))] [] σ _ _
  refine qa_bk_do (pc' := 1) rfl rfl ?_
  refine qa_bk_do (pc' := 2) (lv' := [(1, _), (0, _)]) rfl rfl ?_
  exact qa_bk_lw (qa_tX10_keepsAside_2  _ _ _ _ h) rfl rfl (And.intro rfl (And.intro rfl (trivial)))
noncomputable def qa_fX10_putsBack_2  : Nat → Int32 → qa_T → Option qa_T
  | 0, _, _ => none
  | n + 1, x1, σ =>
    if ((Int16.ofInt 176).toInt32) ≤ x1 then
      some σ
    else
      if ¬ qa_in x1 176 = true then none else
      if ¬ qa_in x1 176 = true then none else
      let σ4 := qa_wi σ (10, 22) (x1).toNatClampNeg (σ.1 (10, 26) (x1).toNatClampNeg)
      let v5 : Int32 := x1 + Int32.ofInt 1
      qa_fX10_putsBack_2  n v5 σ4
noncomputable def qa_fX10_putsBack  (σ : qa_T) : Option qa_T :=
    qa_fX10_putsBack_2  qa_fu (Int32.ofInt 0) σ
set_option maxRecDepth 100000 in
theorem qa_tX10_putsBack_2 {L : Nat}   : ∀ (n : Nat) (x1 : Int32) (σ : qa_T) (r : qa_T), qa_fX10_putsBack_2  n x1 σ = some r → qa_Bk (qa_ds L) qa_mX10_putsBack 2 [(0, .inl (10, 21)), (1, .inr (.int x1))] [] σ (.inl none) r := by
  intro n
  induction n with
  | zero => intro x1 σ r h; cases h
  | succ n ih =>
    intro x1 σ r h
    unfold qa_fX10_putsBack_2 at h
    try dsimp only at h
    refine qa_bk_do (pc' := 3) rfl rfl ?_
    refine qa_bk_do (pc' := 6) rfl rfl ?_
    rcases qa_ite h with ⟨hc1, h⟩ | ⟨hc1, h⟩
    · refine qa_bk_1t (a := 27) (b := 9) hc1 rfl rfl ?_
      cases h
      exact qa_bk_re rfl rfl rfl
    · refine qa_bk_1f (a := 27) (b := 9) hc1 rfl rfl ?_
      refine qa_bk_do (pc' := 10) rfl rfl ?_
      refine qa_bk_gr rfl rfl qa_dx_10_21 rfl ?_
      refine qa_bk_do (pc' := 14) rfl rfl ?_
      refine qa_bk_do (pc' := 15) rfl rfl ?_
      refine qa_bk_gr rfl rfl qa_dx_10_21 rfl ?_
      refine qa_bk_do (pc' := 19) rfl rfl ?_
      rcases qa_ite h with ⟨_, h⟩ | ⟨hc2, h⟩
      · cases h
      refine qa_bk_ia rfl qa_dx_10_26 (Or.inl rfl) (Decidable.of_not_not hc2) ?_
      rcases qa_ite h with ⟨_, h⟩ | ⟨hc3, h⟩
      · cases h
      refine qa_bk_is rfl qa_dx_10_22 (Decidable.of_not_not hc3) ?_
      refine qa_bk_do (pc' := 24) (lv' := [(1, _), (0, _)]) rfl rfl ?_
      refine qa_bk_do (pc' := 2) rfl rfl ?_
      exact qa_bk_lw (ih _ _ _ h) rfl rfl (And.intro rfl (And.intro rfl (trivial)))
set_option maxRecDepth 100000 in
theorem qa_tX10_putsBack {L : Nat}   {σ : qa_T} {r : qa_T} (h : qa_fX10_putsBack  σ = some r) : qa_Bk (qa_ds L) qa_mX10_putsBack 0 (qa_ag 0 [.inl (10, 21)]) [] σ (.inl none) r := by
  unfold qa_fX10_putsBack at h
  try dsimp only at h
  show qa_Bk (qa_ds L) qa_mX10_putsBack 0 [(0, .inl (10, 21))] [] σ _ _
  refine qa_bk_do (pc' := 1) rfl rfl ?_
  refine qa_bk_do (pc' := 2) (lv' := [(1, _), (0, _)]) rfl rfl ?_
  exact qa_bk_lw (qa_tX10_putsBack_2  _ _ _ _ h) rfl rfl (And.intro rfl (And.intro rfl (trivial)))
noncomputable def qa_fX10_follow  (σ : qa_T) : Option (Int32 × qa_T) :=
    let σ1 := qa_wi σ (10, 21) 9 (Int32.ofInt 0)
    (qa_fX10_go false σ1).bind fun c2 =>
    let v4 : Int32 := (qa_bi c2.1)
    if (c2.2.1 (10, 21) 12) = 0 then
      (qa_fX10_keepsAside c2.2).bind fun c6 =>
      (qa_fX10_go true c6).bind fun c8 =>
      let v10 : Int32 := (qa_bi c8.1)
      (qa_fX10_putsBack c8.2).bind fun c11 =>
      if ¬ v10 = 0 then
        (qa_fX10_save c11).bind fun c14 =>
        (qa_fX10_go true c14).bind fun c16 =>
        let v18 : Int32 := (qa_bi c16.1)
        let σ19 := qa_wi c16.2 (10, 21) 8 (Int32.ofInt 0)
        some ((σ19.1 (10, 21) 13), σ19)
      else
        let c20 := qa_fX10_throwing (Int32.ofInt 2) c11
        some (c20.1, c20.2)
    else
      let c21 := qa_fX10_throwing (Int32.ofInt 1) c2.2
      some (c21.1, c21.2)
set_option maxRecDepth 100000 in
theorem qa_tX10_follow {L : Nat}   {σ : qa_T} {r : (Int32 × qa_T)} (h : qa_fX10_follow  σ = some r) : qa_Bk (qa_ds L) qa_mX10_follow 0 (qa_ag 0 [.inl (10, 21)]) [] σ (.inl (some (.inr (.int r.1)))) r.2 := by
  unfold qa_fX10_follow at h
  try dsimp only at h
  show qa_Bk (qa_ds L) qa_mX10_follow 0 [(0, .inl (10, 21))] [] σ _ _
  refine qa_bk_do (pc' := 1) rfl rfl ?_
  refine qa_bk_do (pc' := 2) rfl rfl ?_
  refine qa_bk_pf rfl rfl qa_dx_10_21 rfl (qa_fiti _) rfl ?_
  refine qa_bk_do (pc' := 6) rfl rfl ?_
  refine qa_bk_do (pc' := 7) rfl rfl ?_
  obtain ⟨c2, hc3, h⟩ := Option.bind_eq_some_iff.mp h
  refine qa_bk_cv (qa_tX10_go (a1 := false) hc3) rfl rfl rfl rfl rfl rfl rfl qa_dx_10_21 ?_
  refine qa_bk_do (pc' := 11) (lv' := [(1, _), (0, _)]) rfl rfl ?_
  refine qa_bk_do (pc' := 12) rfl rfl ?_
  refine qa_bk_gi rfl rfl qa_dx_10_21 rfl ?_
  rcases qa_ite h with ⟨hc5, h⟩ | ⟨hc5, h⟩
  · refine qa_bk_1t (a := 24) (b := 18) hc5 rfl rfl ?_
    refine qa_bk_do (pc' := 25) rfl rfl ?_
    obtain ⟨c6, hc7, h⟩ := Option.bind_eq_some_iff.mp h
    refine qa_bk_cv (qa_tX10_keepsAside hc7) rfl rfl rfl rfl rfl rfl rfl qa_dx_10_21 ?_
    refine qa_bk_do (pc' := 29) rfl rfl ?_
    refine qa_bk_do (pc' := 30) rfl rfl ?_
    obtain ⟨c8, hc9, h⟩ := Option.bind_eq_some_iff.mp h
    refine qa_bk_cv (qa_tX10_go (a1 := true) hc9) rfl rfl rfl rfl rfl rfl rfl qa_dx_10_21 ?_
    refine qa_bk_do (pc' := 34) (lv' := [(1, _), (0, _)]) rfl rfl ?_
    refine qa_bk_do (pc' := 35) rfl rfl ?_
    obtain ⟨c11, hc12, h⟩ := Option.bind_eq_some_iff.mp h
    refine qa_bk_cv (qa_tX10_putsBack hc12) rfl rfl rfl rfl rfl rfl rfl qa_dx_10_21 ?_
    refine qa_bk_do (pc' := 39) rfl rfl ?_
    rcases qa_ite h with ⟨hc13, h⟩ | ⟨hc13, h⟩
    · refine qa_bk_1t (a := 48) (b := 42) hc13 rfl rfl ?_
      refine qa_bk_do (pc' := 49) rfl rfl ?_
      obtain ⟨c14, hc15, h⟩ := Option.bind_eq_some_iff.mp h
      refine qa_bk_cv (qa_tX10_save hc15) rfl rfl rfl rfl rfl rfl rfl qa_dx_10_21 ?_
      refine qa_bk_do (pc' := 53) rfl rfl ?_
      refine qa_bk_do (pc' := 54) rfl rfl ?_
      obtain ⟨c16, hc17, h⟩ := Option.bind_eq_some_iff.mp h
      refine qa_bk_cv (qa_tX10_go (a1 := true) hc17) rfl rfl rfl rfl rfl rfl rfl qa_dx_10_21 ?_
      refine qa_bk_do (pc' := 58) (lv' := [(1, _), (0, _)]) rfl rfl ?_
      refine qa_bk_do (pc' := 59) rfl rfl ?_
      refine qa_bk_do (pc' := 60) rfl rfl ?_
      refine qa_bk_pf rfl rfl qa_dx_10_21 rfl (qa_fiti _) rfl ?_
      refine qa_bk_do (pc' := 64) rfl rfl ?_
      refine qa_bk_gi rfl rfl qa_dx_10_21 rfl ?_
      cases h
      exact qa_bk_ri rfl rfl
    · refine qa_bk_1f (a := 48) (b := 42) hc13 rfl rfl ?_
      refine qa_bk_do (pc' := 43) rfl rfl ?_
      refine qa_bk_do (pc' := 44) rfl rfl ?_
      refine qa_bk_cv (qa_tX10_throwing rfl) rfl rfl rfl rfl rfl rfl rfl qa_dx_10_21 ?_
      cases h
      exact qa_bk_ri rfl rfl
  · refine qa_bk_1f (a := 24) (b := 18) hc5 rfl rfl ?_
    refine qa_bk_do (pc' := 19) rfl rfl ?_
    refine qa_bk_do (pc' := 20) rfl rfl ?_
    refine qa_bk_cv (qa_tX10_throwing rfl) rfl rfl rfl rfl rfl rfl rfl qa_dx_10_21 ?_
    cases h
    exact qa_bk_ri rfl rfl
noncomputable def qa_fX10_keep_72 (a1 : Int32) (σ : qa_T) : Option qa_T :=
    some σ
noncomputable def qa_fX10_keep_58 (a1 : Int32) (σ : qa_T) : Option qa_T :=
    if ¬ (σ.1 (10, 21) 9) = 0 then
      qa_fX10_keep_72 a1 σ
    else
      if ¬ qa_in a1 2 = true then none else
      let σ6 := qa_wi σ (10, 25) (a1).toNatClampNeg (qa_bi true)
      qa_fX10_keep_72 a1 σ6
noncomputable def qa_fX10_keep_20 (a1 : Int32) : Nat → Int32 → qa_T → Option qa_T
  | 0, _, _ => none
  | n + 1, x2, σ =>
    if ((Int16.ofInt 176).toInt32) ≤ x2 then
      qa_fX10_keep_58 a1 σ
    else
      if ¬ (σ.1 (10, 21) 9) = 0 then
        qa_fX10_keep_58 a1 σ
      else
        if ¬ qa_in x2 176 = true then none else
        if ¬ qa_in ((((Int16.ofInt 176).toInt32) * a1) + x2) 352 = true then none else
        let σ10 := qa_wi σ (10, 24) (((((Int16.ofInt 176).toInt32) * a1) + x2)).toNatClampNeg (σ.1 (10, 22) (x2).toNatClampNeg)
        let v11 : Int32 := x2 + Int32.ofInt 1
        qa_fX10_keep_20 a1 n v11 σ10
noncomputable def qa_fX10_keep_15 (a1 : Int32) (y0 : Int32) (σ : qa_T) : Option qa_T :=
    let σ2 := qa_wi σ (10, 21) 9 y0
    qa_fX10_keep_20 a1 qa_fu (Int32.ofInt 0) σ2
noncomputable def qa_fX10_keep (a1 : Int32) (σ : qa_T) : Option qa_T :=
    if (qa_bi (qa_fX10_in a1 (Int32.ofInt 0) (Int32.ofInt 1) σ)) = 0 then
      qa_fX10_keep_15 a1 (Int32.ofInt 1) σ
    else
      qa_fX10_keep_15 a1 (Int32.ofInt 0) σ
set_option maxRecDepth 100000 in
theorem qa_tX10_keep_72 {L : Nat} {a1 : Int32}  {σ : qa_T} {r : qa_T} (h : qa_fX10_keep_72 a1 σ = some r) : qa_Bk (qa_ds L) qa_mX10_keep 72 [(0, .inl (10, 21)), (1, .inr (.int a1))] [] σ (.inl none) r := by
  unfold qa_fX10_keep_72 at h
  try dsimp only at h
  cases h
  exact qa_bk_re rfl rfl rfl
set_option maxRecDepth 100000 in
theorem qa_tX10_keep_58 {L : Nat} {a1 : Int32}  {σ : qa_T} {r : qa_T} (h : qa_fX10_keep_58 a1 σ = some r) : qa_Bk (qa_ds L) qa_mX10_keep 58 [(0, .inl (10, 21)), (1, .inr (.int a1))] [] σ (.inl none) r := by
  unfold qa_fX10_keep_58 at h
  try dsimp only at h
  refine qa_bk_do (pc' := 59) rfl rfl ?_
  refine qa_bk_gi rfl rfl qa_dx_10_21 rfl ?_
  rcases qa_ite h with ⟨hc4, h⟩ | ⟨hc4, h⟩
  · refine qa_bk_1t (a := 72) (b := 65) hc4 rfl rfl ?_
    exact qa_bk_lw (qa_tX10_keep_72  h) rfl rfl (And.intro rfl (And.intro rfl (trivial)))
  · refine qa_bk_1f (a := 72) (b := 65) hc4 rfl rfl ?_
    refine qa_bk_do (pc' := 66) rfl rfl ?_
    refine qa_bk_gr rfl rfl qa_dx_10_21 rfl ?_
    refine qa_bk_do (pc' := 70) rfl rfl ?_
    refine qa_bk_do (pc' := 71) rfl rfl ?_
    rcases qa_ite h with ⟨_, h⟩ | ⟨hc5, h⟩
    · cases h
    refine qa_bk_bs (v := qa_bi true) rfl qa_dx_10_25 (Decidable.of_not_not hc5) (qa_bi01 _) ?_
    exact qa_bk_lw (qa_tX10_keep_72  h) rfl rfl (And.intro rfl (And.intro rfl (trivial)))
set_option maxRecDepth 100000 in
theorem qa_tX10_keep_20 {L : Nat} {a1 : Int32}  : ∀ (n : Nat) (x2 : Int32) (σ : qa_T) (r : qa_T), qa_fX10_keep_20 a1 n x2 σ = some r → qa_Bk (qa_ds L) qa_mX10_keep 20 [(0, .inl (10, 21)), (1, .inr (.int a1)), (2, .inr (.int x2))] [] σ (.inl none) r := by
  intro n
  induction n with
  | zero => intro x2 σ r h; cases h
  | succ n ih =>
    intro x2 σ r h
    unfold qa_fX10_keep_20 at h
    try dsimp only at h
    refine qa_bk_do (pc' := 21) rfl rfl ?_
    refine qa_bk_do (pc' := 24) rfl rfl ?_
    rcases qa_ite h with ⟨hc3, h⟩ | ⟨hc3, h⟩
    · refine qa_bk_1t (a := 58) (b := 27) hc3 rfl rfl ?_
      exact qa_bk_lw (qa_tX10_keep_58  h) rfl rfl (And.intro rfl (And.intro rfl (trivial)))
    · refine qa_bk_1f (a := 58) (b := 27) hc3 rfl rfl ?_
      refine qa_bk_do (pc' := 28) rfl rfl ?_
      refine qa_bk_gi rfl rfl qa_dx_10_21 rfl ?_
      rcases qa_ite h with ⟨hc7, h⟩ | ⟨hc7, h⟩
      · refine qa_bk_1t (a := 58) (b := 34) hc7 rfl rfl ?_
        exact qa_bk_lw (qa_tX10_keep_58  h) rfl rfl (And.intro rfl (And.intro rfl (trivial)))
      · refine qa_bk_1f (a := 58) (b := 34) hc7 rfl rfl ?_
        refine qa_bk_do (pc' := 35) rfl rfl ?_
        refine qa_bk_gr rfl rfl qa_dx_10_21 rfl ?_
        refine qa_bk_do (pc' := 41) rfl rfl ?_
        refine qa_bk_do (pc' := 42) rfl rfl ?_
        refine qa_bk_do (pc' := 43) rfl rfl ?_
        refine qa_bk_do (pc' := 44) rfl rfl ?_
        refine qa_bk_do (pc' := 45) rfl rfl ?_
        refine qa_bk_do (pc' := 46) rfl rfl ?_
        refine qa_bk_gr rfl rfl qa_dx_10_21 rfl ?_
        refine qa_bk_do (pc' := 50) rfl rfl ?_
        rcases qa_ite h with ⟨_, h⟩ | ⟨hc8, h⟩
        · cases h
        refine qa_bk_ia rfl qa_dx_10_22 (Or.inl rfl) (Decidable.of_not_not hc8) ?_
        rcases qa_ite h with ⟨_, h⟩ | ⟨hc9, h⟩
        · cases h
        refine qa_bk_is rfl qa_dx_10_24 (Decidable.of_not_not hc9) ?_
        refine qa_bk_do (pc' := 55) (lv' := [(2, _), (0, _), (1, _)]) rfl rfl ?_
        refine qa_bk_do (pc' := 20) rfl rfl ?_
        exact qa_bk_lw (ih _ _ _ h) rfl rfl (And.intro rfl (And.intro rfl (And.intro rfl (trivial))))
set_option maxRecDepth 100000 in
theorem qa_tX10_keep_15 {L : Nat} {a1 : Int32}  {y0 : Int32} {σ : qa_T} {r : qa_T} (h : qa_fX10_keep_15 a1 y0 σ = some r) : qa_Bk (qa_ds L) qa_mX10_keep 15 [(0, .inl (10, 21)), (1, .inr (.int a1))] [.inr (.int y0), .inl (10, 21)] σ (.inl none) r := by
  unfold qa_fX10_keep_15 at h
  try dsimp only at h
  refine qa_bk_pf rfl rfl qa_dx_10_21 rfl (qa_fiti _) rfl ?_
  refine qa_bk_do (pc' := 19) rfl rfl ?_
  refine qa_bk_do (pc' := 20) (lv' := [(2, _), (0, _), (1, _)]) rfl rfl ?_
  exact qa_bk_lw (qa_tX10_keep_20  _ _ _ _ h) rfl rfl (And.intro rfl (And.intro rfl (And.intro rfl (trivial))))
set_option maxRecDepth 100000 in
theorem qa_tX10_keep {L : Nat} {a1 : Int32}  {σ : qa_T} {r : qa_T} (h : qa_fX10_keep a1 σ = some r) : qa_Bk (qa_ds L) qa_mX10_keep 0 (qa_ag 0 [.inl (10, 21), .inr (.int a1)]) [] σ (.inl none) r := by
  unfold qa_fX10_keep at h
  try dsimp only at h
  show qa_Bk (qa_ds L) qa_mX10_keep 0 [(0, .inl (10, 21)), (1, .inr (.int a1))] [] σ _ _
  refine qa_bk_do (pc' := 1) rfl rfl ?_
  refine qa_bk_do (pc' := 2) rfl rfl ?_
  refine qa_bk_do (pc' := 3) rfl rfl ?_
  refine qa_bk_do (pc' := 4) rfl rfl ?_
  refine qa_bk_cs (qa_tX10_in rfl) rfl rfl rfl rfl rfl rfl rfl ?_
  rcases qa_ite h with ⟨hc1, h⟩ | ⟨hc1, h⟩
  · refine qa_bk_1t (a := 14) (b := 10) hc1 rfl rfl ?_
    refine qa_bk_do (pc' := 15) rfl rfl ?_
    exact qa_bk_lw (qa_tX10_keep_15  h) rfl rfl (And.intro rfl (And.intro rfl (trivial)))
  · refine qa_bk_1f (a := 14) (b := 10) hc1 rfl rfl ?_
    refine qa_bk_do (pc' := 11) rfl rfl ?_
    refine qa_bk_do (pc' := 15) rfl rfl ?_
    exact qa_bk_lw (qa_tX10_keep_15  h) rfl rfl (And.intro rfl (And.intro rfl (trivial)))
