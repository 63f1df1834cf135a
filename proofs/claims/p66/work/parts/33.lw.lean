/-! the law's methods as functions (written by wip/p66/gen_law.py) -/
section QL33
noncomputable def qa_fL_does_78 (a2 : Int32) (a3 : Int32) (σ : qa_T) : Option (Bool × qa_T) :=
    some (false, σ)
noncomputable def qa_fL_does_23 (a2 : Int32) (a3 : Int32) (x3 : Int32) (σ : qa_T) : Option (Bool × qa_T) :=
    (qa_fL_low a3 ((Int8.ofInt 50).toInt32) σ).bind fun c3 =>
    (qa_fL_low (a2 >>> ((Int32.ofInt 3) &&& 31)) ((Int8.ofInt 8).toInt32) c3.2).bind fun c5 =>
    (qa_fL_low (a3 >>> ((Int32.ofInt 3) &&& 31)) (Int32.ofInt 5) c5.2).bind fun c7 =>
    (qa_fX9_addSlide ((Int32.ofInt 1) + c3.1) ((Int32.ofInt 1) + c5.1) c7.1 c7.2).bind fun c9 => match c9 with
      | (.inl r11, σ12) =>
        if ¬ r11 = x3 then
          qa_fL_does_78 a2 a3 σ12
        else
          if ¬ (qa_fX9_slides σ12) = (x3 + (Int32.ofInt 1)) then
            qa_fL_does_78 a2 a3 σ12
          else
            (some (qa_fX9_isLoaded x3 σ12)).bind fun c16 => match c16 with
              | (.inl r18, σ19) =>
                if ¬ (qa_bi r18) = 0 then
                  qa_fL_does_78 a2 a3 σ19
                else
                  some (true, σ19)
              | (.inr E20, σ19) =>
                none
      | (.inr E13, σ12) =>
        none
noncomputable def qa_fL_does_188 (a2 : Int32) (a3 : Int32) (σ : qa_T) : Option (Bool × qa_T) :=
    some (true, σ)
noncomputable def qa_fL_does_164 (a2 : Int32) (a3 : Int32) (x4 : Int32) (x5 : Int32) (σ : qa_T) : Option (Bool × qa_T) :=
    if x5 = ((Int8.ofInt 24).toInt32) then
      qa_fL_does_188 a2 a3 σ
    else
      (qa_fL_low a3 (x5 + (Int32.ofInt 1)) σ).bind fun c29 =>
      (qa_fL_isInserted c29.1 x4 c29.2).bind fun c31 =>
      if (qa_bi c31.1) = 0 then
        some (false, c31.2)
      else
        qa_fL_does_188 a2 a3 c31.2
noncomputable def qa_fL_does_213 (a2 : Int32) (a3 : Int32) (σ : qa_T) : Option (Bool × qa_T) :=
    some (true, σ)
noncomputable def qa_fL_does_239 (a2 : Int32) (a3 : Int32) (σ : qa_T) : Option (Bool × qa_T) :=
    some (true, σ)
noncomputable def qa_fL_does_219 (a2 : Int32) (a3 : Int32) (x5 : Int32) (σ : qa_T) : Option (Bool × qa_T) :=
    if x5 = 0 then
      qa_fL_does_239 a2 a3 σ
    else
      (qa_fL_told (Int32.ofInt 0) σ).bind fun c45 =>
      if 0 ≤ c45.1 then
        qa_fL_does_239 a2 a3 c45.2
      else
        (qa_fL_isGone c45.2).bind fun c48 =>
        if (qa_bi c48.1) = 0 then
          some (false, c48.2)
        else
          qa_fL_does_239 a2 a3 c48.2
noncomputable def qa_fL_does_296 (a2 : Int32) (a3 : Int32) (σ : qa_T) : Option (Bool × qa_T) :=
    some (true, σ)
noncomputable def qa_fL_does_329 (a2 : Int32) (a3 : Int32) (σ : qa_T) : Option (Bool × qa_T) :=
    some (true, σ)
noncomputable def qa_fL_does_364 (a2 : Int32) (a3 : Int32) (σ : qa_T) : Option (Bool × qa_T) :=
    some (false, σ)
noncomputable def qa_fL_does_481 (a2 : Int32) (a3 : Int32) (σ : qa_T) : Option (Bool × qa_T) :=
    (qa_fL_low (a3 >>> ((Int32.ofInt 1) &&& 31)) ((Int8.ofInt 6).toInt32) σ).bind fun c143 =>
    (qa_fL_isTicked ((Int32.ofInt 1) + c143.1) c143.2).bind fun c145 =>
    some (c145.1, c145.2)
noncomputable def qa_fL_does_80 (a2 : Int32) (a3 : Int32) (x3 : Int32) (σ : qa_T) : Option (Bool × qa_T) :=
    (qa_fL_low (a2 >>> ((Int32.ofInt 4) &&& 31)) x3 σ).bind fun c23 =>
    let v25 : Int32 := (qa_fX9_places c23.2)
    let v26 : Int32 := (a2 &&& ((Int8.ofInt 15).toInt32))
    if v26 = 0 then
      qa_fL_does_164 a2 a3 c23.1 v25 c23.2
    else
    if v26 = 1 then
      qa_fL_does_164 a2 a3 c23.1 v25 c23.2
    else
    if v26 = 2 then
      qa_fL_does_164 a2 a3 c23.1 v25 c23.2
    else
    if v26 = 3 then
      if v25 < (Int32.ofInt 3) then
        qa_fL_does_213 a2 a3 c23.2
      else
        (qa_fL_low a3 v25 c23.2).bind fun c38 =>
        (qa_fL_isTaken c38.1 c38.2).bind fun c40 =>
        if (qa_bi c40.1) = 0 then
          some (false, c40.2)
        else
          qa_fL_does_213 a2 a3 c40.2
    else
    if v26 = 4 then
      qa_fL_does_219 a2 a3 v25 c23.2
    else
    if v26 = 5 then
      qa_fL_does_219 a2 a3 v25 c23.2
    else
    if v26 = 6 then
      qa_fL_does_219 a2 a3 v25 c23.2
    else
    if v26 = 7 then
      qa_fL_does_219 a2 a3 v25 c23.2
    else
    if v26 = 8 then
      (some (qa_fX9_isLoaded c23.1 c23.2)).bind fun c55 => match c55 with
        | (.inl r57, σ58) =>
          if ¬ (qa_bi r57) = 0 then
            qa_fL_does_296 a2 a3 σ58
          else
            (qa_fL_told (Int32.ofInt 0) σ58).bind fun c61 =>
            if c61.1 = c23.1 then
              qa_fL_does_296 a2 a3 c61.2
            else
              (qa_fL_told (Int32.ofInt 3) c61.2).bind fun c64 =>
              if c64.1 = c23.1 then
                qa_fL_does_296 a2 a3 c64.2
              else
                (qa_fL_isAsked c23.1 c64.2).bind fun c67 =>
                if ¬ (qa_bi c67.1) = 0 then
                  qa_fL_does_296 a2 a3 c67.2
                else
                  (qa_fX9_ask c23.1 c67.2).bind fun c70 => match c70 with
                    | (.inl r72, σ73) =>
                      if ¬ r72 = (qa_fX9_asked σ73) then
                        some (false, σ73)
                      else
                        qa_fL_does_296 a2 a3 σ73
                    | (.inr E74, σ73) =>
                      none
        | (.inr E59, σ58) =>
          none
    else
    if v26 = 9 then
      (some (qa_fX9_isLoaded c23.1 c23.2)).bind fun c77 => match c77 with
        | (.inl r79, σ80) =>
          if (qa_bi r79) = 0 then
            qa_fL_does_329 a2 a3 σ80
          else
            (some (qa_fX9_isOnShow c23.1 σ80)).bind fun c83 => match c83 with
              | (.inl r85, σ86) =>
                if ¬ (qa_bi r85) = 0 then
                  qa_fL_does_329 a2 a3 σ86
                else
                  (qa_fL_isBurnt c23.1 σ86).bind fun c89 =>
                  if (qa_bi c89.1) = 0 then
                    some (false, c89.2)
                  else
                    qa_fL_does_329 a2 a3 c89.2
              | (.inr E87, σ86) =>
                none
        | (.inr E81, σ80) =>
          none
    else
    if v26 = 10 then
      (qa_fL_low a3 (Int32.ofInt 3) c23.2).bind fun c93 =>
      (qa_fX9_changeOrder c93.1 c93.2).bind fun c95 => match c95 with
        | (.inl r97, σ98) =>
          if (Int32.ofInt 3) ≤ r97 then
            qa_fL_does_364 a2 a3 σ98
          else
            (qa_fL_low a3 (Int32.ofInt 3) σ98).bind fun c101 =>
            if ¬ (qa_fX9_order σ98) = c101.1 then
              qa_fL_does_364 a2 a3 c101.2
            else
              some (true, c101.2)
        | (.inr E99, σ98) =>
          none
    else
    if v26 = 11 then
      if ¬ (a3 &&& (Int32.ofInt 1)) = 0 then
        (qa_fL_low (a3 >>> ((Int32.ofInt 1) &&& 31)) ((Int8.ofInt 21).toInt32) c23.2).bind fun c106 =>
        (qa_fX9_changeGlow c106.1 c106.2).bind fun c108 => match c108 with
          | (.inl r110, σ111) =>
            if r110 < 0 then
              some (false, σ111)
            else
              some (true, σ111)
          | (.inr E112, σ111) =>
            none
      else
        (qa_fL_low (a3 >>> ((Int32.ofInt 1) &&& 31)) (Int32.ofInt 5) c23.2).bind fun c114 =>
        (qa_fX9_changeAhead c114.1 c114.2).bind fun c116 => match c116 with
          | (.inl r118, σ119) =>
            if r118 < 0 then
              some (false, σ119)
            else
              some (true, σ119)
          | (.inr E120, σ119) =>
            none
    else
    if v26 = 12 then
      if ¬ (a3 &&& (Int32.ofInt 3)) = 0 then
        (qa_fL_low a3 ((Int8.ofInt 100).toInt32) c23.2).bind fun c124 =>
        (qa_fX9_changeMemory (((Int16.ofInt 150).toInt32) + c124.1) c124.2).bind fun c126 => match c126 with
          | (.inl r128, σ129) =>
            if r128 ≤ 0 then
              some (false, σ129)
            else
              some (true, σ129)
          | (.inr E130, σ129) =>
            none
      else
        (qa_fL_low (a3 >>> ((Int32.ofInt 2) &&& 31)) ((Int8.ofInt 9).toInt32) c23.2).bind fun c132 =>
        (qa_fX9_changePace c132.1 c132.2).bind fun c134 => match c134 with
          | (.inl r136, σ137) =>
            if r136 < 0 then
              some (false, σ137)
            else
              some (true, σ137)
          | (.inr E138, σ137) =>
            none
    else
      (qa_fL_told (Int32.ofInt 0) c23.2).bind fun c140 =>
      if c140.1 < 0 then
        qa_fL_does_481 a2 a3 c140.2
      else
        if ¬ (a3 &&& (Int32.ofInt 1)) = 0 then
          (qa_fL_isAwaited c140.2).bind fun c148 =>
          some (c148.1, c148.2)
        else
          qa_fL_does_481 a2 a3 c140.2
noncomputable def qa_fL_does (a2 : Int32) (a3 : Int32) (σ : qa_T) : Option (Bool × qa_T) :=
    let v1 : Int32 := (qa_fX9_slides σ)
    if v1 < (Int32.ofInt 4) then
      qa_fL_does_23 a2 a3 v1 σ
    else
      if ¬ (a2 &&& ((Int8.ofInt 31).toInt32)) = 0 then
        qa_fL_does_80 a2 a3 v1 σ
      else
        if ((Int8.ofInt 16).toInt32) ≤ v1 then
          qa_fL_does_80 a2 a3 v1 σ
        else
          qa_fL_does_23 a2 a3 v1 σ
set_option maxRecDepth 1000000 in
theorem qa_tL_does_78 {L : Nat} {a2 : Int32} {a3 : Int32}  {σ : qa_T} {r : (Bool × qa_T)} (h : qa_fL_does_78 a2 a3 σ = some r) : qa_Bn L (0) qa_mL_does 78 [(0, .inl (0, 1)), (1, .inr (.int a2)), (2, .inr (.int a3))] [] σ (some (.inr (.int (qa_bi r.1)))) r.2 := by
  unfold qa_fL_does_78 at h
  try dsimp only at h
  refine qa_bn_mono (N := 0) (by omega) ?_
  refine qa_bn_do (pc' := 79) rfl rfl ?_
  cases h
  exact qa_bn_rb rfl rfl rfl
set_option maxRecDepth 1000000 in
theorem qa_tL_does_23 {L : Nat} {a2 : Int32} {a3 : Int32}  {x3 : Int32} {σ : qa_T} {r : (Bool × qa_T)} (h : qa_fL_does_23 a2 a3 x3 σ = some r) : qa_Bn L (0) qa_mL_does 23 [(0, .inl (0, 1)), (1, .inr (.int a2)), (2, .inr (.int a3)), (3, .inr (.int x3))] [] σ (some (.inr (.int (qa_bi r.1)))) r.2 := by
  unfold qa_fL_does_23 at h
  try dsimp only at h
  refine qa_bn_mono (N := 0) (by omega) ?_
  refine qa_bn_do (pc' := 24) rfl rfl ?_
  refine qa_bn_do (pc' := 25) rfl rfl ?_
  refine qa_bn_do (pc' := 26) rfl rfl ?_
  refine qa_bn_do (pc' := 28) rfl rfl ?_
  obtain ⟨c3, hc4, h⟩ := Option.bind_eq_some_iff.mp h
  refine qa_bn_cl (N1 := 0) (N2 := 0) (N := 0) (by omega) (qa_tL_low hc4) rfl rfl rfl rfl rfl rfl rfl ?_
  refine qa_bn_do (pc' := 32) rfl rfl ?_
  refine qa_bn_do (pc' := 33) rfl rfl ?_
  refine qa_bn_do (pc' := 34) rfl rfl ?_
  refine qa_bn_do (pc' := 35) rfl rfl ?_
  refine qa_bn_do (pc' := 36) rfl rfl ?_
  refine qa_bn_do (pc' := 38) rfl rfl ?_
  obtain ⟨c5, hc6, h⟩ := Option.bind_eq_some_iff.mp h
  refine qa_bn_cl (N1 := 0) (N2 := 0) (N := 0) (by omega) (qa_tL_low hc6) rfl rfl rfl rfl rfl rfl rfl ?_
  refine qa_bn_do (pc' := 42) rfl rfl ?_
  refine qa_bn_do (pc' := 43) rfl rfl ?_
  refine qa_bn_do (pc' := 44) rfl rfl ?_
  refine qa_bn_do (pc' := 45) rfl rfl ?_
  refine qa_bn_do (pc' := 46) rfl rfl ?_
  obtain ⟨c7, hc8, h⟩ := Option.bind_eq_some_iff.mp h
  refine qa_bn_cl (N1 := 0) (N2 := 0) (N := 0) (by omega) (qa_tL_low hc8) rfl rfl rfl rfl rfl rfl rfl ?_
  obtain ⟨⟨c9, σ12⟩, hc10, h⟩ := Option.bind_eq_some_iff.mp h
  cases c9 with
  | inl r11 =>
    try dsimp only at h
    refine qa_bn_cv (qa_tX9_addSlide hc10) rfl rfl rfl rfl rfl rfl rfl qa_dx_0_1 ?_
    refine qa_bn_do (pc' := 53) rfl rfl ?_
    rcases qa_ite h with ⟨hc14, h⟩ | ⟨hc14, h⟩
    · refine qa_bn_1t (a := 78) (b := 56) hc14 rfl rfl ?_
      exact qa_bn_mono (N := 0) (by omega) <| qa_bn_lw (qa_tL_does_78  h) rfl rfl (And.intro rfl (And.intro rfl (And.intro rfl (trivial))))
    · refine qa_bn_1f (a := 78) (b := 56) hc14 rfl rfl ?_
      refine qa_bn_do (pc' := 57) rfl rfl ?_
      refine qa_bn_cv (qa_tX9_slides rfl) rfl rfl rfl rfl rfl rfl rfl qa_dx_0_1 ?_
      refine qa_bn_do (pc' := 61) rfl rfl ?_
      refine qa_bn_do (pc' := 62) rfl rfl ?_
      refine qa_bn_do (pc' := 63) rfl rfl ?_
      rcases qa_ite h with ⟨hc15, h⟩ | ⟨hc15, h⟩
      · refine qa_bn_1t (a := 78) (b := 66) hc15 rfl rfl ?_
        exact qa_bn_mono (N := 0) (by omega) <| qa_bn_lw (qa_tL_does_78  h) rfl rfl (And.intro rfl (And.intro rfl (And.intro rfl (trivial))))
      · refine qa_bn_1f (a := 78) (b := 66) hc15 rfl rfl ?_
        refine qa_bn_do (pc' := 67) rfl rfl ?_
        refine qa_bn_do (pc' := 68) rfl rfl ?_
        obtain ⟨⟨c16, σ19⟩, hc17, h⟩ := Option.bind_eq_some_iff.mp h
        have hc17 := Option.some.inj hc17
        cases c16 with
        | inl r18 =>
          try dsimp only at h
          refine qa_bn_cv (qa_tX9_isLoaded hc17) rfl rfl rfl rfl rfl rfl rfl qa_dx_0_1 ?_
          rcases qa_ite h with ⟨hc21, h⟩ | ⟨hc21, h⟩
          · refine qa_bn_1t (a := 78) (b := 74) hc21 rfl rfl ?_
            exact qa_bn_mono (N := 0) (by omega) <| qa_bn_lw (qa_tL_does_78  h) rfl rfl (And.intro rfl (And.intro rfl (And.intro rfl (trivial))))
          · refine qa_bn_1f (a := 78) (b := 74) hc21 rfl rfl ?_
            refine qa_bn_do (pc' := 75) rfl rfl ?_
            refine qa_bn_do (pc' := 79) rfl rfl ?_
            cases h
            exact qa_bn_rb rfl rfl rfl
        | inr E20 =>
          try dsimp only at h
          cases h
  | inr E13 =>
    try dsimp only at h
    cases h
set_option maxRecDepth 1000000 in
theorem qa_tL_does_188 {L : Nat} {a2 : Int32} {a3 : Int32}  {σ : qa_T} {r : (Bool × qa_T)} (h : qa_fL_does_188 a2 a3 σ = some r) : qa_Bn L (0) qa_mL_does 188 [(0, .inl (0, 1)), (1, .inr (.int a2)), (2, .inr (.int a3))] [] σ (some (.inr (.int (qa_bi r.1)))) r.2 := by
  unfold qa_fL_does_188 at h
  try dsimp only at h
  refine qa_bn_mono (N := 0) (by omega) ?_
  refine qa_bn_do (pc' := 189) rfl rfl ?_
  refine qa_bn_do (pc' := 193) rfl rfl ?_
  cases h
  exact qa_bn_rb rfl rfl rfl
set_option maxRecDepth 1000000 in
theorem qa_tL_does_164 {L : Nat} {a2 : Int32} {a3 : Int32}  {x4 : Int32} {x5 : Int32} {σ : qa_T} {r : (Bool × qa_T)} (h : qa_fL_does_164 a2 a3 x4 x5 σ = some r) : qa_Bn L (2) qa_mL_does 164 [(0, .inl (0, 1)), (1, .inr (.int a2)), (2, .inr (.int a3)), (4, .inr (.int x4)), (5, .inr (.int x5))] [] σ (some (.inr (.int (qa_bi r.1)))) r.2 := by
  unfold qa_fL_does_164 at h
  try dsimp only at h
  refine qa_bn_mono (N := 2) (by omega) ?_
  refine qa_bn_do (pc' := 166) rfl rfl ?_
  refine qa_bn_do (pc' := 168) rfl rfl ?_
  rcases qa_ite h with ⟨hc28, h⟩ | ⟨hc28, h⟩
  · refine qa_bn_1t (a := 188) (b := 171) hc28 rfl rfl ?_
    exact qa_bn_mono (N := 0) (by omega) <| qa_bn_lw (qa_tL_does_188  h) rfl rfl (And.intro rfl (And.intro rfl (And.intro rfl (trivial))))
  · refine qa_bn_1f (a := 188) (b := 171) hc28 rfl rfl ?_
    refine qa_bn_do (pc' := 172) rfl rfl ?_
    refine qa_bn_do (pc' := 173) rfl rfl ?_
    refine qa_bn_do (pc' := 175) rfl rfl ?_
    refine qa_bn_do (pc' := 176) rfl rfl ?_
    refine qa_bn_do (pc' := 177) rfl rfl ?_
    obtain ⟨c29, hc30, h⟩ := Option.bind_eq_some_iff.mp h
    refine qa_bn_cl (N1 := 0) (N2 := 2) (N := 2) (by omega) (qa_tL_low hc30) rfl rfl rfl rfl rfl rfl rfl ?_
    refine qa_bn_do (pc' := 182) rfl rfl ?_
    obtain ⟨c31, hc32, h⟩ := Option.bind_eq_some_iff.mp h
    refine qa_bn_cl (N1 := 2) (N2 := 0) (N := 2) (by omega) (qa_tL_isInserted hc32) rfl rfl rfl rfl rfl rfl rfl ?_
    rcases qa_ite h with ⟨hc33, h⟩ | ⟨hc33, h⟩
    · refine qa_bn_1t (a := 192) (b := 188) hc33 rfl rfl ?_
      refine qa_bn_do (pc' := 193) rfl rfl ?_
      cases h
      exact qa_bn_rb rfl rfl rfl
    · refine qa_bn_1f (a := 192) (b := 188) hc33 rfl rfl ?_
      exact qa_bn_mono (N := 0) (by omega) <| qa_bn_lw (qa_tL_does_188  h) rfl rfl (And.intro rfl (And.intro rfl (And.intro rfl (trivial))))
set_option maxRecDepth 1000000 in
theorem qa_tL_does_213 {L : Nat} {a2 : Int32} {a3 : Int32}  {σ : qa_T} {r : (Bool × qa_T)} (h : qa_fL_does_213 a2 a3 σ = some r) : qa_Bn L (0) qa_mL_does 213 [(0, .inl (0, 1)), (1, .inr (.int a2)), (2, .inr (.int a3))] [] σ (some (.inr (.int (qa_bi r.1)))) r.2 := by
  unfold qa_fL_does_213 at h
  try dsimp only at h
  refine qa_bn_mono (N := 0) (by omega) ?_
  refine qa_bn_do (pc' := 214) rfl rfl ?_
  refine qa_bn_do (pc' := 218) rfl rfl ?_
  cases h
  exact qa_bn_rb rfl rfl rfl
set_option maxRecDepth 1000000 in
theorem qa_tL_does_239 {L : Nat} {a2 : Int32} {a3 : Int32}  {σ : qa_T} {r : (Bool × qa_T)} (h : qa_fL_does_239 a2 a3 σ = some r) : qa_Bn L (0) qa_mL_does 239 [(0, .inl (0, 1)), (1, .inr (.int a2)), (2, .inr (.int a3))] [] σ (some (.inr (.int (qa_bi r.1)))) r.2 := by
  unfold qa_fL_does_239 at h
  try dsimp only at h
  refine qa_bn_mono (N := 0) (by omega) ?_
  refine qa_bn_do (pc' := 240) rfl rfl ?_
  refine qa_bn_do (pc' := 244) rfl rfl ?_
  cases h
  exact qa_bn_rb rfl rfl rfl
set_option maxRecDepth 1000000 in
theorem qa_tL_does_219 {L : Nat} {a2 : Int32} {a3 : Int32}  {x5 : Int32} {σ : qa_T} {r : (Bool × qa_T)} (h : qa_fL_does_219 a2 a3 x5 σ = some r) : qa_Bn L (6) qa_mL_does 219 [(0, .inl (0, 1)), (1, .inr (.int a2)), (2, .inr (.int a3)), (5, .inr (.int x5))] [] σ (some (.inr (.int (qa_bi r.1)))) r.2 := by
  unfold qa_fL_does_219 at h
  try dsimp only at h
  refine qa_bn_mono (N := 6) (by omega) ?_
  refine qa_bn_do (pc' := 221) rfl rfl ?_
  rcases qa_ite h with ⟨hc44, h⟩ | ⟨hc44, h⟩
  · refine qa_bn_1t (a := 239) (b := 224) hc44 rfl rfl ?_
    exact qa_bn_mono (N := 0) (by omega) <| qa_bn_lw (qa_tL_does_239  h) rfl rfl (And.intro rfl (And.intro rfl (And.intro rfl (trivial))))
  · refine qa_bn_1f (a := 239) (b := 224) hc44 rfl rfl ?_
    refine qa_bn_do (pc' := 225) rfl rfl ?_
    refine qa_bn_do (pc' := 226) rfl rfl ?_
    obtain ⟨c45, hc46, h⟩ := Option.bind_eq_some_iff.mp h
    refine qa_bn_cl (N1 := 1) (N2 := 5) (N := 6) (by omega) (qa_tL_told hc46) rfl rfl rfl rfl rfl rfl rfl ?_
    rcases qa_ite h with ⟨hc47, h⟩ | ⟨hc47, h⟩
    · refine qa_bn_1t (a := 239) (b := 232) hc47 rfl rfl ?_
      exact qa_bn_mono (N := 0) (by omega) <| qa_bn_lw (qa_tL_does_239  h) rfl rfl (And.intro rfl (And.intro rfl (And.intro rfl (trivial))))
    · refine qa_bn_1f (a := 239) (b := 232) hc47 rfl rfl ?_
      refine qa_bn_do (pc' := 233) rfl rfl ?_
      obtain ⟨c48, hc49, h⟩ := Option.bind_eq_some_iff.mp h
      refine qa_bn_cl (N1 := 5) (N2 := 0) (N := 5) (by omega) (qa_tL_isGone hc49) rfl rfl rfl rfl rfl rfl rfl ?_
      rcases qa_ite h with ⟨hc50, h⟩ | ⟨hc50, h⟩
      · refine qa_bn_1t (a := 243) (b := 239) hc50 rfl rfl ?_
        refine qa_bn_do (pc' := 244) rfl rfl ?_
        cases h
        exact qa_bn_rb rfl rfl rfl
      · refine qa_bn_1f (a := 243) (b := 239) hc50 rfl rfl ?_
        exact qa_bn_mono (N := 0) (by omega) <| qa_bn_lw (qa_tL_does_239  h) rfl rfl (And.intro rfl (And.intro rfl (And.intro rfl (trivial))))
set_option maxRecDepth 1000000 in
theorem qa_tL_does_296 {L : Nat} {a2 : Int32} {a3 : Int32}  {σ : qa_T} {r : (Bool × qa_T)} (h : qa_fL_does_296 a2 a3 σ = some r) : qa_Bn L (0) qa_mL_does 296 [(0, .inl (0, 1)), (1, .inr (.int a2)), (2, .inr (.int a3))] [] σ (some (.inr (.int (qa_bi r.1)))) r.2 := by
  unfold qa_fL_does_296 at h
  try dsimp only at h
  refine qa_bn_mono (N := 0) (by omega) ?_
  refine qa_bn_do (pc' := 297) rfl rfl ?_
  refine qa_bn_do (pc' := 301) rfl rfl ?_
  cases h
  exact qa_bn_rb rfl rfl rfl
set_option maxRecDepth 1000000 in
theorem qa_tL_does_329 {L : Nat} {a2 : Int32} {a3 : Int32}  {σ : qa_T} {r : (Bool × qa_T)} (h : qa_fL_does_329 a2 a3 σ = some r) : qa_Bn L (0) qa_mL_does 329 [(0, .inl (0, 1)), (1, .inr (.int a2)), (2, .inr (.int a3))] [] σ (some (.inr (.int (qa_bi r.1)))) r.2 := by
  unfold qa_fL_does_329 at h
  try dsimp only at h
  refine qa_bn_mono (N := 0) (by omega) ?_
  refine qa_bn_do (pc' := 330) rfl rfl ?_
  refine qa_bn_do (pc' := 334) rfl rfl ?_
  cases h
  exact qa_bn_rb rfl rfl rfl
set_option maxRecDepth 1000000 in
theorem qa_tL_does_364 {L : Nat} {a2 : Int32} {a3 : Int32}  {σ : qa_T} {r : (Bool × qa_T)} (h : qa_fL_does_364 a2 a3 σ = some r) : qa_Bn L (0) qa_mL_does 364 [(0, .inl (0, 1)), (1, .inr (.int a2)), (2, .inr (.int a3))] [] σ (some (.inr (.int (qa_bi r.1)))) r.2 := by
  unfold qa_fL_does_364 at h
  try dsimp only at h
  refine qa_bn_mono (N := 0) (by omega) ?_
  refine qa_bn_do (pc' := 365) rfl rfl ?_
  cases h
  exact qa_bn_rb rfl rfl rfl
set_option maxRecDepth 1000000 in
theorem qa_tL_does_481 {L : Nat} {a2 : Int32} {a3 : Int32}  {σ : qa_T} {r : (Bool × qa_T)} (h : qa_fL_does_481 a2 a3 σ = some r) : qa_Bn L (0) qa_mL_does 481 [(0, .inl (0, 1)), (1, .inr (.int a2)), (2, .inr (.int a3))] [] σ (some (.inr (.int (qa_bi r.1)))) r.2 := by
  unfold qa_fL_does_481 at h
  try dsimp only at h
  refine qa_bn_mono (N := 0) (by omega) ?_
  refine qa_bn_do (pc' := 482) rfl rfl ?_
  refine qa_bn_do (pc' := 483) rfl rfl ?_
  refine qa_bn_do (pc' := 484) rfl rfl ?_
  refine qa_bn_do (pc' := 485) rfl rfl ?_
  refine qa_bn_do (pc' := 486) rfl rfl ?_
  refine qa_bn_do (pc' := 488) rfl rfl ?_
  obtain ⟨c143, hc144, h⟩ := Option.bind_eq_some_iff.mp h
  refine qa_bn_cl (N1 := 0) (N2 := 0) (N := 0) (by omega) (qa_tL_low hc144) rfl rfl rfl rfl rfl rfl rfl ?_
  refine qa_bn_do (pc' := 492) rfl rfl ?_
  obtain ⟨c145, hc146, h⟩ := Option.bind_eq_some_iff.mp h
  refine qa_bn_cl (N1 := 0) (N2 := 0) (N := 0) (by omega) (qa_tL_isTicked hc146) rfl rfl rfl rfl rfl rfl rfl ?_
  refine qa_bn_do (pc' := 502) rfl rfl ?_
  cases h
  exact qa_bn_rb rfl rfl rfl
set_option maxRecDepth 1000000 in
theorem qa_tL_does_80 {L : Nat} {a2 : Int32} {a3 : Int32}  {x3 : Int32} {σ : qa_T} {r : (Bool × qa_T)} (h : qa_fL_does_80 a2 a3 x3 σ = some r) : qa_Bn L (6) qa_mL_does 80 [(0, .inl (0, 1)), (1, .inr (.int a2)), (2, .inr (.int a3)), (3, .inr (.int x3))] [] σ (some (.inr (.int (qa_bi r.1)))) r.2 := by
  unfold qa_fL_does_80 at h
  try dsimp only at h
  refine qa_bn_mono (N := 6) (by omega) ?_
  refine qa_bn_do (pc' := 81) rfl rfl ?_
  refine qa_bn_do (pc' := 82) rfl rfl ?_
  refine qa_bn_do (pc' := 83) rfl rfl ?_
  refine qa_bn_do (pc' := 84) rfl rfl ?_
  obtain ⟨c23, hc24, h⟩ := Option.bind_eq_some_iff.mp h
  refine qa_bn_cl (N1 := 0) (N2 := 6) (N := 6) (by omega) (qa_tL_low hc24) rfl rfl rfl rfl rfl rfl rfl ?_
  refine qa_bn_do (pc' := 89) (lv' := [(4, _), (0, _), (1, _), (2, _), (3, _)]) rfl rfl ?_
  refine qa_bn_do (pc' := 90) rfl rfl ?_
  refine qa_bn_cv (qa_tX9_places rfl) rfl rfl rfl rfl rfl rfl rfl qa_dx_0_1 ?_
  refine qa_bn_do (pc' := 95) (lv' := [(5, _), (4, _), (0, _), (1, _), (2, _), (3, _)]) rfl rfl ?_
  refine qa_bn_do (pc' := 96) rfl rfl ?_
  refine qa_bn_do (pc' := 98) rfl rfl ?_
  refine qa_bn_do (pc' := 99) rfl rfl ?_
  rcases qa_ite h with ⟨hc27, h⟩ | ⟨hc27, h⟩
  · refine qa_bn_tb (pc' := 164) (off := 65) (k := 0) rfl (by rw [hc27]; rfl) (by decide) rfl (by decide) rfl ?_
    exact qa_bn_mono (N := 2) (by omega) <| qa_bn_lw (qa_tL_does_164  h) rfl rfl (And.intro rfl (And.intro rfl (And.intro rfl (And.intro rfl (And.intro rfl (trivial))))))
  rcases qa_ite h with ⟨hc34, h⟩ | ⟨hc34, h⟩
  · refine qa_bn_tb (pc' := 164) (off := 65) (k := 1) rfl (by rw [hc34]; rfl) (by decide) rfl (by decide) rfl ?_
    exact qa_bn_mono (N := 2) (by omega) <| qa_bn_lw (qa_tL_does_164  h) rfl rfl (And.intro rfl (And.intro rfl (And.intro rfl (And.intro rfl (And.intro rfl (trivial))))))
  rcases qa_ite h with ⟨hc35, h⟩ | ⟨hc35, h⟩
  · refine qa_bn_tb (pc' := 164) (off := 65) (k := 2) rfl (by rw [hc35]; rfl) (by decide) rfl (by decide) rfl ?_
    exact qa_bn_mono (N := 2) (by omega) <| qa_bn_lw (qa_tL_does_164  h) rfl rfl (And.intro rfl (And.intro rfl (And.intro rfl (And.intro rfl (And.intro rfl (trivial))))))
  rcases qa_ite h with ⟨hc36, h⟩ | ⟨hc36, h⟩
  · refine qa_bn_tb (pc' := 194) (off := 95) (k := 3) rfl (by rw [hc36]; rfl) (by decide) rfl (by decide) rfl ?_
    refine qa_bn_do (pc' := 196) rfl rfl ?_
    refine qa_bn_do (pc' := 197) rfl rfl ?_
    rcases qa_ite h with ⟨hc37, h⟩ | ⟨hc37, h⟩
    · refine qa_bn_1t (a := 213) (b := 200) hc37 rfl rfl ?_
      exact qa_bn_mono (N := 0) (by omega) <| qa_bn_lw (qa_tL_does_213  h) rfl rfl (And.intro rfl (And.intro rfl (And.intro rfl (trivial))))
    · refine qa_bn_1f (a := 213) (b := 200) hc37 rfl rfl ?_
      refine qa_bn_do (pc' := 201) rfl rfl ?_
      refine qa_bn_do (pc' := 202) rfl rfl ?_
      refine qa_bn_do (pc' := 204) rfl rfl ?_
      obtain ⟨c38, hc39, h⟩ := Option.bind_eq_some_iff.mp h
      refine qa_bn_cl (N1 := 0) (N2 := 6) (N := 6) (by omega) (qa_tL_low hc39) rfl rfl rfl rfl rfl rfl rfl ?_
      obtain ⟨c40, hc41, h⟩ := Option.bind_eq_some_iff.mp h
      refine qa_bn_cl (N1 := 2) (N2 := 4) (N := 6) (by omega) (qa_tL_isTaken hc41) rfl rfl rfl rfl rfl rfl rfl ?_
      rcases qa_ite h with ⟨hc42, h⟩ | ⟨hc42, h⟩
      · refine qa_bn_1t (a := 217) (b := 213) hc42 rfl rfl ?_
        refine qa_bn_do (pc' := 218) rfl rfl ?_
        cases h
        exact qa_bn_rb rfl rfl rfl
      · refine qa_bn_1f (a := 217) (b := 213) hc42 rfl rfl ?_
        exact qa_bn_mono (N := 0) (by omega) <| qa_bn_lw (qa_tL_does_213  h) rfl rfl (And.intro rfl (And.intro rfl (And.intro rfl (trivial))))
  rcases qa_ite h with ⟨hc43, h⟩ | ⟨hc43, h⟩
  · refine qa_bn_tb (pc' := 219) (off := 120) (k := 4) rfl (by rw [hc43]; rfl) (by decide) rfl (by decide) rfl ?_
    exact qa_bn_mono (N := 6) (by omega) <| qa_bn_lw (qa_tL_does_219  h) rfl rfl (And.intro rfl (And.intro rfl (And.intro rfl (And.intro rfl (trivial)))))
  rcases qa_ite h with ⟨hc51, h⟩ | ⟨hc51, h⟩
  · refine qa_bn_tb (pc' := 219) (off := 120) (k := 5) rfl (by rw [hc51]; rfl) (by decide) rfl (by decide) rfl ?_
    exact qa_bn_mono (N := 6) (by omega) <| qa_bn_lw (qa_tL_does_219  h) rfl rfl (And.intro rfl (And.intro rfl (And.intro rfl (And.intro rfl (trivial)))))
  rcases qa_ite h with ⟨hc52, h⟩ | ⟨hc52, h⟩
  · refine qa_bn_tb (pc' := 219) (off := 120) (k := 6) rfl (by rw [hc52]; rfl) (by decide) rfl (by decide) rfl ?_
    exact qa_bn_mono (N := 6) (by omega) <| qa_bn_lw (qa_tL_does_219  h) rfl rfl (And.intro rfl (And.intro rfl (And.intro rfl (And.intro rfl (trivial)))))
  rcases qa_ite h with ⟨hc53, h⟩ | ⟨hc53, h⟩
  · refine qa_bn_tb (pc' := 219) (off := 120) (k := 7) rfl (by rw [hc53]; rfl) (by decide) rfl (by decide) rfl ?_
    exact qa_bn_mono (N := 6) (by omega) <| qa_bn_lw (qa_tL_does_219  h) rfl rfl (And.intro rfl (And.intro rfl (And.intro rfl (And.intro rfl (trivial)))))
  rcases qa_ite h with ⟨hc54, h⟩ | ⟨hc54, h⟩
  · refine qa_bn_tb (pc' := 245) (off := 146) (k := 8) rfl (by rw [hc54]; rfl) (by decide) rfl (by decide) rfl ?_
    refine qa_bn_do (pc' := 246) rfl rfl ?_
    refine qa_bn_do (pc' := 248) rfl rfl ?_
    obtain ⟨⟨c55, σ58⟩, hc56, h⟩ := Option.bind_eq_some_iff.mp h
    have hc56 := Option.some.inj hc56
    cases c55 with
    | inl r57 =>
      try dsimp only at h
      refine qa_bn_cv (qa_tX9_isLoaded hc56) rfl rfl rfl rfl rfl rfl rfl qa_dx_0_1 ?_
      rcases qa_ite h with ⟨hc60, h⟩ | ⟨hc60, h⟩
      · refine qa_bn_1t (a := 296) (b := 254) hc60 rfl rfl ?_
        exact qa_bn_mono (N := 0) (by omega) <| qa_bn_lw (qa_tL_does_296  h) rfl rfl (And.intro rfl (And.intro rfl (And.intro rfl (trivial))))
      · refine qa_bn_1f (a := 296) (b := 254) hc60 rfl rfl ?_
        refine qa_bn_do (pc' := 255) rfl rfl ?_
        refine qa_bn_do (pc' := 256) rfl rfl ?_
        obtain ⟨c61, hc62, h⟩ := Option.bind_eq_some_iff.mp h
        refine qa_bn_cl (N1 := 1) (N2 := 5) (N := 6) (by omega) (qa_tL_told hc62) rfl rfl rfl rfl rfl rfl rfl ?_
        refine qa_bn_do (pc' := 261) rfl rfl ?_
        rcases qa_ite h with ⟨hc63, h⟩ | ⟨hc63, h⟩
        · refine qa_bn_1t (a := 296) (b := 264) hc63 rfl rfl ?_
          exact qa_bn_mono (N := 0) (by omega) <| qa_bn_lw (qa_tL_does_296  h) rfl rfl (And.intro rfl (And.intro rfl (And.intro rfl (trivial))))
        · refine qa_bn_1f (a := 296) (b := 264) hc63 rfl rfl ?_
          refine qa_bn_do (pc' := 265) rfl rfl ?_
          refine qa_bn_do (pc' := 266) rfl rfl ?_
          obtain ⟨c64, hc65, h⟩ := Option.bind_eq_some_iff.mp h
          refine qa_bn_cl (N1 := 1) (N2 := 4) (N := 5) (by omega) (qa_tL_told hc65) rfl rfl rfl rfl rfl rfl rfl ?_
          refine qa_bn_do (pc' := 271) rfl rfl ?_
          rcases qa_ite h with ⟨hc66, h⟩ | ⟨hc66, h⟩
          · refine qa_bn_1t (a := 296) (b := 274) hc66 rfl rfl ?_
            exact qa_bn_mono (N := 0) (by omega) <| qa_bn_lw (qa_tL_does_296  h) rfl rfl (And.intro rfl (And.intro rfl (And.intro rfl (trivial))))
          · refine qa_bn_1f (a := 296) (b := 274) hc66 rfl rfl ?_
            refine qa_bn_do (pc' := 275) rfl rfl ?_
            refine qa_bn_do (pc' := 277) rfl rfl ?_
            obtain ⟨c67, hc68, h⟩ := Option.bind_eq_some_iff.mp h
            refine qa_bn_cl (N1 := 0) (N2 := 4) (N := 4) (by omega) (qa_tL_isAsked hc68) rfl rfl rfl rfl rfl rfl rfl ?_
            rcases qa_ite h with ⟨hc69, h⟩ | ⟨hc69, h⟩
            · refine qa_bn_1t (a := 296) (b := 283) hc69 rfl rfl ?_
              exact qa_bn_mono (N := 0) (by omega) <| qa_bn_lw (qa_tL_does_296  h) rfl rfl (And.intro rfl (And.intro rfl (And.intro rfl (trivial))))
            · refine qa_bn_1f (a := 296) (b := 283) hc69 rfl rfl ?_
              refine qa_bn_do (pc' := 284) rfl rfl ?_
              refine qa_bn_do (pc' := 286) rfl rfl ?_
              obtain ⟨⟨c70, σ73⟩, hc71, h⟩ := Option.bind_eq_some_iff.mp h
              cases c70 with
              | inl r72 =>
                try dsimp only at h
                refine qa_bn_cv (qa_tX9_ask hc71) rfl rfl rfl rfl rfl rfl rfl qa_dx_0_1 ?_
                refine qa_bn_do (pc' := 290) rfl rfl ?_
                refine qa_bn_cv (qa_tX9_asked rfl) rfl rfl rfl rfl rfl rfl rfl qa_dx_0_1 ?_
                rcases qa_ite h with ⟨hc75, h⟩ | ⟨hc75, h⟩
                · refine qa_bn_1t (a := 300) (b := 296) hc75 rfl rfl ?_
                  refine qa_bn_do (pc' := 301) rfl rfl ?_
                  cases h
                  exact qa_bn_rb rfl rfl rfl
                · refine qa_bn_1f (a := 300) (b := 296) hc75 rfl rfl ?_
                  exact qa_bn_mono (N := 0) (by omega) <| qa_bn_lw (qa_tL_does_296  h) rfl rfl (And.intro rfl (And.intro rfl (And.intro rfl (trivial))))
              | inr E74 =>
                try dsimp only at h
                cases h
    | inr E59 =>
      try dsimp only at h
      cases h
  rcases qa_ite h with ⟨hc76, h⟩ | ⟨hc76, h⟩
  · refine qa_bn_tb (pc' := 302) (off := 203) (k := 9) rfl (by rw [hc76]; rfl) (by decide) rfl (by decide) rfl ?_
    refine qa_bn_do (pc' := 303) rfl rfl ?_
    refine qa_bn_do (pc' := 305) rfl rfl ?_
    obtain ⟨⟨c77, σ80⟩, hc78, h⟩ := Option.bind_eq_some_iff.mp h
    have hc78 := Option.some.inj hc78
    cases c77 with
    | inl r79 =>
      try dsimp only at h
      refine qa_bn_cv (qa_tX9_isLoaded hc78) rfl rfl rfl rfl rfl rfl rfl qa_dx_0_1 ?_
      rcases qa_ite h with ⟨hc82, h⟩ | ⟨hc82, h⟩
      · refine qa_bn_1t (a := 329) (b := 311) hc82 rfl rfl ?_
        exact qa_bn_mono (N := 0) (by omega) <| qa_bn_lw (qa_tL_does_329  h) rfl rfl (And.intro rfl (And.intro rfl (And.intro rfl (trivial))))
      · refine qa_bn_1f (a := 329) (b := 311) hc82 rfl rfl ?_
        refine qa_bn_do (pc' := 312) rfl rfl ?_
        refine qa_bn_do (pc' := 314) rfl rfl ?_
        obtain ⟨⟨c83, σ86⟩, hc84, h⟩ := Option.bind_eq_some_iff.mp h
        have hc84 := Option.some.inj hc84
        cases c83 with
        | inl r85 =>
          try dsimp only at h
          refine qa_bn_cv (qa_tX9_isOnShow hc84) rfl rfl rfl rfl rfl rfl rfl qa_dx_0_1 ?_
          rcases qa_ite h with ⟨hc88, h⟩ | ⟨hc88, h⟩
          · refine qa_bn_1t (a := 329) (b := 320) hc88 rfl rfl ?_
            exact qa_bn_mono (N := 0) (by omega) <| qa_bn_lw (qa_tL_does_329  h) rfl rfl (And.intro rfl (And.intro rfl (And.intro rfl (trivial))))
          · refine qa_bn_1f (a := 329) (b := 320) hc88 rfl rfl ?_
            refine qa_bn_do (pc' := 321) rfl rfl ?_
            refine qa_bn_do (pc' := 323) rfl rfl ?_
            obtain ⟨c89, hc90, h⟩ := Option.bind_eq_some_iff.mp h
            refine qa_bn_cl (N1 := 1) (N2 := 5) (N := 6) (by omega) (qa_tL_isBurnt hc90) rfl rfl rfl rfl rfl rfl rfl ?_
            rcases qa_ite h with ⟨hc91, h⟩ | ⟨hc91, h⟩
            · refine qa_bn_1t (a := 333) (b := 329) hc91 rfl rfl ?_
              refine qa_bn_do (pc' := 334) rfl rfl ?_
              cases h
              exact qa_bn_rb rfl rfl rfl
            · refine qa_bn_1f (a := 333) (b := 329) hc91 rfl rfl ?_
              exact qa_bn_mono (N := 0) (by omega) <| qa_bn_lw (qa_tL_does_329  h) rfl rfl (And.intro rfl (And.intro rfl (And.intro rfl (trivial))))
        | inr E87 =>
          try dsimp only at h
          cases h
    | inr E81 =>
      try dsimp only at h
      cases h
  rcases qa_ite h with ⟨hc92, h⟩ | ⟨hc92, h⟩
  · refine qa_bn_tb (pc' := 335) (off := 236) (k := 10) rfl (by rw [hc92]; rfl) (by decide) rfl (by decide) rfl ?_
    refine qa_bn_do (pc' := 336) rfl rfl ?_
    refine qa_bn_do (pc' := 337) rfl rfl ?_
    refine qa_bn_do (pc' := 338) rfl rfl ?_
    obtain ⟨c93, hc94, h⟩ := Option.bind_eq_some_iff.mp h
    refine qa_bn_cl (N1 := 0) (N2 := 6) (N := 6) (by omega) (qa_tL_low hc94) rfl rfl rfl rfl rfl rfl rfl ?_
    obtain ⟨⟨c95, σ98⟩, hc96, h⟩ := Option.bind_eq_some_iff.mp h
    cases c95 with
    | inl r97 =>
      try dsimp only at h
      refine qa_bn_cv (qa_tX9_changeOrder hc96) rfl rfl rfl rfl rfl rfl rfl qa_dx_0_1 ?_
      refine qa_bn_do (pc' := 345) rfl rfl ?_
      rcases qa_ite h with ⟨hc100, h⟩ | ⟨hc100, h⟩
      · refine qa_bn_1t (a := 364) (b := 348) hc100 rfl rfl ?_
        exact qa_bn_mono (N := 0) (by omega) <| qa_bn_lw (qa_tL_does_364  h) rfl rfl (And.intro rfl (And.intro rfl (And.intro rfl (trivial))))
      · refine qa_bn_1f (a := 364) (b := 348) hc100 rfl rfl ?_
        refine qa_bn_do (pc' := 349) rfl rfl ?_
        refine qa_bn_cv (qa_tX9_order rfl) rfl rfl rfl rfl rfl rfl rfl qa_dx_0_1 ?_
        refine qa_bn_do (pc' := 353) rfl rfl ?_
        refine qa_bn_do (pc' := 354) rfl rfl ?_
        obtain ⟨c101, hc102, h⟩ := Option.bind_eq_some_iff.mp h
        refine qa_bn_cl (N1 := 0) (N2 := 6) (N := 6) (by omega) (qa_tL_low hc102) rfl rfl rfl rfl rfl rfl rfl ?_
        rcases qa_ite h with ⟨hc103, h⟩ | ⟨hc103, h⟩
        · refine qa_bn_1t (a := 364) (b := 360) hc103 rfl rfl ?_
          exact qa_bn_mono (N := 0) (by omega) <| qa_bn_lw (qa_tL_does_364  h) rfl rfl (And.intro rfl (And.intro rfl (And.intro rfl (trivial))))
        · refine qa_bn_1f (a := 364) (b := 360) hc103 rfl rfl ?_
          refine qa_bn_do (pc' := 361) rfl rfl ?_
          refine qa_bn_do (pc' := 365) rfl rfl ?_
          cases h
          exact qa_bn_rb rfl rfl rfl
    | inr E99 =>
      try dsimp only at h
      cases h
  rcases qa_ite h with ⟨hc104, h⟩ | ⟨hc104, h⟩
  · refine qa_bn_tb (pc' := 366) (off := 267) (k := 11) rfl (by rw [hc104]; rfl) (by decide) rfl (by decide) rfl ?_
    refine qa_bn_do (pc' := 367) rfl rfl ?_
    refine qa_bn_do (pc' := 368) rfl rfl ?_
    refine qa_bn_do (pc' := 369) rfl rfl ?_
    rcases qa_ite h with ⟨hc105, h⟩ | ⟨hc105, h⟩
    · refine qa_bn_1t (a := 394) (b := 372) hc105 rfl rfl ?_
      refine qa_bn_do (pc' := 395) rfl rfl ?_
      refine qa_bn_do (pc' := 396) rfl rfl ?_
      refine qa_bn_do (pc' := 397) rfl rfl ?_
      refine qa_bn_do (pc' := 398) rfl rfl ?_
      refine qa_bn_do (pc' := 400) rfl rfl ?_
      obtain ⟨c106, hc107, h⟩ := Option.bind_eq_some_iff.mp h
      refine qa_bn_cl (N1 := 0) (N2 := 6) (N := 6) (by omega) (qa_tL_low hc107) rfl rfl rfl rfl rfl rfl rfl ?_
      obtain ⟨⟨c108, σ111⟩, hc109, h⟩ := Option.bind_eq_some_iff.mp h
      cases c108 with
      | inl r110 =>
        try dsimp only at h
        refine qa_bn_cv (qa_tX9_changeGlow hc109) rfl rfl rfl rfl rfl rfl rfl qa_dx_0_1 ?_
        rcases qa_ite h with ⟨hc113, h⟩ | ⟨hc113, h⟩
        · refine qa_bn_1t (a := 413) (b := 409) hc113 rfl rfl ?_
          refine qa_bn_do (pc' := 414) rfl rfl ?_
          cases h
          exact qa_bn_rb rfl rfl rfl
        · refine qa_bn_1f (a := 413) (b := 409) hc113 rfl rfl ?_
          refine qa_bn_do (pc' := 410) rfl rfl ?_
          refine qa_bn_do (pc' := 414) rfl rfl ?_
          cases h
          exact qa_bn_rb rfl rfl rfl
      | inr E112 =>
        try dsimp only at h
        cases h
    · refine qa_bn_1f (a := 394) (b := 372) hc105 rfl rfl ?_
      refine qa_bn_do (pc' := 373) rfl rfl ?_
      refine qa_bn_do (pc' := 374) rfl rfl ?_
      refine qa_bn_do (pc' := 375) rfl rfl ?_
      refine qa_bn_do (pc' := 376) rfl rfl ?_
      refine qa_bn_do (pc' := 377) rfl rfl ?_
      obtain ⟨c114, hc115, h⟩ := Option.bind_eq_some_iff.mp h
      refine qa_bn_cl (N1 := 0) (N2 := 6) (N := 6) (by omega) (qa_tL_low hc115) rfl rfl rfl rfl rfl rfl rfl ?_
      obtain ⟨⟨c116, σ119⟩, hc117, h⟩ := Option.bind_eq_some_iff.mp h
      cases c116 with
      | inl r118 =>
        try dsimp only at h
        refine qa_bn_cv (qa_tX9_changeAhead hc117) rfl rfl rfl rfl rfl rfl rfl qa_dx_0_1 ?_
        rcases qa_ite h with ⟨hc121, h⟩ | ⟨hc121, h⟩
        · refine qa_bn_1t (a := 390) (b := 386) hc121 rfl rfl ?_
          refine qa_bn_do (pc' := 391) rfl rfl ?_
          refine qa_bn_do (pc' := 414) rfl rfl ?_
          cases h
          exact qa_bn_rb rfl rfl rfl
        · refine qa_bn_1f (a := 390) (b := 386) hc121 rfl rfl ?_
          refine qa_bn_do (pc' := 387) rfl rfl ?_
          refine qa_bn_do (pc' := 414) rfl rfl ?_
          cases h
          exact qa_bn_rb rfl rfl rfl
      | inr E120 =>
        try dsimp only at h
        cases h
  rcases qa_ite h with ⟨hc122, h⟩ | ⟨hc122, h⟩
  · refine qa_bn_tb (pc' := 415) (off := 316) (k := 12) rfl (by rw [hc122]; rfl) (by decide) rfl (by decide) rfl ?_
    refine qa_bn_do (pc' := 416) rfl rfl ?_
    refine qa_bn_do (pc' := 417) rfl rfl ?_
    refine qa_bn_do (pc' := 418) rfl rfl ?_
    rcases qa_ite h with ⟨hc123, h⟩ | ⟨hc123, h⟩
    · refine qa_bn_1t (a := 444) (b := 421) hc123 rfl rfl ?_
      refine qa_bn_do (pc' := 445) rfl rfl ?_
      refine qa_bn_do (pc' := 448) rfl rfl ?_
      refine qa_bn_do (pc' := 449) rfl rfl ?_
      refine qa_bn_do (pc' := 451) rfl rfl ?_
      obtain ⟨c124, hc125, h⟩ := Option.bind_eq_some_iff.mp h
      refine qa_bn_cl (N1 := 0) (N2 := 6) (N := 6) (by omega) (qa_tL_low hc125) rfl rfl rfl rfl rfl rfl rfl ?_
      refine qa_bn_do (pc' := 455) rfl rfl ?_
      obtain ⟨⟨c126, σ129⟩, hc127, h⟩ := Option.bind_eq_some_iff.mp h
      cases c126 with
      | inl r128 =>
        try dsimp only at h
        refine qa_bn_cv (qa_tX9_changeMemory hc127) rfl rfl rfl rfl rfl rfl rfl qa_dx_0_1 ?_
        rcases qa_ite h with ⟨hc131, h⟩ | ⟨hc131, h⟩
        · refine qa_bn_1t (a := 465) (b := 461) hc131 rfl rfl ?_
          refine qa_bn_do (pc' := 466) rfl rfl ?_
          cases h
          exact qa_bn_rb rfl rfl rfl
        · refine qa_bn_1f (a := 465) (b := 461) hc131 rfl rfl ?_
          refine qa_bn_do (pc' := 462) rfl rfl ?_
          refine qa_bn_do (pc' := 466) rfl rfl ?_
          cases h
          exact qa_bn_rb rfl rfl rfl
      | inr E130 =>
        try dsimp only at h
        cases h
    · refine qa_bn_1f (a := 444) (b := 421) hc123 rfl rfl ?_
      refine qa_bn_do (pc' := 422) rfl rfl ?_
      refine qa_bn_do (pc' := 423) rfl rfl ?_
      refine qa_bn_do (pc' := 424) rfl rfl ?_
      refine qa_bn_do (pc' := 425) rfl rfl ?_
      refine qa_bn_do (pc' := 427) rfl rfl ?_
      obtain ⟨c132, hc133, h⟩ := Option.bind_eq_some_iff.mp h
      refine qa_bn_cl (N1 := 0) (N2 := 6) (N := 6) (by omega) (qa_tL_low hc133) rfl rfl rfl rfl rfl rfl rfl ?_
      obtain ⟨⟨c134, σ137⟩, hc135, h⟩ := Option.bind_eq_some_iff.mp h
      cases c134 with
      | inl r136 =>
        try dsimp only at h
        refine qa_bn_cv (qa_tX9_changePace hc135) rfl rfl rfl rfl rfl rfl rfl qa_dx_0_1 ?_
        rcases qa_ite h with ⟨hc139, h⟩ | ⟨hc139, h⟩
        · refine qa_bn_1t (a := 440) (b := 436) hc139 rfl rfl ?_
          refine qa_bn_do (pc' := 441) rfl rfl ?_
          refine qa_bn_do (pc' := 466) rfl rfl ?_
          cases h
          exact qa_bn_rb rfl rfl rfl
        · refine qa_bn_1f (a := 440) (b := 436) hc139 rfl rfl ?_
          refine qa_bn_do (pc' := 437) rfl rfl ?_
          refine qa_bn_do (pc' := 466) rfl rfl ?_
          cases h
          exact qa_bn_rb rfl rfl rfl
      | inr E138 =>
        try dsimp only at h
        cases h
  refine qa_bn_td (pc' := 467) rfl (qa_out 12 (fun k hk => match k, hk with
    | 0, _ => lv_neT hc27 (by decide)
    | 1, _ => lv_neT hc34 (by decide)
    | 2, _ => lv_neT hc35 (by decide)
    | 3, _ => lv_neT hc36 (by decide)
    | 4, _ => lv_neT hc43 (by decide)
    | 5, _ => lv_neT hc51 (by decide)
    | 6, _ => lv_neT hc52 (by decide)
    | 7, _ => lv_neT hc53 (by decide)
    | 8, _ => lv_neT hc54 (by decide)
    | 9, _ => lv_neT hc76 (by decide)
    | 10, _ => lv_neT hc92 (by decide)
    | 11, _ => lv_neT hc104 (by decide)
    | 12, _ => lv_neT hc122 (by decide)
    | k + 13, h => absurd h (by omega))) (by decide) rfl ?_
  refine qa_bn_do (pc' := 468) rfl rfl ?_
  refine qa_bn_do (pc' := 469) rfl rfl ?_
  obtain ⟨c140, hc141, h⟩ := Option.bind_eq_some_iff.mp h
  refine qa_bn_cl (N1 := 1) (N2 := 5) (N := 6) (by omega) (qa_tL_told hc141) rfl rfl rfl rfl rfl rfl rfl ?_
  rcases qa_ite h with ⟨hc142, h⟩ | ⟨hc142, h⟩
  · refine qa_bn_1t (a := 481) (b := 475) hc142 rfl rfl ?_
    exact qa_bn_mono (N := 0) (by omega) <| qa_bn_lw (qa_tL_does_481  h) rfl rfl (And.intro rfl (And.intro rfl (And.intro rfl (trivial))))
  · refine qa_bn_1f (a := 481) (b := 475) hc142 rfl rfl ?_
    refine qa_bn_do (pc' := 476) rfl rfl ?_
    refine qa_bn_do (pc' := 477) rfl rfl ?_
    refine qa_bn_do (pc' := 478) rfl rfl ?_
    rcases qa_ite h with ⟨hc147, h⟩ | ⟨hc147, h⟩
    · refine qa_bn_1t (a := 498) (b := 481) hc147 rfl rfl ?_
      refine qa_bn_do (pc' := 499) rfl rfl ?_
      obtain ⟨c148, hc149, h⟩ := Option.bind_eq_some_iff.mp h
      refine qa_bn_cl (N1 := 4) (N2 := 1) (N := 5) (by omega) (qa_tL_isAwaited hc149) rfl rfl rfl rfl rfl rfl rfl ?_
      cases h
      exact qa_bn_rb rfl rfl rfl
    · refine qa_bn_1f (a := 498) (b := 481) hc147 rfl rfl ?_
      exact qa_bn_mono (N := 0) (by omega) <| qa_bn_lw (qa_tL_does_481  h) rfl rfl (And.intro rfl (And.intro rfl (And.intro rfl (trivial))))
set_option maxRecDepth 1000000 in
theorem qa_tL_does {L : Nat} {a2 : Int32} {a3 : Int32}  {σ : qa_T} {r : (Bool × qa_T)} (h : qa_fL_does a2 a3 σ = some r) : qa_Bn L 6 qa_mL_does 0 (qa_ag 0 [.inl (0, 1), .inr (.int a2), .inr (.int a3)]) [] σ (some (.inr (.int (qa_bi r.1)))) r.2 := by
  unfold qa_fL_does at h
  try dsimp only at h
  show qa_Bn L 6 qa_mL_does 0 [(0, .inl (0, 1)), (1, .inr (.int a2)), (2, .inr (.int a3))] [] σ _ _
  refine qa_bn_do (pc' := 1) rfl rfl ?_
  refine qa_bn_cv (qa_tX9_slides rfl) rfl rfl rfl rfl rfl rfl rfl qa_dx_0_1 ?_
  refine qa_bn_do (pc' := 5) (lv' := [(3, _), (0, _), (1, _), (2, _)]) rfl rfl ?_
  refine qa_bn_do (pc' := 6) rfl rfl ?_
  refine qa_bn_do (pc' := 7) rfl rfl ?_
  rcases qa_ite h with ⟨hc2, h⟩ | ⟨hc2, h⟩
  · refine qa_bn_1t (a := 23) (b := 10) hc2 rfl rfl ?_
    exact qa_bn_mono (N := 0) (by omega) <| qa_bn_lw (qa_tL_does_23  h) rfl rfl (And.intro rfl (And.intro rfl (And.intro rfl (And.intro rfl (trivial)))))
  · refine qa_bn_1f (a := 23) (b := 10) hc2 rfl rfl ?_
    refine qa_bn_do (pc' := 11) rfl rfl ?_
    refine qa_bn_do (pc' := 13) rfl rfl ?_
    refine qa_bn_do (pc' := 14) rfl rfl ?_
    rcases qa_ite h with ⟨hc22, h⟩ | ⟨hc22, h⟩
    · refine qa_bn_1t (a := 80) (b := 17) hc22 rfl rfl ?_
      exact qa_bn_mono (N := 6) (by omega) <| qa_bn_lw (qa_tL_does_80  h) rfl rfl (And.intro rfl (And.intro rfl (And.intro rfl (And.intro rfl (trivial)))))
    · refine qa_bn_1f (a := 80) (b := 17) hc22 rfl rfl ?_
      refine qa_bn_do (pc' := 18) rfl rfl ?_
      refine qa_bn_do (pc' := 20) rfl rfl ?_
      rcases qa_ite h with ⟨hc150, h⟩ | ⟨hc150, h⟩
      · refine qa_bn_1t (a := 80) (b := 23) hc150 rfl rfl ?_
        exact qa_bn_mono (N := 6) (by omega) <| qa_bn_lw (qa_tL_does_80  h) rfl rfl (And.intro rfl (And.intro rfl (And.intro rfl (And.intro rfl (trivial)))))
      · refine qa_bn_1f (a := 80) (b := 23) hc150 rfl rfl ?_
        exact qa_bn_mono (N := 0) (by omega) <| qa_bn_lw (qa_tL_does_23  h) rfl rfl (And.intro rfl (And.intro rfl (And.intro rfl (And.intro rfl (trivial)))))
noncomputable def qa_fL_isMemorySo_440  (σ : qa_T) : Option (Bool × qa_T) :=
    some (false, σ)
noncomputable def qa_fL_isMemorySo_436  (σ : qa_T) : Option (Bool × qa_T) :=
    some (true, σ)
noncomputable def qa_fL_isMemorySo_416  (σ : qa_T) : Option (Bool × qa_T) :=
    (qa_fL_told (Int32.ofInt 3) σ).bind fun c17 =>
    if c17.1 < 0 then
      qa_fL_isMemorySo_436  c17.2
    else
      (qa_fL_told (Int32.ofInt 3) c17.2).bind fun c20 =>
      (some (qa_fX9_isLoaded c20.1 c20.2)).bind fun c22 => match c22 with
        | (.inl r24, σ25) =>
          if ¬ (qa_bi r24) = 0 then
            qa_fL_isMemorySo_440  σ25
          else
            qa_fL_isMemorySo_436  σ25
        | (.inr E26, σ25) =>
          none
noncomputable def qa_fL_isMemorySo_385  (σ : qa_T) : Option (Bool × qa_T) :=
    if ¬ (Int32.ofInt 0) = (Int32.ofInt 0) then
      qa_fL_isMemorySo_440  σ
    else
      (qa_fL_told (Int32.ofInt 0) σ).bind fun c14 =>
      if c14.1 < 0 then
        qa_fL_isMemorySo_416  c14.2
      else
        (qa_fL_told (Int32.ofInt 0) c14.2).bind fun c28 =>
        (some (qa_fX9_isLoaded c28.1 c28.2)).bind fun c30 => match c30 with
          | (.inl r32, σ33) =>
            if ¬ (qa_bi r32) = 0 then
              qa_fL_isMemorySo_440  σ33
            else
              (qa_fL_told (Int32.ofInt 3) σ33).bind fun c36 =>
              if c36.1 < 0 then
                qa_fL_isMemorySo_440  c36.2
              else
                qa_fL_isMemorySo_416  c36.2
          | (.inr E34, σ33) =>
            none
noncomputable def qa_fL_isMemorySo_385_1  (σ : qa_T) : Option (Bool × qa_T) :=
    if ¬ (Int32.ofInt 0) = (Int32.ofInt 1) then
      qa_fL_isMemorySo_440  σ
    else
      (qa_fL_told (Int32.ofInt 0) σ).bind fun c40 =>
      if c40.1 < 0 then
        qa_fL_isMemorySo_416  c40.2
      else
        (qa_fL_told (Int32.ofInt 0) c40.2).bind fun c43 =>
        (some (qa_fX9_isLoaded c43.1 c43.2)).bind fun c45 => match c45 with
          | (.inl r47, σ48) =>
            if ¬ (qa_bi r47) = 0 then
              qa_fL_isMemorySo_440  σ48
            else
              (qa_fL_told (Int32.ofInt 3) σ48).bind fun c51 =>
              if c51.1 < 0 then
                qa_fL_isMemorySo_440  c51.2
              else
                qa_fL_isMemorySo_416  c51.2
          | (.inr E49, σ48) =>
            none
noncomputable def qa_fL_isMemorySo_372  (σ : qa_T) : Option (Bool × qa_T) :=
    (qa_fL_told (Int32.ofInt 3) σ).bind fun c10 =>
    if 0 ≤ c10.1 then
      qa_fL_isMemorySo_385  c10.2
    else
      qa_fL_isMemorySo_385_1  c10.2
noncomputable def qa_fL_isMemorySo_385_2  (σ : qa_T) : Option (Bool × qa_T) :=
    if ¬ (Int32.ofInt 1) = (Int32.ofInt 0) then
      qa_fL_isMemorySo_440  σ
    else
      (qa_fL_told (Int32.ofInt 0) σ).bind fun c58 =>
      if c58.1 < 0 then
        qa_fL_isMemorySo_416  c58.2
      else
        (qa_fL_told (Int32.ofInt 0) c58.2).bind fun c61 =>
        (some (qa_fX9_isLoaded c61.1 c61.2)).bind fun c63 => match c63 with
          | (.inl r65, σ66) =>
            if ¬ (qa_bi r65) = 0 then
              qa_fL_isMemorySo_440  σ66
            else
              (qa_fL_told (Int32.ofInt 3) σ66).bind fun c69 =>
              if c69.1 < 0 then
                qa_fL_isMemorySo_440  c69.2
              else
                qa_fL_isMemorySo_416  c69.2
          | (.inr E67, σ66) =>
            none
noncomputable def qa_fL_isMemorySo_385_3  (σ : qa_T) : Option (Bool × qa_T) :=
    if ¬ (Int32.ofInt 1) = (Int32.ofInt 1) then
      qa_fL_isMemorySo_440  σ
    else
      (qa_fL_told (Int32.ofInt 0) σ).bind fun c73 =>
      if c73.1 < 0 then
        qa_fL_isMemorySo_416  c73.2
      else
        (qa_fL_told (Int32.ofInt 0) c73.2).bind fun c76 =>
        (some (qa_fX9_isLoaded c76.1 c76.2)).bind fun c78 => match c78 with
          | (.inl r80, σ81) =>
            if ¬ (qa_bi r80) = 0 then
              qa_fL_isMemorySo_440  σ81
            else
              (qa_fL_told (Int32.ofInt 3) σ81).bind fun c84 =>
              if c84.1 < 0 then
                qa_fL_isMemorySo_440  c84.2
              else
                qa_fL_isMemorySo_416  c84.2
          | (.inr E82, σ81) =>
            none
noncomputable def qa_fL_isMemorySo_372_1  (σ : qa_T) : Option (Bool × qa_T) :=
    (qa_fL_told (Int32.ofInt 3) σ).bind fun c54 =>
    if 0 ≤ c54.1 then
      qa_fL_isMemorySo_385_2  c54.2
    else
      qa_fL_isMemorySo_385_3  c54.2
noncomputable def qa_fL_isMemorySo_357  (σ : qa_T) : Option (Bool × qa_T) :=
    if ¬ (Int32.ofInt 0) = (Int32.ofInt 0) then
      qa_fL_isMemorySo_440  σ
    else
      if ¬ (qa_fX9_loadLeft σ) = 0 then
        qa_fL_isMemorySo_372  σ
      else
        qa_fL_isMemorySo_372_1  σ
noncomputable def qa_fL_isMemorySo_357_1  (σ : qa_T) : Option (Bool × qa_T) :=
    if ¬ (Int32.ofInt 0) = (Int32.ofInt 1) then
      qa_fL_isMemorySo_440  σ
    else
      if ¬ (qa_fX9_loadLeft σ) = 0 then
        qa_fL_isMemorySo_372  σ
      else
        qa_fL_isMemorySo_372_1  σ
noncomputable def qa_fL_isMemorySo_344  (σ : qa_T) : Option (Bool × qa_T) :=
    (qa_fL_told (Int32.ofInt 2) σ).bind fun c5 =>
    if 0 ≤ c5.1 then
      qa_fL_isMemorySo_357  c5.2
    else
      qa_fL_isMemorySo_357_1  c5.2
noncomputable def qa_fL_isMemorySo_357_2  (σ : qa_T) : Option (Bool × qa_T) :=
    if ¬ (Int32.ofInt 1) = (Int32.ofInt 0) then
      qa_fL_isMemorySo_440  σ
    else
      if ¬ (qa_fX9_loadLeft σ) = 0 then
        qa_fL_isMemorySo_372  σ
      else
        qa_fL_isMemorySo_372_1  σ
noncomputable def qa_fL_isMemorySo_357_3  (σ : qa_T) : Option (Bool × qa_T) :=
    if ¬ (Int32.ofInt 1) = (Int32.ofInt 1) then
      qa_fL_isMemorySo_440  σ
    else
      if ¬ (qa_fX9_loadLeft σ) = 0 then
        qa_fL_isMemorySo_372  σ
      else
        qa_fL_isMemorySo_372_1  σ
noncomputable def qa_fL_isMemorySo_344_1  (σ : qa_T) : Option (Bool × qa_T) :=
    (qa_fL_told (Int32.ofInt 2) σ).bind fun c89 =>
    if 0 ≤ c89.1 then
      qa_fL_isMemorySo_357_2  c89.2
    else
      qa_fL_isMemorySo_357_3  c89.2
noncomputable def qa_fL_isMemorySo_325  (σ : qa_T) : Option (Bool × qa_T) :=
    if (Int32.ofInt 0) = 0 then
      qa_fL_isMemorySo_440  σ
    else
      if ¬ (qa_fX9_fadeLeft σ) = 0 then
        qa_fL_isMemorySo_344  σ
      else
        qa_fL_isMemorySo_344_1  σ
noncomputable def qa_fL_isMemorySo_324  (σ : qa_T) : Option (Bool × qa_T) :=
    qa_fL_isMemorySo_325  σ
noncomputable def qa_fL_isMemorySo_325_1  (σ : qa_T) : Option (Bool × qa_T) :=
    if (Int32.ofInt 1) = 0 then
      qa_fL_isMemorySo_440  σ
    else
      if ¬ (qa_fX9_fadeLeft σ) = 0 then
        qa_fL_isMemorySo_344  σ
      else
        qa_fL_isMemorySo_344_1  σ
noncomputable def qa_fL_isMemorySo_243  (k15 : Int32 → Int32 → Int32 → Int32 → Int32 → Int32 → qa_T → Option (Bool × qa_T)) (x1 : Int32) (x2 : Int32) (x3 : Int32) (x5 : Int32) (x6 : Int32) (y1 : Int32) (σ : qa_T) : Option (Bool × qa_T) :=
    let v133 : Int32 := (y1 + (Int32.ofInt 0))
    let v134 : Int32 := x6 + Int32.ofInt 1
    k15 x1 x2 x3 v133 x5 v134 σ
noncomputable def qa_fL_isMemorySo_242  (k15 : Int32 → Int32 → Int32 → Int32 → Int32 → Int32 → qa_T → Option (Bool × qa_T)) (x1 : Int32) (x2 : Int32) (x3 : Int32) (x5 : Int32) (x6 : Int32) (y0 : Int32) (σ : qa_T) : Option (Bool × qa_T) :=
    qa_fL_isMemorySo_243  k15 x1 x2 x3 x5 x6 y0 σ
noncomputable def qa_fL_isMemorySo_243_1  (k15 : Int32 → Int32 → Int32 → Int32 → Int32 → Int32 → qa_T → Option (Bool × qa_T)) (x1 : Int32) (x2 : Int32) (x3 : Int32) (x5 : Int32) (x6 : Int32) (y0 : Int32) (y1 : Int32) (σ : qa_T) : Option (Bool × qa_T) :=
    let v141 : Int32 := (y1 + y0)
    let v142 : Int32 := x6 + Int32.ofInt 1
    k15 x1 x2 x3 v141 x5 v142 σ
noncomputable def qa_fL_isMemorySo_217  (k15 : Int32 → Int32 → Int32 → Int32 → Int32 → Int32 → qa_T → Option (Bool × qa_T)) (x1 : Int32) (x2 : Int32) (x3 : Int32) (x4 : Int32) (x6 : Int32) (x7 : Int32) (x8 : Int32) (σ : qa_T) : Option (Bool × qa_T) :=
    if x7 = 0 then
      qa_fL_isMemorySo_242  k15 x1 x2 x3 (Int32.ofInt 0) x6 x4 σ
    else
      if ¬ x8 = 0 then
        qa_fL_isMemorySo_242  k15 x1 x2 x3 (Int32.ofInt 0) x6 x4 σ
      else
        (qa_fX9_burnPlace x6 σ).bind fun c136 => match c136 with
          | (.inl r138, σ139) =>
            qa_fL_isMemorySo_243_1  k15 x1 x2 x3 (Int32.ofInt 0) x6 ((Int32.ofInt 1) <<< (r138 &&& 31)) x4 σ139
          | (.inr E140, σ139) =>
            none
noncomputable def qa_fL_isMemorySo_216  (k15 : Int32 → Int32 → Int32 → Int32 → Int32 → Int32 → qa_T → Option (Bool × qa_T)) (x1 : Int32) (x2 : Int32) (x3 : Int32) (x4 : Int32) (x6 : Int32) (x7 : Int32) (x8 : Int32) (σ : qa_T) : Option (Bool × qa_T) :=
    qa_fL_isMemorySo_217  k15 x1 x2 x3 x4 x6 x7 x8 σ
noncomputable def qa_fL_isMemorySo_217_1  (k15 : Int32 → Int32 → Int32 → Int32 → Int32 → Int32 → qa_T → Option (Bool × qa_T)) (x1 : Int32) (x2 : Int32) (x3 : Int32) (x4 : Int32) (x6 : Int32) (x7 : Int32) (x8 : Int32) (σ : qa_T) : Option (Bool × qa_T) :=
    if x7 = 0 then
      qa_fL_isMemorySo_242  k15 x1 x2 x3 (Int32.ofInt 1) x6 x4 σ
    else
      if ¬ x8 = 0 then
        qa_fL_isMemorySo_242  k15 x1 x2 x3 (Int32.ofInt 1) x6 x4 σ
      else
        (qa_fX9_burnPlace x6 σ).bind fun c177 => match c177 with
          | (.inl r179, σ180) =>
            qa_fL_isMemorySo_243_1  k15 x1 x2 x3 (Int32.ofInt 1) x6 ((Int32.ofInt 1) <<< (r179 &&& 31)) x4 σ180
          | (.inr E181, σ180) =>
            none
noncomputable def qa_fL_isMemorySo_212  (k15 : Int32 → Int32 → Int32 → Int32 → Int32 → Int32 → qa_T → Option (Bool × qa_T)) (x1 : Int32) (x2 : Int32) (x3 : Int32) (x4 : Int32) (x6 : Int32) (x7 : Int32) (x8 : Int32) (σ : qa_T) : Option (Bool × qa_T) :=
    qa_fL_isMemorySo_217_1  k15 x1 x2 x3 x4 x6 x7 x8 σ
noncomputable def qa_fL_isMemorySo_169  (k15 : Int32 → Int32 → Int32 → Int32 → Int32 → Int32 → qa_T → Option (Bool × qa_T)) (x1 : Int32) (x2 : Int32) (x3 : Int32) (x4 : Int32) (x6 : Int32) (x7 : Int32) (x8 : Int32) (σ : qa_T) : Option (Bool × qa_T) :=
    (some (qa_fX9_loadOf x6 σ)).bind fun c156 => match c156 with
      | (.inl r158, σ159) =>
        if r158 ≤ 0 then
          qa_fL_isMemorySo_216  k15 x1 x2 x3 x4 x6 x7 x8 σ159
        else
          (some (qa_fX9_loadOf x6 σ159)).bind fun c162 => match c162 with
            | (.inl r164, σ165) =>
              if ((Int8.ofInt 21).toInt32) ≤ r164 then
                qa_fL_isMemorySo_216  k15 x1 x2 x3 x4 x6 x7 x8 σ165
              else
                (qa_fX9_burningsFor x6 σ165).bind fun c168 => match c168 with
                  | (.inl r170, σ171) =>
                    if r170 < 0 then
                      qa_fL_isMemorySo_216  k15 x1 x2 x3 x4 x6 x7 x8 σ171
                    else
                      if x7 = 0 then
                        qa_fL_isMemorySo_212  k15 x1 x2 x3 x4 x6 x7 x8 σ171
                      else
                        (qa_fX9_burningsFor x6 σ171).bind fun c182 => match c182 with
                          | (.inl r184, σ185) =>
                            if ¬ r184 = 0 then
                              qa_fL_isMemorySo_216  k15 x1 x2 x3 x4 x6 x7 x8 σ185
                            else
                              qa_fL_isMemorySo_212  k15 x1 x2 x3 x4 x6 x7 x8 σ185
                          | (.inr E186, σ185) =>
                            none
                  | (.inr E172, σ171) =>
                    none
            | (.inr E166, σ165) =>
              none
      | (.inr E160, σ159) =>
        none
noncomputable def qa_fL_isMemorySo_145  (k15 : Int32 → Int32 → Int32 → Int32 → Int32 → Int32 → qa_T → Option (Bool × qa_T)) (x1 : Int32) (x2 : Int32) (x3 : Int32) (x4 : Int32) (x6 : Int32) (x7 : Int32) (x8 : Int32) (σ : qa_T) : Option (Bool × qa_T) :=
    (some (qa_fX9_glowOf x6 σ)).bind fun c150 => match c150 with
      | (.inl r152, σ153) =>
        if r152 = 0 then
          qa_fL_isMemorySo_169  k15 x1 x2 x3 x4 x6 x7 x8 σ153
        else
          if ¬ x7 = 0 then
            qa_fL_isMemorySo_216  k15 x1 x2 x3 x4 x6 x7 x8 σ153
          else
            (qa_fL_told (Int32.ofInt 3) σ153).bind fun c189 =>
            if c189.1 = x6 then
              qa_fL_isMemorySo_216  k15 x1 x2 x3 x4 x6 x7 x8 c189.2
            else
              qa_fL_isMemorySo_169  k15 x1 x2 x3 x4 x6 x7 x8 c189.2
      | (.inr E154, σ153) =>
        none
noncomputable def qa_fL_isMemorySo_117  (k15 : Int32 → Int32 → Int32 → Int32 → Int32 → Int32 → qa_T → Option (Bool × qa_T)) (x1 : Int32) (x2 : Int32) (x3 : Int32) (x4 : Int32) (x5 : Int32) (x6 : Int32) (x7 : Int32) (σ : qa_T) : Option (Bool × qa_T) :=
    if x5 = 0 then
      qa_fL_isMemorySo_216  k15 x1 x2 x3 x4 x6 x7 (Int32.ofInt 1) σ
    else
      (some (qa_fX9_isOnShow x6 σ)).bind fun c143 => match c143 with
        | (.inl r145, σ146) =>
          if ¬ (qa_bi r145) = (Int32.ofInt 1) then
            qa_fL_isMemorySo_216  k15 x1 x2 x3 x4 x6 x7 (Int32.ofInt 1) σ146
          else
            if (Int32.ofInt 1) = 0 then
              qa_fL_isMemorySo_145  k15 x1 x2 x3 x4 x6 x7 (Int32.ofInt 1) σ146
            else
              if x7 = 0 then
                qa_fL_isMemorySo_216  k15 x1 x2 x3 x4 x6 x7 (Int32.ofInt 1) σ146
              else
                qa_fL_isMemorySo_145  k15 x1 x2 x3 x4 x6 x7 (Int32.ofInt 1) σ146
        | (.inr E147, σ146) =>
          none
noncomputable def qa_fL_isMemorySo_112  (k15 : Int32 → Int32 → Int32 → Int32 → Int32 → Int32 → qa_T → Option (Bool × qa_T)) (x1 : Int32) (x2 : Int32) (x3 : Int32) (x4 : Int32) (x5 : Int32) (x6 : Int32) (x7 : Int32) (σ : qa_T) : Option (Bool × qa_T) :=
    qa_fL_isMemorySo_117  k15 x1 x2 x3 x4 x5 x6 x7 σ
noncomputable def qa_fL_isMemorySo_117_1  (k15 : Int32 → Int32 → Int32 → Int32 → Int32 → Int32 → qa_T → Option (Bool × qa_T)) (x1 : Int32) (x2 : Int32) (x3 : Int32) (x4 : Int32) (x5 : Int32) (x6 : Int32) (x7 : Int32) (σ : qa_T) : Option (Bool × qa_T) :=
    if x5 = 0 then
      qa_fL_isMemorySo_216  k15 x1 x2 x3 x4 x6 x7 (Int32.ofInt 0) σ
    else
      (some (qa_fX9_isOnShow x6 σ)).bind fun c197 => match c197 with
        | (.inl r199, σ200) =>
          if ¬ (qa_bi r199) = (Int32.ofInt 0) then
            qa_fL_isMemorySo_216  k15 x1 x2 x3 x4 x6 x7 (Int32.ofInt 0) σ200
          else
            if (Int32.ofInt 0) = 0 then
              qa_fL_isMemorySo_145  k15 x1 x2 x3 x4 x6 x7 (Int32.ofInt 0) σ200
            else
              if x7 = 0 then
                qa_fL_isMemorySo_216  k15 x1 x2 x3 x4 x6 x7 (Int32.ofInt 0) σ200
              else
                qa_fL_isMemorySo_145  k15 x1 x2 x3 x4 x6 x7 (Int32.ofInt 0) σ200
        | (.inr E201, σ200) =>
          none
noncomputable def qa_fL_isMemorySo_81  (k15 : Int32 → Int32 → Int32 → Int32 → Int32 → Int32 → qa_T → Option (Bool × qa_T)) (x1 : Int32) (x3 : Int32) (x4 : Int32) (x5 : Int32) (x6 : Int32) (x7 : Int32) (y1 : Int32) (σ : qa_T) : Option (Bool × qa_T) :=
    let v121 : Int32 := (y1 + (Int32.ofInt 1))
    (some (qa_fX9_burntTimes x6 σ)).bind fun c122 => match c122 with
      | (.inl r124, σ125) =>
        let v127 : Int32 := (x3 + r124)
        (qa_fL_told (Int32.ofInt 1) σ125).bind fun c128 =>
        if c128.1 = x6 then
          qa_fL_isMemorySo_112  k15 x1 v121 v127 x4 x5 x6 x7 c128.2
        else
          (qa_fL_told (Int32.ofInt 2) c128.2).bind fun c193 =>
          if ¬ c193.1 = x6 then
            qa_fL_isMemorySo_117_1  k15 x1 v121 v127 x4 x5 x6 x7 c193.2
          else
            qa_fL_isMemorySo_112  k15 x1 v121 v127 x4 x5 x6 x7 c193.2
      | (.inr E126, σ125) =>
        none
noncomputable def qa_fL_isMemorySo_76  (k15 : Int32 → Int32 → Int32 → Int32 → Int32 → Int32 → qa_T → Option (Bool × qa_T)) (x1 : Int32) (x3 : Int32) (x4 : Int32) (x5 : Int32) (x6 : Int32) (x7 : Int32) (y0 : Int32) (σ : qa_T) : Option (Bool × qa_T) :=
    qa_fL_isMemorySo_81  k15 x1 x3 x4 x5 x6 x7 y0 σ
noncomputable def qa_fL_isMemorySo_81_1  (k15 : Int32 → Int32 → Int32 → Int32 → Int32 → Int32 → qa_T → Option (Bool × qa_T)) (x1 : Int32) (x3 : Int32) (x4 : Int32) (x5 : Int32) (x6 : Int32) (x7 : Int32) (y1 : Int32) (σ : qa_T) : Option (Bool × qa_T) :=
    let v208 : Int32 := (y1 + (Int32.ofInt 0))
    (some (qa_fX9_burntTimes x6 σ)).bind fun c209 => match c209 with
      | (.inl r211, σ212) =>
        let v214 : Int32 := (x3 + r211)
        (qa_fL_told (Int32.ofInt 1) σ212).bind fun c215 =>
        if c215.1 = x6 then
          qa_fL_isMemorySo_112  k15 x1 v208 v214 x4 x5 x6 x7 c215.2
        else
          (qa_fL_told (Int32.ofInt 2) c215.2).bind fun c218 =>
          if ¬ c218.1 = x6 then
            qa_fL_isMemorySo_117_1  k15 x1 v208 v214 x4 x5 x6 x7 c218.2
          else
            qa_fL_isMemorySo_112  k15 x1 v208 v214 x4 x5 x6 x7 c218.2
      | (.inr E213, σ212) =>
        none
noncomputable def qa_fL_isMemorySo_58  (k15 : Int32 → Int32 → Int32 → Int32 → Int32 → Int32 → qa_T → Option (Bool × qa_T)) (x2 : Int32) (x3 : Int32) (x4 : Int32) (x5 : Int32) (x6 : Int32) (x7 : Int32) (y0 : Int32) (y1 : Int32) (σ : qa_T) : Option (Bool × qa_T) :=
    let v119 : Int32 := (y1 + y0)
    if ¬ x7 = 0 then
      qa_fL_isMemorySo_76  k15 v119 x3 x4 x5 x6 x7 x2 σ
    else
      (qa_fL_told (Int32.ofInt 3) σ).bind fun c205 =>
      if ¬ c205.1 = x6 then
        qa_fL_isMemorySo_81_1  k15 v119 x3 x4 x5 x6 x7 x2 c205.2
      else
        qa_fL_isMemorySo_76  k15 v119 x3 x4 x5 x6 x7 x2 c205.2
noncomputable def qa_fL_isMemorySo_48  (k15 : Int32 → Int32 → Int32 → Int32 → Int32 → Int32 → qa_T → Option (Bool × qa_T)) (x2 : Int32) (x3 : Int32) (x4 : Int32) (x5 : Int32) (x6 : Int32) (x7 : Int32) (y0 : Int32) (σ : qa_T) : Option (Bool × qa_T) :=
    (some (qa_fX9_costOf x6 σ)).bind fun c114 => match c114 with
      | (.inl r116, σ117) =>
        qa_fL_isMemorySo_58  k15 x2 x3 x4 x5 x6 x7 r116 y0 σ117
      | (.inr E118, σ117) =>
        none
noncomputable def qa_fL_isMemorySo_58_1  (k15 : Int32 → Int32 → Int32 → Int32 → Int32 → Int32 → qa_T → Option (Bool × qa_T)) (x2 : Int32) (x3 : Int32) (x4 : Int32) (x5 : Int32) (x6 : Int32) (x7 : Int32) (y1 : Int32) (σ : qa_T) : Option (Bool × qa_T) :=
    let v224 : Int32 := (y1 + (Int32.ofInt 0))
    if ¬ x7 = 0 then
      qa_fL_isMemorySo_76  k15 v224 x3 x4 x5 x6 x7 x2 σ
    else
      (qa_fL_told (Int32.ofInt 3) σ).bind fun c226 =>
      if ¬ c226.1 = x6 then
        qa_fL_isMemorySo_81_1  k15 v224 x3 x4 x5 x6 x7 x2 c226.2
      else
        qa_fL_isMemorySo_76  k15 v224 x3 x4 x5 x6 x7 x2 c226.2
noncomputable def qa_fL_isMemorySo_15  : Nat → Int32 → Int32 → Int32 → Int32 → Int32 → Int32 → qa_T → Option (Bool × qa_T)
  | 0, _, _, _, _, _, _, _ => none
  | n + 1, x1, x2, x3, x4, x5, x6, σ =>
    if (qa_fX9_slides σ) ≤ x6 then
      if x5 = 0 then
        qa_fL_isMemorySo_324  σ
      else
        if ¬ (x4 &&& (x4 + (Int32.ofInt 1))) = 0 then
          qa_fL_isMemorySo_324  σ
        else
          (qa_fX9_takenBySlides σ).bind fun c97 =>
          if ¬ c97 = x1 then
            qa_fL_isMemorySo_324  σ
          else
            if ¬ (qa_fX9_takenByAccount σ) = x1 then
              qa_fL_isMemorySo_324  σ
            else
              if (qa_fX9_memory σ) < x1 then
                qa_fL_isMemorySo_324  σ
              else
                if ¬ (qa_fX9_burnings σ) = x3 then
                  qa_fL_isMemorySo_324  σ
                else
                  if ¬ ((qa_fX9_loads σ) - x3) = x2 then
                    qa_fL_isMemorySo_324  σ
                  else
                    if (qa_fX9_loads σ) < (qa_fX9_warmLoads σ) then
                      qa_fL_isMemorySo_324  σ
                    else
                      qa_fL_isMemorySo_325_1  σ
    else
      (some (qa_fX9_isLoaded x6 σ)).bind fun c107 => match c107 with
        | (.inl r109, σ110) =>
          let v112 : Int32 := (qa_bi r109)
          if ¬ v112 = 0 then
            qa_fL_isMemorySo_48  (qa_fL_isMemorySo_15  n) x2 x3 x4 x5 x6 v112 x1 σ110
          else
            (qa_fL_told (Int32.ofInt 3) σ110).bind fun c221 =>
            if ¬ c221.1 = x6 then
              qa_fL_isMemorySo_58_1  (qa_fL_isMemorySo_15  n) x2 x3 x4 x5 x6 v112 x1 c221.2
            else
              qa_fL_isMemorySo_48  (qa_fL_isMemorySo_15  n) x2 x3 x4 x5 x6 v112 x1 c221.2
        | (.inr E111, σ110) =>
          none
noncomputable def qa_fL_isMemorySo  (σ : qa_T) : Option (Bool × qa_T) :=
    qa_fL_isMemorySo_15  qa_gu (Int32.ofInt 0) (Int32.ofInt 0) (Int32.ofInt 0) (Int32.ofInt 0) (Int32.ofInt 1) (Int32.ofInt 0) σ
set_option maxRecDepth 1000000 in
theorem qa_tL_isMemorySo_440 {L : Nat}  {σ : qa_T} {r : (Bool × qa_T)} (h : qa_fL_isMemorySo_440  σ = some r) : qa_Bn L (0) qa_mL_isMemorySo 440 [(0, .inl (0, 1))] [] σ (some (.inr (.int (qa_bi r.1)))) r.2 := by
  unfold qa_fL_isMemorySo_440 at h
  try dsimp only at h
  refine qa_bn_mono (N := 0) (by omega) ?_
  refine qa_bn_do (pc' := 441) rfl rfl ?_
  cases h
  exact qa_bn_rb rfl rfl rfl
set_option maxRecDepth 1000000 in
theorem qa_tL_isMemorySo_436 {L : Nat}  {σ : qa_T} {r : (Bool × qa_T)} (h : qa_fL_isMemorySo_436  σ = some r) : qa_Bn L (0) qa_mL_isMemorySo 436 [(0, .inl (0, 1))] [] σ (some (.inr (.int (qa_bi r.1)))) r.2 := by
  unfold qa_fL_isMemorySo_436 at h
  try dsimp only at h
  refine qa_bn_mono (N := 0) (by omega) ?_
  refine qa_bn_do (pc' := 437) rfl rfl ?_
  refine qa_bn_do (pc' := 441) rfl rfl ?_
  cases h
  exact qa_bn_rb rfl rfl rfl
set_option maxRecDepth 1000000 in
theorem qa_tL_isMemorySo_416 {L : Nat}  {σ : qa_T} {r : (Bool × qa_T)} (h : qa_fL_isMemorySo_416  σ = some r) : qa_Bn L (2) qa_mL_isMemorySo 416 [(0, .inl (0, 1))] [] σ (some (.inr (.int (qa_bi r.1)))) r.2 := by
  unfold qa_fL_isMemorySo_416 at h
  try dsimp only at h
  refine qa_bn_mono (N := 2) (by omega) ?_
  refine qa_bn_do (pc' := 417) rfl rfl ?_
  refine qa_bn_do (pc' := 418) rfl rfl ?_
  obtain ⟨c17, hc18, h⟩ := Option.bind_eq_some_iff.mp h
  refine qa_bn_cl (N1 := 1) (N2 := 1) (N := 2) (by omega) (qa_tL_told hc18) rfl rfl rfl rfl rfl rfl rfl ?_
  rcases qa_ite h with ⟨hc19, h⟩ | ⟨hc19, h⟩
  · refine qa_bn_1t (a := 436) (b := 424) hc19 rfl rfl ?_
    exact qa_bn_mono (N := 0) (by omega) <| qa_bn_lw (qa_tL_isMemorySo_436  h) rfl rfl (And.intro rfl (trivial))
  · refine qa_bn_1f (a := 436) (b := 424) hc19 rfl rfl ?_
    refine qa_bn_do (pc' := 425) rfl rfl ?_
    refine qa_bn_do (pc' := 426) rfl rfl ?_
    refine qa_bn_do (pc' := 427) rfl rfl ?_
    obtain ⟨c20, hc21, h⟩ := Option.bind_eq_some_iff.mp h
    refine qa_bn_cl (N1 := 1) (N2 := 0) (N := 1) (by omega) (qa_tL_told hc21) rfl rfl rfl rfl rfl rfl rfl ?_
    obtain ⟨⟨c22, σ25⟩, hc23, h⟩ := Option.bind_eq_some_iff.mp h
    have hc23 := Option.some.inj hc23
    cases c22 with
    | inl r24 =>
      try dsimp only at h
      refine qa_bn_cv (qa_tX9_isLoaded hc23) rfl rfl rfl rfl rfl rfl rfl qa_dx_0_1 ?_
      rcases qa_ite h with ⟨hc27, h⟩ | ⟨hc27, h⟩
      · refine qa_bn_1t (a := 440) (b := 436) hc27 rfl rfl ?_
        exact qa_bn_mono (N := 0) (by omega) <| qa_bn_lw (qa_tL_isMemorySo_440  h) rfl rfl (And.intro rfl (trivial))
      · refine qa_bn_1f (a := 440) (b := 436) hc27 rfl rfl ?_
        exact qa_bn_mono (N := 0) (by omega) <| qa_bn_lw (qa_tL_isMemorySo_436  h) rfl rfl (And.intro rfl (trivial))
    | inr E26 =>
      try dsimp only at h
      cases h
set_option maxRecDepth 1000000 in
theorem qa_tL_isMemorySo_385 {L : Nat}  {σ : qa_T} {r : (Bool × qa_T)} (h : qa_fL_isMemorySo_385  σ = some r) : qa_Bn L (5) qa_mL_isMemorySo 385 [(0, .inl (0, 1))] [.inr (.int (Int32.ofInt 0)), .inr (.int (Int32.ofInt 0))] σ (some (.inr (.int (qa_bi r.1)))) r.2 := by
  unfold qa_fL_isMemorySo_385 at h
  try dsimp only at h
  refine qa_bn_mono (N := 5) (by omega) ?_
  rcases qa_ite h with ⟨hc13, h⟩ | ⟨hc13, h⟩
  · refine qa_bn_1t (a := 440) (b := 388) hc13 rfl rfl ?_
    exact qa_bn_mono (N := 0) (by omega) <| qa_bn_lw (qa_tL_isMemorySo_440  h) rfl rfl (And.intro rfl (trivial))
  · refine qa_bn_1f (a := 440) (b := 388) hc13 rfl rfl ?_
    refine qa_bn_do (pc' := 389) rfl rfl ?_
    refine qa_bn_do (pc' := 390) rfl rfl ?_
    obtain ⟨c14, hc15, h⟩ := Option.bind_eq_some_iff.mp h
    refine qa_bn_cl (N1 := 1) (N2 := 4) (N := 5) (by omega) (qa_tL_told hc15) rfl rfl rfl rfl rfl rfl rfl ?_
    rcases qa_ite h with ⟨hc16, h⟩ | ⟨hc16, h⟩
    · refine qa_bn_1t (a := 416) (b := 396) hc16 rfl rfl ?_
      exact qa_bn_mono (N := 2) (by omega) <| qa_bn_lw (qa_tL_isMemorySo_416  h) rfl rfl (And.intro rfl (trivial))
    · refine qa_bn_1f (a := 416) (b := 396) hc16 rfl rfl ?_
      refine qa_bn_do (pc' := 397) rfl rfl ?_
      refine qa_bn_do (pc' := 398) rfl rfl ?_
      refine qa_bn_do (pc' := 399) rfl rfl ?_
      obtain ⟨c28, hc29, h⟩ := Option.bind_eq_some_iff.mp h
      refine qa_bn_cl (N1 := 1) (N2 := 3) (N := 4) (by omega) (qa_tL_told hc29) rfl rfl rfl rfl rfl rfl rfl ?_
      obtain ⟨⟨c30, σ33⟩, hc31, h⟩ := Option.bind_eq_some_iff.mp h
      have hc31 := Option.some.inj hc31
      cases c30 with
      | inl r32 =>
        try dsimp only at h
        refine qa_bn_cv (qa_tX9_isLoaded hc31) rfl rfl rfl rfl rfl rfl rfl qa_dx_0_1 ?_
        rcases qa_ite h with ⟨hc35, h⟩ | ⟨hc35, h⟩
        · refine qa_bn_1t (a := 440) (b := 408) hc35 rfl rfl ?_
          exact qa_bn_mono (N := 0) (by omega) <| qa_bn_lw (qa_tL_isMemorySo_440  h) rfl rfl (And.intro rfl (trivial))
        · refine qa_bn_1f (a := 440) (b := 408) hc35 rfl rfl ?_
          refine qa_bn_do (pc' := 409) rfl rfl ?_
          refine qa_bn_do (pc' := 410) rfl rfl ?_
          obtain ⟨c36, hc37, h⟩ := Option.bind_eq_some_iff.mp h
          refine qa_bn_cl (N1 := 1) (N2 := 2) (N := 3) (by omega) (qa_tL_told hc37) rfl rfl rfl rfl rfl rfl rfl ?_
          rcases qa_ite h with ⟨hc38, h⟩ | ⟨hc38, h⟩
          · refine qa_bn_1t (a := 440) (b := 416) hc38 rfl rfl ?_
            exact qa_bn_mono (N := 0) (by omega) <| qa_bn_lw (qa_tL_isMemorySo_440  h) rfl rfl (And.intro rfl (trivial))
          · refine qa_bn_1f (a := 440) (b := 416) hc38 rfl rfl ?_
            exact qa_bn_mono (N := 2) (by omega) <| qa_bn_lw (qa_tL_isMemorySo_416  h) rfl rfl (And.intro rfl (trivial))
      | inr E34 =>
        try dsimp only at h
        cases h
set_option maxRecDepth 1000000 in
theorem qa_tL_isMemorySo_385_1 {L : Nat}  {σ : qa_T} {r : (Bool × qa_T)} (h : qa_fL_isMemorySo_385_1  σ = some r) : qa_Bn L (5) qa_mL_isMemorySo 385 [(0, .inl (0, 1))] [.inr (.int (Int32.ofInt 1)), .inr (.int (Int32.ofInt 0))] σ (some (.inr (.int (qa_bi r.1)))) r.2 := by
  unfold qa_fL_isMemorySo_385_1 at h
  try dsimp only at h
  refine qa_bn_mono (N := 5) (by omega) ?_
  rcases qa_ite h with ⟨hc39, h⟩ | ⟨hc39, h⟩
  · refine qa_bn_1t (a := 440) (b := 388) hc39 rfl rfl ?_
    exact qa_bn_mono (N := 0) (by omega) <| qa_bn_lw (qa_tL_isMemorySo_440  h) rfl rfl (And.intro rfl (trivial))
  · refine qa_bn_1f (a := 440) (b := 388) hc39 rfl rfl ?_
    refine qa_bn_do (pc' := 389) rfl rfl ?_
    refine qa_bn_do (pc' := 390) rfl rfl ?_
    obtain ⟨c40, hc41, h⟩ := Option.bind_eq_some_iff.mp h
    refine qa_bn_cl (N1 := 1) (N2 := 4) (N := 5) (by omega) (qa_tL_told hc41) rfl rfl rfl rfl rfl rfl rfl ?_
    rcases qa_ite h with ⟨hc42, h⟩ | ⟨hc42, h⟩
    · refine qa_bn_1t (a := 416) (b := 396) hc42 rfl rfl ?_
      exact qa_bn_mono (N := 2) (by omega) <| qa_bn_lw (qa_tL_isMemorySo_416  h) rfl rfl (And.intro rfl (trivial))
    · refine qa_bn_1f (a := 416) (b := 396) hc42 rfl rfl ?_
      refine qa_bn_do (pc' := 397) rfl rfl ?_
      refine qa_bn_do (pc' := 398) rfl rfl ?_
      refine qa_bn_do (pc' := 399) rfl rfl ?_
      obtain ⟨c43, hc44, h⟩ := Option.bind_eq_some_iff.mp h
      refine qa_bn_cl (N1 := 1) (N2 := 3) (N := 4) (by omega) (qa_tL_told hc44) rfl rfl rfl rfl rfl rfl rfl ?_
      obtain ⟨⟨c45, σ48⟩, hc46, h⟩ := Option.bind_eq_some_iff.mp h
      have hc46 := Option.some.inj hc46
      cases c45 with
      | inl r47 =>
        try dsimp only at h
        refine qa_bn_cv (qa_tX9_isLoaded hc46) rfl rfl rfl rfl rfl rfl rfl qa_dx_0_1 ?_
        rcases qa_ite h with ⟨hc50, h⟩ | ⟨hc50, h⟩
        · refine qa_bn_1t (a := 440) (b := 408) hc50 rfl rfl ?_
          exact qa_bn_mono (N := 0) (by omega) <| qa_bn_lw (qa_tL_isMemorySo_440  h) rfl rfl (And.intro rfl (trivial))
        · refine qa_bn_1f (a := 440) (b := 408) hc50 rfl rfl ?_
          refine qa_bn_do (pc' := 409) rfl rfl ?_
          refine qa_bn_do (pc' := 410) rfl rfl ?_
          obtain ⟨c51, hc52, h⟩ := Option.bind_eq_some_iff.mp h
          refine qa_bn_cl (N1 := 1) (N2 := 2) (N := 3) (by omega) (qa_tL_told hc52) rfl rfl rfl rfl rfl rfl rfl ?_
          rcases qa_ite h with ⟨hc53, h⟩ | ⟨hc53, h⟩
          · refine qa_bn_1t (a := 440) (b := 416) hc53 rfl rfl ?_
            exact qa_bn_mono (N := 0) (by omega) <| qa_bn_lw (qa_tL_isMemorySo_440  h) rfl rfl (And.intro rfl (trivial))
          · refine qa_bn_1f (a := 440) (b := 416) hc53 rfl rfl ?_
            exact qa_bn_mono (N := 2) (by omega) <| qa_bn_lw (qa_tL_isMemorySo_416  h) rfl rfl (And.intro rfl (trivial))
      | inr E49 =>
        try dsimp only at h
        cases h
set_option maxRecDepth 1000000 in
theorem qa_tL_isMemorySo_372 {L : Nat}  {σ : qa_T} {r : (Bool × qa_T)} (h : qa_fL_isMemorySo_372  σ = some r) : qa_Bn L (6) qa_mL_isMemorySo 372 [(0, .inl (0, 1))] [.inr (.int (Int32.ofInt 0))] σ (some (.inr (.int (qa_bi r.1)))) r.2 := by
  unfold qa_fL_isMemorySo_372 at h
  try dsimp only at h
  refine qa_bn_mono (N := 6) (by omega) ?_
  refine qa_bn_do (pc' := 373) rfl rfl ?_
  refine qa_bn_do (pc' := 374) rfl rfl ?_
  obtain ⟨c10, hc11, h⟩ := Option.bind_eq_some_iff.mp h
  refine qa_bn_cl (N1 := 1) (N2 := 5) (N := 6) (by omega) (qa_tL_told hc11) rfl rfl rfl rfl rfl rfl rfl ?_
  rcases qa_ite h with ⟨hc12, h⟩ | ⟨hc12, h⟩
  · refine qa_bn_1t (a := 384) (b := 380) hc12 rfl rfl ?_
    refine qa_bn_do (pc' := 385) rfl rfl ?_
    exact qa_bn_mono (N := 5) (by omega) <| qa_bn_lw (qa_tL_isMemorySo_385  h) rfl rfl (And.intro rfl (trivial))
  · refine qa_bn_1f (a := 384) (b := 380) hc12 rfl rfl ?_
    refine qa_bn_do (pc' := 381) rfl rfl ?_
    refine qa_bn_do (pc' := 385) rfl rfl ?_
    exact qa_bn_mono (N := 5) (by omega) <| qa_bn_lw (qa_tL_isMemorySo_385_1  h) rfl rfl (And.intro rfl (trivial))
set_option maxRecDepth 1000000 in
theorem qa_tL_isMemorySo_385_2 {L : Nat}  {σ : qa_T} {r : (Bool × qa_T)} (h : qa_fL_isMemorySo_385_2  σ = some r) : qa_Bn L (5) qa_mL_isMemorySo 385 [(0, .inl (0, 1))] [.inr (.int (Int32.ofInt 0)), .inr (.int (Int32.ofInt 1))] σ (some (.inr (.int (qa_bi r.1)))) r.2 := by
  unfold qa_fL_isMemorySo_385_2 at h
  try dsimp only at h
  refine qa_bn_mono (N := 5) (by omega) ?_
  rcases qa_ite h with ⟨hc57, h⟩ | ⟨hc57, h⟩
  · refine qa_bn_1t (a := 440) (b := 388) hc57 rfl rfl ?_
    exact qa_bn_mono (N := 0) (by omega) <| qa_bn_lw (qa_tL_isMemorySo_440  h) rfl rfl (And.intro rfl (trivial))
  · refine qa_bn_1f (a := 440) (b := 388) hc57 rfl rfl ?_
    refine qa_bn_do (pc' := 389) rfl rfl ?_
    refine qa_bn_do (pc' := 390) rfl rfl ?_
    obtain ⟨c58, hc59, h⟩ := Option.bind_eq_some_iff.mp h
    refine qa_bn_cl (N1 := 1) (N2 := 4) (N := 5) (by omega) (qa_tL_told hc59) rfl rfl rfl rfl rfl rfl rfl ?_
    rcases qa_ite h with ⟨hc60, h⟩ | ⟨hc60, h⟩
    · refine qa_bn_1t (a := 416) (b := 396) hc60 rfl rfl ?_
      exact qa_bn_mono (N := 2) (by omega) <| qa_bn_lw (qa_tL_isMemorySo_416  h) rfl rfl (And.intro rfl (trivial))
    · refine qa_bn_1f (a := 416) (b := 396) hc60 rfl rfl ?_
      refine qa_bn_do (pc' := 397) rfl rfl ?_
      refine qa_bn_do (pc' := 398) rfl rfl ?_
      refine qa_bn_do (pc' := 399) rfl rfl ?_
      obtain ⟨c61, hc62, h⟩ := Option.bind_eq_some_iff.mp h
      refine qa_bn_cl (N1 := 1) (N2 := 3) (N := 4) (by omega) (qa_tL_told hc62) rfl rfl rfl rfl rfl rfl rfl ?_
      obtain ⟨⟨c63, σ66⟩, hc64, h⟩ := Option.bind_eq_some_iff.mp h
      have hc64 := Option.some.inj hc64
      cases c63 with
      | inl r65 =>
        try dsimp only at h
        refine qa_bn_cv (qa_tX9_isLoaded hc64) rfl rfl rfl rfl rfl rfl rfl qa_dx_0_1 ?_
        rcases qa_ite h with ⟨hc68, h⟩ | ⟨hc68, h⟩
        · refine qa_bn_1t (a := 440) (b := 408) hc68 rfl rfl ?_
          exact qa_bn_mono (N := 0) (by omega) <| qa_bn_lw (qa_tL_isMemorySo_440  h) rfl rfl (And.intro rfl (trivial))
        · refine qa_bn_1f (a := 440) (b := 408) hc68 rfl rfl ?_
          refine qa_bn_do (pc' := 409) rfl rfl ?_
          refine qa_bn_do (pc' := 410) rfl rfl ?_
          obtain ⟨c69, hc70, h⟩ := Option.bind_eq_some_iff.mp h
          refine qa_bn_cl (N1 := 1) (N2 := 2) (N := 3) (by omega) (qa_tL_told hc70) rfl rfl rfl rfl rfl rfl rfl ?_
          rcases qa_ite h with ⟨hc71, h⟩ | ⟨hc71, h⟩
          · refine qa_bn_1t (a := 440) (b := 416) hc71 rfl rfl ?_
            exact qa_bn_mono (N := 0) (by omega) <| qa_bn_lw (qa_tL_isMemorySo_440  h) rfl rfl (And.intro rfl (trivial))
          · refine qa_bn_1f (a := 440) (b := 416) hc71 rfl rfl ?_
            exact qa_bn_mono (N := 2) (by omega) <| qa_bn_lw (qa_tL_isMemorySo_416  h) rfl rfl (And.intro rfl (trivial))
      | inr E67 =>
        try dsimp only at h
        cases h
set_option maxRecDepth 1000000 in
theorem qa_tL_isMemorySo_385_3 {L : Nat}  {σ : qa_T} {r : (Bool × qa_T)} (h : qa_fL_isMemorySo_385_3  σ = some r) : qa_Bn L (5) qa_mL_isMemorySo 385 [(0, .inl (0, 1))] [.inr (.int (Int32.ofInt 1)), .inr (.int (Int32.ofInt 1))] σ (some (.inr (.int (qa_bi r.1)))) r.2 := by
  unfold qa_fL_isMemorySo_385_3 at h
  try dsimp only at h
  refine qa_bn_mono (N := 5) (by omega) ?_
  rcases qa_ite h with ⟨hc72, h⟩ | ⟨hc72, h⟩
  · refine qa_bn_1t (a := 440) (b := 388) hc72 rfl rfl ?_
    exact qa_bn_mono (N := 0) (by omega) <| qa_bn_lw (qa_tL_isMemorySo_440  h) rfl rfl (And.intro rfl (trivial))
  · refine qa_bn_1f (a := 440) (b := 388) hc72 rfl rfl ?_
    refine qa_bn_do (pc' := 389) rfl rfl ?_
    refine qa_bn_do (pc' := 390) rfl rfl ?_
    obtain ⟨c73, hc74, h⟩ := Option.bind_eq_some_iff.mp h
    refine qa_bn_cl (N1 := 1) (N2 := 4) (N := 5) (by omega) (qa_tL_told hc74) rfl rfl rfl rfl rfl rfl rfl ?_
    rcases qa_ite h with ⟨hc75, h⟩ | ⟨hc75, h⟩
    · refine qa_bn_1t (a := 416) (b := 396) hc75 rfl rfl ?_
      exact qa_bn_mono (N := 2) (by omega) <| qa_bn_lw (qa_tL_isMemorySo_416  h) rfl rfl (And.intro rfl (trivial))
    · refine qa_bn_1f (a := 416) (b := 396) hc75 rfl rfl ?_
      refine qa_bn_do (pc' := 397) rfl rfl ?_
      refine qa_bn_do (pc' := 398) rfl rfl ?_
      refine qa_bn_do (pc' := 399) rfl rfl ?_
      obtain ⟨c76, hc77, h⟩ := Option.bind_eq_some_iff.mp h
      refine qa_bn_cl (N1 := 1) (N2 := 3) (N := 4) (by omega) (qa_tL_told hc77) rfl rfl rfl rfl rfl rfl rfl ?_
      obtain ⟨⟨c78, σ81⟩, hc79, h⟩ := Option.bind_eq_some_iff.mp h
      have hc79 := Option.some.inj hc79
      cases c78 with
      | inl r80 =>
        try dsimp only at h
        refine qa_bn_cv (qa_tX9_isLoaded hc79) rfl rfl rfl rfl rfl rfl rfl qa_dx_0_1 ?_
        rcases qa_ite h with ⟨hc83, h⟩ | ⟨hc83, h⟩
        · refine qa_bn_1t (a := 440) (b := 408) hc83 rfl rfl ?_
          exact qa_bn_mono (N := 0) (by omega) <| qa_bn_lw (qa_tL_isMemorySo_440  h) rfl rfl (And.intro rfl (trivial))
        · refine qa_bn_1f (a := 440) (b := 408) hc83 rfl rfl ?_
          refine qa_bn_do (pc' := 409) rfl rfl ?_
          refine qa_bn_do (pc' := 410) rfl rfl ?_
          obtain ⟨c84, hc85, h⟩ := Option.bind_eq_some_iff.mp h
          refine qa_bn_cl (N1 := 1) (N2 := 2) (N := 3) (by omega) (qa_tL_told hc85) rfl rfl rfl rfl rfl rfl rfl ?_
          rcases qa_ite h with ⟨hc86, h⟩ | ⟨hc86, h⟩
          · refine qa_bn_1t (a := 440) (b := 416) hc86 rfl rfl ?_
            exact qa_bn_mono (N := 0) (by omega) <| qa_bn_lw (qa_tL_isMemorySo_440  h) rfl rfl (And.intro rfl (trivial))
          · refine qa_bn_1f (a := 440) (b := 416) hc86 rfl rfl ?_
            exact qa_bn_mono (N := 2) (by omega) <| qa_bn_lw (qa_tL_isMemorySo_416  h) rfl rfl (And.intro rfl (trivial))
      | inr E82 =>
        try dsimp only at h
        cases h
set_option maxRecDepth 1000000 in
theorem qa_tL_isMemorySo_372_1 {L : Nat}  {σ : qa_T} {r : (Bool × qa_T)} (h : qa_fL_isMemorySo_372_1  σ = some r) : qa_Bn L (6) qa_mL_isMemorySo 372 [(0, .inl (0, 1))] [.inr (.int (Int32.ofInt 1))] σ (some (.inr (.int (qa_bi r.1)))) r.2 := by
  unfold qa_fL_isMemorySo_372_1 at h
  try dsimp only at h
  refine qa_bn_mono (N := 6) (by omega) ?_
  refine qa_bn_do (pc' := 373) rfl rfl ?_
  refine qa_bn_do (pc' := 374) rfl rfl ?_
  obtain ⟨c54, hc55, h⟩ := Option.bind_eq_some_iff.mp h
  refine qa_bn_cl (N1 := 1) (N2 := 5) (N := 6) (by omega) (qa_tL_told hc55) rfl rfl rfl rfl rfl rfl rfl ?_
  rcases qa_ite h with ⟨hc56, h⟩ | ⟨hc56, h⟩
  · refine qa_bn_1t (a := 384) (b := 380) hc56 rfl rfl ?_
    refine qa_bn_do (pc' := 385) rfl rfl ?_
    exact qa_bn_mono (N := 5) (by omega) <| qa_bn_lw (qa_tL_isMemorySo_385_2  h) rfl rfl (And.intro rfl (trivial))
  · refine qa_bn_1f (a := 384) (b := 380) hc56 rfl rfl ?_
    refine qa_bn_do (pc' := 381) rfl rfl ?_
    refine qa_bn_do (pc' := 385) rfl rfl ?_
    exact qa_bn_mono (N := 5) (by omega) <| qa_bn_lw (qa_tL_isMemorySo_385_3  h) rfl rfl (And.intro rfl (trivial))
set_option maxRecDepth 1000000 in
theorem qa_tL_isMemorySo_357 {L : Nat}  {σ : qa_T} {r : (Bool × qa_T)} (h : qa_fL_isMemorySo_357  σ = some r) : qa_Bn L (6) qa_mL_isMemorySo 357 [(0, .inl (0, 1))] [.inr (.int (Int32.ofInt 0)), .inr (.int (Int32.ofInt 0))] σ (some (.inr (.int (qa_bi r.1)))) r.2 := by
  unfold qa_fL_isMemorySo_357 at h
  try dsimp only at h
  refine qa_bn_mono (N := 6) (by omega) ?_
  rcases qa_ite h with ⟨hc8, h⟩ | ⟨hc8, h⟩
  · refine qa_bn_1t (a := 440) (b := 360) hc8 rfl rfl ?_
    exact qa_bn_mono (N := 0) (by omega) <| qa_bn_lw (qa_tL_isMemorySo_440  h) rfl rfl (And.intro rfl (trivial))
  · refine qa_bn_1f (a := 440) (b := 360) hc8 rfl rfl ?_
    refine qa_bn_do (pc' := 361) rfl rfl ?_
    refine qa_bn_cv (qa_tX9_loadLeft rfl) rfl rfl rfl rfl rfl rfl rfl qa_dx_0_1 ?_
    rcases qa_ite h with ⟨hc9, h⟩ | ⟨hc9, h⟩
    · refine qa_bn_1t (a := 371) (b := 367) hc9 rfl rfl ?_
      refine qa_bn_do (pc' := 372) rfl rfl ?_
      exact qa_bn_mono (N := 6) (by omega) <| qa_bn_lw (qa_tL_isMemorySo_372  h) rfl rfl (And.intro rfl (trivial))
    · refine qa_bn_1f (a := 371) (b := 367) hc9 rfl rfl ?_
      refine qa_bn_do (pc' := 368) rfl rfl ?_
      refine qa_bn_do (pc' := 372) rfl rfl ?_
      exact qa_bn_mono (N := 6) (by omega) <| qa_bn_lw (qa_tL_isMemorySo_372_1  h) rfl rfl (And.intro rfl (trivial))
set_option maxRecDepth 1000000 in
theorem qa_tL_isMemorySo_357_1 {L : Nat}  {σ : qa_T} {r : (Bool × qa_T)} (h : qa_fL_isMemorySo_357_1  σ = some r) : qa_Bn L (6) qa_mL_isMemorySo 357 [(0, .inl (0, 1))] [.inr (.int (Int32.ofInt 1)), .inr (.int (Int32.ofInt 0))] σ (some (.inr (.int (qa_bi r.1)))) r.2 := by
  unfold qa_fL_isMemorySo_357_1 at h
  try dsimp only at h
  refine qa_bn_mono (N := 6) (by omega) ?_
  rcases qa_ite h with ⟨hc87, h⟩ | ⟨hc87, h⟩
  · refine qa_bn_1t (a := 440) (b := 360) hc87 rfl rfl ?_
    exact qa_bn_mono (N := 0) (by omega) <| qa_bn_lw (qa_tL_isMemorySo_440  h) rfl rfl (And.intro rfl (trivial))
  · refine qa_bn_1f (a := 440) (b := 360) hc87 rfl rfl ?_
    refine qa_bn_do (pc' := 361) rfl rfl ?_
    refine qa_bn_cv (qa_tX9_loadLeft rfl) rfl rfl rfl rfl rfl rfl rfl qa_dx_0_1 ?_
    rcases qa_ite h with ⟨hc88, h⟩ | ⟨hc88, h⟩
    · refine qa_bn_1t (a := 371) (b := 367) hc88 rfl rfl ?_
      refine qa_bn_do (pc' := 372) rfl rfl ?_
      exact qa_bn_mono (N := 6) (by omega) <| qa_bn_lw (qa_tL_isMemorySo_372  h) rfl rfl (And.intro rfl (trivial))
    · refine qa_bn_1f (a := 371) (b := 367) hc88 rfl rfl ?_
      refine qa_bn_do (pc' := 368) rfl rfl ?_
      refine qa_bn_do (pc' := 372) rfl rfl ?_
      exact qa_bn_mono (N := 6) (by omega) <| qa_bn_lw (qa_tL_isMemorySo_372_1  h) rfl rfl (And.intro rfl (trivial))
set_option maxRecDepth 1000000 in
theorem qa_tL_isMemorySo_344 {L : Nat}  {σ : qa_T} {r : (Bool × qa_T)} (h : qa_fL_isMemorySo_344  σ = some r) : qa_Bn L (7) qa_mL_isMemorySo 344 [(0, .inl (0, 1))] [.inr (.int (Int32.ofInt 0))] σ (some (.inr (.int (qa_bi r.1)))) r.2 := by
  unfold qa_fL_isMemorySo_344 at h
  try dsimp only at h
  refine qa_bn_mono (N := 7) (by omega) ?_
  refine qa_bn_do (pc' := 345) rfl rfl ?_
  refine qa_bn_do (pc' := 346) rfl rfl ?_
  obtain ⟨c5, hc6, h⟩ := Option.bind_eq_some_iff.mp h
  refine qa_bn_cl (N1 := 1) (N2 := 6) (N := 7) (by omega) (qa_tL_told hc6) rfl rfl rfl rfl rfl rfl rfl ?_
  rcases qa_ite h with ⟨hc7, h⟩ | ⟨hc7, h⟩
  · refine qa_bn_1t (a := 356) (b := 352) hc7 rfl rfl ?_
    refine qa_bn_do (pc' := 357) rfl rfl ?_
    exact qa_bn_mono (N := 6) (by omega) <| qa_bn_lw (qa_tL_isMemorySo_357  h) rfl rfl (And.intro rfl (trivial))
  · refine qa_bn_1f (a := 356) (b := 352) hc7 rfl rfl ?_
    refine qa_bn_do (pc' := 353) rfl rfl ?_
    refine qa_bn_do (pc' := 357) rfl rfl ?_
    exact qa_bn_mono (N := 6) (by omega) <| qa_bn_lw (qa_tL_isMemorySo_357_1  h) rfl rfl (And.intro rfl (trivial))
set_option maxRecDepth 1000000 in
theorem qa_tL_isMemorySo_357_2 {L : Nat}  {σ : qa_T} {r : (Bool × qa_T)} (h : qa_fL_isMemorySo_357_2  σ = some r) : qa_Bn L (6) qa_mL_isMemorySo 357 [(0, .inl (0, 1))] [.inr (.int (Int32.ofInt 0)), .inr (.int (Int32.ofInt 1))] σ (some (.inr (.int (qa_bi r.1)))) r.2 := by
  unfold qa_fL_isMemorySo_357_2 at h
  try dsimp only at h
  refine qa_bn_mono (N := 6) (by omega) ?_
  rcases qa_ite h with ⟨hc92, h⟩ | ⟨hc92, h⟩
  · refine qa_bn_1t (a := 440) (b := 360) hc92 rfl rfl ?_
    exact qa_bn_mono (N := 0) (by omega) <| qa_bn_lw (qa_tL_isMemorySo_440  h) rfl rfl (And.intro rfl (trivial))
  · refine qa_bn_1f (a := 440) (b := 360) hc92 rfl rfl ?_
    refine qa_bn_do (pc' := 361) rfl rfl ?_
    refine qa_bn_cv (qa_tX9_loadLeft rfl) rfl rfl rfl rfl rfl rfl rfl qa_dx_0_1 ?_
    rcases qa_ite h with ⟨hc93, h⟩ | ⟨hc93, h⟩
    · refine qa_bn_1t (a := 371) (b := 367) hc93 rfl rfl ?_
      refine qa_bn_do (pc' := 372) rfl rfl ?_
      exact qa_bn_mono (N := 6) (by omega) <| qa_bn_lw (qa_tL_isMemorySo_372  h) rfl rfl (And.intro rfl (trivial))
    · refine qa_bn_1f (a := 371) (b := 367) hc93 rfl rfl ?_
      refine qa_bn_do (pc' := 368) rfl rfl ?_
      refine qa_bn_do (pc' := 372) rfl rfl ?_
      exact qa_bn_mono (N := 6) (by omega) <| qa_bn_lw (qa_tL_isMemorySo_372_1  h) rfl rfl (And.intro rfl (trivial))
set_option maxRecDepth 1000000 in
theorem qa_tL_isMemorySo_357_3 {L : Nat}  {σ : qa_T} {r : (Bool × qa_T)} (h : qa_fL_isMemorySo_357_3  σ = some r) : qa_Bn L (6) qa_mL_isMemorySo 357 [(0, .inl (0, 1))] [.inr (.int (Int32.ofInt 1)), .inr (.int (Int32.ofInt 1))] σ (some (.inr (.int (qa_bi r.1)))) r.2 := by
  unfold qa_fL_isMemorySo_357_3 at h
  try dsimp only at h
  refine qa_bn_mono (N := 6) (by omega) ?_
  rcases qa_ite h with ⟨hc94, h⟩ | ⟨hc94, h⟩
  · refine qa_bn_1t (a := 440) (b := 360) hc94 rfl rfl ?_
    exact qa_bn_mono (N := 0) (by omega) <| qa_bn_lw (qa_tL_isMemorySo_440  h) rfl rfl (And.intro rfl (trivial))
  · refine qa_bn_1f (a := 440) (b := 360) hc94 rfl rfl ?_
    refine qa_bn_do (pc' := 361) rfl rfl ?_
    refine qa_bn_cv (qa_tX9_loadLeft rfl) rfl rfl rfl rfl rfl rfl rfl qa_dx_0_1 ?_
    rcases qa_ite h with ⟨hc95, h⟩ | ⟨hc95, h⟩
    · refine qa_bn_1t (a := 371) (b := 367) hc95 rfl rfl ?_
      refine qa_bn_do (pc' := 372) rfl rfl ?_
      exact qa_bn_mono (N := 6) (by omega) <| qa_bn_lw (qa_tL_isMemorySo_372  h) rfl rfl (And.intro rfl (trivial))
    · refine qa_bn_1f (a := 371) (b := 367) hc95 rfl rfl ?_
      refine qa_bn_do (pc' := 368) rfl rfl ?_
      refine qa_bn_do (pc' := 372) rfl rfl ?_
      exact qa_bn_mono (N := 6) (by omega) <| qa_bn_lw (qa_tL_isMemorySo_372_1  h) rfl rfl (And.intro rfl (trivial))
set_option maxRecDepth 1000000 in
theorem qa_tL_isMemorySo_344_1 {L : Nat}  {σ : qa_T} {r : (Bool × qa_T)} (h : qa_fL_isMemorySo_344_1  σ = some r) : qa_Bn L (7) qa_mL_isMemorySo 344 [(0, .inl (0, 1))] [.inr (.int (Int32.ofInt 1))] σ (some (.inr (.int (qa_bi r.1)))) r.2 := by
  unfold qa_fL_isMemorySo_344_1 at h
  try dsimp only at h
  refine qa_bn_mono (N := 7) (by omega) ?_
  refine qa_bn_do (pc' := 345) rfl rfl ?_
  refine qa_bn_do (pc' := 346) rfl rfl ?_
  obtain ⟨c89, hc90, h⟩ := Option.bind_eq_some_iff.mp h
  refine qa_bn_cl (N1 := 1) (N2 := 6) (N := 7) (by omega) (qa_tL_told hc90) rfl rfl rfl rfl rfl rfl rfl ?_
  rcases qa_ite h with ⟨hc91, h⟩ | ⟨hc91, h⟩
  · refine qa_bn_1t (a := 356) (b := 352) hc91 rfl rfl ?_
    refine qa_bn_do (pc' := 357) rfl rfl ?_
    exact qa_bn_mono (N := 6) (by omega) <| qa_bn_lw (qa_tL_isMemorySo_357_2  h) rfl rfl (And.intro rfl (trivial))
  · refine qa_bn_1f (a := 356) (b := 352) hc91 rfl rfl ?_
    refine qa_bn_do (pc' := 353) rfl rfl ?_
    refine qa_bn_do (pc' := 357) rfl rfl ?_
    exact qa_bn_mono (N := 6) (by omega) <| qa_bn_lw (qa_tL_isMemorySo_357_3  h) rfl rfl (And.intro rfl (trivial))
set_option maxRecDepth 1000000 in
theorem qa_tL_isMemorySo_325 {L : Nat}  {σ : qa_T} {r : (Bool × qa_T)} (h : qa_fL_isMemorySo_325  σ = some r) : qa_Bn L (7) qa_mL_isMemorySo 325 [(0, .inl (0, 1))] [.inr (.int (Int32.ofInt 0))] σ (some (.inr (.int (qa_bi r.1)))) r.2 := by
  unfold qa_fL_isMemorySo_325 at h
  try dsimp only at h
  refine qa_bn_mono (N := 7) (by omega) ?_
  refine qa_bn_do (pc' := 327) (lv' := [(5, _), (0, _)]) rfl rfl ?_
  refine qa_bn_do (pc' := 329) rfl rfl ?_
  rcases qa_ite h with ⟨hc3, h⟩ | ⟨hc3, h⟩
  · refine qa_bn_1t (a := 440) (b := 332) hc3 rfl rfl ?_
    exact qa_bn_mono (N := 0) (by omega) <| qa_bn_lw (qa_tL_isMemorySo_440  h) rfl rfl (And.intro rfl (trivial))
  · refine qa_bn_1f (a := 440) (b := 332) hc3 rfl rfl ?_
    refine qa_bn_do (pc' := 333) rfl rfl ?_
    refine qa_bn_cv (qa_tX9_fadeLeft rfl) rfl rfl rfl rfl rfl rfl rfl qa_dx_0_1 ?_
    rcases qa_ite h with ⟨hc4, h⟩ | ⟨hc4, h⟩
    · refine qa_bn_1t (a := 343) (b := 339) hc4 rfl rfl ?_
      refine qa_bn_do (pc' := 344) rfl rfl ?_
      exact qa_bn_mono (N := 7) (by omega) <| qa_bn_lw (qa_tL_isMemorySo_344  h) rfl rfl (And.intro rfl (trivial))
    · refine qa_bn_1f (a := 343) (b := 339) hc4 rfl rfl ?_
      refine qa_bn_do (pc' := 340) rfl rfl ?_
      refine qa_bn_do (pc' := 344) rfl rfl ?_
      exact qa_bn_mono (N := 7) (by omega) <| qa_bn_lw (qa_tL_isMemorySo_344_1  h) rfl rfl (And.intro rfl (trivial))
set_option maxRecDepth 1000000 in
theorem qa_tL_isMemorySo_324 {L : Nat}  {σ : qa_T} {r : (Bool × qa_T)} (h : qa_fL_isMemorySo_324  σ = some r) : qa_Bn L (7) qa_mL_isMemorySo 324 [(0, .inl (0, 1))] [] σ (some (.inr (.int (qa_bi r.1)))) r.2 := by
  unfold qa_fL_isMemorySo_324 at h
  try dsimp only at h
  refine qa_bn_mono (N := 7) (by omega) ?_
  refine qa_bn_do (pc' := 325) rfl rfl ?_
  exact qa_bn_mono (N := 7) (by omega) <| qa_bn_lw (qa_tL_isMemorySo_325  h) rfl rfl (And.intro rfl (trivial))
set_option maxRecDepth 1000000 in
theorem qa_tL_isMemorySo_325_1 {L : Nat}  {σ : qa_T} {r : (Bool × qa_T)} (h : qa_fL_isMemorySo_325_1  σ = some r) : qa_Bn L (7) qa_mL_isMemorySo 325 [(0, .inl (0, 1))] [.inr (.int (Int32.ofInt 1))] σ (some (.inr (.int (qa_bi r.1)))) r.2 := by
  unfold qa_fL_isMemorySo_325_1 at h
  try dsimp only at h
  refine qa_bn_mono (N := 7) (by omega) ?_
  refine qa_bn_do (pc' := 327) (lv' := [(5, _), (0, _)]) rfl rfl ?_
  refine qa_bn_do (pc' := 329) rfl rfl ?_
  rcases qa_ite h with ⟨hc105, h⟩ | ⟨hc105, h⟩
  · refine qa_bn_1t (a := 440) (b := 332) hc105 rfl rfl ?_
    exact qa_bn_mono (N := 0) (by omega) <| qa_bn_lw (qa_tL_isMemorySo_440  h) rfl rfl (And.intro rfl (trivial))
  · refine qa_bn_1f (a := 440) (b := 332) hc105 rfl rfl ?_
    refine qa_bn_do (pc' := 333) rfl rfl ?_
    refine qa_bn_cv (qa_tX9_fadeLeft rfl) rfl rfl rfl rfl rfl rfl rfl qa_dx_0_1 ?_
    rcases qa_ite h with ⟨hc106, h⟩ | ⟨hc106, h⟩
    · refine qa_bn_1t (a := 343) (b := 339) hc106 rfl rfl ?_
      refine qa_bn_do (pc' := 344) rfl rfl ?_
      exact qa_bn_mono (N := 7) (by omega) <| qa_bn_lw (qa_tL_isMemorySo_344  h) rfl rfl (And.intro rfl (trivial))
    · refine qa_bn_1f (a := 343) (b := 339) hc106 rfl rfl ?_
      refine qa_bn_do (pc' := 340) rfl rfl ?_
      refine qa_bn_do (pc' := 344) rfl rfl ?_
      exact qa_bn_mono (N := 7) (by omega) <| qa_bn_lw (qa_tL_isMemorySo_344_1  h) rfl rfl (And.intro rfl (trivial))
set_option maxRecDepth 1000000 in
theorem qa_tL_isMemorySo_243 {L : Nat}  {k15 : Int32 → Int32 → Int32 → Int32 → Int32 → Int32 → qa_T → Option (Bool × qa_T)} {Nh : Nat} (K15 : ∀ (x1 : Int32) (x2 : Int32) (x3 : Int32) (x4 : Int32) (x5 : Int32) (x6 : Int32) (σ : qa_T) (r : (Bool × qa_T)), k15 x1 x2 x3 x4 x5 x6 σ = some r → qa_Bn L Nh qa_mL_isMemorySo 15 [(0, .inl (0, 1)), (1, .inr (.int x1)), (2, .inr (.int x2)), (3, .inr (.int x3)), (4, .inr (.int x4)), (5, .inr (.int x5)), (6, .inr (.int x6))] [] σ (some (.inr (.int (qa_bi r.1)))) r.2) {x1 : Int32} {x2 : Int32} {x3 : Int32} {x5 : Int32} {x6 : Int32} {y1 : Int32} {σ : qa_T} {r : (Bool × qa_T)} (h : qa_fL_isMemorySo_243  k15 x1 x2 x3 x5 x6 y1 σ = some r) : qa_Bn L (0 + Nh) qa_mL_isMemorySo 243 [(0, .inl (0, 1)), (1, .inr (.int x1)), (2, .inr (.int x2)), (3, .inr (.int x3)), (5, .inr (.int x5)), (6, .inr (.int x6))] [.inr (.int (Int32.ofInt 0)), .inr (.int y1)] σ (some (.inr (.int (qa_bi r.1)))) r.2 := by
  unfold qa_fL_isMemorySo_243 at h
  try dsimp only at h
  refine qa_bn_mono (N := 0 + Nh) (by omega) ?_
  refine qa_bn_do (pc' := 244) rfl rfl ?_
  refine qa_bn_do (pc' := 246) (lv' := [(4, _), (0, _), (1, _), (2, _), (3, _), (5, _), (6, _)]) rfl rfl ?_
  refine qa_bn_do (pc' := 249) (lv' := [(6, _), (4, _), (0, _), (1, _), (2, _), (3, _), (5, _)]) rfl rfl ?_
  refine qa_bn_do (pc' := 15) rfl rfl ?_
  exact qa_bn_mono (N := Nh) (by omega) <| qa_bn_lw (K15 _ _ _ _ _ _ _ _ h) rfl rfl (And.intro rfl (And.intro rfl (And.intro rfl (And.intro rfl (And.intro rfl (And.intro rfl (And.intro rfl (trivial))))))))
set_option maxRecDepth 1000000 in
theorem qa_tL_isMemorySo_242 {L : Nat}  {k15 : Int32 → Int32 → Int32 → Int32 → Int32 → Int32 → qa_T → Option (Bool × qa_T)} {Nh : Nat} (K15 : ∀ (x1 : Int32) (x2 : Int32) (x3 : Int32) (x4 : Int32) (x5 : Int32) (x6 : Int32) (σ : qa_T) (r : (Bool × qa_T)), k15 x1 x2 x3 x4 x5 x6 σ = some r → qa_Bn L Nh qa_mL_isMemorySo 15 [(0, .inl (0, 1)), (1, .inr (.int x1)), (2, .inr (.int x2)), (3, .inr (.int x3)), (4, .inr (.int x4)), (5, .inr (.int x5)), (6, .inr (.int x6))] [] σ (some (.inr (.int (qa_bi r.1)))) r.2) {x1 : Int32} {x2 : Int32} {x3 : Int32} {x5 : Int32} {x6 : Int32} {y0 : Int32} {σ : qa_T} {r : (Bool × qa_T)} (h : qa_fL_isMemorySo_242  k15 x1 x2 x3 x5 x6 y0 σ = some r) : qa_Bn L (0 + Nh) qa_mL_isMemorySo 242 [(0, .inl (0, 1)), (1, .inr (.int x1)), (2, .inr (.int x2)), (3, .inr (.int x3)), (5, .inr (.int x5)), (6, .inr (.int x6))] [.inr (.int y0)] σ (some (.inr (.int (qa_bi r.1)))) r.2 := by
  unfold qa_fL_isMemorySo_242 at h
  try dsimp only at h
  refine qa_bn_mono (N := 0 + Nh) (by omega) ?_
  refine qa_bn_do (pc' := 243) rfl rfl ?_
  exact qa_bn_mono (N := 0 + (Nh)) (by omega) <| qa_bn_lw (qa_tL_isMemorySo_243  K15 h) rfl rfl (And.intro rfl (And.intro rfl (And.intro rfl (And.intro rfl (And.intro rfl (And.intro rfl (trivial)))))))
set_option maxRecDepth 1000000 in
theorem qa_tL_isMemorySo_243_1 {L : Nat}  {k15 : Int32 → Int32 → Int32 → Int32 → Int32 → Int32 → qa_T → Option (Bool × qa_T)} {Nh : Nat} (K15 : ∀ (x1 : Int32) (x2 : Int32) (x3 : Int32) (x4 : Int32) (x5 : Int32) (x6 : Int32) (σ : qa_T) (r : (Bool × qa_T)), k15 x1 x2 x3 x4 x5 x6 σ = some r → qa_Bn L Nh qa_mL_isMemorySo 15 [(0, .inl (0, 1)), (1, .inr (.int x1)), (2, .inr (.int x2)), (3, .inr (.int x3)), (4, .inr (.int x4)), (5, .inr (.int x5)), (6, .inr (.int x6))] [] σ (some (.inr (.int (qa_bi r.1)))) r.2) {x1 : Int32} {x2 : Int32} {x3 : Int32} {x5 : Int32} {x6 : Int32} {y0 : Int32} {y1 : Int32} {σ : qa_T} {r : (Bool × qa_T)} (h : qa_fL_isMemorySo_243_1  k15 x1 x2 x3 x5 x6 y0 y1 σ = some r) : qa_Bn L (0 + Nh) qa_mL_isMemorySo 243 [(0, .inl (0, 1)), (1, .inr (.int x1)), (2, .inr (.int x2)), (3, .inr (.int x3)), (5, .inr (.int x5)), (6, .inr (.int x6))] [.inr (.int y0), .inr (.int y1)] σ (some (.inr (.int (qa_bi r.1)))) r.2 := by
  unfold qa_fL_isMemorySo_243_1 at h
  try dsimp only at h
  refine qa_bn_mono (N := 0 + Nh) (by omega) ?_
  refine qa_bn_do (pc' := 244) rfl rfl ?_
  refine qa_bn_do (pc' := 246) (lv' := [(4, _), (0, _), (1, _), (2, _), (3, _), (5, _), (6, _)]) rfl rfl ?_
  refine qa_bn_do (pc' := 249) (lv' := [(6, _), (4, _), (0, _), (1, _), (2, _), (3, _), (5, _)]) rfl rfl ?_
  refine qa_bn_do (pc' := 15) rfl rfl ?_
  exact qa_bn_mono (N := Nh) (by omega) <| qa_bn_lw (K15 _ _ _ _ _ _ _ _ h) rfl rfl (And.intro rfl (And.intro rfl (And.intro rfl (And.intro rfl (And.intro rfl (And.intro rfl (And.intro rfl (trivial))))))))
set_option maxRecDepth 1000000 in
theorem qa_tL_isMemorySo_217 {L : Nat}  {k15 : Int32 → Int32 → Int32 → Int32 → Int32 → Int32 → qa_T → Option (Bool × qa_T)} {Nh : Nat} (K15 : ∀ (x1 : Int32) (x2 : Int32) (x3 : Int32) (x4 : Int32) (x5 : Int32) (x6 : Int32) (σ : qa_T) (r : (Bool × qa_T)), k15 x1 x2 x3 x4 x5 x6 σ = some r → qa_Bn L Nh qa_mL_isMemorySo 15 [(0, .inl (0, 1)), (1, .inr (.int x1)), (2, .inr (.int x2)), (3, .inr (.int x3)), (4, .inr (.int x4)), (5, .inr (.int x5)), (6, .inr (.int x6))] [] σ (some (.inr (.int (qa_bi r.1)))) r.2) {x1 : Int32} {x2 : Int32} {x3 : Int32} {x4 : Int32} {x6 : Int32} {x7 : Int32} {x8 : Int32} {σ : qa_T} {r : (Bool × qa_T)} (h : qa_fL_isMemorySo_217  k15 x1 x2 x3 x4 x6 x7 x8 σ = some r) : qa_Bn L (0 + Nh) qa_mL_isMemorySo 217 [(0, .inl (0, 1)), (1, .inr (.int x1)), (2, .inr (.int x2)), (3, .inr (.int x3)), (4, .inr (.int x4)), (6, .inr (.int x6)), (7, .inr (.int x7)), (8, .inr (.int x8))] [.inr (.int (Int32.ofInt 0))] σ (some (.inr (.int (qa_bi r.1)))) r.2 := by
  unfold qa_fL_isMemorySo_217 at h
  try dsimp only at h
  refine qa_bn_mono (N := 0 + Nh) (by omega) ?_
  refine qa_bn_do (pc' := 219) (lv' := [(5, _), (0, _), (1, _), (2, _), (3, _), (4, _), (6, _), (7, _), (8, _)]) rfl rfl ?_
  refine qa_bn_do (pc' := 221) rfl rfl ?_
  refine qa_bn_do (pc' := 223) rfl rfl ?_
  rcases qa_ite h with ⟨hc132, h⟩ | ⟨hc132, h⟩
  · refine qa_bn_1t (a := 242) (b := 226) hc132 rfl rfl ?_
    exact qa_bn_mono (N := 0 + (Nh)) (by omega) <| qa_bn_lw (qa_tL_isMemorySo_242  K15 h) rfl rfl (And.intro rfl (And.intro rfl (And.intro rfl (And.intro rfl (And.intro rfl (And.intro rfl (trivial)))))))
  · refine qa_bn_1f (a := 242) (b := 226) hc132 rfl rfl ?_
    refine qa_bn_do (pc' := 228) rfl rfl ?_
    rcases qa_ite h with ⟨hc135, h⟩ | ⟨hc135, h⟩
    · refine qa_bn_1t (a := 242) (b := 231) hc135 rfl rfl ?_
      exact qa_bn_mono (N := 0 + (Nh)) (by omega) <| qa_bn_lw (qa_tL_isMemorySo_242  K15 h) rfl rfl (And.intro rfl (And.intro rfl (And.intro rfl (And.intro rfl (And.intro rfl (And.intro rfl (trivial)))))))
    · refine qa_bn_1f (a := 242) (b := 231) hc135 rfl rfl ?_
      refine qa_bn_do (pc' := 232) rfl rfl ?_
      refine qa_bn_do (pc' := 233) rfl rfl ?_
      refine qa_bn_do (pc' := 235) rfl rfl ?_
      obtain ⟨⟨c136, σ139⟩, hc137, h⟩ := Option.bind_eq_some_iff.mp h
      cases c136 with
      | inl r138 =>
        try dsimp only at h
        refine qa_bn_cv (qa_tX9_burnPlace hc137) rfl rfl rfl rfl rfl rfl rfl qa_dx_0_1 ?_
        refine qa_bn_do (pc' := 239) rfl rfl ?_
        refine qa_bn_do (pc' := 243) rfl rfl ?_
        exact qa_bn_mono (N := 0 + (Nh)) (by omega) <| qa_bn_lw (qa_tL_isMemorySo_243_1  K15 h) rfl rfl (And.intro rfl (And.intro rfl (And.intro rfl (And.intro rfl (And.intro rfl (And.intro rfl (trivial)))))))
      | inr E140 =>
        try dsimp only at h
        cases h
set_option maxRecDepth 1000000 in
theorem qa_tL_isMemorySo_216 {L : Nat}  {k15 : Int32 → Int32 → Int32 → Int32 → Int32 → Int32 → qa_T → Option (Bool × qa_T)} {Nh : Nat} (K15 : ∀ (x1 : Int32) (x2 : Int32) (x3 : Int32) (x4 : Int32) (x5 : Int32) (x6 : Int32) (σ : qa_T) (r : (Bool × qa_T)), k15 x1 x2 x3 x4 x5 x6 σ = some r → qa_Bn L Nh qa_mL_isMemorySo 15 [(0, .inl (0, 1)), (1, .inr (.int x1)), (2, .inr (.int x2)), (3, .inr (.int x3)), (4, .inr (.int x4)), (5, .inr (.int x5)), (6, .inr (.int x6))] [] σ (some (.inr (.int (qa_bi r.1)))) r.2) {x1 : Int32} {x2 : Int32} {x3 : Int32} {x4 : Int32} {x6 : Int32} {x7 : Int32} {x8 : Int32} {σ : qa_T} {r : (Bool × qa_T)} (h : qa_fL_isMemorySo_216  k15 x1 x2 x3 x4 x6 x7 x8 σ = some r) : qa_Bn L (0 + Nh) qa_mL_isMemorySo 216 [(0, .inl (0, 1)), (1, .inr (.int x1)), (2, .inr (.int x2)), (3, .inr (.int x3)), (4, .inr (.int x4)), (6, .inr (.int x6)), (7, .inr (.int x7)), (8, .inr (.int x8))] [] σ (some (.inr (.int (qa_bi r.1)))) r.2 := by
  unfold qa_fL_isMemorySo_216 at h
  try dsimp only at h
  refine qa_bn_mono (N := 0 + Nh) (by omega) ?_
  refine qa_bn_do (pc' := 217) rfl rfl ?_
  exact qa_bn_mono (N := 0 + (Nh)) (by omega) <| qa_bn_lw (qa_tL_isMemorySo_217  K15 h) rfl rfl (And.intro rfl (And.intro rfl (And.intro rfl (And.intro rfl (And.intro rfl (And.intro rfl (And.intro rfl (And.intro rfl (trivial)))))))))
set_option maxRecDepth 1000000 in
theorem qa_tL_isMemorySo_217_1 {L : Nat}  {k15 : Int32 → Int32 → Int32 → Int32 → Int32 → Int32 → qa_T → Option (Bool × qa_T)} {Nh : Nat} (K15 : ∀ (x1 : Int32) (x2 : Int32) (x3 : Int32) (x4 : Int32) (x5 : Int32) (x6 : Int32) (σ : qa_T) (r : (Bool × qa_T)), k15 x1 x2 x3 x4 x5 x6 σ = some r → qa_Bn L Nh qa_mL_isMemorySo 15 [(0, .inl (0, 1)), (1, .inr (.int x1)), (2, .inr (.int x2)), (3, .inr (.int x3)), (4, .inr (.int x4)), (5, .inr (.int x5)), (6, .inr (.int x6))] [] σ (some (.inr (.int (qa_bi r.1)))) r.2) {x1 : Int32} {x2 : Int32} {x3 : Int32} {x4 : Int32} {x6 : Int32} {x7 : Int32} {x8 : Int32} {σ : qa_T} {r : (Bool × qa_T)} (h : qa_fL_isMemorySo_217_1  k15 x1 x2 x3 x4 x6 x7 x8 σ = some r) : qa_Bn L (0 + Nh) qa_mL_isMemorySo 217 [(0, .inl (0, 1)), (1, .inr (.int x1)), (2, .inr (.int x2)), (3, .inr (.int x3)), (4, .inr (.int x4)), (6, .inr (.int x6)), (7, .inr (.int x7)), (8, .inr (.int x8))] [.inr (.int (Int32.ofInt 1))] σ (some (.inr (.int (qa_bi r.1)))) r.2 := by
  unfold qa_fL_isMemorySo_217_1 at h
  try dsimp only at h
  refine qa_bn_mono (N := 0 + Nh) (by omega) ?_
  refine qa_bn_do (pc' := 219) (lv' := [(5, _), (0, _), (1, _), (2, _), (3, _), (4, _), (6, _), (7, _), (8, _)]) rfl rfl ?_
  refine qa_bn_do (pc' := 221) rfl rfl ?_
  refine qa_bn_do (pc' := 223) rfl rfl ?_
  rcases qa_ite h with ⟨hc175, h⟩ | ⟨hc175, h⟩
  · refine qa_bn_1t (a := 242) (b := 226) hc175 rfl rfl ?_
    exact qa_bn_mono (N := 0 + (Nh)) (by omega) <| qa_bn_lw (qa_tL_isMemorySo_242  K15 h) rfl rfl (And.intro rfl (And.intro rfl (And.intro rfl (And.intro rfl (And.intro rfl (And.intro rfl (trivial)))))))
  · refine qa_bn_1f (a := 242) (b := 226) hc175 rfl rfl ?_
    refine qa_bn_do (pc' := 228) rfl rfl ?_
    rcases qa_ite h with ⟨hc176, h⟩ | ⟨hc176, h⟩
    · refine qa_bn_1t (a := 242) (b := 231) hc176 rfl rfl ?_
      exact qa_bn_mono (N := 0 + (Nh)) (by omega) <| qa_bn_lw (qa_tL_isMemorySo_242  K15 h) rfl rfl (And.intro rfl (And.intro rfl (And.intro rfl (And.intro rfl (And.intro rfl (And.intro rfl (trivial)))))))
    · refine qa_bn_1f (a := 242) (b := 231) hc176 rfl rfl ?_
      refine qa_bn_do (pc' := 232) rfl rfl ?_
      refine qa_bn_do (pc' := 233) rfl rfl ?_
      refine qa_bn_do (pc' := 235) rfl rfl ?_
      obtain ⟨⟨c177, σ180⟩, hc178, h⟩ := Option.bind_eq_some_iff.mp h
      cases c177 with
      | inl r179 =>
        try dsimp only at h
        refine qa_bn_cv (qa_tX9_burnPlace hc178) rfl rfl rfl rfl rfl rfl rfl qa_dx_0_1 ?_
        refine qa_bn_do (pc' := 239) rfl rfl ?_
        refine qa_bn_do (pc' := 243) rfl rfl ?_
        exact qa_bn_mono (N := 0 + (Nh)) (by omega) <| qa_bn_lw (qa_tL_isMemorySo_243_1  K15 h) rfl rfl (And.intro rfl (And.intro rfl (And.intro rfl (And.intro rfl (And.intro rfl (And.intro rfl (trivial)))))))
      | inr E181 =>
        try dsimp only at h
        cases h
set_option maxRecDepth 1000000 in
theorem qa_tL_isMemorySo_212 {L : Nat}  {k15 : Int32 → Int32 → Int32 → Int32 → Int32 → Int32 → qa_T → Option (Bool × qa_T)} {Nh : Nat} (K15 : ∀ (x1 : Int32) (x2 : Int32) (x3 : Int32) (x4 : Int32) (x5 : Int32) (x6 : Int32) (σ : qa_T) (r : (Bool × qa_T)), k15 x1 x2 x3 x4 x5 x6 σ = some r → qa_Bn L Nh qa_mL_isMemorySo 15 [(0, .inl (0, 1)), (1, .inr (.int x1)), (2, .inr (.int x2)), (3, .inr (.int x3)), (4, .inr (.int x4)), (5, .inr (.int x5)), (6, .inr (.int x6))] [] σ (some (.inr (.int (qa_bi r.1)))) r.2) {x1 : Int32} {x2 : Int32} {x3 : Int32} {x4 : Int32} {x6 : Int32} {x7 : Int32} {x8 : Int32} {σ : qa_T} {r : (Bool × qa_T)} (h : qa_fL_isMemorySo_212  k15 x1 x2 x3 x4 x6 x7 x8 σ = some r) : qa_Bn L (0 + Nh) qa_mL_isMemorySo 212 [(0, .inl (0, 1)), (1, .inr (.int x1)), (2, .inr (.int x2)), (3, .inr (.int x3)), (4, .inr (.int x4)), (6, .inr (.int x6)), (7, .inr (.int x7)), (8, .inr (.int x8))] [] σ (some (.inr (.int (qa_bi r.1)))) r.2 := by
  unfold qa_fL_isMemorySo_212 at h
  try dsimp only at h
  refine qa_bn_mono (N := 0 + Nh) (by omega) ?_
  refine qa_bn_do (pc' := 213) rfl rfl ?_
  refine qa_bn_do (pc' := 217) rfl rfl ?_
  exact qa_bn_mono (N := 0 + (Nh)) (by omega) <| qa_bn_lw (qa_tL_isMemorySo_217_1  K15 h) rfl rfl (And.intro rfl (And.intro rfl (And.intro rfl (And.intro rfl (And.intro rfl (And.intro rfl (And.intro rfl (And.intro rfl (trivial)))))))))
set_option maxRecDepth 1000000 in
theorem qa_tL_isMemorySo_169 {L : Nat}  {k15 : Int32 → Int32 → Int32 → Int32 → Int32 → Int32 → qa_T → Option (Bool × qa_T)} {Nh : Nat} (K15 : ∀ (x1 : Int32) (x2 : Int32) (x3 : Int32) (x4 : Int32) (x5 : Int32) (x6 : Int32) (σ : qa_T) (r : (Bool × qa_T)), k15 x1 x2 x3 x4 x5 x6 σ = some r → qa_Bn L Nh qa_mL_isMemorySo 15 [(0, .inl (0, 1)), (1, .inr (.int x1)), (2, .inr (.int x2)), (3, .inr (.int x3)), (4, .inr (.int x4)), (5, .inr (.int x5)), (6, .inr (.int x6))] [] σ (some (.inr (.int (qa_bi r.1)))) r.2) {x1 : Int32} {x2 : Int32} {x3 : Int32} {x4 : Int32} {x6 : Int32} {x7 : Int32} {x8 : Int32} {σ : qa_T} {r : (Bool × qa_T)} (h : qa_fL_isMemorySo_169  k15 x1 x2 x3 x4 x6 x7 x8 σ = some r) : qa_Bn L (0 + Nh) qa_mL_isMemorySo 169 [(0, .inl (0, 1)), (1, .inr (.int x1)), (2, .inr (.int x2)), (3, .inr (.int x3)), (4, .inr (.int x4)), (6, .inr (.int x6)), (7, .inr (.int x7)), (8, .inr (.int x8))] [] σ (some (.inr (.int (qa_bi r.1)))) r.2 := by
  unfold qa_fL_isMemorySo_169 at h
  try dsimp only at h
  refine qa_bn_mono (N := 0 + Nh) (by omega) ?_
  refine qa_bn_do (pc' := 170) rfl rfl ?_
  refine qa_bn_do (pc' := 172) rfl rfl ?_
  obtain ⟨⟨c156, σ159⟩, hc157, h⟩ := Option.bind_eq_some_iff.mp h
  have hc157 := Option.some.inj hc157
  cases c156 with
  | inl r158 =>
    try dsimp only at h
    refine qa_bn_cv (qa_tX9_loadOf hc157) rfl rfl rfl rfl rfl rfl rfl qa_dx_0_1 ?_
    rcases qa_ite h with ⟨hc161, h⟩ | ⟨hc161, h⟩
    · refine qa_bn_1t (a := 216) (b := 178) hc161 rfl rfl ?_
      exact qa_bn_mono (N := 0 + (Nh)) (by omega) <| qa_bn_lw (qa_tL_isMemorySo_216  K15 h) rfl rfl (And.intro rfl (And.intro rfl (And.intro rfl (And.intro rfl (And.intro rfl (And.intro rfl (And.intro rfl (And.intro rfl (trivial)))))))))
    · refine qa_bn_1f (a := 216) (b := 178) hc161 rfl rfl ?_
      refine qa_bn_do (pc' := 179) rfl rfl ?_
      refine qa_bn_do (pc' := 181) rfl rfl ?_
      obtain ⟨⟨c162, σ165⟩, hc163, h⟩ := Option.bind_eq_some_iff.mp h
      have hc163 := Option.some.inj hc163
      cases c162 with
      | inl r164 =>
        try dsimp only at h
        refine qa_bn_cv (qa_tX9_loadOf hc163) rfl rfl rfl rfl rfl rfl rfl qa_dx_0_1 ?_
        refine qa_bn_do (pc' := 186) rfl rfl ?_
        rcases qa_ite h with ⟨hc167, h⟩ | ⟨hc167, h⟩
        · refine qa_bn_1t (a := 216) (b := 189) hc167 rfl rfl ?_
          exact qa_bn_mono (N := 0 + (Nh)) (by omega) <| qa_bn_lw (qa_tL_isMemorySo_216  K15 h) rfl rfl (And.intro rfl (And.intro rfl (And.intro rfl (And.intro rfl (And.intro rfl (And.intro rfl (And.intro rfl (And.intro rfl (trivial)))))))))
        · refine qa_bn_1f (a := 216) (b := 189) hc167 rfl rfl ?_
          refine qa_bn_do (pc' := 190) rfl rfl ?_
          refine qa_bn_do (pc' := 192) rfl rfl ?_
          obtain ⟨⟨c168, σ171⟩, hc169, h⟩ := Option.bind_eq_some_iff.mp h
          cases c168 with
          | inl r170 =>
            try dsimp only at h
            refine qa_bn_cv (qa_tX9_burningsFor hc169) rfl rfl rfl rfl rfl rfl rfl qa_dx_0_1 ?_
            rcases qa_ite h with ⟨hc173, h⟩ | ⟨hc173, h⟩
            · refine qa_bn_1t (a := 216) (b := 198) hc173 rfl rfl ?_
              exact qa_bn_mono (N := 0 + (Nh)) (by omega) <| qa_bn_lw (qa_tL_isMemorySo_216  K15 h) rfl rfl (And.intro rfl (And.intro rfl (And.intro rfl (And.intro rfl (And.intro rfl (And.intro rfl (And.intro rfl (And.intro rfl (trivial)))))))))
            · refine qa_bn_1f (a := 216) (b := 198) hc173 rfl rfl ?_
              refine qa_bn_do (pc' := 200) rfl rfl ?_
              rcases qa_ite h with ⟨hc174, h⟩ | ⟨hc174, h⟩
              · refine qa_bn_1t (a := 212) (b := 203) hc174 rfl rfl ?_
                exact qa_bn_mono (N := 0 + (Nh)) (by omega) <| qa_bn_lw (qa_tL_isMemorySo_212  K15 h) rfl rfl (And.intro rfl (And.intro rfl (And.intro rfl (And.intro rfl (And.intro rfl (And.intro rfl (And.intro rfl (And.intro rfl (trivial)))))))))
              · refine qa_bn_1f (a := 212) (b := 203) hc174 rfl rfl ?_
                refine qa_bn_do (pc' := 204) rfl rfl ?_
                refine qa_bn_do (pc' := 206) rfl rfl ?_
                obtain ⟨⟨c182, σ185⟩, hc183, h⟩ := Option.bind_eq_some_iff.mp h
                cases c182 with
                | inl r184 =>
                  try dsimp only at h
                  refine qa_bn_cv (qa_tX9_burningsFor hc183) rfl rfl rfl rfl rfl rfl rfl qa_dx_0_1 ?_
                  rcases qa_ite h with ⟨hc187, h⟩ | ⟨hc187, h⟩
                  · refine qa_bn_1t (a := 216) (b := 212) hc187 rfl rfl ?_
                    exact qa_bn_mono (N := 0 + (Nh)) (by omega) <| qa_bn_lw (qa_tL_isMemorySo_216  K15 h) rfl rfl (And.intro rfl (And.intro rfl (And.intro rfl (And.intro rfl (And.intro rfl (And.intro rfl (And.intro rfl (And.intro rfl (trivial)))))))))
                  · refine qa_bn_1f (a := 216) (b := 212) hc187 rfl rfl ?_
                    exact qa_bn_mono (N := 0 + (Nh)) (by omega) <| qa_bn_lw (qa_tL_isMemorySo_212  K15 h) rfl rfl (And.intro rfl (And.intro rfl (And.intro rfl (And.intro rfl (And.intro rfl (And.intro rfl (And.intro rfl (And.intro rfl (trivial)))))))))
                | inr E186 =>
                  try dsimp only at h
                  cases h
          | inr E172 =>
            try dsimp only at h
            cases h
      | inr E166 =>
        try dsimp only at h
        cases h
  | inr E160 =>
    try dsimp only at h
    cases h
set_option maxRecDepth 1000000 in
theorem qa_tL_isMemorySo_145 {L : Nat}  {k15 : Int32 → Int32 → Int32 → Int32 → Int32 → Int32 → qa_T → Option (Bool × qa_T)} {Nh : Nat} (K15 : ∀ (x1 : Int32) (x2 : Int32) (x3 : Int32) (x4 : Int32) (x5 : Int32) (x6 : Int32) (σ : qa_T) (r : (Bool × qa_T)), k15 x1 x2 x3 x4 x5 x6 σ = some r → qa_Bn L Nh qa_mL_isMemorySo 15 [(0, .inl (0, 1)), (1, .inr (.int x1)), (2, .inr (.int x2)), (3, .inr (.int x3)), (4, .inr (.int x4)), (5, .inr (.int x5)), (6, .inr (.int x6))] [] σ (some (.inr (.int (qa_bi r.1)))) r.2) {x1 : Int32} {x2 : Int32} {x3 : Int32} {x4 : Int32} {x6 : Int32} {x7 : Int32} {x8 : Int32} {σ : qa_T} {r : (Bool × qa_T)} (h : qa_fL_isMemorySo_145  k15 x1 x2 x3 x4 x6 x7 x8 σ = some r) : qa_Bn L (1 + Nh) qa_mL_isMemorySo 145 [(0, .inl (0, 1)), (1, .inr (.int x1)), (2, .inr (.int x2)), (3, .inr (.int x3)), (4, .inr (.int x4)), (6, .inr (.int x6)), (7, .inr (.int x7)), (8, .inr (.int x8))] [] σ (some (.inr (.int (qa_bi r.1)))) r.2 := by
  unfold qa_fL_isMemorySo_145 at h
  try dsimp only at h
  refine qa_bn_mono (N := 1 + Nh) (by omega) ?_
  refine qa_bn_do (pc' := 146) rfl rfl ?_
  refine qa_bn_do (pc' := 148) rfl rfl ?_
  obtain ⟨⟨c150, σ153⟩, hc151, h⟩ := Option.bind_eq_some_iff.mp h
  have hc151 := Option.some.inj hc151
  cases c150 with
  | inl r152 =>
    try dsimp only at h
    refine qa_bn_cv (qa_tX9_glowOf hc151) rfl rfl rfl rfl rfl rfl rfl qa_dx_0_1 ?_
    rcases qa_ite h with ⟨hc155, h⟩ | ⟨hc155, h⟩
    · refine qa_bn_1t (a := 169) (b := 154) hc155 rfl rfl ?_
      exact qa_bn_mono (N := 0 + (Nh)) (by omega) <| qa_bn_lw (qa_tL_isMemorySo_169  K15 h) rfl rfl (And.intro rfl (And.intro rfl (And.intro rfl (And.intro rfl (And.intro rfl (And.intro rfl (And.intro rfl (And.intro rfl (trivial)))))))))
    · refine qa_bn_1f (a := 169) (b := 154) hc155 rfl rfl ?_
      refine qa_bn_do (pc' := 156) rfl rfl ?_
      rcases qa_ite h with ⟨hc188, h⟩ | ⟨hc188, h⟩
      · refine qa_bn_1t (a := 216) (b := 159) hc188 rfl rfl ?_
        exact qa_bn_mono (N := 0 + (Nh)) (by omega) <| qa_bn_lw (qa_tL_isMemorySo_216  K15 h) rfl rfl (And.intro rfl (And.intro rfl (And.intro rfl (And.intro rfl (And.intro rfl (And.intro rfl (And.intro rfl (And.intro rfl (trivial)))))))))
      · refine qa_bn_1f (a := 216) (b := 159) hc188 rfl rfl ?_
        refine qa_bn_do (pc' := 160) rfl rfl ?_
        refine qa_bn_do (pc' := 161) rfl rfl ?_
        obtain ⟨c189, hc190, h⟩ := Option.bind_eq_some_iff.mp h
        refine qa_bn_cl (N1 := 1) (N2 := 0 + Nh) (N := 1 + Nh) (by omega) (qa_tL_told hc190) rfl rfl rfl rfl rfl rfl rfl ?_
        refine qa_bn_do (pc' := 166) rfl rfl ?_
        rcases qa_ite h with ⟨hc191, h⟩ | ⟨hc191, h⟩
        · refine qa_bn_1t (a := 216) (b := 169) hc191 rfl rfl ?_
          exact qa_bn_mono (N := 0 + (Nh)) (by omega) <| qa_bn_lw (qa_tL_isMemorySo_216  K15 h) rfl rfl (And.intro rfl (And.intro rfl (And.intro rfl (And.intro rfl (And.intro rfl (And.intro rfl (And.intro rfl (And.intro rfl (trivial)))))))))
        · refine qa_bn_1f (a := 216) (b := 169) hc191 rfl rfl ?_
          exact qa_bn_mono (N := 0 + (Nh)) (by omega) <| qa_bn_lw (qa_tL_isMemorySo_169  K15 h) rfl rfl (And.intro rfl (And.intro rfl (And.intro rfl (And.intro rfl (And.intro rfl (And.intro rfl (And.intro rfl (And.intro rfl (trivial)))))))))
  | inr E154 =>
    try dsimp only at h
    cases h
set_option maxRecDepth 1000000 in
theorem qa_tL_isMemorySo_117 {L : Nat}  {k15 : Int32 → Int32 → Int32 → Int32 → Int32 → Int32 → qa_T → Option (Bool × qa_T)} {Nh : Nat} (K15 : ∀ (x1 : Int32) (x2 : Int32) (x3 : Int32) (x4 : Int32) (x5 : Int32) (x6 : Int32) (σ : qa_T) (r : (Bool × qa_T)), k15 x1 x2 x3 x4 x5 x6 σ = some r → qa_Bn L Nh qa_mL_isMemorySo 15 [(0, .inl (0, 1)), (1, .inr (.int x1)), (2, .inr (.int x2)), (3, .inr (.int x3)), (4, .inr (.int x4)), (5, .inr (.int x5)), (6, .inr (.int x6))] [] σ (some (.inr (.int (qa_bi r.1)))) r.2) {x1 : Int32} {x2 : Int32} {x3 : Int32} {x4 : Int32} {x5 : Int32} {x6 : Int32} {x7 : Int32} {σ : qa_T} {r : (Bool × qa_T)} (h : qa_fL_isMemorySo_117  k15 x1 x2 x3 x4 x5 x6 x7 σ = some r) : qa_Bn L (1 + Nh) qa_mL_isMemorySo 117 [(0, .inl (0, 1)), (1, .inr (.int x1)), (2, .inr (.int x2)), (3, .inr (.int x3)), (4, .inr (.int x4)), (5, .inr (.int x5)), (6, .inr (.int x6)), (7, .inr (.int x7))] [.inr (.int (Int32.ofInt 1))] σ (some (.inr (.int (qa_bi r.1)))) r.2 := by
  unfold qa_fL_isMemorySo_117 at h
  try dsimp only at h
  refine qa_bn_mono (N := 1 + Nh) (by omega) ?_
  refine qa_bn_do (pc' := 119) (lv' := [(8, _), (0, _), (1, _), (2, _), (3, _), (4, _), (5, _), (6, _), (7, _)]) rfl rfl ?_
  refine qa_bn_do (pc' := 121) rfl rfl ?_
  rcases qa_ite h with ⟨hc131, h⟩ | ⟨hc131, h⟩
  · refine qa_bn_1t (a := 216) (b := 124) hc131 rfl rfl ?_
    exact qa_bn_mono (N := 0 + (Nh)) (by omega) <| qa_bn_lw (qa_tL_isMemorySo_216  K15 h) rfl rfl (And.intro rfl (And.intro rfl (And.intro rfl (And.intro rfl (And.intro rfl (And.intro rfl (And.intro rfl (And.intro rfl (trivial)))))))))
  · refine qa_bn_1f (a := 216) (b := 124) hc131 rfl rfl ?_
    refine qa_bn_do (pc' := 125) rfl rfl ?_
    refine qa_bn_do (pc' := 127) rfl rfl ?_
    obtain ⟨⟨c143, σ146⟩, hc144, h⟩ := Option.bind_eq_some_iff.mp h
    have hc144 := Option.some.inj hc144
    cases c143 with
    | inl r145 =>
      try dsimp only at h
      refine qa_bn_cv (qa_tX9_isOnShow hc144) rfl rfl rfl rfl rfl rfl rfl qa_dx_0_1 ?_
      refine qa_bn_do (pc' := 132) rfl rfl ?_
      rcases qa_ite h with ⟨hc148, h⟩ | ⟨hc148, h⟩
      · refine qa_bn_1t (a := 216) (b := 135) hc148 rfl rfl ?_
        exact qa_bn_mono (N := 0 + (Nh)) (by omega) <| qa_bn_lw (qa_tL_isMemorySo_216  K15 h) rfl rfl (And.intro rfl (And.intro rfl (And.intro rfl (And.intro rfl (And.intro rfl (And.intro rfl (And.intro rfl (And.intro rfl (trivial)))))))))
      · refine qa_bn_1f (a := 216) (b := 135) hc148 rfl rfl ?_
        refine qa_bn_do (pc' := 137) rfl rfl ?_
        rcases qa_ite h with ⟨hc149, h⟩ | ⟨hc149, h⟩
        · refine qa_bn_1t (a := 145) (b := 140) hc149 rfl rfl ?_
          exact qa_bn_mono (N := 1 + (Nh)) (by omega) <| qa_bn_lw (qa_tL_isMemorySo_145  K15 h) rfl rfl (And.intro rfl (And.intro rfl (And.intro rfl (And.intro rfl (And.intro rfl (And.intro rfl (And.intro rfl (And.intro rfl (trivial)))))))))
        · refine qa_bn_1f (a := 145) (b := 140) hc149 rfl rfl ?_
          refine qa_bn_do (pc' := 142) rfl rfl ?_
          rcases qa_ite h with ⟨hc192, h⟩ | ⟨hc192, h⟩
          · refine qa_bn_1t (a := 216) (b := 145) hc192 rfl rfl ?_
            exact qa_bn_mono (N := 0 + (Nh)) (by omega) <| qa_bn_lw (qa_tL_isMemorySo_216  K15 h) rfl rfl (And.intro rfl (And.intro rfl (And.intro rfl (And.intro rfl (And.intro rfl (And.intro rfl (And.intro rfl (And.intro rfl (trivial)))))))))
          · refine qa_bn_1f (a := 216) (b := 145) hc192 rfl rfl ?_
            exact qa_bn_mono (N := 1 + (Nh)) (by omega) <| qa_bn_lw (qa_tL_isMemorySo_145  K15 h) rfl rfl (And.intro rfl (And.intro rfl (And.intro rfl (And.intro rfl (And.intro rfl (And.intro rfl (And.intro rfl (And.intro rfl (trivial)))))))))
    | inr E147 =>
      try dsimp only at h
      cases h
set_option maxRecDepth 1000000 in
theorem qa_tL_isMemorySo_112 {L : Nat}  {k15 : Int32 → Int32 → Int32 → Int32 → Int32 → Int32 → qa_T → Option (Bool × qa_T)} {Nh : Nat} (K15 : ∀ (x1 : Int32) (x2 : Int32) (x3 : Int32) (x4 : Int32) (x5 : Int32) (x6 : Int32) (σ : qa_T) (r : (Bool × qa_T)), k15 x1 x2 x3 x4 x5 x6 σ = some r → qa_Bn L Nh qa_mL_isMemorySo 15 [(0, .inl (0, 1)), (1, .inr (.int x1)), (2, .inr (.int x2)), (3, .inr (.int x3)), (4, .inr (.int x4)), (5, .inr (.int x5)), (6, .inr (.int x6))] [] σ (some (.inr (.int (qa_bi r.1)))) r.2) {x1 : Int32} {x2 : Int32} {x3 : Int32} {x4 : Int32} {x5 : Int32} {x6 : Int32} {x7 : Int32} {σ : qa_T} {r : (Bool × qa_T)} (h : qa_fL_isMemorySo_112  k15 x1 x2 x3 x4 x5 x6 x7 σ = some r) : qa_Bn L (1 + Nh) qa_mL_isMemorySo 112 [(0, .inl (0, 1)), (1, .inr (.int x1)), (2, .inr (.int x2)), (3, .inr (.int x3)), (4, .inr (.int x4)), (5, .inr (.int x5)), (6, .inr (.int x6)), (7, .inr (.int x7))] [] σ (some (.inr (.int (qa_bi r.1)))) r.2 := by
  unfold qa_fL_isMemorySo_112 at h
  try dsimp only at h
  refine qa_bn_mono (N := 1 + Nh) (by omega) ?_
  refine qa_bn_do (pc' := 113) rfl rfl ?_
  refine qa_bn_do (pc' := 117) rfl rfl ?_
  exact qa_bn_mono (N := 1 + (Nh)) (by omega) <| qa_bn_lw (qa_tL_isMemorySo_117  K15 h) rfl rfl (And.intro rfl (And.intro rfl (And.intro rfl (And.intro rfl (And.intro rfl (And.intro rfl (And.intro rfl (And.intro rfl (trivial)))))))))
set_option maxRecDepth 1000000 in
theorem qa_tL_isMemorySo_117_1 {L : Nat}  {k15 : Int32 → Int32 → Int32 → Int32 → Int32 → Int32 → qa_T → Option (Bool × qa_T)} {Nh : Nat} (K15 : ∀ (x1 : Int32) (x2 : Int32) (x3 : Int32) (x4 : Int32) (x5 : Int32) (x6 : Int32) (σ : qa_T) (r : (Bool × qa_T)), k15 x1 x2 x3 x4 x5 x6 σ = some r → qa_Bn L Nh qa_mL_isMemorySo 15 [(0, .inl (0, 1)), (1, .inr (.int x1)), (2, .inr (.int x2)), (3, .inr (.int x3)), (4, .inr (.int x4)), (5, .inr (.int x5)), (6, .inr (.int x6))] [] σ (some (.inr (.int (qa_bi r.1)))) r.2) {x1 : Int32} {x2 : Int32} {x3 : Int32} {x4 : Int32} {x5 : Int32} {x6 : Int32} {x7 : Int32} {σ : qa_T} {r : (Bool × qa_T)} (h : qa_fL_isMemorySo_117_1  k15 x1 x2 x3 x4 x5 x6 x7 σ = some r) : qa_Bn L (1 + Nh) qa_mL_isMemorySo 117 [(0, .inl (0, 1)), (1, .inr (.int x1)), (2, .inr (.int x2)), (3, .inr (.int x3)), (4, .inr (.int x4)), (5, .inr (.int x5)), (6, .inr (.int x6)), (7, .inr (.int x7))] [.inr (.int (Int32.ofInt 0))] σ (some (.inr (.int (qa_bi r.1)))) r.2 := by
  unfold qa_fL_isMemorySo_117_1 at h
  try dsimp only at h
  refine qa_bn_mono (N := 1 + Nh) (by omega) ?_
  refine qa_bn_do (pc' := 119) (lv' := [(8, _), (0, _), (1, _), (2, _), (3, _), (4, _), (5, _), (6, _), (7, _)]) rfl rfl ?_
  refine qa_bn_do (pc' := 121) rfl rfl ?_
  rcases qa_ite h with ⟨hc196, h⟩ | ⟨hc196, h⟩
  · refine qa_bn_1t (a := 216) (b := 124) hc196 rfl rfl ?_
    exact qa_bn_mono (N := 0 + (Nh)) (by omega) <| qa_bn_lw (qa_tL_isMemorySo_216  K15 h) rfl rfl (And.intro rfl (And.intro rfl (And.intro rfl (And.intro rfl (And.intro rfl (And.intro rfl (And.intro rfl (And.intro rfl (trivial)))))))))
  · refine qa_bn_1f (a := 216) (b := 124) hc196 rfl rfl ?_
    refine qa_bn_do (pc' := 125) rfl rfl ?_
    refine qa_bn_do (pc' := 127) rfl rfl ?_
    obtain ⟨⟨c197, σ200⟩, hc198, h⟩ := Option.bind_eq_some_iff.mp h
    have hc198 := Option.some.inj hc198
    cases c197 with
    | inl r199 =>
      try dsimp only at h
      refine qa_bn_cv (qa_tX9_isOnShow hc198) rfl rfl rfl rfl rfl rfl rfl qa_dx_0_1 ?_
      refine qa_bn_do (pc' := 132) rfl rfl ?_
      rcases qa_ite h with ⟨hc202, h⟩ | ⟨hc202, h⟩
      · refine qa_bn_1t (a := 216) (b := 135) hc202 rfl rfl ?_
        exact qa_bn_mono (N := 0 + (Nh)) (by omega) <| qa_bn_lw (qa_tL_isMemorySo_216  K15 h) rfl rfl (And.intro rfl (And.intro rfl (And.intro rfl (And.intro rfl (And.intro rfl (And.intro rfl (And.intro rfl (And.intro rfl (trivial)))))))))
      · refine qa_bn_1f (a := 216) (b := 135) hc202 rfl rfl ?_
        refine qa_bn_do (pc' := 137) rfl rfl ?_
        rcases qa_ite h with ⟨hc203, h⟩ | ⟨hc203, h⟩
        · refine qa_bn_1t (a := 145) (b := 140) hc203 rfl rfl ?_
          exact qa_bn_mono (N := 1 + (Nh)) (by omega) <| qa_bn_lw (qa_tL_isMemorySo_145  K15 h) rfl rfl (And.intro rfl (And.intro rfl (And.intro rfl (And.intro rfl (And.intro rfl (And.intro rfl (And.intro rfl (And.intro rfl (trivial)))))))))
        · refine qa_bn_1f (a := 145) (b := 140) hc203 rfl rfl ?_
          refine qa_bn_do (pc' := 142) rfl rfl ?_
          rcases qa_ite h with ⟨hc204, h⟩ | ⟨hc204, h⟩
          · refine qa_bn_1t (a := 216) (b := 145) hc204 rfl rfl ?_
            exact qa_bn_mono (N := 0 + (Nh)) (by omega) <| qa_bn_lw (qa_tL_isMemorySo_216  K15 h) rfl rfl (And.intro rfl (And.intro rfl (And.intro rfl (And.intro rfl (And.intro rfl (And.intro rfl (And.intro rfl (And.intro rfl (trivial)))))))))
          · refine qa_bn_1f (a := 216) (b := 145) hc204 rfl rfl ?_
            exact qa_bn_mono (N := 1 + (Nh)) (by omega) <| qa_bn_lw (qa_tL_isMemorySo_145  K15 h) rfl rfl (And.intro rfl (And.intro rfl (And.intro rfl (And.intro rfl (And.intro rfl (And.intro rfl (And.intro rfl (And.intro rfl (trivial)))))))))
    | inr E201 =>
      try dsimp only at h
      cases h
set_option maxRecDepth 1000000 in
theorem qa_tL_isMemorySo_81 {L : Nat}  {k15 : Int32 → Int32 → Int32 → Int32 → Int32 → Int32 → qa_T → Option (Bool × qa_T)} {Nh : Nat} (K15 : ∀ (x1 : Int32) (x2 : Int32) (x3 : Int32) (x4 : Int32) (x5 : Int32) (x6 : Int32) (σ : qa_T) (r : (Bool × qa_T)), k15 x1 x2 x3 x4 x5 x6 σ = some r → qa_Bn L Nh qa_mL_isMemorySo 15 [(0, .inl (0, 1)), (1, .inr (.int x1)), (2, .inr (.int x2)), (3, .inr (.int x3)), (4, .inr (.int x4)), (5, .inr (.int x5)), (6, .inr (.int x6))] [] σ (some (.inr (.int (qa_bi r.1)))) r.2) {x1 : Int32} {x3 : Int32} {x4 : Int32} {x5 : Int32} {x6 : Int32} {x7 : Int32} {y1 : Int32} {σ : qa_T} {r : (Bool × qa_T)} (h : qa_fL_isMemorySo_81  k15 x1 x3 x4 x5 x6 x7 y1 σ = some r) : qa_Bn L (3 + Nh) qa_mL_isMemorySo 81 [(0, .inl (0, 1)), (1, .inr (.int x1)), (3, .inr (.int x3)), (4, .inr (.int x4)), (5, .inr (.int x5)), (6, .inr (.int x6)), (7, .inr (.int x7))] [.inr (.int (Int32.ofInt 1)), .inr (.int y1)] σ (some (.inr (.int (qa_bi r.1)))) r.2 := by
  unfold qa_fL_isMemorySo_81 at h
  try dsimp only at h
  refine qa_bn_mono (N := 3 + Nh) (by omega) ?_
  refine qa_bn_do (pc' := 82) rfl rfl ?_
  refine qa_bn_do (pc' := 83) (lv' := [(2, _), (0, _), (1, _), (3, _), (4, _), (5, _), (6, _), (7, _)]) rfl rfl ?_
  refine qa_bn_do (pc' := 84) rfl rfl ?_
  refine qa_bn_do (pc' := 85) rfl rfl ?_
  refine qa_bn_do (pc' := 87) rfl rfl ?_
  obtain ⟨⟨c122, σ125⟩, hc123, h⟩ := Option.bind_eq_some_iff.mp h
  have hc123 := Option.some.inj hc123
  cases c122 with
  | inl r124 =>
    try dsimp only at h
    refine qa_bn_cv (qa_tX9_burntTimes hc123) rfl rfl rfl rfl rfl rfl rfl qa_dx_0_1 ?_
    refine qa_bn_do (pc' := 91) rfl rfl ?_
    refine qa_bn_do (pc' := 92) (lv' := [(3, _), (2, _), (0, _), (1, _), (4, _), (5, _), (6, _), (7, _)]) rfl rfl ?_
    refine qa_bn_do (pc' := 93) rfl rfl ?_
    refine qa_bn_do (pc' := 94) rfl rfl ?_
    obtain ⟨c128, hc129, h⟩ := Option.bind_eq_some_iff.mp h
    refine qa_bn_cl (N1 := 1) (N2 := 2 + Nh) (N := 3 + Nh) (by omega) (qa_tL_told hc129) rfl rfl rfl rfl rfl rfl rfl ?_
    refine qa_bn_do (pc' := 99) rfl rfl ?_
    rcases qa_ite h with ⟨hc130, h⟩ | ⟨hc130, h⟩
    · refine qa_bn_1t (a := 112) (b := 102) hc130 rfl rfl ?_
      exact qa_bn_mono (N := 1 + (Nh)) (by omega) <| qa_bn_lw (qa_tL_isMemorySo_112  K15 h) rfl rfl (And.intro rfl (And.intro rfl (And.intro rfl (And.intro rfl (And.intro rfl (And.intro rfl (And.intro rfl (And.intro rfl (trivial)))))))))
    · refine qa_bn_1f (a := 112) (b := 102) hc130 rfl rfl ?_
      refine qa_bn_do (pc' := 103) rfl rfl ?_
      refine qa_bn_do (pc' := 104) rfl rfl ?_
      obtain ⟨c193, hc194, h⟩ := Option.bind_eq_some_iff.mp h
      refine qa_bn_cl (N1 := 1) (N2 := 1 + Nh) (N := 2 + Nh) (by omega) (qa_tL_told hc194) rfl rfl rfl rfl rfl rfl rfl ?_
      refine qa_bn_do (pc' := 109) rfl rfl ?_
      rcases qa_ite h with ⟨hc195, h⟩ | ⟨hc195, h⟩
      · refine qa_bn_1t (a := 116) (b := 112) hc195 rfl rfl ?_
        refine qa_bn_do (pc' := 117) rfl rfl ?_
        exact qa_bn_mono (N := 1 + (Nh)) (by omega) <| qa_bn_lw (qa_tL_isMemorySo_117_1  K15 h) rfl rfl (And.intro rfl (And.intro rfl (And.intro rfl (And.intro rfl (And.intro rfl (And.intro rfl (And.intro rfl (And.intro rfl (trivial)))))))))
      · refine qa_bn_1f (a := 116) (b := 112) hc195 rfl rfl ?_
        exact qa_bn_mono (N := 1 + (Nh)) (by omega) <| qa_bn_lw (qa_tL_isMemorySo_112  K15 h) rfl rfl (And.intro rfl (And.intro rfl (And.intro rfl (And.intro rfl (And.intro rfl (And.intro rfl (And.intro rfl (And.intro rfl (trivial)))))))))
  | inr E126 =>
    try dsimp only at h
    cases h
set_option maxRecDepth 1000000 in
theorem qa_tL_isMemorySo_76 {L : Nat}  {k15 : Int32 → Int32 → Int32 → Int32 → Int32 → Int32 → qa_T → Option (Bool × qa_T)} {Nh : Nat} (K15 : ∀ (x1 : Int32) (x2 : Int32) (x3 : Int32) (x4 : Int32) (x5 : Int32) (x6 : Int32) (σ : qa_T) (r : (Bool × qa_T)), k15 x1 x2 x3 x4 x5 x6 σ = some r → qa_Bn L Nh qa_mL_isMemorySo 15 [(0, .inl (0, 1)), (1, .inr (.int x1)), (2, .inr (.int x2)), (3, .inr (.int x3)), (4, .inr (.int x4)), (5, .inr (.int x5)), (6, .inr (.int x6))] [] σ (some (.inr (.int (qa_bi r.1)))) r.2) {x1 : Int32} {x3 : Int32} {x4 : Int32} {x5 : Int32} {x6 : Int32} {x7 : Int32} {y0 : Int32} {σ : qa_T} {r : (Bool × qa_T)} (h : qa_fL_isMemorySo_76  k15 x1 x3 x4 x5 x6 x7 y0 σ = some r) : qa_Bn L (3 + Nh) qa_mL_isMemorySo 76 [(0, .inl (0, 1)), (1, .inr (.int x1)), (3, .inr (.int x3)), (4, .inr (.int x4)), (5, .inr (.int x5)), (6, .inr (.int x6)), (7, .inr (.int x7))] [.inr (.int y0)] σ (some (.inr (.int (qa_bi r.1)))) r.2 := by
  unfold qa_fL_isMemorySo_76 at h
  try dsimp only at h
  refine qa_bn_mono (N := 3 + Nh) (by omega) ?_
  refine qa_bn_do (pc' := 77) rfl rfl ?_
  refine qa_bn_do (pc' := 81) rfl rfl ?_
  exact qa_bn_mono (N := 3 + (Nh)) (by omega) <| qa_bn_lw (qa_tL_isMemorySo_81  K15 h) rfl rfl (And.intro rfl (And.intro rfl (And.intro rfl (And.intro rfl (And.intro rfl (And.intro rfl (And.intro rfl (trivial))))))))
set_option maxRecDepth 1000000 in
theorem qa_tL_isMemorySo_81_1 {L : Nat}  {k15 : Int32 → Int32 → Int32 → Int32 → Int32 → Int32 → qa_T → Option (Bool × qa_T)} {Nh : Nat} (K15 : ∀ (x1 : Int32) (x2 : Int32) (x3 : Int32) (x4 : Int32) (x5 : Int32) (x6 : Int32) (σ : qa_T) (r : (Bool × qa_T)), k15 x1 x2 x3 x4 x5 x6 σ = some r → qa_Bn L Nh qa_mL_isMemorySo 15 [(0, .inl (0, 1)), (1, .inr (.int x1)), (2, .inr (.int x2)), (3, .inr (.int x3)), (4, .inr (.int x4)), (5, .inr (.int x5)), (6, .inr (.int x6))] [] σ (some (.inr (.int (qa_bi r.1)))) r.2) {x1 : Int32} {x3 : Int32} {x4 : Int32} {x5 : Int32} {x6 : Int32} {x7 : Int32} {y1 : Int32} {σ : qa_T} {r : (Bool × qa_T)} (h : qa_fL_isMemorySo_81_1  k15 x1 x3 x4 x5 x6 x7 y1 σ = some r) : qa_Bn L (3 + Nh) qa_mL_isMemorySo 81 [(0, .inl (0, 1)), (1, .inr (.int x1)), (3, .inr (.int x3)), (4, .inr (.int x4)), (5, .inr (.int x5)), (6, .inr (.int x6)), (7, .inr (.int x7))] [.inr (.int (Int32.ofInt 0)), .inr (.int y1)] σ (some (.inr (.int (qa_bi r.1)))) r.2 := by
  unfold qa_fL_isMemorySo_81_1 at h
  try dsimp only at h
  refine qa_bn_mono (N := 3 + Nh) (by omega) ?_
  refine qa_bn_do (pc' := 82) rfl rfl ?_
  refine qa_bn_do (pc' := 83) (lv' := [(2, _), (0, _), (1, _), (3, _), (4, _), (5, _), (6, _), (7, _)]) rfl rfl ?_
  refine qa_bn_do (pc' := 84) rfl rfl ?_
  refine qa_bn_do (pc' := 85) rfl rfl ?_
  refine qa_bn_do (pc' := 87) rfl rfl ?_
  obtain ⟨⟨c209, σ212⟩, hc210, h⟩ := Option.bind_eq_some_iff.mp h
  have hc210 := Option.some.inj hc210
  cases c209 with
  | inl r211 =>
    try dsimp only at h
    refine qa_bn_cv (qa_tX9_burntTimes hc210) rfl rfl rfl rfl rfl rfl rfl qa_dx_0_1 ?_
    refine qa_bn_do (pc' := 91) rfl rfl ?_
    refine qa_bn_do (pc' := 92) (lv' := [(3, _), (2, _), (0, _), (1, _), (4, _), (5, _), (6, _), (7, _)]) rfl rfl ?_
    refine qa_bn_do (pc' := 93) rfl rfl ?_
    refine qa_bn_do (pc' := 94) rfl rfl ?_
    obtain ⟨c215, hc216, h⟩ := Option.bind_eq_some_iff.mp h
    refine qa_bn_cl (N1 := 1) (N2 := 2 + Nh) (N := 3 + Nh) (by omega) (qa_tL_told hc216) rfl rfl rfl rfl rfl rfl rfl ?_
    refine qa_bn_do (pc' := 99) rfl rfl ?_
    rcases qa_ite h with ⟨hc217, h⟩ | ⟨hc217, h⟩
    · refine qa_bn_1t (a := 112) (b := 102) hc217 rfl rfl ?_
      exact qa_bn_mono (N := 1 + (Nh)) (by omega) <| qa_bn_lw (qa_tL_isMemorySo_112  K15 h) rfl rfl (And.intro rfl (And.intro rfl (And.intro rfl (And.intro rfl (And.intro rfl (And.intro rfl (And.intro rfl (And.intro rfl (trivial)))))))))
    · refine qa_bn_1f (a := 112) (b := 102) hc217 rfl rfl ?_
      refine qa_bn_do (pc' := 103) rfl rfl ?_
      refine qa_bn_do (pc' := 104) rfl rfl ?_
      obtain ⟨c218, hc219, h⟩ := Option.bind_eq_some_iff.mp h
      refine qa_bn_cl (N1 := 1) (N2 := 1 + Nh) (N := 2 + Nh) (by omega) (qa_tL_told hc219) rfl rfl rfl rfl rfl rfl rfl ?_
      refine qa_bn_do (pc' := 109) rfl rfl ?_
      rcases qa_ite h with ⟨hc220, h⟩ | ⟨hc220, h⟩
      · refine qa_bn_1t (a := 116) (b := 112) hc220 rfl rfl ?_
        refine qa_bn_do (pc' := 117) rfl rfl ?_
        exact qa_bn_mono (N := 1 + (Nh)) (by omega) <| qa_bn_lw (qa_tL_isMemorySo_117_1  K15 h) rfl rfl (And.intro rfl (And.intro rfl (And.intro rfl (And.intro rfl (And.intro rfl (And.intro rfl (And.intro rfl (And.intro rfl (trivial)))))))))
      · refine qa_bn_1f (a := 116) (b := 112) hc220 rfl rfl ?_
        exact qa_bn_mono (N := 1 + (Nh)) (by omega) <| qa_bn_lw (qa_tL_isMemorySo_112  K15 h) rfl rfl (And.intro rfl (And.intro rfl (And.intro rfl (And.intro rfl (And.intro rfl (And.intro rfl (And.intro rfl (And.intro rfl (trivial)))))))))
  | inr E213 =>
    try dsimp only at h
    cases h
set_option maxRecDepth 1000000 in
theorem qa_tL_isMemorySo_58 {L : Nat}  {k15 : Int32 → Int32 → Int32 → Int32 → Int32 → Int32 → qa_T → Option (Bool × qa_T)} {Nh : Nat} (K15 : ∀ (x1 : Int32) (x2 : Int32) (x3 : Int32) (x4 : Int32) (x5 : Int32) (x6 : Int32) (σ : qa_T) (r : (Bool × qa_T)), k15 x1 x2 x3 x4 x5 x6 σ = some r → qa_Bn L Nh qa_mL_isMemorySo 15 [(0, .inl (0, 1)), (1, .inr (.int x1)), (2, .inr (.int x2)), (3, .inr (.int x3)), (4, .inr (.int x4)), (5, .inr (.int x5)), (6, .inr (.int x6))] [] σ (some (.inr (.int (qa_bi r.1)))) r.2) {x2 : Int32} {x3 : Int32} {x4 : Int32} {x5 : Int32} {x6 : Int32} {x7 : Int32} {y0 : Int32} {y1 : Int32} {σ : qa_T} {r : (Bool × qa_T)} (h : qa_fL_isMemorySo_58  k15 x2 x3 x4 x5 x6 x7 y0 y1 σ = some r) : qa_Bn L (4 + Nh) qa_mL_isMemorySo 58 [(0, .inl (0, 1)), (2, .inr (.int x2)), (3, .inr (.int x3)), (4, .inr (.int x4)), (5, .inr (.int x5)), (6, .inr (.int x6)), (7, .inr (.int x7))] [.inr (.int y0), .inr (.int y1)] σ (some (.inr (.int (qa_bi r.1)))) r.2 := by
  unfold qa_fL_isMemorySo_58 at h
  try dsimp only at h
  refine qa_bn_mono (N := 4 + Nh) (by omega) ?_
  refine qa_bn_do (pc' := 59) rfl rfl ?_
  refine qa_bn_do (pc' := 60) (lv' := [(1, _), (0, _), (2, _), (3, _), (4, _), (5, _), (6, _), (7, _)]) rfl rfl ?_
  refine qa_bn_do (pc' := 61) rfl rfl ?_
  refine qa_bn_do (pc' := 63) rfl rfl ?_
  rcases qa_ite h with ⟨hc120, h⟩ | ⟨hc120, h⟩
  · refine qa_bn_1t (a := 76) (b := 66) hc120 rfl rfl ?_
    exact qa_bn_mono (N := 3 + (Nh)) (by omega) <| qa_bn_lw (qa_tL_isMemorySo_76  K15 h) rfl rfl (And.intro rfl (And.intro rfl (And.intro rfl (And.intro rfl (And.intro rfl (And.intro rfl (And.intro rfl (trivial))))))))
  · refine qa_bn_1f (a := 76) (b := 66) hc120 rfl rfl ?_
    refine qa_bn_do (pc' := 67) rfl rfl ?_
    refine qa_bn_do (pc' := 68) rfl rfl ?_
    obtain ⟨c205, hc206, h⟩ := Option.bind_eq_some_iff.mp h
    refine qa_bn_cl (N1 := 1) (N2 := 3 + Nh) (N := 4 + Nh) (by omega) (qa_tL_told hc206) rfl rfl rfl rfl rfl rfl rfl ?_
    refine qa_bn_do (pc' := 73) rfl rfl ?_
    rcases qa_ite h with ⟨hc207, h⟩ | ⟨hc207, h⟩
    · refine qa_bn_1t (a := 80) (b := 76) hc207 rfl rfl ?_
      refine qa_bn_do (pc' := 81) rfl rfl ?_
      exact qa_bn_mono (N := 3 + (Nh)) (by omega) <| qa_bn_lw (qa_tL_isMemorySo_81_1  K15 h) rfl rfl (And.intro rfl (And.intro rfl (And.intro rfl (And.intro rfl (And.intro rfl (And.intro rfl (And.intro rfl (trivial))))))))
    · refine qa_bn_1f (a := 80) (b := 76) hc207 rfl rfl ?_
      exact qa_bn_mono (N := 3 + (Nh)) (by omega) <| qa_bn_lw (qa_tL_isMemorySo_76  K15 h) rfl rfl (And.intro rfl (And.intro rfl (And.intro rfl (And.intro rfl (And.intro rfl (And.intro rfl (And.intro rfl (trivial))))))))
set_option maxRecDepth 1000000 in
theorem qa_tL_isMemorySo_48 {L : Nat}  {k15 : Int32 → Int32 → Int32 → Int32 → Int32 → Int32 → qa_T → Option (Bool × qa_T)} {Nh : Nat} (K15 : ∀ (x1 : Int32) (x2 : Int32) (x3 : Int32) (x4 : Int32) (x5 : Int32) (x6 : Int32) (σ : qa_T) (r : (Bool × qa_T)), k15 x1 x2 x3 x4 x5 x6 σ = some r → qa_Bn L Nh qa_mL_isMemorySo 15 [(0, .inl (0, 1)), (1, .inr (.int x1)), (2, .inr (.int x2)), (3, .inr (.int x3)), (4, .inr (.int x4)), (5, .inr (.int x5)), (6, .inr (.int x6))] [] σ (some (.inr (.int (qa_bi r.1)))) r.2) {x2 : Int32} {x3 : Int32} {x4 : Int32} {x5 : Int32} {x6 : Int32} {x7 : Int32} {y0 : Int32} {σ : qa_T} {r : (Bool × qa_T)} (h : qa_fL_isMemorySo_48  k15 x2 x3 x4 x5 x6 x7 y0 σ = some r) : qa_Bn L (4 + Nh) qa_mL_isMemorySo 48 [(0, .inl (0, 1)), (2, .inr (.int x2)), (3, .inr (.int x3)), (4, .inr (.int x4)), (5, .inr (.int x5)), (6, .inr (.int x6)), (7, .inr (.int x7))] [.inr (.int y0)] σ (some (.inr (.int (qa_bi r.1)))) r.2 := by
  unfold qa_fL_isMemorySo_48 at h
  try dsimp only at h
  refine qa_bn_mono (N := 4 + Nh) (by omega) ?_
  refine qa_bn_do (pc' := 49) rfl rfl ?_
  refine qa_bn_do (pc' := 51) rfl rfl ?_
  obtain ⟨⟨c114, σ117⟩, hc115, h⟩ := Option.bind_eq_some_iff.mp h
  have hc115 := Option.some.inj hc115
  cases c114 with
  | inl r116 =>
    try dsimp only at h
    refine qa_bn_cv (qa_tX9_costOf hc115) rfl rfl rfl rfl rfl rfl rfl qa_dx_0_1 ?_
    refine qa_bn_do (pc' := 58) rfl rfl ?_
    exact qa_bn_mono (N := 4 + (Nh)) (by omega) <| qa_bn_lw (qa_tL_isMemorySo_58  K15 h) rfl rfl (And.intro rfl (And.intro rfl (And.intro rfl (And.intro rfl (And.intro rfl (And.intro rfl (And.intro rfl (trivial))))))))
  | inr E118 =>
    try dsimp only at h
    cases h
set_option maxRecDepth 1000000 in
theorem qa_tL_isMemorySo_58_1 {L : Nat}  {k15 : Int32 → Int32 → Int32 → Int32 → Int32 → Int32 → qa_T → Option (Bool × qa_T)} {Nh : Nat} (K15 : ∀ (x1 : Int32) (x2 : Int32) (x3 : Int32) (x4 : Int32) (x5 : Int32) (x6 : Int32) (σ : qa_T) (r : (Bool × qa_T)), k15 x1 x2 x3 x4 x5 x6 σ = some r → qa_Bn L Nh qa_mL_isMemorySo 15 [(0, .inl (0, 1)), (1, .inr (.int x1)), (2, .inr (.int x2)), (3, .inr (.int x3)), (4, .inr (.int x4)), (5, .inr (.int x5)), (6, .inr (.int x6))] [] σ (some (.inr (.int (qa_bi r.1)))) r.2) {x2 : Int32} {x3 : Int32} {x4 : Int32} {x5 : Int32} {x6 : Int32} {x7 : Int32} {y1 : Int32} {σ : qa_T} {r : (Bool × qa_T)} (h : qa_fL_isMemorySo_58_1  k15 x2 x3 x4 x5 x6 x7 y1 σ = some r) : qa_Bn L (4 + Nh) qa_mL_isMemorySo 58 [(0, .inl (0, 1)), (2, .inr (.int x2)), (3, .inr (.int x3)), (4, .inr (.int x4)), (5, .inr (.int x5)), (6, .inr (.int x6)), (7, .inr (.int x7))] [.inr (.int (Int32.ofInt 0)), .inr (.int y1)] σ (some (.inr (.int (qa_bi r.1)))) r.2 := by
  unfold qa_fL_isMemorySo_58_1 at h
  try dsimp only at h
  refine qa_bn_mono (N := 4 + Nh) (by omega) ?_
  refine qa_bn_do (pc' := 59) rfl rfl ?_
  refine qa_bn_do (pc' := 60) (lv' := [(1, _), (0, _), (2, _), (3, _), (4, _), (5, _), (6, _), (7, _)]) rfl rfl ?_
  refine qa_bn_do (pc' := 61) rfl rfl ?_
  refine qa_bn_do (pc' := 63) rfl rfl ?_
  rcases qa_ite h with ⟨hc225, h⟩ | ⟨hc225, h⟩
  · refine qa_bn_1t (a := 76) (b := 66) hc225 rfl rfl ?_
    exact qa_bn_mono (N := 3 + (Nh)) (by omega) <| qa_bn_lw (qa_tL_isMemorySo_76  K15 h) rfl rfl (And.intro rfl (And.intro rfl (And.intro rfl (And.intro rfl (And.intro rfl (And.intro rfl (And.intro rfl (trivial))))))))
  · refine qa_bn_1f (a := 76) (b := 66) hc225 rfl rfl ?_
    refine qa_bn_do (pc' := 67) rfl rfl ?_
    refine qa_bn_do (pc' := 68) rfl rfl ?_
    obtain ⟨c226, hc227, h⟩ := Option.bind_eq_some_iff.mp h
    refine qa_bn_cl (N1 := 1) (N2 := 3 + Nh) (N := 4 + Nh) (by omega) (qa_tL_told hc227) rfl rfl rfl rfl rfl rfl rfl ?_
    refine qa_bn_do (pc' := 73) rfl rfl ?_
    rcases qa_ite h with ⟨hc228, h⟩ | ⟨hc228, h⟩
    · refine qa_bn_1t (a := 80) (b := 76) hc228 rfl rfl ?_
      refine qa_bn_do (pc' := 81) rfl rfl ?_
      exact qa_bn_mono (N := 3 + (Nh)) (by omega) <| qa_bn_lw (qa_tL_isMemorySo_81_1  K15 h) rfl rfl (And.intro rfl (And.intro rfl (And.intro rfl (And.intro rfl (And.intro rfl (And.intro rfl (And.intro rfl (trivial))))))))
    · refine qa_bn_1f (a := 80) (b := 76) hc228 rfl rfl ?_
      exact qa_bn_mono (N := 3 + (Nh)) (by omega) <| qa_bn_lw (qa_tL_isMemorySo_76  K15 h) rfl rfl (And.intro rfl (And.intro rfl (And.intro rfl (And.intro rfl (And.intro rfl (And.intro rfl (And.intro rfl (trivial))))))))
set_option maxRecDepth 1000000 in
theorem qa_tL_isMemorySo_15 {L : Nat}  : ∀ (n : Nat) (x1 : Int32) (x2 : Int32) (x3 : Int32) (x4 : Int32) (x5 : Int32) (x6 : Int32) (σ : qa_T) (r : (Bool × qa_T)), qa_fL_isMemorySo_15  n x1 x2 x3 x4 x5 x6 σ = some r → qa_Bn L (n * 7 + 7) qa_mL_isMemorySo 15 [(0, .inl (0, 1)), (1, .inr (.int x1)), (2, .inr (.int x2)), (3, .inr (.int x3)), (4, .inr (.int x4)), (5, .inr (.int x5)), (6, .inr (.int x6))] [] σ (some (.inr (.int (qa_bi r.1)))) r.2 := by
  intro n
  induction n with
  | zero => intro x1 x2 x3 x4 x5 x6 σ r h; cases h
  | succ n ih =>
    intro x1 x2 x3 x4 x5 x6 σ r h
    unfold qa_fL_isMemorySo_15 at h
    try dsimp only at h
    refine qa_bn_mono (N := 14 + n * 7) (by omega) ?_
    refine qa_bn_do (pc' := 17) rfl rfl ?_
    refine qa_bn_do (pc' := 18) rfl rfl ?_
    refine qa_bn_cv (qa_tX9_slides rfl) rfl rfl rfl rfl rfl rfl rfl qa_dx_0_1 ?_
    rcases qa_ite h with ⟨hc1, h⟩ | ⟨hc1, h⟩
    · refine qa_bn_1t (a := 252) (b := 24) hc1 rfl rfl ?_
      refine qa_bn_do (pc' := 254) rfl rfl ?_
      rcases qa_ite h with ⟨hc2, h⟩ | ⟨hc2, h⟩
      · refine qa_bn_1t (a := 324) (b := 257) hc2 rfl rfl ?_
        exact qa_bn_mono (N := 7) (by omega) <| qa_bn_lw (qa_tL_isMemorySo_324  h) rfl rfl (And.intro rfl (trivial))
      · refine qa_bn_1f (a := 324) (b := 257) hc2 rfl rfl ?_
        refine qa_bn_do (pc' := 259) rfl rfl ?_
        refine qa_bn_do (pc' := 261) rfl rfl ?_
        refine qa_bn_do (pc' := 262) rfl rfl ?_
        refine qa_bn_do (pc' := 263) rfl rfl ?_
        refine qa_bn_do (pc' := 264) rfl rfl ?_
        rcases qa_ite h with ⟨hc96, h⟩ | ⟨hc96, h⟩
        · refine qa_bn_1t (a := 324) (b := 267) hc96 rfl rfl ?_
          exact qa_bn_mono (N := 7) (by omega) <| qa_bn_lw (qa_tL_isMemorySo_324  h) rfl rfl (And.intro rfl (trivial))
        · refine qa_bn_1f (a := 324) (b := 267) hc96 rfl rfl ?_
          refine qa_bn_do (pc' := 268) rfl rfl ?_
          obtain ⟨c97, hc98, h⟩ := Option.bind_eq_some_iff.mp h
          refine qa_bn_cv (qa_tX9_takenBySlides hc98) rfl rfl rfl rfl rfl rfl rfl qa_dx_0_1 ?_
          refine qa_bn_do (pc' := 272) rfl rfl ?_
          rcases qa_ite h with ⟨hc99, h⟩ | ⟨hc99, h⟩
          · refine qa_bn_1t (a := 324) (b := 275) hc99 rfl rfl ?_
            exact qa_bn_mono (N := 7) (by omega) <| qa_bn_lw (qa_tL_isMemorySo_324  h) rfl rfl (And.intro rfl (trivial))
          · refine qa_bn_1f (a := 324) (b := 275) hc99 rfl rfl ?_
            refine qa_bn_do (pc' := 276) rfl rfl ?_
            refine qa_bn_cv (qa_tX9_takenByAccount rfl) rfl rfl rfl rfl rfl rfl rfl qa_dx_0_1 ?_
            refine qa_bn_do (pc' := 280) rfl rfl ?_
            rcases qa_ite h with ⟨hc100, h⟩ | ⟨hc100, h⟩
            · refine qa_bn_1t (a := 324) (b := 283) hc100 rfl rfl ?_
              exact qa_bn_mono (N := 7) (by omega) <| qa_bn_lw (qa_tL_isMemorySo_324  h) rfl rfl (And.intro rfl (trivial))
            · refine qa_bn_1f (a := 324) (b := 283) hc100 rfl rfl ?_
              refine qa_bn_do (pc' := 284) rfl rfl ?_
              refine qa_bn_do (pc' := 285) rfl rfl ?_
              refine qa_bn_cv (qa_tX9_memory rfl) rfl rfl rfl rfl rfl rfl rfl qa_dx_0_1 ?_
              rcases qa_ite h with ⟨hc101, h⟩ | ⟨hc101, h⟩
              · refine qa_bn_1t (a := 324) (b := 291) hc101 rfl rfl ?_
                exact qa_bn_mono (N := 7) (by omega) <| qa_bn_lw (qa_tL_isMemorySo_324  h) rfl rfl (And.intro rfl (trivial))
              · refine qa_bn_1f (a := 324) (b := 291) hc101 rfl rfl ?_
                refine qa_bn_do (pc' := 292) rfl rfl ?_
                refine qa_bn_cv (qa_tX9_burnings rfl) rfl rfl rfl rfl rfl rfl rfl qa_dx_0_1 ?_
                refine qa_bn_do (pc' := 296) rfl rfl ?_
                rcases qa_ite h with ⟨hc102, h⟩ | ⟨hc102, h⟩
                · refine qa_bn_1t (a := 324) (b := 299) hc102 rfl rfl ?_
                  exact qa_bn_mono (N := 7) (by omega) <| qa_bn_lw (qa_tL_isMemorySo_324  h) rfl rfl (And.intro rfl (trivial))
                · refine qa_bn_1f (a := 324) (b := 299) hc102 rfl rfl ?_
                  refine qa_bn_do (pc' := 300) rfl rfl ?_
                  refine qa_bn_cv (qa_tX9_loads rfl) rfl rfl rfl rfl rfl rfl rfl qa_dx_0_1 ?_
                  refine qa_bn_do (pc' := 304) rfl rfl ?_
                  refine qa_bn_do (pc' := 305) rfl rfl ?_
                  refine qa_bn_do (pc' := 306) rfl rfl ?_
                  rcases qa_ite h with ⟨hc103, h⟩ | ⟨hc103, h⟩
                  · refine qa_bn_1t (a := 324) (b := 309) hc103 rfl rfl ?_
                    exact qa_bn_mono (N := 7) (by omega) <| qa_bn_lw (qa_tL_isMemorySo_324  h) rfl rfl (And.intro rfl (trivial))
                  · refine qa_bn_1f (a := 324) (b := 309) hc103 rfl rfl ?_
                    refine qa_bn_do (pc' := 310) rfl rfl ?_
                    refine qa_bn_cv (qa_tX9_warmLoads rfl) rfl rfl rfl rfl rfl rfl rfl qa_dx_0_1 ?_
                    refine qa_bn_do (pc' := 314) rfl rfl ?_
                    refine qa_bn_cv (qa_tX9_loads rfl) rfl rfl rfl rfl rfl rfl rfl qa_dx_0_1 ?_
                    rcases qa_ite h with ⟨hc104, h⟩ | ⟨hc104, h⟩
                    · refine qa_bn_1t (a := 324) (b := 320) hc104 rfl rfl ?_
                      exact qa_bn_mono (N := 7) (by omega) <| qa_bn_lw (qa_tL_isMemorySo_324  h) rfl rfl (And.intro rfl (trivial))
                    · refine qa_bn_1f (a := 324) (b := 320) hc104 rfl rfl ?_
                      refine qa_bn_do (pc' := 321) rfl rfl ?_
                      refine qa_bn_do (pc' := 325) rfl rfl ?_
                      exact qa_bn_mono (N := 7) (by omega) <| qa_bn_lw (qa_tL_isMemorySo_325_1  h) rfl rfl (And.intro rfl (trivial))
    · refine qa_bn_1f (a := 252) (b := 24) hc1 rfl rfl ?_
      refine qa_bn_do (pc' := 25) rfl rfl ?_
      refine qa_bn_do (pc' := 27) rfl rfl ?_
      obtain ⟨⟨c107, σ110⟩, hc108, h⟩ := Option.bind_eq_some_iff.mp h
      have hc108 := Option.some.inj hc108
      cases c107 with
      | inl r109 =>
        try dsimp only at h
        refine qa_bn_cv (qa_tX9_isLoaded hc108) rfl rfl rfl rfl rfl rfl rfl qa_dx_0_1 ?_
        refine qa_bn_do (pc' := 32) (lv' := [(7, _), (0, _), (1, _), (2, _), (3, _), (4, _), (5, _), (6, _)]) rfl rfl ?_
        refine qa_bn_do (pc' := 33) rfl rfl ?_
        refine qa_bn_do (pc' := 35) rfl rfl ?_
        rcases qa_ite h with ⟨hc113, h⟩ | ⟨hc113, h⟩
        · refine qa_bn_1t (a := 48) (b := 38) hc113 rfl rfl ?_
          exact qa_bn_mono (N := 4 + (n * 7 + 7)) (by omega) <| qa_bn_lw (qa_tL_isMemorySo_48  ih h) rfl rfl (And.intro rfl (And.intro rfl (And.intro rfl (And.intro rfl (And.intro rfl (And.intro rfl (And.intro rfl (trivial))))))))
        · refine qa_bn_1f (a := 48) (b := 38) hc113 rfl rfl ?_
          refine qa_bn_do (pc' := 39) rfl rfl ?_
          refine qa_bn_do (pc' := 40) rfl rfl ?_
          obtain ⟨c221, hc222, h⟩ := Option.bind_eq_some_iff.mp h
          refine qa_bn_cl (N1 := 1) (N2 := 13 + n * 7) (N := 14 + n * 7) (by omega) (qa_tL_told hc222) rfl rfl rfl rfl rfl rfl rfl ?_
          refine qa_bn_do (pc' := 45) rfl rfl ?_
          rcases qa_ite h with ⟨hc223, h⟩ | ⟨hc223, h⟩
          · refine qa_bn_1t (a := 57) (b := 48) hc223 rfl rfl ?_
            refine qa_bn_do (pc' := 58) rfl rfl ?_
            exact qa_bn_mono (N := 4 + (n * 7 + 7)) (by omega) <| qa_bn_lw (qa_tL_isMemorySo_58_1  ih h) rfl rfl (And.intro rfl (And.intro rfl (And.intro rfl (And.intro rfl (And.intro rfl (And.intro rfl (And.intro rfl (trivial))))))))
          · refine qa_bn_1f (a := 57) (b := 48) hc223 rfl rfl ?_
            exact qa_bn_mono (N := 4 + (n * 7 + 7)) (by omega) <| qa_bn_lw (qa_tL_isMemorySo_48  ih h) rfl rfl (And.intro rfl (And.intro rfl (And.intro rfl (And.intro rfl (And.intro rfl (And.intro rfl (And.intro rfl (trivial))))))))
      | inr E111 =>
        try dsimp only at h
        cases h
set_option maxRecDepth 1000000 in
theorem qa_tL_isMemorySo {L : Nat}  {σ : qa_T} {r : (Bool × qa_T)} (h : qa_fL_isMemorySo  σ = some r) : qa_Bn L 427 qa_mL_isMemorySo 0 (qa_ag 0 [.inl (0, 1)]) [] σ (some (.inr (.int (qa_bi r.1)))) r.2 := by
  unfold qa_fL_isMemorySo at h
  try dsimp only at h
  show qa_Bn L 427 qa_mL_isMemorySo 0 [(0, .inl (0, 1))] [] σ _ _
  refine qa_bn_do (pc' := 1) rfl rfl ?_
  refine qa_bn_do (pc' := 2) (lv' := [(1, _), (0, _)]) rfl rfl ?_
  refine qa_bn_do (pc' := 3) rfl rfl ?_
  refine qa_bn_do (pc' := 4) (lv' := [(2, _), (1, _), (0, _)]) rfl rfl ?_
  refine qa_bn_do (pc' := 5) rfl rfl ?_
  refine qa_bn_do (pc' := 6) (lv' := [(3, _), (2, _), (1, _), (0, _)]) rfl rfl ?_
  refine qa_bn_do (pc' := 7) rfl rfl ?_
  refine qa_bn_do (pc' := 9) (lv' := [(4, _), (3, _), (2, _), (1, _), (0, _)]) rfl rfl ?_
  refine qa_bn_do (pc' := 10) rfl rfl ?_
  refine qa_bn_do (pc' := 12) (lv' := [(5, _), (4, _), (3, _), (2, _), (1, _), (0, _)]) rfl rfl ?_
  refine qa_bn_do (pc' := 13) rfl rfl ?_
  refine qa_bn_do (pc' := 15) (lv' := [(6, _), (5, _), (4, _), (3, _), (2, _), (1, _), (0, _)]) rfl rfl ?_
  exact qa_bn_mono (N := qa_gu * 7 + 7) (Nat.le_of_ble_eq_true rfl) <| qa_bn_lw (qa_tL_isMemorySo_15  _ _ _ _ _ _ _ _ _ h) rfl rfl (And.intro rfl (And.intro rfl (And.intro rfl (And.intro rfl (And.intro rfl (And.intro rfl (And.intro rfl (trivial))))))))
noncomputable def qa_fL_isAskedSo_87  (k25 : Int32 → Int32 → Int32 → qa_T → Option (Bool × qa_T)) (x1 : Int32) (x3 : Int32) (x4 : Int32) (σ : qa_T) : Option (Bool × qa_T) :=
    let v10 : Int32 := (x1 ||| ((Int32.ofInt 1) <<< (x4 &&& 31)))
    let v11 : Int32 := x3 + Int32.ofInt 1
    k25 v10 (Int32.ofInt 0) v11 σ
noncomputable def qa_fL_isAskedSo_86  (k25 : Int32 → Int32 → Int32 → qa_T → Option (Bool × qa_T)) (x1 : Int32) (x3 : Int32) (x4 : Int32) (σ : qa_T) : Option (Bool × qa_T) :=
    qa_fL_isAskedSo_87  k25 x1 x3 x4 σ
noncomputable def qa_fL_isAskedSo_87_1  (k25 : Int32 → Int32 → Int32 → qa_T → Option (Bool × qa_T)) (x1 : Int32) (x3 : Int32) (x4 : Int32) (σ : qa_T) : Option (Bool × qa_T) :=
    let v25 : Int32 := (x1 ||| ((Int32.ofInt 1) <<< (x4 &&& 31)))
    let v26 : Int32 := x3 + Int32.ofInt 1
    k25 v25 (Int32.ofInt 1) v26 σ
noncomputable def qa_fL_isAskedSo_25  : Nat → Int32 → Int32 → Int32 → qa_T → Option (Bool × qa_T)
  | 0, _, _, _, _ => none
  | n + 1, x1, x2, x3, σ =>
    if (qa_fX9_asked σ) ≤ x3 then
      if x2 = 0 then some (false, σ) else if x2 = 1 then some (true, σ) else none
    else
      (some (qa_fX9_askedAt x3 σ)).bind fun c4 => match c4 with
        | (.inl r6, σ7) =>
          if x2 = 0 then
            qa_fL_isAskedSo_86  (qa_fL_isAskedSo_25  n) x1 x3 r6 σ7
          else
            if ¬ ((x1 >>> (r6 &&& 31)) &&& (Int32.ofInt 1)) = 0 then
              qa_fL_isAskedSo_86  (qa_fL_isAskedSo_25  n) x1 x3 r6 σ7
            else
              (some (qa_fX9_isLoaded r6 σ7)).bind fun c13 => match c13 with
                | (.inl r15, σ16) =>
                  if ¬ (qa_bi r15) = 0 then
                    qa_fL_isAskedSo_86  (qa_fL_isAskedSo_25  n) x1 x3 r6 σ16
                  else
                    (qa_fL_told (Int32.ofInt 3) σ16).bind fun c19 =>
                    if c19.1 = r6 then
                      qa_fL_isAskedSo_86  (qa_fL_isAskedSo_25  n) x1 x3 r6 c19.2
                    else
                      (qa_fL_told (Int32.ofInt 0) c19.2).bind fun c22 =>
                      if c22.1 = r6 then
                        qa_fL_isAskedSo_86  (qa_fL_isAskedSo_25  n) x1 x3 r6 c22.2
                      else
                        qa_fL_isAskedSo_87_1  (qa_fL_isAskedSo_25  n) x1 x3 r6 c22.2
                | (.inr E17, σ16) =>
                  none
        | (.inr E8, σ7) =>
          none
noncomputable def qa_fL_isAskedSo_22  (x1 : Int32) (σ : qa_T) : Option (Bool × qa_T) :=
    qa_fL_isAskedSo_25  qa_gu x1 (Int32.ofInt 1) (Int32.ofInt 0) σ
noncomputable def qa_fL_isAskedSo_17  (x1 : Int32) (σ : qa_T) : Option (Bool × qa_T) :=
    qa_fL_isAskedSo_22  x1 σ
noncomputable def qa_fL_isAskedSo_22_1  (x1 : Int32) (σ : qa_T) : Option (Bool × qa_T) :=
    qa_fL_isAskedSo_25  qa_gu x1 (Int32.ofInt 0) (Int32.ofInt 0) σ
noncomputable def qa_fL_isAskedSo  (σ : qa_T) : Option (Bool × qa_T) :=
    if (qa_fX9_asked σ) = 0 then
      qa_fL_isAskedSo_17  (Int32.ofInt 0) σ
    else
      (qa_fL_told (Int32.ofInt 3) σ).bind fun c27 =>
      if c27.1 < 0 then
        qa_fL_isAskedSo_22_1  (Int32.ofInt 0) c27.2
      else
        qa_fL_isAskedSo_17  (Int32.ofInt 0) c27.2
set_option maxRecDepth 1000000 in
theorem qa_tL_isAskedSo_87 {L : Nat}  {k25 : Int32 → Int32 → Int32 → qa_T → Option (Bool × qa_T)} {Nh : Nat} (K25 : ∀ (x1 : Int32) (x2 : Int32) (x3 : Int32) (σ : qa_T) (r : (Bool × qa_T)), k25 x1 x2 x3 σ = some r → qa_Bn L Nh qa_mL_isAskedSo 25 [(0, .inl (0, 1)), (1, .inr (.int x1)), (2, .inr (.int x2)), (3, .inr (.int x3))] [] σ (some (.inr (.int (qa_bi r.1)))) r.2) {x1 : Int32} {x3 : Int32} {x4 : Int32} {σ : qa_T} {r : (Bool × qa_T)} (h : qa_fL_isAskedSo_87  k25 x1 x3 x4 σ = some r) : qa_Bn L (0 + Nh) qa_mL_isAskedSo 87 [(0, .inl (0, 1)), (1, .inr (.int x1)), (3, .inr (.int x3)), (4, .inr (.int x4))] [.inr (.int (Int32.ofInt 0))] σ (some (.inr (.int (qa_bi r.1)))) r.2 := by
  unfold qa_fL_isAskedSo_87 at h
  try dsimp only at h
  refine qa_bn_mono (N := 0 + Nh) (by omega) ?_
  refine qa_bn_do (pc' := 88) (lv' := [(2, _), (0, _), (1, _), (3, _), (4, _)]) rfl rfl ?_
  refine qa_bn_do (pc' := 89) rfl rfl ?_
  refine qa_bn_do (pc' := 90) rfl rfl ?_
  refine qa_bn_do (pc' := 92) rfl rfl ?_
  refine qa_bn_do (pc' := 93) rfl rfl ?_
  refine qa_bn_do (pc' := 94) rfl rfl ?_
  refine qa_bn_do (pc' := 95) (lv' := [(1, _), (2, _), (0, _), (3, _), (4, _)]) rfl rfl ?_
  refine qa_bn_do (pc' := 98) (lv' := [(3, _), (1, _), (2, _), (0, _), (4, _)]) rfl rfl ?_
  refine qa_bn_do (pc' := 25) rfl rfl ?_
  exact qa_bn_mono (N := Nh) (by omega) <| qa_bn_lw (K25 _ _ _ _ _ h) rfl rfl (And.intro rfl (And.intro rfl (And.intro rfl (And.intro rfl (trivial)))))
set_option maxRecDepth 1000000 in
theorem qa_tL_isAskedSo_86 {L : Nat}  {k25 : Int32 → Int32 → Int32 → qa_T → Option (Bool × qa_T)} {Nh : Nat} (K25 : ∀ (x1 : Int32) (x2 : Int32) (x3 : Int32) (σ : qa_T) (r : (Bool × qa_T)), k25 x1 x2 x3 σ = some r → qa_Bn L Nh qa_mL_isAskedSo 25 [(0, .inl (0, 1)), (1, .inr (.int x1)), (2, .inr (.int x2)), (3, .inr (.int x3))] [] σ (some (.inr (.int (qa_bi r.1)))) r.2) {x1 : Int32} {x3 : Int32} {x4 : Int32} {σ : qa_T} {r : (Bool × qa_T)} (h : qa_fL_isAskedSo_86  k25 x1 x3 x4 σ = some r) : qa_Bn L (0 + Nh) qa_mL_isAskedSo 86 [(0, .inl (0, 1)), (1, .inr (.int x1)), (3, .inr (.int x3)), (4, .inr (.int x4))] [] σ (some (.inr (.int (qa_bi r.1)))) r.2 := by
  unfold qa_fL_isAskedSo_86 at h
  try dsimp only at h
  refine qa_bn_mono (N := 0 + Nh) (by omega) ?_
  refine qa_bn_do (pc' := 87) rfl rfl ?_
  exact qa_bn_mono (N := 0 + (Nh)) (by omega) <| qa_bn_lw (qa_tL_isAskedSo_87  K25 h) rfl rfl (And.intro rfl (And.intro rfl (And.intro rfl (And.intro rfl (trivial)))))
set_option maxRecDepth 1000000 in
theorem qa_tL_isAskedSo_87_1 {L : Nat}  {k25 : Int32 → Int32 → Int32 → qa_T → Option (Bool × qa_T)} {Nh : Nat} (K25 : ∀ (x1 : Int32) (x2 : Int32) (x3 : Int32) (σ : qa_T) (r : (Bool × qa_T)), k25 x1 x2 x3 σ = some r → qa_Bn L Nh qa_mL_isAskedSo 25 [(0, .inl (0, 1)), (1, .inr (.int x1)), (2, .inr (.int x2)), (3, .inr (.int x3))] [] σ (some (.inr (.int (qa_bi r.1)))) r.2) {x1 : Int32} {x3 : Int32} {x4 : Int32} {σ : qa_T} {r : (Bool × qa_T)} (h : qa_fL_isAskedSo_87_1  k25 x1 x3 x4 σ = some r) : qa_Bn L (0 + Nh) qa_mL_isAskedSo 87 [(0, .inl (0, 1)), (1, .inr (.int x1)), (3, .inr (.int x3)), (4, .inr (.int x4))] [.inr (.int (Int32.ofInt 1))] σ (some (.inr (.int (qa_bi r.1)))) r.2 := by
  unfold qa_fL_isAskedSo_87_1 at h
  try dsimp only at h
  refine qa_bn_mono (N := 0 + Nh) (by omega) ?_
  refine qa_bn_do (pc' := 88) (lv' := [(2, _), (0, _), (1, _), (3, _), (4, _)]) rfl rfl ?_
  refine qa_bn_do (pc' := 89) rfl rfl ?_
  refine qa_bn_do (pc' := 90) rfl rfl ?_
  refine qa_bn_do (pc' := 92) rfl rfl ?_
  refine qa_bn_do (pc' := 93) rfl rfl ?_
  refine qa_bn_do (pc' := 94) rfl rfl ?_
  refine qa_bn_do (pc' := 95) (lv' := [(1, _), (2, _), (0, _), (3, _), (4, _)]) rfl rfl ?_
  refine qa_bn_do (pc' := 98) (lv' := [(3, _), (1, _), (2, _), (0, _), (4, _)]) rfl rfl ?_
  refine qa_bn_do (pc' := 25) rfl rfl ?_
  exact qa_bn_mono (N := Nh) (by omega) <| qa_bn_lw (K25 _ _ _ _ _ h) rfl rfl (And.intro rfl (And.intro rfl (And.intro rfl (And.intro rfl (trivial)))))
set_option maxRecDepth 1000000 in
theorem qa_tL_isAskedSo_25 {L : Nat}  : ∀ (n : Nat) (x1 : Int32) (x2 : Int32) (x3 : Int32) (σ : qa_T) (r : (Bool × qa_T)), qa_fL_isAskedSo_25  n x1 x2 x3 σ = some r → qa_Bn L (n * 2 + 2) qa_mL_isAskedSo 25 [(0, .inl (0, 1)), (1, .inr (.int x1)), (2, .inr (.int x2)), (3, .inr (.int x3))] [] σ (some (.inr (.int (qa_bi r.1)))) r.2 := by
  intro n
  induction n with
  | zero => intro x1 x2 x3 σ r h; cases h
  | succ n ih =>
    intro x1 x2 x3 σ r h
    unfold qa_fL_isAskedSo_25 at h
    try dsimp only at h
    refine qa_bn_mono (N := 4 + n * 2) (by omega) ?_
    refine qa_bn_do (pc' := 26) rfl rfl ?_
    refine qa_bn_do (pc' := 27) rfl rfl ?_
    refine qa_bn_cv (qa_tX9_asked rfl) rfl rfl rfl rfl rfl rfl rfl qa_dx_0_1 ?_
    rcases qa_ite h with ⟨hc2, h⟩ | ⟨hc2, h⟩
    · refine qa_bn_1t (a := 101) (b := 33) hc2 rfl rfl ?_
      refine qa_bn_do (pc' := 102) rfl rfl ?_
      rcases qa_ite h with ⟨hc3, h⟩ | ⟨_, h⟩
      · cases h
        exact qa_bn_rb (b := false) hc3 rfl rfl
      · rcases qa_ite h with ⟨hc3, h⟩ | ⟨_, h⟩
        · cases h
          exact qa_bn_rb (b := true) hc3 rfl rfl
        · cases h
    · refine qa_bn_1f (a := 101) (b := 33) hc2 rfl rfl ?_
      refine qa_bn_do (pc' := 34) rfl rfl ?_
      refine qa_bn_do (pc' := 35) rfl rfl ?_
      obtain ⟨⟨c4, σ7⟩, hc5, h⟩ := Option.bind_eq_some_iff.mp h
      have hc5 := Option.some.inj hc5
      cases c4 with
      | inl r6 =>
        try dsimp only at h
        refine qa_bn_cv (qa_tX9_askedAt hc5) rfl rfl rfl rfl rfl rfl rfl qa_dx_0_1 ?_
        refine qa_bn_do (pc' := 40) (lv' := [(4, _), (0, _), (1, _), (2, _), (3, _)]) rfl rfl ?_
        refine qa_bn_do (pc' := 41) rfl rfl ?_
        rcases qa_ite h with ⟨hc9, h⟩ | ⟨hc9, h⟩
        · refine qa_bn_1t (a := 86) (b := 44) hc9 rfl rfl ?_
          exact qa_bn_mono (N := 0 + (n * 2 + 2)) (by omega) <| qa_bn_lw (qa_tL_isAskedSo_86  ih h) rfl rfl (And.intro rfl (And.intro rfl (And.intro rfl (And.intro rfl (trivial)))))
        · refine qa_bn_1f (a := 86) (b := 44) hc9 rfl rfl ?_
          refine qa_bn_do (pc' := 45) rfl rfl ?_
          refine qa_bn_do (pc' := 47) rfl rfl ?_
          refine qa_bn_do (pc' := 48) rfl rfl ?_
          refine qa_bn_do (pc' := 49) rfl rfl ?_
          refine qa_bn_do (pc' := 50) rfl rfl ?_
          rcases qa_ite h with ⟨hc12, h⟩ | ⟨hc12, h⟩
          · refine qa_bn_1t (a := 86) (b := 53) hc12 rfl rfl ?_
            exact qa_bn_mono (N := 0 + (n * 2 + 2)) (by omega) <| qa_bn_lw (qa_tL_isAskedSo_86  ih h) rfl rfl (And.intro rfl (And.intro rfl (And.intro rfl (And.intro rfl (trivial)))))
          · refine qa_bn_1f (a := 86) (b := 53) hc12 rfl rfl ?_
            refine qa_bn_do (pc' := 54) rfl rfl ?_
            refine qa_bn_do (pc' := 56) rfl rfl ?_
            obtain ⟨⟨c13, σ16⟩, hc14, h⟩ := Option.bind_eq_some_iff.mp h
            have hc14 := Option.some.inj hc14
            cases c13 with
            | inl r15 =>
              try dsimp only at h
              refine qa_bn_cv (qa_tX9_isLoaded hc14) rfl rfl rfl rfl rfl rfl rfl qa_dx_0_1 ?_
              rcases qa_ite h with ⟨hc18, h⟩ | ⟨hc18, h⟩
              · refine qa_bn_1t (a := 86) (b := 62) hc18 rfl rfl ?_
                exact qa_bn_mono (N := 0 + (n * 2 + 2)) (by omega) <| qa_bn_lw (qa_tL_isAskedSo_86  ih h) rfl rfl (And.intro rfl (And.intro rfl (And.intro rfl (And.intro rfl (trivial)))))
              · refine qa_bn_1f (a := 86) (b := 62) hc18 rfl rfl ?_
                refine qa_bn_do (pc' := 63) rfl rfl ?_
                refine qa_bn_do (pc' := 64) rfl rfl ?_
                obtain ⟨c19, hc20, h⟩ := Option.bind_eq_some_iff.mp h
                refine qa_bn_cl (N1 := 1) (N2 := 3 + n * 2) (N := 4 + n * 2) (by omega) (qa_tL_told hc20) rfl rfl rfl rfl rfl rfl rfl ?_
                refine qa_bn_do (pc' := 69) rfl rfl ?_
                rcases qa_ite h with ⟨hc21, h⟩ | ⟨hc21, h⟩
                · refine qa_bn_1t (a := 86) (b := 72) hc21 rfl rfl ?_
                  exact qa_bn_mono (N := 0 + (n * 2 + 2)) (by omega) <| qa_bn_lw (qa_tL_isAskedSo_86  ih h) rfl rfl (And.intro rfl (And.intro rfl (And.intro rfl (And.intro rfl (trivial)))))
                · refine qa_bn_1f (a := 86) (b := 72) hc21 rfl rfl ?_
                  refine qa_bn_do (pc' := 73) rfl rfl ?_
                  refine qa_bn_do (pc' := 74) rfl rfl ?_
                  obtain ⟨c22, hc23, h⟩ := Option.bind_eq_some_iff.mp h
                  refine qa_bn_cl (N1 := 1) (N2 := 2 + n * 2) (N := 3 + n * 2) (by omega) (qa_tL_told hc23) rfl rfl rfl rfl rfl rfl rfl ?_
                  refine qa_bn_do (pc' := 79) rfl rfl ?_
                  rcases qa_ite h with ⟨hc24, h⟩ | ⟨hc24, h⟩
                  · refine qa_bn_1t (a := 86) (b := 82) hc24 rfl rfl ?_
                    exact qa_bn_mono (N := 0 + (n * 2 + 2)) (by omega) <| qa_bn_lw (qa_tL_isAskedSo_86  ih h) rfl rfl (And.intro rfl (And.intro rfl (And.intro rfl (And.intro rfl (trivial)))))
                  · refine qa_bn_1f (a := 86) (b := 82) hc24 rfl rfl ?_
                    refine qa_bn_do (pc' := 83) rfl rfl ?_
                    refine qa_bn_do (pc' := 87) rfl rfl ?_
                    exact qa_bn_mono (N := 0 + (n * 2 + 2)) (by omega) <| qa_bn_lw (qa_tL_isAskedSo_87_1  ih h) rfl rfl (And.intro rfl (And.intro rfl (And.intro rfl (And.intro rfl (trivial)))))
            | inr E17 =>
              try dsimp only at h
              cases h
      | inr E8 =>
        try dsimp only at h
        cases h
set_option maxRecDepth 1000000 in
theorem qa_tL_isAskedSo_22 {L : Nat}  {x1 : Int32} {σ : qa_T} {r : (Bool × qa_T)} (h : qa_fL_isAskedSo_22  x1 σ = some r) : qa_Bn L (122) qa_mL_isAskedSo 22 [(0, .inl (0, 1)), (1, .inr (.int x1))] [.inr (.int (Int32.ofInt 1))] σ (some (.inr (.int (qa_bi r.1)))) r.2 := by
  unfold qa_fL_isAskedSo_22 at h
  try dsimp only at h
  refine qa_bn_mono (N := 122) (by omega) ?_
  refine qa_bn_do (pc' := 23) (lv' := [(2, _), (0, _), (1, _)]) rfl rfl ?_
  refine qa_bn_do (pc' := 24) rfl rfl ?_
  refine qa_bn_do (pc' := 25) (lv' := [(3, _), (2, _), (0, _), (1, _)]) rfl rfl ?_
  exact qa_bn_mono (N := qa_gu * 2 + 2) (Nat.le_of_ble_eq_true rfl) <| qa_bn_lw (qa_tL_isAskedSo_25  _ _ _ _ _ _ h) rfl rfl (And.intro rfl (And.intro rfl (And.intro rfl (And.intro rfl (trivial)))))
set_option maxRecDepth 1000000 in
theorem qa_tL_isAskedSo_17 {L : Nat}  {x1 : Int32} {σ : qa_T} {r : (Bool × qa_T)} (h : qa_fL_isAskedSo_17  x1 σ = some r) : qa_Bn L (122) qa_mL_isAskedSo 17 [(0, .inl (0, 1)), (1, .inr (.int x1))] [] σ (some (.inr (.int (qa_bi r.1)))) r.2 := by
  unfold qa_fL_isAskedSo_17 at h
  try dsimp only at h
  refine qa_bn_mono (N := 122) (by omega) ?_
  refine qa_bn_do (pc' := 18) rfl rfl ?_
  refine qa_bn_do (pc' := 22) rfl rfl ?_
  exact qa_bn_mono (N := 122) (by omega) <| qa_bn_lw (qa_tL_isAskedSo_22  h) rfl rfl (And.intro rfl (And.intro rfl (trivial)))
set_option maxRecDepth 1000000 in
theorem qa_tL_isAskedSo_22_1 {L : Nat}  {x1 : Int32} {σ : qa_T} {r : (Bool × qa_T)} (h : qa_fL_isAskedSo_22_1  x1 σ = some r) : qa_Bn L (122) qa_mL_isAskedSo 22 [(0, .inl (0, 1)), (1, .inr (.int x1))] [.inr (.int (Int32.ofInt 0))] σ (some (.inr (.int (qa_bi r.1)))) r.2 := by
  unfold qa_fL_isAskedSo_22_1 at h
  try dsimp only at h
  refine qa_bn_mono (N := 122) (by omega) ?_
  refine qa_bn_do (pc' := 23) (lv' := [(2, _), (0, _), (1, _)]) rfl rfl ?_
  refine qa_bn_do (pc' := 24) rfl rfl ?_
  refine qa_bn_do (pc' := 25) (lv' := [(3, _), (2, _), (0, _), (1, _)]) rfl rfl ?_
  exact qa_bn_mono (N := qa_gu * 2 + 2) (Nat.le_of_ble_eq_true rfl) <| qa_bn_lw (qa_tL_isAskedSo_25  _ _ _ _ _ _ h) rfl rfl (And.intro rfl (And.intro rfl (And.intro rfl (And.intro rfl (trivial)))))
set_option maxRecDepth 1000000 in
theorem qa_tL_isAskedSo {L : Nat}  {σ : qa_T} {r : (Bool × qa_T)} (h : qa_fL_isAskedSo  σ = some r) : qa_Bn L 123 qa_mL_isAskedSo 0 (qa_ag 0 [.inl (0, 1)]) [] σ (some (.inr (.int (qa_bi r.1)))) r.2 := by
  unfold qa_fL_isAskedSo at h
  try dsimp only at h
  show qa_Bn L 123 qa_mL_isAskedSo 0 [(0, .inl (0, 1))] [] σ _ _
  refine qa_bn_do (pc' := 1) rfl rfl ?_
  refine qa_bn_do (pc' := 2) (lv' := [(1, _), (0, _)]) rfl rfl ?_
  refine qa_bn_do (pc' := 3) rfl rfl ?_
  refine qa_bn_cv (qa_tX9_asked rfl) rfl rfl rfl rfl rfl rfl rfl qa_dx_0_1 ?_
  rcases qa_ite h with ⟨hc1, h⟩ | ⟨hc1, h⟩
  · refine qa_bn_1t (a := 17) (b := 9) hc1 rfl rfl ?_
    exact qa_bn_mono (N := 122) (by omega) <| qa_bn_lw (qa_tL_isAskedSo_17  h) rfl rfl (And.intro rfl (And.intro rfl (trivial)))
  · refine qa_bn_1f (a := 17) (b := 9) hc1 rfl rfl ?_
    refine qa_bn_do (pc' := 10) rfl rfl ?_
    refine qa_bn_do (pc' := 11) rfl rfl ?_
    obtain ⟨c27, hc28, h⟩ := Option.bind_eq_some_iff.mp h
    refine qa_bn_cl (N1 := 1) (N2 := 122) (N := 123) (by omega) (qa_tL_told hc28) rfl rfl rfl rfl rfl rfl rfl ?_
    rcases qa_ite h with ⟨hc29, h⟩ | ⟨hc29, h⟩
    · refine qa_bn_1t (a := 21) (b := 17) hc29 rfl rfl ?_
      refine qa_bn_do (pc' := 22) rfl rfl ?_
      exact qa_bn_mono (N := 122) (by omega) <| qa_bn_lw (qa_tL_isAskedSo_22_1  h) rfl rfl (And.intro rfl (And.intro rfl (trivial)))
    · refine qa_bn_1f (a := 21) (b := 17) hc29 rfl rfl ?_
      exact qa_bn_mono (N := 122) (by omega) <| qa_bn_lw (qa_tL_isAskedSo_17  h) rfl rfl (And.intro rfl (And.intro rfl (trivial)))
noncomputable def qa_fL_isRoundSo_275 (a2 : Int32) (x5 : Int32) (σ : qa_T) : Option (Bool × qa_T) :=
    if x5 = 0 then some (false, σ) else if x5 = 1 then some (true, σ) else none
noncomputable def qa_fL_isRoundSo_267 (a2 : Int32) (k203 : Int32 → Int32 → Int32 → Int32 → qa_T → Option (Bool × qa_T)) (x2 : Int32) (x7 : Int32) (x8 : Int32) (σ : qa_T) : Option (Bool × qa_T) :=
    let v35 : Int32 := x8 + Int32.ofInt 1
    k203 x2 (Int32.ofInt 0) x7 v35 σ
noncomputable def qa_fL_isRoundSo_266 (a2 : Int32) (k203 : Int32 → Int32 → Int32 → Int32 → qa_T → Option (Bool × qa_T)) (x2 : Int32) (x7 : Int32) (x8 : Int32) (σ : qa_T) : Option (Bool × qa_T) :=
    qa_fL_isRoundSo_267 a2 k203 x2 x7 x8 σ
noncomputable def qa_fL_isRoundSo_267_1 (a2 : Int32) (k203 : Int32 → Int32 → Int32 → Int32 → qa_T → Option (Bool × qa_T)) (x2 : Int32) (x7 : Int32) (x8 : Int32) (σ : qa_T) : Option (Bool × qa_T) :=
    let v44 : Int32 := x8 + Int32.ofInt 1
    k203 x2 (Int32.ofInt 1) x7 v44 σ
noncomputable def qa_fL_isRoundSo_262 (a2 : Int32) (k203 : Int32 → Int32 → Int32 → Int32 → qa_T → Option (Bool × qa_T)) (x2 : Int32) (x7 : Int32) (x8 : Int32) (σ : qa_T) : Option (Bool × qa_T) :=
    qa_fL_isRoundSo_267_1 a2 k203 x2 x7 x8 σ
noncomputable def qa_fL_isRoundSo_203 (a2 : Int32) : Nat → Int32 → Int32 → Int32 → Int32 → qa_T → Option (Bool × qa_T)
  | 0, _, _, _, _, _ => none
  | n + 1, x2, x5, x7, x8, σ =>
    if (Int32.ofInt 3) ≤ x8 then
      qa_fL_isRoundSo_275 a2 x5 σ
    else
      (qa_fX9_missesWith x8 σ).bind fun c29 => match c29 with
        | (.inl r31, σ32) =>
          if x5 = 0 then
            qa_fL_isRoundSo_266 a2 (qa_fL_isRoundSo_203 a2 n) x2 x7 x8 σ32
          else
            if r31 < 0 then
              qa_fL_isRoundSo_266 a2 (qa_fL_isRoundSo_203 a2 n) x2 x7 x8 σ32
            else
              if x2 < r31 then
                qa_fL_isRoundSo_266 a2 (qa_fL_isRoundSo_203 a2 n) x2 x7 x8 σ32
              else
                (qa_fX9_missesWith x7 σ32).bind fun c38 => match c38 with
                  | (.inl r40, σ41) =>
                    if r40 < r31 then
                      qa_fL_isRoundSo_262 a2 (qa_fL_isRoundSo_203 a2 n) x2 x7 x8 σ41
                    else
                      (qa_fX9_missesWith x7 σ41).bind fun c45 => match c45 with
                        | (.inl r47, σ48) =>
                          if ¬ r31 = r47 then
                            qa_fL_isRoundSo_266 a2 (qa_fL_isRoundSo_203 a2 n) x2 x7 x8 σ48
                          else
                            if x8 < x7 then
                              qa_fL_isRoundSo_266 a2 (qa_fL_isRoundSo_203 a2 n) x2 x7 x8 σ48
                            else
                              qa_fL_isRoundSo_262 a2 (qa_fL_isRoundSo_203 a2 n) x2 x7 x8 σ48
                        | (.inr E49, σ48) =>
                          none
                  | (.inr E42, σ41) =>
                    none
        | (.inr E33, σ32) =>
          none
noncomputable def qa_fL_isRoundSo_184 (a2 : Int32) (x2 : Int32) (σ : qa_T) : Option (Bool × qa_T) :=
    (qa_fL_told (Int32.ofInt 0) σ).bind fun c19 =>
    if 0 ≤ c19.1 then
      qa_fL_isRoundSo_275 a2 (Int32.ofInt 0) c19.2
    else
      (qa_fX9_bestOrder c19.2).bind fun c23 => match c23 with
        | (.inl r25, σ26) =>
          qa_fL_isRoundSo_203 a2 qa_gu x2 (Int32.ofInt 0) r25 (Int32.ofInt 0) σ26
        | (.inr E27, σ26) =>
          none
noncomputable def qa_fL_isRoundSo_183 (a2 : Int32) (x2 : Int32) (σ : qa_T) : Option (Bool × qa_T) :=
    qa_fL_isRoundSo_184 a2 x2 σ
noncomputable def qa_fL_isRoundSo_184_1 (a2 : Int32) (x2 : Int32) (σ : qa_T) : Option (Bool × qa_T) :=
    (qa_fL_told (Int32.ofInt 0) σ).bind fun c61 =>
    if 0 ≤ c61.1 then
      qa_fL_isRoundSo_275 a2 (Int32.ofInt 1) c61.2
    else
      (qa_fX9_bestOrder c61.2).bind fun c64 => match c64 with
        | (.inl r66, σ67) =>
          qa_fL_isRoundSo_203 a2 qa_gu x2 (Int32.ofInt 1) r66 (Int32.ofInt 0) σ67
        | (.inr E68, σ67) =>
          none
noncomputable def qa_fL_isRoundSo_179 (a2 : Int32) (x2 : Int32) (σ : qa_T) : Option (Bool × qa_T) :=
    qa_fL_isRoundSo_184_1 a2 x2 σ
noncomputable def qa_fL_isRoundSo_100 (a2 : Int32) (k66 : Int32 → Int32 → Int32 → Int32 → Int32 → qa_T → Option (Bool × qa_T)) (x2 : Int32) (x3 : Int32) (x4 : Int32) (x6 : Int32) (σ : qa_T) : Option (Bool × qa_T) :=
    let v73 : Int32 := x6 + Int32.ofInt 1
    k66 x2 x3 x4 (Int32.ofInt 0) v73 σ
noncomputable def qa_fL_isRoundSo_99 (a2 : Int32) (k66 : Int32 → Int32 → Int32 → Int32 → Int32 → qa_T → Option (Bool × qa_T)) (x2 : Int32) (x3 : Int32) (x4 : Int32) (x6 : Int32) (σ : qa_T) : Option (Bool × qa_T) :=
    qa_fL_isRoundSo_100 a2 k66 x2 x3 x4 x6 σ
noncomputable def qa_fL_isRoundSo_100_1 (a2 : Int32) (k66 : Int32 → Int32 → Int32 → Int32 → Int32 → qa_T → Option (Bool × qa_T)) (x2 : Int32) (x3 : Int32) (x4 : Int32) (x6 : Int32) (σ : qa_T) : Option (Bool × qa_T) :=
    let v83 : Int32 := x6 + Int32.ofInt 1
    k66 x2 x3 x4 (Int32.ofInt 1) v83 σ
noncomputable def qa_fL_isRoundSo_66 (a2 : Int32) : Nat → Int32 → Int32 → Int32 → Int32 → Int32 → qa_T → Option (Bool × qa_T)
  | 0, _, _, _, _, _, _ => none
  | n + 1, x2, x3, x4, x5, x6, σ =>
    if x4 ≤ x6 then
      let v17 : Int32 := ((qa_fX9_hits σ) + (qa_fX9_misses σ))
      if x5 = 0 then
        qa_fL_isRoundSo_183 a2 x2 σ
      else
        if ¬ v17 = 0 then
          (qa_fX9_hitShare σ).bind fun c53 =>
          if ¬ qa_nn (FP.dmul c53 (FP.i2d v17)) then none else
          if (Op.cmpValue (FP.dcmp (FP.dmul c53 (FP.i2d v17)) (FP.i2d ((qa_fX9_hits σ) - (Int32.ofInt 1)))) .l) ≤ 0 then
            qa_fL_isRoundSo_183 a2 x2 σ
          else
            (qa_fX9_hitShare σ).bind fun c57 =>
            if ¬ qa_nn (FP.dmul c57 (FP.i2d v17)) then none else
            if 0 ≤ (Op.cmpValue (FP.dcmp (FP.dmul c57 (FP.i2d v17)) (FP.i2d ((qa_fX9_hits σ) + (Int32.ofInt 1)))) .g) then
              qa_fL_isRoundSo_183 a2 x2 σ
            else
              qa_fL_isRoundSo_179 a2 x2 σ
        else
          (qa_fX9_hitShare σ).bind fun c69 =>
          if ¬ (Op.cmpValue (FP.dcmp c69 FP.dconst0) .l) = 0 then
            qa_fL_isRoundSo_183 a2 x2 σ
          else
            qa_fL_isRoundSo_179 a2 x2 σ
    else
      if x5 = 0 then
        qa_fL_isRoundSo_99 a2 (qa_fL_isRoundSo_66 a2 n) x2 x3 x4 x6 σ
      else
        (qa_fL_showPlace σ).bind fun c74 =>
        if x2 = 0 then none else
        (some (qa_fX9_slideAt ((c74.1 + x6) - (c74.1 + x6) / x2 * x2) c74.2)).bind fun c77 => match c77 with
          | (.inl r79, σ80) =>
            if r79 = x3 then
              qa_fL_isRoundSo_99 a2 (qa_fL_isRoundSo_66 a2 n) x2 x3 x4 x6 σ80
            else
              qa_fL_isRoundSo_100_1 a2 (qa_fL_isRoundSo_66 a2 n) x2 x3 x4 x6 σ80
          | (.inr E81, σ80) =>
            none
noncomputable def qa_fL_isRoundSo_61 (a2 : Int32) (x2 : Int32) (x3 : Int32) (x4 : Int32) (σ : qa_T) : Option (Bool × qa_T) :=
    qa_fL_isRoundSo_66 a2 qa_gu x2 x3 x4 (Int32.ofInt 0) (Int32.ofInt 1) σ
noncomputable def qa_fL_isRoundSo_60 (a2 : Int32) (x2 : Int32) (x3 : Int32) (x4 : Int32) (σ : qa_T) : Option (Bool × qa_T) :=
    qa_fL_isRoundSo_61 a2 x2 x3 x4 σ
noncomputable def qa_fL_isRoundSo_61_1 (a2 : Int32) (x2 : Int32) (x3 : Int32) (x4 : Int32) (σ : qa_T) : Option (Bool × qa_T) :=
    qa_fL_isRoundSo_66 a2 qa_gu x2 x3 x4 (Int32.ofInt 1) (Int32.ofInt 1) σ
noncomputable def qa_fL_isRoundSo (a2 : Int32) (σ : qa_T) : Option (Bool × qa_T) :=
    let v1 : Int32 := (qa_fX9_places σ)
    if ¬ v1 = 0 then
      (qa_fL_low a2 v1 σ).bind fun c3 =>
      (some (qa_fX9_slideAt c3.1 c3.2)).bind fun c5 => match c5 with
        | (.inl r7, σ8) =>
          (qa_fX9_nextUse r7 σ8).bind fun c10 => match c10 with
            | (.inl r12, σ13) =>
              if r12 ≤ 0 then
                qa_fL_isRoundSo_60 a2 v1 r7 r12 σ13
              else
                if v1 < r12 then
                  qa_fL_isRoundSo_60 a2 v1 r7 r12 σ13
                else
                  (qa_fL_showPlace σ13).bind fun c85 =>
                  if v1 = 0 then none else
                  (some (qa_fX9_slideAt ((c85.1 + r12) - (c85.1 + r12) / v1 * v1) c85.2)).bind fun c88 => match c88 with
                    | (.inl r90, σ91) =>
                      if ¬ r90 = r7 then
                        qa_fL_isRoundSo_60 a2 v1 r7 r12 σ91
                      else
                        qa_fL_isRoundSo_61_1 a2 v1 r7 r12 σ91
                    | (.inr E92, σ91) =>
                      none
            | (.inr E14, σ13) =>
              none
        | (.inr E9, σ8) =>
          none
    else
      some (true, σ)
set_option maxRecDepth 1000000 in
theorem qa_tL_isRoundSo_275 {L : Nat} {a2 : Int32}  {x5 : Int32} {σ : qa_T} {r : (Bool × qa_T)} (h : qa_fL_isRoundSo_275 a2 x5 σ = some r) : qa_Bn L (0) qa_mL_isRoundSo 275 [(0, .inl (0, 1)), (1, .inr (.int a2)), (5, .inr (.int x5))] [] σ (some (.inr (.int (qa_bi r.1)))) r.2 := by
  unfold qa_fL_isRoundSo_275 at h
  try dsimp only at h
  refine qa_bn_mono (N := 0) (by omega) ?_
  refine qa_bn_do (pc' := 277) rfl rfl ?_
  rcases qa_ite h with ⟨hc22, h⟩ | ⟨_, h⟩
  · cases h
    exact qa_bn_rb (b := false) hc22 rfl rfl
  · rcases qa_ite h with ⟨hc22, h⟩ | ⟨_, h⟩
    · cases h
      exact qa_bn_rb (b := true) hc22 rfl rfl
    · cases h
set_option maxRecDepth 1000000 in
theorem qa_tL_isRoundSo_267 {L : Nat} {a2 : Int32}  {k203 : Int32 → Int32 → Int32 → Int32 → qa_T → Option (Bool × qa_T)} {Nh : Nat} (K203 : ∀ (x2 : Int32) (x5 : Int32) (x7 : Int32) (x8 : Int32) (σ : qa_T) (r : (Bool × qa_T)), k203 x2 x5 x7 x8 σ = some r → qa_Bn L Nh qa_mL_isRoundSo 203 [(0, .inl (0, 1)), (1, .inr (.int a2)), (2, .inr (.int x2)), (5, .inr (.int x5)), (7, .inr (.int x7)), (8, .inr (.int x8))] [] σ (some (.inr (.int (qa_bi r.1)))) r.2) {x2 : Int32} {x7 : Int32} {x8 : Int32} {σ : qa_T} {r : (Bool × qa_T)} (h : qa_fL_isRoundSo_267 a2 k203 x2 x7 x8 σ = some r) : qa_Bn L (0 + Nh) qa_mL_isRoundSo 267 [(0, .inl (0, 1)), (1, .inr (.int a2)), (2, .inr (.int x2)), (7, .inr (.int x7)), (8, .inr (.int x8))] [.inr (.int (Int32.ofInt 0))] σ (some (.inr (.int (qa_bi r.1)))) r.2 := by
  unfold qa_fL_isRoundSo_267 at h
  try dsimp only at h
  refine qa_bn_mono (N := 0 + Nh) (by omega) ?_
  refine qa_bn_do (pc' := 269) (lv' := [(5, _), (0, _), (1, _), (2, _), (7, _), (8, _)]) rfl rfl ?_
  refine qa_bn_do (pc' := 272) (lv' := [(8, _), (5, _), (0, _), (1, _), (2, _), (7, _)]) rfl rfl ?_
  refine qa_bn_do (pc' := 203) rfl rfl ?_
  exact qa_bn_mono (N := Nh) (by omega) <| qa_bn_lw (K203 _ _ _ _ _ _ h) rfl rfl (And.intro rfl (And.intro rfl (And.intro rfl (And.intro rfl (And.intro rfl (And.intro rfl (trivial)))))))
set_option maxRecDepth 1000000 in
theorem qa_tL_isRoundSo_266 {L : Nat} {a2 : Int32}  {k203 : Int32 → Int32 → Int32 → Int32 → qa_T → Option (Bool × qa_T)} {Nh : Nat} (K203 : ∀ (x2 : Int32) (x5 : Int32) (x7 : Int32) (x8 : Int32) (σ : qa_T) (r : (Bool × qa_T)), k203 x2 x5 x7 x8 σ = some r → qa_Bn L Nh qa_mL_isRoundSo 203 [(0, .inl (0, 1)), (1, .inr (.int a2)), (2, .inr (.int x2)), (5, .inr (.int x5)), (7, .inr (.int x7)), (8, .inr (.int x8))] [] σ (some (.inr (.int (qa_bi r.1)))) r.2) {x2 : Int32} {x7 : Int32} {x8 : Int32} {σ : qa_T} {r : (Bool × qa_T)} (h : qa_fL_isRoundSo_266 a2 k203 x2 x7 x8 σ = some r) : qa_Bn L (0 + Nh) qa_mL_isRoundSo 266 [(0, .inl (0, 1)), (1, .inr (.int a2)), (2, .inr (.int x2)), (7, .inr (.int x7)), (8, .inr (.int x8))] [] σ (some (.inr (.int (qa_bi r.1)))) r.2 := by
  unfold qa_fL_isRoundSo_266 at h
  try dsimp only at h
  refine qa_bn_mono (N := 0 + Nh) (by omega) ?_
  refine qa_bn_do (pc' := 267) rfl rfl ?_
  exact qa_bn_mono (N := 0 + (Nh)) (by omega) <| qa_bn_lw (qa_tL_isRoundSo_267  K203 h) rfl rfl (And.intro rfl (And.intro rfl (And.intro rfl (And.intro rfl (And.intro rfl (trivial))))))
set_option maxRecDepth 1000000 in
theorem qa_tL_isRoundSo_267_1 {L : Nat} {a2 : Int32}  {k203 : Int32 → Int32 → Int32 → Int32 → qa_T → Option (Bool × qa_T)} {Nh : Nat} (K203 : ∀ (x2 : Int32) (x5 : Int32) (x7 : Int32) (x8 : Int32) (σ : qa_T) (r : (Bool × qa_T)), k203 x2 x5 x7 x8 σ = some r → qa_Bn L Nh qa_mL_isRoundSo 203 [(0, .inl (0, 1)), (1, .inr (.int a2)), (2, .inr (.int x2)), (5, .inr (.int x5)), (7, .inr (.int x7)), (8, .inr (.int x8))] [] σ (some (.inr (.int (qa_bi r.1)))) r.2) {x2 : Int32} {x7 : Int32} {x8 : Int32} {σ : qa_T} {r : (Bool × qa_T)} (h : qa_fL_isRoundSo_267_1 a2 k203 x2 x7 x8 σ = some r) : qa_Bn L (0 + Nh) qa_mL_isRoundSo 267 [(0, .inl (0, 1)), (1, .inr (.int a2)), (2, .inr (.int x2)), (7, .inr (.int x7)), (8, .inr (.int x8))] [.inr (.int (Int32.ofInt 1))] σ (some (.inr (.int (qa_bi r.1)))) r.2 := by
  unfold qa_fL_isRoundSo_267_1 at h
  try dsimp only at h
  refine qa_bn_mono (N := 0 + Nh) (by omega) ?_
  refine qa_bn_do (pc' := 269) (lv' := [(5, _), (0, _), (1, _), (2, _), (7, _), (8, _)]) rfl rfl ?_
  refine qa_bn_do (pc' := 272) (lv' := [(8, _), (5, _), (0, _), (1, _), (2, _), (7, _)]) rfl rfl ?_
  refine qa_bn_do (pc' := 203) rfl rfl ?_
  exact qa_bn_mono (N := Nh) (by omega) <| qa_bn_lw (K203 _ _ _ _ _ _ h) rfl rfl (And.intro rfl (And.intro rfl (And.intro rfl (And.intro rfl (And.intro rfl (And.intro rfl (trivial)))))))
set_option maxRecDepth 1000000 in
theorem qa_tL_isRoundSo_262 {L : Nat} {a2 : Int32}  {k203 : Int32 → Int32 → Int32 → Int32 → qa_T → Option (Bool × qa_T)} {Nh : Nat} (K203 : ∀ (x2 : Int32) (x5 : Int32) (x7 : Int32) (x8 : Int32) (σ : qa_T) (r : (Bool × qa_T)), k203 x2 x5 x7 x8 σ = some r → qa_Bn L Nh qa_mL_isRoundSo 203 [(0, .inl (0, 1)), (1, .inr (.int a2)), (2, .inr (.int x2)), (5, .inr (.int x5)), (7, .inr (.int x7)), (8, .inr (.int x8))] [] σ (some (.inr (.int (qa_bi r.1)))) r.2) {x2 : Int32} {x7 : Int32} {x8 : Int32} {σ : qa_T} {r : (Bool × qa_T)} (h : qa_fL_isRoundSo_262 a2 k203 x2 x7 x8 σ = some r) : qa_Bn L (0 + Nh) qa_mL_isRoundSo 262 [(0, .inl (0, 1)), (1, .inr (.int a2)), (2, .inr (.int x2)), (7, .inr (.int x7)), (8, .inr (.int x8))] [] σ (some (.inr (.int (qa_bi r.1)))) r.2 := by
  unfold qa_fL_isRoundSo_262 at h
  try dsimp only at h
  refine qa_bn_mono (N := 0 + Nh) (by omega) ?_
  refine qa_bn_do (pc' := 263) rfl rfl ?_
  refine qa_bn_do (pc' := 267) rfl rfl ?_
  exact qa_bn_mono (N := 0 + (Nh)) (by omega) <| qa_bn_lw (qa_tL_isRoundSo_267_1  K203 h) rfl rfl (And.intro rfl (And.intro rfl (And.intro rfl (And.intro rfl (And.intro rfl (trivial))))))
set_option maxRecDepth 1000000 in
theorem qa_tL_isRoundSo_203 {L : Nat} {a2 : Int32}  : ∀ (n : Nat) (x2 : Int32) (x5 : Int32) (x7 : Int32) (x8 : Int32) (σ : qa_T) (r : (Bool × qa_T)), qa_fL_isRoundSo_203 a2 n x2 x5 x7 x8 σ = some r → qa_Bn L (n * 0 + 0) qa_mL_isRoundSo 203 [(0, .inl (0, 1)), (1, .inr (.int a2)), (2, .inr (.int x2)), (5, .inr (.int x5)), (7, .inr (.int x7)), (8, .inr (.int x8))] [] σ (some (.inr (.int (qa_bi r.1)))) r.2 := by
  intro n
  induction n with
  | zero => intro x2 x5 x7 x8 σ r h; cases h
  | succ n ih =>
    intro x2 x5 x7 x8 σ r h
    unfold qa_fL_isRoundSo_203 at h
    try dsimp only at h
    refine qa_bn_mono (N := 0 + n * 0) (by omega) ?_
    refine qa_bn_do (pc' := 205) rfl rfl ?_
    refine qa_bn_do (pc' := 206) rfl rfl ?_
    rcases qa_ite h with ⟨hc28, h⟩ | ⟨hc28, h⟩
    · refine qa_bn_1t (a := 275) (b := 209) hc28 rfl rfl ?_
      exact qa_bn_mono (N := 0) (by omega) <| qa_bn_lw (qa_tL_isRoundSo_275  h) rfl rfl (And.intro rfl (And.intro rfl (And.intro rfl (trivial))))
    · refine qa_bn_1f (a := 275) (b := 209) hc28 rfl rfl ?_
      refine qa_bn_do (pc' := 210) rfl rfl ?_
      refine qa_bn_do (pc' := 212) rfl rfl ?_
      obtain ⟨⟨c29, σ32⟩, hc30, h⟩ := Option.bind_eq_some_iff.mp h
      cases c29 with
      | inl r31 =>
        try dsimp only at h
        refine qa_bn_cv (qa_tX9_missesWith hc30) rfl rfl rfl rfl rfl rfl rfl qa_dx_0_1 ?_
        refine qa_bn_do (pc' := 217) (lv' := [(9, _), (0, _), (1, _), (2, _), (5, _), (7, _), (8, _)]) rfl rfl ?_
        refine qa_bn_do (pc' := 219) rfl rfl ?_
        rcases qa_ite h with ⟨hc34, h⟩ | ⟨hc34, h⟩
        · refine qa_bn_1t (a := 266) (b := 222) hc34 rfl rfl ?_
          exact qa_bn_mono (N := 0 + (n * 0 + 0)) (by omega) <| qa_bn_lw (qa_tL_isRoundSo_266  ih h) rfl rfl (And.intro rfl (And.intro rfl (And.intro rfl (And.intro rfl (And.intro rfl (trivial))))))
        · refine qa_bn_1f (a := 266) (b := 222) hc34 rfl rfl ?_
          refine qa_bn_do (pc' := 224) rfl rfl ?_
          rcases qa_ite h with ⟨hc36, h⟩ | ⟨hc36, h⟩
          · refine qa_bn_1t (a := 266) (b := 227) hc36 rfl rfl ?_
            exact qa_bn_mono (N := 0 + (n * 0 + 0)) (by omega) <| qa_bn_lw (qa_tL_isRoundSo_266  ih h) rfl rfl (And.intro rfl (And.intro rfl (And.intro rfl (And.intro rfl (And.intro rfl (trivial))))))
          · refine qa_bn_1f (a := 266) (b := 227) hc36 rfl rfl ?_
            refine qa_bn_do (pc' := 229) rfl rfl ?_
            refine qa_bn_do (pc' := 230) rfl rfl ?_
            rcases qa_ite h with ⟨hc37, h⟩ | ⟨hc37, h⟩
            · refine qa_bn_1t (a := 266) (b := 233) hc37 rfl rfl ?_
              exact qa_bn_mono (N := 0 + (n * 0 + 0)) (by omega) <| qa_bn_lw (qa_tL_isRoundSo_266  ih h) rfl rfl (And.intro rfl (And.intro rfl (And.intro rfl (And.intro rfl (And.intro rfl (trivial))))))
            · refine qa_bn_1f (a := 266) (b := 233) hc37 rfl rfl ?_
              refine qa_bn_do (pc' := 235) rfl rfl ?_
              refine qa_bn_do (pc' := 236) rfl rfl ?_
              refine qa_bn_do (pc' := 238) rfl rfl ?_
              obtain ⟨⟨c38, σ41⟩, hc39, h⟩ := Option.bind_eq_some_iff.mp h
              cases c38 with
              | inl r40 =>
                try dsimp only at h
                refine qa_bn_cv (qa_tX9_missesWith hc39) rfl rfl rfl rfl rfl rfl rfl qa_dx_0_1 ?_
                rcases qa_ite h with ⟨hc43, h⟩ | ⟨hc43, h⟩
                · refine qa_bn_1t (a := 262) (b := 244) hc43 rfl rfl ?_
                  exact qa_bn_mono (N := 0 + (n * 0 + 0)) (by omega) <| qa_bn_lw (qa_tL_isRoundSo_262  ih h) rfl rfl (And.intro rfl (And.intro rfl (And.intro rfl (And.intro rfl (And.intro rfl (trivial))))))
                · refine qa_bn_1f (a := 262) (b := 244) hc43 rfl rfl ?_
                  refine qa_bn_do (pc' := 246) rfl rfl ?_
                  refine qa_bn_do (pc' := 247) rfl rfl ?_
                  refine qa_bn_do (pc' := 249) rfl rfl ?_
                  obtain ⟨⟨c45, σ48⟩, hc46, h⟩ := Option.bind_eq_some_iff.mp h
                  cases c45 with
                  | inl r47 =>
                    try dsimp only at h
                    refine qa_bn_cv (qa_tX9_missesWith hc46) rfl rfl rfl rfl rfl rfl rfl qa_dx_0_1 ?_
                    rcases qa_ite h with ⟨hc50, h⟩ | ⟨hc50, h⟩
                    · refine qa_bn_1t (a := 266) (b := 255) hc50 rfl rfl ?_
                      exact qa_bn_mono (N := 0 + (n * 0 + 0)) (by omega) <| qa_bn_lw (qa_tL_isRoundSo_266  ih h) rfl rfl (And.intro rfl (And.intro rfl (And.intro rfl (And.intro rfl (And.intro rfl (trivial))))))
                    · refine qa_bn_1f (a := 266) (b := 255) hc50 rfl rfl ?_
                      refine qa_bn_do (pc' := 257) rfl rfl ?_
                      refine qa_bn_do (pc' := 259) rfl rfl ?_
                      rcases qa_ite h with ⟨hc51, h⟩ | ⟨hc51, h⟩
                      · refine qa_bn_1t (a := 266) (b := 262) hc51 rfl rfl ?_
                        exact qa_bn_mono (N := 0 + (n * 0 + 0)) (by omega) <| qa_bn_lw (qa_tL_isRoundSo_266  ih h) rfl rfl (And.intro rfl (And.intro rfl (And.intro rfl (And.intro rfl (And.intro rfl (trivial))))))
                      · refine qa_bn_1f (a := 266) (b := 262) hc51 rfl rfl ?_
                        exact qa_bn_mono (N := 0 + (n * 0 + 0)) (by omega) <| qa_bn_lw (qa_tL_isRoundSo_262  ih h) rfl rfl (And.intro rfl (And.intro rfl (And.intro rfl (And.intro rfl (And.intro rfl (trivial))))))
                  | inr E49 =>
                    try dsimp only at h
                    cases h
              | inr E42 =>
                try dsimp only at h
                cases h
      | inr E33 =>
        try dsimp only at h
        cases h
set_option maxRecDepth 1000000 in
theorem qa_tL_isRoundSo_184 {L : Nat} {a2 : Int32}  {x2 : Int32} {σ : qa_T} {r : (Bool × qa_T)} (h : qa_fL_isRoundSo_184 a2 x2 σ = some r) : qa_Bn L (1) qa_mL_isRoundSo 184 [(0, .inl (0, 1)), (1, .inr (.int a2)), (2, .inr (.int x2))] [.inr (.int (Int32.ofInt 0))] σ (some (.inr (.int (qa_bi r.1)))) r.2 := by
  unfold qa_fL_isRoundSo_184 at h
  try dsimp only at h
  refine qa_bn_mono (N := 1) (by omega) ?_
  refine qa_bn_do (pc' := 186) (lv' := [(5, _), (0, _), (1, _), (2, _)]) rfl rfl ?_
  refine qa_bn_do (pc' := 187) rfl rfl ?_
  refine qa_bn_do (pc' := 188) rfl rfl ?_
  obtain ⟨c19, hc20, h⟩ := Option.bind_eq_some_iff.mp h
  refine qa_bn_cl (N1 := 1) (N2 := 0) (N := 1) (by omega) (qa_tL_told hc20) rfl rfl rfl rfl rfl rfl rfl ?_
  rcases qa_ite h with ⟨hc21, h⟩ | ⟨hc21, h⟩
  · refine qa_bn_1t (a := 275) (b := 194) hc21 rfl rfl ?_
    exact qa_bn_mono (N := 0) (by omega) <| qa_bn_lw (qa_tL_isRoundSo_275  h) rfl rfl (And.intro rfl (And.intro rfl (And.intro rfl (trivial))))
  · refine qa_bn_1f (a := 275) (b := 194) hc21 rfl rfl ?_
    refine qa_bn_do (pc' := 195) rfl rfl ?_
    obtain ⟨⟨c23, σ26⟩, hc24, h⟩ := Option.bind_eq_some_iff.mp h
    cases c23 with
    | inl r25 =>
      try dsimp only at h
      refine qa_bn_cv (qa_tX9_bestOrder hc24) rfl rfl rfl rfl rfl rfl rfl qa_dx_0_1 ?_
      refine qa_bn_do (pc' := 200) (lv' := [(7, _), (5, _), (0, _), (1, _), (2, _)]) rfl rfl ?_
      refine qa_bn_do (pc' := 201) rfl rfl ?_
      refine qa_bn_do (pc' := 203) (lv' := [(8, _), (7, _), (5, _), (0, _), (1, _), (2, _)]) rfl rfl ?_
      exact qa_bn_mono (N := qa_gu * 0 + 0) (Nat.le_of_ble_eq_true rfl) <| qa_bn_lw (qa_tL_isRoundSo_203  _ _ _ _ _ _ _ h) rfl rfl (And.intro rfl (And.intro rfl (And.intro rfl (And.intro rfl (And.intro rfl (And.intro rfl (trivial)))))))
    | inr E27 =>
      try dsimp only at h
      cases h
set_option maxRecDepth 1000000 in
theorem qa_tL_isRoundSo_183 {L : Nat} {a2 : Int32}  {x2 : Int32} {σ : qa_T} {r : (Bool × qa_T)} (h : qa_fL_isRoundSo_183 a2 x2 σ = some r) : qa_Bn L (1) qa_mL_isRoundSo 183 [(0, .inl (0, 1)), (1, .inr (.int a2)), (2, .inr (.int x2))] [] σ (some (.inr (.int (qa_bi r.1)))) r.2 := by
  unfold qa_fL_isRoundSo_183 at h
  try dsimp only at h
  refine qa_bn_mono (N := 1) (by omega) ?_
  refine qa_bn_do (pc' := 184) rfl rfl ?_
  exact qa_bn_mono (N := 1) (by omega) <| qa_bn_lw (qa_tL_isRoundSo_184  h) rfl rfl (And.intro rfl (And.intro rfl (And.intro rfl (trivial))))
set_option maxRecDepth 1000000 in
theorem qa_tL_isRoundSo_184_1 {L : Nat} {a2 : Int32}  {x2 : Int32} {σ : qa_T} {r : (Bool × qa_T)} (h : qa_fL_isRoundSo_184_1 a2 x2 σ = some r) : qa_Bn L (1) qa_mL_isRoundSo 184 [(0, .inl (0, 1)), (1, .inr (.int a2)), (2, .inr (.int x2))] [.inr (.int (Int32.ofInt 1))] σ (some (.inr (.int (qa_bi r.1)))) r.2 := by
  unfold qa_fL_isRoundSo_184_1 at h
  try dsimp only at h
  refine qa_bn_mono (N := 1) (by omega) ?_
  refine qa_bn_do (pc' := 186) (lv' := [(5, _), (0, _), (1, _), (2, _)]) rfl rfl ?_
  refine qa_bn_do (pc' := 187) rfl rfl ?_
  refine qa_bn_do (pc' := 188) rfl rfl ?_
  obtain ⟨c61, hc62, h⟩ := Option.bind_eq_some_iff.mp h
  refine qa_bn_cl (N1 := 1) (N2 := 0) (N := 1) (by omega) (qa_tL_told hc62) rfl rfl rfl rfl rfl rfl rfl ?_
  rcases qa_ite h with ⟨hc63, h⟩ | ⟨hc63, h⟩
  · refine qa_bn_1t (a := 275) (b := 194) hc63 rfl rfl ?_
    exact qa_bn_mono (N := 0) (by omega) <| qa_bn_lw (qa_tL_isRoundSo_275  h) rfl rfl (And.intro rfl (And.intro rfl (And.intro rfl (trivial))))
  · refine qa_bn_1f (a := 275) (b := 194) hc63 rfl rfl ?_
    refine qa_bn_do (pc' := 195) rfl rfl ?_
    obtain ⟨⟨c64, σ67⟩, hc65, h⟩ := Option.bind_eq_some_iff.mp h
    cases c64 with
    | inl r66 =>
      try dsimp only at h
      refine qa_bn_cv (qa_tX9_bestOrder hc65) rfl rfl rfl rfl rfl rfl rfl qa_dx_0_1 ?_
      refine qa_bn_do (pc' := 200) (lv' := [(7, _), (5, _), (0, _), (1, _), (2, _)]) rfl rfl ?_
      refine qa_bn_do (pc' := 201) rfl rfl ?_
      refine qa_bn_do (pc' := 203) (lv' := [(8, _), (7, _), (5, _), (0, _), (1, _), (2, _)]) rfl rfl ?_
      exact qa_bn_mono (N := qa_gu * 0 + 0) (Nat.le_of_ble_eq_true rfl) <| qa_bn_lw (qa_tL_isRoundSo_203  _ _ _ _ _ _ _ h) rfl rfl (And.intro rfl (And.intro rfl (And.intro rfl (And.intro rfl (And.intro rfl (And.intro rfl (trivial)))))))
    | inr E68 =>
      try dsimp only at h
      cases h
set_option maxRecDepth 1000000 in
theorem qa_tL_isRoundSo_179 {L : Nat} {a2 : Int32}  {x2 : Int32} {σ : qa_T} {r : (Bool × qa_T)} (h : qa_fL_isRoundSo_179 a2 x2 σ = some r) : qa_Bn L (1) qa_mL_isRoundSo 179 [(0, .inl (0, 1)), (1, .inr (.int a2)), (2, .inr (.int x2))] [] σ (some (.inr (.int (qa_bi r.1)))) r.2 := by
  unfold qa_fL_isRoundSo_179 at h
  try dsimp only at h
  refine qa_bn_mono (N := 1) (by omega) ?_
  refine qa_bn_do (pc' := 180) rfl rfl ?_
  refine qa_bn_do (pc' := 184) rfl rfl ?_
  exact qa_bn_mono (N := 1) (by omega) <| qa_bn_lw (qa_tL_isRoundSo_184_1  h) rfl rfl (And.intro rfl (And.intro rfl (And.intro rfl (trivial))))
set_option maxRecDepth 1000000 in
theorem qa_tL_isRoundSo_100 {L : Nat} {a2 : Int32}  {k66 : Int32 → Int32 → Int32 → Int32 → Int32 → qa_T → Option (Bool × qa_T)} {Nh : Nat} (K66 : ∀ (x2 : Int32) (x3 : Int32) (x4 : Int32) (x5 : Int32) (x6 : Int32) (σ : qa_T) (r : (Bool × qa_T)), k66 x2 x3 x4 x5 x6 σ = some r → qa_Bn L Nh qa_mL_isRoundSo 66 [(0, .inl (0, 1)), (1, .inr (.int a2)), (2, .inr (.int x2)), (3, .inr (.int x3)), (4, .inr (.int x4)), (5, .inr (.int x5)), (6, .inr (.int x6))] [] σ (some (.inr (.int (qa_bi r.1)))) r.2) {x2 : Int32} {x3 : Int32} {x4 : Int32} {x6 : Int32} {σ : qa_T} {r : (Bool × qa_T)} (h : qa_fL_isRoundSo_100 a2 k66 x2 x3 x4 x6 σ = some r) : qa_Bn L (0 + Nh) qa_mL_isRoundSo 100 [(0, .inl (0, 1)), (1, .inr (.int a2)), (2, .inr (.int x2)), (3, .inr (.int x3)), (4, .inr (.int x4)), (6, .inr (.int x6))] [.inr (.int (Int32.ofInt 0))] σ (some (.inr (.int (qa_bi r.1)))) r.2 := by
  unfold qa_fL_isRoundSo_100 at h
  try dsimp only at h
  refine qa_bn_mono (N := 0 + Nh) (by omega) ?_
  refine qa_bn_do (pc' := 102) (lv' := [(5, _), (0, _), (1, _), (2, _), (3, _), (4, _), (6, _)]) rfl rfl ?_
  refine qa_bn_do (pc' := 105) (lv' := [(6, _), (5, _), (0, _), (1, _), (2, _), (3, _), (4, _)]) rfl rfl ?_
  refine qa_bn_do (pc' := 66) rfl rfl ?_
  exact qa_bn_mono (N := Nh) (by omega) <| qa_bn_lw (K66 _ _ _ _ _ _ _ h) rfl rfl (And.intro rfl (And.intro rfl (And.intro rfl (And.intro rfl (And.intro rfl (And.intro rfl (And.intro rfl (trivial))))))))
set_option maxRecDepth 1000000 in
theorem qa_tL_isRoundSo_99 {L : Nat} {a2 : Int32}  {k66 : Int32 → Int32 → Int32 → Int32 → Int32 → qa_T → Option (Bool × qa_T)} {Nh : Nat} (K66 : ∀ (x2 : Int32) (x3 : Int32) (x4 : Int32) (x5 : Int32) (x6 : Int32) (σ : qa_T) (r : (Bool × qa_T)), k66 x2 x3 x4 x5 x6 σ = some r → qa_Bn L Nh qa_mL_isRoundSo 66 [(0, .inl (0, 1)), (1, .inr (.int a2)), (2, .inr (.int x2)), (3, .inr (.int x3)), (4, .inr (.int x4)), (5, .inr (.int x5)), (6, .inr (.int x6))] [] σ (some (.inr (.int (qa_bi r.1)))) r.2) {x2 : Int32} {x3 : Int32} {x4 : Int32} {x6 : Int32} {σ : qa_T} {r : (Bool × qa_T)} (h : qa_fL_isRoundSo_99 a2 k66 x2 x3 x4 x6 σ = some r) : qa_Bn L (0 + Nh) qa_mL_isRoundSo 99 [(0, .inl (0, 1)), (1, .inr (.int a2)), (2, .inr (.int x2)), (3, .inr (.int x3)), (4, .inr (.int x4)), (6, .inr (.int x6))] [] σ (some (.inr (.int (qa_bi r.1)))) r.2 := by
  unfold qa_fL_isRoundSo_99 at h
  try dsimp only at h
  refine qa_bn_mono (N := 0 + Nh) (by omega) ?_
  refine qa_bn_do (pc' := 100) rfl rfl ?_
  exact qa_bn_mono (N := 0 + (Nh)) (by omega) <| qa_bn_lw (qa_tL_isRoundSo_100  K66 h) rfl rfl (And.intro rfl (And.intro rfl (And.intro rfl (And.intro rfl (And.intro rfl (And.intro rfl (trivial)))))))
set_option maxRecDepth 1000000 in
theorem qa_tL_isRoundSo_100_1 {L : Nat} {a2 : Int32}  {k66 : Int32 → Int32 → Int32 → Int32 → Int32 → qa_T → Option (Bool × qa_T)} {Nh : Nat} (K66 : ∀ (x2 : Int32) (x3 : Int32) (x4 : Int32) (x5 : Int32) (x6 : Int32) (σ : qa_T) (r : (Bool × qa_T)), k66 x2 x3 x4 x5 x6 σ = some r → qa_Bn L Nh qa_mL_isRoundSo 66 [(0, .inl (0, 1)), (1, .inr (.int a2)), (2, .inr (.int x2)), (3, .inr (.int x3)), (4, .inr (.int x4)), (5, .inr (.int x5)), (6, .inr (.int x6))] [] σ (some (.inr (.int (qa_bi r.1)))) r.2) {x2 : Int32} {x3 : Int32} {x4 : Int32} {x6 : Int32} {σ : qa_T} {r : (Bool × qa_T)} (h : qa_fL_isRoundSo_100_1 a2 k66 x2 x3 x4 x6 σ = some r) : qa_Bn L (0 + Nh) qa_mL_isRoundSo 100 [(0, .inl (0, 1)), (1, .inr (.int a2)), (2, .inr (.int x2)), (3, .inr (.int x3)), (4, .inr (.int x4)), (6, .inr (.int x6))] [.inr (.int (Int32.ofInt 1))] σ (some (.inr (.int (qa_bi r.1)))) r.2 := by
  unfold qa_fL_isRoundSo_100_1 at h
  try dsimp only at h
  refine qa_bn_mono (N := 0 + Nh) (by omega) ?_
  refine qa_bn_do (pc' := 102) (lv' := [(5, _), (0, _), (1, _), (2, _), (3, _), (4, _), (6, _)]) rfl rfl ?_
  refine qa_bn_do (pc' := 105) (lv' := [(6, _), (5, _), (0, _), (1, _), (2, _), (3, _), (4, _)]) rfl rfl ?_
  refine qa_bn_do (pc' := 66) rfl rfl ?_
  exact qa_bn_mono (N := Nh) (by omega) <| qa_bn_lw (K66 _ _ _ _ _ _ _ h) rfl rfl (And.intro rfl (And.intro rfl (And.intro rfl (And.intro rfl (And.intro rfl (And.intro rfl (And.intro rfl (trivial))))))))
set_option maxRecDepth 1000000 in
theorem qa_tL_isRoundSo_66 {L : Nat} {a2 : Int32}  : ∀ (n : Nat) (x2 : Int32) (x3 : Int32) (x4 : Int32) (x5 : Int32) (x6 : Int32) (σ : qa_T) (r : (Bool × qa_T)), qa_fL_isRoundSo_66 a2 n x2 x3 x4 x5 x6 σ = some r → qa_Bn L (n * 1 + 1) qa_mL_isRoundSo 66 [(0, .inl (0, 1)), (1, .inr (.int a2)), (2, .inr (.int x2)), (3, .inr (.int x3)), (4, .inr (.int x4)), (5, .inr (.int x5)), (6, .inr (.int x6))] [] σ (some (.inr (.int (qa_bi r.1)))) r.2 := by
  intro n
  induction n with
  | zero => intro x2 x3 x4 x5 x6 σ r h; cases h
  | succ n ih =>
    intro x2 x3 x4 x5 x6 σ r h
    unfold qa_fL_isRoundSo_66 at h
    try dsimp only at h
    refine qa_bn_mono (N := 2 + n * 1) (by omega) ?_
    refine qa_bn_do (pc' := 68) rfl rfl ?_
    refine qa_bn_do (pc' := 70) rfl rfl ?_
    rcases qa_ite h with ⟨hc16, h⟩ | ⟨hc16, h⟩
    · refine qa_bn_1t (a := 108) (b := 73) hc16 rfl rfl ?_
      refine qa_bn_do (pc' := 109) rfl rfl ?_
      refine qa_bn_cv (qa_tX9_hits rfl) rfl rfl rfl rfl rfl rfl rfl qa_dx_0_1 ?_
      refine qa_bn_do (pc' := 113) rfl rfl ?_
      refine qa_bn_cv (qa_tX9_misses rfl) rfl rfl rfl rfl rfl rfl rfl qa_dx_0_1 ?_
      refine qa_bn_do (pc' := 117) rfl rfl ?_
      refine qa_bn_do (pc' := 119) (lv' := [(6, _), (0, _), (1, _), (2, _), (3, _), (4, _), (5, _)]) rfl rfl ?_
      refine qa_bn_do (pc' := 121) rfl rfl ?_
      rcases qa_ite h with ⟨hc18, h⟩ | ⟨hc18, h⟩
      · refine qa_bn_1t (a := 183) (b := 124) hc18 rfl rfl ?_
        exact qa_bn_mono (N := 1) (by omega) <| qa_bn_lw (qa_tL_isRoundSo_183  h) rfl rfl (And.intro rfl (And.intro rfl (And.intro rfl (trivial))))
      · refine qa_bn_1f (a := 183) (b := 124) hc18 rfl rfl ?_
        refine qa_bn_do (pc' := 126) rfl rfl ?_
        rcases qa_ite h with ⟨hc52, h⟩ | ⟨hc52, h⟩
        · refine qa_bn_1t (a := 141) (b := 129) hc52 rfl rfl ?_
          refine qa_bn_do (pc' := 142) rfl rfl ?_
          obtain ⟨c53, hc54, h⟩ := Option.bind_eq_some_iff.mp h
          refine qa_bn_cv (qa_tX9_hitShare hc54) rfl rfl rfl rfl rfl rfl rfl qa_dx_0_1 ?_
          refine qa_bn_do (pc' := 147) rfl rfl ?_
          refine qa_bn_do (pc' := 148) rfl rfl ?_
          rcases qa_ite h with ⟨_, h⟩ | ⟨hc55, h⟩
          · cases h
          refine qa_bn_dm (Decidable.of_not_not hc55) rfl ?_
          refine qa_bn_do (pc' := 150) rfl rfl ?_
          refine qa_bn_cv (qa_tX9_hits rfl) rfl rfl rfl rfl rfl rfl rfl qa_dx_0_1 ?_
          refine qa_bn_do (pc' := 154) rfl rfl ?_
          refine qa_bn_do (pc' := 155) rfl rfl ?_
          refine qa_bn_do (pc' := 156) rfl rfl ?_
          refine qa_bn_do (pc' := 157) rfl rfl ?_
          rcases qa_ite h with ⟨hc56, h⟩ | ⟨hc56, h⟩
          · refine qa_bn_1t (a := 183) (b := 160) hc56 rfl rfl ?_
            exact qa_bn_mono (N := 1) (by omega) <| qa_bn_lw (qa_tL_isRoundSo_183  h) rfl rfl (And.intro rfl (And.intro rfl (And.intro rfl (trivial))))
          · refine qa_bn_1f (a := 183) (b := 160) hc56 rfl rfl ?_
            refine qa_bn_do (pc' := 161) rfl rfl ?_
            obtain ⟨c57, hc58, h⟩ := Option.bind_eq_some_iff.mp h
            refine qa_bn_cv (qa_tX9_hitShare hc58) rfl rfl rfl rfl rfl rfl rfl qa_dx_0_1 ?_
            refine qa_bn_do (pc' := 166) rfl rfl ?_
            refine qa_bn_do (pc' := 167) rfl rfl ?_
            rcases qa_ite h with ⟨_, h⟩ | ⟨hc59, h⟩
            · cases h
            refine qa_bn_dm (Decidable.of_not_not hc59) rfl ?_
            refine qa_bn_do (pc' := 169) rfl rfl ?_
            refine qa_bn_cv (qa_tX9_hits rfl) rfl rfl rfl rfl rfl rfl rfl qa_dx_0_1 ?_
            refine qa_bn_do (pc' := 173) rfl rfl ?_
            refine qa_bn_do (pc' := 174) rfl rfl ?_
            refine qa_bn_do (pc' := 175) rfl rfl ?_
            refine qa_bn_do (pc' := 176) rfl rfl ?_
            rcases qa_ite h with ⟨hc60, h⟩ | ⟨hc60, h⟩
            · refine qa_bn_1t (a := 183) (b := 179) hc60 rfl rfl ?_
              exact qa_bn_mono (N := 1) (by omega) <| qa_bn_lw (qa_tL_isRoundSo_183  h) rfl rfl (And.intro rfl (And.intro rfl (And.intro rfl (trivial))))
            · refine qa_bn_1f (a := 183) (b := 179) hc60 rfl rfl ?_
              exact qa_bn_mono (N := 1) (by omega) <| qa_bn_lw (qa_tL_isRoundSo_179  h) rfl rfl (And.intro rfl (And.intro rfl (And.intro rfl (trivial))))
        · refine qa_bn_1f (a := 141) (b := 129) hc52 rfl rfl ?_
          refine qa_bn_do (pc' := 130) rfl rfl ?_
          obtain ⟨c69, hc70, h⟩ := Option.bind_eq_some_iff.mp h
          refine qa_bn_cv (qa_tX9_hitShare hc70) rfl rfl rfl rfl rfl rfl rfl qa_dx_0_1 ?_
          refine qa_bn_do (pc' := 134) rfl rfl ?_
          refine qa_bn_do (pc' := 135) rfl rfl ?_
          rcases qa_ite h with ⟨hc71, h⟩ | ⟨hc71, h⟩
          · refine qa_bn_1t (a := 183) (b := 138) hc71 rfl rfl ?_
            exact qa_bn_mono (N := 1) (by omega) <| qa_bn_lw (qa_tL_isRoundSo_183  h) rfl rfl (And.intro rfl (And.intro rfl (And.intro rfl (trivial))))
          · refine qa_bn_1f (a := 183) (b := 138) hc71 rfl rfl ?_
            refine qa_bn_do (pc' := 179) rfl rfl ?_
            exact qa_bn_mono (N := 1) (by omega) <| qa_bn_lw (qa_tL_isRoundSo_179  h) rfl rfl (And.intro rfl (And.intro rfl (And.intro rfl (trivial))))
    · refine qa_bn_1f (a := 108) (b := 73) hc16 rfl rfl ?_
      refine qa_bn_do (pc' := 75) rfl rfl ?_
      rcases qa_ite h with ⟨hc72, h⟩ | ⟨hc72, h⟩
      · refine qa_bn_1t (a := 99) (b := 78) hc72 rfl rfl ?_
        exact qa_bn_mono (N := 0 + (n * 1 + 1)) (by omega) <| qa_bn_lw (qa_tL_isRoundSo_99  ih h) rfl rfl (And.intro rfl (And.intro rfl (And.intro rfl (And.intro rfl (And.intro rfl (And.intro rfl (trivial)))))))
      · refine qa_bn_1f (a := 99) (b := 78) hc72 rfl rfl ?_
        refine qa_bn_do (pc' := 79) rfl rfl ?_
        refine qa_bn_do (pc' := 80) rfl rfl ?_
        obtain ⟨c74, hc75, h⟩ := Option.bind_eq_some_iff.mp h
        refine qa_bn_cl (N1 := 1) (N2 := 1 + n * 1) (N := 2 + n * 1) (by omega) (qa_tL_showPlace hc75) rfl rfl rfl rfl rfl rfl rfl ?_
        refine qa_bn_do (pc' := 85) rfl rfl ?_
        refine qa_bn_do (pc' := 86) rfl rfl ?_
        refine qa_bn_do (pc' := 87) rfl rfl ?_
        rcases qa_ite h with ⟨_, h⟩ | ⟨hc76, h⟩
        · cases h
        refine qa_bn_rm hc76 rfl ?_
        obtain ⟨⟨c77, σ80⟩, hc78, h⟩ := Option.bind_eq_some_iff.mp h
        have hc78 := Option.some.inj hc78
        cases c77 with
        | inl r79 =>
          try dsimp only at h
          refine qa_bn_cv (qa_tX9_slideAt hc78) rfl rfl rfl rfl rfl rfl rfl qa_dx_0_1 ?_
          refine qa_bn_do (pc' := 92) rfl rfl ?_
          rcases qa_ite h with ⟨hc82, h⟩ | ⟨hc82, h⟩
          · refine qa_bn_1t (a := 99) (b := 95) hc82 rfl rfl ?_
            exact qa_bn_mono (N := 0 + (n * 1 + 1)) (by omega) <| qa_bn_lw (qa_tL_isRoundSo_99  ih h) rfl rfl (And.intro rfl (And.intro rfl (And.intro rfl (And.intro rfl (And.intro rfl (And.intro rfl (trivial)))))))
          · refine qa_bn_1f (a := 99) (b := 95) hc82 rfl rfl ?_
            refine qa_bn_do (pc' := 96) rfl rfl ?_
            refine qa_bn_do (pc' := 100) rfl rfl ?_
            exact qa_bn_mono (N := 0 + (n * 1 + 1)) (by omega) <| qa_bn_lw (qa_tL_isRoundSo_100_1  ih h) rfl rfl (And.intro rfl (And.intro rfl (And.intro rfl (And.intro rfl (And.intro rfl (And.intro rfl (trivial)))))))
        | inr E81 =>
          try dsimp only at h
          cases h
set_option maxRecDepth 1000000 in
theorem qa_tL_isRoundSo_61 {L : Nat} {a2 : Int32}  {x2 : Int32} {x3 : Int32} {x4 : Int32} {σ : qa_T} {r : (Bool × qa_T)} (h : qa_fL_isRoundSo_61 a2 x2 x3 x4 σ = some r) : qa_Bn L (61) qa_mL_isRoundSo 61 [(0, .inl (0, 1)), (1, .inr (.int a2)), (2, .inr (.int x2)), (3, .inr (.int x3)), (4, .inr (.int x4))] [.inr (.int (Int32.ofInt 0))] σ (some (.inr (.int (qa_bi r.1)))) r.2 := by
  unfold qa_fL_isRoundSo_61 at h
  try dsimp only at h
  refine qa_bn_mono (N := 61) (by omega) ?_
  refine qa_bn_do (pc' := 63) (lv' := [(5, _), (0, _), (1, _), (2, _), (3, _), (4, _)]) rfl rfl ?_
  refine qa_bn_do (pc' := 64) rfl rfl ?_
  refine qa_bn_do (pc' := 66) (lv' := [(6, _), (5, _), (0, _), (1, _), (2, _), (3, _), (4, _)]) rfl rfl ?_
  exact qa_bn_mono (N := qa_gu * 1 + 1) (Nat.le_of_ble_eq_true rfl) <| qa_bn_lw (qa_tL_isRoundSo_66  _ _ _ _ _ _ _ _ h) rfl rfl (And.intro rfl (And.intro rfl (And.intro rfl (And.intro rfl (And.intro rfl (And.intro rfl (And.intro rfl (trivial))))))))
set_option maxRecDepth 1000000 in
theorem qa_tL_isRoundSo_60 {L : Nat} {a2 : Int32}  {x2 : Int32} {x3 : Int32} {x4 : Int32} {σ : qa_T} {r : (Bool × qa_T)} (h : qa_fL_isRoundSo_60 a2 x2 x3 x4 σ = some r) : qa_Bn L (61) qa_mL_isRoundSo 60 [(0, .inl (0, 1)), (1, .inr (.int a2)), (2, .inr (.int x2)), (3, .inr (.int x3)), (4, .inr (.int x4))] [] σ (some (.inr (.int (qa_bi r.1)))) r.2 := by
  unfold qa_fL_isRoundSo_60 at h
  try dsimp only at h
  refine qa_bn_mono (N := 61) (by omega) ?_
  refine qa_bn_do (pc' := 61) rfl rfl ?_
  exact qa_bn_mono (N := 61) (by omega) <| qa_bn_lw (qa_tL_isRoundSo_61  h) rfl rfl (And.intro rfl (And.intro rfl (And.intro rfl (And.intro rfl (And.intro rfl (trivial))))))
set_option maxRecDepth 1000000 in
theorem qa_tL_isRoundSo_61_1 {L : Nat} {a2 : Int32}  {x2 : Int32} {x3 : Int32} {x4 : Int32} {σ : qa_T} {r : (Bool × qa_T)} (h : qa_fL_isRoundSo_61_1 a2 x2 x3 x4 σ = some r) : qa_Bn L (61) qa_mL_isRoundSo 61 [(0, .inl (0, 1)), (1, .inr (.int a2)), (2, .inr (.int x2)), (3, .inr (.int x3)), (4, .inr (.int x4))] [.inr (.int (Int32.ofInt 1))] σ (some (.inr (.int (qa_bi r.1)))) r.2 := by
  unfold qa_fL_isRoundSo_61_1 at h
  try dsimp only at h
  refine qa_bn_mono (N := 61) (by omega) ?_
  refine qa_bn_do (pc' := 63) (lv' := [(5, _), (0, _), (1, _), (2, _), (3, _), (4, _)]) rfl rfl ?_
  refine qa_bn_do (pc' := 64) rfl rfl ?_
  refine qa_bn_do (pc' := 66) (lv' := [(6, _), (5, _), (0, _), (1, _), (2, _), (3, _), (4, _)]) rfl rfl ?_
  exact qa_bn_mono (N := qa_gu * 1 + 1) (Nat.le_of_ble_eq_true rfl) <| qa_bn_lw (qa_tL_isRoundSo_66  _ _ _ _ _ _ _ _ h) rfl rfl (And.intro rfl (And.intro rfl (And.intro rfl (And.intro rfl (And.intro rfl (And.intro rfl (And.intro rfl (trivial))))))))
set_option maxRecDepth 1000000 in
theorem qa_tL_isRoundSo {L : Nat} {a2 : Int32}  {σ : qa_T} {r : (Bool × qa_T)} (h : qa_fL_isRoundSo a2 σ = some r) : qa_Bn L 62 qa_mL_isRoundSo 0 (qa_ag 0 [.inl (0, 1), .inr (.int a2)]) [] σ (some (.inr (.int (qa_bi r.1)))) r.2 := by
  unfold qa_fL_isRoundSo at h
  try dsimp only at h
  show qa_Bn L 62 qa_mL_isRoundSo 0 [(0, .inl (0, 1)), (1, .inr (.int a2))] [] σ _ _
  refine qa_bn_do (pc' := 1) rfl rfl ?_
  refine qa_bn_cv (qa_tX9_places rfl) rfl rfl rfl rfl rfl rfl rfl qa_dx_0_1 ?_
  refine qa_bn_do (pc' := 5) (lv' := [(2, _), (0, _), (1, _)]) rfl rfl ?_
  refine qa_bn_do (pc' := 6) rfl rfl ?_
  rcases qa_ite h with ⟨hc2, h⟩ | ⟨hc2, h⟩
  · refine qa_bn_1t (a := 11) (b := 9) hc2 rfl rfl ?_
    refine qa_bn_do (pc' := 12) rfl rfl ?_
    refine qa_bn_do (pc' := 13) rfl rfl ?_
    refine qa_bn_do (pc' := 14) rfl rfl ?_
    obtain ⟨c3, hc4, h⟩ := Option.bind_eq_some_iff.mp h
    refine qa_bn_cl (N1 := 0) (N2 := 62) (N := 62) (by omega) (qa_tL_low hc4) rfl rfl rfl rfl rfl rfl rfl ?_
    obtain ⟨⟨c5, σ8⟩, hc6, h⟩ := Option.bind_eq_some_iff.mp h
    have hc6 := Option.some.inj hc6
    cases c5 with
    | inl r7 =>
      try dsimp only at h
      refine qa_bn_cv (qa_tX9_slideAt hc6) rfl rfl rfl rfl rfl rfl rfl qa_dx_0_1 ?_
      refine qa_bn_do (pc' := 21) (lv' := [(3, _), (2, _), (0, _), (1, _)]) rfl rfl ?_
      refine qa_bn_do (pc' := 22) rfl rfl ?_
      refine qa_bn_do (pc' := 23) rfl rfl ?_
      obtain ⟨⟨c10, σ13⟩, hc11, h⟩ := Option.bind_eq_some_iff.mp h
      cases c10 with
      | inl r12 =>
        try dsimp only at h
        refine qa_bn_cv (qa_tX9_nextUse hc11) rfl rfl rfl rfl rfl rfl rfl qa_dx_0_1 ?_
        refine qa_bn_do (pc' := 28) (lv' := [(4, _), (3, _), (2, _), (0, _), (1, _)]) rfl rfl ?_
        refine qa_bn_do (pc' := 30) rfl rfl ?_
        rcases qa_ite h with ⟨hc15, h⟩ | ⟨hc15, h⟩
        · refine qa_bn_1t (a := 60) (b := 33) hc15 rfl rfl ?_
          exact qa_bn_mono (N := 61) (by omega) <| qa_bn_lw (qa_tL_isRoundSo_60  h) rfl rfl (And.intro rfl (And.intro rfl (And.intro rfl (And.intro rfl (And.intro rfl (trivial))))))
        · refine qa_bn_1f (a := 60) (b := 33) hc15 rfl rfl ?_
          refine qa_bn_do (pc' := 35) rfl rfl ?_
          refine qa_bn_do (pc' := 36) rfl rfl ?_
          rcases qa_ite h with ⟨hc84, h⟩ | ⟨hc84, h⟩
          · refine qa_bn_1t (a := 60) (b := 39) hc84 rfl rfl ?_
            exact qa_bn_mono (N := 61) (by omega) <| qa_bn_lw (qa_tL_isRoundSo_60  h) rfl rfl (And.intro rfl (And.intro rfl (And.intro rfl (And.intro rfl (And.intro rfl (trivial))))))
          · refine qa_bn_1f (a := 60) (b := 39) hc84 rfl rfl ?_
            refine qa_bn_do (pc' := 40) rfl rfl ?_
            refine qa_bn_do (pc' := 41) rfl rfl ?_
            obtain ⟨c85, hc86, h⟩ := Option.bind_eq_some_iff.mp h
            refine qa_bn_cl (N1 := 1) (N2 := 61) (N := 62) (by omega) (qa_tL_showPlace hc86) rfl rfl rfl rfl rfl rfl rfl ?_
            refine qa_bn_do (pc' := 46) rfl rfl ?_
            refine qa_bn_do (pc' := 47) rfl rfl ?_
            refine qa_bn_do (pc' := 48) rfl rfl ?_
            rcases qa_ite h with ⟨_, h⟩ | ⟨hc87, h⟩
            · cases h
            refine qa_bn_rm hc87 rfl ?_
            obtain ⟨⟨c88, σ91⟩, hc89, h⟩ := Option.bind_eq_some_iff.mp h
            have hc89 := Option.some.inj hc89
            cases c88 with
            | inl r90 =>
              try dsimp only at h
              refine qa_bn_cv (qa_tX9_slideAt hc89) rfl rfl rfl rfl rfl rfl rfl qa_dx_0_1 ?_
              refine qa_bn_do (pc' := 53) rfl rfl ?_
              rcases qa_ite h with ⟨hc93, h⟩ | ⟨hc93, h⟩
              · refine qa_bn_1t (a := 60) (b := 56) hc93 rfl rfl ?_
                exact qa_bn_mono (N := 61) (by omega) <| qa_bn_lw (qa_tL_isRoundSo_60  h) rfl rfl (And.intro rfl (And.intro rfl (And.intro rfl (And.intro rfl (And.intro rfl (trivial))))))
              · refine qa_bn_1f (a := 60) (b := 56) hc93 rfl rfl ?_
                refine qa_bn_do (pc' := 57) rfl rfl ?_
                refine qa_bn_do (pc' := 61) rfl rfl ?_
                exact qa_bn_mono (N := 61) (by omega) <| qa_bn_lw (qa_tL_isRoundSo_61_1  h) rfl rfl (And.intro rfl (And.intro rfl (And.intro rfl (And.intro rfl (And.intro rfl (trivial))))))
            | inr E92 =>
              try dsimp only at h
              cases h
      | inr E14 =>
        try dsimp only at h
        cases h
    | inr E9 =>
      try dsimp only at h
      cases h
  · refine qa_bn_1f (a := 11) (b := 9) hc2 rfl rfl ?_
    refine qa_bn_do (pc' := 10) rfl rfl ?_
    cases h
    exact qa_bn_rb rfl rfl rfl
noncomputable def qa_fL_law_73 (L : Nat) (σ : qa_T) : Option (Bool × qa_T) :=
    some (false, σ)
noncomputable def qa_fL_law_75 (L : Nat) (k10 : Int32 → qa_T → Option (Bool × qa_T)) (x2 : Int32) (σ : qa_T) : Option (Bool × qa_T) :=
    let v16 : Int32 := x2 + Int32.ofInt 1
    k10 v16 σ
noncomputable def qa_fL_law_10 (L : Nat) : Nat → Int32 → qa_T → Option (Bool × qa_T)
  | 0, _, _ => none
  | n + 1, x2, σ =>
    if ((Int8.ofInt 50).toInt32) ≤ x2 then
      some (true, σ)
    else
      (qa_fL_cell L x2 σ).bind fun c2 =>
      (qa_fL_cell L (x2 + ((Int8.ofInt 14).toInt32)) c2.2).bind fun c4 =>
      (qa_fL_does c2.1 c4.1 c4.2).bind fun c6 =>
      if (qa_bi c6.1) = 0 then
        qa_fL_law_73 L c6.2
      else
        (qa_fL_isMemorySo c6.2).bind fun c9 =>
        if (qa_bi c9.1) = 0 then
          qa_fL_law_73 L c9.2
        else
          (qa_fL_isAskedSo c9.2).bind fun c12 =>
          if (qa_bi c12.1) = 0 then
            qa_fL_law_73 L c12.2
          else
            if ¬ (x2 - x2 / ((Int8.ofInt 8).toInt32) * ((Int8.ofInt 8).toInt32)) = (Int32.ofInt 3) then
              qa_fL_law_75 L (qa_fL_law_10 L n) x2 c12.2
            else
              (qa_fL_isRoundSo c4.1 c12.2).bind fun c17 =>
              if ¬ (qa_bi c17.1) = 0 then
                qa_fL_law_75 L (qa_fL_law_10 L n) x2 c17.2
              else
                qa_fL_law_73 L c17.2
set_option maxRecDepth 1000000 in
theorem qa_tL_law_73 {L : Nat} (hL : L < 2147483648) {σ : qa_T} {r : (Bool × qa_T)} (h : qa_fL_law_73 L σ = some r) : qa_Bn L (0) qa_mL_law 73 [(0, .inl (0, 0)), (1, .inl (0, 1))] [] σ (some (.inr (.int (qa_bi r.1)))) r.2 := by
  unfold qa_fL_law_73 at h
  try dsimp only at h
  refine qa_bn_mono (N := 0) (by omega) ?_
  refine qa_bn_do (pc' := 74) rfl rfl ?_
  cases h
  exact qa_bn_rb rfl rfl rfl
set_option maxRecDepth 1000000 in
theorem qa_tL_law_75 {L : Nat} (hL : L < 2147483648) {k10 : Int32 → qa_T → Option (Bool × qa_T)} {Nh : Nat} (K10 : ∀ (x2 : Int32) (σ : qa_T) (r : (Bool × qa_T)), k10 x2 σ = some r → qa_Bn L Nh qa_mL_law 10 [(0, .inl (0, 0)), (1, .inl (0, 1)), (2, .inr (.int x2))] [] σ (some (.inr (.int (qa_bi r.1)))) r.2) {x2 : Int32} {σ : qa_T} {r : (Bool × qa_T)} (h : qa_fL_law_75 L k10 x2 σ = some r) : qa_Bn L (0 + Nh) qa_mL_law 75 [(0, .inl (0, 0)), (1, .inl (0, 1)), (2, .inr (.int x2))] [] σ (some (.inr (.int (qa_bi r.1)))) r.2 := by
  unfold qa_fL_law_75 at h
  try dsimp only at h
  refine qa_bn_mono (N := 0 + Nh) (by omega) ?_
  refine qa_bn_do (pc' := 78) (lv' := [(2, _), (0, _), (1, _)]) rfl rfl ?_
  refine qa_bn_do (pc' := 10) rfl rfl ?_
  exact qa_bn_mono (N := Nh) (by omega) <| qa_bn_lw (K10 _ _ _ h) rfl rfl (And.intro rfl (And.intro rfl (And.intro rfl (trivial))))
set_option maxRecDepth 1000000 in
theorem qa_tL_law_10 {L : Nat} (hL : L < 2147483648) : ∀ (n : Nat) (x2 : Int32) (σ : qa_T) (r : (Bool × qa_T)), qa_fL_law_10 L n x2 σ = some r → qa_Bn L (n * 618 + 618) qa_mL_law 10 [(0, .inl (0, 0)), (1, .inl (0, 1)), (2, .inr (.int x2))] [] σ (some (.inr (.int (qa_bi r.1)))) r.2 := by
  intro n
  induction n with
  | zero => intro x2 σ r h; cases h
  | succ n ih =>
    intro x2 σ r h
    unfold qa_fL_law_10 at h
    try dsimp only at h
    refine qa_bn_mono (N := 1236 + n * 618) (by omega) ?_
    refine qa_bn_do (pc' := 11) rfl rfl ?_
    refine qa_bn_do (pc' := 13) rfl rfl ?_
    rcases qa_ite h with ⟨hc1, h⟩ | ⟨hc1, h⟩
    · refine qa_bn_1t (a := 81) (b := 16) hc1 rfl rfl ?_
      refine qa_bn_do (pc' := 82) rfl rfl ?_
      cases h
      exact qa_bn_rb rfl rfl rfl
    · refine qa_bn_1f (a := 81) (b := 16) hc1 rfl rfl ?_
      refine qa_bn_do (pc' := 17) rfl rfl ?_
      refine qa_bn_do (pc' := 18) rfl rfl ?_
      obtain ⟨c2, hc3, h⟩ := Option.bind_eq_some_iff.mp h
      refine qa_bn_cl (N1 := 0) (N2 := 1236 + n * 618) (N := 1236 + n * 618) (by omega) (qa_tL_cell hL hc3) rfl rfl rfl rfl rfl rfl rfl ?_
      refine qa_bn_do (pc' := 22) (lv' := [(3, _), (0, _), (1, _), (2, _)]) rfl rfl ?_
      refine qa_bn_do (pc' := 23) rfl rfl ?_
      refine qa_bn_do (pc' := 24) rfl rfl ?_
      refine qa_bn_do (pc' := 26) rfl rfl ?_
      refine qa_bn_do (pc' := 27) rfl rfl ?_
      obtain ⟨c4, hc5, h⟩ := Option.bind_eq_some_iff.mp h
      refine qa_bn_cl (N1 := 0) (N2 := 1236 + n * 618) (N := 1236 + n * 618) (by omega) (qa_tL_cell hL hc5) rfl rfl rfl rfl rfl rfl rfl ?_
      refine qa_bn_do (pc' := 32) (lv' := [(4, _), (3, _), (0, _), (1, _), (2, _)]) rfl rfl ?_
      refine qa_bn_do (pc' := 33) rfl rfl ?_
      refine qa_bn_do (pc' := 34) rfl rfl ?_
      refine qa_bn_do (pc' := 36) rfl rfl ?_
      obtain ⟨c6, hc7, h⟩ := Option.bind_eq_some_iff.mp h
      refine qa_bn_cl (N1 := 6) (N2 := 1230 + n * 618) (N := 1236 + n * 618) (by omega) (qa_tL_does hc7) rfl rfl rfl rfl rfl rfl rfl ?_
      rcases qa_ite h with ⟨hc8, h⟩ | ⟨hc8, h⟩
      · refine qa_bn_1t (a := 73) (b := 42) hc8 rfl rfl ?_
        exact qa_bn_mono (N := 0) (by omega) <| qa_bn_lw (qa_tL_law_73 hL h) rfl rfl (And.intro rfl (And.intro rfl (trivial)))
      · refine qa_bn_1f (a := 73) (b := 42) hc8 rfl rfl ?_
        refine qa_bn_do (pc' := 43) rfl rfl ?_
        obtain ⟨c9, hc10, h⟩ := Option.bind_eq_some_iff.mp h
        refine qa_bn_cl (N1 := 427) (N2 := 803 + n * 618) (N := 1230 + n * 618) (by omega) (qa_tL_isMemorySo hc10) rfl rfl rfl rfl rfl rfl rfl ?_
        rcases qa_ite h with ⟨hc11, h⟩ | ⟨hc11, h⟩
        · refine qa_bn_1t (a := 73) (b := 49) hc11 rfl rfl ?_
          exact qa_bn_mono (N := 0) (by omega) <| qa_bn_lw (qa_tL_law_73 hL h) rfl rfl (And.intro rfl (And.intro rfl (trivial)))
        · refine qa_bn_1f (a := 73) (b := 49) hc11 rfl rfl ?_
          refine qa_bn_do (pc' := 50) rfl rfl ?_
          obtain ⟨c12, hc13, h⟩ := Option.bind_eq_some_iff.mp h
          refine qa_bn_cl (N1 := 123) (N2 := 680 + n * 618) (N := 803 + n * 618) (by omega) (qa_tL_isAskedSo hc13) rfl rfl rfl rfl rfl rfl rfl ?_
          rcases qa_ite h with ⟨hc14, h⟩ | ⟨hc14, h⟩
          · refine qa_bn_1t (a := 73) (b := 56) hc14 rfl rfl ?_
            exact qa_bn_mono (N := 0) (by omega) <| qa_bn_lw (qa_tL_law_73 hL h) rfl rfl (And.intro rfl (And.intro rfl (trivial)))
          · refine qa_bn_1f (a := 73) (b := 56) hc14 rfl rfl ?_
            refine qa_bn_do (pc' := 57) rfl rfl ?_
            refine qa_bn_do (pc' := 59) rfl rfl ?_
            refine qa_bn_rm (by decide) rfl ?_
            refine qa_bn_do (pc' := 61) rfl rfl ?_
            rcases qa_ite h with ⟨hc15, h⟩ | ⟨hc15, h⟩
            · refine qa_bn_1t (a := 75) (b := 64) hc15 rfl rfl ?_
              exact qa_bn_mono (N := 0 + (n * 618 + 618)) (by omega) <| qa_bn_lw (qa_tL_law_75 hL ih h) rfl rfl (And.intro rfl (And.intro rfl (And.intro rfl (trivial))))
            · refine qa_bn_1f (a := 75) (b := 64) hc15 rfl rfl ?_
              refine qa_bn_do (pc' := 65) rfl rfl ?_
              refine qa_bn_do (pc' := 67) rfl rfl ?_
              obtain ⟨c17, hc18, h⟩ := Option.bind_eq_some_iff.mp h
              refine qa_bn_cl (N1 := 62) (N2 := 618 + n * 618) (N := 680 + n * 618) (by omega) (qa_tL_isRoundSo hc18) rfl rfl rfl rfl rfl rfl rfl ?_
              rcases qa_ite h with ⟨hc19, h⟩ | ⟨hc19, h⟩
              · refine qa_bn_1t (a := 75) (b := 73) hc19 rfl rfl ?_
                exact qa_bn_mono (N := 0 + (n * 618 + 618)) (by omega) <| qa_bn_lw (qa_tL_law_75 hL ih h) rfl rfl (And.intro rfl (And.intro rfl (And.intro rfl (trivial))))
              · refine qa_bn_1f (a := 75) (b := 73) hc19 rfl rfl ?_
                exact qa_bn_mono (N := 0) (by omega) <| qa_bn_lw (qa_tL_law_73 hL h) rfl rfl (And.intro rfl (And.intro rfl (trivial)))
end QL33
