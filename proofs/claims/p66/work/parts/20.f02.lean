/-! the methods as functions (written by wip/tools/gen.py) -/
noncomputable def qa_fX3_slideAhead_44 (R : Nat) (a1 : Int32) (y0 : Int32) (σ : qa_T) : Option Int32 :=
    some y0
noncomputable def qa_fX3_slideAhead_43 (R : Nat) (a1 : Int32) (σ : qa_T) : Option Int32 :=
    qa_fX3_slideAhead_44 R a1 (Int32.ofInt (-1)) σ
noncomputable def qa_fX3_slideAhead (R : Nat) (a1 : Int32) (σ : qa_T) : Option Int32 :=
    if 0 < (σ.1 (R, 9) 0) then
      if (σ.1 (R, 9) 0) = 0 then none else
      let v3 : Int32 := (((σ.1 (R, 9) 1) + a1) - ((σ.1 (R, 9) 1) + a1) / (σ.1 (R, 9) 0) * (σ.1 (R, 9) 0))
      if v3 < 0 then
        qa_fX3_slideAhead_43 R a1 σ
      else
        if Int32.ofNat 24 ≤ v3 then
          qa_fX3_slideAhead_43 R a1 σ
        else
          qa_fX3_slideAhead_44 R a1 (σ.1 (R, 10) (v3).toNatClampNeg) σ
    else
      some (Int32.ofInt (-1))
set_option maxRecDepth 100000 in
theorem qa_tX3_slideAhead_44 {L : Nat} {R : Nat} {a1 : Int32} (hR : qa_rg R) {y0 : Int32} {σ : qa_T} {r : Int32} (h : qa_fX3_slideAhead_44 R a1 y0 σ = some r) : qa_Bk (qa_ds L) qa_mX3_slideAhead 44 [(0, .inl (R, 9)), (1, .inr (.int a1))] [.inr (.int y0)] σ (.inl (some (.inr (.int r)))) σ := by
  unfold qa_fX3_slideAhead_44 at h
  try dsimp only at h
  cases h
  exact qa_bk_ri rfl rfl
set_option maxRecDepth 100000 in
theorem qa_tX3_slideAhead_43 {L : Nat} {R : Nat} {a1 : Int32} (hR : qa_rg R) {σ : qa_T} {r : Int32} (h : qa_fX3_slideAhead_43 R a1 σ = some r) : qa_Bk (qa_ds L) qa_mX3_slideAhead 43 [(0, .inl (R, 9)), (1, .inr (.int a1))] [] σ (.inl (some (.inr (.int r)))) σ := by
  unfold qa_fX3_slideAhead_43 at h
  try dsimp only at h
  refine qa_bk_do (pc' := 44) rfl rfl ?_
  exact qa_bk_lw (qa_tX3_slideAhead_44 hR h) rfl rfl (And.intro rfl (And.intro rfl (trivial)))
set_option maxRecDepth 100000 in
theorem qa_tX3_slideAhead {L : Nat} {R : Nat} {a1 : Int32} (hR : qa_rg R) {σ : qa_T} {r : Int32} (h : qa_fX3_slideAhead R a1 σ = some r) : qa_Bk (qa_ds L) qa_mX3_slideAhead 0 (qa_ag 0 [.inl (R, 9), .inr (.int a1)]) [] σ (.inl (some (.inr (.int r)))) σ := by
  unfold qa_fX3_slideAhead at h
  try dsimp only at h
  show qa_Bk (qa_ds L) qa_mX3_slideAhead 0 [(0, .inl (R, 9)), (1, .inr (.int a1))] [] σ _ _
  refine qa_bk_do (pc' := 1) rfl rfl ?_
  refine qa_bk_gi rfl rfl (qa_ds9 hR) rfl ?_
  rcases qa_ite h with ⟨hc1, h⟩ | ⟨hc1, h⟩
  · refine qa_bk_1t (a := 9) (b := 7) hc1 rfl rfl ?_
    refine qa_bk_do (pc' := 10) rfl rfl ?_
    refine qa_bk_gi rfl rfl (qa_ds9 hR) rfl ?_
    refine qa_bk_do (pc' := 14) rfl rfl ?_
    refine qa_bk_do (pc' := 15) rfl rfl ?_
    refine qa_bk_do (pc' := 16) rfl rfl ?_
    refine qa_bk_gi rfl rfl (qa_ds9 hR) rfl ?_
    rcases qa_ite h with ⟨_, h⟩ | ⟨hc2, h⟩
    · cases h
    refine qa_bk_rm hc2 rfl ?_
    refine qa_bk_do (pc' := 21) (lv' := [(2, _), (0, _), (1, _)]) rfl rfl ?_
    refine qa_bk_do (pc' := 22) rfl rfl ?_
    rcases qa_ite h with ⟨hc4, h⟩ | ⟨hc4, h⟩
    · refine qa_bk_1t (a := 43) (b := 25) hc4 rfl rfl ?_
      exact qa_bk_lw (qa_tX3_slideAhead_43 hR h) rfl rfl (And.intro rfl (And.intro rfl (trivial)))
    · refine qa_bk_1f (a := 43) (b := 25) hc4 rfl rfl ?_
      refine qa_bk_do (pc' := 26) rfl rfl ?_
      refine qa_bk_do (pc' := 27) rfl rfl ?_
      refine qa_bk_gr rfl rfl (qa_ds9 hR) rfl ?_
      refine qa_bk_al rfl (qa_ds10 hR) (Or.inl (by decide)) ?_
      rcases qa_ite h with ⟨hc5, h⟩ | ⟨hc5, h⟩
      · refine qa_bk_1t (a := 43) (b := 34) hc5 rfl rfl ?_
        exact qa_bk_lw (qa_tX3_slideAhead_43 hR h) rfl rfl (And.intro rfl (And.intro rfl (trivial)))
      · refine qa_bk_1f (a := 43) (b := 34) hc5 rfl rfl ?_
        refine qa_bk_do (pc' := 35) rfl rfl ?_
        refine qa_bk_gr rfl rfl (qa_ds9 hR) rfl ?_
        refine qa_bk_do (pc' := 39) rfl rfl ?_
        refine qa_bk_ia rfl (qa_ds10 hR) (Or.inl rfl) (qa_in_g hc4 hc5 (Nat.le_of_ble_eq_true rfl)) ?_
        refine qa_bk_do (pc' := 44) rfl rfl ?_
        exact qa_bk_lw (qa_tX3_slideAhead_44 hR h) rfl rfl (And.intro rfl (And.intro rfl (trivial)))
  · refine qa_bk_1f (a := 9) (b := 7) hc1 rfl rfl ?_
    refine qa_bk_do (pc' := 8) rfl rfl ?_
    cases h
    exact qa_bk_ri rfl rfl
noncomputable def qa_fX1_nextInGoodTime_73 (R : Nat) (k2 : Int32 → qa_T → Option Int32) (x1 : Int32) (σ : qa_T) : Option Int32 :=
    let v5 : Int32 := x1 + Int32.ofInt 1
    k2 v5 σ
noncomputable def qa_fX1_nextInGoodTime_72 (R : Nat) (y0 : Int32) (σ : qa_T) : Option Int32 :=
    some y0
noncomputable def qa_fX1_nextInGoodTime_2 (R : Nat) : Nat → Int32 → qa_T → Option Int32
  | 0, _, _ => none
  | n + 1, x1, σ =>
    if (σ.1 (R, 14) 1) < x1 then
      some (Int32.ofInt (-1))
    else
      (qa_fX3_slideAhead R x1 σ).bind fun c2 =>
      if c2 = (Int32.ofInt (-1)) then
        qa_fX1_nextInGoodTime_73 R (qa_fX1_nextInGoodTime_2 R n) x1 σ
      else
        if ¬ (qa_bi (qa_fX6_isReady R c2 σ)) = 0 then
          qa_fX1_nextInGoodTime_73 R (qa_fX1_nextInGoodTime_2 R n) x1 σ
        else
          if (σ.1 (R, 14) 0) < ((σ.1 (R, 12) 4) + (qa_fX9_at (R, 2) 16 c2 σ)) then
            qa_fX1_nextInGoodTime_72 R (Int32.ofInt (-1)) σ
          else
            qa_fX1_nextInGoodTime_72 R c2 σ
noncomputable def qa_fX1_nextInGoodTime (R : Nat) (σ : qa_T) : Option Int32 :=
    qa_fX1_nextInGoodTime_2 R qa_fu (Int32.ofInt 1) σ
set_option maxRecDepth 100000 in
theorem qa_tX1_nextInGoodTime_73 {L : Nat} {R : Nat} (hR : qa_rg R) {k2 : Int32 → qa_T → Option Int32} (K2 : ∀ (x1 : Int32) (σ : qa_T) (r : Int32), k2 x1 σ = some r → qa_Bk (qa_ds L) qa_mX1_nextInGoodTime 2 [(0, .inl (R, 0)), (1, .inr (.int x1))] [] σ (.inl (some (.inr (.int r)))) σ) {x1 : Int32} {σ : qa_T} {r : Int32} (h : qa_fX1_nextInGoodTime_73 R k2 x1 σ = some r) : qa_Bk (qa_ds L) qa_mX1_nextInGoodTime 73 [(0, .inl (R, 0)), (1, .inr (.int x1))] [] σ (.inl (some (.inr (.int r)))) σ := by
  unfold qa_fX1_nextInGoodTime_73 at h
  try dsimp only at h
  refine qa_bk_do (pc' := 76) (lv' := [(1, _), (0, _)]) rfl rfl ?_
  refine qa_bk_do (pc' := 2) rfl rfl ?_
  exact qa_bk_lw (K2 _ _ _ h) rfl rfl (And.intro rfl (And.intro rfl (trivial)))
set_option maxRecDepth 100000 in
theorem qa_tX1_nextInGoodTime_72 {L : Nat} {R : Nat} (hR : qa_rg R) {y0 : Int32} {σ : qa_T} {r : Int32} (h : qa_fX1_nextInGoodTime_72 R y0 σ = some r) : qa_Bk (qa_ds L) qa_mX1_nextInGoodTime 72 [(0, .inl (R, 0))] [.inr (.int y0)] σ (.inl (some (.inr (.int r)))) σ := by
  unfold qa_fX1_nextInGoodTime_72 at h
  try dsimp only at h
  cases h
  exact qa_bk_ri rfl rfl
set_option maxRecDepth 100000 in
theorem qa_tX1_nextInGoodTime_2 {L : Nat} {R : Nat} (hR : qa_rg R) : ∀ (n : Nat) (x1 : Int32) (σ : qa_T) (r : Int32), qa_fX1_nextInGoodTime_2 R n x1 σ = some r → qa_Bk (qa_ds L) qa_mX1_nextInGoodTime 2 [(0, .inl (R, 0)), (1, .inr (.int x1))] [] σ (.inl (some (.inr (.int r)))) σ := by
  intro n
  induction n with
  | zero => intro x1 σ r h; cases h
  | succ n ih =>
    intro x1 σ r h
    unfold qa_fX1_nextInGoodTime_2 at h
    try dsimp only at h
    refine qa_bk_do (pc' := 3) rfl rfl ?_
    refine qa_bk_do (pc' := 4) rfl rfl ?_
    refine qa_bk_gr rfl rfl (qa_ds0 hR) rfl ?_
    refine qa_bk_gi rfl rfl (qa_ds14 hR) rfl ?_
    rcases qa_ite h with ⟨hc1, h⟩ | ⟨hc1, h⟩
    · refine qa_bk_1t (a := 79) (b := 13) hc1 rfl rfl ?_
      refine qa_bk_do (pc' := 80) rfl rfl ?_
      cases h
      exact qa_bk_ri rfl rfl
    · refine qa_bk_1f (a := 79) (b := 13) hc1 rfl rfl ?_
      refine qa_bk_do (pc' := 14) rfl rfl ?_
      refine qa_bk_gr rfl rfl (qa_ds0 hR) rfl ?_
      refine qa_bk_do (pc' := 18) rfl rfl ?_
      obtain ⟨c2, hc3, h⟩ := Option.bind_eq_some_iff.mp h
      refine qa_bk_cv (qa_tX3_slideAhead hR hc3) rfl rfl rfl rfl rfl rfl rfl (qa_ds9 hR) ?_
      refine qa_bk_do (pc' := 22) (lv' := [(2, _), (0, _), (1, _)]) rfl rfl ?_
      refine qa_bk_do (pc' := 23) rfl rfl ?_
      refine qa_bk_do (pc' := 24) rfl rfl ?_
      rcases qa_ite h with ⟨hc4, h⟩ | ⟨hc4, h⟩
      · refine qa_bk_1t (a := 73) (b := 27) hc4 rfl rfl ?_
        exact qa_bk_lw (qa_tX1_nextInGoodTime_73 hR ih h) rfl rfl (And.intro rfl (And.intro rfl (trivial)))
      · refine qa_bk_1f (a := 73) (b := 27) hc4 rfl rfl ?_
        refine qa_bk_do (pc' := 28) rfl rfl ?_
        refine qa_bk_gr rfl rfl (qa_ds0 hR) rfl ?_
        refine qa_bk_do (pc' := 32) rfl rfl ?_
        refine qa_bk_cv (qa_tX6_isReady hR rfl) rfl rfl rfl rfl rfl rfl rfl (qa_ds1 hR) ?_
        rcases qa_ite h with ⟨hc6, h⟩ | ⟨hc6, h⟩
        · refine qa_bk_1t (a := 73) (b := 38) hc6 rfl rfl ?_
          exact qa_bk_lw (qa_tX1_nextInGoodTime_73 hR ih h) rfl rfl (And.intro rfl (And.intro rfl (trivial)))
        · refine qa_bk_1f (a := 73) (b := 38) hc6 rfl rfl ?_
          refine qa_bk_do (pc' := 39) rfl rfl ?_
          refine qa_bk_gr rfl rfl (qa_ds0 hR) rfl ?_
          refine qa_bk_gi rfl rfl (qa_ds12 hR) rfl ?_
          refine qa_bk_do (pc' := 46) rfl rfl ?_
          refine qa_bk_gr rfl rfl (qa_ds0 hR) rfl ?_
          refine qa_bk_gr rfl rfl (qa_ds1 hR) rfl ?_
          refine qa_bk_do (pc' := 53) rfl rfl ?_
          refine qa_bk_cs (qa_tX9_at (qa_ds2 hR) (Nat.le_of_ble_eq_true rfl) rfl) rfl rfl rfl rfl rfl rfl rfl ?_
          refine qa_bk_do (pc' := 57) rfl rfl ?_
          refine qa_bk_do (pc' := 58) rfl rfl ?_
          refine qa_bk_gr rfl rfl (qa_ds0 hR) rfl ?_
          refine qa_bk_gi rfl rfl (qa_ds14 hR) rfl ?_
          rcases qa_ite h with ⟨hc7, h⟩ | ⟨hc7, h⟩
          · refine qa_bk_1t (a := 71) (b := 67) hc7 rfl rfl ?_
            refine qa_bk_do (pc' := 72) rfl rfl ?_
            exact qa_bk_lw (qa_tX1_nextInGoodTime_72 hR h) rfl rfl (And.intro rfl (trivial))
          · refine qa_bk_1f (a := 71) (b := 67) hc7 rfl rfl ?_
            refine qa_bk_do (pc' := 68) rfl rfl ?_
            refine qa_bk_do (pc' := 72) rfl rfl ?_
            exact qa_bk_lw (qa_tX1_nextInGoodTime_72 hR h) rfl rfl (And.intro rfl (trivial))
set_option maxRecDepth 100000 in
theorem qa_tX1_nextInGoodTime {L : Nat} {R : Nat} (hR : qa_rg R) {σ : qa_T} {r : Int32} (h : qa_fX1_nextInGoodTime R σ = some r) : qa_Bk (qa_ds L) qa_mX1_nextInGoodTime 0 (qa_ag 0 [.inl (R, 0)]) [] σ (.inl (some (.inr (.int r)))) σ := by
  unfold qa_fX1_nextInGoodTime at h
  try dsimp only at h
  show qa_Bk (qa_ds L) qa_mX1_nextInGoodTime 0 [(0, .inl (R, 0))] [] σ _ _
  refine qa_bk_do (pc' := 1) rfl rfl ?_
  refine qa_bk_do (pc' := 2) (lv' := [(1, _), (0, _)]) rfl rfl ?_
  exact qa_bk_lw (qa_tX1_nextInGoodTime_2 hR _ _ _ _ h) rfl rfl (And.intro rfl (And.intro rfl (trivial)))
noncomputable def qa_fX1_nextToLoad (R : Nat) (σ : qa_T) : Option (Int32 × qa_T) :=
    if (σ.1 (R, 11) 4) = (Int32.ofInt (-1)) then
      if (σ.1 (R, 12) 2) ≤ 0 then
        (qa_fX1_nextInGoodTime R σ).bind fun c3 =>
        some (c3, σ)
      else
        let v5 : Int32 := (qa_fX9_at (R, 13) 16 (Int32.ofInt 0) σ)
        (qa_fX2_unqueue R (Int32.ofInt 0) σ).bind fun c6 =>
        some (v5, c6)
    else
      some ((σ.1 (R, 11) 4), σ)
set_option maxRecDepth 100000 in
theorem qa_tX1_nextToLoad {L : Nat} {R : Nat} (hR : qa_rg R) {σ : qa_T} {r : (Int32 × qa_T)} (h : qa_fX1_nextToLoad R σ = some r) : qa_Bk (qa_ds L) qa_mX1_nextToLoad 0 (qa_ag 0 [.inl (R, 0)]) [] σ (.inl (some (.inr (.int r.1)))) r.2 := by
  unfold qa_fX1_nextToLoad at h
  try dsimp only at h
  show qa_Bk (qa_ds L) qa_mX1_nextToLoad 0 [(0, .inl (R, 0))] [] σ _ _
  refine qa_bk_do (pc' := 1) rfl rfl ?_
  refine qa_bk_gr rfl rfl (qa_ds0 hR) rfl ?_
  refine qa_bk_gi rfl rfl (qa_ds11 hR) rfl ?_
  refine qa_bk_do (pc' := 8) rfl rfl ?_
  rcases qa_ite h with ⟨hc1, h⟩ | ⟨hc1, h⟩
  · refine qa_bk_1t (a := 19) (b := 11) hc1 rfl rfl ?_
    refine qa_bk_do (pc' := 20) rfl rfl ?_
    refine qa_bk_gr rfl rfl (qa_ds0 hR) rfl ?_
    refine qa_bk_gi rfl rfl (qa_ds12 hR) rfl ?_
    rcases qa_ite h with ⟨hc2, h⟩ | ⟨hc2, h⟩
    · refine qa_bk_1t (a := 51) (b := 29) hc2 rfl rfl ?_
      refine qa_bk_do (pc' := 52) rfl rfl ?_
      obtain ⟨c3, hc4, h⟩ := Option.bind_eq_some_iff.mp h
      refine qa_bk_cv (qa_tX1_nextInGoodTime hR hc4) rfl rfl rfl rfl rfl rfl rfl (qa_ds0 hR) ?_
      cases h
      exact qa_bk_ri rfl rfl
    · refine qa_bk_1f (a := 51) (b := 29) hc2 rfl rfl ?_
      refine qa_bk_do (pc' := 30) rfl rfl ?_
      refine qa_bk_gr rfl rfl (qa_ds0 hR) rfl ?_
      refine qa_bk_gr rfl rfl (qa_ds12 hR) rfl ?_
      refine qa_bk_do (pc' := 37) rfl rfl ?_
      refine qa_bk_cs (qa_tX9_at (qa_ds13 hR) (Nat.le_of_ble_eq_true rfl) rfl) rfl rfl rfl rfl rfl rfl rfl ?_
      refine qa_bk_do (pc' := 41) (lv' := [(1, _), (0, _)]) rfl rfl ?_
      refine qa_bk_do (pc' := 42) rfl rfl ?_
      refine qa_bk_gr rfl rfl (qa_ds0 hR) rfl ?_
      refine qa_bk_do (pc' := 46) rfl rfl ?_
      obtain ⟨c6, hc7, h⟩ := Option.bind_eq_some_iff.mp h
      refine qa_bk_cv (qa_tX2_unqueue hR hc7) rfl rfl rfl rfl rfl rfl rfl (qa_ds12 hR) ?_
      refine qa_bk_do (pc' := 50) rfl rfl ?_
      cases h
      exact qa_bk_ri rfl rfl
  · refine qa_bk_1f (a := 19) (b := 11) hc1 rfl rfl ?_
    refine qa_bk_do (pc' := 12) rfl rfl ?_
    refine qa_bk_gr rfl rfl (qa_ds0 hR) rfl ?_
    refine qa_bk_gi rfl rfl (qa_ds11 hR) rfl ?_
    cases h
    exact qa_bk_ri rfl rfl
noncomputable def qa_fX1_weighByNextUse_37 (R : Nat) : Nat → Int32 → qa_T → Option qa_T
  | 0, _, _ => none
  | n + 1, x1, σ =>
    if x1 ≤ 0 then
      some σ
    else
      (qa_fX3_slideAhead R x1 σ).bind fun c4 =>
      let σ6 := qa_fX9_set (R, 16) 16 c4 x1 σ
      let v7 : Int32 := x1 + Int32.ofInt (-1)
      qa_fX1_weighByNextUse_37 R n v7 σ6
noncomputable def qa_fX1_weighByNextUse_2 (R : Nat) : Nat → Int32 → qa_T → Option qa_T
  | 0, _, _ => none
  | n + 1, x1, σ =>
    if (σ.1 (R, 1) 0) ≤ x1 then
      let v2 : Int32 := (σ.1 (R, 9) 0)
      qa_fX1_weighByNextUse_37 R qa_fu v2 σ
    else
      let σ8 := qa_fX9_set (R, 16) 16 x1 ((Int8.ofInt 25).toInt32) σ
      let v9 : Int32 := x1 + Int32.ofInt 1
      qa_fX1_weighByNextUse_2 R n v9 σ8
noncomputable def qa_fX1_weighByNextUse (R : Nat) (σ : qa_T) : Option qa_T :=
    qa_fX1_weighByNextUse_2 R qa_fu (Int32.ofInt 0) σ
set_option maxRecDepth 100000 in
theorem qa_tX1_weighByNextUse_37 {L : Nat} {R : Nat} (hR : qa_rg R) : ∀ (n : Nat) (x1 : Int32) (σ : qa_T) (r : qa_T), qa_fX1_weighByNextUse_37 R n x1 σ = some r → qa_Bk (qa_ds L) qa_mX1_weighByNextUse 37 [(0, .inl (R, 0)), (1, .inr (.int x1))] [] σ (.inl none) r := by
  intro n
  induction n with
  | zero => intro x1 σ r h; cases h
  | succ n ih =>
    intro x1 σ r h
    unfold qa_fX1_weighByNextUse_37 at h
    try dsimp only at h
    refine qa_bk_do (pc' := 38) rfl rfl ?_
    rcases qa_ite h with ⟨hc3, h⟩ | ⟨hc3, h⟩
    · refine qa_bk_1t (a := 63) (b := 41) hc3 rfl rfl ?_
      cases h
      exact qa_bk_re rfl rfl rfl
    · refine qa_bk_1f (a := 63) (b := 41) hc3 rfl rfl ?_
      refine qa_bk_do (pc' := 42) rfl rfl ?_
      refine qa_bk_gr rfl rfl (qa_ds0 hR) rfl ?_
      refine qa_bk_do (pc' := 46) rfl rfl ?_
      refine qa_bk_gr rfl rfl (qa_ds0 hR) rfl ?_
      refine qa_bk_do (pc' := 50) rfl rfl ?_
      obtain ⟨c4, hc5, h⟩ := Option.bind_eq_some_iff.mp h
      refine qa_bk_cv (qa_tX3_slideAhead hR hc5) rfl rfl rfl rfl rfl rfl rfl (qa_ds9 hR) ?_
      refine qa_bk_do (pc' := 54) rfl rfl ?_
      refine qa_bk_cs (qa_tX9_set (qa_ds16 hR) (Nat.le_of_ble_eq_true rfl) rfl) rfl rfl rfl rfl rfl rfl rfl ?_
      refine qa_bk_do (pc' := 60) (lv' := [(1, _), (0, _)]) rfl rfl ?_
      refine qa_bk_do (pc' := 37) rfl rfl ?_
      exact qa_bk_lw (ih _ _ _ h) rfl rfl (And.intro rfl (And.intro rfl (trivial)))
set_option maxRecDepth 100000 in
theorem qa_tX1_weighByNextUse_2 {L : Nat} {R : Nat} (hR : qa_rg R) : ∀ (n : Nat) (x1 : Int32) (σ : qa_T) (r : qa_T), qa_fX1_weighByNextUse_2 R n x1 σ = some r → qa_Bk (qa_ds L) qa_mX1_weighByNextUse 2 [(0, .inl (R, 0)), (1, .inr (.int x1))] [] σ (.inl none) r := by
  intro n
  induction n with
  | zero => intro x1 σ r h; cases h
  | succ n ih =>
    intro x1 σ r h
    unfold qa_fX1_weighByNextUse_2 at h
    try dsimp only at h
    refine qa_bk_do (pc' := 3) rfl rfl ?_
    refine qa_bk_do (pc' := 4) rfl rfl ?_
    refine qa_bk_gr rfl rfl (qa_ds0 hR) rfl ?_
    refine qa_bk_gi rfl rfl (qa_ds1 hR) rfl ?_
    rcases qa_ite h with ⟨hc1, h⟩ | ⟨hc1, h⟩
    · refine qa_bk_1t (a := 29) (b := 13) hc1 rfl rfl ?_
      refine qa_bk_do (pc' := 30) rfl rfl ?_
      refine qa_bk_gr rfl rfl (qa_ds0 hR) rfl ?_
      refine qa_bk_gi rfl rfl (qa_ds9 hR) rfl ?_
      refine qa_bk_do (pc' := 37) (lv' := [(1, _), (0, _)]) rfl rfl ?_
      exact qa_bk_lw (qa_tX1_weighByNextUse_37 hR _ _ _ _ h) rfl rfl (And.intro rfl (And.intro rfl (trivial)))
    · refine qa_bk_1f (a := 29) (b := 13) hc1 rfl rfl ?_
      refine qa_bk_do (pc' := 14) rfl rfl ?_
      refine qa_bk_gr rfl rfl (qa_ds0 hR) rfl ?_
      refine qa_bk_do (pc' := 18) rfl rfl ?_
      refine qa_bk_do (pc' := 20) rfl rfl ?_
      refine qa_bk_cs (qa_tX9_set (qa_ds16 hR) (Nat.le_of_ble_eq_true rfl) rfl) rfl rfl rfl rfl rfl rfl rfl ?_
      refine qa_bk_do (pc' := 26) (lv' := [(1, _), (0, _)]) rfl rfl ?_
      refine qa_bk_do (pc' := 2) rfl rfl ?_
      exact qa_bk_lw (ih _ _ _ h) rfl rfl (And.intro rfl (And.intro rfl (trivial)))
set_option maxRecDepth 100000 in
theorem qa_tX1_weighByNextUse {L : Nat} {R : Nat} (hR : qa_rg R) {σ : qa_T} {r : qa_T} (h : qa_fX1_weighByNextUse R σ = some r) : qa_Bk (qa_ds L) qa_mX1_weighByNextUse 0 (qa_ag 0 [.inl (R, 0)]) [] σ (.inl none) r := by
  unfold qa_fX1_weighByNextUse at h
  try dsimp only at h
  show qa_Bk (qa_ds L) qa_mX1_weighByNextUse 0 [(0, .inl (R, 0))] [] σ _ _
  refine qa_bk_do (pc' := 1) rfl rfl ?_
  refine qa_bk_do (pc' := 2) (lv' := [(1, _), (0, _)]) rfl rfl ?_
  exact qa_bk_lw (qa_tX1_weighByNextUse_2 hR _ _ _ _ h) rfl rfl (And.intro rfl (And.intro rfl (trivial)))
noncomputable def qa_fX1_weighByUseOrCost_64 (R : Nat) (k2 : Int32 → qa_T → Option qa_T) (x1 : Int32) (y0 : Int32) (y1 : Int32) (σ : qa_T) : Option qa_T :=
    let σ4 := qa_fX9_set (R, 16) 16 y1 y0 σ
    let v5 : Int32 := x1 + Int32.ofInt 1
    k2 v5 σ4
noncomputable def qa_fX1_weighByUseOrCost_28 (R : Nat) (k2 : Int32 → qa_T → Option qa_T) (x1 : Int32) (y0 : Int32) (σ : qa_T) : Option qa_T :=
    if y0 = 0 then
      qa_fX1_weighByUseOrCost_64 R k2 x1 (qa_fX9_at (R, 2) 16 x1 σ) x1 σ
    else
      qa_fX1_weighByUseOrCost_64 R k2 x1 (-(qa_fX9_at (R, 8) 16 x1 σ)) x1 σ
noncomputable def qa_fX1_weighByUseOrCost_2 (R : Nat) : Nat → Int32 → qa_T → Option qa_T
  | 0, _, _ => none
  | n + 1, x1, σ =>
    if (σ.1 (R, 1) 0) ≤ x1 then
      some σ
    else
      if ¬ (σ.1 (R, 14) 2) = 0 then
        qa_fX1_weighByUseOrCost_28 R (qa_fX1_weighByUseOrCost_2 R n) x1 (Int32.ofInt 0) σ
      else
        qa_fX1_weighByUseOrCost_28 R (qa_fX1_weighByUseOrCost_2 R n) x1 (Int32.ofInt 1) σ
noncomputable def qa_fX1_weighByUseOrCost (R : Nat) (σ : qa_T) : Option qa_T :=
    qa_fX1_weighByUseOrCost_2 R qa_fu (Int32.ofInt 0) σ
set_option maxRecDepth 100000 in
theorem qa_tX1_weighByUseOrCost_64 {L : Nat} {R : Nat} (hR : qa_rg R) {k2 : Int32 → qa_T → Option qa_T} (K2 : ∀ (x1 : Int32) (σ : qa_T) (r : qa_T), k2 x1 σ = some r → qa_Bk (qa_ds L) qa_mX1_weighByUseOrCost 2 [(0, .inl (R, 0)), (1, .inr (.int x1))] [] σ (.inl none) r) {x1 : Int32} {y0 : Int32} {y1 : Int32} {σ : qa_T} {r : qa_T} (h : qa_fX1_weighByUseOrCost_64 R k2 x1 y0 y1 σ = some r) : qa_Bk (qa_ds L) qa_mX1_weighByUseOrCost 64 [(0, .inl (R, 0)), (1, .inr (.int x1))] [.inr (.int y0), .inr (.int y1), .inl (R, 16)] σ (.inl none) r := by
  unfold qa_fX1_weighByUseOrCost_64 at h
  try dsimp only at h
  refine qa_bk_cs (qa_tX9_set (qa_ds16 hR) (Nat.le_of_ble_eq_true rfl) rfl) rfl rfl rfl rfl rfl rfl rfl ?_
  refine qa_bk_do (pc' := 70) (lv' := [(1, _), (0, _)]) rfl rfl ?_
  refine qa_bk_do (pc' := 2) rfl rfl ?_
  exact qa_bk_lw (K2 _ _ _ h) rfl rfl (And.intro rfl (And.intro rfl (trivial)))
set_option maxRecDepth 100000 in
theorem qa_tX1_weighByUseOrCost_28 {L : Nat} {R : Nat} (hR : qa_rg R) {k2 : Int32 → qa_T → Option qa_T} (K2 : ∀ (x1 : Int32) (σ : qa_T) (r : qa_T), k2 x1 σ = some r → qa_Bk (qa_ds L) qa_mX1_weighByUseOrCost 2 [(0, .inl (R, 0)), (1, .inr (.int x1))] [] σ (.inl none) r) {x1 : Int32} {y0 : Int32} {σ : qa_T} {r : qa_T} (h : qa_fX1_weighByUseOrCost_28 R k2 x1 y0 σ = some r) : qa_Bk (qa_ds L) qa_mX1_weighByUseOrCost 28 [(0, .inl (R, 0)), (1, .inr (.int x1))] [.inr (.int y0)] σ (.inl none) r := by
  unfold qa_fX1_weighByUseOrCost_28 at h
  try dsimp only at h
  refine qa_bk_do (pc' := 29) (lv' := [(2, _), (0, _), (1, _)]) rfl rfl ?_
  refine qa_bk_do (pc' := 30) rfl rfl ?_
  refine qa_bk_gr rfl rfl (qa_ds0 hR) rfl ?_
  refine qa_bk_do (pc' := 34) rfl rfl ?_
  refine qa_bk_do (pc' := 35) rfl rfl ?_
  rcases qa_ite h with ⟨hc3, h⟩ | ⟨hc3, h⟩
  · refine qa_bk_1t (a := 53) (b := 38) hc3 rfl rfl ?_
    refine qa_bk_do (pc' := 54) rfl rfl ?_
    refine qa_bk_gr rfl rfl (qa_ds0 hR) rfl ?_
    refine qa_bk_gr rfl rfl (qa_ds1 hR) rfl ?_
    refine qa_bk_do (pc' := 61) rfl rfl ?_
    refine qa_bk_cs (qa_tX9_at (qa_ds2 hR) (Nat.le_of_ble_eq_true rfl) rfl) rfl rfl rfl rfl rfl rfl rfl ?_
    exact qa_bk_lw (qa_tX1_weighByUseOrCost_64 hR K2 h) rfl rfl (And.intro rfl (And.intro rfl (trivial)))
  · refine qa_bk_1f (a := 53) (b := 38) hc3 rfl rfl ?_
    refine qa_bk_do (pc' := 39) rfl rfl ?_
    refine qa_bk_gr rfl rfl (qa_ds0 hR) rfl ?_
    refine qa_bk_gr rfl rfl (qa_ds1 hR) rfl ?_
    refine qa_bk_do (pc' := 46) rfl rfl ?_
    refine qa_bk_cs (qa_tX9_at (qa_ds8 hR) (Nat.le_of_ble_eq_true rfl) rfl) rfl rfl rfl rfl rfl rfl rfl ?_
    refine qa_bk_do (pc' := 50) rfl rfl ?_
    refine qa_bk_do (pc' := 64) rfl rfl ?_
    exact qa_bk_lw (qa_tX1_weighByUseOrCost_64 hR K2 h) rfl rfl (And.intro rfl (And.intro rfl (trivial)))
set_option maxRecDepth 100000 in
theorem qa_tX1_weighByUseOrCost_2 {L : Nat} {R : Nat} (hR : qa_rg R) : ∀ (n : Nat) (x1 : Int32) (σ : qa_T) (r : qa_T), qa_fX1_weighByUseOrCost_2 R n x1 σ = some r → qa_Bk (qa_ds L) qa_mX1_weighByUseOrCost 2 [(0, .inl (R, 0)), (1, .inr (.int x1))] [] σ (.inl none) r := by
  intro n
  induction n with
  | zero => intro x1 σ r h; cases h
  | succ n ih =>
    intro x1 σ r h
    unfold qa_fX1_weighByUseOrCost_2 at h
    try dsimp only at h
    refine qa_bk_do (pc' := 3) rfl rfl ?_
    refine qa_bk_do (pc' := 4) rfl rfl ?_
    refine qa_bk_gr rfl rfl (qa_ds0 hR) rfl ?_
    refine qa_bk_gi rfl rfl (qa_ds1 hR) rfl ?_
    rcases qa_ite h with ⟨hc1, h⟩ | ⟨hc1, h⟩
    · refine qa_bk_1t (a := 73) (b := 13) hc1 rfl rfl ?_
      cases h
      exact qa_bk_re rfl rfl rfl
    · refine qa_bk_1f (a := 73) (b := 13) hc1 rfl rfl ?_
      refine qa_bk_do (pc' := 14) rfl rfl ?_
      refine qa_bk_gr rfl rfl (qa_ds0 hR) rfl ?_
      refine qa_bk_gi rfl rfl (qa_ds14 hR) rfl ?_
      rcases qa_ite h with ⟨hc2, h⟩ | ⟨hc2, h⟩
      · refine qa_bk_1t (a := 27) (b := 23) hc2 rfl rfl ?_
        refine qa_bk_do (pc' := 28) rfl rfl ?_
        exact qa_bk_lw (qa_tX1_weighByUseOrCost_28 hR ih h) rfl rfl (And.intro rfl (And.intro rfl (trivial)))
      · refine qa_bk_1f (a := 27) (b := 23) hc2 rfl rfl ?_
        refine qa_bk_do (pc' := 24) rfl rfl ?_
        refine qa_bk_do (pc' := 28) rfl rfl ?_
        exact qa_bk_lw (qa_tX1_weighByUseOrCost_28 hR ih h) rfl rfl (And.intro rfl (And.intro rfl (trivial)))
set_option maxRecDepth 100000 in
theorem qa_tX1_weighByUseOrCost {L : Nat} {R : Nat} (hR : qa_rg R) {σ : qa_T} {r : qa_T} (h : qa_fX1_weighByUseOrCost R σ = some r) : qa_Bk (qa_ds L) qa_mX1_weighByUseOrCost 0 (qa_ag 0 [.inl (R, 0)]) [] σ (.inl none) r := by
  unfold qa_fX1_weighByUseOrCost at h
  try dsimp only at h
  show qa_Bk (qa_ds L) qa_mX1_weighByUseOrCost 0 [(0, .inl (R, 0))] [] σ _ _
  refine qa_bk_do (pc' := 1) rfl rfl ?_
  refine qa_bk_do (pc' := 2) (lv' := [(1, _), (0, _)]) rfl rfl ?_
  exact qa_bk_lw (qa_tX1_weighByUseOrCost_2 hR _ _ _ _ h) rfl rfl (And.intro rfl (And.intro rfl (trivial)))
noncomputable def qa_fX1_lineUp_115 (R : Nat) (k26 : Int32 → Int32 → qa_T → Option (Int32 × qa_T)) (x1 : Int32) (x2 : Int32) (σ : qa_T) : Option (Int32 × qa_T) :=
    let v6 : Int32 := x2 + Int32.ofInt 1
    k26 x1 v6 σ
noncomputable def qa_fX1_lineUp_103 (R : Nat) (k26 : Int32 → Int32 → qa_T → Option (Int32 × qa_T)) (x1 : Int32) (x2 : Int32) (x3 : Int32) (σ : qa_T) : Option (Int32 × qa_T) :=
    let σ8 := qa_fX9_set (R, 17) 16 x3 x2 σ
    let v9 : Int32 := x1 + Int32.ofInt 1
    qa_fX1_lineUp_115 R k26 v9 x2 σ8
noncomputable def qa_fX1_lineUp_47 (R : Nat) (k26 : Int32 → Int32 → qa_T → Option (Int32 × qa_T)) : Nat → Int32 → Int32 → Int32 → qa_T → Option (Int32 × qa_T)
  | 0, _, _, _, _ => none
  | n + 1, x1, x2, x3, σ =>
    if x3 ≤ 0 then
      qa_fX1_lineUp_103 R k26 x1 x2 x3 σ
    else
      if (qa_fX9_at (R, 16) 16 x2 σ) ≤ (qa_fX9_at (R, 16) 16 (qa_fX9_at (R, 17) 16 (x3 - (Int32.ofInt 1)) σ) σ) then
        qa_fX1_lineUp_103 R k26 x1 x2 x3 σ
      else
        let σ11 := qa_fX9_set (R, 17) 16 x3 (qa_fX9_at (R, 17) 16 (x3 - (Int32.ofInt 1)) σ) σ
        let v12 : Int32 := x3 + Int32.ofInt (-1)
        qa_fX1_lineUp_47 R k26 n x1 x2 v12 σ11
noncomputable def qa_fX1_lineUp_26 (R : Nat) : Nat → Int32 → Int32 → qa_T → Option (Int32 × qa_T)
  | 0, _, _, _ => none
  | n + 1, x1, x2, σ =>
    if (σ.1 (R, 1) 0) ≤ x2 then
      some (x1, σ)
    else
      if (qa_bi (qa_fX1_mayBurn R x2 σ)) = 0 then
        qa_fX1_lineUp_115 R (qa_fX1_lineUp_26 R n) x1 x2 σ
      else
        qa_fX1_lineUp_47 R (qa_fX1_lineUp_26 R n) qa_fu x1 x2 x1 σ
noncomputable def qa_fX1_lineUp_22 (R : Nat) (σ : qa_T) : Option (Int32 × qa_T) :=
    qa_fX1_lineUp_26 R qa_fu (Int32.ofInt 0) (Int32.ofInt 0) σ
noncomputable def qa_fX1_lineUp (R : Nat) (σ : qa_T) : Option (Int32 × qa_T) :=
    if ¬ (σ.1 (R, 14) 2) = (Int32.ofInt 2) then
      (qa_fX1_weighByUseOrCost R σ).bind fun c2 =>
      qa_fX1_lineUp_22 R c2
    else
      (qa_fX1_weighByNextUse R σ).bind fun c13 =>
      qa_fX1_lineUp_22 R c13
set_option maxRecDepth 100000 in
theorem qa_tX1_lineUp_115 {L : Nat} {R : Nat} (hR : qa_rg R) {k26 : Int32 → Int32 → qa_T → Option (Int32 × qa_T)} (K26 : ∀ (x1 : Int32) (x2 : Int32) (σ : qa_T) (r : (Int32 × qa_T)), k26 x1 x2 σ = some r → qa_Bk (qa_ds L) qa_mX1_lineUp 26 [(0, .inl (R, 0)), (1, .inr (.int x1)), (2, .inr (.int x2))] [] σ (.inl (some (.inr (.int r.1)))) r.2) {x1 : Int32} {x2 : Int32} {σ : qa_T} {r : (Int32 × qa_T)} (h : qa_fX1_lineUp_115 R k26 x1 x2 σ = some r) : qa_Bk (qa_ds L) qa_mX1_lineUp 115 [(0, .inl (R, 0)), (1, .inr (.int x1)), (2, .inr (.int x2))] [] σ (.inl (some (.inr (.int r.1)))) r.2 := by
  unfold qa_fX1_lineUp_115 at h
  try dsimp only at h
  refine qa_bk_do (pc' := 118) (lv' := [(2, _), (0, _), (1, _)]) rfl rfl ?_
  refine qa_bk_do (pc' := 26) rfl rfl ?_
  exact qa_bk_lw (K26 _ _ _ _ h) rfl rfl (And.intro rfl (And.intro rfl (And.intro rfl (trivial))))
set_option maxRecDepth 100000 in
theorem qa_tX1_lineUp_103 {L : Nat} {R : Nat} (hR : qa_rg R) {k26 : Int32 → Int32 → qa_T → Option (Int32 × qa_T)} (K26 : ∀ (x1 : Int32) (x2 : Int32) (σ : qa_T) (r : (Int32 × qa_T)), k26 x1 x2 σ = some r → qa_Bk (qa_ds L) qa_mX1_lineUp 26 [(0, .inl (R, 0)), (1, .inr (.int x1)), (2, .inr (.int x2))] [] σ (.inl (some (.inr (.int r.1)))) r.2) {x1 : Int32} {x2 : Int32} {x3 : Int32} {σ : qa_T} {r : (Int32 × qa_T)} (h : qa_fX1_lineUp_103 R k26 x1 x2 x3 σ = some r) : qa_Bk (qa_ds L) qa_mX1_lineUp 103 [(0, .inl (R, 0)), (1, .inr (.int x1)), (2, .inr (.int x2)), (3, .inr (.int x3))] [] σ (.inl (some (.inr (.int r.1)))) r.2 := by
  unfold qa_fX1_lineUp_103 at h
  try dsimp only at h
  refine qa_bk_do (pc' := 104) rfl rfl ?_
  refine qa_bk_gr rfl rfl (qa_ds0 hR) rfl ?_
  refine qa_bk_do (pc' := 108) rfl rfl ?_
  refine qa_bk_do (pc' := 109) rfl rfl ?_
  refine qa_bk_cs (qa_tX9_set (qa_ds17 hR) (Nat.le_of_ble_eq_true rfl) rfl) rfl rfl rfl rfl rfl rfl rfl ?_
  refine qa_bk_do (pc' := 115) (lv' := [(1, _), (0, _), (2, _), (3, _)]) rfl rfl ?_
  exact qa_bk_lw (qa_tX1_lineUp_115 hR K26 h) rfl rfl (And.intro rfl (And.intro rfl (And.intro rfl (trivial))))
set_option maxRecDepth 100000 in
theorem qa_tX1_lineUp_47 {L : Nat} {R : Nat} (hR : qa_rg R) {k26 : Int32 → Int32 → qa_T → Option (Int32 × qa_T)} (K26 : ∀ (x1 : Int32) (x2 : Int32) (σ : qa_T) (r : (Int32 × qa_T)), k26 x1 x2 σ = some r → qa_Bk (qa_ds L) qa_mX1_lineUp 26 [(0, .inl (R, 0)), (1, .inr (.int x1)), (2, .inr (.int x2))] [] σ (.inl (some (.inr (.int r.1)))) r.2) : ∀ (n : Nat) (x1 : Int32) (x2 : Int32) (x3 : Int32) (σ : qa_T) (r : (Int32 × qa_T)), qa_fX1_lineUp_47 R k26 n x1 x2 x3 σ = some r → qa_Bk (qa_ds L) qa_mX1_lineUp 47 [(0, .inl (R, 0)), (1, .inr (.int x1)), (2, .inr (.int x2)), (3, .inr (.int x3))] [] σ (.inl (some (.inr (.int r.1)))) r.2 := by
  intro n
  induction n with
  | zero => intro x1 x2 x3 σ r h; cases h
  | succ n ih =>
    intro x1 x2 x3 σ r h
    unfold qa_fX1_lineUp_47 at h
    try dsimp only at h
    refine qa_bk_do (pc' := 48) rfl rfl ?_
    rcases qa_ite h with ⟨hc7, h⟩ | ⟨hc7, h⟩
    · refine qa_bk_1t (a := 103) (b := 51) hc7 rfl rfl ?_
      exact qa_bk_lw (qa_tX1_lineUp_103 hR K26 h) rfl rfl (And.intro rfl (And.intro rfl (And.intro rfl (And.intro rfl (trivial)))))
    · refine qa_bk_1f (a := 103) (b := 51) hc7 rfl rfl ?_
      refine qa_bk_do (pc' := 52) rfl rfl ?_
      refine qa_bk_gr rfl rfl (qa_ds0 hR) rfl ?_
      refine qa_bk_do (pc' := 56) rfl rfl ?_
      refine qa_bk_gr rfl rfl (qa_ds0 hR) rfl ?_
      refine qa_bk_do (pc' := 60) rfl rfl ?_
      refine qa_bk_do (pc' := 61) rfl rfl ?_
      refine qa_bk_do (pc' := 62) rfl rfl ?_
      refine qa_bk_cs (qa_tX9_at (qa_ds17 hR) (Nat.le_of_ble_eq_true rfl) rfl) rfl rfl rfl rfl rfl rfl rfl ?_
      refine qa_bk_cs (qa_tX9_at (qa_ds16 hR) (Nat.le_of_ble_eq_true rfl) rfl) rfl rfl rfl rfl rfl rfl rfl ?_
      refine qa_bk_do (pc' := 69) rfl rfl ?_
      refine qa_bk_gr rfl rfl (qa_ds0 hR) rfl ?_
      refine qa_bk_do (pc' := 73) rfl rfl ?_
      refine qa_bk_cs (qa_tX9_at (qa_ds16 hR) (Nat.le_of_ble_eq_true rfl) rfl) rfl rfl rfl rfl rfl rfl rfl ?_
      rcases qa_ite h with ⟨hc10, h⟩ | ⟨hc10, h⟩
      · refine qa_bk_1t (a := 103) (b := 79) hc10 rfl rfl ?_
        exact qa_bk_lw (qa_tX1_lineUp_103 hR K26 h) rfl rfl (And.intro rfl (And.intro rfl (And.intro rfl (And.intro rfl (trivial)))))
      · refine qa_bk_1f (a := 103) (b := 79) hc10 rfl rfl ?_
        refine qa_bk_do (pc' := 80) rfl rfl ?_
        refine qa_bk_gr rfl rfl (qa_ds0 hR) rfl ?_
        refine qa_bk_do (pc' := 84) rfl rfl ?_
        refine qa_bk_do (pc' := 85) rfl rfl ?_
        refine qa_bk_gr rfl rfl (qa_ds0 hR) rfl ?_
        refine qa_bk_do (pc' := 89) rfl rfl ?_
        refine qa_bk_do (pc' := 90) rfl rfl ?_
        refine qa_bk_do (pc' := 91) rfl rfl ?_
        refine qa_bk_cs (qa_tX9_at (qa_ds17 hR) (Nat.le_of_ble_eq_true rfl) rfl) rfl rfl rfl rfl rfl rfl rfl ?_
        refine qa_bk_cs (qa_tX9_set (qa_ds17 hR) (Nat.le_of_ble_eq_true rfl) rfl) rfl rfl rfl rfl rfl rfl rfl ?_
        refine qa_bk_do (pc' := 100) (lv' := [(3, _), (0, _), (1, _), (2, _)]) rfl rfl ?_
        refine qa_bk_do (pc' := 47) rfl rfl ?_
        exact qa_bk_lw (ih _ _ _ _ _ h) rfl rfl (And.intro rfl (And.intro rfl (And.intro rfl (And.intro rfl (trivial)))))
set_option maxRecDepth 100000 in
theorem qa_tX1_lineUp_26 {L : Nat} {R : Nat} (hR : qa_rg R) : ∀ (n : Nat) (x1 : Int32) (x2 : Int32) (σ : qa_T) (r : (Int32 × qa_T)), qa_fX1_lineUp_26 R n x1 x2 σ = some r → qa_Bk (qa_ds L) qa_mX1_lineUp 26 [(0, .inl (R, 0)), (1, .inr (.int x1)), (2, .inr (.int x2))] [] σ (.inl (some (.inr (.int r.1)))) r.2 := by
  intro n
  induction n with
  | zero => intro x1 x2 σ r h; cases h
  | succ n ih =>
    intro x1 x2 σ r h
    unfold qa_fX1_lineUp_26 at h
    try dsimp only at h
    refine qa_bk_do (pc' := 27) rfl rfl ?_
    refine qa_bk_do (pc' := 28) rfl rfl ?_
    refine qa_bk_gr rfl rfl (qa_ds0 hR) rfl ?_
    refine qa_bk_gi rfl rfl (qa_ds1 hR) rfl ?_
    rcases qa_ite h with ⟨hc4, h⟩ | ⟨hc4, h⟩
    · refine qa_bk_1t (a := 121) (b := 37) hc4 rfl rfl ?_
      refine qa_bk_do (pc' := 122) rfl rfl ?_
      cases h
      exact qa_bk_ri rfl rfl
    · refine qa_bk_1f (a := 121) (b := 37) hc4 rfl rfl ?_
      refine qa_bk_do (pc' := 38) rfl rfl ?_
      refine qa_bk_do (pc' := 39) rfl rfl ?_
      refine qa_bk_cv (qa_tX1_mayBurn hR rfl) rfl rfl rfl rfl rfl rfl rfl (qa_ds0 hR) ?_
      rcases qa_ite h with ⟨hc5, h⟩ | ⟨hc5, h⟩
      · refine qa_bk_1t (a := 115) (b := 45) hc5 rfl rfl ?_
        exact qa_bk_lw (qa_tX1_lineUp_115 hR ih h) rfl rfl (And.intro rfl (And.intro rfl (And.intro rfl (trivial))))
      · refine qa_bk_1f (a := 115) (b := 45) hc5 rfl rfl ?_
        refine qa_bk_do (pc' := 46) rfl rfl ?_
        refine qa_bk_do (pc' := 47) (lv' := [(3, _), (0, _), (1, _), (2, _)]) rfl rfl ?_
        exact qa_bk_lw (qa_tX1_lineUp_47 hR ih _ _ _ _ _ _ h) rfl rfl (And.intro rfl (And.intro rfl (And.intro rfl (And.intro rfl (trivial)))))
set_option maxRecDepth 100000 in
theorem qa_tX1_lineUp_22 {L : Nat} {R : Nat} (hR : qa_rg R) {σ : qa_T} {r : (Int32 × qa_T)} (h : qa_fX1_lineUp_22 R σ = some r) : qa_Bk (qa_ds L) qa_mX1_lineUp 22 [(0, .inl (R, 0))] [] σ (.inl (some (.inr (.int r.1)))) r.2 := by
  unfold qa_fX1_lineUp_22 at h
  try dsimp only at h
  refine qa_bk_do (pc' := 23) rfl rfl ?_
  refine qa_bk_do (pc' := 24) (lv' := [(1, _), (0, _)]) rfl rfl ?_
  refine qa_bk_do (pc' := 25) rfl rfl ?_
  refine qa_bk_do (pc' := 26) (lv' := [(2, _), (1, _), (0, _)]) rfl rfl ?_
  exact qa_bk_lw (qa_tX1_lineUp_26 hR _ _ _ _ _ h) rfl rfl (And.intro rfl (And.intro rfl (And.intro rfl (trivial))))
set_option maxRecDepth 100000 in
theorem qa_tX1_lineUp {L : Nat} {R : Nat} (hR : qa_rg R) {σ : qa_T} {r : (Int32 × qa_T)} (h : qa_fX1_lineUp R σ = some r) : qa_Bk (qa_ds L) qa_mX1_lineUp 0 (qa_ag 0 [.inl (R, 0)]) [] σ (.inl (some (.inr (.int r.1)))) r.2 := by
  unfold qa_fX1_lineUp at h
  try dsimp only at h
  show qa_Bk (qa_ds L) qa_mX1_lineUp 0 [(0, .inl (R, 0))] [] σ _ _
  refine qa_bk_do (pc' := 1) rfl rfl ?_
  refine qa_bk_gr rfl rfl (qa_ds0 hR) rfl ?_
  refine qa_bk_gi rfl rfl (qa_ds14 hR) rfl ?_
  refine qa_bk_do (pc' := 8) rfl rfl ?_
  rcases qa_ite h with ⟨hc1, h⟩ | ⟨hc1, h⟩
  · refine qa_bk_1t (a := 18) (b := 11) hc1 rfl rfl ?_
    refine qa_bk_do (pc' := 19) rfl rfl ?_
    obtain ⟨c2, hc3, h⟩ := Option.bind_eq_some_iff.mp h
    refine qa_bk_cv (qa_tX1_weighByUseOrCost hR hc3) rfl rfl rfl rfl rfl rfl rfl (qa_ds0 hR) ?_
    exact qa_bk_lw (qa_tX1_lineUp_22 hR h) rfl rfl (And.intro rfl (trivial))
  · refine qa_bk_1f (a := 18) (b := 11) hc1 rfl rfl ?_
    refine qa_bk_do (pc' := 12) rfl rfl ?_
    obtain ⟨c13, hc14, h⟩ := Option.bind_eq_some_iff.mp h
    refine qa_bk_cv (qa_tX1_weighByNextUse hR hc14) rfl rfl rfl rfl rfl rfl rfl (qa_ds0 hR) ?_
    refine qa_bk_do (pc' := 22) rfl rfl ?_
    exact qa_bk_lw (qa_tX1_lineUp_22 hR h) rfl rfl (And.intro rfl (trivial))
noncomputable def qa_fX1_putOnFire (R : Nat) (a1 : Int32) (σ : qa_T) : qa_T :=
    let σ1 := qa_fX6_setReady R a1 false σ
    let σ2 := qa_fX9_set (R, 6) 16 a1 (σ1.1 (R, 14) 3) σ1
    let σ3 := qa_fX9_set (R, 7) 16 a1 ((qa_fX9_at (R, 7) 16 a1 σ2) + (Int32.ofInt 1)) σ2
    let σ4 := qa_wi σ3 (R, 12) 4 ((σ3.1 (R, 12) 4) - (qa_fX9_at (R, 2) 16 a1 σ3))
    let σ5 := qa_wi σ4 (R, 15) 5 ((σ4.1 (R, 15) 5) + (Int32.ofInt 1))
    σ5
set_option maxRecDepth 100000 in
theorem qa_tX1_putOnFire {L : Nat} {R : Nat} {a1 : Int32} (hR : qa_rg R) {σ : qa_T} {r : qa_T} (h : qa_fX1_putOnFire R a1 σ = r) : qa_Bk (qa_ds L) qa_mX1_putOnFire 0 (qa_ag 0 [.inl (R, 0), .inr (.int a1)]) [] σ (.inl none) r := by
  unfold qa_fX1_putOnFire at h
  try dsimp only at h
  show qa_Bk (qa_ds L) qa_mX1_putOnFire 0 [(0, .inl (R, 0)), (1, .inr (.int a1))] [] σ _ _
  refine qa_bk_do (pc' := 1) rfl rfl ?_
  refine qa_bk_gr rfl rfl (qa_ds0 hR) rfl ?_
  refine qa_bk_do (pc' := 5) rfl rfl ?_
  refine qa_bk_do (pc' := 6) rfl rfl ?_
  refine qa_bk_cv (qa_tX6_setReady (a2 := false) hR rfl) rfl rfl rfl rfl rfl rfl rfl (qa_ds1 hR) ?_
  refine qa_bk_do (pc' := 10) rfl rfl ?_
  refine qa_bk_gr rfl rfl (qa_ds0 hR) rfl ?_
  refine qa_bk_gr rfl rfl (qa_ds1 hR) rfl ?_
  refine qa_bk_do (pc' := 17) rfl rfl ?_
  refine qa_bk_do (pc' := 18) rfl rfl ?_
  refine qa_bk_gr rfl rfl (qa_ds0 hR) rfl ?_
  refine qa_bk_gi rfl rfl (qa_ds14 hR) rfl ?_
  refine qa_bk_cs (qa_tX9_set (qa_ds6 hR) (Nat.le_of_ble_eq_true rfl) rfl) rfl rfl rfl rfl rfl rfl rfl ?_
  refine qa_bk_do (pc' := 28) rfl rfl ?_
  refine qa_bk_gr rfl rfl (qa_ds0 hR) rfl ?_
  refine qa_bk_gr rfl rfl (qa_ds1 hR) rfl ?_
  refine qa_bk_do (pc' := 35) rfl rfl ?_
  refine qa_bk_do (pc' := 36) rfl rfl ?_
  refine qa_bk_gr rfl rfl (qa_ds0 hR) rfl ?_
  refine qa_bk_gr rfl rfl (qa_ds1 hR) rfl ?_
  refine qa_bk_do (pc' := 43) rfl rfl ?_
  refine qa_bk_cs (qa_tX9_at (qa_ds7 hR) (Nat.le_of_ble_eq_true rfl) rfl) rfl rfl rfl rfl rfl rfl rfl ?_
  refine qa_bk_do (pc' := 47) rfl rfl ?_
  refine qa_bk_do (pc' := 48) rfl rfl ?_
  refine qa_bk_cs (qa_tX9_set (qa_ds7 hR) (Nat.le_of_ble_eq_true rfl) rfl) rfl rfl rfl rfl rfl rfl rfl ?_
  refine qa_bk_do (pc' := 52) rfl rfl ?_
  refine qa_bk_gr rfl rfl (qa_ds0 hR) rfl ?_
  refine qa_bk_do (pc' := 56) rfl rfl ?_
  refine qa_bk_gi rfl rfl (qa_ds12 hR) rfl ?_
  refine qa_bk_do (pc' := 60) rfl rfl ?_
  refine qa_bk_gr rfl rfl (qa_ds0 hR) rfl ?_
  refine qa_bk_gr rfl rfl (qa_ds1 hR) rfl ?_
  refine qa_bk_do (pc' := 67) rfl rfl ?_
  refine qa_bk_cs (qa_tX9_at (qa_ds2 hR) (Nat.le_of_ble_eq_true rfl) rfl) rfl rfl rfl rfl rfl rfl rfl ?_
  refine qa_bk_do (pc' := 71) rfl rfl ?_
  refine qa_bk_pf rfl rfl (qa_ds12 hR) rfl (qa_fiti _) rfl ?_
  refine qa_bk_do (pc' := 75) rfl rfl ?_
  refine qa_bk_gr rfl rfl (qa_ds0 hR) rfl ?_
  refine qa_bk_do (pc' := 79) rfl rfl ?_
  refine qa_bk_gi rfl rfl (qa_ds15 hR) rfl ?_
  refine qa_bk_do (pc' := 83) rfl rfl ?_
  refine qa_bk_do (pc' := 84) rfl rfl ?_
  refine qa_bk_pf rfl rfl (qa_ds15 hR) rfl (qa_fiti _) rfl ?_
  subst h
  exact qa_bk_re rfl rfl rfl
noncomputable def qa_fX1_burnDownTo_53 (R : Nat) (a1 : Int32) (σ : qa_T) : Option qa_T :=
    some σ
noncomputable def qa_fX1_burnDownTo_19 (R : Nat) (a1 : Int32) : Nat → Int32 → Int32 → qa_T → Option qa_T
  | 0, _, _, _ => none
  | n + 1, x2, x3, σ =>
    if x2 ≤ x3 then
      qa_fX1_burnDownTo_53 R a1 σ
    else
      if (σ.1 (R, 12) 4) ≤ a1 then
        qa_fX1_burnDownTo_53 R a1 σ
      else
        let σ6 := qa_fX1_putOnFire R (qa_fX9_at (R, 17) 16 x3 σ) σ
        let v7 : Int32 := x3 + Int32.ofInt 1
        qa_fX1_burnDownTo_19 R a1 n x2 v7 σ6
noncomputable def qa_fX1_burnDownTo (R : Nat) (a1 : Int32) (σ : qa_T) : Option qa_T :=
    if a1 < (σ.1 (R, 12) 4) then
      (qa_fX1_lineUp R σ).bind fun c2 =>
      qa_fX1_burnDownTo_19 R a1 qa_fu c2.1 (Int32.ofInt 0) c2.2
    else
      some σ
set_option maxRecDepth 100000 in
theorem qa_tX1_burnDownTo_53 {L : Nat} {R : Nat} {a1 : Int32} (hR : qa_rg R) {σ : qa_T} {r : qa_T} (h : qa_fX1_burnDownTo_53 R a1 σ = some r) : qa_Bk (qa_ds L) qa_mX1_burnDownTo 53 [(0, .inl (R, 0)), (1, .inr (.int a1))] [] σ (.inl none) r := by
  unfold qa_fX1_burnDownTo_53 at h
  try dsimp only at h
  cases h
  exact qa_bk_re rfl rfl rfl
set_option maxRecDepth 100000 in
theorem qa_tX1_burnDownTo_19 {L : Nat} {R : Nat} {a1 : Int32} (hR : qa_rg R) : ∀ (n : Nat) (x2 : Int32) (x3 : Int32) (σ : qa_T) (r : qa_T), qa_fX1_burnDownTo_19 R a1 n x2 x3 σ = some r → qa_Bk (qa_ds L) qa_mX1_burnDownTo 19 [(0, .inl (R, 0)), (1, .inr (.int a1)), (2, .inr (.int x2)), (3, .inr (.int x3))] [] σ (.inl none) r := by
  intro n
  induction n with
  | zero => intro x2 x3 σ r h; cases h
  | succ n ih =>
    intro x2 x3 σ r h
    unfold qa_fX1_burnDownTo_19 at h
    try dsimp only at h
    refine qa_bk_do (pc' := 20) rfl rfl ?_
    refine qa_bk_do (pc' := 21) rfl rfl ?_
    rcases qa_ite h with ⟨hc4, h⟩ | ⟨hc4, h⟩
    · refine qa_bk_1t (a := 53) (b := 24) hc4 rfl rfl ?_
      exact qa_bk_lw (qa_tX1_burnDownTo_53 hR h) rfl rfl (And.intro rfl (And.intro rfl (trivial)))
    · refine qa_bk_1f (a := 53) (b := 24) hc4 rfl rfl ?_
      refine qa_bk_do (pc' := 25) rfl rfl ?_
      refine qa_bk_gr rfl rfl (qa_ds0 hR) rfl ?_
      refine qa_bk_gi rfl rfl (qa_ds12 hR) rfl ?_
      refine qa_bk_do (pc' := 32) rfl rfl ?_
      rcases qa_ite h with ⟨hc5, h⟩ | ⟨hc5, h⟩
      · refine qa_bk_1t (a := 53) (b := 35) hc5 rfl rfl ?_
        exact qa_bk_lw (qa_tX1_burnDownTo_53 hR h) rfl rfl (And.intro rfl (And.intro rfl (trivial)))
      · refine qa_bk_1f (a := 53) (b := 35) hc5 rfl rfl ?_
        refine qa_bk_do (pc' := 36) rfl rfl ?_
        refine qa_bk_do (pc' := 37) rfl rfl ?_
        refine qa_bk_gr rfl rfl (qa_ds0 hR) rfl ?_
        refine qa_bk_do (pc' := 41) rfl rfl ?_
        refine qa_bk_cs (qa_tX9_at (qa_ds17 hR) (Nat.le_of_ble_eq_true rfl) rfl) rfl rfl rfl rfl rfl rfl rfl ?_
        refine qa_bk_cv (qa_tX1_putOnFire hR rfl) rfl rfl rfl rfl rfl rfl rfl (qa_ds0 hR) ?_
        refine qa_bk_do (pc' := 50) (lv' := [(3, _), (0, _), (1, _), (2, _)]) rfl rfl ?_
        refine qa_bk_do (pc' := 19) rfl rfl ?_
        exact qa_bk_lw (ih _ _ _ _ h) rfl rfl (And.intro rfl (And.intro rfl (And.intro rfl (And.intro rfl (trivial)))))
set_option maxRecDepth 100000 in
theorem qa_tX1_burnDownTo {L : Nat} {R : Nat} {a1 : Int32} (hR : qa_rg R) {σ : qa_T} {r : qa_T} (h : qa_fX1_burnDownTo R a1 σ = some r) : qa_Bk (qa_ds L) qa_mX1_burnDownTo 0 (qa_ag 0 [.inl (R, 0), .inr (.int a1)]) [] σ (.inl none) r := by
  unfold qa_fX1_burnDownTo at h
  try dsimp only at h
  show qa_Bk (qa_ds L) qa_mX1_burnDownTo 0 [(0, .inl (R, 0)), (1, .inr (.int a1))] [] σ _ _
  refine qa_bk_do (pc' := 1) rfl rfl ?_
  refine qa_bk_gr rfl rfl (qa_ds0 hR) rfl ?_
  refine qa_bk_gi rfl rfl (qa_ds12 hR) rfl ?_
  refine qa_bk_do (pc' := 8) rfl rfl ?_
  rcases qa_ite h with ⟨hc1, h⟩ | ⟨hc1, h⟩
  · refine qa_bk_1t (a := 12) (b := 11) hc1 rfl rfl ?_
    refine qa_bk_do (pc' := 13) rfl rfl ?_
    obtain ⟨c2, hc3, h⟩ := Option.bind_eq_some_iff.mp h
    refine qa_bk_cv (qa_tX1_lineUp hR hc3) rfl rfl rfl rfl rfl rfl rfl (qa_ds0 hR) ?_
    refine qa_bk_do (pc' := 17) (lv' := [(2, _), (0, _), (1, _)]) rfl rfl ?_
    refine qa_bk_do (pc' := 18) rfl rfl ?_
    refine qa_bk_do (pc' := 19) (lv' := [(3, _), (2, _), (0, _), (1, _)]) rfl rfl ?_
    exact qa_bk_lw (qa_tX1_burnDownTo_19 hR _ _ _ _ _ h) rfl rfl (And.intro rfl (And.intro rfl (And.intro rfl (And.intro rfl (trivial)))))
  · refine qa_bk_1f (a := 12) (b := 11) hc1 rfl rfl ?_
    cases h
    exact qa_bk_re rfl rfl rfl
