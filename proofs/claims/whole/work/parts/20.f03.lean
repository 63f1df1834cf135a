/-! the methods as functions (written by wip/tools/gen.py) -/
noncomputable def qa_fX1_obeyInsert_23 (R : Nat) (a1 : Int32) (σ : qa_T) : Option (Bool × qa_T) :=
    some (false, σ)
noncomputable def qa_fX1_obeyInsert (R : Nat) (a1 : Int32) (σ : qa_T) : Option (Bool × qa_T) :=
    if (qa_bi (qa_fX6_has R a1 σ)) = 0 then
      qa_fX1_obeyInsert_23 R a1 σ
    else
      if (σ.1 (R, 9) 0) < ((Int8.ofInt 24).toInt32) then
        (qa_fX3_put R (σ.1 (R, 9) 0) a1 σ).bind fun c3 =>
        (qa_fX1_beginLoading R c3).bind fun c5 =>
        some (true, c5)
      else
        qa_fX1_obeyInsert_23 R a1 σ
set_option maxRecDepth 100000 in
theorem qa_tX1_obeyInsert_23 {L : Nat} {R : Nat} {a1 : Int32} (hR : qa_rg R) {σ : qa_T} {r : (Bool × qa_T)} (h : qa_fX1_obeyInsert_23 R a1 σ = some r) : qa_Bk (qa_ds L) qa_mX1_obeyInsert 23 [(0, .inl (R, 0)), (1, .inr (.int a1))] [] σ (.inl (some (.inr (.int (qa_bi r.1))))) r.2 := by
  unfold qa_fX1_obeyInsert_23 at h
  try dsimp only at h
  refine qa_bk_do (pc' := 24) rfl rfl ?_
  cases h
  exact qa_bk_rb rfl rfl rfl
set_option maxRecDepth 100000 in
theorem qa_tX1_obeyInsert {L : Nat} {R : Nat} {a1 : Int32} (hR : qa_rg R) {σ : qa_T} {r : (Bool × qa_T)} (h : qa_fX1_obeyInsert R a1 σ = some r) : qa_Bk (qa_ds L) qa_mX1_obeyInsert 0 (qa_ag 0 [.inl (R, 0), .inr (.int a1)]) [] σ (.inl (some (.inr (.int (qa_bi r.1))))) r.2 := by
  unfold qa_fX1_obeyInsert at h
  try dsimp only at h
  show qa_Bk (qa_ds L) qa_mX1_obeyInsert 0 [(0, .inl (R, 0)), (1, .inr (.int a1))] [] σ _ _
  refine qa_bk_do (pc' := 1) rfl rfl ?_
  refine qa_bk_gr rfl rfl (qa_ds0 hR) rfl ?_
  refine qa_bk_do (pc' := 5) rfl rfl ?_
  refine qa_bk_cv (qa_tX6_has hR rfl) rfl rfl rfl rfl rfl rfl rfl (qa_ds1 hR) ?_
  rcases qa_ite h with ⟨hc1, h⟩ | ⟨hc1, h⟩
  · refine qa_bk_1t (a := 23) (b := 11) hc1 rfl rfl ?_
    exact qa_bk_lw (qa_tX1_obeyInsert_23 hR h) rfl rfl (And.intro rfl (And.intro rfl (trivial)))
  · refine qa_bk_1f (a := 23) (b := 11) hc1 rfl rfl ?_
    refine qa_bk_do (pc' := 12) rfl rfl ?_
    refine qa_bk_gr rfl rfl (qa_ds0 hR) rfl ?_
    refine qa_bk_gi rfl rfl (qa_ds9 hR) rfl ?_
    refine qa_bk_do (pc' := 20) rfl rfl ?_
    rcases qa_ite h with ⟨hc2, h⟩ | ⟨hc2, h⟩
    · refine qa_bk_1t (a := 25) (b := 23) hc2 rfl rfl ?_
      refine qa_bk_do (pc' := 26) rfl rfl ?_
      refine qa_bk_gr rfl rfl (qa_ds0 hR) rfl ?_
      refine qa_bk_do (pc' := 30) rfl rfl ?_
      refine qa_bk_gr rfl rfl (qa_ds0 hR) rfl ?_
      refine qa_bk_gi rfl rfl (qa_ds9 hR) rfl ?_
      refine qa_bk_do (pc' := 37) rfl rfl ?_
      obtain ⟨c3, hc4, h⟩ := Option.bind_eq_some_iff.mp h
      refine qa_bk_cv (qa_tX3_put hR hc4) rfl rfl rfl rfl rfl rfl rfl (qa_ds9 hR) ?_
      refine qa_bk_do (pc' := 41) rfl rfl ?_
      obtain ⟨c5, hc6, h⟩ := Option.bind_eq_some_iff.mp h
      refine qa_bk_cv (qa_tX1_beginLoading hR hc6) rfl rfl rfl rfl rfl rfl rfl (qa_ds0 hR) ?_
      refine qa_bk_do (pc' := 45) rfl rfl ?_
      cases h
      exact qa_bk_rb rfl rfl rfl
    · refine qa_bk_1f (a := 25) (b := 23) hc2 rfl rfl ?_
      exact qa_bk_lw (qa_tX1_obeyInsert_23 hR h) rfl rfl (And.intro rfl (And.intro rfl (trivial)))
noncomputable def qa_fX6_coolEmbers_44 (R : Nat) (σ : qa_T) : Option qa_T :=
    some σ
noncomputable def qa_fX6_coolEmbers_38 (R : Nat) (k2 : Int32 → qa_T → Option qa_T) (x1 : Int32) (σ : qa_T) : Option qa_T :=
    let v5 : Int32 := x1 + Int32.ofInt 1
    k2 v5 σ
noncomputable def qa_fX6_coolEmbers_2 (R : Nat) : Nat → Int32 → qa_T → Option qa_T
  | 0, _, _ => none
  | n + 1, x1, σ =>
    if (σ.1 (R, 1) 0) ≤ x1 then
      qa_fX6_coolEmbers_44 R σ
    else
      if Int32.ofNat 16 ≤ x1 then
        qa_fX6_coolEmbers_44 R σ
      else
        if ¬ qa_in x1 16 = true then none else
        if (σ.1 (R, 6) (x1).toNatClampNeg) ≤ 0 then
          qa_fX6_coolEmbers_38 R (qa_fX6_coolEmbers_2 R n) x1 σ
        else
          if ¬ qa_in x1 16 = true then none else
          if ¬ qa_in x1 16 = true then none else
          let σ8 := qa_wi σ (R, 6) (x1).toNatClampNeg ((σ.1 (R, 6) (x1).toNatClampNeg) - (Int32.ofInt 1))
          qa_fX6_coolEmbers_38 R (qa_fX6_coolEmbers_2 R n) x1 σ8
noncomputable def qa_fX6_coolEmbers (R : Nat) (σ : qa_T) : Option qa_T :=
    qa_fX6_coolEmbers_2 R qa_fu (Int32.ofInt 0) σ
set_option maxRecDepth 100000 in
theorem qa_tX6_coolEmbers_44 {L : Nat} {R : Nat} (hR : qa_rg R) {σ : qa_T} {r : qa_T} (h : qa_fX6_coolEmbers_44 R σ = some r) : qa_Bk (qa_ds L) qa_mX6_coolEmbers 44 [(0, .inl (R, 1))] [] σ (.inl none) r := by
  unfold qa_fX6_coolEmbers_44 at h
  try dsimp only at h
  cases h
  exact qa_bk_re rfl rfl rfl
set_option maxRecDepth 100000 in
theorem qa_tX6_coolEmbers_38 {L : Nat} {R : Nat} (hR : qa_rg R) {k2 : Int32 → qa_T → Option qa_T} (K2 : ∀ (x1 : Int32) (σ : qa_T) (r : qa_T), k2 x1 σ = some r → qa_Bk (qa_ds L) qa_mX6_coolEmbers 2 [(0, .inl (R, 1)), (1, .inr (.int x1))] [] σ (.inl none) r) {x1 : Int32} {σ : qa_T} {r : qa_T} (h : qa_fX6_coolEmbers_38 R k2 x1 σ = some r) : qa_Bk (qa_ds L) qa_mX6_coolEmbers 38 [(0, .inl (R, 1)), (1, .inr (.int x1))] [] σ (.inl none) r := by
  unfold qa_fX6_coolEmbers_38 at h
  try dsimp only at h
  refine qa_bk_do (pc' := 41) (lv' := [(1, _), (0, _)]) rfl rfl ?_
  refine qa_bk_do (pc' := 2) rfl rfl ?_
  exact qa_bk_lw (K2 _ _ _ h) rfl rfl (And.intro rfl (And.intro rfl (trivial)))
set_option maxRecDepth 100000 in
theorem qa_tX6_coolEmbers_2 {L : Nat} {R : Nat} (hR : qa_rg R) : ∀ (n : Nat) (x1 : Int32) (σ : qa_T) (r : qa_T), qa_fX6_coolEmbers_2 R n x1 σ = some r → qa_Bk (qa_ds L) qa_mX6_coolEmbers 2 [(0, .inl (R, 1)), (1, .inr (.int x1))] [] σ (.inl none) r := by
  intro n
  induction n with
  | zero => intro x1 σ r h; cases h
  | succ n ih =>
    intro x1 σ r h
    unfold qa_fX6_coolEmbers_2 at h
    try dsimp only at h
    refine qa_bk_do (pc' := 3) rfl rfl ?_
    refine qa_bk_do (pc' := 4) rfl rfl ?_
    refine qa_bk_gi rfl rfl (qa_ds1 hR) rfl ?_
    rcases qa_ite h with ⟨hc1, h⟩ | ⟨hc1, h⟩
    · refine qa_bk_1t (a := 44) (b := 10) hc1 rfl rfl ?_
      exact qa_bk_lw (qa_tX6_coolEmbers_44 hR h) rfl rfl (And.intro rfl (trivial))
    · refine qa_bk_1f (a := 44) (b := 10) hc1 rfl rfl ?_
      refine qa_bk_do (pc' := 11) rfl rfl ?_
      refine qa_bk_do (pc' := 12) rfl rfl ?_
      refine qa_bk_gr rfl rfl (qa_ds1 hR) rfl ?_
      refine qa_bk_al rfl (qa_ds6 hR) (Or.inl (by decide)) ?_
      rcases qa_ite h with ⟨hc2, h⟩ | ⟨hc2, h⟩
      · refine qa_bk_1t (a := 44) (b := 19) hc2 rfl rfl ?_
        exact qa_bk_lw (qa_tX6_coolEmbers_44 hR h) rfl rfl (And.intro rfl (trivial))
      · refine qa_bk_1f (a := 44) (b := 19) hc2 rfl rfl ?_
        refine qa_bk_do (pc' := 20) rfl rfl ?_
        refine qa_bk_gr rfl rfl (qa_ds1 hR) rfl ?_
        refine qa_bk_do (pc' := 24) rfl rfl ?_
        rcases qa_ite h with ⟨_, h⟩ | ⟨hc3, h⟩
        · cases h
        refine qa_bk_ia rfl (qa_ds6 hR) (Or.inl rfl) (Decidable.of_not_not hc3) ?_
        rcases qa_ite h with ⟨hc4, h⟩ | ⟨hc4, h⟩
        · refine qa_bk_1t (a := 38) (b := 28) hc4 rfl rfl ?_
          exact qa_bk_lw (qa_tX6_coolEmbers_38 hR ih h) rfl rfl (And.intro rfl (And.intro rfl (trivial)))
        · refine qa_bk_1f (a := 38) (b := 28) hc4 rfl rfl ?_
          refine qa_bk_do (pc' := 29) rfl rfl ?_
          refine qa_bk_gr rfl rfl (qa_ds1 hR) rfl ?_
          refine qa_bk_do (pc' := 33) rfl rfl ?_
          refine qa_bk_do (pc' := 34) rfl rfl ?_
          rcases qa_ite h with ⟨_, h⟩ | ⟨hc6, h⟩
          · cases h
          refine qa_bk_ia rfl (qa_ds6 hR) (Or.inl rfl) (Decidable.of_not_not hc6) ?_
          refine qa_bk_do (pc' := 36) rfl rfl ?_
          refine qa_bk_do (pc' := 37) rfl rfl ?_
          rcases qa_ite h with ⟨_, h⟩ | ⟨hc7, h⟩
          · cases h
          refine qa_bk_is rfl (qa_ds6 hR) (Decidable.of_not_not hc7) ?_
          exact qa_bk_lw (qa_tX6_coolEmbers_38 hR ih h) rfl rfl (And.intro rfl (And.intro rfl (trivial)))
set_option maxRecDepth 100000 in
theorem qa_tX6_coolEmbers {L : Nat} {R : Nat} (hR : qa_rg R) {σ : qa_T} {r : qa_T} (h : qa_fX6_coolEmbers R σ = some r) : qa_Bk (qa_ds L) qa_mX6_coolEmbers 0 (qa_ag 0 [.inl (R, 1)]) [] σ (.inl none) r := by
  unfold qa_fX6_coolEmbers at h
  try dsimp only at h
  show qa_Bk (qa_ds L) qa_mX6_coolEmbers 0 [(0, .inl (R, 1))] [] σ _ _
  refine qa_bk_do (pc' := 1) rfl rfl ?_
  refine qa_bk_do (pc' := 2) (lv' := [(1, _), (0, _)]) rfl rfl ?_
  exact qa_bk_lw (qa_tX6_coolEmbers_2 hR _ _ _ _ h) rfl rfl (And.intro rfl (And.intro rfl (trivial)))
noncomputable def qa_fX7_fadeOnce_29 (R : Nat) (σ : qa_T) : qa_T :=
    σ
noncomputable def qa_fX7_fadeOnce_17 (R : Nat) (σ : qa_T) : qa_T :=
    if ¬ (σ.1 (R, 11) 3) = 0 then
      qa_fX7_fadeOnce_29 R σ
    else
      let σ3 := qa_wi σ (R, 11) 2 (Int32.ofInt (-1))
      qa_fX7_fadeOnce_29 R σ3
noncomputable def qa_fX7_fadeOnce (R : Nat) (σ : qa_T) : qa_T :=
    if (σ.1 (R, 11) 3) ≤ 0 then
      qa_fX7_fadeOnce_17 R σ
    else
      let σ4 := qa_wi σ (R, 11) 3 ((σ.1 (R, 11) 3) - (Int32.ofInt 1))
      qa_fX7_fadeOnce_17 R σ4
set_option maxRecDepth 100000 in
theorem qa_tX7_fadeOnce_29 {L : Nat} {R : Nat} (hR : qa_rg R) {σ : qa_T} {r : qa_T} (h : qa_fX7_fadeOnce_29 R σ = r) : qa_Bk (qa_ds L) qa_mX7_fadeOnce 29 [(0, .inl (R, 11))] [] σ (.inl none) r := by
  unfold qa_fX7_fadeOnce_29 at h
  try dsimp only at h
  subst h
  exact qa_bk_re rfl rfl rfl
set_option maxRecDepth 100000 in
theorem qa_tX7_fadeOnce_17 {L : Nat} {R : Nat} (hR : qa_rg R) {σ : qa_T} {r : qa_T} (h : qa_fX7_fadeOnce_17 R σ = r) : qa_Bk (qa_ds L) qa_mX7_fadeOnce 17 [(0, .inl (R, 11))] [] σ (.inl none) r := by
  unfold qa_fX7_fadeOnce_17 at h
  try dsimp only at h
  refine qa_bk_do (pc' := 18) rfl rfl ?_
  refine qa_bk_gi rfl rfl (qa_ds11 hR) rfl ?_
  rcases qa_ite h with ⟨hc2, h⟩ | ⟨hc2, h⟩
  · refine qa_bk_1t (a := 29) (b := 24) hc2 rfl rfl ?_
    exact qa_bk_lw (qa_tX7_fadeOnce_29 hR h) rfl rfl (And.intro rfl (trivial))
  · refine qa_bk_1f (a := 29) (b := 24) hc2 rfl rfl ?_
    refine qa_bk_do (pc' := 25) rfl rfl ?_
    refine qa_bk_do (pc' := 26) rfl rfl ?_
    refine qa_bk_pf rfl rfl (qa_ds11 hR) rfl (qa_fiti _) rfl ?_
    exact qa_bk_lw (qa_tX7_fadeOnce_29 hR h) rfl rfl (And.intro rfl (trivial))
set_option maxRecDepth 100000 in
theorem qa_tX7_fadeOnce {L : Nat} {R : Nat} (hR : qa_rg R) {σ : qa_T} {r : qa_T} (h : qa_fX7_fadeOnce R σ = r) : qa_Bk (qa_ds L) qa_mX7_fadeOnce 0 (qa_ag 0 [.inl (R, 11)]) [] σ (.inl none) r := by
  unfold qa_fX7_fadeOnce at h
  try dsimp only at h
  show qa_Bk (qa_ds L) qa_mX7_fadeOnce 0 [(0, .inl (R, 11))] [] σ _ _
  refine qa_bk_do (pc' := 1) rfl rfl ?_
  refine qa_bk_gi rfl rfl (qa_ds11 hR) rfl ?_
  rcases qa_ite h with ⟨hc1, h⟩ | ⟨hc1, h⟩
  · refine qa_bk_1t (a := 17) (b := 7) hc1 rfl rfl ?_
    exact qa_bk_lw (qa_tX7_fadeOnce_17 hR h) rfl rfl (And.intro rfl (trivial))
  · refine qa_bk_1f (a := 17) (b := 7) hc1 rfl rfl ?_
    refine qa_bk_do (pc' := 8) rfl rfl ?_
    refine qa_bk_do (pc' := 9) rfl rfl ?_
    refine qa_bk_gi rfl rfl (qa_ds11 hR) rfl ?_
    refine qa_bk_do (pc' := 13) rfl rfl ?_
    refine qa_bk_do (pc' := 14) rfl rfl ?_
    refine qa_bk_pf rfl rfl (qa_ds11 hR) rfl (qa_fiti _) rfl ?_
    exact qa_bk_lw (qa_tX7_fadeOnce_17 hR h) rfl rfl (And.intro rfl (trivial))
noncomputable def qa_fX7_countShown_18 (R : Nat) (σ : qa_T) : qa_T :=
    σ
noncomputable def qa_fX7_countShown (R : Nat) (σ : qa_T) : qa_T :=
    if (σ.1 (R, 11) 0) = (Int32.ofInt (-1)) then
      qa_fX7_countShown_18 R σ
    else
      let σ2 := qa_wi σ (R, 11) 1 ((σ.1 (R, 11) 1) + (Int32.ofInt 1))
      qa_fX7_countShown_18 R σ2
set_option maxRecDepth 100000 in
theorem qa_tX7_countShown_18 {L : Nat} {R : Nat} (hR : qa_rg R) {σ : qa_T} {r : qa_T} (h : qa_fX7_countShown_18 R σ = r) : qa_Bk (qa_ds L) qa_mX7_countShown 18 [(0, .inl (R, 11))] [] σ (.inl none) r := by
  unfold qa_fX7_countShown_18 at h
  try dsimp only at h
  subst h
  exact qa_bk_re rfl rfl rfl
set_option maxRecDepth 100000 in
theorem qa_tX7_countShown {L : Nat} {R : Nat} (hR : qa_rg R) {σ : qa_T} {r : qa_T} (h : qa_fX7_countShown R σ = r) : qa_Bk (qa_ds L) qa_mX7_countShown 0 (qa_ag 0 [.inl (R, 11)]) [] σ (.inl none) r := by
  unfold qa_fX7_countShown at h
  try dsimp only at h
  show qa_Bk (qa_ds L) qa_mX7_countShown 0 [(0, .inl (R, 11))] [] σ _ _
  refine qa_bk_do (pc' := 1) rfl rfl ?_
  refine qa_bk_gi rfl rfl (qa_ds11 hR) rfl ?_
  refine qa_bk_do (pc' := 5) rfl rfl ?_
  rcases qa_ite h with ⟨hc1, h⟩ | ⟨hc1, h⟩
  · refine qa_bk_1t (a := 18) (b := 8) hc1 rfl rfl ?_
    exact qa_bk_lw (qa_tX7_countShown_18 hR h) rfl rfl (And.intro rfl (trivial))
  · refine qa_bk_1f (a := 18) (b := 8) hc1 rfl rfl ?_
    refine qa_bk_do (pc' := 9) rfl rfl ?_
    refine qa_bk_do (pc' := 10) rfl rfl ?_
    refine qa_bk_gi rfl rfl (qa_ds11 hR) rfl ?_
    refine qa_bk_do (pc' := 14) rfl rfl ?_
    refine qa_bk_do (pc' := 15) rfl rfl ?_
    refine qa_bk_pf rfl rfl (qa_ds11 hR) rfl (qa_fiti _) rfl ?_
    exact qa_bk_lw (qa_tX7_countShown_18 hR h) rfl rfl (And.intro rfl (trivial))
noncomputable def qa_fX1_loadOnce (R : Nat) (σ : qa_T) : (Bool × qa_T) :=
    let v1 : Int32 := (σ.1 (R, 12) 0)
    if ¬ v1 = (Int32.ofInt (-1)) then
      let σ3 := qa_wi σ (R, 12) 1 ((σ.1 (R, 12) 1) - (Int32.ofInt 1))
      if (σ3.1 (R, 12) 1) ≤ 0 then
        let σ5 := qa_wi σ3 (R, 12) 0 (Int32.ofInt (-1))
        let σ6 := qa_fX6_setReady R v1 true σ5
        let σ7 := qa_fX6_use R v1 σ6
        if (σ7.1 (R, 11) 4) = v1 then
          let σ9 := qa_fX1_bringOn R v1 σ7
          (true, σ9)
        else
          (false, σ7)
      else
        (false, σ3)
    else
      (false, σ)
set_option maxRecDepth 100000 in
theorem qa_tX1_loadOnce {L : Nat} {R : Nat} (hR : qa_rg R) {σ : qa_T} {r : (Bool × qa_T)} (h : qa_fX1_loadOnce R σ = r) : qa_Bk (qa_ds L) qa_mX1_loadOnce 0 (qa_ag 0 [.inl (R, 0)]) [] σ (.inl (some (.inr (.int (qa_bi r.1))))) r.2 := by
  unfold qa_fX1_loadOnce at h
  try dsimp only at h
  show qa_Bk (qa_ds L) qa_mX1_loadOnce 0 [(0, .inl (R, 0))] [] σ _ _
  refine qa_bk_do (pc' := 1) rfl rfl ?_
  refine qa_bk_gr rfl rfl (qa_ds0 hR) rfl ?_
  refine qa_bk_gi rfl rfl (qa_ds12 hR) rfl ?_
  refine qa_bk_do (pc' := 8) (lv' := [(1, _), (0, _)]) rfl rfl ?_
  refine qa_bk_do (pc' := 9) rfl rfl ?_
  refine qa_bk_do (pc' := 10) rfl rfl ?_
  rcases qa_ite h with ⟨hc2, h⟩ | ⟨hc2, h⟩
  · refine qa_bk_1t (a := 15) (b := 13) hc2 rfl rfl ?_
    refine qa_bk_do (pc' := 16) rfl rfl ?_
    refine qa_bk_gr rfl rfl (qa_ds0 hR) rfl ?_
    refine qa_bk_do (pc' := 20) rfl rfl ?_
    refine qa_bk_gi rfl rfl (qa_ds12 hR) rfl ?_
    refine qa_bk_do (pc' := 24) rfl rfl ?_
    refine qa_bk_do (pc' := 25) rfl rfl ?_
    refine qa_bk_pf rfl rfl (qa_ds12 hR) rfl (qa_fiti _) rfl ?_
    refine qa_bk_do (pc' := 29) rfl rfl ?_
    refine qa_bk_gr rfl rfl (qa_ds0 hR) rfl ?_
    refine qa_bk_gi rfl rfl (qa_ds12 hR) rfl ?_
    rcases qa_ite h with ⟨hc4, h⟩ | ⟨hc4, h⟩
    · refine qa_bk_1t (a := 40) (b := 38) hc4 rfl rfl ?_
      refine qa_bk_do (pc' := 41) rfl rfl ?_
      refine qa_bk_gr rfl rfl (qa_ds0 hR) rfl ?_
      refine qa_bk_do (pc' := 45) rfl rfl ?_
      refine qa_bk_pf rfl rfl (qa_ds12 hR) rfl (qa_fiti _) rfl ?_
      refine qa_bk_do (pc' := 49) rfl rfl ?_
      refine qa_bk_gr rfl rfl (qa_ds0 hR) rfl ?_
      refine qa_bk_do (pc' := 53) rfl rfl ?_
      refine qa_bk_do (pc' := 54) rfl rfl ?_
      refine qa_bk_cv (qa_tX6_setReady (a2 := true) hR rfl) rfl rfl rfl rfl rfl rfl rfl (qa_ds1 hR) ?_
      refine qa_bk_do (pc' := 58) rfl rfl ?_
      refine qa_bk_gr rfl rfl (qa_ds0 hR) rfl ?_
      refine qa_bk_do (pc' := 62) rfl rfl ?_
      refine qa_bk_cv (qa_tX6_use hR rfl) rfl rfl rfl rfl rfl rfl rfl (qa_ds1 hR) ?_
      refine qa_bk_do (pc' := 66) rfl rfl ?_
      refine qa_bk_gr rfl rfl (qa_ds0 hR) rfl ?_
      refine qa_bk_gi rfl rfl (qa_ds11 hR) rfl ?_
      refine qa_bk_do (pc' := 73) rfl rfl ?_
      rcases qa_ite h with ⟨hc8, h⟩ | ⟨hc8, h⟩
      · refine qa_bk_1t (a := 78) (b := 76) hc8 rfl rfl ?_
        refine qa_bk_do (pc' := 79) rfl rfl ?_
        refine qa_bk_do (pc' := 80) rfl rfl ?_
        refine qa_bk_cv (qa_tX1_bringOn hR rfl) rfl rfl rfl rfl rfl rfl rfl (qa_ds0 hR) ?_
        refine qa_bk_do (pc' := 84) rfl rfl ?_
        subst h
        exact qa_bk_rb rfl rfl rfl
      · refine qa_bk_1f (a := 78) (b := 76) hc8 rfl rfl ?_
        refine qa_bk_do (pc' := 77) rfl rfl ?_
        subst h
        exact qa_bk_rb rfl rfl rfl
    · refine qa_bk_1f (a := 40) (b := 38) hc4 rfl rfl ?_
      refine qa_bk_do (pc' := 39) rfl rfl ?_
      subst h
      exact qa_bk_rb rfl rfl rfl
  · refine qa_bk_1f (a := 15) (b := 13) hc2 rfl rfl ?_
    refine qa_bk_do (pc' := 14) rfl rfl ?_
    subst h
    exact qa_bk_rb rfl rfl rfl
noncomputable def qa_fX1_paceIsReached_49 (R : Nat) (σ : qa_T) : Bool :=
    false
noncomputable def qa_fX1_paceIsReached (R : Nat) (σ : qa_T) : Bool :=
    if (σ.1 (R, 14) 4) ≤ 0 then
      qa_fX1_paceIsReached_49 R σ
    else
      if (qa_bi (qa_fX1_mayGoOn R σ)) = 0 then
        qa_fX1_paceIsReached_49 R σ
      else
        if (σ.1 (R, 11) 0) = (Int32.ofInt (-1)) then
          qa_fX1_paceIsReached_49 R σ
        else
          if (σ.1 (R, 11) 1) < (σ.1 (R, 14) 4) then
            qa_fX1_paceIsReached_49 R σ
          else
            true
set_option maxRecDepth 100000 in
theorem qa_tX1_paceIsReached_49 {L : Nat} {R : Nat} (hR : qa_rg R) {σ : qa_T} {r : Bool} (h : qa_fX1_paceIsReached_49 R σ = r) : qa_Bk (qa_ds L) qa_mX1_paceIsReached 49 [(0, .inl (R, 0))] [] σ (.inl (some (.inr (.int (qa_bi r))))) σ := by
  unfold qa_fX1_paceIsReached_49 at h
  try dsimp only at h
  refine qa_bk_do (pc' := 50) rfl rfl ?_
  subst h
  exact qa_bk_rb rfl rfl rfl
set_option maxRecDepth 100000 in
theorem qa_tX1_paceIsReached {L : Nat} {R : Nat} (hR : qa_rg R) {σ : qa_T} {r : Bool} (h : qa_fX1_paceIsReached R σ = r) : qa_Bk (qa_ds L) qa_mX1_paceIsReached 0 (qa_ag 0 [.inl (R, 0)]) [] σ (.inl (some (.inr (.int (qa_bi r))))) σ := by
  unfold qa_fX1_paceIsReached at h
  try dsimp only at h
  show qa_Bk (qa_ds L) qa_mX1_paceIsReached 0 [(0, .inl (R, 0))] [] σ _ _
  refine qa_bk_do (pc' := 1) rfl rfl ?_
  refine qa_bk_gr rfl rfl (qa_ds0 hR) rfl ?_
  refine qa_bk_gi rfl rfl (qa_ds14 hR) rfl ?_
  rcases qa_ite h with ⟨hc1, h⟩ | ⟨hc1, h⟩
  · refine qa_bk_1t (a := 49) (b := 10) hc1 rfl rfl ?_
    exact qa_bk_lw (qa_tX1_paceIsReached_49 hR h) rfl rfl (And.intro rfl (trivial))
  · refine qa_bk_1f (a := 49) (b := 10) hc1 rfl rfl ?_
    refine qa_bk_do (pc' := 11) rfl rfl ?_
    refine qa_bk_cv (qa_tX1_mayGoOn hR rfl) rfl rfl rfl rfl rfl rfl rfl (qa_ds0 hR) ?_
    rcases qa_ite h with ⟨hc2, h⟩ | ⟨hc2, h⟩
    · refine qa_bk_1t (a := 49) (b := 17) hc2 rfl rfl ?_
      exact qa_bk_lw (qa_tX1_paceIsReached_49 hR h) rfl rfl (And.intro rfl (trivial))
    · refine qa_bk_1f (a := 49) (b := 17) hc2 rfl rfl ?_
      refine qa_bk_do (pc' := 18) rfl rfl ?_
      refine qa_bk_gr rfl rfl (qa_ds0 hR) rfl ?_
      refine qa_bk_gi rfl rfl (qa_ds11 hR) rfl ?_
      refine qa_bk_do (pc' := 25) rfl rfl ?_
      rcases qa_ite h with ⟨hc3, h⟩ | ⟨hc3, h⟩
      · refine qa_bk_1t (a := 49) (b := 28) hc3 rfl rfl ?_
        exact qa_bk_lw (qa_tX1_paceIsReached_49 hR h) rfl rfl (And.intro rfl (trivial))
      · refine qa_bk_1f (a := 49) (b := 28) hc3 rfl rfl ?_
        refine qa_bk_do (pc' := 29) rfl rfl ?_
        refine qa_bk_gr rfl rfl (qa_ds0 hR) rfl ?_
        refine qa_bk_gi rfl rfl (qa_ds11 hR) rfl ?_
        refine qa_bk_do (pc' := 36) rfl rfl ?_
        refine qa_bk_gr rfl rfl (qa_ds0 hR) rfl ?_
        refine qa_bk_gi rfl rfl (qa_ds14 hR) rfl ?_
        rcases qa_ite h with ⟨hc4, h⟩ | ⟨hc4, h⟩
        · refine qa_bk_1t (a := 49) (b := 45) hc4 rfl rfl ?_
          exact qa_bk_lw (qa_tX1_paceIsReached_49 hR h) rfl rfl (And.intro rfl (trivial))
        · refine qa_bk_1f (a := 49) (b := 45) hc4 rfl rfl ?_
          refine qa_bk_do (pc' := 46) rfl rfl ?_
          refine qa_bk_do (pc' := 50) rfl rfl ?_
          subst h
          exact qa_bk_rb rfl rfl rfl
noncomputable def qa_fX1_passTick_87 (R : Nat) (x1 : Int32) (σ : qa_T) : Option (Int32 × qa_T) :=
    (qa_fX1_beginLoading R σ).bind fun c10 =>
    some (x1, c10)
noncomputable def qa_fX1_passTick_70 (R : Nat) (x1 : Int32) (σ : qa_T) : Option (Int32 × qa_T) :=
    if (qa_bi (qa_fX1_paceIsReached R σ)) = 0 then
      qa_fX1_passTick_87 R x1 σ
    else
      (qa_fX1_proceed R σ).bind fun c12 =>
      if (qa_bi c12.1) = 0 then
        qa_fX1_passTick_87 R x1 c12.2
      else
        let v15 : Int32 := x1 + Int32.ofInt 1
        qa_fX1_passTick_87 R v15 c12.2
noncomputable def qa_fX1_passTick_39 (R : Nat) (x1 : Int32) (σ : qa_T) : Option (Int32 × qa_T) :=
    (qa_fX6_coolEmbers R σ).bind fun c3 =>
    let σ5 := qa_fX7_fadeOnce R c3
    let σ6 := qa_fX7_countShown R σ5
    let c7 := qa_fX1_loadOnce R σ6
    if (qa_bi c7.1) = 0 then
      qa_fX1_passTick_70 R x1 c7.2
    else
      let v16 : Int32 := x1 + Int32.ofInt 1
      qa_fX1_passTick_70 R v16 c7.2
noncomputable def qa_fX1_passTick (R : Nat) (σ : qa_T) : Option (Int32 × qa_T) :=
    let σ1 := qa_wi σ (R, 15) 0 ((σ.1 (R, 15) 0) + (Int32.ofInt 1))
    if (σ1.1 (R, 11) 4) = (Int32.ofInt (-1)) then
      qa_fX1_passTick_39 R (Int32.ofInt 0) σ1
    else
      let σ17 := qa_wi σ1 (R, 15) 6 ((σ1.1 (R, 15) 6) + (Int32.ofInt 1))
      qa_fX1_passTick_39 R (Int32.ofInt 0) σ17
set_option maxRecDepth 100000 in
theorem qa_tX1_passTick_87 {L : Nat} {R : Nat} (hR : qa_rg R) {x1 : Int32} {σ : qa_T} {r : (Int32 × qa_T)} (h : qa_fX1_passTick_87 R x1 σ = some r) : qa_Bk (qa_ds L) qa_mX1_passTick 87 [(0, .inl (R, 0)), (1, .inr (.int x1))] [] σ (.inl (some (.inr (.int r.1)))) r.2 := by
  unfold qa_fX1_passTick_87 at h
  try dsimp only at h
  refine qa_bk_do (pc' := 88) rfl rfl ?_
  obtain ⟨c10, hc11, h⟩ := Option.bind_eq_some_iff.mp h
  refine qa_bk_cv (qa_tX1_beginLoading hR hc11) rfl rfl rfl rfl rfl rfl rfl (qa_ds0 hR) ?_
  refine qa_bk_do (pc' := 92) rfl rfl ?_
  cases h
  exact qa_bk_ri rfl rfl
set_option maxRecDepth 100000 in
theorem qa_tX1_passTick_70 {L : Nat} {R : Nat} (hR : qa_rg R) {x1 : Int32} {σ : qa_T} {r : (Int32 × qa_T)} (h : qa_fX1_passTick_70 R x1 σ = some r) : qa_Bk (qa_ds L) qa_mX1_passTick 70 [(0, .inl (R, 0)), (1, .inr (.int x1))] [] σ (.inl (some (.inr (.int r.1)))) r.2 := by
  unfold qa_fX1_passTick_70 at h
  try dsimp only at h
  refine qa_bk_do (pc' := 71) rfl rfl ?_
  refine qa_bk_cv (qa_tX1_paceIsReached hR rfl) rfl rfl rfl rfl rfl rfl rfl (qa_ds0 hR) ?_
  rcases qa_ite h with ⟨hc9, h⟩ | ⟨hc9, h⟩
  · refine qa_bk_1t (a := 87) (b := 77) hc9 rfl rfl ?_
    exact qa_bk_lw (qa_tX1_passTick_87 hR h) rfl rfl (And.intro rfl (And.intro rfl (trivial)))
  · refine qa_bk_1f (a := 87) (b := 77) hc9 rfl rfl ?_
    refine qa_bk_do (pc' := 78) rfl rfl ?_
    obtain ⟨c12, hc13, h⟩ := Option.bind_eq_some_iff.mp h
    refine qa_bk_cv (qa_tX1_proceed hR hc13) rfl rfl rfl rfl rfl rfl rfl (qa_ds0 hR) ?_
    rcases qa_ite h with ⟨hc14, h⟩ | ⟨hc14, h⟩
    · refine qa_bk_1t (a := 87) (b := 84) hc14 rfl rfl ?_
      exact qa_bk_lw (qa_tX1_passTick_87 hR h) rfl rfl (And.intro rfl (And.intro rfl (trivial)))
    · refine qa_bk_1f (a := 87) (b := 84) hc14 rfl rfl ?_
      refine qa_bk_do (pc' := 87) (lv' := [(1, _), (0, _)]) rfl rfl ?_
      exact qa_bk_lw (qa_tX1_passTick_87 hR h) rfl rfl (And.intro rfl (And.intro rfl (trivial)))
set_option maxRecDepth 100000 in
theorem qa_tX1_passTick_39 {L : Nat} {R : Nat} (hR : qa_rg R) {x1 : Int32} {σ : qa_T} {r : (Int32 × qa_T)} (h : qa_fX1_passTick_39 R x1 σ = some r) : qa_Bk (qa_ds L) qa_mX1_passTick 39 [(0, .inl (R, 0)), (1, .inr (.int x1))] [] σ (.inl (some (.inr (.int r.1)))) r.2 := by
  unfold qa_fX1_passTick_39 at h
  try dsimp only at h
  refine qa_bk_do (pc' := 40) rfl rfl ?_
  refine qa_bk_gr rfl rfl (qa_ds0 hR) rfl ?_
  obtain ⟨c3, hc4, h⟩ := Option.bind_eq_some_iff.mp h
  refine qa_bk_cv (qa_tX6_coolEmbers hR hc4) rfl rfl rfl rfl rfl rfl rfl (qa_ds1 hR) ?_
  refine qa_bk_do (pc' := 47) rfl rfl ?_
  refine qa_bk_gr rfl rfl (qa_ds0 hR) rfl ?_
  refine qa_bk_cv (qa_tX7_fadeOnce hR rfl) rfl rfl rfl rfl rfl rfl rfl (qa_ds11 hR) ?_
  refine qa_bk_do (pc' := 54) rfl rfl ?_
  refine qa_bk_gr rfl rfl (qa_ds0 hR) rfl ?_
  refine qa_bk_cv (qa_tX7_countShown hR rfl) rfl rfl rfl rfl rfl rfl rfl (qa_ds11 hR) ?_
  refine qa_bk_do (pc' := 61) rfl rfl ?_
  refine qa_bk_cv (qa_tX1_loadOnce hR rfl) rfl rfl rfl rfl rfl rfl rfl (qa_ds0 hR) ?_
  rcases qa_ite h with ⟨hc8, h⟩ | ⟨hc8, h⟩
  · refine qa_bk_1t (a := 70) (b := 67) hc8 rfl rfl ?_
    exact qa_bk_lw (qa_tX1_passTick_70 hR h) rfl rfl (And.intro rfl (And.intro rfl (trivial)))
  · refine qa_bk_1f (a := 70) (b := 67) hc8 rfl rfl ?_
    refine qa_bk_do (pc' := 70) (lv' := [(1, _), (0, _)]) rfl rfl ?_
    exact qa_bk_lw (qa_tX1_passTick_70 hR h) rfl rfl (And.intro rfl (And.intro rfl (trivial)))
set_option maxRecDepth 100000 in
theorem qa_tX1_passTick {L : Nat} {R : Nat} (hR : qa_rg R) {σ : qa_T} {r : (Int32 × qa_T)} (h : qa_fX1_passTick R σ = some r) : qa_Bk (qa_ds L) qa_mX1_passTick 0 (qa_ag 0 [.inl (R, 0)]) [] σ (.inl (some (.inr (.int r.1)))) r.2 := by
  unfold qa_fX1_passTick at h
  try dsimp only at h
  show qa_Bk (qa_ds L) qa_mX1_passTick 0 [(0, .inl (R, 0))] [] σ _ _
  refine qa_bk_do (pc' := 1) rfl rfl ?_
  refine qa_bk_do (pc' := 2) (lv' := [(1, _), (0, _)]) rfl rfl ?_
  refine qa_bk_do (pc' := 3) rfl rfl ?_
  refine qa_bk_gr rfl rfl (qa_ds0 hR) rfl ?_
  refine qa_bk_do (pc' := 7) rfl rfl ?_
  refine qa_bk_gi rfl rfl (qa_ds15 hR) rfl ?_
  refine qa_bk_do (pc' := 11) rfl rfl ?_
  refine qa_bk_do (pc' := 12) rfl rfl ?_
  refine qa_bk_pf rfl rfl (qa_ds15 hR) rfl (qa_fiti _) rfl ?_
  refine qa_bk_do (pc' := 16) rfl rfl ?_
  refine qa_bk_gr rfl rfl (qa_ds0 hR) rfl ?_
  refine qa_bk_gi rfl rfl (qa_ds11 hR) rfl ?_
  refine qa_bk_do (pc' := 23) rfl rfl ?_
  rcases qa_ite h with ⟨hc2, h⟩ | ⟨hc2, h⟩
  · refine qa_bk_1t (a := 39) (b := 26) hc2 rfl rfl ?_
    exact qa_bk_lw (qa_tX1_passTick_39 hR h) rfl rfl (And.intro rfl (And.intro rfl (trivial)))
  · refine qa_bk_1f (a := 39) (b := 26) hc2 rfl rfl ?_
    refine qa_bk_do (pc' := 27) rfl rfl ?_
    refine qa_bk_gr rfl rfl (qa_ds0 hR) rfl ?_
    refine qa_bk_do (pc' := 31) rfl rfl ?_
    refine qa_bk_gi rfl rfl (qa_ds15 hR) rfl ?_
    refine qa_bk_do (pc' := 35) rfl rfl ?_
    refine qa_bk_do (pc' := 36) rfl rfl ?_
    refine qa_bk_pf rfl rfl (qa_ds15 hR) rfl (qa_fiti _) rfl ?_
    exact qa_bk_lw (qa_tX1_passTick_39 hR h) rfl rfl (And.intro rfl (And.intro rfl (trivial)))
noncomputable def qa_fX1_obey_77 (R : Nat) (a1 : Int32) (a2 : Int32) : Nat → Int32 → qa_T → Option (Bool × qa_T)
  | 0, _, _ => none
  | n + 1, x3, σ =>
    if a2 ≤ x3 then
      some (true, σ)
    else
      (qa_fX1_passTick R σ).bind fun c15 =>
      let v17 : Int32 := x3 + Int32.ofInt 1
      qa_fX1_obey_77 R a1 a2 n v17 c15.2
noncomputable def qa_fX1_obey (R : Nat) (a1 : Int32) (a2 : Int32) (σ : qa_T) : Option (Bool × qa_T) :=
    if a1 = 97 then
      (qa_fX1_obeyAsk R a2 σ).bind fun c2 =>
      some (c2.1, c2.2)
    else
    if a1 = 98 then
      (qa_fX1_obeyBurn R a2 σ).bind fun c5 =>
      some (c5.1, c5.2)
    else
    if a1 = 110 then
      (qa_fX1_obeyGoOn R σ).bind fun c8 =>
      some (c8.1, c8.2)
    else
    if a1 = 112 then
      (qa_fX1_obeyInsert R a2 σ).bind fun c11 =>
      some (c11.1, c11.2)
    else
    if a1 = 116 then
      qa_fX1_obey_77 R a1 a2 qa_fu (Int32.ofInt 0) σ
    else
      some (false, σ)
set_option maxRecDepth 100000 in
theorem qa_tX1_obey_77 {L : Nat} {R : Nat} {a1 : Int32} {a2 : Int32} (hR : qa_rg R) : ∀ (n : Nat) (x3 : Int32) (σ : qa_T) (r : (Bool × qa_T)), qa_fX1_obey_77 R a1 a2 n x3 σ = some r → qa_Bk (qa_ds L) qa_mX1_obey 77 [(0, .inl (R, 0)), (1, .inr (.int a1)), (2, .inr (.int a2)), (3, .inr (.int x3))] [] σ (.inl (some (.inr (.int (qa_bi r.1))))) r.2 := by
  intro n
  induction n with
  | zero => intro x3 σ r h; cases h
  | succ n ih =>
    intro x3 σ r h
    unfold qa_fX1_obey_77 at h
    try dsimp only at h
    refine qa_bk_do (pc' := 78) rfl rfl ?_
    refine qa_bk_do (pc' := 79) rfl rfl ?_
    rcases qa_ite h with ⟨hc14, h⟩ | ⟨hc14, h⟩
    · refine qa_bk_1t (a := 93) (b := 82) hc14 rfl rfl ?_
      refine qa_bk_do (pc' := 94) rfl rfl ?_
      cases h
      exact qa_bk_rb rfl rfl rfl
    · refine qa_bk_1f (a := 93) (b := 82) hc14 rfl rfl ?_
      refine qa_bk_do (pc' := 83) rfl rfl ?_
      obtain ⟨c15, hc16, h⟩ := Option.bind_eq_some_iff.mp h
      refine qa_bk_cv (qa_tX1_passTick hR hc16) rfl rfl rfl rfl rfl rfl rfl (qa_ds0 hR) ?_
      refine qa_bk_do (pc' := 87) rfl rfl ?_
      refine qa_bk_do (pc' := 90) (lv' := [(3, _), (0, _), (1, _), (2, _)]) rfl rfl ?_
      refine qa_bk_do (pc' := 77) rfl rfl ?_
      exact qa_bk_lw (ih _ _ _ h) rfl rfl (And.intro rfl (And.intro rfl (And.intro rfl (And.intro rfl (trivial)))))
set_option maxRecDepth 100000 in
theorem qa_tX1_obey {L : Nat} {R : Nat} {a1 : Int32} {a2 : Int32} (hR : qa_rg R) {σ : qa_T} {r : (Bool × qa_T)} (h : qa_fX1_obey R a1 a2 σ = some r) : qa_Bk (qa_ds L) qa_mX1_obey 0 (qa_ag 0 [.inl (R, 0), .inr (.int a1), .inr (.int a2)]) [] σ (.inl (some (.inr (.int (qa_bi r.1))))) r.2 := by
  unfold qa_fX1_obey at h
  try dsimp only at h
  show qa_Bk (qa_ds L) qa_mX1_obey 0 [(0, .inl (R, 0)), (1, .inr (.int a1)), (2, .inr (.int a2))] [] σ _ _
  refine qa_bk_do (pc' := 1) rfl rfl ?_
  rcases qa_ite h with ⟨hc1, h⟩ | ⟨hc1, h⟩
  · refine qa_bk_lk (pc' := 57) (off := 56) rfl rfl (by rw [hc1]; rfl) (by decide) rfl ?_
    refine qa_bk_do (pc' := 58) rfl rfl ?_
    refine qa_bk_do (pc' := 59) rfl rfl ?_
    obtain ⟨c2, hc3, h⟩ := Option.bind_eq_some_iff.mp h
    refine qa_bk_cv (qa_tX1_obeyAsk hR hc3) rfl rfl rfl rfl rfl rfl rfl (qa_ds0 hR) ?_
    cases h
    exact qa_bk_rb rfl rfl rfl
  rcases qa_ite h with ⟨hc4, h⟩ | ⟨hc4, h⟩
  · refine qa_bk_lk (pc' := 63) (off := 62) rfl rfl (by rw [hc4]; rfl) (by decide) rfl ?_
    refine qa_bk_do (pc' := 64) rfl rfl ?_
    refine qa_bk_do (pc' := 65) rfl rfl ?_
    obtain ⟨c5, hc6, h⟩ := Option.bind_eq_some_iff.mp h
    refine qa_bk_cv (qa_tX1_obeyBurn hR hc6) rfl rfl rfl rfl rfl rfl rfl (qa_ds0 hR) ?_
    cases h
    exact qa_bk_rb rfl rfl rfl
  rcases qa_ite h with ⟨hc7, h⟩ | ⟨hc7, h⟩
  · refine qa_bk_lk (pc' := 52) (off := 51) rfl rfl (by rw [hc7]; rfl) (by decide) rfl ?_
    refine qa_bk_do (pc' := 53) rfl rfl ?_
    obtain ⟨c8, hc9, h⟩ := Option.bind_eq_some_iff.mp h
    refine qa_bk_cv (qa_tX1_obeyGoOn hR hc9) rfl rfl rfl rfl rfl rfl rfl (qa_ds0 hR) ?_
    cases h
    exact qa_bk_rb rfl rfl rfl
  rcases qa_ite h with ⟨hc10, h⟩ | ⟨hc10, h⟩
  · refine qa_bk_lk (pc' := 69) (off := 68) rfl rfl (by rw [hc10]; rfl) (by decide) rfl ?_
    refine qa_bk_do (pc' := 70) rfl rfl ?_
    refine qa_bk_do (pc' := 71) rfl rfl ?_
    obtain ⟨c11, hc12, h⟩ := Option.bind_eq_some_iff.mp h
    refine qa_bk_cv (qa_tX1_obeyInsert hR hc12) rfl rfl rfl rfl rfl rfl rfl (qa_ds0 hR) ?_
    cases h
    exact qa_bk_rb rfl rfl rfl
  rcases qa_ite h with ⟨hc13, h⟩ | ⟨hc13, h⟩
  · refine qa_bk_lk (pc' := 75) (off := 74) rfl rfl (by rw [hc13]; rfl) (by decide) rfl ?_
    refine qa_bk_do (pc' := 76) rfl rfl ?_
    refine qa_bk_do (pc' := 77) (lv' := [(3, _), (0, _), (1, _), (2, _)]) rfl rfl ?_
    exact qa_bk_lw (qa_tX1_obey_77 hR _ _ _ _ h) rfl rfl (And.intro rfl (And.intro rfl (And.intro rfl (And.intro rfl (trivial)))))
  refine qa_bk_lk (pc' := 95) (off := 94) rfl rfl (qa_lk5 (lv_neT hc1 (by decide)) (lv_neT hc4 (by decide)) (lv_neT hc7 (by decide)) (lv_neT hc10 (by decide)) (lv_neT hc13 (by decide))) (by decide) rfl ?_
  refine qa_bk_do (pc' := 96) rfl rfl ?_
  cases h
  exact qa_bk_rb rfl rfl rfl
noncomputable def qa_fX1_passTicks_4 (R : Nat) (a1 : Int32) : Nat → Int32 → Int32 → qa_T → Option (Int32 × qa_T)
  | 0, _, _, _ => none
  | n + 1, x2, x3, σ =>
    if a1 ≤ x3 then
      some (x2, σ)
    else
      (qa_fX1_passTick R σ).bind fun c2 =>
      let v4 : Int32 := (x2 + c2.1)
      let v5 : Int32 := x3 + Int32.ofInt 1
      qa_fX1_passTicks_4 R a1 n v4 v5 c2.2
noncomputable def qa_fX1_passTicks (R : Nat) (a1 : Int32) (σ : qa_T) : Option (Int32 × qa_T) :=
    qa_fX1_passTicks_4 R a1 qa_fu (Int32.ofInt 0) (Int32.ofInt 0) σ
set_option maxRecDepth 100000 in
theorem qa_tX1_passTicks_4 {L : Nat} {R : Nat} {a1 : Int32} (hR : qa_rg R) : ∀ (n : Nat) (x2 : Int32) (x3 : Int32) (σ : qa_T) (r : (Int32 × qa_T)), qa_fX1_passTicks_4 R a1 n x2 x3 σ = some r → qa_Bk (qa_ds L) qa_mX1_passTicks 4 [(0, .inl (R, 0)), (1, .inr (.int a1)), (2, .inr (.int x2)), (3, .inr (.int x3))] [] σ (.inl (some (.inr (.int r.1)))) r.2 := by
  intro n
  induction n with
  | zero => intro x2 x3 σ r h; cases h
  | succ n ih =>
    intro x2 x3 σ r h
    unfold qa_fX1_passTicks_4 at h
    try dsimp only at h
    refine qa_bk_do (pc' := 5) rfl rfl ?_
    refine qa_bk_do (pc' := 6) rfl rfl ?_
    rcases qa_ite h with ⟨hc1, h⟩ | ⟨hc1, h⟩
    · refine qa_bk_1t (a := 22) (b := 9) hc1 rfl rfl ?_
      refine qa_bk_do (pc' := 23) rfl rfl ?_
      cases h
      exact qa_bk_ri rfl rfl
    · refine qa_bk_1f (a := 22) (b := 9) hc1 rfl rfl ?_
      refine qa_bk_do (pc' := 10) rfl rfl ?_
      refine qa_bk_do (pc' := 11) rfl rfl ?_
      obtain ⟨c2, hc3, h⟩ := Option.bind_eq_some_iff.mp h
      refine qa_bk_cv (qa_tX1_passTick hR hc3) rfl rfl rfl rfl rfl rfl rfl (qa_ds0 hR) ?_
      refine qa_bk_do (pc' := 15) rfl rfl ?_
      refine qa_bk_do (pc' := 16) (lv' := [(2, _), (0, _), (1, _), (3, _)]) rfl rfl ?_
      refine qa_bk_do (pc' := 19) (lv' := [(3, _), (2, _), (0, _), (1, _)]) rfl rfl ?_
      refine qa_bk_do (pc' := 4) rfl rfl ?_
      exact qa_bk_lw (ih _ _ _ _ h) rfl rfl (And.intro rfl (And.intro rfl (And.intro rfl (And.intro rfl (trivial)))))
set_option maxRecDepth 100000 in
theorem qa_tX1_passTicks {L : Nat} {R : Nat} {a1 : Int32} (hR : qa_rg R) {σ : qa_T} {r : (Int32 × qa_T)} (h : qa_fX1_passTicks R a1 σ = some r) : qa_Bk (qa_ds L) qa_mX1_passTicks 0 (qa_ag 0 [.inl (R, 0), .inr (.int a1)]) [] σ (.inl (some (.inr (.int r.1)))) r.2 := by
  unfold qa_fX1_passTicks at h
  try dsimp only at h
  show qa_Bk (qa_ds L) qa_mX1_passTicks 0 [(0, .inl (R, 0)), (1, .inr (.int a1))] [] σ _ _
  refine qa_bk_do (pc' := 1) rfl rfl ?_
  refine qa_bk_do (pc' := 2) (lv' := [(2, _), (0, _), (1, _)]) rfl rfl ?_
  refine qa_bk_do (pc' := 3) rfl rfl ?_
  refine qa_bk_do (pc' := 4) (lv' := [(3, _), (2, _), (0, _), (1, _)]) rfl rfl ?_
  exact qa_bk_lw (qa_tX1_passTicks_4 hR _ _ _ _ _ h) rfl rfl (And.intro rfl (And.intro rfl (And.intro rfl (And.intro rfl (trivial)))))
noncomputable def qa_fX1_placeInLine_7 (R : Nat) (a1 : Int32) : Nat → Int32 → Int32 → qa_T → Option (Int32 × qa_T)
  | 0, _, _, _ => none
  | n + 1, x2, x3, σ =>
    if x2 ≤ x3 then
      some ((Int32.ofInt (-1)), σ)
    else
      if ¬ (qa_fX9_at (R, 17) 16 x3 σ) = a1 then
        let v5 : Int32 := x3 + Int32.ofInt 1
        qa_fX1_placeInLine_7 R a1 n x2 v5 σ
      else
        some (x3, σ)
noncomputable def qa_fX1_placeInLine (R : Nat) (a1 : Int32) (σ : qa_T) : Option (Int32 × qa_T) :=
    (qa_fX1_lineUp R σ).bind fun c1 =>
    qa_fX1_placeInLine_7 R a1 qa_fu c1.1 (Int32.ofInt 0) c1.2
set_option maxRecDepth 100000 in
theorem qa_tX1_placeInLine_7 {L : Nat} {R : Nat} {a1 : Int32} (hR : qa_rg R) : ∀ (n : Nat) (x2 : Int32) (x3 : Int32) (σ : qa_T) (r : (Int32 × qa_T)), qa_fX1_placeInLine_7 R a1 n x2 x3 σ = some r → qa_Bk (qa_ds L) qa_mX1_placeInLine 7 [(0, .inl (R, 0)), (1, .inr (.int a1)), (2, .inr (.int x2)), (3, .inr (.int x3))] [] σ (.inl (some (.inr (.int r.1)))) r.2 := by
  intro n
  induction n with
  | zero => intro x2 x3 σ r h; cases h
  | succ n ih =>
    intro x2 x3 σ r h
    unfold qa_fX1_placeInLine_7 at h
    try dsimp only at h
    refine qa_bk_do (pc' := 8) rfl rfl ?_
    refine qa_bk_do (pc' := 9) rfl rfl ?_
    rcases qa_ite h with ⟨hc3, h⟩ | ⟨hc3, h⟩
    · refine qa_bk_1t (a := 32) (b := 12) hc3 rfl rfl ?_
      refine qa_bk_do (pc' := 33) rfl rfl ?_
      cases h
      exact qa_bk_ri rfl rfl
    · refine qa_bk_1f (a := 32) (b := 12) hc3 rfl rfl ?_
      refine qa_bk_do (pc' := 13) rfl rfl ?_
      refine qa_bk_gr rfl rfl (qa_ds0 hR) rfl ?_
      refine qa_bk_do (pc' := 17) rfl rfl ?_
      refine qa_bk_cs (qa_tX9_at (qa_ds17 hR) (Nat.le_of_ble_eq_true rfl) rfl) rfl rfl rfl rfl rfl rfl rfl ?_
      refine qa_bk_do (pc' := 21) rfl rfl ?_
      rcases qa_ite h with ⟨hc4, h⟩ | ⟨hc4, h⟩
      · refine qa_bk_1t (a := 26) (b := 24) hc4 rfl rfl ?_
        refine qa_bk_do (pc' := 29) (lv' := [(3, _), (0, _), (1, _), (2, _)]) rfl rfl ?_
        refine qa_bk_do (pc' := 7) rfl rfl ?_
        exact qa_bk_lw (ih _ _ _ _ h) rfl rfl (And.intro rfl (And.intro rfl (And.intro rfl (And.intro rfl (trivial)))))
      · refine qa_bk_1f (a := 26) (b := 24) hc4 rfl rfl ?_
        refine qa_bk_do (pc' := 25) rfl rfl ?_
        cases h
        exact qa_bk_ri rfl rfl
set_option maxRecDepth 100000 in
theorem qa_tX1_placeInLine {L : Nat} {R : Nat} {a1 : Int32} (hR : qa_rg R) {σ : qa_T} {r : (Int32 × qa_T)} (h : qa_fX1_placeInLine R a1 σ = some r) : qa_Bk (qa_ds L) qa_mX1_placeInLine 0 (qa_ag 0 [.inl (R, 0), .inr (.int a1)]) [] σ (.inl (some (.inr (.int r.1)))) r.2 := by
  unfold qa_fX1_placeInLine at h
  try dsimp only at h
  show qa_Bk (qa_ds L) qa_mX1_placeInLine 0 [(0, .inl (R, 0)), (1, .inr (.int a1))] [] σ _ _
  refine qa_bk_do (pc' := 1) rfl rfl ?_
  obtain ⟨c1, hc2, h⟩ := Option.bind_eq_some_iff.mp h
  refine qa_bk_cv (qa_tX1_lineUp hR hc2) rfl rfl rfl rfl rfl rfl rfl (qa_ds0 hR) ?_
  refine qa_bk_do (pc' := 5) (lv' := [(2, _), (0, _), (1, _)]) rfl rfl ?_
  refine qa_bk_do (pc' := 6) rfl rfl ?_
  refine qa_bk_do (pc' := 7) (lv' := [(3, _), (2, _), (0, _), (1, _)]) rfl rfl ?_
  exact qa_bk_lw (qa_tX1_placeInLine_7 hR _ _ _ _ _ h) rfl rfl (And.intro rfl (And.intro rfl (And.intro rfl (And.intro rfl (trivial)))))
noncomputable def qa_fX1_burningsToLoad_22 (R : Nat) (a1 : Int32) (σ : qa_T) : Option (Int32 × qa_T) :=
    some ((Int32.ofInt 0), σ)
noncomputable def qa_fX1_burningsToLoad_98 (R : Nat) (a1 : Int32) (x4 : Int32) (σ : qa_T) : Option (Int32 × qa_T) :=
    some (x4, σ)
noncomputable def qa_fX1_burningsToLoad_60 (R : Nat) (a1 : Int32) : Nat → Int32 → Int32 → Int32 → qa_T → Option (Int32 × qa_T)
  | 0, _, _, _, _ => none
  | n + 1, x2, x3, x4, σ =>
    if x3 ≤ x4 then
      qa_fX1_burningsToLoad_98 R a1 x4 σ
    else
      if x2 ≤ 0 then
        qa_fX1_burningsToLoad_98 R a1 x4 σ
      else
        let v8 : Int32 := (x2 - (qa_fX9_at (R, 2) 16 (qa_fX9_at (R, 17) 16 x4 σ) σ))
        let v9 : Int32 := x4 + Int32.ofInt 1
        qa_fX1_burningsToLoad_60 R a1 n v8 x3 v9 σ
noncomputable def qa_fX1_burningsToLoad (R : Nat) (a1 : Int32) (σ : qa_T) : Option (Int32 × qa_T) :=
    if ¬ (qa_bi (qa_fX6_isReady R a1 σ)) = 0 then
      qa_fX1_burningsToLoad_22 R a1 σ
    else
      if ¬ a1 = (σ.1 (R, 12) 0) then
        let v3 : Int32 := (((σ.1 (R, 12) 4) + (qa_fX9_at (R, 2) 16 a1 σ)) - (σ.1 (R, 14) 0))
        (qa_fX1_lineUp R σ).bind fun c4 =>
        qa_fX1_burningsToLoad_60 R a1 qa_fu v3 c4.1 (Int32.ofInt 0) c4.2
      else
        qa_fX1_burningsToLoad_22 R a1 σ
set_option maxRecDepth 100000 in
theorem qa_tX1_burningsToLoad_22 {L : Nat} {R : Nat} {a1 : Int32} (hR : qa_rg R) {σ : qa_T} {r : (Int32 × qa_T)} (h : qa_fX1_burningsToLoad_22 R a1 σ = some r) : qa_Bk (qa_ds L) qa_mX1_burningsToLoad 22 [(0, .inl (R, 0)), (1, .inr (.int a1))] [] σ (.inl (some (.inr (.int r.1)))) r.2 := by
  unfold qa_fX1_burningsToLoad_22 at h
  try dsimp only at h
  refine qa_bk_do (pc' := 23) rfl rfl ?_
  cases h
  exact qa_bk_ri rfl rfl
set_option maxRecDepth 100000 in
theorem qa_tX1_burningsToLoad_98 {L : Nat} {R : Nat} {a1 : Int32} (hR : qa_rg R) {x4 : Int32} {σ : qa_T} {r : (Int32 × qa_T)} (h : qa_fX1_burningsToLoad_98 R a1 x4 σ = some r) : qa_Bk (qa_ds L) qa_mX1_burningsToLoad 98 [(0, .inl (R, 0)), (1, .inr (.int a1)), (4, .inr (.int x4))] [] σ (.inl (some (.inr (.int r.1)))) r.2 := by
  unfold qa_fX1_burningsToLoad_98 at h
  try dsimp only at h
  refine qa_bk_do (pc' := 100) rfl rfl ?_
  cases h
  exact qa_bk_ri rfl rfl
set_option maxRecDepth 100000 in
theorem qa_tX1_burningsToLoad_60 {L : Nat} {R : Nat} {a1 : Int32} (hR : qa_rg R) : ∀ (n : Nat) (x2 : Int32) (x3 : Int32) (x4 : Int32) (σ : qa_T) (r : (Int32 × qa_T)), qa_fX1_burningsToLoad_60 R a1 n x2 x3 x4 σ = some r → qa_Bk (qa_ds L) qa_mX1_burningsToLoad 60 [(0, .inl (R, 0)), (1, .inr (.int a1)), (2, .inr (.int x2)), (3, .inr (.int x3)), (4, .inr (.int x4))] [] σ (.inl (some (.inr (.int r.1)))) r.2 := by
  intro n
  induction n with
  | zero => intro x2 x3 x4 σ r h; cases h
  | succ n ih =>
    intro x2 x3 x4 σ r h
    unfold qa_fX1_burningsToLoad_60 at h
    try dsimp only at h
    refine qa_bk_do (pc' := 62) rfl rfl ?_
    refine qa_bk_do (pc' := 63) rfl rfl ?_
    rcases qa_ite h with ⟨hc6, h⟩ | ⟨hc6, h⟩
    · refine qa_bk_1t (a := 98) (b := 66) hc6 rfl rfl ?_
      exact qa_bk_lw (qa_tX1_burningsToLoad_98 hR h) rfl rfl (And.intro rfl (And.intro rfl (And.intro rfl (trivial))))
    · refine qa_bk_1f (a := 98) (b := 66) hc6 rfl rfl ?_
      refine qa_bk_do (pc' := 67) rfl rfl ?_
      rcases qa_ite h with ⟨hc7, h⟩ | ⟨hc7, h⟩
      · refine qa_bk_1t (a := 98) (b := 70) hc7 rfl rfl ?_
        exact qa_bk_lw (qa_tX1_burningsToLoad_98 hR h) rfl rfl (And.intro rfl (And.intro rfl (And.intro rfl (trivial))))
      · refine qa_bk_1f (a := 98) (b := 70) hc7 rfl rfl ?_
        refine qa_bk_do (pc' := 71) rfl rfl ?_
        refine qa_bk_do (pc' := 72) rfl rfl ?_
        refine qa_bk_gr rfl rfl (qa_ds0 hR) rfl ?_
        refine qa_bk_gr rfl rfl (qa_ds1 hR) rfl ?_
        refine qa_bk_do (pc' := 79) rfl rfl ?_
        refine qa_bk_gr rfl rfl (qa_ds0 hR) rfl ?_
        refine qa_bk_do (pc' := 84) rfl rfl ?_
        refine qa_bk_cs (qa_tX9_at (qa_ds17 hR) (Nat.le_of_ble_eq_true rfl) rfl) rfl rfl rfl rfl rfl rfl rfl ?_
        refine qa_bk_cs (qa_tX9_at (qa_ds2 hR) (Nat.le_of_ble_eq_true rfl) rfl) rfl rfl rfl rfl rfl rfl rfl ?_
        refine qa_bk_do (pc' := 91) rfl rfl ?_
        refine qa_bk_do (pc' := 92) (lv' := [(2, _), (0, _), (1, _), (3, _), (4, _)]) rfl rfl ?_
        refine qa_bk_do (pc' := 95) (lv' := [(4, _), (2, _), (0, _), (1, _), (3, _)]) rfl rfl ?_
        refine qa_bk_do (pc' := 60) rfl rfl ?_
        exact qa_bk_lw (ih _ _ _ _ _ h) rfl rfl (And.intro rfl (And.intro rfl (And.intro rfl (And.intro rfl (And.intro rfl (trivial))))))
set_option maxRecDepth 100000 in
theorem qa_tX1_burningsToLoad {L : Nat} {R : Nat} {a1 : Int32} (hR : qa_rg R) {σ : qa_T} {r : (Int32 × qa_T)} (h : qa_fX1_burningsToLoad R a1 σ = some r) : qa_Bk (qa_ds L) qa_mX1_burningsToLoad 0 (qa_ag 0 [.inl (R, 0), .inr (.int a1)]) [] σ (.inl (some (.inr (.int r.1)))) r.2 := by
  unfold qa_fX1_burningsToLoad at h
  try dsimp only at h
  show qa_Bk (qa_ds L) qa_mX1_burningsToLoad 0 [(0, .inl (R, 0)), (1, .inr (.int a1))] [] σ _ _
  refine qa_bk_do (pc' := 1) rfl rfl ?_
  refine qa_bk_gr rfl rfl (qa_ds0 hR) rfl ?_
  refine qa_bk_do (pc' := 5) rfl rfl ?_
  refine qa_bk_cv (qa_tX6_isReady hR rfl) rfl rfl rfl rfl rfl rfl rfl (qa_ds1 hR) ?_
  rcases qa_ite h with ⟨hc1, h⟩ | ⟨hc1, h⟩
  · refine qa_bk_1t (a := 22) (b := 11) hc1 rfl rfl ?_
    exact qa_bk_lw (qa_tX1_burningsToLoad_22 hR h) rfl rfl (And.intro rfl (And.intro rfl (trivial)))
  · refine qa_bk_1f (a := 22) (b := 11) hc1 rfl rfl ?_
    refine qa_bk_do (pc' := 12) rfl rfl ?_
    refine qa_bk_do (pc' := 13) rfl rfl ?_
    refine qa_bk_gr rfl rfl (qa_ds0 hR) rfl ?_
    refine qa_bk_gi rfl rfl (qa_ds12 hR) rfl ?_
    rcases qa_ite h with ⟨hc2, h⟩ | ⟨hc2, h⟩
    · refine qa_bk_1t (a := 24) (b := 22) hc2 rfl rfl ?_
      refine qa_bk_do (pc' := 25) rfl rfl ?_
      refine qa_bk_gr rfl rfl (qa_ds0 hR) rfl ?_
      refine qa_bk_gi rfl rfl (qa_ds12 hR) rfl ?_
      refine qa_bk_do (pc' := 32) rfl rfl ?_
      refine qa_bk_gr rfl rfl (qa_ds0 hR) rfl ?_
      refine qa_bk_gr rfl rfl (qa_ds1 hR) rfl ?_
      refine qa_bk_do (pc' := 39) rfl rfl ?_
      refine qa_bk_cs (qa_tX9_at (qa_ds2 hR) (Nat.le_of_ble_eq_true rfl) rfl) rfl rfl rfl rfl rfl rfl rfl ?_
      refine qa_bk_do (pc' := 43) rfl rfl ?_
      refine qa_bk_do (pc' := 44) rfl rfl ?_
      refine qa_bk_gr rfl rfl (qa_ds0 hR) rfl ?_
      refine qa_bk_gi rfl rfl (qa_ds14 hR) rfl ?_
      refine qa_bk_do (pc' := 51) rfl rfl ?_
      refine qa_bk_do (pc' := 52) (lv' := [(2, _), (0, _), (1, _)]) rfl rfl ?_
      refine qa_bk_do (pc' := 53) rfl rfl ?_
      obtain ⟨c4, hc5, h⟩ := Option.bind_eq_some_iff.mp h
      refine qa_bk_cv (qa_tX1_lineUp hR hc5) rfl rfl rfl rfl rfl rfl rfl (qa_ds0 hR) ?_
      refine qa_bk_do (pc' := 57) (lv' := [(3, _), (2, _), (0, _), (1, _)]) rfl rfl ?_
      refine qa_bk_do (pc' := 58) rfl rfl ?_
      refine qa_bk_do (pc' := 60) (lv' := [(4, _), (3, _), (2, _), (0, _), (1, _)]) rfl rfl ?_
      exact qa_bk_lw (qa_tX1_burningsToLoad_60 hR _ _ _ _ _ _ h) rfl rfl (And.intro rfl (And.intro rfl (And.intro rfl (And.intro rfl (And.intro rfl (trivial))))))
    · refine qa_bk_1f (a := 24) (b := 22) hc2 rfl rfl ?_
      exact qa_bk_lw (qa_tX1_burningsToLoad_22 hR h) rfl rfl (And.intro rfl (And.intro rfl (trivial)))
