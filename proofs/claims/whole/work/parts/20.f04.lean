/-! the methods as functions (written by wip/tools/gen.py) -/
noncomputable def qa_fX1_sumOfCosts_51 (R : Nat) (k4 : Int32 → Int32 → qa_T → Option Int32) (x1 : Int32) (x2 : Int32) (σ : qa_T) : Option Int32 :=
    let v4 : Int32 := x2 + Int32.ofInt 1
    k4 x1 v4 σ
noncomputable def qa_fX1_sumOfCosts_37 (R : Nat) (k4 : Int32 → Int32 → qa_T → Option Int32) (x1 : Int32) (x2 : Int32) (σ : qa_T) : Option Int32 :=
    let v3 : Int32 := (x1 + (qa_fX9_at (R, 2) 16 x2 σ))
    qa_fX1_sumOfCosts_51 R k4 v3 x2 σ
noncomputable def qa_fX1_sumOfCosts_4 (R : Nat) : Nat → Int32 → Int32 → qa_T → Option Int32
  | 0, _, _, _ => none
  | n + 1, x1, x2, σ =>
    if (σ.1 (R, 1) 0) ≤ x2 then
      some x1
    else
      if ¬ (qa_bi (qa_fX6_isReady R x2 σ)) = 0 then
        qa_fX1_sumOfCosts_37 R (qa_fX1_sumOfCosts_4 R n) x1 x2 σ
      else
        if ¬ x2 = (σ.1 (R, 12) 0) then
          qa_fX1_sumOfCosts_51 R (qa_fX1_sumOfCosts_4 R n) x1 x2 σ
        else
          qa_fX1_sumOfCosts_37 R (qa_fX1_sumOfCosts_4 R n) x1 x2 σ
noncomputable def qa_fX1_sumOfCosts (R : Nat) (σ : qa_T) : Option Int32 :=
    qa_fX1_sumOfCosts_4 R qa_fu (Int32.ofInt 0) (Int32.ofInt 0) σ
set_option maxRecDepth 100000 in
theorem qa_tX1_sumOfCosts_51 {L : Nat} {R : Nat} (hR : qa_rg R) {k4 : Int32 → Int32 → qa_T → Option Int32} (K4 : ∀ (x1 : Int32) (x2 : Int32) (σ : qa_T) (r : Int32), k4 x1 x2 σ = some r → qa_Bk (qa_ds L) qa_mX1_sumOfCosts 4 [(0, .inl (R, 0)), (1, .inr (.int x1)), (2, .inr (.int x2))] [] σ (.inl (some (.inr (.int r)))) σ) {x1 : Int32} {x2 : Int32} {σ : qa_T} {r : Int32} (h : qa_fX1_sumOfCosts_51 R k4 x1 x2 σ = some r) : qa_Bk (qa_ds L) qa_mX1_sumOfCosts 51 [(0, .inl (R, 0)), (1, .inr (.int x1)), (2, .inr (.int x2))] [] σ (.inl (some (.inr (.int r)))) σ := by
  unfold qa_fX1_sumOfCosts_51 at h
  try dsimp only at h
  refine qa_bk_do (pc' := 54) (lv' := [(2, _), (0, _), (1, _)]) rfl rfl ?_
  refine qa_bk_do (pc' := 4) rfl rfl ?_
  exact qa_bk_lw (K4 _ _ _ _ h) rfl rfl (And.intro rfl (And.intro rfl (And.intro rfl (trivial))))
set_option maxRecDepth 100000 in
theorem qa_tX1_sumOfCosts_37 {L : Nat} {R : Nat} (hR : qa_rg R) {k4 : Int32 → Int32 → qa_T → Option Int32} (K4 : ∀ (x1 : Int32) (x2 : Int32) (σ : qa_T) (r : Int32), k4 x1 x2 σ = some r → qa_Bk (qa_ds L) qa_mX1_sumOfCosts 4 [(0, .inl (R, 0)), (1, .inr (.int x1)), (2, .inr (.int x2))] [] σ (.inl (some (.inr (.int r)))) σ) {x1 : Int32} {x2 : Int32} {σ : qa_T} {r : Int32} (h : qa_fX1_sumOfCosts_37 R k4 x1 x2 σ = some r) : qa_Bk (qa_ds L) qa_mX1_sumOfCosts 37 [(0, .inl (R, 0)), (1, .inr (.int x1)), (2, .inr (.int x2))] [] σ (.inl (some (.inr (.int r)))) σ := by
  unfold qa_fX1_sumOfCosts_37 at h
  try dsimp only at h
  refine qa_bk_do (pc' := 38) rfl rfl ?_
  refine qa_bk_do (pc' := 39) rfl rfl ?_
  refine qa_bk_gr rfl rfl (qa_ds0 hR) rfl ?_
  refine qa_bk_gr rfl rfl (qa_ds1 hR) rfl ?_
  refine qa_bk_do (pc' := 46) rfl rfl ?_
  refine qa_bk_cs (qa_tX9_at (qa_ds2 hR) (Nat.le_of_ble_eq_true rfl) rfl) rfl rfl rfl rfl rfl rfl rfl ?_
  refine qa_bk_do (pc' := 50) rfl rfl ?_
  refine qa_bk_do (pc' := 51) (lv' := [(1, _), (0, _), (2, _)]) rfl rfl ?_
  exact qa_bk_lw (qa_tX1_sumOfCosts_51 hR K4 h) rfl rfl (And.intro rfl (And.intro rfl (And.intro rfl (trivial))))
set_option maxRecDepth 100000 in
theorem qa_tX1_sumOfCosts_4 {L : Nat} {R : Nat} (hR : qa_rg R) : ∀ (n : Nat) (x1 : Int32) (x2 : Int32) (σ : qa_T) (r : Int32), qa_fX1_sumOfCosts_4 R n x1 x2 σ = some r → qa_Bk (qa_ds L) qa_mX1_sumOfCosts 4 [(0, .inl (R, 0)), (1, .inr (.int x1)), (2, .inr (.int x2))] [] σ (.inl (some (.inr (.int r)))) σ := by
  intro n
  induction n with
  | zero => intro x1 x2 σ r h; cases h
  | succ n ih =>
    intro x1 x2 σ r h
    unfold qa_fX1_sumOfCosts_4 at h
    try dsimp only at h
    refine qa_bk_do (pc' := 5) rfl rfl ?_
    refine qa_bk_do (pc' := 6) rfl rfl ?_
    refine qa_bk_gr rfl rfl (qa_ds0 hR) rfl ?_
    refine qa_bk_gi rfl rfl (qa_ds1 hR) rfl ?_
    rcases qa_ite h with ⟨hc1, h⟩ | ⟨hc1, h⟩
    · refine qa_bk_1t (a := 57) (b := 15) hc1 rfl rfl ?_
      refine qa_bk_do (pc' := 58) rfl rfl ?_
      cases h
      exact qa_bk_ri rfl rfl
    · refine qa_bk_1f (a := 57) (b := 15) hc1 rfl rfl ?_
      refine qa_bk_do (pc' := 16) rfl rfl ?_
      refine qa_bk_gr rfl rfl (qa_ds0 hR) rfl ?_
      refine qa_bk_do (pc' := 20) rfl rfl ?_
      refine qa_bk_cv (qa_tX6_isReady hR rfl) rfl rfl rfl rfl rfl rfl rfl (qa_ds1 hR) ?_
      rcases qa_ite h with ⟨hc2, h⟩ | ⟨hc2, h⟩
      · refine qa_bk_1t (a := 37) (b := 26) hc2 rfl rfl ?_
        exact qa_bk_lw (qa_tX1_sumOfCosts_37 hR ih h) rfl rfl (And.intro rfl (And.intro rfl (And.intro rfl (trivial))))
      · refine qa_bk_1f (a := 37) (b := 26) hc2 rfl rfl ?_
        refine qa_bk_do (pc' := 27) rfl rfl ?_
        refine qa_bk_do (pc' := 28) rfl rfl ?_
        refine qa_bk_gr rfl rfl (qa_ds0 hR) rfl ?_
        refine qa_bk_gi rfl rfl (qa_ds12 hR) rfl ?_
        rcases qa_ite h with ⟨hc5, h⟩ | ⟨hc5, h⟩
        · refine qa_bk_1t (a := 51) (b := 37) hc5 rfl rfl ?_
          exact qa_bk_lw (qa_tX1_sumOfCosts_51 hR ih h) rfl rfl (And.intro rfl (And.intro rfl (And.intro rfl (trivial))))
        · refine qa_bk_1f (a := 51) (b := 37) hc5 rfl rfl ?_
          exact qa_bk_lw (qa_tX1_sumOfCosts_37 hR ih h) rfl rfl (And.intro rfl (And.intro rfl (And.intro rfl (trivial))))
set_option maxRecDepth 100000 in
theorem qa_tX1_sumOfCosts {L : Nat} {R : Nat} (hR : qa_rg R) {σ : qa_T} {r : Int32} (h : qa_fX1_sumOfCosts R σ = some r) : qa_Bk (qa_ds L) qa_mX1_sumOfCosts 0 (qa_ag 0 [.inl (R, 0)]) [] σ (.inl (some (.inr (.int r)))) σ := by
  unfold qa_fX1_sumOfCosts at h
  try dsimp only at h
  show qa_Bk (qa_ds L) qa_mX1_sumOfCosts 0 [(0, .inl (R, 0))] [] σ _ _
  refine qa_bk_do (pc' := 1) rfl rfl ?_
  refine qa_bk_do (pc' := 2) (lv' := [(1, _), (0, _)]) rfl rfl ?_
  refine qa_bk_do (pc' := 3) rfl rfl ?_
  refine qa_bk_do (pc' := 4) (lv' := [(2, _), (1, _), (0, _)]) rfl rfl ?_
  exact qa_bk_lw (qa_tX1_sumOfCosts_4 hR _ _ _ _ _ h) rfl rfl (And.intro rfl (And.intro rfl (And.intro rfl (trivial))))
noncomputable def qa_fX1_sumOfWait (R : Nat) (σ : qa_T) : Int32 :=
    if ¬ (σ.1 (R, 12) 0) = (σ.1 (R, 11) 4) then
      ((σ.1 (R, 12) 1) + (qa_fX6_ticksToLoad R (σ.1 (R, 11) 4) (σ.1 (R, 12) 1) σ))
    else
      (σ.1 (R, 12) 1)
set_option maxRecDepth 100000 in
theorem qa_tX1_sumOfWait {L : Nat} {R : Nat} (hR : qa_rg R) {σ : qa_T} {r : Int32} (h : qa_fX1_sumOfWait R σ = r) : qa_Bk (qa_ds L) qa_mX1_sumOfWait 0 (qa_ag 0 [.inl (R, 0)]) [] σ (.inl (some (.inr (.int r)))) σ := by
  unfold qa_fX1_sumOfWait at h
  try dsimp only at h
  show qa_Bk (qa_ds L) qa_mX1_sumOfWait 0 [(0, .inl (R, 0))] [] σ _ _
  refine qa_bk_do (pc' := 1) rfl rfl ?_
  refine qa_bk_gr rfl rfl (qa_ds0 hR) rfl ?_
  refine qa_bk_gi rfl rfl (qa_ds12 hR) rfl ?_
  refine qa_bk_do (pc' := 8) rfl rfl ?_
  refine qa_bk_gr rfl rfl (qa_ds0 hR) rfl ?_
  refine qa_bk_gi rfl rfl (qa_ds11 hR) rfl ?_
  rcases qa_ite h with ⟨hc1, h⟩ | ⟨hc1, h⟩
  · refine qa_bk_1t (a := 25) (b := 17) hc1 rfl rfl ?_
    refine qa_bk_do (pc' := 26) rfl rfl ?_
    refine qa_bk_gr rfl rfl (qa_ds0 hR) rfl ?_
    refine qa_bk_gi rfl rfl (qa_ds12 hR) rfl ?_
    refine qa_bk_do (pc' := 33) rfl rfl ?_
    refine qa_bk_gr rfl rfl (qa_ds0 hR) rfl ?_
    refine qa_bk_do (pc' := 37) rfl rfl ?_
    refine qa_bk_gr rfl rfl (qa_ds0 hR) rfl ?_
    refine qa_bk_gi rfl rfl (qa_ds11 hR) rfl ?_
    refine qa_bk_do (pc' := 44) rfl rfl ?_
    refine qa_bk_gr rfl rfl (qa_ds0 hR) rfl ?_
    refine qa_bk_gi rfl rfl (qa_ds12 hR) rfl ?_
    refine qa_bk_cv (qa_tX6_ticksToLoad hR rfl) rfl rfl rfl rfl rfl rfl rfl (qa_ds1 hR) ?_
    refine qa_bk_do (pc' := 54) rfl rfl ?_
    subst h
    exact qa_bk_ri rfl rfl
  · refine qa_bk_1f (a := 25) (b := 17) hc1 rfl rfl ?_
    refine qa_bk_do (pc' := 18) rfl rfl ?_
    refine qa_bk_gr rfl rfl (qa_ds0 hR) rfl ?_
    refine qa_bk_gi rfl rfl (qa_ds12 hR) rfl ?_
    subst h
    exact qa_bk_ri rfl rfl
noncomputable def qa_fX3_has_16 (R : Nat) (a1 : Int32) (σ : qa_T) : Bool :=
    false
noncomputable def qa_fX3_has (R : Nat) (a1 : Int32) (σ : qa_T) : Bool :=
    if a1 < 0 then
      qa_fX3_has_16 R a1 σ
    else
      if (σ.1 (R, 9) 0) ≤ a1 then
        qa_fX3_has_16 R a1 σ
      else
        true
set_option maxRecDepth 100000 in
theorem qa_tX3_has_16 {L : Nat} {R : Nat} {a1 : Int32} (hR : qa_rg R) {σ : qa_T} {r : Bool} (h : qa_fX3_has_16 R a1 σ = r) : qa_Bk (qa_ds L) qa_mX3_has 16 [(0, .inl (R, 9)), (1, .inr (.int a1))] [] σ (.inl (some (.inr (.int (qa_bi r))))) σ := by
  unfold qa_fX3_has_16 at h
  try dsimp only at h
  refine qa_bk_do (pc' := 17) rfl rfl ?_
  subst h
  exact qa_bk_rb rfl rfl rfl
set_option maxRecDepth 100000 in
theorem qa_tX3_has {L : Nat} {R : Nat} {a1 : Int32} (hR : qa_rg R) {σ : qa_T} {r : Bool} (h : qa_fX3_has R a1 σ = r) : qa_Bk (qa_ds L) qa_mX3_has 0 (qa_ag 0 [.inl (R, 9), .inr (.int a1)]) [] σ (.inl (some (.inr (.int (qa_bi r))))) σ := by
  unfold qa_fX3_has at h
  try dsimp only at h
  show qa_Bk (qa_ds L) qa_mX3_has 0 [(0, .inl (R, 9)), (1, .inr (.int a1))] [] σ _ _
  refine qa_bk_do (pc' := 1) rfl rfl ?_
  rcases qa_ite h with ⟨hc1, h⟩ | ⟨hc1, h⟩
  · refine qa_bk_1t (a := 16) (b := 4) hc1 rfl rfl ?_
    exact qa_bk_lw (qa_tX3_has_16 hR h) rfl rfl (And.intro rfl (And.intro rfl (trivial)))
  · refine qa_bk_1f (a := 16) (b := 4) hc1 rfl rfl ?_
    refine qa_bk_do (pc' := 5) rfl rfl ?_
    refine qa_bk_do (pc' := 6) rfl rfl ?_
    refine qa_bk_gi rfl rfl (qa_ds9 hR) rfl ?_
    rcases qa_ite h with ⟨hc2, h⟩ | ⟨hc2, h⟩
    · refine qa_bk_1t (a := 16) (b := 12) hc2 rfl rfl ?_
      exact qa_bk_lw (qa_tX3_has_16 hR h) rfl rfl (And.intro rfl (And.intro rfl (trivial)))
    · refine qa_bk_1f (a := 16) (b := 12) hc2 rfl rfl ?_
      refine qa_bk_do (pc' := 13) rfl rfl ?_
      refine qa_bk_do (pc' := 17) rfl rfl ?_
      subst h
      exact qa_bk_rb rfl rfl rfl
noncomputable def qa_fX3_remove_73 (R : Nat) (a1 : Int32) (x2 : Int32) (σ : qa_T) : Option (Int32 × qa_T) :=
    some (x2, σ)
noncomputable def qa_fX3_remove_11 (R : Nat) (a1 : Int32) : Nat → Int32 → Int32 → qa_T → Option (Int32 × qa_T)
  | 0, _, _, _ => none
  | n + 1, x2, x3, σ =>
    if (σ.1 (R, 9) 0) ≤ (x3 + (Int32.ofInt 1)) then
      let σ3 := qa_wi σ (R, 9) 0 ((σ.1 (R, 9) 0) - (Int32.ofInt 1))
      if (σ3.1 (R, 9) 1) < a1 then
        qa_fX3_remove_73 R a1 x2 σ3
      else
        let σ5 := qa_wi σ3 (R, 9) 1 ((σ3.1 (R, 9) 1) - (Int32.ofInt 1))
        qa_fX3_remove_73 R a1 x2 σ5
    else
      let σ6 := qa_fX9_set (R, 10) 24 x3 (qa_fX9_at (R, 10) 24 (x3 + (Int32.ofInt 1)) σ) σ
      let v7 : Int32 := x3 + Int32.ofInt 1
      qa_fX3_remove_11 R a1 n x2 v7 σ6
noncomputable def qa_fX3_remove (R : Nat) (a1 : Int32) (σ : qa_T) : Option (Int32 × qa_T) :=
    let v1 : Int32 := (qa_fX9_at (R, 10) 24 a1 σ)
    qa_fX3_remove_11 R a1 qa_fu v1 a1 σ
set_option maxRecDepth 100000 in
theorem qa_tX3_remove_73 {L : Nat} {R : Nat} {a1 : Int32} (hR : qa_rg R) {x2 : Int32} {σ : qa_T} {r : (Int32 × qa_T)} (h : qa_fX3_remove_73 R a1 x2 σ = some r) : qa_Bk (qa_ds L) qa_mX3_remove 73 [(0, .inl (R, 9)), (1, .inr (.int a1)), (2, .inr (.int x2))] [] σ (.inl (some (.inr (.int r.1)))) r.2 := by
  unfold qa_fX3_remove_73 at h
  try dsimp only at h
  refine qa_bk_do (pc' := 74) rfl rfl ?_
  cases h
  exact qa_bk_ri rfl rfl
set_option maxRecDepth 100000 in
theorem qa_tX3_remove_11 {L : Nat} {R : Nat} {a1 : Int32} (hR : qa_rg R) : ∀ (n : Nat) (x2 : Int32) (x3 : Int32) (σ : qa_T) (r : (Int32 × qa_T)), qa_fX3_remove_11 R a1 n x2 x3 σ = some r → qa_Bk (qa_ds L) qa_mX3_remove 11 [(0, .inl (R, 9)), (1, .inr (.int a1)), (2, .inr (.int x2)), (3, .inr (.int x3))] [] σ (.inl (some (.inr (.int r.1)))) r.2 := by
  intro n
  induction n with
  | zero => intro x2 x3 σ r h; cases h
  | succ n ih =>
    intro x2 x3 σ r h
    unfold qa_fX3_remove_11 at h
    try dsimp only at h
    refine qa_bk_do (pc' := 12) rfl rfl ?_
    refine qa_bk_do (pc' := 13) rfl rfl ?_
    refine qa_bk_do (pc' := 14) rfl rfl ?_
    refine qa_bk_do (pc' := 15) rfl rfl ?_
    refine qa_bk_gi rfl rfl (qa_ds9 hR) rfl ?_
    rcases qa_ite h with ⟨hc2, h⟩ | ⟨hc2, h⟩
    · refine qa_bk_1t (a := 45) (b := 21) hc2 rfl rfl ?_
      refine qa_bk_do (pc' := 46) rfl rfl ?_
      refine qa_bk_do (pc' := 47) rfl rfl ?_
      refine qa_bk_gi rfl rfl (qa_ds9 hR) rfl ?_
      refine qa_bk_do (pc' := 51) rfl rfl ?_
      refine qa_bk_do (pc' := 52) rfl rfl ?_
      refine qa_bk_pf rfl rfl (qa_ds9 hR) rfl (qa_fiti _) rfl ?_
      refine qa_bk_do (pc' := 56) rfl rfl ?_
      refine qa_bk_do (pc' := 57) rfl rfl ?_
      refine qa_bk_gi rfl rfl (qa_ds9 hR) rfl ?_
      rcases qa_ite h with ⟨hc4, h⟩ | ⟨hc4, h⟩
      · refine qa_bk_1t (a := 73) (b := 63) hc4 rfl rfl ?_
        exact qa_bk_lw (qa_tX3_remove_73 hR h) rfl rfl (And.intro rfl (And.intro rfl (And.intro rfl (trivial))))
      · refine qa_bk_1f (a := 73) (b := 63) hc4 rfl rfl ?_
        refine qa_bk_do (pc' := 64) rfl rfl ?_
        refine qa_bk_do (pc' := 65) rfl rfl ?_
        refine qa_bk_gi rfl rfl (qa_ds9 hR) rfl ?_
        refine qa_bk_do (pc' := 69) rfl rfl ?_
        refine qa_bk_do (pc' := 70) rfl rfl ?_
        refine qa_bk_pf rfl rfl (qa_ds9 hR) rfl (qa_fiti _) rfl ?_
        exact qa_bk_lw (qa_tX3_remove_73 hR h) rfl rfl (And.intro rfl (And.intro rfl (And.intro rfl (trivial))))
    · refine qa_bk_1f (a := 45) (b := 21) hc2 rfl rfl ?_
      refine qa_bk_do (pc' := 22) rfl rfl ?_
      refine qa_bk_gr rfl rfl (qa_ds9 hR) rfl ?_
      refine qa_bk_do (pc' := 26) rfl rfl ?_
      refine qa_bk_do (pc' := 27) rfl rfl ?_
      refine qa_bk_gr rfl rfl (qa_ds9 hR) rfl ?_
      refine qa_bk_do (pc' := 31) rfl rfl ?_
      refine qa_bk_do (pc' := 32) rfl rfl ?_
      refine qa_bk_do (pc' := 33) rfl rfl ?_
      refine qa_bk_cs (qa_tX9_at (qa_ds10 hR) (Nat.le_of_ble_eq_true rfl) rfl) rfl rfl rfl rfl rfl rfl rfl ?_
      refine qa_bk_cs (qa_tX9_set (qa_ds10 hR) (Nat.le_of_ble_eq_true rfl) rfl) rfl rfl rfl rfl rfl rfl rfl ?_
      refine qa_bk_do (pc' := 42) (lv' := [(3, _), (0, _), (1, _), (2, _)]) rfl rfl ?_
      refine qa_bk_do (pc' := 11) rfl rfl ?_
      exact qa_bk_lw (ih _ _ _ _ h) rfl rfl (And.intro rfl (And.intro rfl (And.intro rfl (And.intro rfl (trivial)))))
set_option maxRecDepth 100000 in
theorem qa_tX3_remove {L : Nat} {R : Nat} {a1 : Int32} (hR : qa_rg R) {σ : qa_T} {r : (Int32 × qa_T)} (h : qa_fX3_remove R a1 σ = some r) : qa_Bk (qa_ds L) qa_mX3_remove 0 (qa_ag 0 [.inl (R, 9), .inr (.int a1)]) [] σ (.inl (some (.inr (.int r.1)))) r.2 := by
  unfold qa_fX3_remove at h
  try dsimp only at h
  show qa_Bk (qa_ds L) qa_mX3_remove 0 [(0, .inl (R, 9)), (1, .inr (.int a1))] [] σ _ _
  refine qa_bk_do (pc' := 1) rfl rfl ?_
  refine qa_bk_gr rfl rfl (qa_ds9 hR) rfl ?_
  refine qa_bk_do (pc' := 5) rfl rfl ?_
  refine qa_bk_cs (qa_tX9_at (qa_ds10 hR) (Nat.le_of_ble_eq_true rfl) rfl) rfl rfl rfl rfl rfl rfl rfl ?_
  refine qa_bk_do (pc' := 9) (lv' := [(2, _), (0, _), (1, _)]) rfl rfl ?_
  refine qa_bk_do (pc' := 10) rfl rfl ?_
  refine qa_bk_do (pc' := 11) (lv' := [(3, _), (2, _), (0, _), (1, _)]) rfl rfl ?_
  exact qa_bk_lw (qa_tX3_remove_11 hR _ _ _ _ _ h) rfl rfl (And.intro rfl (And.intro rfl (And.intro rfl (And.intro rfl (trivial)))))
noncomputable def qa_fX3_placesUntil_2 (R : Nat) (a1 : Int32) : Nat → Int32 → qa_T → Option Int32
  | 0, _, _ => none
  | n + 1, x2, σ =>
    if (σ.1 (R, 9) 0) < x2 then
      some (Int32.ofInt 0)
    else
      (qa_fX3_slideAhead R x2 σ).bind fun c2 =>
      if ¬ c2 = a1 then
        let v5 : Int32 := x2 + Int32.ofInt 1
        qa_fX3_placesUntil_2 R a1 n v5 σ
      else
        some x2
noncomputable def qa_fX3_placesUntil (R : Nat) (a1 : Int32) (σ : qa_T) : Option Int32 :=
    qa_fX3_placesUntil_2 R a1 qa_fu (Int32.ofInt 1) σ
set_option maxRecDepth 100000 in
theorem qa_tX3_placesUntil_2 {L : Nat} {R : Nat} {a1 : Int32} (hR : qa_rg R) : ∀ (n : Nat) (x2 : Int32) (σ : qa_T) (r : Int32), qa_fX3_placesUntil_2 R a1 n x2 σ = some r → qa_Bk (qa_ds L) qa_mX3_placesUntil 2 [(0, .inl (R, 9)), (1, .inr (.int a1)), (2, .inr (.int x2))] [] σ (.inl (some (.inr (.int r)))) σ := by
  intro n
  induction n with
  | zero => intro x2 σ r h; cases h
  | succ n ih =>
    intro x2 σ r h
    unfold qa_fX3_placesUntil_2 at h
    try dsimp only at h
    refine qa_bk_do (pc' := 3) rfl rfl ?_
    refine qa_bk_do (pc' := 4) rfl rfl ?_
    refine qa_bk_gi rfl rfl (qa_ds9 hR) rfl ?_
    rcases qa_ite h with ⟨hc1, h⟩ | ⟨hc1, h⟩
    · refine qa_bk_1t (a := 27) (b := 10) hc1 rfl rfl ?_
      refine qa_bk_do (pc' := 28) rfl rfl ?_
      cases h
      exact qa_bk_ri rfl rfl
    · refine qa_bk_1f (a := 27) (b := 10) hc1 rfl rfl ?_
      refine qa_bk_do (pc' := 11) rfl rfl ?_
      refine qa_bk_do (pc' := 12) rfl rfl ?_
      obtain ⟨c2, hc3, h⟩ := Option.bind_eq_some_iff.mp h
      refine qa_bk_cv (qa_tX3_slideAhead hR hc3) rfl rfl rfl rfl rfl rfl rfl (qa_ds9 hR) ?_
      refine qa_bk_do (pc' := 16) rfl rfl ?_
      rcases qa_ite h with ⟨hc4, h⟩ | ⟨hc4, h⟩
      · refine qa_bk_1t (a := 21) (b := 19) hc4 rfl rfl ?_
        refine qa_bk_do (pc' := 24) (lv' := [(2, _), (0, _), (1, _)]) rfl rfl ?_
        refine qa_bk_do (pc' := 2) rfl rfl ?_
        exact qa_bk_lw (ih _ _ _ h) rfl rfl (And.intro rfl (And.intro rfl (And.intro rfl (trivial))))
      · refine qa_bk_1f (a := 21) (b := 19) hc4 rfl rfl ?_
        refine qa_bk_do (pc' := 20) rfl rfl ?_
        cases h
        exact qa_bk_ri rfl rfl
set_option maxRecDepth 100000 in
theorem qa_tX3_placesUntil {L : Nat} {R : Nat} {a1 : Int32} (hR : qa_rg R) {σ : qa_T} {r : Int32} (h : qa_fX3_placesUntil R a1 σ = some r) : qa_Bk (qa_ds L) qa_mX3_placesUntil 0 (qa_ag 0 [.inl (R, 9), .inr (.int a1)]) [] σ (.inl (some (.inr (.int r)))) σ := by
  unfold qa_fX3_placesUntil at h
  try dsimp only at h
  show qa_Bk (qa_ds L) qa_mX3_placesUntil 0 [(0, .inl (R, 9)), (1, .inr (.int a1))] [] σ _ _
  refine qa_bk_do (pc' := 1) rfl rfl ?_
  refine qa_bk_do (pc' := 2) (lv' := [(2, _), (0, _), (1, _)]) rfl rfl ?_
  exact qa_bk_lw (qa_tX3_placesUntil_2 hR _ _ _ _ h) rfl rfl (And.intro rfl (And.intro rfl (And.intro rfl (trivial))))
noncomputable def qa_fX5_push_80 (S : Nat) (σ : qa_T) : Option qa_T :=
    some σ
noncomputable def qa_fX5_push_45 (S : Nat) (σ : qa_T) : Option qa_T :=
    if ((Int8.ofInt 6).toInt32) ≤ (σ.1 (2, 18) 1) then
      let σ4 := qa_wi σ (2, 18) 0 (((σ.1 (2, 18) 0) + (Int32.ofInt 1)) - ((σ.1 (2, 18) 0) + (Int32.ofInt 1)) / ((Int8.ofInt 6).toInt32) * ((Int8.ofInt 6).toInt32))
      qa_fX5_push_80 S σ4
    else
      let σ5 := qa_wi σ (2, 18) 1 ((σ.1 (2, 18) 1) + (Int32.ofInt 1))
      qa_fX5_push_80 S σ5
noncomputable def qa_fX5_push (S : Nat) (σ : qa_T) : Option qa_T :=
    let v1 : Int32 := (((σ.1 (2, 18) 0) + (σ.1 (2, 18) 1)) - ((σ.1 (2, 18) 0) + (σ.1 (2, 18) 1)) / ((Int8.ofInt 6).toInt32) * ((Int8.ofInt 6).toInt32))
    if v1 < 0 then
      qa_fX5_push_45 S σ
    else
      if Int32.ofNat 6 ≤ v1 then
        qa_fX5_push_45 S σ
      else
        (qa_fX1_copyFrom (3 + (v1).toNatClampNeg) S σ).bind fun c9 =>
        qa_fX5_push_45 S c9
set_option maxRecDepth 100000 in
theorem qa_tX5_push_80 {L : Nat} {S : Nat} (hS : qa_rg S) {σ : qa_T} {r : qa_T} (h : qa_fX5_push_80 S σ = some r) : qa_Bk (qa_ds L) qa_mX5_push 80 [(0, .inl (2, 18)), (1, .inl (S, 0))] [] σ (.inl none) r := by
  unfold qa_fX5_push_80 at h
  try dsimp only at h
  cases h
  exact qa_bk_re rfl rfl rfl
set_option maxRecDepth 100000 in
theorem qa_tX5_push_45 {L : Nat} {S : Nat} (hS : qa_rg S) {σ : qa_T} {r : qa_T} (h : qa_fX5_push_45 S σ = some r) : qa_Bk (qa_ds L) qa_mX5_push 45 [(0, .inl (2, 18)), (1, .inl (S, 0))] [] σ (.inl none) r := by
  unfold qa_fX5_push_45 at h
  try dsimp only at h
  refine qa_bk_do (pc' := 46) rfl rfl ?_
  refine qa_bk_gi rfl rfl qa_dx_2_18 rfl ?_
  refine qa_bk_do (pc' := 51) rfl rfl ?_
  rcases qa_ite h with ⟨hc3, h⟩ | ⟨hc3, h⟩
  · refine qa_bk_1t (a := 67) (b := 54) hc3 rfl rfl ?_
    refine qa_bk_do (pc' := 68) rfl rfl ?_
    refine qa_bk_do (pc' := 69) rfl rfl ?_
    refine qa_bk_gi rfl rfl qa_dx_2_18 rfl ?_
    refine qa_bk_do (pc' := 73) rfl rfl ?_
    refine qa_bk_do (pc' := 74) rfl rfl ?_
    refine qa_bk_do (pc' := 76) rfl rfl ?_
    refine qa_bk_rm (by decide) rfl ?_
    refine qa_bk_pf rfl rfl qa_dx_2_18 rfl (qa_fiti _) rfl ?_
    exact qa_bk_lw (qa_tX5_push_80 hS h) rfl rfl (And.intro rfl (And.intro rfl (trivial)))
  · refine qa_bk_1f (a := 67) (b := 54) hc3 rfl rfl ?_
    refine qa_bk_do (pc' := 55) rfl rfl ?_
    refine qa_bk_do (pc' := 56) rfl rfl ?_
    refine qa_bk_gi rfl rfl qa_dx_2_18 rfl ?_
    refine qa_bk_do (pc' := 60) rfl rfl ?_
    refine qa_bk_do (pc' := 61) rfl rfl ?_
    refine qa_bk_pf rfl rfl qa_dx_2_18 rfl (qa_fiti _) rfl ?_
    refine qa_bk_do (pc' := 80) rfl rfl ?_
    exact qa_bk_lw (qa_tX5_push_80 hS h) rfl rfl (And.intro rfl (And.intro rfl (trivial)))
set_option maxRecDepth 100000 in
theorem qa_tX5_push {L : Nat} {S : Nat} (hS : qa_rg S) {σ : qa_T} {r : qa_T} (h : qa_fX5_push S σ = some r) : qa_Bk (qa_ds L) qa_mX5_push 0 (qa_ag 0 [.inl (2, 18), .inl (S, 0)]) [] σ (.inl none) r := by
  unfold qa_fX5_push at h
  try dsimp only at h
  show qa_Bk (qa_ds L) qa_mX5_push 0 [(0, .inl (2, 18)), (1, .inl (S, 0))] [] σ _ _
  refine qa_bk_do (pc' := 1) rfl rfl ?_
  refine qa_bk_gi rfl rfl qa_dx_2_18 rfl ?_
  refine qa_bk_do (pc' := 5) rfl rfl ?_
  refine qa_bk_gi rfl rfl qa_dx_2_18 rfl ?_
  refine qa_bk_do (pc' := 9) rfl rfl ?_
  refine qa_bk_do (pc' := 11) rfl rfl ?_
  refine qa_bk_rm (by decide) rfl ?_
  refine qa_bk_do (pc' := 13) (lv' := [(2, _), (0, _), (1, _)]) rfl rfl ?_
  refine qa_bk_do (pc' := 14) rfl rfl ?_
  rcases qa_ite h with ⟨hc2, h⟩ | ⟨hc2, h⟩
  · refine qa_bk_1t (a := 45) (b := 17) hc2 rfl rfl ?_
    exact qa_bk_lw (qa_tX5_push_45 hS h) rfl rfl (And.intro rfl (And.intro rfl (trivial)))
  · refine qa_bk_1f (a := 45) (b := 17) hc2 rfl rfl ?_
    refine qa_bk_do (pc' := 18) rfl rfl ?_
    refine qa_bk_do (pc' := 19) rfl rfl ?_
    refine qa_bk_gr rfl rfl qa_dx_2_18 rfl ?_
    refine qa_bk_al rfl qa_dx_2_19 (Or.inl (by decide)) ?_
    rcases qa_ite h with ⟨hc6, h⟩ | ⟨hc6, h⟩
    · refine qa_bk_1t (a := 45) (b := 26) hc6 rfl rfl ?_
      exact qa_bk_lw (qa_tX5_push_45 hS h) rfl rfl (And.intro rfl (And.intro rfl (trivial)))
    · refine qa_bk_1f (a := 45) (b := 26) hc6 rfl rfl ?_
      refine qa_bk_do (pc' := 27) rfl rfl ?_
      refine qa_bk_gr rfl rfl qa_dx_2_18 rfl ?_
      refine qa_bk_do (pc' := 31) rfl rfl ?_
      have hi7 := (qa_in_g hc2 hc6 (Nat.le_of_ble_eq_true rfl))
      refine qa_bk_ar rfl qa_dx_2_19 hi7 (qa_rf3 hi7) ?_
      refine qa_bk_do (pc' := 35) rfl rfl ?_
      refine qa_bk_do (pc' := 36) rfl rfl ?_
      refine qa_bk_gr rfl rfl qa_dx_2_18 rfl ?_
      refine qa_bk_do (pc' := 40) rfl rfl ?_
      have hi8 := (qa_in_g hc2 hc6 (Nat.le_of_ble_eq_true rfl))
      refine qa_bk_ar rfl qa_dx_2_19 hi8 (qa_rf3 hi8) ?_
      refine qa_bk_do (pc' := 42) rfl rfl ?_
      obtain ⟨c9, hc10, h⟩ := Option.bind_eq_some_iff.mp h
      refine qa_bk_cv (qa_tX1_copyFrom (qa_rg3 hi8) hS hc10) rfl rfl rfl rfl rfl rfl rfl (qa_ds0 (qa_rg3 hi8)) ?_
      exact qa_bk_lw (qa_tX5_push_45 hS h) rfl rfl (And.intro rfl (And.intro rfl (trivial)))
noncomputable def qa_fX5_popInto_55 (S : Nat) (σ : qa_T) : Option qa_T :=
    some σ
noncomputable def qa_fX5_popInto (S : Nat) (σ : qa_T) : Option qa_T :=
    let σ1 := qa_wi σ (2, 18) 1 ((σ.1 (2, 18) 1) - (Int32.ofInt 1))
    let v2 : Int32 := (((σ1.1 (2, 18) 0) + (σ1.1 (2, 18) 1)) - ((σ1.1 (2, 18) 0) + (σ1.1 (2, 18) 1)) / ((Int8.ofInt 6).toInt32) * ((Int8.ofInt 6).toInt32))
    if v2 < 0 then
      qa_fX5_popInto_55 S σ1
    else
      if Int32.ofNat 6 ≤ v2 then
        qa_fX5_popInto_55 S σ1
      else
        (qa_fX1_copyFrom S (3 + (v2).toNatClampNeg) σ1).bind fun c7 =>
        qa_fX5_popInto_55 S c7
set_option maxRecDepth 100000 in
theorem qa_tX5_popInto_55 {L : Nat} {S : Nat} (hS : qa_rg S) {σ : qa_T} {r : qa_T} (h : qa_fX5_popInto_55 S σ = some r) : qa_Bk (qa_ds L) qa_mX5_popInto 55 [(0, .inl (2, 18)), (1, .inl (S, 0))] [] σ (.inl none) r := by
  unfold qa_fX5_popInto_55 at h
  try dsimp only at h
  cases h
  exact qa_bk_re rfl rfl rfl
set_option maxRecDepth 100000 in
theorem qa_tX5_popInto {L : Nat} {S : Nat} (hS : qa_rg S) {σ : qa_T} {r : qa_T} (h : qa_fX5_popInto S σ = some r) : qa_Bk (qa_ds L) qa_mX5_popInto 0 (qa_ag 0 [.inl (2, 18), .inl (S, 0)]) [] σ (.inl none) r := by
  unfold qa_fX5_popInto at h
  try dsimp only at h
  show qa_Bk (qa_ds L) qa_mX5_popInto 0 [(0, .inl (2, 18)), (1, .inl (S, 0))] [] σ _ _
  refine qa_bk_do (pc' := 1) rfl rfl ?_
  refine qa_bk_do (pc' := 2) rfl rfl ?_
  refine qa_bk_gi rfl rfl qa_dx_2_18 rfl ?_
  refine qa_bk_do (pc' := 6) rfl rfl ?_
  refine qa_bk_do (pc' := 7) rfl rfl ?_
  refine qa_bk_pf rfl rfl qa_dx_2_18 rfl (qa_fiti _) rfl ?_
  refine qa_bk_do (pc' := 11) rfl rfl ?_
  refine qa_bk_gi rfl rfl qa_dx_2_18 rfl ?_
  refine qa_bk_do (pc' := 15) rfl rfl ?_
  refine qa_bk_gi rfl rfl qa_dx_2_18 rfl ?_
  refine qa_bk_do (pc' := 19) rfl rfl ?_
  refine qa_bk_do (pc' := 21) rfl rfl ?_
  refine qa_bk_rm (by decide) rfl ?_
  refine qa_bk_do (pc' := 23) (lv' := [(2, _), (0, _), (1, _)]) rfl rfl ?_
  refine qa_bk_do (pc' := 24) rfl rfl ?_
  rcases qa_ite h with ⟨hc3, h⟩ | ⟨hc3, h⟩
  · refine qa_bk_1t (a := 55) (b := 27) hc3 rfl rfl ?_
    exact qa_bk_lw (qa_tX5_popInto_55 hS h) rfl rfl (And.intro rfl (And.intro rfl (trivial)))
  · refine qa_bk_1f (a := 55) (b := 27) hc3 rfl rfl ?_
    refine qa_bk_do (pc' := 28) rfl rfl ?_
    refine qa_bk_do (pc' := 29) rfl rfl ?_
    refine qa_bk_gr rfl rfl qa_dx_2_18 rfl ?_
    refine qa_bk_al rfl qa_dx_2_19 (Or.inl (by decide)) ?_
    rcases qa_ite h with ⟨hc4, h⟩ | ⟨hc4, h⟩
    · refine qa_bk_1t (a := 55) (b := 36) hc4 rfl rfl ?_
      exact qa_bk_lw (qa_tX5_popInto_55 hS h) rfl rfl (And.intro rfl (And.intro rfl (trivial)))
    · refine qa_bk_1f (a := 55) (b := 36) hc4 rfl rfl ?_
      refine qa_bk_do (pc' := 37) rfl rfl ?_
      refine qa_bk_gr rfl rfl qa_dx_2_18 rfl ?_
      refine qa_bk_do (pc' := 41) rfl rfl ?_
      have hi5 := (qa_in_g hc3 hc4 (Nat.le_of_ble_eq_true rfl))
      refine qa_bk_ar rfl qa_dx_2_19 hi5 (qa_rf3 hi5) ?_
      refine qa_bk_do (pc' := 45) rfl rfl ?_
      refine qa_bk_do (pc' := 46) rfl rfl ?_
      refine qa_bk_do (pc' := 47) rfl rfl ?_
      refine qa_bk_gr rfl rfl qa_dx_2_18 rfl ?_
      refine qa_bk_do (pc' := 51) rfl rfl ?_
      have hi6 := (qa_in_g hc3 hc4 (Nat.le_of_ble_eq_true rfl))
      refine qa_bk_ar rfl qa_dx_2_19 hi6 (qa_rf3 hi6) ?_
      obtain ⟨c7, hc8, h⟩ := Option.bind_eq_some_iff.mp h
      refine qa_bk_cv (qa_tX1_copyFrom hS (qa_rg3 hi6) hc8) rfl rfl rfl rfl rfl rfl rfl (qa_ds0 hS) ?_
      exact qa_bk_lw (qa_tX5_popInto_55 hS h) rfl rfl (And.intro rfl (And.intro rfl (trivial)))
noncomputable def qa_fX6_add (R : Nat) (a1 : Int32) (a2 : Int32) (a3 : Int32) (σ : qa_T) : (Int32 × qa_T) :=
    let v1 : Int32 := (σ.1 (R, 1) 0)
    let σ2 := qa_fX9_set (R, 2) 16 v1 a1 σ
    let σ3 := qa_fX9_set (R, 3) 16 v1 a2 σ2
    let σ4 := qa_fX9_set (R, 4) 16 v1 a3 σ3
    let σ5 := qa_wi σ4 (R, 1) 0 ((σ4.1 (R, 1) 0) + (Int32.ofInt 1))
    (v1, σ5)
set_option maxRecDepth 100000 in
theorem qa_tX6_add {L : Nat} {R : Nat} {a1 : Int32} {a2 : Int32} {a3 : Int32} (hR : qa_rg R) {σ : qa_T} {r : (Int32 × qa_T)} (h : qa_fX6_add R a1 a2 a3 σ = r) : qa_Bk (qa_ds L) qa_mX6_add 0 (qa_ag 0 [.inl (R, 1), .inr (.int a1), .inr (.int a2), .inr (.int a3)]) [] σ (.inl (some (.inr (.int r.1)))) r.2 := by
  unfold qa_fX6_add at h
  try dsimp only at h
  show qa_Bk (qa_ds L) qa_mX6_add 0 [(0, .inl (R, 1)), (1, .inr (.int a1)), (2, .inr (.int a2)), (3, .inr (.int a3))] [] σ _ _
  refine qa_bk_do (pc' := 1) rfl rfl ?_
  refine qa_bk_gi rfl rfl (qa_ds1 hR) rfl ?_
  refine qa_bk_do (pc' := 6) (lv' := [(4, _), (0, _), (1, _), (2, _), (3, _)]) rfl rfl ?_
  refine qa_bk_do (pc' := 7) rfl rfl ?_
  refine qa_bk_gr rfl rfl (qa_ds1 hR) rfl ?_
  refine qa_bk_do (pc' := 12) rfl rfl ?_
  refine qa_bk_do (pc' := 13) rfl rfl ?_
  refine qa_bk_cs (qa_tX9_set (qa_ds2 hR) (Nat.le_of_ble_eq_true rfl) rfl) rfl rfl rfl rfl rfl rfl rfl ?_
  refine qa_bk_do (pc' := 17) rfl rfl ?_
  refine qa_bk_gr rfl rfl (qa_ds1 hR) rfl ?_
  refine qa_bk_do (pc' := 22) rfl rfl ?_
  refine qa_bk_do (pc' := 23) rfl rfl ?_
  refine qa_bk_cs (qa_tX9_set (qa_ds3 hR) (Nat.le_of_ble_eq_true rfl) rfl) rfl rfl rfl rfl rfl rfl rfl ?_
  refine qa_bk_do (pc' := 27) rfl rfl ?_
  refine qa_bk_gr rfl rfl (qa_ds1 hR) rfl ?_
  refine qa_bk_do (pc' := 32) rfl rfl ?_
  refine qa_bk_do (pc' := 33) rfl rfl ?_
  refine qa_bk_cs (qa_tX9_set (qa_ds4 hR) (Nat.le_of_ble_eq_true rfl) rfl) rfl rfl rfl rfl rfl rfl rfl ?_
  refine qa_bk_do (pc' := 37) rfl rfl ?_
  refine qa_bk_do (pc' := 38) rfl rfl ?_
  refine qa_bk_gi rfl rfl (qa_ds1 hR) rfl ?_
  refine qa_bk_do (pc' := 42) rfl rfl ?_
  refine qa_bk_do (pc' := 43) rfl rfl ?_
  refine qa_bk_pf rfl rfl (qa_ds1 hR) rfl (qa_fiti _) rfl ?_
  refine qa_bk_do (pc' := 48) rfl rfl ?_
  subst h
  exact qa_bk_ri rfl rfl
noncomputable def qa_fX8_add (a1 : Int32) (σ : qa_T) : qa_T :=
    let σ1 := qa_fX9_set (10, 20) 60 (σ.1 (10, 19) 0) a1 σ
    let σ2 := qa_wi σ1 (10, 19) 0 ((σ1.1 (10, 19) 0) + (Int32.ofInt 1))
    σ2
set_option maxRecDepth 100000 in
theorem qa_tX8_add {L : Nat} {a1 : Int32}  {σ : qa_T} {r : qa_T} (h : qa_fX8_add a1 σ = r) : qa_Bk (qa_ds L) qa_mX8_add 0 (qa_ag 0 [.inl (10, 19), .inr (.int a1)]) [] σ (.inl none) r := by
  unfold qa_fX8_add at h
  try dsimp only at h
  show qa_Bk (qa_ds L) qa_mX8_add 0 [(0, .inl (10, 19)), (1, .inr (.int a1))] [] σ _ _
  refine qa_bk_do (pc' := 1) rfl rfl ?_
  refine qa_bk_gr rfl rfl qa_dx_10_19 rfl ?_
  refine qa_bk_do (pc' := 5) rfl rfl ?_
  refine qa_bk_gi rfl rfl qa_dx_10_19 rfl ?_
  refine qa_bk_do (pc' := 9) rfl rfl ?_
  refine qa_bk_cs (qa_tX9_set qa_dx_10_20 (Nat.le_of_ble_eq_true rfl) rfl) rfl rfl rfl rfl rfl rfl rfl ?_
  refine qa_bk_do (pc' := 13) rfl rfl ?_
  refine qa_bk_do (pc' := 14) rfl rfl ?_
  refine qa_bk_gi rfl rfl qa_dx_10_19 rfl ?_
  refine qa_bk_do (pc' := 18) rfl rfl ?_
  refine qa_bk_do (pc' := 19) rfl rfl ?_
  refine qa_bk_pf rfl rfl qa_dx_10_19 rfl (qa_fiti _) rfl ?_
  subst h
  exact qa_bk_re rfl rfl rfl
noncomputable def qa_fX8_startPart  (σ : qa_T) : qa_T :=
    let σ1 := qa_wi σ (10, 19) 2 (Int32.ofInt 0)
    let σ2 := qa_wi σ1 (10, 19) 3 (Int32.ofInt (-1))
    σ2
set_option maxRecDepth 100000 in
theorem qa_tX8_startPart {L : Nat}   {σ : qa_T} {r : qa_T} (h : qa_fX8_startPart  σ = r) : qa_Bk (qa_ds L) qa_mX8_startPart 0 (qa_ag 0 [.inl (10, 19)]) [] σ (.inl none) r := by
  unfold qa_fX8_startPart at h
  try dsimp only at h
  show qa_Bk (qa_ds L) qa_mX8_startPart 0 [(0, .inl (10, 19))] [] σ _ _
  refine qa_bk_do (pc' := 1) rfl rfl ?_
  refine qa_bk_do (pc' := 2) rfl rfl ?_
  refine qa_bk_pf rfl rfl qa_dx_10_19 rfl (qa_fiti _) rfl ?_
  refine qa_bk_do (pc' := 6) rfl rfl ?_
  refine qa_bk_do (pc' := 7) rfl rfl ?_
  refine qa_bk_pf rfl rfl qa_dx_10_19 rfl (qa_fiti _) rfl ?_
  subst h
  exact qa_bk_re rfl rfl rfl
noncomputable def qa_fX8_startReading  (σ : qa_T) : qa_T :=
    let σ1 := qa_fX8_startPart σ
    let σ2 := qa_wi σ1 (10, 19) 4 (Int32.ofInt 0)
    σ2
set_option maxRecDepth 100000 in
theorem qa_tX8_startReading {L : Nat}   {σ : qa_T} {r : qa_T} (h : qa_fX8_startReading  σ = r) : qa_Bk (qa_ds L) qa_mX8_startReading 0 (qa_ag 0 [.inl (10, 19)]) [] σ (.inl none) r := by
  unfold qa_fX8_startReading at h
  try dsimp only at h
  show qa_Bk (qa_ds L) qa_mX8_startReading 0 [(0, .inl (10, 19))] [] σ _ _
  refine qa_bk_do (pc' := 1) rfl rfl ?_
  refine qa_bk_cv (qa_tX8_startPart rfl) rfl rfl rfl rfl rfl rfl rfl qa_dx_10_19 ?_
  refine qa_bk_do (pc' := 5) rfl rfl ?_
  refine qa_bk_do (pc' := 6) rfl rfl ?_
  refine qa_bk_pf rfl rfl qa_dx_10_19 rfl (qa_fiti _) rfl ?_
  subst h
  exact qa_bk_re rfl rfl rfl
noncomputable def qa_fX8_partMayEnd_17  (σ : qa_T) : Bool :=
    true
noncomputable def qa_fX8_partMayEnd  (σ : qa_T) : Bool :=
    if (σ.1 (10, 19) 2) = ((Int8.ofInt 110).toInt32) then
      qa_fX8_partMayEnd_17  σ
    else
      if (σ.1 (10, 19) 3) = (Int32.ofInt (-1)) then
        false
      else
        qa_fX8_partMayEnd_17  σ
set_option maxRecDepth 100000 in
theorem qa_tX8_partMayEnd_17 {L : Nat}   {σ : qa_T} {r : Bool} (h : qa_fX8_partMayEnd_17  σ = r) : qa_Bk (qa_ds L) qa_mX8_partMayEnd 17 [(0, .inl (10, 19))] [] σ (.inl (some (.inr (.int (qa_bi r))))) σ := by
  unfold qa_fX8_partMayEnd_17 at h
  try dsimp only at h
  refine qa_bk_do (pc' := 18) rfl rfl ?_
  refine qa_bk_do (pc' := 22) rfl rfl ?_
  subst h
  exact qa_bk_rb rfl rfl rfl
set_option maxRecDepth 100000 in
theorem qa_tX8_partMayEnd {L : Nat}   {σ : qa_T} {r : Bool} (h : qa_fX8_partMayEnd  σ = r) : qa_Bk (qa_ds L) qa_mX8_partMayEnd 0 (qa_ag 0 [.inl (10, 19)]) [] σ (.inl (some (.inr (.int (qa_bi r))))) σ := by
  unfold qa_fX8_partMayEnd at h
  try dsimp only at h
  show qa_Bk (qa_ds L) qa_mX8_partMayEnd 0 [(0, .inl (10, 19))] [] σ _ _
  refine qa_bk_do (pc' := 1) rfl rfl ?_
  refine qa_bk_gi rfl rfl qa_dx_10_19 rfl ?_
  refine qa_bk_do (pc' := 6) rfl rfl ?_
  rcases qa_ite h with ⟨hc1, h⟩ | ⟨hc1, h⟩
  · refine qa_bk_1t (a := 17) (b := 9) hc1 rfl rfl ?_
    exact qa_bk_lw (qa_tX8_partMayEnd_17  h) rfl rfl (And.intro rfl (trivial))
  · refine qa_bk_1f (a := 17) (b := 9) hc1 rfl rfl ?_
    refine qa_bk_do (pc' := 10) rfl rfl ?_
    refine qa_bk_gi rfl rfl qa_dx_10_19 rfl ?_
    refine qa_bk_do (pc' := 14) rfl rfl ?_
    rcases qa_ite h with ⟨hc2, h⟩ | ⟨hc2, h⟩
    · refine qa_bk_1t (a := 21) (b := 17) hc2 rfl rfl ?_
      refine qa_bk_do (pc' := 22) rfl rfl ?_
      subst h
      exact qa_bk_rb rfl rfl rfl
    · refine qa_bk_1f (a := 21) (b := 17) hc2 rfl rfl ?_
      exact qa_bk_lw (qa_tX8_partMayEnd_17  h) rfl rfl (And.intro rfl (trivial))
noncomputable def qa_fX8_acceptDigit_28 (a1 : Int32) (σ : qa_T) : (Bool × qa_T) :=
    (false, σ)
noncomputable def qa_fX8_acceptDigit_100 (a1 : Int32) (y0 : Int32) (y1 : Int32) (σ : qa_T) : (Bool × qa_T) :=
    if y0 < y1 then
      (false, σ)
    else
      (true, σ)
noncomputable def qa_fX8_acceptDigit_61 (a1 : Int32) (σ : qa_T) : (Bool × qa_T) :=
    (true, σ)
noncomputable def qa_fX8_acceptDigit (a1 : Int32) (σ : qa_T) : (Bool × qa_T) :=
    if (σ.1 (10, 19) 2) = ((Int8.ofInt 110).toInt32) then
      qa_fX8_acceptDigit_28 a1 σ
    else
      if a1 < ((Int8.ofInt 48).toInt32) then
        qa_fX8_acceptDigit_28 a1 σ
      else
        if ((Int8.ofInt 57).toInt32) < a1 then
          qa_fX8_acceptDigit_28 a1 σ
        else
          if ¬ (σ.1 (10, 19) 3) = 0 then
            let v5 : Int32 := (a1 - ((Int8.ofInt 48).toInt32))
            if ¬ (σ.1 (10, 19) 3) = (Int32.ofInt (-1)) then
              let σ7 := qa_wi σ (10, 19) 3 ((((Int8.ofInt 10).toInt32) * (σ.1 (10, 19) 3)) + v5)
              if ¬ (σ7.1 (10, 19) 2) = ((Int8.ofInt 116).toInt32) then
                qa_fX8_acceptDigit_100 a1 ((Int8.ofInt 15).toInt32) (σ7.1 (10, 19) 3) σ7
              else
                qa_fX8_acceptDigit_100 a1 ((Int8.ofInt 100).toInt32) (σ7.1 (10, 19) 3) σ7
            else
              let σ10 := qa_wi σ (10, 19) 3 v5
              if 0 < v5 then
                qa_fX8_acceptDigit_61 a1 σ10
              else
                if (σ10.1 (10, 19) 2) = ((Int8.ofInt 116).toInt32) then
                  (false, σ10)
                else
                  qa_fX8_acceptDigit_61 a1 σ10
          else
            qa_fX8_acceptDigit_28 a1 σ
set_option maxRecDepth 100000 in
theorem qa_tX8_acceptDigit_28 {L : Nat} {a1 : Int32}  {σ : qa_T} {r : (Bool × qa_T)} (h : qa_fX8_acceptDigit_28 a1 σ = r) : qa_Bk (qa_ds L) qa_mX8_acceptDigit 28 [(0, .inl (10, 19)), (1, .inr (.int a1))] [] σ (.inl (some (.inr (.int (qa_bi r.1))))) r.2 := by
  unfold qa_fX8_acceptDigit_28 at h
  try dsimp only at h
  refine qa_bk_do (pc' := 29) rfl rfl ?_
  subst h
  exact qa_bk_rb rfl rfl rfl
set_option maxRecDepth 100000 in
theorem qa_tX8_acceptDigit_100 {L : Nat} {a1 : Int32}  {y0 : Int32} {y1 : Int32} {σ : qa_T} {r : (Bool × qa_T)} (h : qa_fX8_acceptDigit_100 a1 y0 y1 σ = r) : qa_Bk (qa_ds L) qa_mX8_acceptDigit 100 [(0, .inl (10, 19)), (1, .inr (.int a1))] [.inr (.int y0), .inr (.int y1)] σ (.inl (some (.inr (.int (qa_bi r.1))))) r.2 := by
  unfold qa_fX8_acceptDigit_100 at h
  try dsimp only at h
  rcases qa_ite h with ⟨hc9, h⟩ | ⟨hc9, h⟩
  · refine qa_bk_1t (a := 107) (b := 103) hc9 rfl rfl ?_
    refine qa_bk_do (pc' := 108) rfl rfl ?_
    subst h
    exact qa_bk_rb rfl rfl rfl
  · refine qa_bk_1f (a := 107) (b := 103) hc9 rfl rfl ?_
    refine qa_bk_do (pc' := 104) rfl rfl ?_
    refine qa_bk_do (pc' := 108) rfl rfl ?_
    subst h
    exact qa_bk_rb rfl rfl rfl
set_option maxRecDepth 100000 in
theorem qa_tX8_acceptDigit_61 {L : Nat} {a1 : Int32}  {σ : qa_T} {r : (Bool × qa_T)} (h : qa_fX8_acceptDigit_61 a1 σ = r) : qa_Bk (qa_ds L) qa_mX8_acceptDigit 61 [(0, .inl (10, 19)), (1, .inr (.int a1))] [] σ (.inl (some (.inr (.int (qa_bi r.1))))) r.2 := by
  unfold qa_fX8_acceptDigit_61 at h
  try dsimp only at h
  refine qa_bk_do (pc' := 62) rfl rfl ?_
  refine qa_bk_do (pc' := 66) rfl rfl ?_
  subst h
  exact qa_bk_rb rfl rfl rfl
set_option maxRecDepth 100000 in
theorem qa_tX8_acceptDigit {L : Nat} {a1 : Int32}  {σ : qa_T} {r : (Bool × qa_T)} (h : qa_fX8_acceptDigit a1 σ = r) : qa_Bk (qa_ds L) qa_mX8_acceptDigit 0 (qa_ag 0 [.inl (10, 19), .inr (.int a1)]) [] σ (.inl (some (.inr (.int (qa_bi r.1))))) r.2 := by
  unfold qa_fX8_acceptDigit at h
  try dsimp only at h
  show qa_Bk (qa_ds L) qa_mX8_acceptDigit 0 [(0, .inl (10, 19)), (1, .inr (.int a1))] [] σ _ _
  refine qa_bk_do (pc' := 1) rfl rfl ?_
  refine qa_bk_gi rfl rfl qa_dx_10_19 rfl ?_
  refine qa_bk_do (pc' := 6) rfl rfl ?_
  rcases qa_ite h with ⟨hc1, h⟩ | ⟨hc1, h⟩
  · refine qa_bk_1t (a := 28) (b := 9) hc1 rfl rfl ?_
    exact qa_bk_lw (qa_tX8_acceptDigit_28  h) rfl rfl (And.intro rfl (And.intro rfl (trivial)))
  · refine qa_bk_1f (a := 28) (b := 9) hc1 rfl rfl ?_
    refine qa_bk_do (pc' := 10) rfl rfl ?_
    refine qa_bk_do (pc' := 12) rfl rfl ?_
    rcases qa_ite h with ⟨hc2, h⟩ | ⟨hc2, h⟩
    · refine qa_bk_1t (a := 28) (b := 15) hc2 rfl rfl ?_
      exact qa_bk_lw (qa_tX8_acceptDigit_28  h) rfl rfl (And.intro rfl (And.intro rfl (trivial)))
    · refine qa_bk_1f (a := 28) (b := 15) hc2 rfl rfl ?_
      refine qa_bk_do (pc' := 16) rfl rfl ?_
      refine qa_bk_do (pc' := 18) rfl rfl ?_
      rcases qa_ite h with ⟨hc3, h⟩ | ⟨hc3, h⟩
      · refine qa_bk_1t (a := 28) (b := 21) hc3 rfl rfl ?_
        exact qa_bk_lw (qa_tX8_acceptDigit_28  h) rfl rfl (And.intro rfl (And.intro rfl (trivial)))
      · refine qa_bk_1f (a := 28) (b := 21) hc3 rfl rfl ?_
        refine qa_bk_do (pc' := 22) rfl rfl ?_
        refine qa_bk_gi rfl rfl qa_dx_10_19 rfl ?_
        rcases qa_ite h with ⟨hc4, h⟩ | ⟨hc4, h⟩
        · refine qa_bk_1t (a := 30) (b := 28) hc4 rfl rfl ?_
          refine qa_bk_do (pc' := 31) rfl rfl ?_
          refine qa_bk_do (pc' := 33) rfl rfl ?_
          refine qa_bk_do (pc' := 34) rfl rfl ?_
          refine qa_bk_do (pc' := 35) (lv' := [(2, _), (0, _), (1, _)]) rfl rfl ?_
          refine qa_bk_do (pc' := 36) rfl rfl ?_
          refine qa_bk_gi rfl rfl qa_dx_10_19 rfl ?_
          refine qa_bk_do (pc' := 40) rfl rfl ?_
          rcases qa_ite h with ⟨hc6, h⟩ | ⟨hc6, h⟩
          · refine qa_bk_1t (a := 67) (b := 43) hc6 rfl rfl ?_
            refine qa_bk_do (pc' := 68) rfl rfl ?_
            refine qa_bk_do (pc' := 70) rfl rfl ?_
            refine qa_bk_do (pc' := 71) rfl rfl ?_
            refine qa_bk_gi rfl rfl qa_dx_10_19 rfl ?_
            refine qa_bk_do (pc' := 75) rfl rfl ?_
            refine qa_bk_do (pc' := 76) rfl rfl ?_
            refine qa_bk_do (pc' := 77) rfl rfl ?_
            refine qa_bk_pf rfl rfl qa_dx_10_19 rfl (qa_fiti _) rfl ?_
            refine qa_bk_do (pc' := 81) rfl rfl ?_
            refine qa_bk_gi rfl rfl qa_dx_10_19 rfl ?_
            refine qa_bk_do (pc' := 85) rfl rfl ?_
            refine qa_bk_gi rfl rfl qa_dx_10_19 rfl ?_
            refine qa_bk_do (pc' := 90) rfl rfl ?_
            rcases qa_ite h with ⟨hc8, h⟩ | ⟨hc8, h⟩
            · refine qa_bk_1t (a := 98) (b := 93) hc8 rfl rfl ?_
              refine qa_bk_do (pc' := 100) rfl rfl ?_
              exact qa_bk_lw (qa_tX8_acceptDigit_100  h) rfl rfl (And.intro rfl (And.intro rfl (trivial)))
            · refine qa_bk_1f (a := 98) (b := 93) hc8 rfl rfl ?_
              refine qa_bk_do (pc' := 95) rfl rfl ?_
              refine qa_bk_do (pc' := 100) rfl rfl ?_
              exact qa_bk_lw (qa_tX8_acceptDigit_100  h) rfl rfl (And.intro rfl (And.intro rfl (trivial)))
          · refine qa_bk_1f (a := 67) (b := 43) hc6 rfl rfl ?_
            refine qa_bk_do (pc' := 44) rfl rfl ?_
            refine qa_bk_do (pc' := 45) rfl rfl ?_
            refine qa_bk_pf rfl rfl qa_dx_10_19 rfl (qa_fiti _) rfl ?_
            refine qa_bk_do (pc' := 49) rfl rfl ?_
            rcases qa_ite h with ⟨hc11, h⟩ | ⟨hc11, h⟩
            · refine qa_bk_1t (a := 61) (b := 52) hc11 rfl rfl ?_
              exact qa_bk_lw (qa_tX8_acceptDigit_61  h) rfl rfl (And.intro rfl (And.intro rfl (trivial)))
            · refine qa_bk_1f (a := 61) (b := 52) hc11 rfl rfl ?_
              refine qa_bk_do (pc' := 53) rfl rfl ?_
              refine qa_bk_gi rfl rfl qa_dx_10_19 rfl ?_
              refine qa_bk_do (pc' := 58) rfl rfl ?_
              rcases qa_ite h with ⟨hc12, h⟩ | ⟨hc12, h⟩
              · refine qa_bk_1t (a := 65) (b := 61) hc12 rfl rfl ?_
                refine qa_bk_do (pc' := 66) rfl rfl ?_
                subst h
                exact qa_bk_rb rfl rfl rfl
              · refine qa_bk_1f (a := 65) (b := 61) hc12 rfl rfl ?_
                exact qa_bk_lw (qa_tX8_acceptDigit_61  h) rfl rfl (And.intro rfl (And.intro rfl (trivial)))
        · refine qa_bk_1f (a := 30) (b := 28) hc4 rfl rfl ?_
          exact qa_bk_lw (qa_tX8_acceptDigit_28  h) rfl rfl (And.intro rfl (And.intro rfl (trivial)))
