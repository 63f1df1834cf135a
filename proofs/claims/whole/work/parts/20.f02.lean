/-! the methods as functions (written by wip/tools/gen.py) -/
noncomputable def qa_fX1_lineUp_115 (R : Nat) (k26 : Int32 → Int32 → qa_T → Option (Int32 × qa_T)) (x1 : Int32) (x2 : Int32) (σ : qa_T) : Option (Int32 × qa_T) :=
    let v6 : Int32 := x2 + Int32.ofInt 1
    k26 x1 v6 σ
noncomputable def qa_fX1_lineUp_103 (R : Nat) (k26 : Int32 → Int32 → qa_T → Option (Int32 × qa_T)) (x1 : Int32) (x2 : Int32) (x3 : Int32) (σ : qa_T) : Option (Int32 × qa_T) :=
    let σ8 := qa_fX9_set (R, 17) 16 x3 x2 σ
    let v9 : Int32 := x1 + Int32.ofInt 1
    qa_fX1_lineUp_115 R k26 v9 x2 σ8
noncomputable def qa_fX1_lineUp_47 (R : Nat) (k26 : Int32 → Int32 → qa_T → Option (Int32 × qa_T)) : Nat → Int32 → Int32 → Int32 → qa_T → Option (Int32 × qa_T)
  | 0, _, _, _, _ => none
  | n + 1, x1, x2, x3, σ =>
    if x3 ≤ 0 then
      qa_fX1_lineUp_103 R k26 x1 x2 x3 σ
    else
      if (qa_fX9_at (R, 16) 16 x2 σ) ≤ (qa_fX9_at (R, 16) 16 (qa_fX9_at (R, 17) 16 (x3 - (Int32.ofInt 1)) σ) σ) then
        qa_fX1_lineUp_103 R k26 x1 x2 x3 σ
      else
        let σ11 := qa_fX9_set (R, 17) 16 x3 (qa_fX9_at (R, 17) 16 (x3 - (Int32.ofInt 1)) σ) σ
        let v12 : Int32 := x3 + Int32.ofInt (-1)
        qa_fX1_lineUp_47 R k26 n x1 x2 v12 σ11
noncomputable def qa_fX1_lineUp_26 (R : Nat) : Nat → Int32 → Int32 → qa_T → Option (Int32 × qa_T)
  | 0, _, _, _ => none
  | n + 1, x1, x2, σ =>
    if (σ.1 (R, 1) 0) ≤ x2 then
      some (x1, σ)
    else
      if (qa_bi (qa_fX1_mayBurn R x2 σ)) = 0 then
        qa_fX1_lineUp_115 R (qa_fX1_lineUp_26 R n) x1 x2 σ
      else
        qa_fX1_lineUp_47 R (qa_fX1_lineUp_26 R n) qa_fu x1 x2 x1 σ
noncomputable def qa_fX1_lineUp_22 (R : Nat) (σ : qa_T) : Option (Int32 × qa_T) :=
    qa_fX1_lineUp_26 R qa_fu (Int32.ofInt 0) (Int32.ofInt 0) σ
noncomputable def qa_fX1_lineUp (R : Nat) (σ : qa_T) : Option (Int32 × qa_T) :=
    if ¬ (σ.1 (R, 14) 2) = (Int32.ofInt 2) then
      (qa_fX1_weighByUseOrCost R σ).bind fun c2 =>
      qa_fX1_lineUp_22 R c2
    else
      (qa_fX1_weighByNextUse R σ).bind fun c13 =>
      qa_fX1_lineUp_22 R c13
set_option maxRecDepth 100000 in
theorem qa_tX1_lineUp_115 {L : Nat} {R : Nat} (hR : qa_rg R) {k26 : Int32 → Int32 → qa_T → Option (Int32 × qa_T)} (K26 : ∀ (x1 : Int32) (x2 : Int32) (σ : qa_T) (r : (Int32 × qa_T)), k26 x1 x2 σ = some r → qa_Bk (qa_ds L) qa_mX1_lineUp 26 [(0, .inl (R, 0)), (1, .inr (.int x1)), (2, .inr (.int x2))] [] σ (.inl (some (.inr (.int r.1)))) r.2) {x1 : Int32} {x2 : Int32} {σ : qa_T} {r : (Int32 × qa_T)} (h : qa_fX1_lineUp_115 R k26 x1 x2 σ = some r) : qa_Bk (qa_ds L) qa_mX1_lineUp 115 [(0, .inl (R, 0)), (1, .inr (.int x1)), (2, .inr (.int x2))] [] σ (.inl (some (.inr (.int r.1)))) r.2 := by
  unfold qa_fX1_lineUp_115 at h
  try dsimp only at h
  refine qa_bk_do (pc' := 118) (lv' := [(2, _), (0, _), (1, _)]) rfl rfl ?_
  refine qa_bk_do (pc' := 26) rfl rfl ?_
  exact qa_bk_lw (K26 _ _ _ _ h) rfl rfl (And.intro rfl (And.intro rfl (And.intro rfl (trivial))))
set_option maxRecDepth 100000 in
theorem qa_tX1_lineUp_103 {L : Nat} {R : Nat} (hR : qa_rg R) {k26 : Int32 → Int32 → qa_T → Option (Int32 × qa_T)} (K26 : ∀ (x1 : Int32) (x2 : Int32) (σ : qa_T) (r : (Int32 × qa_T)), k26 x1 x2 σ = some r → qa_Bk (qa_ds L) qa_mX1_lineUp 26 [(0, .inl (R, 0)), (1, .inr (.int x1)), (2, .inr (.int x2))] [] σ (.inl (some (.inr (.int r.1)))) r.2) {x1 : Int32} {x2 : Int32} {x3 : Int32} {σ : qa_T} {r : (Int32 × qa_T)} (h : qa_fX1_lineUp_103 R k26 x1 x2 x3 σ = some r) : qa_Bk (qa_ds L) qa_mX1_lineUp 103 [(0, .inl (R, 0)), (1, .inr (.int x1)), (2, .inr (.int x2)), (3, .inr (.int x3))] [] σ (.inl (some (.inr (.int r.1)))) r.2 := by
  unfold qa_fX1_lineUp_103 at h
  try dsimp only at h
  refine qa_bk_do (pc' := 104) rfl rfl ?_
  refine qa_bk_gr rfl rfl (qa_ds0 hR) rfl ?_
  refine qa_bk_do (pc' := 108) rfl rfl ?_
  refine qa_bk_do (pc' := 109) rfl rfl ?_
  refine qa_bk_cs (qa_tX9_set (qa_ds17 hR) (Nat.le_of_ble_eq_true rfl) rfl) rfl rfl rfl rfl rfl rfl rfl ?_
  refine qa_bk_do (pc' := 115) (lv' := [(1, _), (0, _), (2, _), (3, _)]) rfl rfl ?_
  exact qa_bk_lw (qa_tX1_lineUp_115 hR K26 h) rfl rfl (And.intro rfl (And.intro rfl (And.intro rfl (trivial))))
set_option maxRecDepth 100000 in
theorem qa_tX1_lineUp_47 {L : Nat} {R : Nat} (hR : qa_rg R) {k26 : Int32 → Int32 → qa_T → Option (Int32 × qa_T)} (K26 : ∀ (x1 : Int32) (x2 : Int32) (σ : qa_T) (r : (Int32 × qa_T)), k26 x1 x2 σ = some r → qa_Bk (qa_ds L) qa_mX1_lineUp 26 [(0, .inl (R, 0)), (1, .inr (.int x1)), (2, .inr (.int x2))] [] σ (.inl (some (.inr (.int r.1)))) r.2) : ∀ (n : Nat) (x1 : Int32) (x2 : Int32) (x3 : Int32) (σ : qa_T) (r : (Int32 × qa_T)), qa_fX1_lineUp_47 R k26 n x1 x2 x3 σ = some r → qa_Bk (qa_ds L) qa_mX1_lineUp 47 [(0, .inl (R, 0)), (1, .inr (.int x1)), (2, .inr (.int x2)), (3, .inr (.int x3))] [] σ (.inl (some (.inr (.int r.1)))) r.2 := by
  intro n
  induction n with
  | zero => intro x1 x2 x3 σ r h; cases h
  | succ n ih =>
    intro x1 x2 x3 σ r h
    unfold qa_fX1_lineUp_47 at h
    try dsimp only at h
    refine qa_bk_do (pc' := 48) rfl rfl ?_
    rcases qa_ite h with ⟨hc7, h⟩ | ⟨hc7, h⟩
    · refine qa_bk_1t (a := 103) (b := 51) hc7 rfl rfl ?_
      exact qa_bk_lw (qa_tX1_lineUp_103 hR K26 h) rfl rfl (And.intro rfl (And.intro rfl (And.intro rfl (And.intro rfl (trivial)))))
    · refine qa_bk_1f (a := 103) (b := 51) hc7 rfl rfl ?_
      refine qa_bk_do (pc' := 52) rfl rfl ?_
      refine qa_bk_gr rfl rfl (qa_ds0 hR) rfl ?_
      refine qa_bk_do (pc' := 56) rfl rfl ?_
      refine qa_bk_gr rfl rfl (qa_ds0 hR) rfl ?_
      refine qa_bk_do (pc' := 60) rfl rfl ?_
      refine qa_bk_do (pc' := 61) rfl rfl ?_
      refine qa_bk_do (pc' := 62) rfl rfl ?_
      refine qa_bk_cs (qa_tX9_at (qa_ds17 hR) (Nat.le_of_ble_eq_true rfl) rfl) rfl rfl rfl rfl rfl rfl rfl ?_
      refine qa_bk_cs (qa_tX9_at (qa_ds16 hR) (Nat.le_of_ble_eq_true rfl) rfl) rfl rfl rfl rfl rfl rfl rfl ?_
      refine qa_bk_do (pc' := 69) rfl rfl ?_
      refine qa_bk_gr rfl rfl (qa_ds0 hR) rfl ?_
      refine qa_bk_do (pc' := 73) rfl rfl ?_
      refine qa_bk_cs (qa_tX9_at (qa_ds16 hR) (Nat.le_of_ble_eq_true rfl) rfl) rfl rfl rfl rfl rfl rfl rfl ?_
      rcases qa_ite h with ⟨hc10, h⟩ | ⟨hc10, h⟩
      · refine qa_bk_1t (a := 103) (b := 79) hc10 rfl rfl ?_
        exact qa_bk_lw (qa_tX1_lineUp_103 hR K26 h) rfl rfl (And.intro rfl (And.intro rfl (And.intro rfl (And.intro rfl (trivial)))))
      · refine qa_bk_1f (a := 103) (b := 79) hc10 rfl rfl ?_
        refine qa_bk_do (pc' := 80) rfl rfl ?_
        refine qa_bk_gr rfl rfl (qa_ds0 hR) rfl ?_
        refine qa_bk_do (pc' := 84) rfl rfl ?_
        refine qa_bk_do (pc' := 85) rfl rfl ?_
        refine qa_bk_gr rfl rfl (qa_ds0 hR) rfl ?_
        refine qa_bk_do (pc' := 89) rfl rfl ?_
        refine qa_bk_do (pc' := 90) rfl rfl ?_
        refine qa_bk_do (pc' := 91) rfl rfl ?_
        refine qa_bk_cs (qa_tX9_at (qa_ds17 hR) (Nat.le_of_ble_eq_true rfl) rfl) rfl rfl rfl rfl rfl rfl rfl ?_
        refine qa_bk_cs (qa_tX9_set (qa_ds17 hR) (Nat.le_of_ble_eq_true rfl) rfl) rfl rfl rfl rfl rfl rfl rfl ?_
        refine qa_bk_do (pc' := 100) (lv' := [(3, _), (0, _), (1, _), (2, _)]) rfl rfl ?_
        refine qa_bk_do (pc' := 47) rfl rfl ?_
        exact qa_bk_lw (ih _ _ _ _ _ h) rfl rfl (And.intro rfl (And.intro rfl (And.intro rfl (And.intro rfl (trivial)))))
set_option maxRecDepth 100000 in
theorem qa_tX1_lineUp_26 {L : Nat} {R : Nat} (hR : qa_rg R) : ∀ (n : Nat) (x1 : Int32) (x2 : Int32) (σ : qa_T) (r : (Int32 × qa_T)), qa_fX1_lineUp_26 R n x1 x2 σ = some r → qa_Bk (qa_ds L) qa_mX1_lineUp 26 [(0, .inl (R, 0)), (1, .inr (.int x1)), (2, .inr (.int x2))] [] σ (.inl (some (.inr (.int r.1)))) r.2 := by
  intro n
  induction n with
  | zero => intro x1 x2 σ r h; cases h
  | succ n ih =>
    intro x1 x2 σ r h
    unfold qa_fX1_lineUp_26 at h
    try dsimp only at h
    refine qa_bk_do (pc' := 27) rfl rfl ?_
    refine qa_bk_do (pc' := 28) rfl rfl ?_
    refine qa_bk_gr rfl rfl (qa_ds0 hR) rfl ?_
    refine qa_bk_gi rfl rfl (qa_ds1 hR) rfl ?_
    rcases qa_ite h with ⟨hc4, h⟩ | ⟨hc4, h⟩
    · refine qa_bk_1t (a := 121) (b := 37) hc4 rfl rfl ?_
      refine qa_bk_do (pc' := 122) rfl rfl ?_
      cases h
      exact qa_bk_ri rfl rfl
    · refine qa_bk_1f (a := 121) (b := 37) hc4 rfl rfl ?_
      refine qa_bk_do (pc' := 38) rfl rfl ?_
      refine qa_bk_do (pc' := 39) rfl rfl ?_
      refine qa_bk_cv (qa_tX1_mayBurn hR rfl) rfl rfl rfl rfl rfl rfl rfl (qa_ds0 hR) ?_
      rcases qa_ite h with ⟨hc5, h⟩ | ⟨hc5, h⟩
      · refine qa_bk_1t (a := 115) (b := 45) hc5 rfl rfl ?_
        exact qa_bk_lw (qa_tX1_lineUp_115 hR ih h) rfl rfl (And.intro rfl (And.intro rfl (And.intro rfl (trivial))))
      · refine qa_bk_1f (a := 115) (b := 45) hc5 rfl rfl ?_
        refine qa_bk_do (pc' := 46) rfl rfl ?_
        refine qa_bk_do (pc' := 47) (lv' := [(3, _), (0, _), (1, _), (2, _)]) rfl rfl ?_
        exact qa_bk_lw (qa_tX1_lineUp_47 hR ih _ _ _ _ _ _ h) rfl rfl (And.intro rfl (And.intro rfl (And.intro rfl (And.intro rfl (trivial)))))
set_option maxRecDepth 100000 in
theorem qa_tX1_lineUp_22 {L : Nat} {R : Nat} (hR : qa_rg R) {σ : qa_T} {r : (Int32 × qa_T)} (h : qa_fX1_lineUp_22 R σ = some r) : qa_Bk (qa_ds L) qa_mX1_lineUp 22 [(0, .inl (R, 0))] [] σ (.inl (some (.inr (.int r.1)))) r.2 := by
  unfold qa_fX1_lineUp_22 at h
  try dsimp only at h
  refine qa_bk_do (pc' := 23) rfl rfl ?_
  refine qa_bk_do (pc' := 24) (lv' := [(1, _), (0, _)]) rfl rfl ?_
  refine qa_bk_do (pc' := 25) rfl rfl ?_
  refine qa_bk_do (pc' := 26) (lv' := [(2, _), (1, _), (0, _)]) rfl rfl ?_
  exact qa_bk_lw (qa_tX1_lineUp_26 hR _ _ _ _ _ h) rfl rfl (And.intro rfl (And.intro rfl (And.intro rfl (trivial))))
set_option maxRecDepth 100000 in
theorem qa_tX1_lineUp {L : Nat} {R : Nat} (hR : qa_rg R) {σ : qa_T} {r : (Int32 × qa_T)} (h : qa_fX1_lineUp R σ = some r) : qa_Bk (qa_ds L) qa_mX1_lineUp 0 (qa_ag 0 [.inl (R, 0)]) [] σ (.inl (some (.inr (.int r.1)))) r.2 := by
  unfold qa_fX1_lineUp at h
  try dsimp only at h
  show qa_Bk (qa_ds L) qa_mX1_lineUp 0 [(0, .inl (R, 0))] [] σ _ _
  refine qa_bk_do (pc' := 1) rfl rfl ?_
  refine qa_bk_gr rfl rfl (qa_ds0 hR) rfl ?_
  refine qa_bk_gi rfl rfl (qa_ds14 hR) rfl ?_
  refine qa_bk_do (pc' := 8) rfl rfl ?_
  rcases qa_ite h with ⟨hc1, h⟩ | ⟨hc1, h⟩
  · refine qa_bk_1t (a := 18) (b := 11) hc1 rfl rfl ?_
    refine qa_bk_do (pc' := 19) rfl rfl ?_
    obtain ⟨c2, hc3, h⟩ := Option.bind_eq_some_iff.mp h
    refine qa_bk_cv (qa_tX1_weighByUseOrCost hR hc3) rfl rfl rfl rfl rfl rfl rfl (qa_ds0 hR) ?_
    exact qa_bk_lw (qa_tX1_lineUp_22 hR h) rfl rfl (And.intro rfl (trivial))
  · refine qa_bk_1f (a := 18) (b := 11) hc1 rfl rfl ?_
    refine qa_bk_do (pc' := 12) rfl rfl ?_
    obtain ⟨c13, hc14, h⟩ := Option.bind_eq_some_iff.mp h
    refine qa_bk_cv (qa_tX1_weighByNextUse hR hc14) rfl rfl rfl rfl rfl rfl rfl (qa_ds0 hR) ?_
    refine qa_bk_do (pc' := 22) rfl rfl ?_
    exact qa_bk_lw (qa_tX1_lineUp_22 hR h) rfl rfl (And.intro rfl (trivial))
noncomputable def qa_fX6_setReady_20 (R : Nat) (a1 : Int32) (a2 : Bool) (σ : qa_T) : qa_T :=
    σ
noncomputable def qa_fX6_setReady (R : Nat) (a1 : Int32) (a2 : Bool) (σ : qa_T) : qa_T :=
    if a1 < 0 then
      qa_fX6_setReady_20 R a1 a2 σ
    else
      if Int32.ofNat 16 ≤ a1 then
        qa_fX6_setReady_20 R a1 a2 σ
      else
        let σ3 := qa_wi σ (R, 5) (a1).toNatClampNeg (qa_bi a2)
        qa_fX6_setReady_20 R a1 a2 σ3
set_option maxRecDepth 100000 in
theorem qa_tX6_setReady_20 {L : Nat} {R : Nat} {a1 : Int32} {a2 : Bool} (hR : qa_rg R) {σ : qa_T} {r : qa_T} (h : qa_fX6_setReady_20 R a1 a2 σ = r) : qa_Bk (qa_ds L) qa_mX6_setReady 20 [(0, .inl (R, 1)), (1, .inr (.int a1)), (2, .inr (.int (qa_bi a2)))] [] σ (.inl none) r := by
  unfold qa_fX6_setReady_20 at h
  try dsimp only at h
  subst h
  exact qa_bk_re rfl rfl rfl
set_option maxRecDepth 100000 in
theorem qa_tX6_setReady {L : Nat} {R : Nat} {a1 : Int32} {a2 : Bool} (hR : qa_rg R) {σ : qa_T} {r : qa_T} (h : qa_fX6_setReady R a1 a2 σ = r) : qa_Bk (qa_ds L) qa_mX6_setReady 0 (qa_ag 0 [.inl (R, 1), .inr (.int a1), .inr (.int (qa_bi a2))]) [] σ (.inl none) r := by
  unfold qa_fX6_setReady at h
  try dsimp only at h
  show qa_Bk (qa_ds L) qa_mX6_setReady 0 [(0, .inl (R, 1)), (1, .inr (.int a1)), (2, .inr (.int (qa_bi a2)))] [] σ _ _
  refine qa_bk_do (pc' := 1) rfl rfl ?_
  rcases qa_ite h with ⟨hc1, h⟩ | ⟨hc1, h⟩
  · refine qa_bk_1t (a := 20) (b := 4) hc1 rfl rfl ?_
    exact qa_bk_lw (qa_tX6_setReady_20 hR h) rfl rfl (And.intro rfl (And.intro rfl (And.intro rfl (trivial))))
  · refine qa_bk_1f (a := 20) (b := 4) hc1 rfl rfl ?_
    refine qa_bk_do (pc' := 5) rfl rfl ?_
    refine qa_bk_do (pc' := 6) rfl rfl ?_
    refine qa_bk_gr rfl rfl (qa_ds1 hR) rfl ?_
    refine qa_bk_al rfl (qa_ds5 hR) (Or.inl (by decide)) ?_
    rcases qa_ite h with ⟨hc2, h⟩ | ⟨hc2, h⟩
    · refine qa_bk_1t (a := 20) (b := 13) hc2 rfl rfl ?_
      exact qa_bk_lw (qa_tX6_setReady_20 hR h) rfl rfl (And.intro rfl (And.intro rfl (And.intro rfl (trivial))))
    · refine qa_bk_1f (a := 20) (b := 13) hc2 rfl rfl ?_
      refine qa_bk_do (pc' := 14) rfl rfl ?_
      refine qa_bk_gr rfl rfl (qa_ds1 hR) rfl ?_
      refine qa_bk_do (pc' := 18) rfl rfl ?_
      refine qa_bk_do (pc' := 19) rfl rfl ?_
      refine qa_bk_bs (v := qa_bi a2) rfl (qa_ds5 hR) (qa_in_g hc1 hc2 (Nat.le_of_ble_eq_true rfl)) (qa_bi01 _) ?_
      exact qa_bk_lw (qa_tX6_setReady_20 hR h) rfl rfl (And.intro rfl (And.intro rfl (And.intro rfl (trivial))))
noncomputable def qa_fX1_putOnFire (R : Nat) (a1 : Int32) (σ : qa_T) : qa_T :=
    let σ1 := qa_fX6_setReady R a1 false σ
    let σ2 := qa_fX9_set (R, 6) 16 a1 (σ1.1 (R, 14) 3) σ1
    let σ3 := qa_fX9_set (R, 7) 16 a1 ((qa_fX9_at (R, 7) 16 a1 σ2) + (Int32.ofInt 1)) σ2
    let σ4 := qa_wi σ3 (R, 12) 4 ((σ3.1 (R, 12) 4) - (qa_fX9_at (R, 2) 16 a1 σ3))
    let σ5 := qa_wi σ4 (R, 15) 5 ((σ4.1 (R, 15) 5) + (Int32.ofInt 1))
    σ5
set_option maxRecDepth 100000 in
theorem qa_tX1_putOnFire {L : Nat} {R : Nat} {a1 : Int32} (hR : qa_rg R) {σ : qa_T} {r : qa_T} (h : qa_fX1_putOnFire R a1 σ = r) : qa_Bk (qa_ds L) qa_mX1_putOnFire 0 (qa_ag 0 [.inl (R, 0), .inr (.int a1)]) [] σ (.inl none) r := by
  unfold qa_fX1_putOnFire at h
  try dsimp only at h
  show qa_Bk (qa_ds L) qa_mX1_putOnFire 0 [(0, .inl (R, 0)), (1, .inr (.int a1))] [] σ _ _
  refine qa_bk_do (pc' := 1) rfl rfl ?_
  refine qa_bk_gr rfl rfl (qa_ds0 hR) rfl ?_
  refine qa_bk_do (pc' := 5) rfl rfl ?_
  refine qa_bk_do (pc' := 6) rfl rfl ?_
  refine qa_bk_cv (qa_tX6_setReady (a2 := false) hR rfl) rfl rfl rfl rfl rfl rfl rfl (qa_ds1 hR) ?_
  refine qa_bk_do (pc' := 10) rfl rfl ?_
  refine qa_bk_gr rfl rfl (qa_ds0 hR) rfl ?_
  refine qa_bk_gr rfl rfl (qa_ds1 hR) rfl ?_
  refine qa_bk_do (pc' := 17) rfl rfl ?_
  refine qa_bk_do (pc' := 18) rfl rfl ?_
  refine qa_bk_gr rfl rfl (qa_ds0 hR) rfl ?_
  refine qa_bk_gi rfl rfl (qa_ds14 hR) rfl ?_
  refine qa_bk_cs (qa_tX9_set (qa_ds6 hR) (Nat.le_of_ble_eq_true rfl) rfl) rfl rfl rfl rfl rfl rfl rfl ?_
  refine qa_bk_do (pc' := 28) rfl rfl ?_
  refine qa_bk_gr rfl rfl (qa_ds0 hR) rfl ?_
  refine qa_bk_gr rfl rfl (qa_ds1 hR) rfl ?_
  refine qa_bk_do (pc' := 35) rfl rfl ?_
  refine qa_bk_do (pc' := 36) rfl rfl ?_
  refine qa_bk_gr rfl rfl (qa_ds0 hR) rfl ?_
  refine qa_bk_gr rfl rfl (qa_ds1 hR) rfl ?_
  refine qa_bk_do (pc' := 43) rfl rfl ?_
  refine qa_bk_cs (qa_tX9_at (qa_ds7 hR) (Nat.le_of_ble_eq_true rfl) rfl) rfl rfl rfl rfl rfl rfl rfl ?_
  refine qa_bk_do (pc' := 47) rfl rfl ?_
  refine qa_bk_do (pc' := 48) rfl rfl ?_
  refine qa_bk_cs (qa_tX9_set (qa_ds7 hR) (Nat.le_of_ble_eq_true rfl) rfl) rfl rfl rfl rfl rfl rfl rfl ?_
  refine qa_bk_do (pc' := 52) rfl rfl ?_
  refine qa_bk_gr rfl rfl (qa_ds0 hR) rfl ?_
  refine qa_bk_do (pc' := 56) rfl rfl ?_
  refine qa_bk_gi rfl rfl (qa_ds12 hR) rfl ?_
  refine qa_bk_do (pc' := 60) rfl rfl ?_
  refine qa_bk_gr rfl rfl (qa_ds0 hR) rfl ?_
  refine qa_bk_gr rfl rfl (qa_ds1 hR) rfl ?_
  refine qa_bk_do (pc' := 67) rfl rfl ?_
  refine qa_bk_cs (qa_tX9_at (qa_ds2 hR) (Nat.le_of_ble_eq_true rfl) rfl) rfl rfl rfl rfl rfl rfl rfl ?_
  refine qa_bk_do (pc' := 71) rfl rfl ?_
  refine qa_bk_pf rfl rfl (qa_ds12 hR) rfl (qa_fiti _) rfl ?_
  refine qa_bk_do (pc' := 75) rfl rfl ?_
  refine qa_bk_gr rfl rfl (qa_ds0 hR) rfl ?_
  refine qa_bk_do (pc' := 79) rfl rfl ?_
  refine qa_bk_gi rfl rfl (qa_ds15 hR) rfl ?_
  refine qa_bk_do (pc' := 83) rfl rfl ?_
  refine qa_bk_do (pc' := 84) rfl rfl ?_
  refine qa_bk_pf rfl rfl (qa_ds15 hR) rfl (qa_fiti _) rfl ?_
  subst h
  exact qa_bk_re rfl rfl rfl
noncomputable def qa_fX1_burnDownTo_53 (R : Nat) (a1 : Int32) (σ : qa_T) : Option qa_T :=
    some σ
noncomputable def qa_fX1_burnDownTo_19 (R : Nat) (a1 : Int32) : Nat → Int32 → Int32 → qa_T → Option qa_T
  | 0, _, _, _ => none
  | n + 1, x2, x3, σ =>
    if x2 ≤ x3 then
      qa_fX1_burnDownTo_53 R a1 σ
    else
      if (σ.1 (R, 12) 4) ≤ a1 then
        qa_fX1_burnDownTo_53 R a1 σ
      else
        let σ6 := qa_fX1_putOnFire R (qa_fX9_at (R, 17) 16 x3 σ) σ
        let v7 : Int32 := x3 + Int32.ofInt 1
        qa_fX1_burnDownTo_19 R a1 n x2 v7 σ6
noncomputable def qa_fX1_burnDownTo (R : Nat) (a1 : Int32) (σ : qa_T) : Option qa_T :=
    if a1 < (σ.1 (R, 12) 4) then
      (qa_fX1_lineUp R σ).bind fun c2 =>
      qa_fX1_burnDownTo_19 R a1 qa_fu c2.1 (Int32.ofInt 0) c2.2
    else
      some σ
set_option maxRecDepth 100000 in
theorem qa_tX1_burnDownTo_53 {L : Nat} {R : Nat} {a1 : Int32} (hR : qa_rg R) {σ : qa_T} {r : qa_T} (h : qa_fX1_burnDownTo_53 R a1 σ = some r) : qa_Bk (qa_ds L) qa_mX1_burnDownTo 53 [(0, .inl (R, 0)), (1, .inr (.int a1))] [] σ (.inl none) r := by
  unfold qa_fX1_burnDownTo_53 at h
  try dsimp only at h
  cases h
  exact qa_bk_re rfl rfl rfl
set_option maxRecDepth 100000 in
theorem qa_tX1_burnDownTo_19 {L : Nat} {R : Nat} {a1 : Int32} (hR : qa_rg R) : ∀ (n : Nat) (x2 : Int32) (x3 : Int32) (σ : qa_T) (r : qa_T), qa_fX1_burnDownTo_19 R a1 n x2 x3 σ = some r → qa_Bk (qa_ds L) qa_mX1_burnDownTo 19 [(0, .inl (R, 0)), (1, .inr (.int a1)), (2, .inr (.int x2)), (3, .inr (.int x3))] [] σ (.inl none) r := by
  intro n
  induction n with
  | zero => intro x2 x3 σ r h; cases h
  | succ n ih =>
    intro x2 x3 σ r h
    unfold qa_fX1_burnDownTo_19 at h
    try dsimp only at h
    refine qa_bk_do (pc' := 20) rfl rfl ?_
    refine qa_bk_do (pc' := 21) rfl rfl ?_
    rcases qa_ite h with ⟨hc4, h⟩ | ⟨hc4, h⟩
    · refine qa_bk_1t (a := 53) (b := 24) hc4 rfl rfl ?_
      exact qa_bk_lw (qa_tX1_burnDownTo_53 hR h) rfl rfl (And.intro rfl (And.intro rfl (trivial)))
    · refine qa_bk_1f (a := 53) (b := 24) hc4 rfl rfl ?_
      refine qa_bk_do (pc' := 25) rfl rfl ?_
      refine qa_bk_gr rfl rfl (qa_ds0 hR) rfl ?_
      refine qa_bk_gi rfl rfl (qa_ds12 hR) rfl ?_
      refine qa_bk_do (pc' := 32) rfl rfl ?_
      rcases qa_ite h with ⟨hc5, h⟩ | ⟨hc5, h⟩
      · refine qa_bk_1t (a := 53) (b := 35) hc5 rfl rfl ?_
        exact qa_bk_lw (qa_tX1_burnDownTo_53 hR h) rfl rfl (And.intro rfl (And.intro rfl (trivial)))
      · refine qa_bk_1f (a := 53) (b := 35) hc5 rfl rfl ?_
        refine qa_bk_do (pc' := 36) rfl rfl ?_
        refine qa_bk_do (pc' := 37) rfl rfl ?_
        refine qa_bk_gr rfl rfl (qa_ds0 hR) rfl ?_
        refine qa_bk_do (pc' := 41) rfl rfl ?_
        refine qa_bk_cs (qa_tX9_at (qa_ds17 hR) (Nat.le_of_ble_eq_true rfl) rfl) rfl rfl rfl rfl rfl rfl rfl ?_
        refine qa_bk_cv (qa_tX1_putOnFire hR rfl) rfl rfl rfl rfl rfl rfl rfl (qa_ds0 hR) ?_
        refine qa_bk_do (pc' := 50) (lv' := [(3, _), (0, _), (1, _), (2, _)]) rfl rfl ?_
        refine qa_bk_do (pc' := 19) rfl rfl ?_
        exact qa_bk_lw (ih _ _ _ _ h) rfl rfl (And.intro rfl (And.intro rfl (And.intro rfl (And.intro rfl (trivial)))))
set_option maxRecDepth 100000 in
theorem qa_tX1_burnDownTo {L : Nat} {R : Nat} {a1 : Int32} (hR : qa_rg R) {σ : qa_T} {r : qa_T} (h : qa_fX1_burnDownTo R a1 σ = some r) : qa_Bk (qa_ds L) qa_mX1_burnDownTo 0 (qa_ag 0 [.inl (R, 0), .inr (.int a1)]) [] σ (.inl none) r := by
  unfold qa_fX1_burnDownTo at h
  try dsimp only at h
  show qa_Bk (qa_ds L) qa_mX1_burnDownTo 0 [(0, .inl (R, 0)), (1, .inr (.int a1))] [] σ _ _
  refine qa_bk_do (pc' := 1) rfl rfl ?_
  refine qa_bk_gr rfl rfl (qa_ds0 hR) rfl ?_
  refine qa_bk_gi rfl rfl (qa_ds12 hR) rfl ?_
  refine qa_bk_do (pc' := 8) rfl rfl ?_
  rcases qa_ite h with ⟨hc1, h⟩ | ⟨hc1, h⟩
  · refine qa_bk_1t (a := 12) (b := 11) hc1 rfl rfl ?_
    refine qa_bk_do (pc' := 13) rfl rfl ?_
    obtain ⟨c2, hc3, h⟩ := Option.bind_eq_some_iff.mp h
    refine qa_bk_cv (qa_tX1_lineUp hR hc3) rfl rfl rfl rfl rfl rfl rfl (qa_ds0 hR) ?_
    refine qa_bk_do (pc' := 17) (lv' := [(2, _), (0, _), (1, _)]) rfl rfl ?_
    refine qa_bk_do (pc' := 18) rfl rfl ?_
    refine qa_bk_do (pc' := 19) (lv' := [(3, _), (2, _), (0, _), (1, _)]) rfl rfl ?_
    exact qa_bk_lw (qa_tX1_burnDownTo_19 hR _ _ _ _ _ h) rfl rfl (And.intro rfl (And.intro rfl (And.intro rfl (And.intro rfl (trivial)))))
  · refine qa_bk_1f (a := 12) (b := 11) hc1 rfl rfl ?_
    cases h
    exact qa_bk_re rfl rfl rfl
noncomputable def qa_fX6_ticksToLoad_30 (R : Nat) (a1 : Int32) (a2 : Int32) (y0 : Int32) (σ : qa_T) : Int32 :=
    y0
noncomputable def qa_fX6_ticksToLoad (R : Nat) (a1 : Int32) (a2 : Int32) (σ : qa_T) : Int32 :=
    let v1 : Int32 := (qa_fX9_at (R, 3) 16 a1 σ)
    if (qa_fX9_at (R, 6) 16 a1 σ) ≤ a2 then
      qa_fX6_ticksToLoad_30 R a1 a2 v1 σ
    else
      qa_fX6_ticksToLoad_30 R a1 a2 ((v1 + (Int32.ofInt 1)) / (Int32.ofInt 2)) σ
set_option maxRecDepth 100000 in
theorem qa_tX6_ticksToLoad_30 {L : Nat} {R : Nat} {a1 : Int32} {a2 : Int32} (hR : qa_rg R) {y0 : Int32} {σ : qa_T} {r : Int32} (h : qa_fX6_ticksToLoad_30 R a1 a2 y0 σ = r) : qa_Bk (qa_ds L) qa_mX6_ticksToLoad 30 [(0, .inl (R, 1)), (1, .inr (.int a1)), (2, .inr (.int a2))] [.inr (.int y0)] σ (.inl (some (.inr (.int r)))) σ := by
  unfold qa_fX6_ticksToLoad_30 at h
  try dsimp only at h
  subst h
  exact qa_bk_ri rfl rfl
set_option maxRecDepth 100000 in
theorem qa_tX6_ticksToLoad {L : Nat} {R : Nat} {a1 : Int32} {a2 : Int32} (hR : qa_rg R) {σ : qa_T} {r : Int32} (h : qa_fX6_ticksToLoad R a1 a2 σ = r) : qa_Bk (qa_ds L) qa_mX6_ticksToLoad 0 (qa_ag 0 [.inl (R, 1), .inr (.int a1), .inr (.int a2)]) [] σ (.inl (some (.inr (.int r)))) σ := by
  unfold qa_fX6_ticksToLoad at h
  try dsimp only at h
  show qa_Bk (qa_ds L) qa_mX6_ticksToLoad 0 [(0, .inl (R, 1)), (1, .inr (.int a1)), (2, .inr (.int a2))] [] σ _ _
  refine qa_bk_do (pc' := 1) rfl rfl ?_
  refine qa_bk_gr rfl rfl (qa_ds1 hR) rfl ?_
  refine qa_bk_do (pc' := 5) rfl rfl ?_
  refine qa_bk_cs (qa_tX9_at (qa_ds3 hR) (Nat.le_of_ble_eq_true rfl) rfl) rfl rfl rfl rfl rfl rfl rfl ?_
  refine qa_bk_do (pc' := 9) (lv' := [(3, _), (0, _), (1, _), (2, _)]) rfl rfl ?_
  refine qa_bk_do (pc' := 10) rfl rfl ?_
  refine qa_bk_gr rfl rfl (qa_ds1 hR) rfl ?_
  refine qa_bk_do (pc' := 14) rfl rfl ?_
  refine qa_bk_cs (qa_tX9_at (qa_ds6 hR) (Nat.le_of_ble_eq_true rfl) rfl) rfl rfl rfl rfl rfl rfl rfl ?_
  refine qa_bk_do (pc' := 18) rfl rfl ?_
  rcases qa_ite h with ⟨hc2, h⟩ | ⟨hc2, h⟩
  · refine qa_bk_1t (a := 29) (b := 21) hc2 rfl rfl ?_
    refine qa_bk_do (pc' := 30) rfl rfl ?_
    exact qa_bk_lw (qa_tX6_ticksToLoad_30 hR h) rfl rfl (And.intro rfl (And.intro rfl (And.intro rfl (trivial))))
  · refine qa_bk_1f (a := 29) (b := 21) hc2 rfl rfl ?_
    refine qa_bk_do (pc' := 22) rfl rfl ?_
    refine qa_bk_do (pc' := 23) rfl rfl ?_
    refine qa_bk_do (pc' := 24) rfl rfl ?_
    refine qa_bk_do (pc' := 25) rfl rfl ?_
    refine qa_bk_dv (by decide) rfl ?_
    refine qa_bk_do (pc' := 30) rfl rfl ?_
    exact qa_bk_lw (qa_tX6_ticksToLoad_30 hR h) rfl rfl (And.intro rfl (And.intro rfl (And.intro rfl (trivial))))
noncomputable def qa_fX1_beginLoading_75 (R : Nat) (x1 : Int32) (x2 : Int32) (σ : qa_T) : Option qa_T :=
    let σ9 := qa_wi σ (R, 15) 3 ((σ.1 (R, 15) 3) + (Int32.ofInt 1))
    let σ10 := qa_wi σ9 (R, 12) 0 x1
    let σ11 := qa_wi σ10 (R, 12) 1 (qa_fX6_ticksToLoad R x1 (Int32.ofInt 0) σ10)
    let σ12 := qa_wi σ11 (R, 12) 4 ((σ11.1 (R, 12) 4) + x2)
    let σ13 := qa_fX9_set (R, 6) 16 x1 (Int32.ofInt 0) σ12
    some σ13
noncomputable def qa_fX1_beginLoading (R : Nat) (σ : qa_T) : Option qa_T :=
    if (σ.1 (R, 12) 0) = (Int32.ofInt (-1)) then
      (qa_fX1_nextToLoad R σ).bind fun c2 =>
      if ¬ c2.1 = (Int32.ofInt (-1)) then
        let v5 : Int32 := (qa_fX9_at (R, 2) 16 c2.1 c2.2)
        (qa_fX1_burnDownTo R ((c2.2.1 (R, 14) 0) - v5) c2.2).bind fun c6 =>
        if (qa_fX9_at (R, 6) 16 c2.1 c6) ≤ 0 then
          qa_fX1_beginLoading_75 R c2.1 v5 c6
        else
          let σ14 := qa_wi c6 (R, 15) 4 ((c6.1 (R, 15) 4) + (Int32.ofInt 1))
          qa_fX1_beginLoading_75 R c2.1 v5 σ14
      else
        some c2.2
    else
      some σ
set_option maxRecDepth 100000 in
theorem qa_tX1_beginLoading_75 {L : Nat} {R : Nat} (hR : qa_rg R) {x1 : Int32} {x2 : Int32} {σ : qa_T} {r : qa_T} (h : qa_fX1_beginLoading_75 R x1 x2 σ = some r) : qa_Bk (qa_ds L) qa_mX1_beginLoading 75 [(0, .inl (R, 0)), (1, .inr (.int x1)), (2, .inr (.int x2))] [] σ (.inl none) r := by
  unfold qa_fX1_beginLoading_75 at h
  try dsimp only at h
  refine qa_bk_do (pc' := 76) rfl rfl ?_
  refine qa_bk_gr rfl rfl (qa_ds0 hR) rfl ?_
  refine qa_bk_do (pc' := 80) rfl rfl ?_
  refine qa_bk_gi rfl rfl (qa_ds15 hR) rfl ?_
  refine qa_bk_do (pc' := 84) rfl rfl ?_
  refine qa_bk_do (pc' := 85) rfl rfl ?_
  refine qa_bk_pf rfl rfl (qa_ds15 hR) rfl (qa_fiti _) rfl ?_
  refine qa_bk_do (pc' := 89) rfl rfl ?_
  refine qa_bk_gr rfl rfl (qa_ds0 hR) rfl ?_
  refine qa_bk_do (pc' := 93) rfl rfl ?_
  refine qa_bk_pf rfl rfl (qa_ds12 hR) rfl (qa_fiti _) rfl ?_
  refine qa_bk_do (pc' := 97) rfl rfl ?_
  refine qa_bk_gr rfl rfl (qa_ds0 hR) rfl ?_
  refine qa_bk_do (pc' := 101) rfl rfl ?_
  refine qa_bk_gr rfl rfl (qa_ds0 hR) rfl ?_
  refine qa_bk_do (pc' := 105) rfl rfl ?_
  refine qa_bk_do (pc' := 106) rfl rfl ?_
  refine qa_bk_cv (qa_tX6_ticksToLoad hR rfl) rfl rfl rfl rfl rfl rfl rfl (qa_ds1 hR) ?_
  refine qa_bk_pf rfl rfl (qa_ds12 hR) rfl (qa_fiti _) rfl ?_
  refine qa_bk_do (pc' := 113) rfl rfl ?_
  refine qa_bk_gr rfl rfl (qa_ds0 hR) rfl ?_
  refine qa_bk_do (pc' := 117) rfl rfl ?_
  refine qa_bk_gi rfl rfl (qa_ds12 hR) rfl ?_
  refine qa_bk_do (pc' := 121) rfl rfl ?_
  refine qa_bk_do (pc' := 122) rfl rfl ?_
  refine qa_bk_pf rfl rfl (qa_ds12 hR) rfl (qa_fiti _) rfl ?_
  refine qa_bk_do (pc' := 126) rfl rfl ?_
  refine qa_bk_gr rfl rfl (qa_ds0 hR) rfl ?_
  refine qa_bk_gr rfl rfl (qa_ds1 hR) rfl ?_
  refine qa_bk_do (pc' := 133) rfl rfl ?_
  refine qa_bk_do (pc' := 134) rfl rfl ?_
  refine qa_bk_cs (qa_tX9_set (qa_ds6 hR) (Nat.le_of_ble_eq_true rfl) rfl) rfl rfl rfl rfl rfl rfl rfl ?_
  cases h
  exact qa_bk_re rfl rfl rfl
set_option maxRecDepth 100000 in
theorem qa_tX1_beginLoading {L : Nat} {R : Nat} (hR : qa_rg R) {σ : qa_T} {r : qa_T} (h : qa_fX1_beginLoading R σ = some r) : qa_Bk (qa_ds L) qa_mX1_beginLoading 0 (qa_ag 0 [.inl (R, 0)]) [] σ (.inl none) r := by
  unfold qa_fX1_beginLoading at h
  try dsimp only at h
  show qa_Bk (qa_ds L) qa_mX1_beginLoading 0 [(0, .inl (R, 0))] [] σ _ _
  refine qa_bk_do (pc' := 1) rfl rfl ?_
  refine qa_bk_gr rfl rfl (qa_ds0 hR) rfl ?_
  refine qa_bk_gi rfl rfl (qa_ds12 hR) rfl ?_
  refine qa_bk_do (pc' := 8) rfl rfl ?_
  rcases qa_ite h with ⟨hc1, h⟩ | ⟨hc1, h⟩
  · refine qa_bk_1t (a := 12) (b := 11) hc1 rfl rfl ?_
    refine qa_bk_do (pc' := 13) rfl rfl ?_
    obtain ⟨c2, hc3, h⟩ := Option.bind_eq_some_iff.mp h
    refine qa_bk_cv (qa_tX1_nextToLoad hR hc3) rfl rfl rfl rfl rfl rfl rfl (qa_ds0 hR) ?_
    refine qa_bk_do (pc' := 17) (lv' := [(1, _), (0, _)]) rfl rfl ?_
    refine qa_bk_do (pc' := 18) rfl rfl ?_
    refine qa_bk_do (pc' := 19) rfl rfl ?_
    rcases qa_ite h with ⟨hc4, h⟩ | ⟨hc4, h⟩
    · refine qa_bk_1t (a := 23) (b := 22) hc4 rfl rfl ?_
      refine qa_bk_do (pc' := 24) rfl rfl ?_
      refine qa_bk_gr rfl rfl (qa_ds0 hR) rfl ?_
      refine qa_bk_gr rfl rfl (qa_ds1 hR) rfl ?_
      refine qa_bk_do (pc' := 31) rfl rfl ?_
      refine qa_bk_cs (qa_tX9_at (qa_ds2 hR) (Nat.le_of_ble_eq_true rfl) rfl) rfl rfl rfl rfl rfl rfl rfl ?_
      refine qa_bk_do (pc' := 35) (lv' := [(2, _), (1, _), (0, _)]) rfl rfl ?_
      refine qa_bk_do (pc' := 36) rfl rfl ?_
      refine qa_bk_do (pc' := 37) rfl rfl ?_
      refine qa_bk_gr rfl rfl (qa_ds0 hR) rfl ?_
      refine qa_bk_gi rfl rfl (qa_ds14 hR) rfl ?_
      refine qa_bk_do (pc' := 44) rfl rfl ?_
      refine qa_bk_do (pc' := 45) rfl rfl ?_
      obtain ⟨c6, hc7, h⟩ := Option.bind_eq_some_iff.mp h
      refine qa_bk_cv (qa_tX1_burnDownTo hR hc7) rfl rfl rfl rfl rfl rfl rfl (qa_ds0 hR) ?_
      refine qa_bk_do (pc' := 49) rfl rfl ?_
      refine qa_bk_gr rfl rfl (qa_ds0 hR) rfl ?_
      refine qa_bk_gr rfl rfl (qa_ds1 hR) rfl ?_
      refine qa_bk_do (pc' := 56) rfl rfl ?_
      refine qa_bk_cs (qa_tX9_at (qa_ds6 hR) (Nat.le_of_ble_eq_true rfl) rfl) rfl rfl rfl rfl rfl rfl rfl ?_
      rcases qa_ite h with ⟨hc8, h⟩ | ⟨hc8, h⟩
      · refine qa_bk_1t (a := 75) (b := 62) hc8 rfl rfl ?_
        exact qa_bk_lw (qa_tX1_beginLoading_75 hR h) rfl rfl (And.intro rfl (And.intro rfl (And.intro rfl (trivial))))
      · refine qa_bk_1f (a := 75) (b := 62) hc8 rfl rfl ?_
        refine qa_bk_do (pc' := 63) rfl rfl ?_
        refine qa_bk_gr rfl rfl (qa_ds0 hR) rfl ?_
        refine qa_bk_do (pc' := 67) rfl rfl ?_
        refine qa_bk_gi rfl rfl (qa_ds15 hR) rfl ?_
        refine qa_bk_do (pc' := 71) rfl rfl ?_
        refine qa_bk_do (pc' := 72) rfl rfl ?_
        refine qa_bk_pf rfl rfl (qa_ds15 hR) rfl (qa_fiti _) rfl ?_
        exact qa_bk_lw (qa_tX1_beginLoading_75 hR h) rfl rfl (And.intro rfl (And.intro rfl (And.intro rfl (trivial))))
    · refine qa_bk_1f (a := 23) (b := 22) hc4 rfl rfl ?_
      cases h
      exact qa_bk_re rfl rfl rfl
  · refine qa_bk_1f (a := 12) (b := 11) hc1 rfl rfl ?_
    cases h
    exact qa_bk_re rfl rfl rfl
noncomputable def qa_fX1_obeyGoOn (R : Nat) (σ : qa_T) : Option (Bool × qa_T) :=
    if ¬ (qa_bi (qa_fX1_mayGoOn R σ)) = 0 then
      (qa_fX1_proceed R σ).bind fun c2 =>
      (qa_fX1_beginLoading R c2.2).bind fun c4 =>
      some (true, c4)
    else
      some (false, σ)
set_option maxRecDepth 100000 in
theorem qa_tX1_obeyGoOn {L : Nat} {R : Nat} (hR : qa_rg R) {σ : qa_T} {r : (Bool × qa_T)} (h : qa_fX1_obeyGoOn R σ = some r) : qa_Bk (qa_ds L) qa_mX1_obeyGoOn 0 (qa_ag 0 [.inl (R, 0)]) [] σ (.inl (some (.inr (.int (qa_bi r.1))))) r.2 := by
  unfold qa_fX1_obeyGoOn at h
  try dsimp only at h
  show qa_Bk (qa_ds L) qa_mX1_obeyGoOn 0 [(0, .inl (R, 0))] [] σ _ _
  refine qa_bk_do (pc' := 1) rfl rfl ?_
  refine qa_bk_cv (qa_tX1_mayGoOn hR rfl) rfl rfl rfl rfl rfl rfl rfl (qa_ds0 hR) ?_
  rcases qa_ite h with ⟨hc1, h⟩ | ⟨hc1, h⟩
  · refine qa_bk_1t (a := 9) (b := 7) hc1 rfl rfl ?_
    refine qa_bk_do (pc' := 10) rfl rfl ?_
    obtain ⟨c2, hc3, h⟩ := Option.bind_eq_some_iff.mp h
    refine qa_bk_cv (qa_tX1_proceed hR hc3) rfl rfl rfl rfl rfl rfl rfl (qa_ds0 hR) ?_
    refine qa_bk_do (pc' := 14) rfl rfl ?_
    refine qa_bk_do (pc' := 15) rfl rfl ?_
    obtain ⟨c4, hc5, h⟩ := Option.bind_eq_some_iff.mp h
    refine qa_bk_cv (qa_tX1_beginLoading hR hc5) rfl rfl rfl rfl rfl rfl rfl (qa_ds0 hR) ?_
    refine qa_bk_do (pc' := 19) rfl rfl ?_
    cases h
    exact qa_bk_rb rfl rfl rfl
  · refine qa_bk_1f (a := 9) (b := 7) hc1 rfl rfl ?_
    refine qa_bk_do (pc' := 8) rfl rfl ?_
    cases h
    exact qa_bk_rb rfl rfl rfl
noncomputable def qa_fX6_has_16 (R : Nat) (a1 : Int32) (σ : qa_T) : Bool :=
    false
noncomputable def qa_fX6_has (R : Nat) (a1 : Int32) (σ : qa_T) : Bool :=
    if a1 < 0 then
      qa_fX6_has_16 R a1 σ
    else
      if (σ.1 (R, 1) 0) ≤ a1 then
        qa_fX6_has_16 R a1 σ
      else
        true
set_option maxRecDepth 100000 in
theorem qa_tX6_has_16 {L : Nat} {R : Nat} {a1 : Int32} (hR : qa_rg R) {σ : qa_T} {r : Bool} (h : qa_fX6_has_16 R a1 σ = r) : qa_Bk (qa_ds L) qa_mX6_has 16 [(0, .inl (R, 1)), (1, .inr (.int a1))] [] σ (.inl (some (.inr (.int (qa_bi r))))) σ := by
  unfold qa_fX6_has_16 at h
  try dsimp only at h
  refine qa_bk_do (pc' := 17) rfl rfl ?_
  subst h
  exact qa_bk_rb rfl rfl rfl
set_option maxRecDepth 100000 in
theorem qa_tX6_has {L : Nat} {R : Nat} {a1 : Int32} (hR : qa_rg R) {σ : qa_T} {r : Bool} (h : qa_fX6_has R a1 σ = r) : qa_Bk (qa_ds L) qa_mX6_has 0 (qa_ag 0 [.inl (R, 1), .inr (.int a1)]) [] σ (.inl (some (.inr (.int (qa_bi r))))) σ := by
  unfold qa_fX6_has at h
  try dsimp only at h
  show qa_Bk (qa_ds L) qa_mX6_has 0 [(0, .inl (R, 1)), (1, .inr (.int a1))] [] σ _ _
  refine qa_bk_do (pc' := 1) rfl rfl ?_
  rcases qa_ite h with ⟨hc1, h⟩ | ⟨hc1, h⟩
  · refine qa_bk_1t (a := 16) (b := 4) hc1 rfl rfl ?_
    exact qa_bk_lw (qa_tX6_has_16 hR h) rfl rfl (And.intro rfl (And.intro rfl (trivial)))
  · refine qa_bk_1f (a := 16) (b := 4) hc1 rfl rfl ?_
    refine qa_bk_do (pc' := 5) rfl rfl ?_
    refine qa_bk_do (pc' := 6) rfl rfl ?_
    refine qa_bk_gi rfl rfl (qa_ds1 hR) rfl ?_
    rcases qa_ite h with ⟨hc2, h⟩ | ⟨hc2, h⟩
    · refine qa_bk_1t (a := 16) (b := 12) hc2 rfl rfl ?_
      exact qa_bk_lw (qa_tX6_has_16 hR h) rfl rfl (And.intro rfl (And.intro rfl (trivial)))
    · refine qa_bk_1f (a := 16) (b := 12) hc2 rfl rfl ?_
      refine qa_bk_do (pc' := 13) rfl rfl ?_
      refine qa_bk_do (pc' := 17) rfl rfl ?_
      subst h
      exact qa_bk_rb rfl rfl rfl
noncomputable def qa_fX2_queue (R : Nat) (a1 : Int32) (σ : qa_T) : qa_T :=
    let σ1 := qa_fX9_set (R, 13) 16 (σ.1 (R, 12) 2) a1 σ
    let σ2 := qa_wi σ1 (R, 12) 2 ((σ1.1 (R, 12) 2) + (Int32.ofInt 1))
    σ2
set_option maxRecDepth 100000 in
theorem qa_tX2_queue {L : Nat} {R : Nat} {a1 : Int32} (hR : qa_rg R) {σ : qa_T} {r : qa_T} (h : qa_fX2_queue R a1 σ = r) : qa_Bk (qa_ds L) qa_mX2_queue 0 (qa_ag 0 [.inl (R, 12), .inr (.int a1)]) [] σ (.inl none) r := by
  unfold qa_fX2_queue at h
  try dsimp only at h
  show qa_Bk (qa_ds L) qa_mX2_queue 0 [(0, .inl (R, 12)), (1, .inr (.int a1))] [] σ _ _
  refine qa_bk_do (pc' := 1) rfl rfl ?_
  refine qa_bk_gr rfl rfl (qa_ds12 hR) rfl ?_
  refine qa_bk_do (pc' := 5) rfl rfl ?_
  refine qa_bk_gi rfl rfl (qa_ds12 hR) rfl ?_
  refine qa_bk_do (pc' := 9) rfl rfl ?_
  refine qa_bk_cs (qa_tX9_set (qa_ds13 hR) (Nat.le_of_ble_eq_true rfl) rfl) rfl rfl rfl rfl rfl rfl rfl ?_
  refine qa_bk_do (pc' := 13) rfl rfl ?_
  refine qa_bk_do (pc' := 14) rfl rfl ?_
  refine qa_bk_gi rfl rfl (qa_ds12 hR) rfl ?_
  refine qa_bk_do (pc' := 18) rfl rfl ?_
  refine qa_bk_do (pc' := 19) rfl rfl ?_
  refine qa_bk_pf rfl rfl (qa_ds12 hR) rfl (qa_fiti _) rfl ?_
  subst h
  exact qa_bk_re rfl rfl rfl
noncomputable def qa_fX1_obeyAsk_19 (R : Nat) (a1 : Int32) (σ : qa_T) : Option (Bool × qa_T) :=
    some (false, σ)
noncomputable def qa_fX1_obeyAsk (R : Nat) (a1 : Int32) (σ : qa_T) : Option (Bool × qa_T) :=
    if (qa_bi (qa_fX6_has R a1 σ)) = 0 then
      qa_fX1_obeyAsk_19 R a1 σ
    else
      (qa_fX1_mayAsk R a1 σ).bind fun c2 =>
      if ¬ (qa_bi c2) = 0 then
        let σ5 := qa_fX2_queue R a1 σ
        (qa_fX1_beginLoading R σ5).bind fun c6 =>
        some (true, c6)
      else
        qa_fX1_obeyAsk_19 R a1 σ
set_option maxRecDepth 100000 in
theorem qa_tX1_obeyAsk_19 {L : Nat} {R : Nat} {a1 : Int32} (hR : qa_rg R) {σ : qa_T} {r : (Bool × qa_T)} (h : qa_fX1_obeyAsk_19 R a1 σ = some r) : qa_Bk (qa_ds L) qa_mX1_obeyAsk 19 [(0, .inl (R, 0)), (1, .inr (.int a1))] [] σ (.inl (some (.inr (.int (qa_bi r.1))))) r.2 := by
  unfold qa_fX1_obeyAsk_19 at h
  try dsimp only at h
  refine qa_bk_do (pc' := 20) rfl rfl ?_
  cases h
  exact qa_bk_rb rfl rfl rfl
set_option maxRecDepth 100000 in
theorem qa_tX1_obeyAsk {L : Nat} {R : Nat} {a1 : Int32} (hR : qa_rg R) {σ : qa_T} {r : (Bool × qa_T)} (h : qa_fX1_obeyAsk R a1 σ = some r) : qa_Bk (qa_ds L) qa_mX1_obeyAsk 0 (qa_ag 0 [.inl (R, 0), .inr (.int a1)]) [] σ (.inl (some (.inr (.int (qa_bi r.1))))) r.2 := by
  unfold qa_fX1_obeyAsk at h
  try dsimp only at h
  show qa_Bk (qa_ds L) qa_mX1_obeyAsk 0 [(0, .inl (R, 0)), (1, .inr (.int a1))] [] σ _ _
  refine qa_bk_do (pc' := 1) rfl rfl ?_
  refine qa_bk_gr rfl rfl (qa_ds0 hR) rfl ?_
  refine qa_bk_do (pc' := 5) rfl rfl ?_
  refine qa_bk_cv (qa_tX6_has hR rfl) rfl rfl rfl rfl rfl rfl rfl (qa_ds1 hR) ?_
  rcases qa_ite h with ⟨hc1, h⟩ | ⟨hc1, h⟩
  · refine qa_bk_1t (a := 19) (b := 11) hc1 rfl rfl ?_
    exact qa_bk_lw (qa_tX1_obeyAsk_19 hR h) rfl rfl (And.intro rfl (And.intro rfl (trivial)))
  · refine qa_bk_1f (a := 19) (b := 11) hc1 rfl rfl ?_
    refine qa_bk_do (pc' := 12) rfl rfl ?_
    refine qa_bk_do (pc' := 13) rfl rfl ?_
    obtain ⟨c2, hc3, h⟩ := Option.bind_eq_some_iff.mp h
    refine qa_bk_cv (qa_tX1_mayAsk hR hc3) rfl rfl rfl rfl rfl rfl rfl (qa_ds0 hR) ?_
    rcases qa_ite h with ⟨hc4, h⟩ | ⟨hc4, h⟩
    · refine qa_bk_1t (a := 21) (b := 19) hc4 rfl rfl ?_
      refine qa_bk_do (pc' := 22) rfl rfl ?_
      refine qa_bk_gr rfl rfl (qa_ds0 hR) rfl ?_
      refine qa_bk_do (pc' := 26) rfl rfl ?_
      refine qa_bk_cv (qa_tX2_queue hR rfl) rfl rfl rfl rfl rfl rfl rfl (qa_ds12 hR) ?_
      refine qa_bk_do (pc' := 30) rfl rfl ?_
      obtain ⟨c6, hc7, h⟩ := Option.bind_eq_some_iff.mp h
      refine qa_bk_cv (qa_tX1_beginLoading hR hc7) rfl rfl rfl rfl rfl rfl rfl (qa_ds0 hR) ?_
      refine qa_bk_do (pc' := 34) rfl rfl ?_
      cases h
      exact qa_bk_rb rfl rfl rfl
    · refine qa_bk_1f (a := 21) (b := 19) hc4 rfl rfl ?_
      exact qa_bk_lw (qa_tX1_obeyAsk_19 hR h) rfl rfl (And.intro rfl (And.intro rfl (trivial)))
noncomputable def qa_fX1_obeyBurn_19 (R : Nat) (a1 : Int32) (σ : qa_T) : Option (Bool × qa_T) :=
    some (false, σ)
noncomputable def qa_fX1_obeyBurn (R : Nat) (a1 : Int32) (σ : qa_T) : Option (Bool × qa_T) :=
    if (qa_bi (qa_fX6_has R a1 σ)) = 0 then
      qa_fX1_obeyBurn_19 R a1 σ
    else
      if ¬ (qa_bi (qa_fX1_mayBurn R a1 σ)) = 0 then
        let σ3 := qa_fX1_putOnFire R a1 σ
        (qa_fX1_beginLoading R σ3).bind fun c4 =>
        some (true, c4)
      else
        qa_fX1_obeyBurn_19 R a1 σ
set_option maxRecDepth 100000 in
theorem qa_tX1_obeyBurn_19 {L : Nat} {R : Nat} {a1 : Int32} (hR : qa_rg R) {σ : qa_T} {r : (Bool × qa_T)} (h : qa_fX1_obeyBurn_19 R a1 σ = some r) : qa_Bk (qa_ds L) qa_mX1_obeyBurn 19 [(0, .inl (R, 0)), (1, .inr (.int a1))] [] σ (.inl (some (.inr (.int (qa_bi r.1))))) r.2 := by
  unfold qa_fX1_obeyBurn_19 at h
  try dsimp only at h
  refine qa_bk_do (pc' := 20) rfl rfl ?_
  cases h
  exact qa_bk_rb rfl rfl rfl
set_option maxRecDepth 100000 in
theorem qa_tX1_obeyBurn {L : Nat} {R : Nat} {a1 : Int32} (hR : qa_rg R) {σ : qa_T} {r : (Bool × qa_T)} (h : qa_fX1_obeyBurn R a1 σ = some r) : qa_Bk (qa_ds L) qa_mX1_obeyBurn 0 (qa_ag 0 [.inl (R, 0), .inr (.int a1)]) [] σ (.inl (some (.inr (.int (qa_bi r.1))))) r.2 := by
  unfold qa_fX1_obeyBurn at h
  try dsimp only at h
  show qa_Bk (qa_ds L) qa_mX1_obeyBurn 0 [(0, .inl (R, 0)), (1, .inr (.int a1))] [] σ _ _
  refine qa_bk_do (pc' := 1) rfl rfl ?_
  refine qa_bk_gr rfl rfl (qa_ds0 hR) rfl ?_
  refine qa_bk_do (pc' := 5) rfl rfl ?_
  refine qa_bk_cv (qa_tX6_has hR rfl) rfl rfl rfl rfl rfl rfl rfl (qa_ds1 hR) ?_
  rcases qa_ite h with ⟨hc1, h⟩ | ⟨hc1, h⟩
  · refine qa_bk_1t (a := 19) (b := 11) hc1 rfl rfl ?_
    exact qa_bk_lw (qa_tX1_obeyBurn_19 hR h) rfl rfl (And.intro rfl (And.intro rfl (trivial)))
  · refine qa_bk_1f (a := 19) (b := 11) hc1 rfl rfl ?_
    refine qa_bk_do (pc' := 12) rfl rfl ?_
    refine qa_bk_do (pc' := 13) rfl rfl ?_
    refine qa_bk_cv (qa_tX1_mayBurn hR rfl) rfl rfl rfl rfl rfl rfl rfl (qa_ds0 hR) ?_
    rcases qa_ite h with ⟨hc2, h⟩ | ⟨hc2, h⟩
    · refine qa_bk_1t (a := 21) (b := 19) hc2 rfl rfl ?_
      refine qa_bk_do (pc' := 22) rfl rfl ?_
      refine qa_bk_do (pc' := 23) rfl rfl ?_
      refine qa_bk_cv (qa_tX1_putOnFire hR rfl) rfl rfl rfl rfl rfl rfl rfl (qa_ds0 hR) ?_
      refine qa_bk_do (pc' := 27) rfl rfl ?_
      obtain ⟨c4, hc5, h⟩ := Option.bind_eq_some_iff.mp h
      refine qa_bk_cv (qa_tX1_beginLoading hR hc5) rfl rfl rfl rfl rfl rfl rfl (qa_ds0 hR) ?_
      refine qa_bk_do (pc' := 31) rfl rfl ?_
      cases h
      exact qa_bk_rb rfl rfl rfl
    · refine qa_bk_1f (a := 21) (b := 19) hc2 rfl rfl ?_
      exact qa_bk_lw (qa_tX1_obeyBurn_19 hR h) rfl rfl (And.intro rfl (And.intro rfl (trivial)))
noncomputable def qa_fX3_put_71 (R : Nat) (a1 : Int32) (a2 : Int32) (σ : qa_T) : Option qa_T :=
    some σ
noncomputable def qa_fX3_put_5 (R : Nat) (a1 : Int32) (a2 : Int32) : Nat → Int32 → qa_T → Option qa_T
  | 0, _, _ => none
  | n + 1, x3, σ =>
    if x3 ≤ a1 then
      let σ3 := qa_fX9_set (R, 10) 24 a1 a2 σ
      let σ4 := qa_wi σ3 (R, 9) 0 ((σ3.1 (R, 9) 0) + (Int32.ofInt 1))
      if (σ4.1 (R, 9) 1) < a1 then
        qa_fX3_put_71 R a1 a2 σ4
      else
        let σ6 := qa_wi σ4 (R, 9) 1 ((σ4.1 (R, 9) 1) + (Int32.ofInt 1))
        qa_fX3_put_71 R a1 a2 σ6
    else
      let σ7 := qa_fX9_set (R, 10) 24 x3 (qa_fX9_at (R, 10) 24 (x3 - (Int32.ofInt 1)) σ) σ
      let v8 : Int32 := x3 + Int32.ofInt (-1)
      qa_fX3_put_5 R a1 a2 n v8 σ7
noncomputable def qa_fX3_put (R : Nat) (a1 : Int32) (a2 : Int32) (σ : qa_T) : Option qa_T :=
    let v1 : Int32 := (σ.1 (R, 9) 0)
    qa_fX3_put_5 R a1 a2 qa_fu v1 σ
set_option maxRecDepth 100000 in
theorem qa_tX3_put_71 {L : Nat} {R : Nat} {a1 : Int32} {a2 : Int32} (hR : qa_rg R) {σ : qa_T} {r : qa_T} (h : qa_fX3_put_71 R a1 a2 σ = some r) : qa_Bk (qa_ds L) qa_mX3_put 71 [(0, .inl (R, 9)), (1, .inr (.int a1)), (2, .inr (.int a2))] [] σ (.inl none) r := by
  unfold qa_fX3_put_71 at h
  try dsimp only at h
  cases h
  exact qa_bk_re rfl rfl rfl
set_option maxRecDepth 100000 in
theorem qa_tX3_put_5 {L : Nat} {R : Nat} {a1 : Int32} {a2 : Int32} (hR : qa_rg R) : ∀ (n : Nat) (x3 : Int32) (σ : qa_T) (r : qa_T), qa_fX3_put_5 R a1 a2 n x3 σ = some r → qa_Bk (qa_ds L) qa_mX3_put 5 [(0, .inl (R, 9)), (1, .inr (.int a1)), (2, .inr (.int a2)), (3, .inr (.int x3))] [] σ (.inl none) r := by
  intro n
  induction n with
  | zero => intro x3 σ r h; cases h
  | succ n ih =>
    intro x3 σ r h
    unfold qa_fX3_put_5 at h
    try dsimp only at h
    refine qa_bk_do (pc' := 6) rfl rfl ?_
    refine qa_bk_do (pc' := 7) rfl rfl ?_
    rcases qa_ite h with ⟨hc2, h⟩ | ⟨hc2, h⟩
    · refine qa_bk_1t (a := 34) (b := 10) hc2 rfl rfl ?_
      refine qa_bk_do (pc' := 35) rfl rfl ?_
      refine qa_bk_gr rfl rfl (qa_ds9 hR) rfl ?_
      refine qa_bk_do (pc' := 39) rfl rfl ?_
      refine qa_bk_do (pc' := 40) rfl rfl ?_
      refine qa_bk_cs (qa_tX9_set (qa_ds10 hR) (Nat.le_of_ble_eq_true rfl) rfl) rfl rfl rfl rfl rfl rfl rfl ?_
      refine qa_bk_do (pc' := 44) rfl rfl ?_
      refine qa_bk_do (pc' := 45) rfl rfl ?_
      refine qa_bk_gi rfl rfl (qa_ds9 hR) rfl ?_
      refine qa_bk_do (pc' := 49) rfl rfl ?_
      refine qa_bk_do (pc' := 50) rfl rfl ?_
      refine qa_bk_pf rfl rfl (qa_ds9 hR) rfl (qa_fiti _) rfl ?_
      refine qa_bk_do (pc' := 54) rfl rfl ?_
      refine qa_bk_do (pc' := 55) rfl rfl ?_
      refine qa_bk_gi rfl rfl (qa_ds9 hR) rfl ?_
      rcases qa_ite h with ⟨hc5, h⟩ | ⟨hc5, h⟩
      · refine qa_bk_1t (a := 71) (b := 61) hc5 rfl rfl ?_
        exact qa_bk_lw (qa_tX3_put_71 hR h) rfl rfl (And.intro rfl (And.intro rfl (And.intro rfl (trivial))))
      · refine qa_bk_1f (a := 71) (b := 61) hc5 rfl rfl ?_
        refine qa_bk_do (pc' := 62) rfl rfl ?_
        refine qa_bk_do (pc' := 63) rfl rfl ?_
        refine qa_bk_gi rfl rfl (qa_ds9 hR) rfl ?_
        refine qa_bk_do (pc' := 67) rfl rfl ?_
        refine qa_bk_do (pc' := 68) rfl rfl ?_
        refine qa_bk_pf rfl rfl (qa_ds9 hR) rfl (qa_fiti _) rfl ?_
        exact qa_bk_lw (qa_tX3_put_71 hR h) rfl rfl (And.intro rfl (And.intro rfl (And.intro rfl (trivial))))
    · refine qa_bk_1f (a := 34) (b := 10) hc2 rfl rfl ?_
      refine qa_bk_do (pc' := 11) rfl rfl ?_
      refine qa_bk_gr rfl rfl (qa_ds9 hR) rfl ?_
      refine qa_bk_do (pc' := 15) rfl rfl ?_
      refine qa_bk_do (pc' := 16) rfl rfl ?_
      refine qa_bk_gr rfl rfl (qa_ds9 hR) rfl ?_
      refine qa_bk_do (pc' := 20) rfl rfl ?_
      refine qa_bk_do (pc' := 21) rfl rfl ?_
      refine qa_bk_do (pc' := 22) rfl rfl ?_
      refine qa_bk_cs (qa_tX9_at (qa_ds10 hR) (Nat.le_of_ble_eq_true rfl) rfl) rfl rfl rfl rfl rfl rfl rfl ?_
      refine qa_bk_cs (qa_tX9_set (qa_ds10 hR) (Nat.le_of_ble_eq_true rfl) rfl) rfl rfl rfl rfl rfl rfl rfl ?_
      refine qa_bk_do (pc' := 31) (lv' := [(3, _), (0, _), (1, _), (2, _)]) rfl rfl ?_
      refine qa_bk_do (pc' := 5) rfl rfl ?_
      exact qa_bk_lw (ih _ _ _ h) rfl rfl (And.intro rfl (And.intro rfl (And.intro rfl (And.intro rfl (trivial)))))
set_option maxRecDepth 100000 in
theorem qa_tX3_put {L : Nat} {R : Nat} {a1 : Int32} {a2 : Int32} (hR : qa_rg R) {σ : qa_T} {r : qa_T} (h : qa_fX3_put R a1 a2 σ = some r) : qa_Bk (qa_ds L) qa_mX3_put 0 (qa_ag 0 [.inl (R, 9), .inr (.int a1), .inr (.int a2)]) [] σ (.inl none) r := by
  unfold qa_fX3_put at h
  try dsimp only at h
  show qa_Bk (qa_ds L) qa_mX3_put 0 [(0, .inl (R, 9)), (1, .inr (.int a1)), (2, .inr (.int a2))] [] σ _ _
  refine qa_bk_do (pc' := 1) rfl rfl ?_
  refine qa_bk_gi rfl rfl (qa_ds9 hR) rfl ?_
  refine qa_bk_do (pc' := 5) (lv' := [(3, _), (0, _), (1, _), (2, _)]) rfl rfl ?_
  exact qa_bk_lw (qa_tX3_put_5 hR _ _ _ _ h) rfl rfl (And.intro rfl (And.intro rfl (And.intro rfl (And.intro rfl (trivial)))))
