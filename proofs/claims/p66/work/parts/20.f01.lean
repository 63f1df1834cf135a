/-! the methods as functions (written by wip/tools/gen.py) -/
noncomputable def qa_fX1_mayBurn_26 (R : Nat) (a1 : Int32) (σ : qa_T) : Bool :=
    false
noncomputable def qa_fX1_mayBurn (R : Nat) (a1 : Int32) (σ : qa_T) : Bool :=
    if (qa_bi (qa_fX6_isReady R a1 σ)) = 0 then
      qa_fX1_mayBurn_26 R a1 σ
    else
      if ¬ (qa_bi (qa_fX7_bears R a1 σ)) = 0 then
        qa_fX1_mayBurn_26 R a1 σ
      else
        true
set_option maxRecDepth 100000 in
theorem qa_tX1_mayBurn_26 {L : Nat} {R : Nat} {a1 : Int32} (hR : qa_rg R) {σ : qa_T} {r : Bool} (h : qa_fX1_mayBurn_26 R a1 σ = r) : qa_Bk (qa_ds L) qa_mX1_mayBurn 26 [(0, .inl (R, 0)), (1, .inr (.int a1))] [] σ (.inl (some (.inr (.int (qa_bi r))))) σ := by
  unfold qa_fX1_mayBurn_26 at h
  try dsimp only at h
  refine qa_bk_do (pc' := 27) rfl rfl ?_
  subst h
  exact qa_bk_rb rfl rfl rfl
set_option maxRecDepth 100000 in
theorem qa_tX1_mayBurn {L : Nat} {R : Nat} {a1 : Int32} (hR : qa_rg R) {σ : qa_T} {r : Bool} (h : qa_fX1_mayBurn R a1 σ = r) : qa_Bk (qa_ds L) qa_mX1_mayBurn 0 (qa_ag 0 [.inl (R, 0), .inr (.int a1)]) [] σ (.inl (some (.inr (.int (qa_bi r))))) σ := by
  unfold qa_fX1_mayBurn at h
  try dsimp only at h
  show qa_Bk (qa_ds L) qa_mX1_mayBurn 0 [(0, .inl (R, 0)), (1, .inr (.int a1))] [] σ _ _
  refine qa_bk_do (pc' := 1) rfl rfl ?_
  refine qa_bk_gr rfl rfl (qa_ds0 hR) rfl ?_
  refine qa_bk_do (pc' := 5) rfl rfl ?_
  refine qa_bk_cv (qa_tX6_isReady hR rfl) rfl rfl rfl rfl rfl rfl rfl (qa_ds1 hR) ?_
  rcases qa_ite h with ⟨hc1, h⟩ | ⟨hc1, h⟩
  · refine qa_bk_1t (a := 26) (b := 11) hc1 rfl rfl ?_
    exact qa_bk_lw (qa_tX1_mayBurn_26 hR h) rfl rfl (And.intro rfl (And.intro rfl (trivial)))
  · refine qa_bk_1f (a := 26) (b := 11) hc1 rfl rfl ?_
    refine qa_bk_do (pc' := 12) rfl rfl ?_
    refine qa_bk_gr rfl rfl (qa_ds0 hR) rfl ?_
    refine qa_bk_do (pc' := 16) rfl rfl ?_
    refine qa_bk_cv (qa_tX7_bears hR rfl) rfl rfl rfl rfl rfl rfl rfl (qa_ds11 hR) ?_
    rcases qa_ite h with ⟨hc2, h⟩ | ⟨hc2, h⟩
    · refine qa_bk_1t (a := 26) (b := 22) hc2 rfl rfl ?_
      exact qa_bk_lw (qa_tX1_mayBurn_26 hR h) rfl rfl (And.intro rfl (And.intro rfl (trivial)))
    · refine qa_bk_1f (a := 26) (b := 22) hc2 rfl rfl ?_
      refine qa_bk_do (pc' := 23) rfl rfl ?_
      refine qa_bk_do (pc' := 27) rfl rfl ?_
      subst h
      exact qa_bk_rb rfl rfl rfl
noncomputable def qa_fX3_advance_24 (R : Nat) (y0 : Int32) (σ : qa_T) : (Int32 × qa_T) :=
    let σ2 := qa_wi σ (R, 9) 1 y0
    ((qa_fX9_at (R, 10) 24 (σ2.1 (R, 9) 1) σ2), σ2)
noncomputable def qa_fX3_advance (R : Nat) (σ : qa_T) : (Int32 × qa_T) :=
    if (σ.1 (R, 9) 0) ≤ ((σ.1 (R, 9) 1) + (Int32.ofInt 1)) then
      qa_fX3_advance_24 R (Int32.ofInt 0) σ
    else
      qa_fX3_advance_24 R ((σ.1 (R, 9) 1) + (Int32.ofInt 1)) σ
set_option maxRecDepth 100000 in
theorem qa_tX3_advance_24 {L : Nat} {R : Nat} (hR : qa_rg R) {y0 : Int32} {σ : qa_T} {r : (Int32 × qa_T)} (h : qa_fX3_advance_24 R y0 σ = r) : qa_Bk (qa_ds L) qa_mX3_advance 24 [(0, .inl (R, 9))] [.inr (.int y0), .inl (R, 9)] σ (.inl (some (.inr (.int r.1)))) r.2 := by
  unfold qa_fX3_advance_24 at h
  try dsimp only at h
  refine qa_bk_pf rfl rfl (qa_ds9 hR) rfl (qa_fiti _) rfl ?_
  refine qa_bk_do (pc' := 28) rfl rfl ?_
  refine qa_bk_gr rfl rfl (qa_ds9 hR) rfl ?_
  refine qa_bk_do (pc' := 32) rfl rfl ?_
  refine qa_bk_gi rfl rfl (qa_ds9 hR) rfl ?_
  refine qa_bk_cs (qa_tX9_at (qa_ds10 hR) (Nat.le_of_ble_eq_true rfl) rfl) rfl rfl rfl rfl rfl rfl rfl ?_
  subst h
  exact qa_bk_ri rfl rfl
set_option maxRecDepth 100000 in
theorem qa_tX3_advance {L : Nat} {R : Nat} (hR : qa_rg R) {σ : qa_T} {r : (Int32 × qa_T)} (h : qa_fX3_advance R σ = r) : qa_Bk (qa_ds L) qa_mX3_advance 0 (qa_ag 0 [.inl (R, 9)]) [] σ (.inl (some (.inr (.int r.1)))) r.2 := by
  unfold qa_fX3_advance at h
  try dsimp only at h
  show qa_Bk (qa_ds L) qa_mX3_advance 0 [(0, .inl (R, 9))] [] σ _ _
  refine qa_bk_do (pc' := 1) rfl rfl ?_
  refine qa_bk_do (pc' := 2) rfl rfl ?_
  refine qa_bk_gi rfl rfl (qa_ds9 hR) rfl ?_
  refine qa_bk_do (pc' := 6) rfl rfl ?_
  refine qa_bk_do (pc' := 7) rfl rfl ?_
  refine qa_bk_do (pc' := 8) rfl rfl ?_
  refine qa_bk_gi rfl rfl (qa_ds9 hR) rfl ?_
  rcases qa_ite h with ⟨hc1, h⟩ | ⟨hc1, h⟩
  · refine qa_bk_1t (a := 23) (b := 14) hc1 rfl rfl ?_
    refine qa_bk_do (pc' := 24) rfl rfl ?_
    exact qa_bk_lw (qa_tX3_advance_24 hR h) rfl rfl (And.intro rfl (trivial))
  · refine qa_bk_1f (a := 23) (b := 14) hc1 rfl rfl ?_
    refine qa_bk_do (pc' := 15) rfl rfl ?_
    refine qa_bk_gi rfl rfl (qa_ds9 hR) rfl ?_
    refine qa_bk_do (pc' := 19) rfl rfl ?_
    refine qa_bk_do (pc' := 20) rfl rfl ?_
    refine qa_bk_do (pc' := 24) rfl rfl ?_
    exact qa_bk_lw (qa_tX3_advance_24 hR h) rfl rfl (And.intro rfl (trivial))
noncomputable def qa_fX7_bring_41 (R : Nat) (a1 : Int32) (a2 : Int32) (σ : qa_T) : qa_T :=
    let σ2 := qa_wi σ (R, 11) 0 a1
    let σ3 := qa_wi σ2 (R, 11) 1 (Int32.ofInt 0)
    let σ4 := qa_wi σ3 (R, 11) 4 (Int32.ofInt (-1))
    σ4
noncomputable def qa_fX7_bring_38 (R : Nat) (a1 : Int32) (a2 : Int32) (y0 : Int32) (σ : qa_T) : qa_T :=
    let σ8 := qa_wi σ (R, 11) 3 y0
    qa_fX7_bring_41 R a1 a2 σ8
noncomputable def qa_fX7_bring_21 (R : Nat) (a1 : Int32) (a2 : Int32) (y0 : Int32) (σ : qa_T) : qa_T :=
    let σ6 := qa_wi σ (R, 11) 2 y0
    if (σ6.1 (R, 11) 2) = (Int32.ofInt (-1)) then
      qa_fX7_bring_38 R a1 a2 (Int32.ofInt 0) σ6
    else
      qa_fX7_bring_38 R a1 a2 a2 σ6
noncomputable def qa_fX7_bring (R : Nat) (a1 : Int32) (a2 : Int32) (σ : qa_T) : qa_T :=
    if a1 = (σ.1 (R, 11) 0) then
      qa_fX7_bring_41 R a1 a2 σ
    else
      if a2 ≤ 0 then
        qa_fX7_bring_21 R a1 a2 (Int32.ofInt (-1)) σ
      else
        qa_fX7_bring_21 R a1 a2 (σ.1 (R, 11) 0) σ
set_option maxRecDepth 100000 in
theorem qa_tX7_bring_41 {L : Nat} {R : Nat} {a1 : Int32} {a2 : Int32} (hR : qa_rg R) {σ : qa_T} {r : qa_T} (h : qa_fX7_bring_41 R a1 a2 σ = r) : qa_Bk (qa_ds L) qa_mX7_bring 41 [(0, .inl (R, 11)), (1, .inr (.int a1)), (2, .inr (.int a2))] [] σ (.inl none) r := by
  unfold qa_fX7_bring_41 at h
  try dsimp only at h
  refine qa_bk_do (pc' := 42) rfl rfl ?_
  refine qa_bk_do (pc' := 43) rfl rfl ?_
  refine qa_bk_pf rfl rfl (qa_ds11 hR) rfl (qa_fiti _) rfl ?_
  refine qa_bk_do (pc' := 47) rfl rfl ?_
  refine qa_bk_do (pc' := 48) rfl rfl ?_
  refine qa_bk_pf rfl rfl (qa_ds11 hR) rfl (qa_fiti _) rfl ?_
  refine qa_bk_do (pc' := 52) rfl rfl ?_
  refine qa_bk_do (pc' := 53) rfl rfl ?_
  refine qa_bk_pf rfl rfl (qa_ds11 hR) rfl (qa_fiti _) rfl ?_
  subst h
  exact qa_bk_re rfl rfl rfl
set_option maxRecDepth 100000 in
theorem qa_tX7_bring_38 {L : Nat} {R : Nat} {a1 : Int32} {a2 : Int32} (hR : qa_rg R) {y0 : Int32} {σ : qa_T} {r : qa_T} (h : qa_fX7_bring_38 R a1 a2 y0 σ = r) : qa_Bk (qa_ds L) qa_mX7_bring 38 [(0, .inl (R, 11)), (1, .inr (.int a1)), (2, .inr (.int a2))] [.inr (.int y0), .inl (R, 11)] σ (.inl none) r := by
  unfold qa_fX7_bring_38 at h
  try dsimp only at h
  refine qa_bk_pf rfl rfl (qa_ds11 hR) rfl (qa_fiti _) rfl ?_
  exact qa_bk_lw (qa_tX7_bring_41 hR h) rfl rfl (And.intro rfl (And.intro rfl (And.intro rfl (trivial))))
set_option maxRecDepth 100000 in
theorem qa_tX7_bring_21 {L : Nat} {R : Nat} {a1 : Int32} {a2 : Int32} (hR : qa_rg R) {y0 : Int32} {σ : qa_T} {r : qa_T} (h : qa_fX7_bring_21 R a1 a2 y0 σ = r) : qa_Bk (qa_ds L) qa_mX7_bring 21 [(0, .inl (R, 11)), (1, .inr (.int a1)), (2, .inr (.int a2))] [.inr (.int y0), .inl (R, 11)] σ (.inl none) r := by
  unfold qa_fX7_bring_21 at h
  try dsimp only at h
  refine qa_bk_pf rfl rfl (qa_ds11 hR) rfl (qa_fiti _) rfl ?_
  refine qa_bk_do (pc' := 25) rfl rfl ?_
  refine qa_bk_do (pc' := 26) rfl rfl ?_
  refine qa_bk_gi rfl rfl (qa_ds11 hR) rfl ?_
  refine qa_bk_do (pc' := 30) rfl rfl ?_
  rcases qa_ite h with ⟨hc7, h⟩ | ⟨hc7, h⟩
  · refine qa_bk_1t (a := 37) (b := 33) hc7 rfl rfl ?_
    refine qa_bk_do (pc' := 38) rfl rfl ?_
    exact qa_bk_lw (qa_tX7_bring_38 hR h) rfl rfl (And.intro rfl (And.intro rfl (And.intro rfl (trivial))))
  · refine qa_bk_1f (a := 37) (b := 33) hc7 rfl rfl ?_
    refine qa_bk_do (pc' := 34) rfl rfl ?_
    refine qa_bk_do (pc' := 38) rfl rfl ?_
    exact qa_bk_lw (qa_tX7_bring_38 hR h) rfl rfl (And.intro rfl (And.intro rfl (And.intro rfl (trivial))))
set_option maxRecDepth 100000 in
theorem qa_tX7_bring {L : Nat} {R : Nat} {a1 : Int32} {a2 : Int32} (hR : qa_rg R) {σ : qa_T} {r : qa_T} (h : qa_fX7_bring R a1 a2 σ = r) : qa_Bk (qa_ds L) qa_mX7_bring 0 (qa_ag 0 [.inl (R, 11), .inr (.int a1), .inr (.int a2)]) [] σ (.inl none) r := by
  unfold qa_fX7_bring at h
  try dsimp only at h
  show qa_Bk (qa_ds L) qa_mX7_bring 0 [(0, .inl (R, 11)), (1, .inr (.int a1)), (2, .inr (.int a2))] [] σ _ _
  refine qa_bk_do (pc' := 1) rfl rfl ?_
  refine qa_bk_do (pc' := 2) rfl rfl ?_
  refine qa_bk_gi rfl rfl (qa_ds11 hR) rfl ?_
  rcases qa_ite h with ⟨hc1, h⟩ | ⟨hc1, h⟩
  · refine qa_bk_1t (a := 41) (b := 8) hc1 rfl rfl ?_
    exact qa_bk_lw (qa_tX7_bring_41 hR h) rfl rfl (And.intro rfl (And.intro rfl (And.intro rfl (trivial))))
  · refine qa_bk_1f (a := 41) (b := 8) hc1 rfl rfl ?_
    refine qa_bk_do (pc' := 9) rfl rfl ?_
    refine qa_bk_do (pc' := 10) rfl rfl ?_
    rcases qa_ite h with ⟨hc5, h⟩ | ⟨hc5, h⟩
    · refine qa_bk_1t (a := 20) (b := 13) hc5 rfl rfl ?_
      refine qa_bk_do (pc' := 21) rfl rfl ?_
      exact qa_bk_lw (qa_tX7_bring_21 hR h) rfl rfl (And.intro rfl (And.intro rfl (And.intro rfl (trivial))))
    · refine qa_bk_1f (a := 20) (b := 13) hc5 rfl rfl ?_
      refine qa_bk_do (pc' := 14) rfl rfl ?_
      refine qa_bk_gi rfl rfl (qa_ds11 hR) rfl ?_
      refine qa_bk_do (pc' := 21) rfl rfl ?_
      exact qa_bk_lw (qa_tX7_bring_21 hR h) rfl rfl (And.intro rfl (And.intro rfl (And.intro rfl (trivial))))
noncomputable def qa_fX9_set_14 (p1 : qa_P) (n1 : Nat) (a2 : Int32) (a3 : Int32) (σ : qa_T) : qa_T :=
    σ
noncomputable def qa_fX9_set (p1 : qa_P) (n1 : Nat) (a2 : Int32) (a3 : Int32) (σ : qa_T) : qa_T :=
    if a2 < 0 then
      qa_fX9_set_14 p1 n1 a2 a3 σ
    else
      if Int32.ofNat n1 ≤ a2 then
        qa_fX9_set_14 p1 n1 a2 a3 σ
      else
        let σ3 := qa_wi σ p1 (a2).toNatClampNeg a3
        qa_fX9_set_14 p1 n1 a2 a3 σ3
set_option maxRecDepth 100000 in
theorem qa_tX9_set_14 {L : Nat} {p1 : qa_P} {n1 : Nat} {a2 : Int32} {a3 : Int32} (hp1 : qa_ds L p1 = .inr (0, n1, qa_n0)) (hn1 : n1 < 2147483648) {σ : qa_T} {r : qa_T} (h : qa_fX9_set_14 p1 n1 a2 a3 σ = r) : qa_Bk (qa_ds L) qa_mX9_set 14 [(0, .inl p1), (1, .inr (.int a2)), (2, .inr (.int a3))] [] σ (.inl none) r := by
  unfold qa_fX9_set_14 at h
  try dsimp only at h
  subst h
  exact qa_bk_re rfl rfl rfl
set_option maxRecDepth 100000 in
theorem qa_tX9_set {L : Nat} {p1 : qa_P} {n1 : Nat} {a2 : Int32} {a3 : Int32} (hp1 : qa_ds L p1 = .inr (0, n1, qa_n0)) (hn1 : n1 < 2147483648) {σ : qa_T} {r : qa_T} (h : qa_fX9_set p1 n1 a2 a3 σ = r) : qa_Bk (qa_ds L) qa_mX9_set 0 (qa_ag 0 [.inl p1, .inr (.int a2), .inr (.int a3)]) [] σ (.inl none) r := by
  unfold qa_fX9_set at h
  try dsimp only at h
  show qa_Bk (qa_ds L) qa_mX9_set 0 [(0, .inl p1), (1, .inr (.int a2)), (2, .inr (.int a3))] [] σ _ _
  refine qa_bk_do (pc' := 1) rfl rfl ?_
  rcases qa_ite h with ⟨hc1, h⟩ | ⟨hc1, h⟩
  · refine qa_bk_1t (a := 14) (b := 4) hc1 rfl rfl ?_
    exact qa_bk_lw (qa_tX9_set_14 hp1 hn1 h) rfl rfl (And.intro rfl (And.intro rfl (And.intro rfl (trivial))))
  · refine qa_bk_1f (a := 14) (b := 4) hc1 rfl rfl ?_
    refine qa_bk_do (pc' := 5) rfl rfl ?_
    refine qa_bk_do (pc' := 6) rfl rfl ?_
    refine qa_bk_al rfl hp1 (Or.inl (by decide)) ?_
    rcases qa_ite h with ⟨hc2, h⟩ | ⟨hc2, h⟩
    · refine qa_bk_1t (a := 14) (b := 10) hc2 rfl rfl ?_
      exact qa_bk_lw (qa_tX9_set_14 hp1 hn1 h) rfl rfl (And.intro rfl (And.intro rfl (And.intro rfl (trivial))))
    · refine qa_bk_1f (a := 14) (b := 10) hc2 rfl rfl ?_
      refine qa_bk_do (pc' := 11) rfl rfl ?_
      refine qa_bk_do (pc' := 12) rfl rfl ?_
      refine qa_bk_do (pc' := 13) rfl rfl ?_
      refine qa_bk_is rfl hp1 (qa_in_g hc1 hc2 hn1) ?_
      exact qa_bk_lw (qa_tX9_set_14 hp1 hn1 h) rfl rfl (And.intro rfl (And.intro rfl (And.intro rfl (trivial))))
noncomputable def qa_fX6_use (R : Nat) (a1 : Int32) (σ : qa_T) : qa_T :=
    let σ1 := qa_wi σ (R, 1) 8 ((σ.1 (R, 1) 8) + (Int32.ofInt 1))
    let σ2 := qa_fX9_set (R, 8) 16 a1 (σ1.1 (R, 1) 8) σ1
    σ2
set_option maxRecDepth 100000 in
theorem qa_tX6_use {L : Nat} {R : Nat} {a1 : Int32} (hR : qa_rg R) {σ : qa_T} {r : qa_T} (h : qa_fX6_use R a1 σ = r) : qa_Bk (qa_ds L) qa_mX6_use 0 (qa_ag 0 [.inl (R, 1), .inr (.int a1)]) [] σ (.inl none) r := by
  unfold qa_fX6_use at h
  try dsimp only at h
  show qa_Bk (qa_ds L) qa_mX6_use 0 [(0, .inl (R, 1)), (1, .inr (.int a1))] [] σ _ _
  refine qa_bk_do (pc' := 1) rfl rfl ?_
  refine qa_bk_do (pc' := 2) rfl rfl ?_
  refine qa_bk_gi rfl rfl (qa_ds1 hR) rfl ?_
  refine qa_bk_do (pc' := 6) rfl rfl ?_
  refine qa_bk_do (pc' := 7) rfl rfl ?_
  refine qa_bk_pf rfl rfl (qa_ds1 hR) rfl (qa_fiti _) rfl ?_
  refine qa_bk_do (pc' := 11) rfl rfl ?_
  refine qa_bk_gr rfl rfl (qa_ds1 hR) rfl ?_
  refine qa_bk_do (pc' := 15) rfl rfl ?_
  refine qa_bk_do (pc' := 16) rfl rfl ?_
  refine qa_bk_gi rfl rfl (qa_ds1 hR) rfl ?_
  refine qa_bk_cs (qa_tX9_set (qa_ds8 hR) (Nat.le_of_ble_eq_true rfl) rfl) rfl rfl rfl rfl rfl rfl rfl ?_
  subst h
  exact qa_bk_re rfl rfl rfl
noncomputable def qa_fX1_bringOn (R : Nat) (a1 : Int32) (σ : qa_T) : qa_T :=
    let σ1 := qa_fX7_bring R a1 (qa_fX9_at (R, 4) 16 a1 σ) σ
    let σ2 := qa_fX6_use R a1 σ1
    σ2
set_option maxRecDepth 100000 in
theorem qa_tX1_bringOn {L : Nat} {R : Nat} {a1 : Int32} (hR : qa_rg R) {σ : qa_T} {r : qa_T} (h : qa_fX1_bringOn R a1 σ = r) : qa_Bk (qa_ds L) qa_mX1_bringOn 0 (qa_ag 0 [.inl (R, 0), .inr (.int a1)]) [] σ (.inl none) r := by
  unfold qa_fX1_bringOn at h
  try dsimp only at h
  show qa_Bk (qa_ds L) qa_mX1_bringOn 0 [(0, .inl (R, 0)), (1, .inr (.int a1))] [] σ _ _
  refine qa_bk_do (pc' := 1) rfl rfl ?_
  refine qa_bk_gr rfl rfl (qa_ds0 hR) rfl ?_
  refine qa_bk_do (pc' := 5) rfl rfl ?_
  refine qa_bk_do (pc' := 6) rfl rfl ?_
  refine qa_bk_gr rfl rfl (qa_ds0 hR) rfl ?_
  refine qa_bk_gr rfl rfl (qa_ds1 hR) rfl ?_
  refine qa_bk_do (pc' := 13) rfl rfl ?_
  refine qa_bk_cs (qa_tX9_at (qa_ds4 hR) (Nat.le_of_ble_eq_true rfl) rfl) rfl rfl rfl rfl rfl rfl rfl ?_
  refine qa_bk_cv (qa_tX7_bring hR rfl) rfl rfl rfl rfl rfl rfl rfl (qa_ds11 hR) ?_
  refine qa_bk_do (pc' := 20) rfl rfl ?_
  refine qa_bk_gr rfl rfl (qa_ds0 hR) rfl ?_
  refine qa_bk_do (pc' := 24) rfl rfl ?_
  refine qa_bk_cv (qa_tX6_use hR rfl) rfl rfl rfl rfl rfl rfl rfl (qa_ds1 hR) ?_
  subst h
  exact qa_bk_re rfl rfl rfl
noncomputable def qa_fX2_unqueue_2 (R : Nat) (a1 : Int32) : Nat → Int32 → qa_T → Option qa_T
  | 0, _, _ => none
  | n + 1, x2, σ =>
    if (σ.1 (R, 12) 2) ≤ (x2 + (Int32.ofInt 1)) then
      let σ2 := qa_wi σ (R, 12) 2 ((σ.1 (R, 12) 2) - (Int32.ofInt 1))
      some σ2
    else
      let σ3 := qa_fX9_set (R, 13) 16 x2 (qa_fX9_at (R, 13) 16 (x2 + (Int32.ofInt 1)) σ) σ
      let v4 : Int32 := x2 + Int32.ofInt 1
      qa_fX2_unqueue_2 R a1 n v4 σ3
noncomputable def qa_fX2_unqueue (R : Nat) (a1 : Int32) (σ : qa_T) : Option qa_T :=
    qa_fX2_unqueue_2 R a1 qa_fu a1 σ
set_option maxRecDepth 100000 in
theorem qa_tX2_unqueue_2 {L : Nat} {R : Nat} {a1 : Int32} (hR : qa_rg R) : ∀ (n : Nat) (x2 : Int32) (σ : qa_T) (r : qa_T), qa_fX2_unqueue_2 R a1 n x2 σ = some r → qa_Bk (qa_ds L) qa_mX2_unqueue 2 [(0, .inl (R, 12)), (1, .inr (.int a1)), (2, .inr (.int x2))] [] σ (.inl none) r := by
  intro n
  induction n with
  | zero => intro x2 σ r h; cases h
  | succ n ih =>
    intro x2 σ r h
    unfold qa_fX2_unqueue_2 at h
    try dsimp only at h
    refine qa_bk_do (pc' := 3) rfl rfl ?_
    refine qa_bk_do (pc' := 4) rfl rfl ?_
    refine qa_bk_do (pc' := 5) rfl rfl ?_
    refine qa_bk_do (pc' := 6) rfl rfl ?_
    refine qa_bk_gi rfl rfl (qa_ds12 hR) rfl ?_
    rcases qa_ite h with ⟨hc1, h⟩ | ⟨hc1, h⟩
    · refine qa_bk_1t (a := 36) (b := 12) hc1 rfl rfl ?_
      refine qa_bk_do (pc' := 37) rfl rfl ?_
      refine qa_bk_do (pc' := 38) rfl rfl ?_
      refine qa_bk_gi rfl rfl (qa_ds12 hR) rfl ?_
      refine qa_bk_do (pc' := 42) rfl rfl ?_
      refine qa_bk_do (pc' := 43) rfl rfl ?_
      refine qa_bk_pf rfl rfl (qa_ds12 hR) rfl (qa_fiti _) rfl ?_
      cases h
      exact qa_bk_re rfl rfl rfl
    · refine qa_bk_1f (a := 36) (b := 12) hc1 rfl rfl ?_
      refine qa_bk_do (pc' := 13) rfl rfl ?_
      refine qa_bk_gr rfl rfl (qa_ds12 hR) rfl ?_
      refine qa_bk_do (pc' := 17) rfl rfl ?_
      refine qa_bk_do (pc' := 18) rfl rfl ?_
      refine qa_bk_gr rfl rfl (qa_ds12 hR) rfl ?_
      refine qa_bk_do (pc' := 22) rfl rfl ?_
      refine qa_bk_do (pc' := 23) rfl rfl ?_
      refine qa_bk_do (pc' := 24) rfl rfl ?_
      refine qa_bk_cs (qa_tX9_at (qa_ds13 hR) (Nat.le_of_ble_eq_true rfl) rfl) rfl rfl rfl rfl rfl rfl rfl ?_
      refine qa_bk_cs (qa_tX9_set (qa_ds13 hR) (Nat.le_of_ble_eq_true rfl) rfl) rfl rfl rfl rfl rfl rfl rfl ?_
      refine qa_bk_do (pc' := 33) (lv' := [(2, _), (0, _), (1, _)]) rfl rfl ?_
      refine qa_bk_do (pc' := 2) rfl rfl ?_
      exact qa_bk_lw (ih _ _ _ h) rfl rfl (And.intro rfl (And.intro rfl (And.intro rfl (trivial))))
set_option maxRecDepth 100000 in
theorem qa_tX2_unqueue {L : Nat} {R : Nat} {a1 : Int32} (hR : qa_rg R) {σ : qa_T} {r : qa_T} (h : qa_fX2_unqueue R a1 σ = some r) : qa_Bk (qa_ds L) qa_mX2_unqueue 0 (qa_ag 0 [.inl (R, 12), .inr (.int a1)]) [] σ (.inl none) r := by
  unfold qa_fX2_unqueue at h
  try dsimp only at h
  show qa_Bk (qa_ds L) qa_mX2_unqueue 0 [(0, .inl (R, 12)), (1, .inr (.int a1))] [] σ _ _
  refine qa_bk_do (pc' := 1) rfl rfl ?_
  refine qa_bk_do (pc' := 2) (lv' := [(2, _), (0, _), (1, _)]) rfl rfl ?_
  exact qa_bk_lw (qa_tX2_unqueue_2 hR _ _ _ _ h) rfl rfl (And.intro rfl (And.intro rfl (And.intro rfl (trivial))))
noncomputable def qa_fX1_proceed_82 (R : Nat) (σ : qa_T) : Option (Bool × qa_T) :=
    some (false, σ)
noncomputable def qa_fX1_proceed (R : Nat) (σ : qa_T) : Option (Bool × qa_T) :=
    let c1 := qa_fX3_advance R σ
    if (qa_bi (qa_fX6_isReady R c1.1 c1.2)) = 0 then
      let σ3 := qa_wi c1.2 (R, 15) 2 ((c1.2.1 (R, 15) 2) + (Int32.ofInt 1))
      let σ4 := qa_wi σ3 (R, 11) 4 c1.1
      (qa_fX2_queuePlace R c1.1 σ4).bind fun c5 =>
      if c5 = (Int32.ofInt (-1)) then
        qa_fX1_proceed_82 R σ4
      else
        (qa_fX2_unqueue R c5 σ4).bind fun c8 =>
        qa_fX1_proceed_82 R c8
    else
      let σ10 := qa_wi c1.2 (R, 15) 1 ((c1.2.1 (R, 15) 1) + (Int32.ofInt 1))
      let σ11 := qa_fX1_bringOn R c1.1 σ10
      some (true, σ11)
set_option maxRecDepth 100000 in
theorem qa_tX1_proceed_82 {L : Nat} {R : Nat} (hR : qa_rg R) {σ : qa_T} {r : (Bool × qa_T)} (h : qa_fX1_proceed_82 R σ = some r) : qa_Bk (qa_ds L) qa_mX1_proceed 82 [(0, .inl (R, 0))] [] σ (.inl (some (.inr (.int (qa_bi r.1))))) r.2 := by
  unfold qa_fX1_proceed_82 at h
  try dsimp only at h
  refine qa_bk_do (pc' := 83) rfl rfl ?_
  cases h
  exact qa_bk_rb rfl rfl rfl
set_option maxRecDepth 100000 in
theorem qa_tX1_proceed {L : Nat} {R : Nat} (hR : qa_rg R) {σ : qa_T} {r : (Bool × qa_T)} (h : qa_fX1_proceed R σ = some r) : qa_Bk (qa_ds L) qa_mX1_proceed 0 (qa_ag 0 [.inl (R, 0)]) [] σ (.inl (some (.inr (.int (qa_bi r.1))))) r.2 := by
  unfold qa_fX1_proceed at h
  try dsimp only at h
  show qa_Bk (qa_ds L) qa_mX1_proceed 0 [(0, .inl (R, 0))] [] σ _ _
  refine qa_bk_do (pc' := 1) rfl rfl ?_
  refine qa_bk_gr rfl rfl (qa_ds0 hR) rfl ?_
  refine qa_bk_cv (qa_tX3_advance hR rfl) rfl rfl rfl rfl rfl rfl rfl (qa_ds9 hR) ?_
  refine qa_bk_do (pc' := 8) (lv' := [(1, _), (0, _)]) rfl rfl ?_
  refine qa_bk_do (pc' := 9) rfl rfl ?_
  refine qa_bk_gr rfl rfl (qa_ds0 hR) rfl ?_
  refine qa_bk_do (pc' := 13) rfl rfl ?_
  refine qa_bk_cv (qa_tX6_isReady hR rfl) rfl rfl rfl rfl rfl rfl rfl (qa_ds1 hR) ?_
  rcases qa_ite h with ⟨hc2, h⟩ | ⟨hc2, h⟩
  · refine qa_bk_1t (a := 39) (b := 19) hc2 rfl rfl ?_
    refine qa_bk_do (pc' := 40) rfl rfl ?_
    refine qa_bk_gr rfl rfl (qa_ds0 hR) rfl ?_
    refine qa_bk_do (pc' := 44) rfl rfl ?_
    refine qa_bk_gi rfl rfl (qa_ds15 hR) rfl ?_
    refine qa_bk_do (pc' := 48) rfl rfl ?_
    refine qa_bk_do (pc' := 49) rfl rfl ?_
    refine qa_bk_pf rfl rfl (qa_ds15 hR) rfl (qa_fiti _) rfl ?_
    refine qa_bk_do (pc' := 53) rfl rfl ?_
    refine qa_bk_gr rfl rfl (qa_ds0 hR) rfl ?_
    refine qa_bk_do (pc' := 57) rfl rfl ?_
    refine qa_bk_pf rfl rfl (qa_ds11 hR) rfl (qa_fiti _) rfl ?_
    refine qa_bk_do (pc' := 61) rfl rfl ?_
    refine qa_bk_gr rfl rfl (qa_ds0 hR) rfl ?_
    refine qa_bk_do (pc' := 65) rfl rfl ?_
    obtain ⟨c5, hc6, h⟩ := Option.bind_eq_some_iff.mp h
    refine qa_bk_cv (qa_tX2_queuePlace hR hc6) rfl rfl rfl rfl rfl rfl rfl (qa_ds12 hR) ?_
    refine qa_bk_do (pc' := 69) (lv' := [(2, _), (1, _), (0, _)]) rfl rfl ?_
    refine qa_bk_do (pc' := 70) rfl rfl ?_
    refine qa_bk_do (pc' := 71) rfl rfl ?_
    rcases qa_ite h with ⟨hc7, h⟩ | ⟨hc7, h⟩
    · refine qa_bk_1t (a := 82) (b := 74) hc7 rfl rfl ?_
      exact qa_bk_lw (qa_tX1_proceed_82 hR h) rfl rfl (And.intro rfl (trivial))
    · refine qa_bk_1f (a := 82) (b := 74) hc7 rfl rfl ?_
      refine qa_bk_do (pc' := 75) rfl rfl ?_
      refine qa_bk_gr rfl rfl (qa_ds0 hR) rfl ?_
      refine qa_bk_do (pc' := 79) rfl rfl ?_
      obtain ⟨c8, hc9, h⟩ := Option.bind_eq_some_iff.mp h
      refine qa_bk_cv (qa_tX2_unqueue hR hc9) rfl rfl rfl rfl rfl rfl rfl (qa_ds12 hR) ?_
      exact qa_bk_lw (qa_tX1_proceed_82 hR h) rfl rfl (And.intro rfl (trivial))
  · refine qa_bk_1f (a := 39) (b := 19) hc2 rfl rfl ?_
    refine qa_bk_do (pc' := 20) rfl rfl ?_
    refine qa_bk_gr rfl rfl (qa_ds0 hR) rfl ?_
    refine qa_bk_do (pc' := 24) rfl rfl ?_
    refine qa_bk_gi rfl rfl (qa_ds15 hR) rfl ?_
    refine qa_bk_do (pc' := 28) rfl rfl ?_
    refine qa_bk_do (pc' := 29) rfl rfl ?_
    refine qa_bk_pf rfl rfl (qa_ds15 hR) rfl (qa_fiti _) rfl ?_
    refine qa_bk_do (pc' := 33) rfl rfl ?_
    refine qa_bk_do (pc' := 34) rfl rfl ?_
    refine qa_bk_cv (qa_tX1_bringOn hR rfl) rfl rfl rfl rfl rfl rfl rfl (qa_ds0 hR) ?_
    refine qa_bk_do (pc' := 38) rfl rfl ?_
    cases h
    exact qa_bk_rb rfl rfl rfl
noncomputable def qa_fX6_coolEmbers_44 (R : Nat) (σ : qa_T) : Option qa_T :=
    some σ
noncomputable def qa_fX6_coolEmbers_38 (R : Nat) (k2 : Int32 → qa_T → Option qa_T) (x1 : Int32) (σ : qa_T) : Option qa_T :=
    let v5 : Int32 := x1 + Int32.ofInt 1
    k2 v5 σ
noncomputable def qa_fX6_coolEmbers_2 (R : Nat) : Nat → Int32 → qa_T → Option qa_T
  | 0, _, _ => none
  | n + 1, x1, σ =>
    if (σ.1 (R, 1) 0) ≤ x1 then
      qa_fX6_coolEmbers_44 R σ
    else
      if Int32.ofNat 16 ≤ x1 then
        qa_fX6_coolEmbers_44 R σ
      else
        if ¬ qa_in x1 16 = true then none else
        if (σ.1 (R, 6) (x1).toNatClampNeg) ≤ 0 then
          qa_fX6_coolEmbers_38 R (qa_fX6_coolEmbers_2 R n) x1 σ
        else
          if ¬ qa_in x1 16 = true then none else
          if ¬ qa_in x1 16 = true then none else
          let σ8 := qa_wi σ (R, 6) (x1).toNatClampNeg ((σ.1 (R, 6) (x1).toNatClampNeg) - (Int32.ofInt 1))
          qa_fX6_coolEmbers_38 R (qa_fX6_coolEmbers_2 R n) x1 σ8
noncomputable def qa_fX6_coolEmbers (R : Nat) (σ : qa_T) : Option qa_T :=
    qa_fX6_coolEmbers_2 R qa_fu (Int32.ofInt 0) σ
set_option maxRecDepth 100000 in
theorem qa_tX6_coolEmbers_44 {L : Nat} {R : Nat} (hR : qa_rg R) {σ : qa_T} {r : qa_T} (h : qa_fX6_coolEmbers_44 R σ = some r) : qa_Bk (qa_ds L) qa_mX6_coolEmbers 44 [(0, .inl (R, 1))] [] σ (.inl none) r := by
  unfold qa_fX6_coolEmbers_44 at h
  try dsimp only at h
  cases h
  exact qa_bk_re rfl rfl rfl
set_option maxRecDepth 100000 in
theorem qa_tX6_coolEmbers_38 {L : Nat} {R : Nat} (hR : qa_rg R) {k2 : Int32 → qa_T → Option qa_T} (K2 : ∀ (x1 : Int32) (σ : qa_T) (r : qa_T), k2 x1 σ = some r → qa_Bk (qa_ds L) qa_mX6_coolEmbers 2 [(0, .inl (R, 1)), (1, .inr (.int x1))] [] σ (.inl none) r) {x1 : Int32} {σ : qa_T} {r : qa_T} (h : qa_fX6_coolEmbers_38 R k2 x1 σ = some r) : qa_Bk (qa_ds L) qa_mX6_coolEmbers 38 [(0, .inl (R, 1)), (1, .inr (.int x1))] [] σ (.inl none) r := by
  unfold qa_fX6_coolEmbers_38 at h
  try dsimp only at h
  refine qa_bk_do (pc' := 41) (lv' := [(1, _), (0, _)]) rfl rfl ?_
  refine qa_bk_do (pc' := 2) rfl rfl ?_
  exact qa_bk_lw (K2 _ _ _ h) rfl rfl (And.intro rfl (And.intro rfl (trivial)))
set_option maxRecDepth 100000 in
theorem qa_tX6_coolEmbers_2 {L : Nat} {R : Nat} (hR : qa_rg R) : ∀ (n : Nat) (x1 : Int32) (σ : qa_T) (r : qa_T), qa_fX6_coolEmbers_2 R n x1 σ = some r → qa_Bk (qa_ds L) qa_mX6_coolEmbers 2 [(0, .inl (R, 1)), (1, .inr (.int x1))] [] σ (.inl none) r := by
  intro n
  induction n with
  | zero => intro x1 σ r h; cases h
  | succ n ih =>
    intro x1 σ r h
    unfold qa_fX6_coolEmbers_2 at h
    try dsimp only at h
    refine qa_bk_do (pc' := 3) rfl rfl ?_
    refine qa_bk_do (pc' := 4) rfl rfl ?_
    refine qa_bk_gi rfl rfl (qa_ds1 hR) rfl ?_
    rcases qa_ite h with ⟨hc1, h⟩ | ⟨hc1, h⟩
    · refine qa_bk_1t (a := 44) (b := 10) hc1 rfl rfl ?_
      exact qa_bk_lw (qa_tX6_coolEmbers_44 hR h) rfl rfl (And.intro rfl (trivial))
    · refine qa_bk_1f (a := 44) (b := 10) hc1 rfl rfl ?_
      refine qa_bk_do (pc' := 11) rfl rfl ?_
      refine qa_bk_do (pc' := 12) rfl rfl ?_
      refine qa_bk_gr rfl rfl (qa_ds1 hR) rfl ?_
      refine qa_bk_al rfl (qa_ds6 hR) (Or.inl (by decide)) ?_
      rcases qa_ite h with ⟨hc2, h⟩ | ⟨hc2, h⟩
      · refine qa_bk_1t (a := 44) (b := 19) hc2 rfl rfl ?_
        exact qa_bk_lw (qa_tX6_coolEmbers_44 hR h) rfl rfl (And.intro rfl (trivial))
      · refine qa_bk_1f (a := 44) (b := 19) hc2 rfl rfl ?_
        refine qa_bk_do (pc' := 20) rfl rfl ?_
        refine qa_bk_gr rfl rfl (qa_ds1 hR) rfl ?_
        refine qa_bk_do (pc' := 24) rfl rfl ?_
        rcases qa_ite h with ⟨_, h⟩ | ⟨hc3, h⟩
        · cases h
        refine qa_bk_ia rfl (qa_ds6 hR) (Or.inl rfl) (Decidable.of_not_not hc3) ?_
        rcases qa_ite h with ⟨hc4, h⟩ | ⟨hc4, h⟩
        · refine qa_bk_1t (a := 38) (b := 28) hc4 rfl rfl ?_
          exact qa_bk_lw (qa_tX6_coolEmbers_38 hR ih h) rfl rfl (And.intro rfl (And.intro rfl (trivial)))
        · refine qa_bk_1f (a := 38) (b := 28) hc4 rfl rfl ?_
          refine qa_bk_do (pc' := 29) rfl rfl ?_
          refine qa_bk_gr rfl rfl (qa_ds1 hR) rfl ?_
          refine qa_bk_do (pc' := 33) rfl rfl ?_
          refine qa_bk_do (pc' := 34) rfl rfl ?_
          rcases qa_ite h with ⟨_, h⟩ | ⟨hc6, h⟩
          · cases h
          refine qa_bk_ia rfl (qa_ds6 hR) (Or.inl rfl) (Decidable.of_not_not hc6) ?_
          refine qa_bk_do (pc' := 36) rfl rfl ?_
          refine qa_bk_do (pc' := 37) rfl rfl ?_
          rcases qa_ite h with ⟨_, h⟩ | ⟨hc7, h⟩
          · cases h
          refine qa_bk_is rfl (qa_ds6 hR) (Decidable.of_not_not hc7) ?_
          exact qa_bk_lw (qa_tX6_coolEmbers_38 hR ih h) rfl rfl (And.intro rfl (And.intro rfl (trivial)))
set_option maxRecDepth 100000 in
theorem qa_tX6_coolEmbers {L : Nat} {R : Nat} (hR : qa_rg R) {σ : qa_T} {r : qa_T} (h : qa_fX6_coolEmbers R σ = some r) : qa_Bk (qa_ds L) qa_mX6_coolEmbers 0 (qa_ag 0 [.inl (R, 1)]) [] σ (.inl none) r := by
  unfold qa_fX6_coolEmbers at h
  try dsimp only at h
  show qa_Bk (qa_ds L) qa_mX6_coolEmbers 0 [(0, .inl (R, 1))] [] σ _ _
  refine qa_bk_do (pc' := 1) rfl rfl ?_
  refine qa_bk_do (pc' := 2) (lv' := [(1, _), (0, _)]) rfl rfl ?_
  exact qa_bk_lw (qa_tX6_coolEmbers_2 hR _ _ _ _ h) rfl rfl (And.intro rfl (And.intro rfl (trivial)))
noncomputable def qa_fX7_fadeOnce_29 (R : Nat) (σ : qa_T) : qa_T :=
    σ
noncomputable def qa_fX7_fadeOnce_17 (R : Nat) (σ : qa_T) : qa_T :=
    if ¬ (σ.1 (R, 11) 3) = 0 then
      qa_fX7_fadeOnce_29 R σ
    else
      let σ3 := qa_wi σ (R, 11) 2 (Int32.ofInt (-1))
      qa_fX7_fadeOnce_29 R σ3
noncomputable def qa_fX7_fadeOnce (R : Nat) (σ : qa_T) : qa_T :=
    if (σ.1 (R, 11) 3) ≤ 0 then
      qa_fX7_fadeOnce_17 R σ
    else
      let σ4 := qa_wi σ (R, 11) 3 ((σ.1 (R, 11) 3) - (Int32.ofInt 1))
      qa_fX7_fadeOnce_17 R σ4
set_option maxRecDepth 100000 in
theorem qa_tX7_fadeOnce_29 {L : Nat} {R : Nat} (hR : qa_rg R) {σ : qa_T} {r : qa_T} (h : qa_fX7_fadeOnce_29 R σ = r) : qa_Bk (qa_ds L) qa_mX7_fadeOnce 29 [(0, .inl (R, 11))] [] σ (.inl none) r := by
  unfold qa_fX7_fadeOnce_29 at h
  try dsimp only at h
  subst h
  exact qa_bk_re rfl rfl rfl
set_option maxRecDepth 100000 in
theorem qa_tX7_fadeOnce_17 {L : Nat} {R : Nat} (hR : qa_rg R) {σ : qa_T} {r : qa_T} (h : qa_fX7_fadeOnce_17 R σ = r) : qa_Bk (qa_ds L) qa_mX7_fadeOnce 17 [(0, .inl (R, 11))] [] σ (.inl none) r := by
  unfold qa_fX7_fadeOnce_17 at h
  try dsimp only at h
  refine qa_bk_do (pc' := 18) rfl rfl ?_
  refine qa_bk_gi rfl rfl (qa_ds11 hR) rfl ?_
  rcases qa_ite h with ⟨hc2, h⟩ | ⟨hc2, h⟩
  · refine qa_bk_1t (a := 29) (b := 24) hc2 rfl rfl ?_
    exact qa_bk_lw (qa_tX7_fadeOnce_29 hR h) rfl rfl (And.intro rfl (trivial))
  · refine qa_bk_1f (a := 29) (b := 24) hc2 rfl rfl ?_
    refine qa_bk_do (pc' := 25) rfl rfl ?_
    refine qa_bk_do (pc' := 26) rfl rfl ?_
    refine qa_bk_pf rfl rfl (qa_ds11 hR) rfl (qa_fiti _) rfl ?_
    exact qa_bk_lw (qa_tX7_fadeOnce_29 hR h) rfl rfl (And.intro rfl (trivial))
set_option maxRecDepth 100000 in
theorem qa_tX7_fadeOnce {L : Nat} {R : Nat} (hR : qa_rg R) {σ : qa_T} {r : qa_T} (h : qa_fX7_fadeOnce R σ = r) : qa_Bk (qa_ds L) qa_mX7_fadeOnce 0 (qa_ag 0 [.inl (R, 11)]) [] σ (.inl none) r := by
  unfold qa_fX7_fadeOnce at h
  try dsimp only at h
  show qa_Bk (qa_ds L) qa_mX7_fadeOnce 0 [(0, .inl (R, 11))] [] σ _ _
  refine qa_bk_do (pc' := 1) rfl rfl ?_
  refine qa_bk_gi rfl rfl (qa_ds11 hR) rfl ?_
  rcases qa_ite h with ⟨hc1, h⟩ | ⟨hc1, h⟩
  · refine qa_bk_1t (a := 17) (b := 7) hc1 rfl rfl ?_
    exact qa_bk_lw (qa_tX7_fadeOnce_17 hR h) rfl rfl (And.intro rfl (trivial))
  · refine qa_bk_1f (a := 17) (b := 7) hc1 rfl rfl ?_
    refine qa_bk_do (pc' := 8) rfl rfl ?_
    refine qa_bk_do (pc' := 9) rfl rfl ?_
    refine qa_bk_gi rfl rfl (qa_ds11 hR) rfl ?_
    refine qa_bk_do (pc' := 13) rfl rfl ?_
    refine qa_bk_do (pc' := 14) rfl rfl ?_
    refine qa_bk_pf rfl rfl (qa_ds11 hR) rfl (qa_fiti _) rfl ?_
    exact qa_bk_lw (qa_tX7_fadeOnce_17 hR h) rfl rfl (And.intro rfl (trivial))
noncomputable def qa_fX7_countShown_18 (R : Nat) (σ : qa_T) : qa_T :=
    σ
noncomputable def qa_fX7_countShown (R : Nat) (σ : qa_T) : qa_T :=
    if (σ.1 (R, 11) 0) = (Int32.ofInt (-1)) then
      qa_fX7_countShown_18 R σ
    else
      let σ2 := qa_wi σ (R, 11) 1 ((σ.1 (R, 11) 1) + (Int32.ofInt 1))
      qa_fX7_countShown_18 R σ2
set_option maxRecDepth 100000 in
theorem qa_tX7_countShown_18 {L : Nat} {R : Nat} (hR : qa_rg R) {σ : qa_T} {r : qa_T} (h : qa_fX7_countShown_18 R σ = r) : qa_Bk (qa_ds L) qa_mX7_countShown 18 [(0, .inl (R, 11))] [] σ (.inl none) r := by
  unfold qa_fX7_countShown_18 at h
  try dsimp only at h
  subst h
  exact qa_bk_re rfl rfl rfl
set_option maxRecDepth 100000 in
theorem qa_tX7_countShown {L : Nat} {R : Nat} (hR : qa_rg R) {σ : qa_T} {r : qa_T} (h : qa_fX7_countShown R σ = r) : qa_Bk (qa_ds L) qa_mX7_countShown 0 (qa_ag 0 [.inl (R, 11)]) [] σ (.inl none) r := by
  unfold qa_fX7_countShown at h
  try dsimp only at h
  show qa_Bk (qa_ds L) qa_mX7_countShown 0 [(0, .inl (R, 11))] [] σ _ _
  refine qa_bk_do (pc' := 1) rfl rfl ?_
  refine qa_bk_gi rfl rfl (qa_ds11 hR) rfl ?_
  refine qa_bk_do (pc' := 5) rfl rfl ?_
  rcases qa_ite h with ⟨hc1, h⟩ | ⟨hc1, h⟩
  · refine qa_bk_1t (a := 18) (b := 8) hc1 rfl rfl ?_
    exact qa_bk_lw (qa_tX7_countShown_18 hR h) rfl rfl (And.intro rfl (trivial))
  · refine qa_bk_1f (a := 18) (b := 8) hc1 rfl rfl ?_
    refine qa_bk_do (pc' := 9) rfl rfl ?_
    refine qa_bk_do (pc' := 10) rfl rfl ?_
    refine qa_bk_gi rfl rfl (qa_ds11 hR) rfl ?_
    refine qa_bk_do (pc' := 14) rfl rfl ?_
    refine qa_bk_do (pc' := 15) rfl rfl ?_
    refine qa_bk_pf rfl rfl (qa_ds11 hR) rfl (qa_fiti _) rfl ?_
    exact qa_bk_lw (qa_tX7_countShown_18 hR h) rfl rfl (And.intro rfl (trivial))
noncomputable def qa_fX6_setReady_20 (R : Nat) (a1 : Int32) (a2 : Bool) (σ : qa_T) : qa_T :=
    σ
noncomputable def qa_fX6_setReady (R : Nat) (a1 : Int32) (a2 : Bool) (σ : qa_T) : qa_T :=
    if a1 < 0 then
      qa_fX6_setReady_20 R a1 a2 σ
    else
      if Int32.ofNat 16 ≤ a1 then
        qa_fX6_setReady_20 R a1 a2 σ
      else
        let σ3 := qa_wi σ (R, 5) (a1).toNatClampNeg (qa_bi a2)
        qa_fX6_setReady_20 R a1 a2 σ3
set_option maxRecDepth 100000 in
theorem qa_tX6_setReady_20 {L : Nat} {R : Nat} {a1 : Int32} {a2 : Bool} (hR : qa_rg R) {σ : qa_T} {r : qa_T} (h : qa_fX6_setReady_20 R a1 a2 σ = r) : qa_Bk (qa_ds L) qa_mX6_setReady 20 [(0, .inl (R, 1)), (1, .inr (.int a1)), (2, .inr (.int (qa_bi a2)))] [] σ (.inl none) r := by
  unfold qa_fX6_setReady_20 at h
  try dsimp only at h
  subst h
  exact qa_bk_re rfl rfl rfl
set_option maxRecDepth 100000 in
theorem qa_tX6_setReady {L : Nat} {R : Nat} {a1 : Int32} {a2 : Bool} (hR : qa_rg R) {σ : qa_T} {r : qa_T} (h : qa_fX6_setReady R a1 a2 σ = r) : qa_Bk (qa_ds L) qa_mX6_setReady 0 (qa_ag 0 [.inl (R, 1), .inr (.int a1), .inr (.int (qa_bi a2))]) [] σ (.inl none) r := by
  unfold qa_fX6_setReady at h
  try dsimp only at h
  show qa_Bk (qa_ds L) qa_mX6_setReady 0 [(0, .inl (R, 1)), (1, .inr (.int a1)), (2, .inr (.int (qa_bi a2)))] [] σ _ _
  refine qa_bk_do (pc' := 1) rfl rfl ?_
  rcases qa_ite h with ⟨hc1, h⟩ | ⟨hc1, h⟩
  · refine qa_bk_1t (a := 20) (b := 4) hc1 rfl rfl ?_
    exact qa_bk_lw (qa_tX6_setReady_20 hR h) rfl rfl (And.intro rfl (And.intro rfl (And.intro rfl (trivial))))
  · refine qa_bk_1f (a := 20) (b := 4) hc1 rfl rfl ?_
    refine qa_bk_do (pc' := 5) rfl rfl ?_
    refine qa_bk_do (pc' := 6) rfl rfl ?_
    refine qa_bk_gr rfl rfl (qa_ds1 hR) rfl ?_
    refine qa_bk_al rfl (qa_ds5 hR) (Or.inl (by decide)) ?_
    rcases qa_ite h with ⟨hc2, h⟩ | ⟨hc2, h⟩
    · refine qa_bk_1t (a := 20) (b := 13) hc2 rfl rfl ?_
      exact qa_bk_lw (qa_tX6_setReady_20 hR h) rfl rfl (And.intro rfl (And.intro rfl (And.intro rfl (trivial))))
    · refine qa_bk_1f (a := 20) (b := 13) hc2 rfl rfl ?_
      refine qa_bk_do (pc' := 14) rfl rfl ?_
      refine qa_bk_gr rfl rfl (qa_ds1 hR) rfl ?_
      refine qa_bk_do (pc' := 18) rfl rfl ?_
      refine qa_bk_do (pc' := 19) rfl rfl ?_
      refine qa_bk_bs (v := qa_bi a2) rfl (qa_ds5 hR) (qa_in_g hc1 hc2 (Nat.le_of_ble_eq_true rfl)) (qa_bi01 _) ?_
      exact qa_bk_lw (qa_tX6_setReady_20 hR h) rfl rfl (And.intro rfl (And.intro rfl (And.intro rfl (trivial))))
noncomputable def qa_fX1_loadOnce (R : Nat) (σ : qa_T) : (Bool × qa_T) :=
    let v1 : Int32 := (σ.1 (R, 12) 0)
    if ¬ v1 = (Int32.ofInt (-1)) then
      let σ3 := qa_wi σ (R, 12) 1 ((σ.1 (R, 12) 1) - (Int32.ofInt 1))
      if (σ3.1 (R, 12) 1) ≤ 0 then
        let σ5 := qa_wi σ3 (R, 12) 0 (Int32.ofInt (-1))
        let σ6 := qa_fX6_setReady R v1 true σ5
        let σ7 := qa_fX6_use R v1 σ6
        if (σ7.1 (R, 11) 4) = v1 then
          let σ9 := qa_fX1_bringOn R v1 σ7
          (true, σ9)
        else
          (false, σ7)
      else
        (false, σ3)
    else
      (false, σ)
set_option maxRecDepth 100000 in
theorem qa_tX1_loadOnce {L : Nat} {R : Nat} (hR : qa_rg R) {σ : qa_T} {r : (Bool × qa_T)} (h : qa_fX1_loadOnce R σ = r) : qa_Bk (qa_ds L) qa_mX1_loadOnce 0 (qa_ag 0 [.inl (R, 0)]) [] σ (.inl (some (.inr (.int (qa_bi r.1))))) r.2 := by
  unfold qa_fX1_loadOnce at h
  try dsimp only at h
  show qa_Bk (qa_ds L) qa_mX1_loadOnce 0 [(0, .inl (R, 0))] [] σ _ _
  refine qa_bk_do (pc' := 1) rfl rfl ?_
  refine qa_bk_gr rfl rfl (qa_ds0 hR) rfl ?_
  refine qa_bk_gi rfl rfl (qa_ds12 hR) rfl ?_
  refine qa_bk_do (pc' := 8) (lv' := [(1, _), (0, _)]) rfl rfl ?_
  refine qa_bk_do (pc' := 9) rfl rfl ?_
  refine qa_bk_do (pc' := 10) rfl rfl ?_
  rcases qa_ite h with ⟨hc2, h⟩ | ⟨hc2, h⟩
  · refine qa_bk_1t (a := 15) (b := 13) hc2 rfl rfl ?_
    refine qa_bk_do (pc' := 16) rfl rfl ?_
    refine qa_bk_gr rfl rfl (qa_ds0 hR) rfl ?_
    refine qa_bk_do (pc' := 20) rfl rfl ?_
    refine qa_bk_gi rfl rfl (qa_ds12 hR) rfl ?_
    refine qa_bk_do (pc' := 24) rfl rfl ?_
    refine qa_bk_do (pc' := 25) rfl rfl ?_
    refine qa_bk_pf rfl rfl (qa_ds12 hR) rfl (qa_fiti _) rfl ?_
    refine qa_bk_do (pc' := 29) rfl rfl ?_
    refine qa_bk_gr rfl rfl (qa_ds0 hR) rfl ?_
    refine qa_bk_gi rfl rfl (qa_ds12 hR) rfl ?_
    rcases qa_ite h with ⟨hc4, h⟩ | ⟨hc4, h⟩
    · refine qa_bk_1t (a := 40) (b := 38) hc4 rfl rfl ?_
      refine qa_bk_do (pc' := 41) rfl rfl ?_
      refine qa_bk_gr rfl rfl (qa_ds0 hR) rfl ?_
      refine qa_bk_do (pc' := 45) rfl rfl ?_
      refine qa_bk_pf rfl rfl (qa_ds12 hR) rfl (qa_fiti _) rfl ?_
      refine qa_bk_do (pc' := 49) rfl rfl ?_
      refine qa_bk_gr rfl rfl (qa_ds0 hR) rfl ?_
      refine qa_bk_do (pc' := 53) rfl rfl ?_
      refine qa_bk_do (pc' := 54) rfl rfl ?_
      refine qa_bk_cv (qa_tX6_setReady (a2 := true) hR rfl) rfl rfl rfl rfl rfl rfl rfl (qa_ds1 hR) ?_
      refine qa_bk_do (pc' := 58) rfl rfl ?_
      refine qa_bk_gr rfl rfl (qa_ds0 hR) rfl ?_
      refine qa_bk_do (pc' := 62) rfl rfl ?_
      refine qa_bk_cv (qa_tX6_use hR rfl) rfl rfl rfl rfl rfl rfl rfl (qa_ds1 hR) ?_
      refine qa_bk_do (pc' := 66) rfl rfl ?_
      refine qa_bk_gr rfl rfl (qa_ds0 hR) rfl ?_
      refine qa_bk_gi rfl rfl (qa_ds11 hR) rfl ?_
      refine qa_bk_do (pc' := 73) rfl rfl ?_
      rcases qa_ite h with ⟨hc8, h⟩ | ⟨hc8, h⟩
      · refine qa_bk_1t (a := 78) (b := 76) hc8 rfl rfl ?_
        refine qa_bk_do (pc' := 79) rfl rfl ?_
        refine qa_bk_do (pc' := 80) rfl rfl ?_
        refine qa_bk_cv (qa_tX1_bringOn hR rfl) rfl rfl rfl rfl rfl rfl rfl (qa_ds0 hR) ?_
        refine qa_bk_do (pc' := 84) rfl rfl ?_
        subst h
        exact qa_bk_rb rfl rfl rfl
      · refine qa_bk_1f (a := 78) (b := 76) hc8 rfl rfl ?_
        refine qa_bk_do (pc' := 77) rfl rfl ?_
        subst h
        exact qa_bk_rb rfl rfl rfl
    · refine qa_bk_1f (a := 40) (b := 38) hc4 rfl rfl ?_
      refine qa_bk_do (pc' := 39) rfl rfl ?_
      subst h
      exact qa_bk_rb rfl rfl rfl
  · refine qa_bk_1f (a := 15) (b := 13) hc2 rfl rfl ?_
    refine qa_bk_do (pc' := 14) rfl rfl ?_
    subst h
    exact qa_bk_rb rfl rfl rfl
noncomputable def qa_fX1_paceIsReached_49 (R : Nat) (σ : qa_T) : Bool :=
    false
noncomputable def qa_fX1_paceIsReached (R : Nat) (σ : qa_T) : Bool :=
    if (σ.1 (R, 14) 4) ≤ 0 then
      qa_fX1_paceIsReached_49 R σ
    else
      if (qa_bi (qa_fX1_mayGoOn R σ)) = 0 then
        qa_fX1_paceIsReached_49 R σ
      else
        if (σ.1 (R, 11) 0) = (Int32.ofInt (-1)) then
          qa_fX1_paceIsReached_49 R σ
        else
          if (σ.1 (R, 11) 1) < (σ.1 (R, 14) 4) then
            qa_fX1_paceIsReached_49 R σ
          else
            true
set_option maxRecDepth 100000 in
theorem qa_tX1_paceIsReached_49 {L : Nat} {R : Nat} (hR : qa_rg R) {σ : qa_T} {r : Bool} (h : qa_fX1_paceIsReached_49 R σ = r) : qa_Bk (qa_ds L) qa_mX1_paceIsReached 49 [(0, .inl (R, 0))] [] σ (.inl (some (.inr (.int (qa_bi r))))) σ := by
  unfold qa_fX1_paceIsReached_49 at h
  try dsimp only at h
  refine qa_bk_do (pc' := 50) rfl rfl ?_
  subst h
  exact qa_bk_rb rfl rfl rfl
set_option maxRecDepth 100000 in
theorem qa_tX1_paceIsReached {L : Nat} {R : Nat} (hR : qa_rg R) {σ : qa_T} {r : Bool} (h : qa_fX1_paceIsReached R σ = r) : qa_Bk (qa_ds L) qa_mX1_paceIsReached 0 (qa_ag 0 [.inl (R, 0)]) [] σ (.inl (some (.inr (.int (qa_bi r))))) σ := by
  unfold qa_fX1_paceIsReached at h
  try dsimp only at h
  show qa_Bk (qa_ds L) qa_mX1_paceIsReached 0 [(0, .inl (R, 0))] [] σ _ _
  refine qa_bk_do (pc' := 1) rfl rfl ?_
  refine qa_bk_gr rfl rfl (qa_ds0 hR) rfl ?_
  refine qa_bk_gi rfl rfl (qa_ds14 hR) rfl ?_
  rcases qa_ite h with ⟨hc1, h⟩ | ⟨hc1, h⟩
  · refine qa_bk_1t (a := 49) (b := 10) hc1 rfl rfl ?_
    exact qa_bk_lw (qa_tX1_paceIsReached_49 hR h) rfl rfl (And.intro rfl (trivial))
  · refine qa_bk_1f (a := 49) (b := 10) hc1 rfl rfl ?_
    refine qa_bk_do (pc' := 11) rfl rfl ?_
    refine qa_bk_cv (qa_tX1_mayGoOn hR rfl) rfl rfl rfl rfl rfl rfl rfl (qa_ds0 hR) ?_
    rcases qa_ite h with ⟨hc2, h⟩ | ⟨hc2, h⟩
    · refine qa_bk_1t (a := 49) (b := 17) hc2 rfl rfl ?_
      exact qa_bk_lw (qa_tX1_paceIsReached_49 hR h) rfl rfl (And.intro rfl (trivial))
    · refine qa_bk_1f (a := 49) (b := 17) hc2 rfl rfl ?_
      refine qa_bk_do (pc' := 18) rfl rfl ?_
      refine qa_bk_gr rfl rfl (qa_ds0 hR) rfl ?_
      refine qa_bk_gi rfl rfl (qa_ds11 hR) rfl ?_
      refine qa_bk_do (pc' := 25) rfl rfl ?_
      rcases qa_ite h with ⟨hc3, h⟩ | ⟨hc3, h⟩
      · refine qa_bk_1t (a := 49) (b := 28) hc3 rfl rfl ?_
        exact qa_bk_lw (qa_tX1_paceIsReached_49 hR h) rfl rfl (And.intro rfl (trivial))
      · refine qa_bk_1f (a := 49) (b := 28) hc3 rfl rfl ?_
        refine qa_bk_do (pc' := 29) rfl rfl ?_
        refine qa_bk_gr rfl rfl (qa_ds0 hR) rfl ?_
        refine qa_bk_gi rfl rfl (qa_ds11 hR) rfl ?_
        refine qa_bk_do (pc' := 36) rfl rfl ?_
        refine qa_bk_gr rfl rfl (qa_ds0 hR) rfl ?_
        refine qa_bk_gi rfl rfl (qa_ds14 hR) rfl ?_
        rcases qa_ite h with ⟨hc4, h⟩ | ⟨hc4, h⟩
        · refine qa_bk_1t (a := 49) (b := 45) hc4 rfl rfl ?_
          exact qa_bk_lw (qa_tX1_paceIsReached_49 hR h) rfl rfl (And.intro rfl (trivial))
        · refine qa_bk_1f (a := 49) (b := 45) hc4 rfl rfl ?_
          refine qa_bk_do (pc' := 46) rfl rfl ?_
          refine qa_bk_do (pc' := 50) rfl rfl ?_
          subst h
          exact qa_bk_rb rfl rfl rfl
