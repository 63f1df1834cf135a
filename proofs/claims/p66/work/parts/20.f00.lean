/-! the methods as functions (written by wip/tools/gen.py) -/
noncomputable def qa_fX0_copyFrom (R : Nat) (S : Nat) (σ : qa_T) : qa_T :=
    let σ1 := qa_wi σ (R, 15) 0 (σ.1 (S, 15) 0)
    let σ2 := qa_wi σ1 (R, 15) 1 (σ1.1 (S, 15) 1)
    let σ3 := qa_wi σ2 (R, 15) 2 (σ2.1 (S, 15) 2)
    let σ4 := qa_wi σ3 (R, 15) 3 (σ3.1 (S, 15) 3)
    let σ5 := qa_wi σ4 (R, 15) 4 (σ4.1 (S, 15) 4)
    let σ6 := qa_wi σ5 (R, 15) 5 (σ5.1 (S, 15) 5)
    let σ7 := qa_wi σ6 (R, 15) 6 (σ6.1 (S, 15) 6)
    σ7
set_option maxRecDepth 100000 in
theorem qa_tX0_copyFrom {L : Nat} {R : Nat} {S : Nat} (hR : qa_rg R) (hS : qa_rg S) {σ : qa_T} {r : qa_T} (h : qa_fX0_copyFrom R S σ = r) : qa_Bk (qa_ds L) qa_mX0_copyFrom 0 (qa_ag 0 [.inl (R, 15), .inl (S, 15)]) [] σ (.inl none) r := by
  unfold qa_fX0_copyFrom at h
  try dsimp only at h
  show qa_Bk (qa_ds L) qa_mX0_copyFrom 0 [(0, .inl (R, 15)), (1, .inl (S, 15))] [] σ _ _
  refine qa_bk_do (pc' := 1) rfl rfl ?_
  refine qa_bk_do (pc' := 2) rfl rfl ?_
  refine qa_bk_gi rfl rfl (qa_ds15 hS) rfl ?_
  refine qa_bk_pf rfl rfl (qa_ds15 hR) rfl (qa_fiti _) rfl ?_
  refine qa_bk_do (pc' := 9) rfl rfl ?_
  refine qa_bk_do (pc' := 10) rfl rfl ?_
  refine qa_bk_gi rfl rfl (qa_ds15 hS) rfl ?_
  refine qa_bk_pf rfl rfl (qa_ds15 hR) rfl (qa_fiti _) rfl ?_
  refine qa_bk_do (pc' := 17) rfl rfl ?_
  refine qa_bk_do (pc' := 18) rfl rfl ?_
  refine qa_bk_gi rfl rfl (qa_ds15 hS) rfl ?_
  refine qa_bk_pf rfl rfl (qa_ds15 hR) rfl (qa_fiti _) rfl ?_
  refine qa_bk_do (pc' := 25) rfl rfl ?_
  refine qa_bk_do (pc' := 26) rfl rfl ?_
  refine qa_bk_gi rfl rfl (qa_ds15 hS) rfl ?_
  refine qa_bk_pf rfl rfl (qa_ds15 hR) rfl (qa_fiti _) rfl ?_
  refine qa_bk_do (pc' := 33) rfl rfl ?_
  refine qa_bk_do (pc' := 34) rfl rfl ?_
  refine qa_bk_gi rfl rfl (qa_ds15 hS) rfl ?_
  refine qa_bk_pf rfl rfl (qa_ds15 hR) rfl (qa_fiti _) rfl ?_
  refine qa_bk_do (pc' := 41) rfl rfl ?_
  refine qa_bk_do (pc' := 42) rfl rfl ?_
  refine qa_bk_gi rfl rfl (qa_ds15 hS) rfl ?_
  refine qa_bk_pf rfl rfl (qa_ds15 hR) rfl (qa_fiti _) rfl ?_
  refine qa_bk_do (pc' := 49) rfl rfl ?_
  refine qa_bk_do (pc' := 50) rfl rfl ?_
  refine qa_bk_gi rfl rfl (qa_ds15 hS) rfl ?_
  refine qa_bk_pf rfl rfl (qa_ds15 hR) rfl (qa_fiti _) rfl ?_
  subst h
  exact qa_bk_re rfl rfl rfl
noncomputable def qa_fX0_shareOfHits_26 (R : Nat) (y0 : UInt64) (σ : qa_T) : Option UInt64 :=
    some y0
noncomputable def qa_fX0_shareOfHits (R : Nat) (σ : qa_T) : Option UInt64 :=
    let v1 : Int32 := ((σ.1 (R, 15) 1) + (σ.1 (R, 15) 2))
    if v1 ≤ 0 then
      qa_fX0_shareOfHits_26 R FP.dconst0 σ
    else
      if ¬ qa_nn (FP.ddiv (FP.i2d (σ.1 (R, 15) 1)) (FP.i2d v1)) then none else
      qa_fX0_shareOfHits_26 R (FP.ddiv (FP.i2d (σ.1 (R, 15) 1)) (FP.i2d v1)) σ
set_option maxRecDepth 100000 in
theorem qa_tX0_shareOfHits_26 {L : Nat} {R : Nat} (hR : qa_rg R) {y0 : UInt64} {σ : qa_T} {r : UInt64} (h : qa_fX0_shareOfHits_26 R y0 σ = some r) : qa_Bk (qa_ds L) qa_mX0_shareOfHits 26 [(0, .inl (R, 15))] [.inr (.double y0)] σ (.inl (some (.inr (.double r)))) σ := by
  unfold qa_fX0_shareOfHits_26 at h
  try dsimp only at h
  cases h
  exact qa_bk_re rfl rfl rfl
set_option maxRecDepth 100000 in
theorem qa_tX0_shareOfHits {L : Nat} {R : Nat} (hR : qa_rg R) {σ : qa_T} {r : UInt64} (h : qa_fX0_shareOfHits R σ = some r) : qa_Bk (qa_ds L) qa_mX0_shareOfHits 0 (qa_ag 0 [.inl (R, 15)]) [] σ (.inl (some (.inr (.double r)))) σ := by
  unfold qa_fX0_shareOfHits at h
  try dsimp only at h
  show qa_Bk (qa_ds L) qa_mX0_shareOfHits 0 [(0, .inl (R, 15))] [] σ _ _
  refine qa_bk_do (pc' := 1) rfl rfl ?_
  refine qa_bk_gi rfl rfl (qa_ds15 hR) rfl ?_
  refine qa_bk_do (pc' := 5) rfl rfl ?_
  refine qa_bk_gi rfl rfl (qa_ds15 hR) rfl ?_
  refine qa_bk_do (pc' := 9) rfl rfl ?_
  refine qa_bk_do (pc' := 10) (lv' := [(1, _), (0, _)]) rfl rfl ?_
  refine qa_bk_do (pc' := 11) rfl rfl ?_
  rcases qa_ite h with ⟨hc2, h⟩ | ⟨hc2, h⟩
  · refine qa_bk_1t (a := 25) (b := 14) hc2 rfl rfl ?_
    refine qa_bk_do (pc' := 26) rfl rfl ?_
    exact qa_bk_lw (qa_tX0_shareOfHits_26 hR h) rfl rfl (And.intro rfl (trivial))
  · refine qa_bk_1f (a := 25) (b := 14) hc2 rfl rfl ?_
    refine qa_bk_do (pc' := 15) rfl rfl ?_
    refine qa_bk_gi rfl rfl (qa_ds15 hR) rfl ?_
    refine qa_bk_do (pc' := 19) rfl rfl ?_
    refine qa_bk_do (pc' := 20) rfl rfl ?_
    refine qa_bk_do (pc' := 21) rfl rfl ?_
    rcases qa_ite h with ⟨_, h⟩ | ⟨hc3, h⟩
    · cases h
    refine qa_bk_dd (Decidable.of_not_not hc3) rfl ?_
    refine qa_bk_do (pc' := 26) rfl rfl ?_
    exact qa_bk_lw (qa_tX0_shareOfHits_26 hR h) rfl rfl (And.intro rfl (trivial))
noncomputable def qa_fX9_copyRow_26 (p1 : qa_P) (n1 : Nat) (p2 : qa_P) (n2 : Nat) (σ : qa_T) : Option qa_T :=
    some σ
noncomputable def qa_fX9_copyRow_2 (p1 : qa_P) (n1 : Nat) (p2 : qa_P) (n2 : Nat) : Nat → Int32 → qa_T → Option qa_T
  | 0, _, _ => none
  | n + 1, x2, σ =>
    if Int32.ofNat n1 ≤ x2 then
      qa_fX9_copyRow_26 p1 n1 p2 n2 σ
    else
      if Int32.ofNat n2 ≤ x2 then
        qa_fX9_copyRow_26 p1 n1 p2 n2 σ
      else
        if ¬ qa_in x2 n1 = true then none else
        if ¬ qa_in x2 n2 = true then none else
        let σ5 := qa_wi σ p2 (x2).toNatClampNeg (σ.1 p1 (x2).toNatClampNeg)
        let v6 : Int32 := x2 + Int32.ofInt 1
        qa_fX9_copyRow_2 p1 n1 p2 n2 n v6 σ5
noncomputable def qa_fX9_copyRow (p1 : qa_P) (n1 : Nat) (p2 : qa_P) (n2 : Nat) (σ : qa_T) : Option qa_T :=
    qa_fX9_copyRow_2 p1 n1 p2 n2 qa_fu (Int32.ofInt 0) σ
set_option maxRecDepth 100000 in
theorem qa_tX9_copyRow_26 {L : Nat} {p1 : qa_P} {n1 : Nat} {p2 : qa_P} {n2 : Nat} (hp1 : qa_ds L p1 = .inr (0, n1, qa_n0)) (hn1 : n1 < 2147483648) (hp2 : qa_ds L p2 = .inr (0, n2, qa_n0)) (hn2 : n2 < 2147483648) {σ : qa_T} {r : qa_T} (h : qa_fX9_copyRow_26 p1 n1 p2 n2 σ = some r) : qa_Bk (qa_ds L) qa_mX9_copyRow 26 [(0, .inl p1), (1, .inl p2)] [] σ (.inl none) r := by
  unfold qa_fX9_copyRow_26 at h
  try dsimp only at h
  cases h
  exact qa_bk_re rfl rfl rfl
set_option maxRecDepth 100000 in
theorem qa_tX9_copyRow_2 {L : Nat} {p1 : qa_P} {n1 : Nat} {p2 : qa_P} {n2 : Nat} (hp1 : qa_ds L p1 = .inr (0, n1, qa_n0)) (hn1 : n1 < 2147483648) (hp2 : qa_ds L p2 = .inr (0, n2, qa_n0)) (hn2 : n2 < 2147483648) : ∀ (n : Nat) (x2 : Int32) (σ : qa_T) (r : qa_T), qa_fX9_copyRow_2 p1 n1 p2 n2 n x2 σ = some r → qa_Bk (qa_ds L) qa_mX9_copyRow 2 [(0, .inl p1), (1, .inl p2), (2, .inr (.int x2))] [] σ (.inl none) r := by
  intro n
  induction n with
  | zero => intro x2 σ r h; cases h
  | succ n ih =>
    intro x2 σ r h
    unfold qa_fX9_copyRow_2 at h
    try dsimp only at h
    refine qa_bk_do (pc' := 3) rfl rfl ?_
    refine qa_bk_do (pc' := 4) rfl rfl ?_
    refine qa_bk_al rfl hp1 (Or.inl (by decide)) ?_
    rcases qa_ite h with ⟨hc1, h⟩ | ⟨hc1, h⟩
    · refine qa_bk_1t (a := 26) (b := 8) hc1 rfl rfl ?_
      exact qa_bk_lw (qa_tX9_copyRow_26 hp1 hn1 hp2 hn2 h) rfl rfl (And.intro rfl (And.intro rfl (trivial)))
    · refine qa_bk_1f (a := 26) (b := 8) hc1 rfl rfl ?_
      refine qa_bk_do (pc' := 9) rfl rfl ?_
      refine qa_bk_do (pc' := 10) rfl rfl ?_
      refine qa_bk_al rfl hp2 (Or.inl (by decide)) ?_
      rcases qa_ite h with ⟨hc2, h⟩ | ⟨hc2, h⟩
      · refine qa_bk_1t (a := 26) (b := 14) hc2 rfl rfl ?_
        exact qa_bk_lw (qa_tX9_copyRow_26 hp1 hn1 hp2 hn2 h) rfl rfl (And.intro rfl (And.intro rfl (trivial)))
      · refine qa_bk_1f (a := 26) (b := 14) hc2 rfl rfl ?_
        refine qa_bk_do (pc' := 15) rfl rfl ?_
        refine qa_bk_do (pc' := 16) rfl rfl ?_
        refine qa_bk_do (pc' := 17) rfl rfl ?_
        refine qa_bk_do (pc' := 18) rfl rfl ?_
        rcases qa_ite h with ⟨_, h⟩ | ⟨hc3, h⟩
        · cases h
        refine qa_bk_ia rfl hp1 (Or.inl rfl) (Decidable.of_not_not hc3) ?_
        rcases qa_ite h with ⟨_, h⟩ | ⟨hc4, h⟩
        · cases h
        refine qa_bk_is rfl hp2 (Decidable.of_not_not hc4) ?_
        refine qa_bk_do (pc' := 23) (lv' := [(2, _), (0, _), (1, _)]) rfl rfl ?_
        refine qa_bk_do (pc' := 2) rfl rfl ?_
        exact qa_bk_lw (ih _ _ _ h) rfl rfl (And.intro rfl (And.intro rfl (And.intro rfl (trivial))))
set_option maxRecDepth 100000 in
theorem qa_tX9_copyRow {L : Nat} {p1 : qa_P} {n1 : Nat} {p2 : qa_P} {n2 : Nat} (hp1 : qa_ds L p1 = .inr (0, n1, qa_n0)) (hn1 : n1 < 2147483648) (hp2 : qa_ds L p2 = .inr (0, n2, qa_n0)) (hn2 : n2 < 2147483648) {σ : qa_T} {r : qa_T} (h : qa_fX9_copyRow p1 n1 p2 n2 σ = some r) : qa_Bk (qa_ds L) qa_mX9_copyRow 0 (qa_ag 0 [.inl p1, .inl p2]) [] σ (.inl none) r := by
  unfold qa_fX9_copyRow at h
  try dsimp only at h
  show qa_Bk (qa_ds L) qa_mX9_copyRow 0 [(0, .inl p1), (1, .inl p2)] [] σ _ _
  refine qa_bk_do (pc' := 1) rfl rfl ?_
  refine qa_bk_do (pc' := 2) (lv' := [(2, _), (0, _), (1, _)]) rfl rfl ?_
  exact qa_bk_lw (qa_tX9_copyRow_2 hp1 hn1 hp2 hn2 _ _ _ _ h) rfl rfl (And.intro rfl (And.intro rfl (And.intro rfl (trivial))))
noncomputable def qa_fX6_copyFrom_112 (R : Nat) (S : Nat) (σ : qa_T) : Option qa_T :=
    let σ15 := qa_wi σ (R, 1) 8 (σ.1 (S, 1) 8)
    some σ15
noncomputable def qa_fX6_copyFrom_76 (R : Nat) (S : Nat) : Nat → Int32 → qa_T → Option qa_T
  | 0, _, _ => none
  | n + 1, x2, σ =>
    if Int32.ofNat 16 ≤ x2 then
      qa_fX6_copyFrom_112 R S σ
    else
      if Int32.ofNat 16 ≤ x2 then
        qa_fX6_copyFrom_112 R S σ
      else
        if ¬ qa_in x2 16 = true then none else
        if ¬ qa_in x2 16 = true then none else
        if ¬ ((σ.1 (S, 5) (x2).toNatClampNeg) = 0 ∨ (σ.1 (S, 5) (x2).toNatClampNeg) = 1) then none else
        let σ20 := qa_wi σ (R, 5) (x2).toNatClampNeg (σ.1 (S, 5) (x2).toNatClampNeg)
        let v21 : Int32 := x2 + Int32.ofInt 1
        qa_fX6_copyFrom_76 R S n v21 σ20
noncomputable def qa_fX6_copyFrom (R : Nat) (S : Nat) (σ : qa_T) : Option qa_T :=
    let σ1 := qa_wi σ (R, 1) 0 (σ.1 (S, 1) 0)
    (qa_fX9_copyRow (S, 2) 16 (R, 2) 16 σ1).bind fun c2 =>
    (qa_fX9_copyRow (S, 3) 16 (R, 3) 16 c2).bind fun c4 =>
    (qa_fX9_copyRow (S, 4) 16 (R, 4) 16 c4).bind fun c6 =>
    (qa_fX9_copyRow (S, 6) 16 (R, 6) 16 c6).bind fun c8 =>
    (qa_fX9_copyRow (S, 7) 16 (R, 7) 16 c8).bind fun c10 =>
    (qa_fX9_copyRow (S, 8) 16 (R, 8) 16 c10).bind fun c12 =>
    qa_fX6_copyFrom_76 R S qa_fu (Int32.ofInt 0) c12
set_option maxRecDepth 100000 in
theorem qa_tX6_copyFrom_112 {L : Nat} {R : Nat} {S : Nat} (hR : qa_rg R) (hS : qa_rg S) {σ : qa_T} {r : qa_T} (h : qa_fX6_copyFrom_112 R S σ = some r) : qa_Bk (qa_ds L) qa_mX6_copyFrom 112 [(0, .inl (R, 1)), (1, .inl (S, 1))] [] σ (.inl none) r := by
  unfold qa_fX6_copyFrom_112 at h
  try dsimp only at h
  refine qa_bk_do (pc' := 113) rfl rfl ?_
  refine qa_bk_do (pc' := 114) rfl rfl ?_
  refine qa_bk_gi rfl rfl (qa_ds1 hS) rfl ?_
  refine qa_bk_pf rfl rfl (qa_ds1 hR) rfl (qa_fiti _) rfl ?_
  cases h
  exact qa_bk_re rfl rfl rfl
set_option maxRecDepth 100000 in
theorem qa_tX6_copyFrom_76 {L : Nat} {R : Nat} {S : Nat} (hR : qa_rg R) (hS : qa_rg S) : ∀ (n : Nat) (x2 : Int32) (σ : qa_T) (r : qa_T), qa_fX6_copyFrom_76 R S n x2 σ = some r → qa_Bk (qa_ds L) qa_mX6_copyFrom 76 [(0, .inl (R, 1)), (1, .inl (S, 1)), (2, .inr (.int x2))] [] σ (.inl none) r := by
  intro n
  induction n with
  | zero => intro x2 σ r h; cases h
  | succ n ih =>
    intro x2 σ r h
    unfold qa_fX6_copyFrom_76 at h
    try dsimp only at h
    refine qa_bk_do (pc' := 77) rfl rfl ?_
    refine qa_bk_do (pc' := 78) rfl rfl ?_
    refine qa_bk_gr rfl rfl (qa_ds1 hR) rfl ?_
    refine qa_bk_al rfl (qa_ds5 hR) (Or.inl (by decide)) ?_
    rcases qa_ite h with ⟨hc14, h⟩ | ⟨hc14, h⟩
    · refine qa_bk_1t (a := 112) (b := 85) hc14 rfl rfl ?_
      exact qa_bk_lw (qa_tX6_copyFrom_112 hR hS h) rfl rfl (And.intro rfl (And.intro rfl (trivial)))
    · refine qa_bk_1f (a := 112) (b := 85) hc14 rfl rfl ?_
      refine qa_bk_do (pc' := 86) rfl rfl ?_
      refine qa_bk_do (pc' := 87) rfl rfl ?_
      refine qa_bk_gr rfl rfl (qa_ds1 hS) rfl ?_
      refine qa_bk_al rfl (qa_ds5 hS) (Or.inl (by decide)) ?_
      rcases qa_ite h with ⟨hc16, h⟩ | ⟨hc16, h⟩
      · refine qa_bk_1t (a := 112) (b := 94) hc16 rfl rfl ?_
        exact qa_bk_lw (qa_tX6_copyFrom_112 hR hS h) rfl rfl (And.intro rfl (And.intro rfl (trivial)))
      · refine qa_bk_1f (a := 112) (b := 94) hc16 rfl rfl ?_
        refine qa_bk_do (pc' := 95) rfl rfl ?_
        refine qa_bk_gr rfl rfl (qa_ds1 hR) rfl ?_
        refine qa_bk_do (pc' := 99) rfl rfl ?_
        refine qa_bk_do (pc' := 100) rfl rfl ?_
        refine qa_bk_gr rfl rfl (qa_ds1 hS) rfl ?_
        refine qa_bk_do (pc' := 104) rfl rfl ?_
        rcases qa_ite h with ⟨_, h⟩ | ⟨hc17, h⟩
        · cases h
        refine qa_bk_ba rfl (qa_ds5 hS) (Decidable.of_not_not hc17) ?_
        rcases qa_ite h with ⟨_, h⟩ | ⟨hc18, h⟩
        · cases h
        rcases qa_ite h with ⟨_, h⟩ | ⟨hc19, h⟩
        · cases h
        refine qa_bk_bs rfl (qa_ds5 hR) (Decidable.of_not_not hc18) (Decidable.of_not_not hc19) ?_
        refine qa_bk_do (pc' := 109) (lv' := [(2, _), (0, _), (1, _)]) rfl rfl ?_
        refine qa_bk_do (pc' := 76) rfl rfl ?_
        exact qa_bk_lw (ih _ _ _ h) rfl rfl (And.intro rfl (And.intro rfl (And.intro rfl (trivial))))
set_option maxRecDepth 100000 in
theorem qa_tX6_copyFrom {L : Nat} {R : Nat} {S : Nat} (hR : qa_rg R) (hS : qa_rg S) {σ : qa_T} {r : qa_T} (h : qa_fX6_copyFrom R S σ = some r) : qa_Bk (qa_ds L) qa_mX6_copyFrom 0 (qa_ag 0 [.inl (R, 1), .inl (S, 1)]) [] σ (.inl none) r := by
  unfold qa_fX6_copyFrom at h
  try dsimp only at h
  show qa_Bk (qa_ds L) qa_mX6_copyFrom 0 [(0, .inl (R, 1)), (1, .inl (S, 1))] [] σ _ _
  refine qa_bk_do (pc' := 1) rfl rfl ?_
  refine qa_bk_do (pc' := 2) rfl rfl ?_
  refine qa_bk_gi rfl rfl (qa_ds1 hS) rfl ?_
  refine qa_bk_pf rfl rfl (qa_ds1 hR) rfl (qa_fiti _) rfl ?_
  refine qa_bk_do (pc' := 9) rfl rfl ?_
  refine qa_bk_gr rfl rfl (qa_ds1 hS) rfl ?_
  refine qa_bk_do (pc' := 13) rfl rfl ?_
  refine qa_bk_gr rfl rfl (qa_ds1 hR) rfl ?_
  obtain ⟨c2, hc3, h⟩ := Option.bind_eq_some_iff.mp h
  refine qa_bk_cs (qa_tX9_copyRow (qa_ds2 hS) (Nat.le_of_ble_eq_true rfl) (qa_ds2 hR) (Nat.le_of_ble_eq_true rfl) hc3) rfl rfl rfl rfl rfl rfl rfl ?_
  refine qa_bk_do (pc' := 20) rfl rfl ?_
  refine qa_bk_gr rfl rfl (qa_ds1 hS) rfl ?_
  refine qa_bk_do (pc' := 24) rfl rfl ?_
  refine qa_bk_gr rfl rfl (qa_ds1 hR) rfl ?_
  obtain ⟨c4, hc5, h⟩ := Option.bind_eq_some_iff.mp h
  refine qa_bk_cs (qa_tX9_copyRow (qa_ds3 hS) (Nat.le_of_ble_eq_true rfl) (qa_ds3 hR) (Nat.le_of_ble_eq_true rfl) hc5) rfl rfl rfl rfl rfl rfl rfl ?_
  refine qa_bk_do (pc' := 31) rfl rfl ?_
  refine qa_bk_gr rfl rfl (qa_ds1 hS) rfl ?_
  refine qa_bk_do (pc' := 35) rfl rfl ?_
  refine qa_bk_gr rfl rfl (qa_ds1 hR) rfl ?_
  obtain ⟨c6, hc7, h⟩ := Option.bind_eq_some_iff.mp h
  refine qa_bk_cs (qa_tX9_copyRow (qa_ds4 hS) (Nat.le_of_ble_eq_true rfl) (qa_ds4 hR) (Nat.le_of_ble_eq_true rfl) hc7) rfl rfl rfl rfl rfl rfl rfl ?_
  refine qa_bk_do (pc' := 42) rfl rfl ?_
  refine qa_bk_gr rfl rfl (qa_ds1 hS) rfl ?_
  refine qa_bk_do (pc' := 46) rfl rfl ?_
  refine qa_bk_gr rfl rfl (qa_ds1 hR) rfl ?_
  obtain ⟨c8, hc9, h⟩ := Option.bind_eq_some_iff.mp h
  refine qa_bk_cs (qa_tX9_copyRow (qa_ds6 hS) (Nat.le_of_ble_eq_true rfl) (qa_ds6 hR) (Nat.le_of_ble_eq_true rfl) hc9) rfl rfl rfl rfl rfl rfl rfl ?_
  refine qa_bk_do (pc' := 53) rfl rfl ?_
  refine qa_bk_gr rfl rfl (qa_ds1 hS) rfl ?_
  refine qa_bk_do (pc' := 57) rfl rfl ?_
  refine qa_bk_gr rfl rfl (qa_ds1 hR) rfl ?_
  obtain ⟨c10, hc11, h⟩ := Option.bind_eq_some_iff.mp h
  refine qa_bk_cs (qa_tX9_copyRow (qa_ds7 hS) (Nat.le_of_ble_eq_true rfl) (qa_ds7 hR) (Nat.le_of_ble_eq_true rfl) hc11) rfl rfl rfl rfl rfl rfl rfl ?_
  refine qa_bk_do (pc' := 64) rfl rfl ?_
  refine qa_bk_gr rfl rfl (qa_ds1 hS) rfl ?_
  refine qa_bk_do (pc' := 68) rfl rfl ?_
  refine qa_bk_gr rfl rfl (qa_ds1 hR) rfl ?_
  obtain ⟨c12, hc13, h⟩ := Option.bind_eq_some_iff.mp h
  refine qa_bk_cs (qa_tX9_copyRow (qa_ds8 hS) (Nat.le_of_ble_eq_true rfl) (qa_ds8 hR) (Nat.le_of_ble_eq_true rfl) hc13) rfl rfl rfl rfl rfl rfl rfl ?_
  refine qa_bk_do (pc' := 75) rfl rfl ?_
  refine qa_bk_do (pc' := 76) (lv' := [(2, _), (0, _), (1, _)]) rfl rfl ?_
  exact qa_bk_lw (qa_tX6_copyFrom_76 hR hS _ _ _ _ h) rfl rfl (And.intro rfl (And.intro rfl (And.intro rfl (trivial))))
noncomputable def qa_fX3_copyFrom (R : Nat) (S : Nat) (σ : qa_T) : Option qa_T :=
    let σ1 := qa_wi σ (R, 9) 0 (σ.1 (S, 9) 0)
    let σ2 := qa_wi σ1 (R, 9) 1 (σ1.1 (S, 9) 1)
    (qa_fX9_copyRow (S, 10) 24 (R, 10) 24 σ2).bind fun c3 =>
    some c3
set_option maxRecDepth 100000 in
theorem qa_tX3_copyFrom {L : Nat} {R : Nat} {S : Nat} (hR : qa_rg R) (hS : qa_rg S) {σ : qa_T} {r : qa_T} (h : qa_fX3_copyFrom R S σ = some r) : qa_Bk (qa_ds L) qa_mX3_copyFrom 0 (qa_ag 0 [.inl (R, 9), .inl (S, 9)]) [] σ (.inl none) r := by
  unfold qa_fX3_copyFrom at h
  try dsimp only at h
  show qa_Bk (qa_ds L) qa_mX3_copyFrom 0 [(0, .inl (R, 9)), (1, .inl (S, 9))] [] σ _ _
  refine qa_bk_do (pc' := 1) rfl rfl ?_
  refine qa_bk_do (pc' := 2) rfl rfl ?_
  refine qa_bk_gi rfl rfl (qa_ds9 hS) rfl ?_
  refine qa_bk_pf rfl rfl (qa_ds9 hR) rfl (qa_fiti _) rfl ?_
  refine qa_bk_do (pc' := 9) rfl rfl ?_
  refine qa_bk_do (pc' := 10) rfl rfl ?_
  refine qa_bk_gi rfl rfl (qa_ds9 hS) rfl ?_
  refine qa_bk_pf rfl rfl (qa_ds9 hR) rfl (qa_fiti _) rfl ?_
  refine qa_bk_do (pc' := 17) rfl rfl ?_
  refine qa_bk_gr rfl rfl (qa_ds9 hS) rfl ?_
  refine qa_bk_do (pc' := 21) rfl rfl ?_
  refine qa_bk_gr rfl rfl (qa_ds9 hR) rfl ?_
  obtain ⟨c3, hc4, h⟩ := Option.bind_eq_some_iff.mp h
  refine qa_bk_cs (qa_tX9_copyRow (qa_ds10 hS) (Nat.le_of_ble_eq_true rfl) (qa_ds10 hR) (Nat.le_of_ble_eq_true rfl) hc4) rfl rfl rfl rfl rfl rfl rfl ?_
  cases h
  exact qa_bk_re rfl rfl rfl
noncomputable def qa_fX7_copyFrom (R : Nat) (S : Nat) (σ : qa_T) : qa_T :=
    let σ1 := qa_wi σ (R, 11) 0 (σ.1 (S, 11) 0)
    let σ2 := qa_wi σ1 (R, 11) 1 (σ1.1 (S, 11) 1)
    let σ3 := qa_wi σ2 (R, 11) 2 (σ2.1 (S, 11) 2)
    let σ4 := qa_wi σ3 (R, 11) 3 (σ3.1 (S, 11) 3)
    let σ5 := qa_wi σ4 (R, 11) 4 (σ4.1 (S, 11) 4)
    σ5
set_option maxRecDepth 100000 in
theorem qa_tX7_copyFrom {L : Nat} {R : Nat} {S : Nat} (hR : qa_rg R) (hS : qa_rg S) {σ : qa_T} {r : qa_T} (h : qa_fX7_copyFrom R S σ = r) : qa_Bk (qa_ds L) qa_mX7_copyFrom 0 (qa_ag 0 [.inl (R, 11), .inl (S, 11)]) [] σ (.inl none) r := by
  unfold qa_fX7_copyFrom at h
  try dsimp only at h
  show qa_Bk (qa_ds L) qa_mX7_copyFrom 0 [(0, .inl (R, 11)), (1, .inl (S, 11))] [] σ _ _
  refine qa_bk_do (pc' := 1) rfl rfl ?_
  refine qa_bk_do (pc' := 2) rfl rfl ?_
  refine qa_bk_gi rfl rfl (qa_ds11 hS) rfl ?_
  refine qa_bk_pf rfl rfl (qa_ds11 hR) rfl (qa_fiti _) rfl ?_
  refine qa_bk_do (pc' := 9) rfl rfl ?_
  refine qa_bk_do (pc' := 10) rfl rfl ?_
  refine qa_bk_gi rfl rfl (qa_ds11 hS) rfl ?_
  refine qa_bk_pf rfl rfl (qa_ds11 hR) rfl (qa_fiti _) rfl ?_
  refine qa_bk_do (pc' := 17) rfl rfl ?_
  refine qa_bk_do (pc' := 18) rfl rfl ?_
  refine qa_bk_gi rfl rfl (qa_ds11 hS) rfl ?_
  refine qa_bk_pf rfl rfl (qa_ds11 hR) rfl (qa_fiti _) rfl ?_
  refine qa_bk_do (pc' := 25) rfl rfl ?_
  refine qa_bk_do (pc' := 26) rfl rfl ?_
  refine qa_bk_gi rfl rfl (qa_ds11 hS) rfl ?_
  refine qa_bk_pf rfl rfl (qa_ds11 hR) rfl (qa_fiti _) rfl ?_
  refine qa_bk_do (pc' := 33) rfl rfl ?_
  refine qa_bk_do (pc' := 34) rfl rfl ?_
  refine qa_bk_gi rfl rfl (qa_ds11 hS) rfl ?_
  refine qa_bk_pf rfl rfl (qa_ds11 hR) rfl (qa_fiti _) rfl ?_
  subst h
  exact qa_bk_re rfl rfl rfl
noncomputable def qa_fX2_copyFrom (R : Nat) (S : Nat) (σ : qa_T) : Option qa_T :=
    let σ1 := qa_wi σ (R, 12) 0 (σ.1 (S, 12) 0)
    let σ2 := qa_wi σ1 (R, 12) 1 (σ1.1 (S, 12) 1)
    let σ3 := qa_wi σ2 (R, 12) 2 (σ2.1 (S, 12) 2)
    (qa_fX9_copyRow (S, 13) 16 (R, 13) 16 σ3).bind fun c4 =>
    let σ6 := qa_wi c4 (R, 12) 4 (c4.1 (S, 12) 4)
    some σ6
set_option maxRecDepth 100000 in
theorem qa_tX2_copyFrom {L : Nat} {R : Nat} {S : Nat} (hR : qa_rg R) (hS : qa_rg S) {σ : qa_T} {r : qa_T} (h : qa_fX2_copyFrom R S σ = some r) : qa_Bk (qa_ds L) qa_mX2_copyFrom 0 (qa_ag 0 [.inl (R, 12), .inl (S, 12)]) [] σ (.inl none) r := by
  unfold qa_fX2_copyFrom at h
  try dsimp only at h
  show qa_Bk (qa_ds L) qa_mX2_copyFrom 0 [(0, .inl (R, 12)), (1, .inl (S, 12))] [] σ _ _
  refine qa_bk_do (pc' := 1) rfl rfl ?_
  refine qa_bk_do (pc' := 2) rfl rfl ?_
  refine qa_bk_gi rfl rfl (qa_ds12 hS) rfl ?_
  refine qa_bk_pf rfl rfl (qa_ds12 hR) rfl (qa_fiti _) rfl ?_
  refine qa_bk_do (pc' := 9) rfl rfl ?_
  refine qa_bk_do (pc' := 10) rfl rfl ?_
  refine qa_bk_gi rfl rfl (qa_ds12 hS) rfl ?_
  refine qa_bk_pf rfl rfl (qa_ds12 hR) rfl (qa_fiti _) rfl ?_
  refine qa_bk_do (pc' := 17) rfl rfl ?_
  refine qa_bk_do (pc' := 18) rfl rfl ?_
  refine qa_bk_gi rfl rfl (qa_ds12 hS) rfl ?_
  refine qa_bk_pf rfl rfl (qa_ds12 hR) rfl (qa_fiti _) rfl ?_
  refine qa_bk_do (pc' := 25) rfl rfl ?_
  refine qa_bk_gr rfl rfl (qa_ds12 hS) rfl ?_
  refine qa_bk_do (pc' := 29) rfl rfl ?_
  refine qa_bk_gr rfl rfl (qa_ds12 hR) rfl ?_
  obtain ⟨c4, hc5, h⟩ := Option.bind_eq_some_iff.mp h
  refine qa_bk_cs (qa_tX9_copyRow (qa_ds13 hS) (Nat.le_of_ble_eq_true rfl) (qa_ds13 hR) (Nat.le_of_ble_eq_true rfl) hc5) rfl rfl rfl rfl rfl rfl rfl ?_
  refine qa_bk_do (pc' := 36) rfl rfl ?_
  refine qa_bk_do (pc' := 37) rfl rfl ?_
  refine qa_bk_gi rfl rfl (qa_ds12 hS) rfl ?_
  refine qa_bk_pf rfl rfl (qa_ds12 hR) rfl (qa_fiti _) rfl ?_
  cases h
  exact qa_bk_re rfl rfl rfl
noncomputable def qa_fX4_copyFrom (R : Nat) (S : Nat) (σ : qa_T) : qa_T :=
    let σ1 := qa_wi σ (R, 14) 0 (σ.1 (S, 14) 0)
    let σ2 := qa_wi σ1 (R, 14) 1 (σ1.1 (S, 14) 1)
    let σ3 := qa_wi σ2 (R, 14) 2 (σ2.1 (S, 14) 2)
    let σ4 := qa_wi σ3 (R, 14) 3 (σ3.1 (S, 14) 3)
    let σ5 := qa_wi σ4 (R, 14) 4 (σ4.1 (S, 14) 4)
    σ5
set_option maxRecDepth 100000 in
theorem qa_tX4_copyFrom {L : Nat} {R : Nat} {S : Nat} (hR : qa_rg R) (hS : qa_rg S) {σ : qa_T} {r : qa_T} (h : qa_fX4_copyFrom R S σ = r) : qa_Bk (qa_ds L) qa_mX4_copyFrom 0 (qa_ag 0 [.inl (R, 14), .inl (S, 14)]) [] σ (.inl none) r := by
  unfold qa_fX4_copyFrom at h
  try dsimp only at h
  show qa_Bk (qa_ds L) qa_mX4_copyFrom 0 [(0, .inl (R, 14)), (1, .inl (S, 14))] [] σ _ _
  refine qa_bk_do (pc' := 1) rfl rfl ?_
  refine qa_bk_do (pc' := 2) rfl rfl ?_
  refine qa_bk_gi rfl rfl (qa_ds14 hS) rfl ?_
  refine qa_bk_pf rfl rfl (qa_ds14 hR) rfl (qa_fiti _) rfl ?_
  refine qa_bk_do (pc' := 9) rfl rfl ?_
  refine qa_bk_do (pc' := 10) rfl rfl ?_
  refine qa_bk_gi rfl rfl (qa_ds14 hS) rfl ?_
  refine qa_bk_pf rfl rfl (qa_ds14 hR) rfl (qa_fiti _) rfl ?_
  refine qa_bk_do (pc' := 17) rfl rfl ?_
  refine qa_bk_do (pc' := 18) rfl rfl ?_
  refine qa_bk_gi rfl rfl (qa_ds14 hS) rfl ?_
  refine qa_bk_pf rfl rfl (qa_ds14 hR) rfl (qa_fiti _) rfl ?_
  refine qa_bk_do (pc' := 25) rfl rfl ?_
  refine qa_bk_do (pc' := 26) rfl rfl ?_
  refine qa_bk_gi rfl rfl (qa_ds14 hS) rfl ?_
  refine qa_bk_pf rfl rfl (qa_ds14 hR) rfl (qa_fiti _) rfl ?_
  refine qa_bk_do (pc' := 33) rfl rfl ?_
  refine qa_bk_do (pc' := 34) rfl rfl ?_
  refine qa_bk_gi rfl rfl (qa_ds14 hS) rfl ?_
  refine qa_bk_pf rfl rfl (qa_ds14 hR) rfl (qa_fiti _) rfl ?_
  subst h
  exact qa_bk_re rfl rfl rfl
noncomputable def qa_fX1_copyFrom (R : Nat) (S : Nat) (σ : qa_T) : Option qa_T :=
    (qa_fX6_copyFrom R S σ).bind fun c1 =>
    (qa_fX3_copyFrom R S c1).bind fun c3 =>
    let σ5 := qa_fX7_copyFrom R S c3
    (qa_fX2_copyFrom R S σ5).bind fun c6 =>
    let σ8 := qa_fX4_copyFrom R S c6
    let σ9 := qa_fX0_copyFrom R S σ8
    some σ9
set_option maxRecDepth 100000 in
theorem qa_tX1_copyFrom {L : Nat} {R : Nat} {S : Nat} (hR : qa_rg R) (hS : qa_rg S) {σ : qa_T} {r : qa_T} (h : qa_fX1_copyFrom R S σ = some r) : qa_Bk (qa_ds L) qa_mX1_copyFrom 0 (qa_ag 0 [.inl (R, 0), .inl (S, 0)]) [] σ (.inl none) r := by
  unfold qa_fX1_copyFrom at h
  try dsimp only at h
  show qa_Bk (qa_ds L) qa_mX1_copyFrom 0 [(0, .inl (R, 0)), (1, .inl (S, 0))] [] σ _ _
  refine qa_bk_do (pc' := 1) rfl rfl ?_
  refine qa_bk_gr rfl rfl (qa_ds0 hR) rfl ?_
  refine qa_bk_do (pc' := 5) rfl rfl ?_
  refine qa_bk_gr rfl rfl (qa_ds0 hS) rfl ?_
  obtain ⟨c1, hc2, h⟩ := Option.bind_eq_some_iff.mp h
  refine qa_bk_cv (qa_tX6_copyFrom hR hS hc2) rfl rfl rfl rfl rfl rfl rfl (qa_ds1 hR) ?_
  refine qa_bk_do (pc' := 12) rfl rfl ?_
  refine qa_bk_gr rfl rfl (qa_ds0 hR) rfl ?_
  refine qa_bk_do (pc' := 16) rfl rfl ?_
  refine qa_bk_gr rfl rfl (qa_ds0 hS) rfl ?_
  obtain ⟨c3, hc4, h⟩ := Option.bind_eq_some_iff.mp h
  refine qa_bk_cv (qa_tX3_copyFrom hR hS hc4) rfl rfl rfl rfl rfl rfl rfl (qa_ds9 hR) ?_
  refine qa_bk_do (pc' := 23) rfl rfl ?_
  refine qa_bk_gr rfl rfl (qa_ds0 hR) rfl ?_
  refine qa_bk_do (pc' := 27) rfl rfl ?_
  refine qa_bk_gr rfl rfl (qa_ds0 hS) rfl ?_
  refine qa_bk_cv (qa_tX7_copyFrom hR hS rfl) rfl rfl rfl rfl rfl rfl rfl (qa_ds11 hR) ?_
  refine qa_bk_do (pc' := 34) rfl rfl ?_
  refine qa_bk_gr rfl rfl (qa_ds0 hR) rfl ?_
  refine qa_bk_do (pc' := 38) rfl rfl ?_
  refine qa_bk_gr rfl rfl (qa_ds0 hS) rfl ?_
  obtain ⟨c6, hc7, h⟩ := Option.bind_eq_some_iff.mp h
  refine qa_bk_cv (qa_tX2_copyFrom hR hS hc7) rfl rfl rfl rfl rfl rfl rfl (qa_ds12 hR) ?_
  refine qa_bk_do (pc' := 45) rfl rfl ?_
  refine qa_bk_gr rfl rfl (qa_ds0 hR) rfl ?_
  refine qa_bk_do (pc' := 49) rfl rfl ?_
  refine qa_bk_gr rfl rfl (qa_ds0 hS) rfl ?_
  refine qa_bk_cv (qa_tX4_copyFrom hR hS rfl) rfl rfl rfl rfl rfl rfl rfl (qa_ds14 hR) ?_
  refine qa_bk_do (pc' := 56) rfl rfl ?_
  refine qa_bk_gr rfl rfl (qa_ds0 hR) rfl ?_
  refine qa_bk_do (pc' := 60) rfl rfl ?_
  refine qa_bk_gr rfl rfl (qa_ds0 hS) rfl ?_
  refine qa_bk_cv (qa_tX0_copyFrom hR hS rfl) rfl rfl rfl rfl rfl rfl rfl (qa_ds15 hR) ?_
  cases h
  exact qa_bk_re rfl rfl rfl
noncomputable def qa_fX1_mayGoOn_25 (R : Nat) (σ : qa_T) : Bool :=
    false
noncomputable def qa_fX1_mayGoOn (R : Nat) (σ : qa_T) : Bool :=
    if (σ.1 (R, 9) 0) ≤ 0 then
      qa_fX1_mayGoOn_25 R σ
    else
      if ¬ (σ.1 (R, 11) 4) = (Int32.ofInt (-1)) then
        qa_fX1_mayGoOn_25 R σ
      else
        true
set_option maxRecDepth 100000 in
theorem qa_tX1_mayGoOn_25 {L : Nat} {R : Nat} (hR : qa_rg R) {σ : qa_T} {r : Bool} (h : qa_fX1_mayGoOn_25 R σ = r) : qa_Bk (qa_ds L) qa_mX1_mayGoOn 25 [(0, .inl (R, 0))] [] σ (.inl (some (.inr (.int (qa_bi r))))) σ := by
  unfold qa_fX1_mayGoOn_25 at h
  try dsimp only at h
  refine qa_bk_do (pc' := 26) rfl rfl ?_
  subst h
  exact qa_bk_rb rfl rfl rfl
set_option maxRecDepth 100000 in
theorem qa_tX1_mayGoOn {L : Nat} {R : Nat} (hR : qa_rg R) {σ : qa_T} {r : Bool} (h : qa_fX1_mayGoOn R σ = r) : qa_Bk (qa_ds L) qa_mX1_mayGoOn 0 (qa_ag 0 [.inl (R, 0)]) [] σ (.inl (some (.inr (.int (qa_bi r))))) σ := by
  unfold qa_fX1_mayGoOn at h
  try dsimp only at h
  show qa_Bk (qa_ds L) qa_mX1_mayGoOn 0 [(0, .inl (R, 0))] [] σ _ _
  refine qa_bk_do (pc' := 1) rfl rfl ?_
  refine qa_bk_gr rfl rfl (qa_ds0 hR) rfl ?_
  refine qa_bk_gi rfl rfl (qa_ds9 hR) rfl ?_
  rcases qa_ite h with ⟨hc1, h⟩ | ⟨hc1, h⟩
  · refine qa_bk_1t (a := 25) (b := 10) hc1 rfl rfl ?_
    exact qa_bk_lw (qa_tX1_mayGoOn_25 hR h) rfl rfl (And.intro rfl (trivial))
  · refine qa_bk_1f (a := 25) (b := 10) hc1 rfl rfl ?_
    refine qa_bk_do (pc' := 11) rfl rfl ?_
    refine qa_bk_gr rfl rfl (qa_ds0 hR) rfl ?_
    refine qa_bk_gi rfl rfl (qa_ds11 hR) rfl ?_
    refine qa_bk_do (pc' := 18) rfl rfl ?_
    rcases qa_ite h with ⟨hc2, h⟩ | ⟨hc2, h⟩
    · refine qa_bk_1t (a := 25) (b := 21) hc2 rfl rfl ?_
      exact qa_bk_lw (qa_tX1_mayGoOn_25 hR h) rfl rfl (And.intro rfl (trivial))
    · refine qa_bk_1f (a := 25) (b := 21) hc2 rfl rfl ?_
      refine qa_bk_do (pc' := 22) rfl rfl ?_
      refine qa_bk_do (pc' := 26) rfl rfl ?_
      subst h
      exact qa_bk_rb rfl rfl rfl
noncomputable def qa_fX6_isReady_26 (R : Nat) (a1 : Int32) (σ : qa_T) : Bool :=
    false
noncomputable def qa_fX6_isReady (R : Nat) (a1 : Int32) (σ : qa_T) : Bool :=
    if a1 < 0 then
      qa_fX6_isReady_26 R a1 σ
    else
      if Int32.ofNat 16 ≤ a1 then
        qa_fX6_isReady_26 R a1 σ
      else
        if (σ.1 (R, 5) (a1).toNatClampNeg) = 0 then
          qa_fX6_isReady_26 R a1 σ
        else
          true
set_option maxRecDepth 100000 in
theorem qa_tX6_isReady_26 {L : Nat} {R : Nat} {a1 : Int32} (hR : qa_rg R) {σ : qa_T} {r : Bool} (h : qa_fX6_isReady_26 R a1 σ = r) : qa_Bk (qa_ds L) qa_mX6_isReady 26 [(0, .inl (R, 1)), (1, .inr (.int a1))] [] σ (.inl (some (.inr (.int (qa_bi r))))) σ := by
  unfold qa_fX6_isReady_26 at h
  try dsimp only at h
  refine qa_bk_do (pc' := 27) rfl rfl ?_
  subst h
  exact qa_bk_rb rfl rfl rfl
set_option maxRecDepth 100000 in
theorem qa_tX6_isReady {L : Nat} {R : Nat} {a1 : Int32} (hR : qa_rg R) {σ : qa_T} {r : Bool} (h : qa_fX6_isReady R a1 σ = r) : qa_Bk (qa_ds L) qa_mX6_isReady 0 (qa_ag 0 [.inl (R, 1), .inr (.int a1)]) [] σ (.inl (some (.inr (.int (qa_bi r))))) σ := by
  unfold qa_fX6_isReady at h
  try dsimp only at h
  show qa_Bk (qa_ds L) qa_mX6_isReady 0 [(0, .inl (R, 1)), (1, .inr (.int a1))] [] σ _ _
  refine qa_bk_do (pc' := 1) rfl rfl ?_
  rcases qa_ite h with ⟨hc1, h⟩ | ⟨hc1, h⟩
  · refine qa_bk_1t (a := 26) (b := 4) hc1 rfl rfl ?_
    exact qa_bk_lw (qa_tX6_isReady_26 hR h) rfl rfl (And.intro rfl (And.intro rfl (trivial)))
  · refine qa_bk_1f (a := 26) (b := 4) hc1 rfl rfl ?_
    refine qa_bk_do (pc' := 5) rfl rfl ?_
    refine qa_bk_do (pc' := 6) rfl rfl ?_
    refine qa_bk_gr rfl rfl (qa_ds1 hR) rfl ?_
    refine qa_bk_al rfl (qa_ds5 hR) (Or.inl (by decide)) ?_
    rcases qa_ite h with ⟨hc2, h⟩ | ⟨hc2, h⟩
    · refine qa_bk_1t (a := 26) (b := 13) hc2 rfl rfl ?_
      exact qa_bk_lw (qa_tX6_isReady_26 hR h) rfl rfl (And.intro rfl (And.intro rfl (trivial)))
    · refine qa_bk_1f (a := 26) (b := 13) hc2 rfl rfl ?_
      refine qa_bk_do (pc' := 14) rfl rfl ?_
      refine qa_bk_gr rfl rfl (qa_ds1 hR) rfl ?_
      refine qa_bk_do (pc' := 18) rfl rfl ?_
      refine qa_bk_ba rfl (qa_ds5 hR) (qa_in_g hc1 hc2 (Nat.le_of_ble_eq_true rfl)) ?_
      rcases qa_ite h with ⟨hc3, h⟩ | ⟨hc3, h⟩
      · refine qa_bk_1t (a := 26) (b := 22) hc3 rfl rfl ?_
        exact qa_bk_lw (qa_tX6_isReady_26 hR h) rfl rfl (And.intro rfl (And.intro rfl (trivial)))
      · refine qa_bk_1f (a := 26) (b := 22) hc3 rfl rfl ?_
        refine qa_bk_do (pc' := 23) rfl rfl ?_
        refine qa_bk_do (pc' := 27) rfl rfl ?_
        subst h
        exact qa_bk_rb rfl rfl rfl
noncomputable def qa_fX9_at_17 (p1 : qa_P) (n1 : Nat) (a2 : Int32) (y0 : Int32) (σ : qa_T) : Int32 :=
    y0
noncomputable def qa_fX9_at_16 (p1 : qa_P) (n1 : Nat) (a2 : Int32) (σ : qa_T) : Int32 :=
    qa_fX9_at_17 p1 n1 a2 (Int32.ofInt 0) σ
noncomputable def qa_fX9_at (p1 : qa_P) (n1 : Nat) (a2 : Int32) (σ : qa_T) : Int32 :=
    if a2 < 0 then
      qa_fX9_at_16 p1 n1 a2 σ
    else
      if Int32.ofNat n1 ≤ a2 then
        qa_fX9_at_16 p1 n1 a2 σ
      else
        qa_fX9_at_17 p1 n1 a2 (σ.1 p1 (a2).toNatClampNeg) σ
set_option maxRecDepth 100000 in
theorem qa_tX9_at_17 {L : Nat} {p1 : qa_P} {n1 : Nat} {a2 : Int32} (hp1 : qa_ds L p1 = .inr (0, n1, qa_n0)) (hn1 : n1 < 2147483648) {y0 : Int32} {σ : qa_T} {r : Int32} (h : qa_fX9_at_17 p1 n1 a2 y0 σ = r) : qa_Bk (qa_ds L) qa_mX9_at 17 [(0, .inl p1), (1, .inr (.int a2))] [.inr (.int y0)] σ (.inl (some (.inr (.int r)))) σ := by
  unfold qa_fX9_at_17 at h
  try dsimp only at h
  subst h
  exact qa_bk_ri rfl rfl
set_option maxRecDepth 100000 in
theorem qa_tX9_at_16 {L : Nat} {p1 : qa_P} {n1 : Nat} {a2 : Int32} (hp1 : qa_ds L p1 = .inr (0, n1, qa_n0)) (hn1 : n1 < 2147483648) {σ : qa_T} {r : Int32} (h : qa_fX9_at_16 p1 n1 a2 σ = r) : qa_Bk (qa_ds L) qa_mX9_at 16 [(0, .inl p1), (1, .inr (.int a2))] [] σ (.inl (some (.inr (.int r)))) σ := by
  unfold qa_fX9_at_16 at h
  try dsimp only at h
  refine qa_bk_do (pc' := 17) rfl rfl ?_
  exact qa_bk_lw (qa_tX9_at_17 hp1 hn1 h) rfl rfl (And.intro rfl (And.intro rfl (trivial)))
set_option maxRecDepth 100000 in
theorem qa_tX9_at {L : Nat} {p1 : qa_P} {n1 : Nat} {a2 : Int32} (hp1 : qa_ds L p1 = .inr (0, n1, qa_n0)) (hn1 : n1 < 2147483648) {σ : qa_T} {r : Int32} (h : qa_fX9_at p1 n1 a2 σ = r) : qa_Bk (qa_ds L) qa_mX9_at 0 (qa_ag 0 [.inl p1, .inr (.int a2)]) [] σ (.inl (some (.inr (.int r)))) σ := by
  unfold qa_fX9_at at h
  try dsimp only at h
  show qa_Bk (qa_ds L) qa_mX9_at 0 [(0, .inl p1), (1, .inr (.int a2))] [] σ _ _
  refine qa_bk_do (pc' := 1) rfl rfl ?_
  rcases qa_ite h with ⟨hc1, h⟩ | ⟨hc1, h⟩
  · refine qa_bk_1t (a := 16) (b := 4) hc1 rfl rfl ?_
    exact qa_bk_lw (qa_tX9_at_16 hp1 hn1 h) rfl rfl (And.intro rfl (And.intro rfl (trivial)))
  · refine qa_bk_1f (a := 16) (b := 4) hc1 rfl rfl ?_
    refine qa_bk_do (pc' := 5) rfl rfl ?_
    refine qa_bk_do (pc' := 6) rfl rfl ?_
    refine qa_bk_al rfl hp1 (Or.inl (by decide)) ?_
    rcases qa_ite h with ⟨hc2, h⟩ | ⟨hc2, h⟩
    · refine qa_bk_1t (a := 16) (b := 10) hc2 rfl rfl ?_
      exact qa_bk_lw (qa_tX9_at_16 hp1 hn1 h) rfl rfl (And.intro rfl (And.intro rfl (trivial)))
    · refine qa_bk_1f (a := 16) (b := 10) hc2 rfl rfl ?_
      refine qa_bk_do (pc' := 11) rfl rfl ?_
      refine qa_bk_do (pc' := 12) rfl rfl ?_
      refine qa_bk_ia rfl hp1 (Or.inl rfl) (qa_in_g hc1 hc2 hn1) ?_
      refine qa_bk_do (pc' := 17) rfl rfl ?_
      exact qa_bk_lw (qa_tX9_at_17 hp1 hn1 h) rfl rfl (And.intro rfl (And.intro rfl (trivial)))
noncomputable def qa_fX2_queuePlace_2 (R : Nat) (a1 : Int32) : Nat → Int32 → qa_T → Option Int32
  | 0, _, _ => none
  | n + 1, x2, σ =>
    if (σ.1 (R, 12) 2) ≤ x2 then
      some (Int32.ofInt (-1))
    else
      if ¬ (qa_fX9_at (R, 13) 16 x2 σ) = a1 then
        let v3 : Int32 := x2 + Int32.ofInt 1
        qa_fX2_queuePlace_2 R a1 n v3 σ
      else
        some x2
noncomputable def qa_fX2_queuePlace (R : Nat) (a1 : Int32) (σ : qa_T) : Option Int32 :=
    qa_fX2_queuePlace_2 R a1 qa_fu (Int32.ofInt 0) σ
set_option maxRecDepth 100000 in
theorem qa_tX2_queuePlace_2 {L : Nat} {R : Nat} {a1 : Int32} (hR : qa_rg R) : ∀ (n : Nat) (x2 : Int32) (σ : qa_T) (r : Int32), qa_fX2_queuePlace_2 R a1 n x2 σ = some r → qa_Bk (qa_ds L) qa_mX2_queuePlace 2 [(0, .inl (R, 12)), (1, .inr (.int a1)), (2, .inr (.int x2))] [] σ (.inl (some (.inr (.int r)))) σ := by
  intro n
  induction n with
  | zero => intro x2 σ r h; cases h
  | succ n ih =>
    intro x2 σ r h
    unfold qa_fX2_queuePlace_2 at h
    try dsimp only at h
    refine qa_bk_do (pc' := 3) rfl rfl ?_
    refine qa_bk_do (pc' := 4) rfl rfl ?_
    refine qa_bk_gi rfl rfl (qa_ds12 hR) rfl ?_
    rcases qa_ite h with ⟨hc1, h⟩ | ⟨hc1, h⟩
    · refine qa_bk_1t (a := 30) (b := 10) hc1 rfl rfl ?_
      refine qa_bk_do (pc' := 31) rfl rfl ?_
      cases h
      exact qa_bk_ri rfl rfl
    · refine qa_bk_1f (a := 30) (b := 10) hc1 rfl rfl ?_
      refine qa_bk_do (pc' := 11) rfl rfl ?_
      refine qa_bk_gr rfl rfl (qa_ds12 hR) rfl ?_
      refine qa_bk_do (pc' := 15) rfl rfl ?_
      refine qa_bk_cs (qa_tX9_at (qa_ds13 hR) (Nat.le_of_ble_eq_true rfl) rfl) rfl rfl rfl rfl rfl rfl rfl ?_
      refine qa_bk_do (pc' := 19) rfl rfl ?_
      rcases qa_ite h with ⟨hc2, h⟩ | ⟨hc2, h⟩
      · refine qa_bk_1t (a := 24) (b := 22) hc2 rfl rfl ?_
        refine qa_bk_do (pc' := 27) (lv' := [(2, _), (0, _), (1, _)]) rfl rfl ?_
        refine qa_bk_do (pc' := 2) rfl rfl ?_
        exact qa_bk_lw (ih _ _ _ h) rfl rfl (And.intro rfl (And.intro rfl (And.intro rfl (trivial))))
      · refine qa_bk_1f (a := 24) (b := 22) hc2 rfl rfl ?_
        refine qa_bk_do (pc' := 23) rfl rfl ?_
        cases h
        exact qa_bk_ri rfl rfl
set_option maxRecDepth 100000 in
theorem qa_tX2_queuePlace {L : Nat} {R : Nat} {a1 : Int32} (hR : qa_rg R) {σ : qa_T} {r : Int32} (h : qa_fX2_queuePlace R a1 σ = some r) : qa_Bk (qa_ds L) qa_mX2_queuePlace 0 (qa_ag 0 [.inl (R, 12), .inr (.int a1)]) [] σ (.inl (some (.inr (.int r)))) σ := by
  unfold qa_fX2_queuePlace at h
  try dsimp only at h
  show qa_Bk (qa_ds L) qa_mX2_queuePlace 0 [(0, .inl (R, 12)), (1, .inr (.int a1))] [] σ _ _
  refine qa_bk_do (pc' := 1) rfl rfl ?_
  refine qa_bk_do (pc' := 2) (lv' := [(2, _), (0, _), (1, _)]) rfl rfl ?_
  exact qa_bk_lw (qa_tX2_queuePlace_2 hR _ _ _ _ h) rfl rfl (And.intro rfl (And.intro rfl (And.intro rfl (trivial))))
noncomputable def qa_fX1_mayAsk_49 (R : Nat) (a1 : Int32) (σ : qa_T) : Option Bool :=
    some false
noncomputable def qa_fX1_mayAsk (R : Nat) (a1 : Int32) (σ : qa_T) : Option Bool :=
    if ¬ (qa_bi (qa_fX6_isReady R a1 σ)) = 0 then
      qa_fX1_mayAsk_49 R a1 σ
    else
      if a1 = (σ.1 (R, 12) 0) then
        qa_fX1_mayAsk_49 R a1 σ
      else
        if a1 = (σ.1 (R, 11) 4) then
          qa_fX1_mayAsk_49 R a1 σ
        else
          (qa_fX2_queuePlace R a1 σ).bind fun c4 =>
          if ¬ c4 = (Int32.ofInt (-1)) then
            qa_fX1_mayAsk_49 R a1 σ
          else
            some true
set_option maxRecDepth 100000 in
theorem qa_tX1_mayAsk_49 {L : Nat} {R : Nat} {a1 : Int32} (hR : qa_rg R) {σ : qa_T} {r : Bool} (h : qa_fX1_mayAsk_49 R a1 σ = some r) : qa_Bk (qa_ds L) qa_mX1_mayAsk 49 [(0, .inl (R, 0)), (1, .inr (.int a1))] [] σ (.inl (some (.inr (.int (qa_bi r))))) σ := by
  unfold qa_fX1_mayAsk_49 at h
  try dsimp only at h
  refine qa_bk_do (pc' := 50) rfl rfl ?_
  cases h
  exact qa_bk_rb rfl rfl rfl
set_option maxRecDepth 100000 in
theorem qa_tX1_mayAsk {L : Nat} {R : Nat} {a1 : Int32} (hR : qa_rg R) {σ : qa_T} {r : Bool} (h : qa_fX1_mayAsk R a1 σ = some r) : qa_Bk (qa_ds L) qa_mX1_mayAsk 0 (qa_ag 0 [.inl (R, 0), .inr (.int a1)]) [] σ (.inl (some (.inr (.int (qa_bi r))))) σ := by
  unfold qa_fX1_mayAsk at h
  try dsimp only at h
  show qa_Bk (qa_ds L) qa_mX1_mayAsk 0 [(0, .inl (R, 0)), (1, .inr (.int a1))] [] σ _ _
  refine qa_bk_do (pc' := 1) rfl rfl ?_
  refine qa_bk_gr rfl rfl (qa_ds0 hR) rfl ?_
  refine qa_bk_do (pc' := 5) rfl rfl ?_
  refine qa_bk_cv (qa_tX6_isReady hR rfl) rfl rfl rfl rfl rfl rfl rfl (qa_ds1 hR) ?_
  rcases qa_ite h with ⟨hc1, h⟩ | ⟨hc1, h⟩
  · refine qa_bk_1t (a := 49) (b := 11) hc1 rfl rfl ?_
    exact qa_bk_lw (qa_tX1_mayAsk_49 hR h) rfl rfl (And.intro rfl (And.intro rfl (trivial)))
  · refine qa_bk_1f (a := 49) (b := 11) hc1 rfl rfl ?_
    refine qa_bk_do (pc' := 12) rfl rfl ?_
    refine qa_bk_do (pc' := 13) rfl rfl ?_
    refine qa_bk_gr rfl rfl (qa_ds0 hR) rfl ?_
    refine qa_bk_gi rfl rfl (qa_ds12 hR) rfl ?_
    rcases qa_ite h with ⟨hc2, h⟩ | ⟨hc2, h⟩
    · refine qa_bk_1t (a := 49) (b := 22) hc2 rfl rfl ?_
      exact qa_bk_lw (qa_tX1_mayAsk_49 hR h) rfl rfl (And.intro rfl (And.intro rfl (trivial)))
    · refine qa_bk_1f (a := 49) (b := 22) hc2 rfl rfl ?_
      refine qa_bk_do (pc' := 23) rfl rfl ?_
      refine qa_bk_do (pc' := 24) rfl rfl ?_
      refine qa_bk_gr rfl rfl (qa_ds0 hR) rfl ?_
      refine qa_bk_gi rfl rfl (qa_ds11 hR) rfl ?_
      rcases qa_ite h with ⟨hc3, h⟩ | ⟨hc3, h⟩
      · refine qa_bk_1t (a := 49) (b := 33) hc3 rfl rfl ?_
        exact qa_bk_lw (qa_tX1_mayAsk_49 hR h) rfl rfl (And.intro rfl (And.intro rfl (trivial)))
      · refine qa_bk_1f (a := 49) (b := 33) hc3 rfl rfl ?_
        refine qa_bk_do (pc' := 34) rfl rfl ?_
        refine qa_bk_gr rfl rfl (qa_ds0 hR) rfl ?_
        refine qa_bk_do (pc' := 38) rfl rfl ?_
        obtain ⟨c4, hc5, h⟩ := Option.bind_eq_some_iff.mp h
        refine qa_bk_cv (qa_tX2_queuePlace hR hc5) rfl rfl rfl rfl rfl rfl rfl (qa_ds12 hR) ?_
        refine qa_bk_do (pc' := 42) rfl rfl ?_
        rcases qa_ite h with ⟨hc6, h⟩ | ⟨hc6, h⟩
        · refine qa_bk_1t (a := 49) (b := 45) hc6 rfl rfl ?_
          exact qa_bk_lw (qa_tX1_mayAsk_49 hR h) rfl rfl (And.intro rfl (And.intro rfl (trivial)))
        · refine qa_bk_1f (a := 49) (b := 45) hc6 rfl rfl ?_
          refine qa_bk_do (pc' := 46) rfl rfl ?_
          refine qa_bk_do (pc' := 50) rfl rfl ?_
          cases h
          exact qa_bk_rb rfl rfl rfl
noncomputable def qa_fX7_bears_16 (R : Nat) (a1 : Int32) (σ : qa_T) : Bool :=
    true
noncomputable def qa_fX7_bears (R : Nat) (a1 : Int32) (σ : qa_T) : Bool :=
    if a1 = (σ.1 (R, 11) 0) then
      qa_fX7_bears_16 R a1 σ
    else
      if ¬ a1 = (σ.1 (R, 11) 2) then
        false
      else
        qa_fX7_bears_16 R a1 σ
set_option maxRecDepth 100000 in
theorem qa_tX7_bears_16 {L : Nat} {R : Nat} {a1 : Int32} (hR : qa_rg R) {σ : qa_T} {r : Bool} (h : qa_fX7_bears_16 R a1 σ = r) : qa_Bk (qa_ds L) qa_mX7_bears 16 [(0, .inl (R, 11)), (1, .inr (.int a1))] [] σ (.inl (some (.inr (.int (qa_bi r))))) σ := by
  unfold qa_fX7_bears_16 at h
  try dsimp only at h
  refine qa_bk_do (pc' := 17) rfl rfl ?_
  refine qa_bk_do (pc' := 21) rfl rfl ?_
  subst h
  exact qa_bk_rb rfl rfl rfl
set_option maxRecDepth 100000 in
theorem qa_tX7_bears {L : Nat} {R : Nat} {a1 : Int32} (hR : qa_rg R) {σ : qa_T} {r : Bool} (h : qa_fX7_bears R a1 σ = r) : qa_Bk (qa_ds L) qa_mX7_bears 0 (qa_ag 0 [.inl (R, 11), .inr (.int a1)]) [] σ (.inl (some (.inr (.int (qa_bi r))))) σ := by
  unfold qa_fX7_bears at h
  try dsimp only at h
  show qa_Bk (qa_ds L) qa_mX7_bears 0 [(0, .inl (R, 11)), (1, .inr (.int a1))] [] σ _ _
  refine qa_bk_do (pc' := 1) rfl rfl ?_
  refine qa_bk_do (pc' := 2) rfl rfl ?_
  refine qa_bk_gi rfl rfl (qa_ds11 hR) rfl ?_
  rcases qa_ite h with ⟨hc1, h⟩ | ⟨hc1, h⟩
  · refine qa_bk_1t (a := 16) (b := 8) hc1 rfl rfl ?_
    exact qa_bk_lw (qa_tX7_bears_16 hR h) rfl rfl (And.intro rfl (And.intro rfl (trivial)))
  · refine qa_bk_1f (a := 16) (b := 8) hc1 rfl rfl ?_
    refine qa_bk_do (pc' := 9) rfl rfl ?_
    refine qa_bk_do (pc' := 10) rfl rfl ?_
    refine qa_bk_gi rfl rfl (qa_ds11 hR) rfl ?_
    rcases qa_ite h with ⟨hc2, h⟩ | ⟨hc2, h⟩
    · refine qa_bk_1t (a := 20) (b := 16) hc2 rfl rfl ?_
      refine qa_bk_do (pc' := 21) rfl rfl ?_
      subst h
      exact qa_bk_rb rfl rfl rfl
    · refine qa_bk_1f (a := 20) (b := 16) hc2 rfl rfl ?_
      exact qa_bk_lw (qa_tX7_bears_16 hR h) rfl rfl (And.intro rfl (And.intro rfl (trivial)))
