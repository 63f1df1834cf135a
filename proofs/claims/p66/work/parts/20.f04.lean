/-! the methods as functions (written by wip/tools/gen.py) -/
noncomputable def qa_fX3_remove_73 (R : Nat) (a1 : Int32) (x2 : Int32) (σ : qa_T) : Option (Int32 × qa_T) :=
    some (x2, σ)
noncomputable def qa_fX3_remove_11 (R : Nat) (a1 : Int32) : Nat → Int32 → Int32 → qa_T → Option (Int32 × qa_T)
  | 0, _, _, _ => none
  | n + 1, x2, x3, σ =>
    if (σ.1 (R, 9) 0) ≤ (x3 + (Int32.ofInt 1)) then
      let σ3 := qa_wi σ (R, 9) 0 ((σ.1 (R, 9) 0) - (Int32.ofInt 1))
      if (σ3.1 (R, 9) 1) < a1 then
        qa_fX3_remove_73 R a1 x2 σ3
      else
        let σ5 := qa_wi σ3 (R, 9) 1 ((σ3.1 (R, 9) 1) - (Int32.ofInt 1))
        qa_fX3_remove_73 R a1 x2 σ5
    else
      let σ6 := qa_fX9_set (R, 10) 24 x3 (qa_fX9_at (R, 10) 24 (x3 + (Int32.ofInt 1)) σ) σ
      let v7 : Int32 := x3 + Int32.ofInt 1
      qa_fX3_remove_11 R a1 n x2 v7 σ6
noncomputable def qa_fX3_remove (R : Nat) (a1 : Int32) (σ : qa_T) : Option (Int32 × qa_T) :=
    let v1 : Int32 := (qa_fX9_at (R, 10) 24 a1 σ)
    qa_fX3_remove_11 R a1 qa_fu v1 a1 σ
set_option maxRecDepth 100000 in
theorem qa_tX3_remove_73 {L : Nat} {R : Nat} {a1 : Int32} (hR : qa_rg R) {x2 : Int32} {σ : qa_T} {r : (Int32 × qa_T)} (h : qa_fX3_remove_73 R a1 x2 σ = some r) : qa_Bk (qa_ds L) qa_mX3_remove 73 [(0, .inl (R, 9)), (1, .inr (.int a1)), (2, .inr (.int x2))] [] σ (.inl (some (.inr (.int r.1)))) r.2 := by
  unfold qa_fX3_remove_73 at h
  try dsimp only at h
  refine qa_bk_do (pc' := 74) rfl rfl ?_
  cases h
  exact qa_bk_ri rfl rfl
set_option maxRecDepth 100000 in
theorem qa_tX3_remove_11 {L : Nat} {R : Nat} {a1 : Int32} (hR : qa_rg R) : ∀ (n : Nat) (x2 : Int32) (x3 : Int32) (σ : qa_T) (r : (Int32 × qa_T)), qa_fX3_remove_11 R a1 n x2 x3 σ = some r → qa_Bk (qa_ds L) qa_mX3_remove 11 [(0, .inl (R, 9)), (1, .inr (.int a1)), (2, .inr (.int x2)), (3, .inr (.int x3))] [] σ (.inl (some (.inr (.int r.1)))) r.2 := by
  intro n
  induction n with
  | zero => intro x2 x3 σ r h; cases h
  | succ n ih =>
    intro x2 x3 σ r h
    unfold qa_fX3_remove_11 at h
    try dsimp only at h
    refine qa_bk_do (pc' := 12) rfl rfl ?_
    refine qa_bk_do (pc' := 13) rfl rfl ?_
    refine qa_bk_do (pc' := 14) rfl rfl ?_
    refine qa_bk_do (pc' := 15) rfl rfl ?_
    refine qa_bk_gi rfl rfl (qa_ds9 hR) rfl ?_
    rcases qa_ite h with ⟨hc2, h⟩ | ⟨hc2, h⟩
    · refine qa_bk_1t (a := 45) (b := 21) hc2 rfl rfl ?_
      refine qa_bk_do (pc' := 46) rfl rfl ?_
      refine qa_bk_do (pc' := 47) rfl rfl ?_
      refine qa_bk_gi rfl rfl (qa_ds9 hR) rfl ?_
      refine qa_bk_do (pc' := 51) rfl rfl ?_
      refine qa_bk_do (pc' := 52) rfl rfl ?_
      refine qa_bk_pf rfl rfl (qa_ds9 hR) rfl (qa_fiti _) rfl ?_
      refine qa_bk_do (pc' := 56) rfl rfl ?_
      refine qa_bk_do (pc' := 57) rfl rfl ?_
      refine qa_bk_gi rfl rfl (qa_ds9 hR) rfl ?_
      rcases qa_ite h with ⟨hc4, h⟩ | ⟨hc4, h⟩
      · refine qa_bk_1t (a := 73) (b := 63) hc4 rfl rfl ?_
        exact qa_bk_lw (qa_tX3_remove_73 hR h) rfl rfl (And.intro rfl (And.intro rfl (And.intro rfl (trivial))))
      · refine qa_bk_1f (a := 73) (b := 63) hc4 rfl rfl ?_
        refine qa_bk_do (pc' := 64) rfl rfl ?_
        refine qa_bk_do (pc' := 65) rfl rfl ?_
        refine qa_bk_gi rfl rfl (qa_ds9 hR) rfl ?_
        refine qa_bk_do (pc' := 69) rfl rfl ?_
        refine qa_bk_do (pc' := 70) rfl rfl ?_
        refine qa_bk_pf rfl rfl (qa_ds9 hR) rfl (qa_fiti _) rfl ?_
        exact qa_bk_lw (qa_tX3_remove_73 hR h) rfl rfl (And.intro rfl (And.intro rfl (And.intro rfl (trivial))))
    · refine qa_bk_1f (a := 45) (b := 21) hc2 rfl rfl ?_
      refine qa_bk_do (pc' := 22) rfl rfl ?_
      refine qa_bk_gr rfl rfl (qa_ds9 hR) rfl ?_
      refine qa_bk_do (pc' := 26) rfl rfl ?_
      refine qa_bk_do (pc' := 27) rfl rfl ?_
      refine qa_bk_gr rfl rfl (qa_ds9 hR) rfl ?_
      refine qa_bk_do (pc' := 31) rfl rfl ?_
      refine qa_bk_do (pc' := 32) rfl rfl ?_
      refine qa_bk_do (pc' := 33) rfl rfl ?_
      refine qa_bk_cs (qa_tX9_at (qa_ds10 hR) (Nat.le_of_ble_eq_true rfl) rfl) rfl rfl rfl rfl rfl rfl rfl ?_
      refine qa_bk_cs (qa_tX9_set (qa_ds10 hR) (Nat.le_of_ble_eq_true rfl) rfl) rfl rfl rfl rfl rfl rfl rfl ?_
      refine qa_bk_do (pc' := 42) (lv' := [(3, _), (0, _), (1, _), (2, _)]) rfl rfl ?_
      refine qa_bk_do (pc' := 11) rfl rfl ?_
      exact qa_bk_lw (ih _ _ _ _ h) rfl rfl (And.intro rfl (And.intro rfl (And.intro rfl (And.intro rfl (trivial)))))
set_option maxRecDepth 100000 in
theorem qa_tX3_remove {L : Nat} {R : Nat} {a1 : Int32} (hR : qa_rg R) {σ : qa_T} {r : (Int32 × qa_T)} (h : qa_fX3_remove R a1 σ = some r) : qa_Bk (qa_ds L) qa_mX3_remove 0 (qa_ag 0 [.inl (R, 9), .inr (.int a1)]) [] σ (.inl (some (.inr (.int r.1)))) r.2 := by
  unfold qa_fX3_remove at h
  try dsimp only at h
  show qa_Bk (qa_ds L) qa_mX3_remove 0 [(0, .inl (R, 9)), (1, .inr (.int a1))] [] σ _ _
  refine qa_bk_do (pc' := 1) rfl rfl ?_
  refine qa_bk_gr rfl rfl (qa_ds9 hR) rfl ?_
  refine qa_bk_do (pc' := 5) rfl rfl ?_
  refine qa_bk_cs (qa_tX9_at (qa_ds10 hR) (Nat.le_of_ble_eq_true rfl) rfl) rfl rfl rfl rfl rfl rfl rfl ?_
  refine qa_bk_do (pc' := 9) (lv' := [(2, _), (0, _), (1, _)]) rfl rfl ?_
  refine qa_bk_do (pc' := 10) rfl rfl ?_
  refine qa_bk_do (pc' := 11) (lv' := [(3, _), (2, _), (0, _), (1, _)]) rfl rfl ?_
  exact qa_bk_lw (qa_tX3_remove_11 hR _ _ _ _ _ h) rfl rfl (And.intro rfl (And.intro rfl (And.intro rfl (And.intro rfl (trivial)))))
noncomputable def qa_fX3_placesUntil_2 (R : Nat) (a1 : Int32) : Nat → Int32 → qa_T → Option Int32
  | 0, _, _ => none
  | n + 1, x2, σ =>
    if (σ.1 (R, 9) 0) < x2 then
      some (Int32.ofInt 0)
    else
      (qa_fX3_slideAhead R x2 σ).bind fun c2 =>
      if ¬ c2 = a1 then
        let v5 : Int32 := x2 + Int32.ofInt 1
        qa_fX3_placesUntil_2 R a1 n v5 σ
      else
        some x2
noncomputable def qa_fX3_placesUntil (R : Nat) (a1 : Int32) (σ : qa_T) : Option Int32 :=
    qa_fX3_placesUntil_2 R a1 qa_fu (Int32.ofInt 1) σ
set_option maxRecDepth 100000 in
theorem qa_tX3_placesUntil_2 {L : Nat} {R : Nat} {a1 : Int32} (hR : qa_rg R) : ∀ (n : Nat) (x2 : Int32) (σ : qa_T) (r : Int32), qa_fX3_placesUntil_2 R a1 n x2 σ = some r → qa_Bk (qa_ds L) qa_mX3_placesUntil 2 [(0, .inl (R, 9)), (1, .inr (.int a1)), (2, .inr (.int x2))] [] σ (.inl (some (.inr (.int r)))) σ := by
  intro n
  induction n with
  | zero => intro x2 σ r h; cases h
  | succ n ih =>
    intro x2 σ r h
    unfold qa_fX3_placesUntil_2 at h
    try dsimp only at h
    refine qa_bk_do (pc' := 3) rfl rfl ?_
    refine qa_bk_do (pc' := 4) rfl rfl ?_
    refine qa_bk_gi rfl rfl (qa_ds9 hR) rfl ?_
    rcases qa_ite h with ⟨hc1, h⟩ | ⟨hc1, h⟩
    · refine qa_bk_1t (a := 27) (b := 10) hc1 rfl rfl ?_
      refine qa_bk_do (pc' := 28) rfl rfl ?_
      cases h
      exact qa_bk_ri rfl rfl
    · refine qa_bk_1f (a := 27) (b := 10) hc1 rfl rfl ?_
      refine qa_bk_do (pc' := 11) rfl rfl ?_
      refine qa_bk_do (pc' := 12) rfl rfl ?_
      obtain ⟨c2, hc3, h⟩ := Option.bind_eq_some_iff.mp h
      refine qa_bk_cv (qa_tX3_slideAhead hR hc3) rfl rfl rfl rfl rfl rfl rfl (qa_ds9 hR) ?_
      refine qa_bk_do (pc' := 16) rfl rfl ?_
      rcases qa_ite h with ⟨hc4, h⟩ | ⟨hc4, h⟩
      · refine qa_bk_1t (a := 21) (b := 19) hc4 rfl rfl ?_
        refine qa_bk_do (pc' := 24) (lv' := [(2, _), (0, _), (1, _)]) rfl rfl ?_
        refine qa_bk_do (pc' := 2) rfl rfl ?_
        exact qa_bk_lw (ih _ _ _ h) rfl rfl (And.intro rfl (And.intro rfl (And.intro rfl (trivial))))
      · refine qa_bk_1f (a := 21) (b := 19) hc4 rfl rfl ?_
        refine qa_bk_do (pc' := 20) rfl rfl ?_
        cases h
        exact qa_bk_ri rfl rfl
set_option maxRecDepth 100000 in
theorem qa_tX3_placesUntil {L : Nat} {R : Nat} {a1 : Int32} (hR : qa_rg R) {σ : qa_T} {r : Int32} (h : qa_fX3_placesUntil R a1 σ = some r) : qa_Bk (qa_ds L) qa_mX3_placesUntil 0 (qa_ag 0 [.inl (R, 9), .inr (.int a1)]) [] σ (.inl (some (.inr (.int r)))) σ := by
  unfold qa_fX3_placesUntil at h
  try dsimp only at h
  show qa_Bk (qa_ds L) qa_mX3_placesUntil 0 [(0, .inl (R, 9)), (1, .inr (.int a1))] [] σ _ _
  refine qa_bk_do (pc' := 1) rfl rfl ?_
  refine qa_bk_do (pc' := 2) (lv' := [(2, _), (0, _), (1, _)]) rfl rfl ?_
  exact qa_bk_lw (qa_tX3_placesUntil_2 hR _ _ _ _ h) rfl rfl (And.intro rfl (And.intro rfl (And.intro rfl (trivial))))
noncomputable def qa_fX5_push_80 (S : Nat) (σ : qa_T) : Option qa_T :=
    some σ
noncomputable def qa_fX5_push_45 (S : Nat) (σ : qa_T) : Option qa_T :=
    if ((Int8.ofInt 6).toInt32) ≤ (σ.1 (2, 18) 1) then
      let σ4 := qa_wi σ (2, 18) 0 (((σ.1 (2, 18) 0) + (Int32.ofInt 1)) - ((σ.1 (2, 18) 0) + (Int32.ofInt 1)) / ((Int8.ofInt 6).toInt32) * ((Int8.ofInt 6).toInt32))
      qa_fX5_push_80 S σ4
    else
      let σ5 := qa_wi σ (2, 18) 1 ((σ.1 (2, 18) 1) + (Int32.ofInt 1))
      qa_fX5_push_80 S σ5
noncomputable def qa_fX5_push (S : Nat) (σ : qa_T) : Option qa_T :=
    let v1 : Int32 := (((σ.1 (2, 18) 0) + (σ.1 (2, 18) 1)) - ((σ.1 (2, 18) 0) + (σ.1 (2, 18) 1)) / ((Int8.ofInt 6).toInt32) * ((Int8.ofInt 6).toInt32))
    if v1 < 0 then
      qa_fX5_push_45 S σ
    else
      if Int32.ofNat 6 ≤ v1 then
        qa_fX5_push_45 S σ
      else
        (qa_fX1_copyFrom (3 + (v1).toNatClampNeg) S σ).bind fun c9 =>
        qa_fX5_push_45 S c9
set_option maxRecDepth 100000 in
theorem qa_tX5_push_80 {L : Nat} {S : Nat} (hS : qa_rg S) {σ : qa_T} {r : qa_T} (h : qa_fX5_push_80 S σ = some r) : qa_Bk (qa_ds L) qa_mX5_push 80 [(0, .inl (2, 18)), (1, .inl (S, 0))] [] σ (.inl none) r := by
  unfold qa_fX5_push_80 at h
  try dsimp only at h
  cases h
  exact qa_bk_re rfl rfl rfl
set_option maxRecDepth 100000 in
theorem qa_tX5_push_45 {L : Nat} {S : Nat} (hS : qa_rg S) {σ : qa_T} {r : qa_T} (h : qa_fX5_push_45 S σ = some r) : qa_Bk (qa_ds L) qa_mX5_push 45 [(0, .inl (2, 18)), (1, .inl (S, 0))] [] σ (.inl none) r := by
  unfold qa_fX5_push_45 at h
  try dsimp only at h
  refine qa_bk_do (pc' := 46) rfl rfl ?_
  refine qa_bk_gi rfl rfl qa_dx_2_18 rfl ?_
  refine qa_bk_do (pc' := 51) rfl rfl ?_
  rcases qa_ite h with ⟨hc3, h⟩ | ⟨hc3, h⟩
  · refine qa_bk_1t (a := 67) (b := 54) hc3 rfl rfl ?_
    refine qa_bk_do (pc' := 68) rfl rfl ?_
    refine qa_bk_do (pc' := 69) rfl rfl ?_
    refine qa_bk_gi rfl rfl qa_dx_2_18 rfl ?_
    refine qa_bk_do (pc' := 73) rfl rfl ?_
    refine qa_bk_do (pc' := 74) rfl rfl ?_
    refine qa_bk_do (pc' := 76) rfl rfl ?_
    refine qa_bk_rm (by decide) rfl ?_
    refine qa_bk_pf rfl rfl qa_dx_2_18 rfl (qa_fiti _) rfl ?_
    exact qa_bk_lw (qa_tX5_push_80 hS h) rfl rfl (And.intro rfl (And.intro rfl (trivial)))
  · refine qa_bk_1f (a := 67) (b := 54) hc3 rfl rfl ?_
    refine qa_bk_do (pc' := 55) rfl rfl ?_
    refine qa_bk_do (pc' := 56) rfl rfl ?_
    refine qa_bk_gi rfl rfl qa_dx_2_18 rfl ?_
    refine qa_bk_do (pc' := 60) rfl rfl ?_
    refine qa_bk_do (pc' := 61) rfl rfl ?_
    refine qa_bk_pf rfl rfl qa_dx_2_18 rfl (qa_fiti _) rfl ?_
    refine qa_bk_do (pc' := 80) rfl rfl ?_
    exact qa_bk_lw (qa_tX5_push_80 hS h) rfl rfl (And.intro rfl (And.intro rfl (trivial)))
set_option maxRecDepth 100000 in
theorem qa_tX5_push {L : Nat} {S : Nat} (hS : qa_rg S) {σ : qa_T} {r : qa_T} (h : qa_fX5_push S σ = some r) : qa_Bk (qa_ds L) qa_mX5_push 0 (qa_ag 0 [.inl (2, 18), .inl (S, 0)]) [] σ (.inl none) r := by
  unfold qa_fX5_push at h
  try dsimp only at h
  show qa_Bk (qa_ds L) qa_mX5_push 0 [(0, .inl (2, 18)), (1, .inl (S, 0))] [] σ _ _
  refine qa_bk_do (pc' := 1) rfl rfl ?_
  refine qa_bk_gi rfl rfl qa_dx_2_18 rfl ?_
  refine qa_bk_do (pc' := 5) rfl rfl ?_
  refine qa_bk_gi rfl rfl qa_dx_2_18 rfl ?_
  refine qa_bk_do (pc' := 9) rfl rfl ?_
  refine qa_bk_do (pc' := 11) rfl rfl ?_
  refine qa_bk_rm (by decide) rfl ?_
  refine qa_bk_do (pc' := 13) (lv' := [(2, _), (0, _), (1, _)]) rfl rfl ?_
  refine qa_bk_do (pc' := 14) rfl rfl ?_
  rcases qa_ite h with ⟨hc2, h⟩ | ⟨hc2, h⟩
  · refine qa_bk_1t (a := 45) (b := 17) hc2 rfl rfl ?_
    exact qa_bk_lw (qa_tX5_push_45 hS h) rfl rfl (And.intro rfl (And.intro rfl (trivial)))
  · refine qa_bk_1f (a := 45) (b := 17) hc2 rfl rfl ?_
    refine qa_bk_do (pc' := 18) rfl rfl ?_
    refine qa_bk_do (pc' := 19) rfl rfl ?_
    refine qa_bk_gr rfl rfl qa_dx_2_18 rfl ?_
    refine qa_bk_al rfl qa_dx_2_19 (Or.inl (by decide)) ?_
    rcases qa_ite h with ⟨hc6, h⟩ | ⟨hc6, h⟩
    · refine qa_bk_1t (a := 45) (b := 26) hc6 rfl rfl ?_
      exact qa_bk_lw (qa_tX5_push_45 hS h) rfl rfl (And.intro rfl (And.intro rfl (trivial)))
    · refine qa_bk_1f (a := 45) (b := 26) hc6 rfl rfl ?_
      refine qa_bk_do (pc' := 27) rfl rfl ?_
      refine qa_bk_gr rfl rfl qa_dx_2_18 rfl ?_
      refine qa_bk_do (pc' := 31) rfl rfl ?_
      have hi7 := (qa_in_g hc2 hc6 (Nat.le_of_ble_eq_true rfl))
      refine qa_bk_ar rfl qa_dx_2_19 hi7 (qa_rf3 hi7) ?_
      refine qa_bk_do (pc' := 35) rfl rfl ?_
      refine qa_bk_do (pc' := 36) rfl rfl ?_
      refine qa_bk_gr rfl rfl qa_dx_2_18 rfl ?_
      refine qa_bk_do (pc' := 40) rfl rfl ?_
      have hi8 := (qa_in_g hc2 hc6 (Nat.le_of_ble_eq_true rfl))
      refine qa_bk_ar rfl qa_dx_2_19 hi8 (qa_rf3 hi8) ?_
      refine qa_bk_do (pc' := 42) rfl rfl ?_
      obtain ⟨c9, hc10, h⟩ := Option.bind_eq_some_iff.mp h
      refine qa_bk_cv (qa_tX1_copyFrom (qa_rg3 hi8) hS hc10) rfl rfl rfl rfl rfl rfl rfl (qa_ds0 (qa_rg3 hi8)) ?_
      exact qa_bk_lw (qa_tX5_push_45 hS h) rfl rfl (And.intro rfl (And.intro rfl (trivial)))
noncomputable def qa_fX6_has_16 (R : Nat) (a1 : Int32) (σ : qa_T) : Bool :=
    false
noncomputable def qa_fX6_has (R : Nat) (a1 : Int32) (σ : qa_T) : Bool :=
    if a1 < 0 then
      qa_fX6_has_16 R a1 σ
    else
      if (σ.1 (R, 1) 0) ≤ a1 then
        qa_fX6_has_16 R a1 σ
      else
        true
set_option maxRecDepth 100000 in
theorem qa_tX6_has_16 {L : Nat} {R : Nat} {a1 : Int32} (hR : qa_rg R) {σ : qa_T} {r : Bool} (h : qa_fX6_has_16 R a1 σ = r) : qa_Bk (qa_ds L) qa_mX6_has 16 [(0, .inl (R, 1)), (1, .inr (.int a1))] [] σ (.inl (some (.inr (.int (qa_bi r))))) σ := by
  unfold qa_fX6_has_16 at h
  try dsimp only at h
  refine qa_bk_do (pc' := 17) rfl rfl ?_
  subst h
  exact qa_bk_rb rfl rfl rfl
set_option maxRecDepth 100000 in
theorem qa_tX6_has {L : Nat} {R : Nat} {a1 : Int32} (hR : qa_rg R) {σ : qa_T} {r : Bool} (h : qa_fX6_has R a1 σ = r) : qa_Bk (qa_ds L) qa_mX6_has 0 (qa_ag 0 [.inl (R, 1), .inr (.int a1)]) [] σ (.inl (some (.inr (.int (qa_bi r))))) σ := by
  unfold qa_fX6_has at h
  try dsimp only at h
  show qa_Bk (qa_ds L) qa_mX6_has 0 [(0, .inl (R, 1)), (1, .inr (.int a1))] [] σ _ _
  refine qa_bk_do (pc' := 1) rfl rfl ?_
  rcases qa_ite h with ⟨hc1, h⟩ | ⟨hc1, h⟩
  · refine qa_bk_1t (a := 16) (b := 4) hc1 rfl rfl ?_
    exact qa_bk_lw (qa_tX6_has_16 hR h) rfl rfl (And.intro rfl (And.intro rfl (trivial)))
  · refine qa_bk_1f (a := 16) (b := 4) hc1 rfl rfl ?_
    refine qa_bk_do (pc' := 5) rfl rfl ?_
    refine qa_bk_do (pc' := 6) rfl rfl ?_
    refine qa_bk_gi rfl rfl (qa_ds1 hR) rfl ?_
    rcases qa_ite h with ⟨hc2, h⟩ | ⟨hc2, h⟩
    · refine qa_bk_1t (a := 16) (b := 12) hc2 rfl rfl ?_
      exact qa_bk_lw (qa_tX6_has_16 hR h) rfl rfl (And.intro rfl (And.intro rfl (trivial)))
    · refine qa_bk_1f (a := 16) (b := 12) hc2 rfl rfl ?_
      refine qa_bk_do (pc' := 13) rfl rfl ?_
      refine qa_bk_do (pc' := 17) rfl rfl ?_
      subst h
      exact qa_bk_rb rfl rfl rfl
noncomputable def qa_fX6_add (R : Nat) (a1 : Int32) (a2 : Int32) (a3 : Int32) (σ : qa_T) : (Int32 × qa_T) :=
    let v1 : Int32 := (σ.1 (R, 1) 0)
    let σ2 := qa_fX9_set (R, 2) 16 v1 a1 σ
    let σ3 := qa_fX9_set (R, 3) 16 v1 a2 σ2
    let σ4 := qa_fX9_set (R, 4) 16 v1 a3 σ3
    let σ5 := qa_wi σ4 (R, 1) 0 ((σ4.1 (R, 1) 0) + (Int32.ofInt 1))
    (v1, σ5)
set_option maxRecDepth 100000 in
theorem qa_tX6_add {L : Nat} {R : Nat} {a1 : Int32} {a2 : Int32} {a3 : Int32} (hR : qa_rg R) {σ : qa_T} {r : (Int32 × qa_T)} (h : qa_fX6_add R a1 a2 a3 σ = r) : qa_Bk (qa_ds L) qa_mX6_add 0 (qa_ag 0 [.inl (R, 1), .inr (.int a1), .inr (.int a2), .inr (.int a3)]) [] σ (.inl (some (.inr (.int r.1)))) r.2 := by
  unfold qa_fX6_add at h
  try dsimp only at h
  show qa_Bk (qa_ds L) qa_mX6_add 0 [(0, .inl (R, 1)), (1, .inr (.int a1)), (2, .inr (.int a2)), (3, .inr (.int a3))] [] σ _ _
  refine qa_bk_do (pc' := 1) rfl rfl ?_
  refine qa_bk_gi rfl rfl (qa_ds1 hR) rfl ?_
  refine qa_bk_do (pc' := 6) (lv' := [(4, _), (0, _), (1, _), (2, _), (3, _)]) rfl rfl ?_
  refine qa_bk_do (pc' := 7) rfl rfl ?_
  refine qa_bk_gr rfl rfl (qa_ds1 hR) rfl ?_
  refine qa_bk_do (pc' := 12) rfl rfl ?_
  refine qa_bk_do (pc' := 13) rfl rfl ?_
  refine qa_bk_cs (qa_tX9_set (qa_ds2 hR) (Nat.le_of_ble_eq_true rfl) rfl) rfl rfl rfl rfl rfl rfl rfl ?_
  refine qa_bk_do (pc' := 17) rfl rfl ?_
  refine qa_bk_gr rfl rfl (qa_ds1 hR) rfl ?_
  refine qa_bk_do (pc' := 22) rfl rfl ?_
  refine qa_bk_do (pc' := 23) rfl rfl ?_
  refine qa_bk_cs (qa_tX9_set (qa_ds3 hR) (Nat.le_of_ble_eq_true rfl) rfl) rfl rfl rfl rfl rfl rfl rfl ?_
  refine qa_bk_do (pc' := 27) rfl rfl ?_
  refine qa_bk_gr rfl rfl (qa_ds1 hR) rfl ?_
  refine qa_bk_do (pc' := 32) rfl rfl ?_
  refine qa_bk_do (pc' := 33) rfl rfl ?_
  refine qa_bk_cs (qa_tX9_set (qa_ds4 hR) (Nat.le_of_ble_eq_true rfl) rfl) rfl rfl rfl rfl rfl rfl rfl ?_
  refine qa_bk_do (pc' := 37) rfl rfl ?_
  refine qa_bk_do (pc' := 38) rfl rfl ?_
  refine qa_bk_gi rfl rfl (qa_ds1 hR) rfl ?_
  refine qa_bk_do (pc' := 42) rfl rfl ?_
  refine qa_bk_do (pc' := 43) rfl rfl ?_
  refine qa_bk_pf rfl rfl (qa_ds1 hR) rfl (qa_fiti _) rfl ?_
  refine qa_bk_do (pc' := 48) rfl rfl ?_
  subst h
  exact qa_bk_ri rfl rfl
noncomputable def qa_fX9_isWithin_14 (a1 : Int32) (a2 : Int32) (a3 : Int32) (σ : qa_T) : Bool :=
    false
noncomputable def qa_fX9_isWithin (a1 : Int32) (a2 : Int32) (a3 : Int32) (σ : qa_T) : Bool :=
    if a1 < a2 then
      qa_fX9_isWithin_14 a1 a2 a3 σ
    else
      if a3 < a1 then
        qa_fX9_isWithin_14 a1 a2 a3 σ
      else
        true
set_option maxRecDepth 100000 in
theorem qa_tX9_isWithin_14 {L : Nat} {a1 : Int32} {a2 : Int32} {a3 : Int32}  {σ : qa_T} {r : Bool} (h : qa_fX9_isWithin_14 a1 a2 a3 σ = r) : qa_Bk (qa_ds L) qa_mX9_isWithin 14 [(0, .inr (.int a1)), (1, .inr (.int a2)), (2, .inr (.int a3))] [] σ (.inl (some (.inr (.int (qa_bi r))))) σ := by
  unfold qa_fX9_isWithin_14 at h
  try dsimp only at h
  refine qa_bk_do (pc' := 15) rfl rfl ?_
  subst h
  exact qa_bk_rb rfl rfl rfl
set_option maxRecDepth 100000 in
theorem qa_tX9_isWithin {L : Nat} {a1 : Int32} {a2 : Int32} {a3 : Int32}  {σ : qa_T} {r : Bool} (h : qa_fX9_isWithin a1 a2 a3 σ = r) : qa_Bk (qa_ds L) qa_mX9_isWithin 0 (qa_ag 0 [.inr (.int a1), .inr (.int a2), .inr (.int a3)]) [] σ (.inl (some (.inr (.int (qa_bi r))))) σ := by
  unfold qa_fX9_isWithin at h
  try dsimp only at h
  show qa_Bk (qa_ds L) qa_mX9_isWithin 0 [(0, .inr (.int a1)), (1, .inr (.int a2)), (2, .inr (.int a3))] [] σ _ _
  refine qa_bk_do (pc' := 1) rfl rfl ?_
  refine qa_bk_do (pc' := 2) rfl rfl ?_
  rcases qa_ite h with ⟨hc1, h⟩ | ⟨hc1, h⟩
  · refine qa_bk_1t (a := 14) (b := 5) hc1 rfl rfl ?_
    exact qa_bk_lw (qa_tX9_isWithin_14  h) rfl rfl (And.intro rfl (And.intro rfl (And.intro rfl (trivial))))
  · refine qa_bk_1f (a := 14) (b := 5) hc1 rfl rfl ?_
    refine qa_bk_do (pc' := 6) rfl rfl ?_
    refine qa_bk_do (pc' := 7) rfl rfl ?_
    rcases qa_ite h with ⟨hc2, h⟩ | ⟨hc2, h⟩
    · refine qa_bk_1t (a := 14) (b := 10) hc2 rfl rfl ?_
      exact qa_bk_lw (qa_tX9_isWithin_14  h) rfl rfl (And.intro rfl (And.intro rfl (And.intro rfl (trivial))))
    · refine qa_bk_1f (a := 14) (b := 10) hc2 rfl rfl ?_
      refine qa_bk_do (pc' := 11) rfl rfl ?_
      refine qa_bk_do (pc' := 15) rfl rfl ?_
      subst h
      exact qa_bk_rb rfl rfl rfl
noncomputable def qa_fX9_addSlide_58 (a1 : Int32) (a2 : Int32) (a3 : Int32) (y0 : Int32) (σ : qa_T) : Option ((Int32 ⊕ Nat) × qa_T) :=
    if y0 = 0 then
      some (.inr 348, σ)
    else
    (qa_fX5_push 1 σ).bind fun c5 =>
    let c7 := qa_fX6_add 1 a1 a2 a3 c5
    (qa_fX1_beginLoading 1 c7.2).bind fun c8 =>
    some (.inl c7.1, c8)
noncomputable def qa_fX9_addSlide_35 (a1 : Int32) (a2 : Int32) (a3 : Int32) (y0 : Int32) (σ : qa_T) : Option ((Int32 ⊕ Nat) × qa_T) :=
    if y0 = 0 then
      some (.inr 342, σ)
    else
    if ((Int8.ofInt 16).toInt32) ≤ (σ.1 (1, 1) 0) then
      qa_fX9_addSlide_58 a1 a2 a3 (Int32.ofInt 0) σ
    else
      qa_fX9_addSlide_58 a1 a2 a3 (Int32.ofInt 1) σ
noncomputable def qa_fX9_addSlide_34 (a1 : Int32) (a2 : Int32) (a3 : Int32) (σ : qa_T) : Option ((Int32 ⊕ Nat) × qa_T) :=
    qa_fX9_addSlide_35 a1 a2 a3 (Int32.ofInt 0) σ
noncomputable def qa_fX9_addSlide (a1 : Int32) (a2 : Int32) (a3 : Int32) (σ : qa_T) : Option ((Int32 ⊕ Nat) × qa_T) :=
    if (qa_bi (qa_fX9_isWithin a1 (Int32.ofInt 1) ((Int8.ofInt 50).toInt32) σ)) = 0 then
      qa_fX9_addSlide_34 a1 a2 a3 σ
    else
      if (qa_bi (qa_fX9_isWithin a2 (Int32.ofInt 1) ((Int8.ofInt 20).toInt32) σ)) = 0 then
        qa_fX9_addSlide_34 a1 a2 a3 σ
      else
        if (qa_bi (qa_fX9_isWithin a3 (Int32.ofInt 0) ((Int8.ofInt 10).toInt32) σ)) = 0 then
          qa_fX9_addSlide_34 a1 a2 a3 σ
        else
          qa_fX9_addSlide_35 a1 a2 a3 (Int32.ofInt 1) σ
set_option maxRecDepth 100000 in
theorem qa_tX9_addSlide_58 {L : Nat} {a1 : Int32} {a2 : Int32} {a3 : Int32}  {y0 : Int32} {σ : qa_T} {r : ((Int32 ⊕ Nat) × qa_T)} (h : qa_fX9_addSlide_58 a1 a2 a3 y0 σ = some r) : qa_Bk (qa_ds L) qa_mX9_addSlide 58 [(0, .inl (0, 1)), (1, .inr (.int a1)), (2, .inr (.int a2)), (3, .inr (.int a3))] [.inr (.int y0)] σ (qa_ri r.1) r.2 := by
  unfold qa_fX9_addSlide_58 at h
  try dsimp only at h
  rcases qa_ite h with ⟨hc4, h⟩ | ⟨hc4, h⟩
  · cases h
    exact qa_bk_cx (qa_tX9_needState_x hc4) rfl rfl rfl rfl rfl rfl rfl rfl
  refine qa_bk_cs (qa_tX9_needState_o hc4) rfl rfl rfl rfl rfl rfl rfl ?_
  refine qa_bk_do (pc' := 62) rfl rfl ?_
  refine qa_bk_gr rfl rfl qa_dx_0_1 rfl ?_
  refine qa_bk_do (pc' := 66) rfl rfl ?_
  refine qa_bk_gr rfl rfl qa_dx_0_1 rfl ?_
  obtain ⟨c5, hc6, h⟩ := Option.bind_eq_some_iff.mp h
  refine qa_bk_cv (qa_tX5_push qa_rg_1 hc6) rfl rfl rfl rfl rfl rfl rfl qa_dx_2_18 ?_
  refine qa_bk_do (pc' := 73) rfl rfl ?_
  refine qa_bk_gr rfl rfl qa_dx_0_1 rfl ?_
  refine qa_bk_gr rfl rfl (qa_ds0 qa_rg_1) rfl ?_
  refine qa_bk_do (pc' := 80) rfl rfl ?_
  refine qa_bk_do (pc' := 81) rfl rfl ?_
  refine qa_bk_do (pc' := 82) rfl rfl ?_
  refine qa_bk_cv (qa_tX6_add qa_rg_1 rfl) rfl rfl rfl rfl rfl rfl rfl (qa_ds1 qa_rg_1) ?_
  refine qa_bk_do (pc' := 87) (lv' := [(4, _), (0, _), (1, _), (2, _), (3, _)]) rfl rfl ?_
  refine qa_bk_do (pc' := 88) rfl rfl ?_
  refine qa_bk_gr rfl rfl qa_dx_0_1 rfl ?_
  obtain ⟨c8, hc9, h⟩ := Option.bind_eq_some_iff.mp h
  refine qa_bk_cv (qa_tX1_beginLoading qa_rg_1 hc9) rfl rfl rfl rfl rfl rfl rfl (qa_ds0 qa_rg_1) ?_
  refine qa_bk_do (pc' := 96) rfl rfl ?_
  cases h
  exact qa_bk_ri rfl rfl
set_option maxRecDepth 100000 in
theorem qa_tX9_addSlide_35 {L : Nat} {a1 : Int32} {a2 : Int32} {a3 : Int32}  {y0 : Int32} {σ : qa_T} {r : ((Int32 ⊕ Nat) × qa_T)} (h : qa_fX9_addSlide_35 a1 a2 a3 y0 σ = some r) : qa_Bk (qa_ds L) qa_mX9_addSlide 35 [(0, .inl (0, 1)), (1, .inr (.int a1)), (2, .inr (.int a2)), (3, .inr (.int a3))] [.inr (.int y0)] σ (qa_ri r.1) r.2 := by
  unfold qa_fX9_addSlide_35 at h
  try dsimp only at h
  rcases qa_ite h with ⟨hc2, h⟩ | ⟨hc2, h⟩
  · cases h
    exact qa_bk_cx (qa_tX9_needArgument_x hc2) rfl rfl rfl rfl rfl rfl rfl rfl
  refine qa_bk_cs (qa_tX9_needArgument_o hc2) rfl rfl rfl rfl rfl rfl rfl ?_
  refine qa_bk_do (pc' := 39) rfl rfl ?_
  refine qa_bk_gr rfl rfl qa_dx_0_1 rfl ?_
  refine qa_bk_gr rfl rfl (qa_ds0 qa_rg_1) rfl ?_
  refine qa_bk_gi rfl rfl (qa_ds1 qa_rg_1) rfl ?_
  refine qa_bk_do (pc' := 50) rfl rfl ?_
  rcases qa_ite h with ⟨hc3, h⟩ | ⟨hc3, h⟩
  · refine qa_bk_1t (a := 57) (b := 53) hc3 rfl rfl ?_
    refine qa_bk_do (pc' := 58) rfl rfl ?_
    exact qa_bk_lw (qa_tX9_addSlide_58  h) rfl rfl (And.intro rfl (And.intro rfl (And.intro rfl (And.intro rfl (trivial)))))
  · refine qa_bk_1f (a := 57) (b := 53) hc3 rfl rfl ?_
    refine qa_bk_do (pc' := 54) rfl rfl ?_
    refine qa_bk_do (pc' := 58) rfl rfl ?_
    exact qa_bk_lw (qa_tX9_addSlide_58  h) rfl rfl (And.intro rfl (And.intro rfl (And.intro rfl (And.intro rfl (trivial)))))
set_option maxRecDepth 100000 in
theorem qa_tX9_addSlide_34 {L : Nat} {a1 : Int32} {a2 : Int32} {a3 : Int32}  {σ : qa_T} {r : ((Int32 ⊕ Nat) × qa_T)} (h : qa_fX9_addSlide_34 a1 a2 a3 σ = some r) : qa_Bk (qa_ds L) qa_mX9_addSlide 34 [(0, .inl (0, 1)), (1, .inr (.int a1)), (2, .inr (.int a2)), (3, .inr (.int a3))] [] σ (qa_ri r.1) r.2 := by
  unfold qa_fX9_addSlide_34 at h
  try dsimp only at h
  refine qa_bk_do (pc' := 35) rfl rfl ?_
  exact qa_bk_lw (qa_tX9_addSlide_35  h) rfl rfl (And.intro rfl (And.intro rfl (And.intro rfl (And.intro rfl (trivial)))))
set_option maxRecDepth 100000 in
theorem qa_tX9_addSlide {L : Nat} {a1 : Int32} {a2 : Int32} {a3 : Int32}  {σ : qa_T} {r : ((Int32 ⊕ Nat) × qa_T)} (h : qa_fX9_addSlide a1 a2 a3 σ = some r) : qa_Bk (qa_ds L) qa_mX9_addSlide 0 (qa_ag 0 [.inl (0, 1), .inr (.int a1), .inr (.int a2), .inr (.int a3)]) [] σ (qa_ri r.1) r.2 := by
  unfold qa_fX9_addSlide at h
  try dsimp only at h
  show qa_Bk (qa_ds L) qa_mX9_addSlide 0 [(0, .inl (0, 1)), (1, .inr (.int a1)), (2, .inr (.int a2)), (3, .inr (.int a3))] [] σ _ _
  refine qa_bk_do (pc' := 1) rfl rfl ?_
  refine qa_bk_do (pc' := 2) rfl rfl ?_
  refine qa_bk_do (pc' := 4) rfl rfl ?_
  refine qa_bk_cs (qa_tX9_isWithin rfl) rfl rfl rfl rfl rfl rfl rfl ?_
  rcases qa_ite h with ⟨hc1, h⟩ | ⟨hc1, h⟩
  · refine qa_bk_1t (a := 34) (b := 10) hc1 rfl rfl ?_
    exact qa_bk_lw (qa_tX9_addSlide_34  h) rfl rfl (And.intro rfl (And.intro rfl (And.intro rfl (And.intro rfl (trivial)))))
  · refine qa_bk_1f (a := 34) (b := 10) hc1 rfl rfl ?_
    refine qa_bk_do (pc' := 11) rfl rfl ?_
    refine qa_bk_do (pc' := 12) rfl rfl ?_
    refine qa_bk_do (pc' := 14) rfl rfl ?_
    refine qa_bk_cs (qa_tX9_isWithin rfl) rfl rfl rfl rfl rfl rfl rfl ?_
    rcases qa_ite h with ⟨hc10, h⟩ | ⟨hc10, h⟩
    · refine qa_bk_1t (a := 34) (b := 20) hc10 rfl rfl ?_
      exact qa_bk_lw (qa_tX9_addSlide_34  h) rfl rfl (And.intro rfl (And.intro rfl (And.intro rfl (And.intro rfl (trivial)))))
    · refine qa_bk_1f (a := 34) (b := 20) hc10 rfl rfl ?_
      refine qa_bk_do (pc' := 21) rfl rfl ?_
      refine qa_bk_do (pc' := 22) rfl rfl ?_
      refine qa_bk_do (pc' := 24) rfl rfl ?_
      refine qa_bk_cs (qa_tX9_isWithin rfl) rfl rfl rfl rfl rfl rfl rfl ?_
      rcases qa_ite h with ⟨hc11, h⟩ | ⟨hc11, h⟩
      · refine qa_bk_1t (a := 34) (b := 30) hc11 rfl rfl ?_
        exact qa_bk_lw (qa_tX9_addSlide_34  h) rfl rfl (And.intro rfl (And.intro rfl (And.intro rfl (And.intro rfl (trivial)))))
      · refine qa_bk_1f (a := 34) (b := 30) hc11 rfl rfl ?_
        refine qa_bk_do (pc' := 31) rfl rfl ?_
        refine qa_bk_do (pc' := 35) rfl rfl ?_
        exact qa_bk_lw (qa_tX9_addSlide_35  h) rfl rfl (And.intro rfl (And.intro rfl (And.intro rfl (And.intro rfl (trivial)))))
noncomputable def qa_fX9_insert_60 (a1 : Int32) (a2 : Int32) (y0 : Int32) (σ : qa_T) : Option ((Int32 ⊕ Nat) × qa_T) :=
    if y0 = 0 then
      some (.inr 348, σ)
    else
    (qa_fX5_push 1 σ).bind fun c5 =>
    (qa_fX3_put 1 a1 a2 c5).bind fun c7 =>
    (qa_fX1_beginLoading 1 c7).bind fun c9 =>
    some (.inl (c9.1 (1, 9) 0), c9)
noncomputable def qa_fX9_insert_37 (a1 : Int32) (a2 : Int32) (y0 : Int32) (σ : qa_T) : Option ((Int32 ⊕ Nat) × qa_T) :=
    if y0 = 0 then
      some (.inr 345, σ)
    else
    if ((Int8.ofInt 24).toInt32) ≤ (σ.1 (1, 9) 0) then
      qa_fX9_insert_60 a1 a2 (Int32.ofInt 0) σ
    else
      qa_fX9_insert_60 a1 a2 (Int32.ofInt 1) σ
noncomputable def qa_fX9_insert_36 (a1 : Int32) (a2 : Int32) (σ : qa_T) : Option ((Int32 ⊕ Nat) × qa_T) :=
    qa_fX9_insert_37 a1 a2 (Int32.ofInt 0) σ
noncomputable def qa_fX9_insert (a1 : Int32) (a2 : Int32) (σ : qa_T) : Option ((Int32 ⊕ Nat) × qa_T) :=
    if (qa_bi (qa_fX9_isWithin a1 (Int32.ofInt 0) (σ.1 (1, 9) 0) σ)) = 0 then
      qa_fX9_insert_36 a1 a2 σ
    else
      if (qa_bi (qa_fX6_has 1 a2 σ)) = 0 then
        qa_fX9_insert_36 a1 a2 σ
      else
        qa_fX9_insert_37 a1 a2 (Int32.ofInt 1) σ
set_option maxRecDepth 100000 in
theorem qa_tX9_insert_60 {L : Nat} {a1 : Int32} {a2 : Int32}  {y0 : Int32} {σ : qa_T} {r : ((Int32 ⊕ Nat) × qa_T)} (h : qa_fX9_insert_60 a1 a2 y0 σ = some r) : qa_Bk (qa_ds L) qa_mX9_insert 60 [(0, .inl (0, 1)), (1, .inr (.int a1)), (2, .inr (.int a2))] [.inr (.int y0)] σ (qa_ri r.1) r.2 := by
  unfold qa_fX9_insert_60 at h
  try dsimp only at h
  rcases qa_ite h with ⟨hc4, h⟩ | ⟨hc4, h⟩
  · cases h
    exact qa_bk_cx (qa_tX9_needState_x hc4) rfl rfl rfl rfl rfl rfl rfl rfl
  refine qa_bk_cs (qa_tX9_needState_o hc4) rfl rfl rfl rfl rfl rfl rfl ?_
  refine qa_bk_do (pc' := 64) rfl rfl ?_
  refine qa_bk_gr rfl rfl qa_dx_0_1 rfl ?_
  refine qa_bk_do (pc' := 68) rfl rfl ?_
  refine qa_bk_gr rfl rfl qa_dx_0_1 rfl ?_
  obtain ⟨c5, hc6, h⟩ := Option.bind_eq_some_iff.mp h
  refine qa_bk_cv (qa_tX5_push qa_rg_1 hc6) rfl rfl rfl rfl rfl rfl rfl qa_dx_2_18 ?_
  refine qa_bk_do (pc' := 75) rfl rfl ?_
  refine qa_bk_gr rfl rfl qa_dx_0_1 rfl ?_
  refine qa_bk_gr rfl rfl (qa_ds0 qa_rg_1) rfl ?_
  refine qa_bk_do (pc' := 82) rfl rfl ?_
  refine qa_bk_do (pc' := 83) rfl rfl ?_
  obtain ⟨c7, hc8, h⟩ := Option.bind_eq_some_iff.mp h
  refine qa_bk_cv (qa_tX3_put qa_rg_1 hc8) rfl rfl rfl rfl rfl rfl rfl (qa_ds9 qa_rg_1) ?_
  refine qa_bk_do (pc' := 87) rfl rfl ?_
  refine qa_bk_gr rfl rfl qa_dx_0_1 rfl ?_
  obtain ⟨c9, hc10, h⟩ := Option.bind_eq_some_iff.mp h
  refine qa_bk_cv (qa_tX1_beginLoading qa_rg_1 hc10) rfl rfl rfl rfl rfl rfl rfl (qa_ds0 qa_rg_1) ?_
  refine qa_bk_do (pc' := 94) rfl rfl ?_
  refine qa_bk_gr rfl rfl qa_dx_0_1 rfl ?_
  refine qa_bk_gr rfl rfl (qa_ds0 qa_rg_1) rfl ?_
  refine qa_bk_gi rfl rfl (qa_ds9 qa_rg_1) rfl ?_
  cases h
  exact qa_bk_ri rfl rfl
set_option maxRecDepth 100000 in
theorem qa_tX9_insert_37 {L : Nat} {a1 : Int32} {a2 : Int32}  {y0 : Int32} {σ : qa_T} {r : ((Int32 ⊕ Nat) × qa_T)} (h : qa_fX9_insert_37 a1 a2 y0 σ = some r) : qa_Bk (qa_ds L) qa_mX9_insert 37 [(0, .inl (0, 1)), (1, .inr (.int a1)), (2, .inr (.int a2))] [.inr (.int y0)] σ (qa_ri r.1) r.2 := by
  unfold qa_fX9_insert_37 at h
  try dsimp only at h
  rcases qa_ite h with ⟨hc2, h⟩ | ⟨hc2, h⟩
  · cases h
    exact qa_bk_cx (qa_tX9_needIndex_x hc2) rfl rfl rfl rfl rfl rfl rfl rfl
  refine qa_bk_cs (qa_tX9_needIndex_o hc2) rfl rfl rfl rfl rfl rfl rfl ?_
  refine qa_bk_do (pc' := 41) rfl rfl ?_
  refine qa_bk_gr rfl rfl qa_dx_0_1 rfl ?_
  refine qa_bk_gr rfl rfl (qa_ds0 qa_rg_1) rfl ?_
  refine qa_bk_gi rfl rfl (qa_ds9 qa_rg_1) rfl ?_
  refine qa_bk_do (pc' := 52) rfl rfl ?_
  rcases qa_ite h with ⟨hc3, h⟩ | ⟨hc3, h⟩
  · refine qa_bk_1t (a := 59) (b := 55) hc3 rfl rfl ?_
    refine qa_bk_do (pc' := 60) rfl rfl ?_
    exact qa_bk_lw (qa_tX9_insert_60  h) rfl rfl (And.intro rfl (And.intro rfl (And.intro rfl (trivial))))
  · refine qa_bk_1f (a := 59) (b := 55) hc3 rfl rfl ?_
    refine qa_bk_do (pc' := 56) rfl rfl ?_
    refine qa_bk_do (pc' := 60) rfl rfl ?_
    exact qa_bk_lw (qa_tX9_insert_60  h) rfl rfl (And.intro rfl (And.intro rfl (And.intro rfl (trivial))))
set_option maxRecDepth 100000 in
theorem qa_tX9_insert_36 {L : Nat} {a1 : Int32} {a2 : Int32}  {σ : qa_T} {r : ((Int32 ⊕ Nat) × qa_T)} (h : qa_fX9_insert_36 a1 a2 σ = some r) : qa_Bk (qa_ds L) qa_mX9_insert 36 [(0, .inl (0, 1)), (1, .inr (.int a1)), (2, .inr (.int a2))] [] σ (qa_ri r.1) r.2 := by
  unfold qa_fX9_insert_36 at h
  try dsimp only at h
  refine qa_bk_do (pc' := 37) rfl rfl ?_
  exact qa_bk_lw (qa_tX9_insert_37  h) rfl rfl (And.intro rfl (And.intro rfl (And.intro rfl (trivial))))
set_option maxRecDepth 100000 in
theorem qa_tX9_insert {L : Nat} {a1 : Int32} {a2 : Int32}  {σ : qa_T} {r : ((Int32 ⊕ Nat) × qa_T)} (h : qa_fX9_insert a1 a2 σ = some r) : qa_Bk (qa_ds L) qa_mX9_insert 0 (qa_ag 0 [.inl (0, 1), .inr (.int a1), .inr (.int a2)]) [] σ (qa_ri r.1) r.2 := by
  unfold qa_fX9_insert at h
  try dsimp only at h
  show qa_Bk (qa_ds L) qa_mX9_insert 0 [(0, .inl (0, 1)), (1, .inr (.int a1)), (2, .inr (.int a2))] [] σ _ _
  refine qa_bk_do (pc' := 1) rfl rfl ?_
  refine qa_bk_do (pc' := 2) rfl rfl ?_
  refine qa_bk_do (pc' := 3) rfl rfl ?_
  refine qa_bk_gr rfl rfl qa_dx_0_1 rfl ?_
  refine qa_bk_gr rfl rfl (qa_ds0 qa_rg_1) rfl ?_
  refine qa_bk_gi rfl rfl (qa_ds9 qa_rg_1) rfl ?_
  refine qa_bk_cs (qa_tX9_isWithin rfl) rfl rfl rfl rfl rfl rfl rfl ?_
  rcases qa_ite h with ⟨hc1, h⟩ | ⟨hc1, h⟩
  · refine qa_bk_1t (a := 36) (b := 18) hc1 rfl rfl ?_
    exact qa_bk_lw (qa_tX9_insert_36  h) rfl rfl (And.intro rfl (And.intro rfl (And.intro rfl (trivial))))
  · refine qa_bk_1f (a := 36) (b := 18) hc1 rfl rfl ?_
    refine qa_bk_do (pc' := 19) rfl rfl ?_
    refine qa_bk_gr rfl rfl qa_dx_0_1 rfl ?_
    refine qa_bk_gr rfl rfl (qa_ds0 qa_rg_1) rfl ?_
    refine qa_bk_do (pc' := 26) rfl rfl ?_
    refine qa_bk_cv (qa_tX6_has qa_rg_1 rfl) rfl rfl rfl rfl rfl rfl rfl (qa_ds1 qa_rg_1) ?_
    rcases qa_ite h with ⟨hc11, h⟩ | ⟨hc11, h⟩
    · refine qa_bk_1t (a := 36) (b := 32) hc11 rfl rfl ?_
      exact qa_bk_lw (qa_tX9_insert_36  h) rfl rfl (And.intro rfl (And.intro rfl (And.intro rfl (trivial))))
    · refine qa_bk_1f (a := 36) (b := 32) hc11 rfl rfl ?_
      refine qa_bk_do (pc' := 33) rfl rfl ?_
      refine qa_bk_do (pc' := 37) rfl rfl ?_
      exact qa_bk_lw (qa_tX9_insert_37  h) rfl rfl (And.intro rfl (And.intro rfl (And.intro rfl (trivial))))
noncomputable def qa_fX9_takeOut (a1 : Int32) (σ : qa_T) : Option ((Int32 ⊕ Nat) × qa_T) :=
    if (qa_bi (qa_fX3_has 1 a1 σ)) = 0 then
      some (.inr 345, σ)
    else
    (qa_fX5_push 1 σ).bind fun c2 =>
    (qa_fX3_remove 1 a1 c2).bind fun c4 =>
    (qa_fX1_beginLoading 1 c4.2).bind fun c6 =>
    some (.inl c4.1, c6)
set_option maxRecDepth 100000 in
theorem qa_tX9_takeOut {L : Nat} {a1 : Int32}  {σ : qa_T} {r : ((Int32 ⊕ Nat) × qa_T)} (h : qa_fX9_takeOut a1 σ = some r) : qa_Bk (qa_ds L) qa_mX9_takeOut 0 (qa_ag 0 [.inl (0, 1), .inr (.int a1)]) [] σ (qa_ri r.1) r.2 := by
  unfold qa_fX9_takeOut at h
  try dsimp only at h
  show qa_Bk (qa_ds L) qa_mX9_takeOut 0 [(0, .inl (0, 1)), (1, .inr (.int a1))] [] σ _ _
  refine qa_bk_do (pc' := 1) rfl rfl ?_
  refine qa_bk_gr rfl rfl qa_dx_0_1 rfl ?_
  refine qa_bk_gr rfl rfl (qa_ds0 qa_rg_1) rfl ?_
  refine qa_bk_do (pc' := 8) rfl rfl ?_
  refine qa_bk_cv (qa_tX3_has qa_rg_1 rfl) rfl rfl rfl rfl rfl rfl rfl (qa_ds9 qa_rg_1) ?_
  rcases qa_ite h with ⟨hc1, h⟩ | ⟨hc1, h⟩
  · cases h
    exact qa_bk_cx (qa_tX9_needIndex_x hc1) rfl rfl rfl rfl rfl rfl rfl rfl
  refine qa_bk_cs (qa_tX9_needIndex_o hc1) rfl rfl rfl rfl rfl rfl rfl ?_
  refine qa_bk_do (pc' := 15) rfl rfl ?_
  refine qa_bk_gr rfl rfl qa_dx_0_1 rfl ?_
  refine qa_bk_do (pc' := 19) rfl rfl ?_
  refine qa_bk_gr rfl rfl qa_dx_0_1 rfl ?_
  obtain ⟨c2, hc3, h⟩ := Option.bind_eq_some_iff.mp h
  refine qa_bk_cv (qa_tX5_push qa_rg_1 hc3) rfl rfl rfl rfl rfl rfl rfl qa_dx_2_18 ?_
  refine qa_bk_do (pc' := 26) rfl rfl ?_
  refine qa_bk_gr rfl rfl qa_dx_0_1 rfl ?_
  refine qa_bk_gr rfl rfl (qa_ds0 qa_rg_1) rfl ?_
  refine qa_bk_do (pc' := 33) rfl rfl ?_
  obtain ⟨c4, hc5, h⟩ := Option.bind_eq_some_iff.mp h
  refine qa_bk_cv (qa_tX3_remove qa_rg_1 hc5) rfl rfl rfl rfl rfl rfl rfl (qa_ds9 qa_rg_1) ?_
  refine qa_bk_do (pc' := 37) (lv' := [(2, _), (0, _), (1, _)]) rfl rfl ?_
  refine qa_bk_do (pc' := 38) rfl rfl ?_
  refine qa_bk_gr rfl rfl qa_dx_0_1 rfl ?_
  obtain ⟨c6, hc7, h⟩ := Option.bind_eq_some_iff.mp h
  refine qa_bk_cv (qa_tX1_beginLoading qa_rg_1 hc7) rfl rfl rfl rfl rfl rfl rfl (qa_ds0 qa_rg_1) ?_
  refine qa_bk_do (pc' := 45) rfl rfl ?_
  cases h
  exact qa_bk_ri rfl rfl
noncomputable def qa_fX9_goOn  (σ : qa_T) : Option ((Bool ⊕ Nat) × qa_T) :=
    if (qa_bi (qa_fX1_mayGoOn 1 σ)) = 0 then
      some (.inr 348, σ)
    else
    (qa_fX5_push 1 σ).bind fun c2 =>
    (qa_fX1_proceed 1 c2).bind fun c4 =>
    let v6 : Int32 := (qa_bi c4.1)
    (qa_fX1_beginLoading 1 c4.2).bind fun c7 =>
    some (.inl c4.1, c7)
set_option maxRecDepth 100000 in
theorem qa_tX9_goOn {L : Nat}   {σ : qa_T} {r : ((Bool ⊕ Nat) × qa_T)} (h : qa_fX9_goOn  σ = some r) : qa_Bk (qa_ds L) qa_mX9_goOn 0 (qa_ag 0 [.inl (0, 1)]) [] σ (qa_rz r.1) r.2 := by
  unfold qa_fX9_goOn at h
  try dsimp only at h
  show qa_Bk (qa_ds L) qa_mX9_goOn 0 [(0, .inl (0, 1))] [] σ _ _
  refine qa_bk_do (pc' := 1) rfl rfl ?_
  refine qa_bk_gr rfl rfl qa_dx_0_1 rfl ?_
  refine qa_bk_cv (qa_tX1_mayGoOn qa_rg_1 rfl) rfl rfl rfl rfl rfl rfl rfl (qa_ds0 qa_rg_1) ?_
  rcases qa_ite h with ⟨hc1, h⟩ | ⟨hc1, h⟩
  · cases h
    exact qa_bk_cx (qa_tX9_needState_x hc1) rfl rfl rfl rfl rfl rfl rfl rfl
  refine qa_bk_cs (qa_tX9_needState_o hc1) rfl rfl rfl rfl rfl rfl rfl ?_
  refine qa_bk_do (pc' := 11) rfl rfl ?_
  refine qa_bk_gr rfl rfl qa_dx_0_1 rfl ?_
  refine qa_bk_do (pc' := 15) rfl rfl ?_
  refine qa_bk_gr rfl rfl qa_dx_0_1 rfl ?_
  obtain ⟨c2, hc3, h⟩ := Option.bind_eq_some_iff.mp h
  refine qa_bk_cv (qa_tX5_push qa_rg_1 hc3) rfl rfl rfl rfl rfl rfl rfl qa_dx_2_18 ?_
  refine qa_bk_do (pc' := 22) rfl rfl ?_
  refine qa_bk_gr rfl rfl qa_dx_0_1 rfl ?_
  obtain ⟨c4, hc5, h⟩ := Option.bind_eq_some_iff.mp h
  refine qa_bk_cv (qa_tX1_proceed qa_rg_1 hc5) rfl rfl rfl rfl rfl rfl rfl (qa_ds0 qa_rg_1) ?_
  refine qa_bk_do (pc' := 29) (lv' := [(1, _), (0, _)]) rfl rfl ?_
  refine qa_bk_do (pc' := 30) rfl rfl ?_
  refine qa_bk_gr rfl rfl qa_dx_0_1 rfl ?_
  obtain ⟨c7, hc8, h⟩ := Option.bind_eq_some_iff.mp h
  refine qa_bk_cv (qa_tX1_beginLoading qa_rg_1 hc8) rfl rfl rfl rfl rfl rfl rfl (qa_ds0 qa_rg_1) ?_
  refine qa_bk_do (pc' := 37) rfl rfl ?_
  cases h
  exact qa_bk_rb rfl rfl rfl
noncomputable def qa_fX9_ask (a1 : Int32) (σ : qa_T) : Option ((Int32 ⊕ Nat) × qa_T) :=
    if (qa_bi (qa_fX6_has 1 a1 σ)) = 0 then
      some (.inr 345, σ)
    else
    (qa_fX1_mayAsk 1 a1 σ).bind fun c2 =>
    if (qa_bi c2) = 0 then
      some (.inr 348, σ)
    else
    (qa_fX5_push 1 σ).bind fun c5 =>
    let σ7 := qa_fX2_queue 1 a1 c5
    (qa_fX1_beginLoading 1 σ7).bind fun c8 =>
    some (.inl (c8.1 (1, 12) 2), c8)
set_option maxRecDepth 100000 in
theorem qa_tX9_ask {L : Nat} {a1 : Int32}  {σ : qa_T} {r : ((Int32 ⊕ Nat) × qa_T)} (h : qa_fX9_ask a1 σ = some r) : qa_Bk (qa_ds L) qa_mX9_ask 0 (qa_ag 0 [.inl (0, 1), .inr (.int a1)]) [] σ (qa_ri r.1) r.2 := by
  unfold qa_fX9_ask at h
  try dsimp only at h
  show qa_Bk (qa_ds L) qa_mX9_ask 0 [(0, .inl (0, 1)), (1, .inr (.int a1))] [] σ _ _
  refine qa_bk_do (pc' := 1) rfl rfl ?_
  refine qa_bk_gr rfl rfl qa_dx_0_1 rfl ?_
  refine qa_bk_gr rfl rfl (qa_ds0 qa_rg_1) rfl ?_
  refine qa_bk_do (pc' := 8) rfl rfl ?_
  refine qa_bk_cv (qa_tX6_has qa_rg_1 rfl) rfl rfl rfl rfl rfl rfl rfl (qa_ds1 qa_rg_1) ?_
  rcases qa_ite h with ⟨hc1, h⟩ | ⟨hc1, h⟩
  · cases h
    exact qa_bk_cx (qa_tX9_needIndex_x hc1) rfl rfl rfl rfl rfl rfl rfl rfl
  refine qa_bk_cs (qa_tX9_needIndex_o hc1) rfl rfl rfl rfl rfl rfl rfl ?_
  refine qa_bk_do (pc' := 15) rfl rfl ?_
  refine qa_bk_gr rfl rfl qa_dx_0_1 rfl ?_
  refine qa_bk_do (pc' := 19) rfl rfl ?_
  obtain ⟨c2, hc3, h⟩ := Option.bind_eq_some_iff.mp h
  refine qa_bk_cv (qa_tX1_mayAsk qa_rg_1 hc3) rfl rfl rfl rfl rfl rfl rfl (qa_ds0 qa_rg_1) ?_
  rcases qa_ite h with ⟨hc4, h⟩ | ⟨hc4, h⟩
  · cases h
    exact qa_bk_cx (qa_tX9_needState_x hc4) rfl rfl rfl rfl rfl rfl rfl rfl
  refine qa_bk_cs (qa_tX9_needState_o hc4) rfl rfl rfl rfl rfl rfl rfl ?_
  refine qa_bk_do (pc' := 26) rfl rfl ?_
  refine qa_bk_gr rfl rfl qa_dx_0_1 rfl ?_
  refine qa_bk_do (pc' := 30) rfl rfl ?_
  refine qa_bk_gr rfl rfl qa_dx_0_1 rfl ?_
  obtain ⟨c5, hc6, h⟩ := Option.bind_eq_some_iff.mp h
  refine qa_bk_cv (qa_tX5_push qa_rg_1 hc6) rfl rfl rfl rfl rfl rfl rfl qa_dx_2_18 ?_
  refine qa_bk_do (pc' := 37) rfl rfl ?_
  refine qa_bk_gr rfl rfl qa_dx_0_1 rfl ?_
  refine qa_bk_gr rfl rfl (qa_ds0 qa_rg_1) rfl ?_
  refine qa_bk_do (pc' := 44) rfl rfl ?_
  refine qa_bk_cv (qa_tX2_queue qa_rg_1 rfl) rfl rfl rfl rfl rfl rfl rfl (qa_ds12 qa_rg_1) ?_
  refine qa_bk_do (pc' := 48) rfl rfl ?_
  refine qa_bk_gr rfl rfl qa_dx_0_1 rfl ?_
  obtain ⟨c8, hc9, h⟩ := Option.bind_eq_some_iff.mp h
  refine qa_bk_cv (qa_tX1_beginLoading qa_rg_1 hc9) rfl rfl rfl rfl rfl rfl rfl (qa_ds0 qa_rg_1) ?_
  refine qa_bk_do (pc' := 55) rfl rfl ?_
  refine qa_bk_gr rfl rfl qa_dx_0_1 rfl ?_
  refine qa_bk_gr rfl rfl (qa_ds0 qa_rg_1) rfl ?_
  refine qa_bk_gi rfl rfl (qa_ds12 qa_rg_1) rfl ?_
  cases h
  exact qa_bk_ri rfl rfl
