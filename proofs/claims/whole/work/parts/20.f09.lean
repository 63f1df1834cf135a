/-! the methods as functions (written by wip/tools/gen.py) -/
noncomputable def qa_fX9_mixProgramme_19 (a1 : Int64) : Nat → Int64 → Int32 → qa_T → Option Int64
  | 0, _, _, _ => none
  | n + 1, x3, x5, σ =>
    if (σ.1 (1, 9) 0) ≤ x5 then
      let v3 : Int64 := (qa_fX9_mix x3 ((((σ.1 (1, 9) 1) + (Int32.ofInt 1))).toInt64) σ)
      let v4 : Int64 := (qa_fX9_mix v3 ((((σ.1 (1, 11) 0) + (Int32.ofInt 1))).toInt64) σ)
      let v5 : Int64 := (qa_fX9_mix v4 ((((σ.1 (1, 11) 2) + (Int32.ofInt 1))).toInt64) σ)
      let v6 : Int64 := (qa_fX9_mix v5 (((σ.1 (1, 11) 3)).toInt64) σ)
      let v7 : Int64 := (qa_fX9_mix v6 ((((σ.1 (1, 11) 4) + (Int32.ofInt 1))).toInt64) σ)
      some (qa_fX9_mix v7 (((σ.1 (1, 11) 1)).toInt64) σ)
    else
      let v8 : Int64 := (qa_fX9_mix x3 (((qa_fX9_at (1, 10) 24 x5 σ)).toInt64) σ)
      let v9 : Int32 := x5 + Int32.ofInt 1
      qa_fX9_mixProgramme_19 a1 n v8 v9 σ
noncomputable def qa_fX9_mixProgramme (a1 : Int64) (σ : qa_T) : Option Int64 :=
    let v1 : Int64 := (qa_fX9_mix a1 (((σ.1 (1, 9) 0)).toInt64) σ)
    qa_fX9_mixProgramme_19 a1 qa_fu v1 (Int32.ofInt 0) σ
set_option maxRecDepth 100000 in
theorem qa_tX9_mixProgramme_19 {L : Nat} {a1 : Int64}  : ∀ (n : Nat) (x3 : Int64) (x5 : Int32) (σ : qa_T) (r : Int64), qa_fX9_mixProgramme_19 a1 n x3 x5 σ = some r → qa_Bk (qa_ds L) qa_mX9_mixProgramme 19 [(0, .inl (0, 1)), (1, .inr (.long a1)), (3, .inr (.long x3)), (5, .inr (.int x5))] [] σ (.inl (some (.inr (.long r)))) σ := by
  intro n
  induction n with
  | zero => intro x3 x5 σ r h; cases h
  | succ n ih =>
    intro x3 x5 σ r h
    unfold qa_fX9_mixProgramme_19 at h
    try dsimp only at h
    refine qa_bk_do (pc' := 21) rfl rfl ?_
    refine qa_bk_do (pc' := 22) rfl rfl ?_
    refine qa_bk_gr rfl rfl qa_dx_0_1 rfl ?_
    refine qa_bk_gr rfl rfl (qa_ds0 qa_rg_1) rfl ?_
    refine qa_bk_gi rfl rfl (qa_ds9 qa_rg_1) rfl ?_
    rcases qa_ite h with ⟨hc2, h⟩ | ⟨hc2, h⟩
    · refine qa_bk_1t (a := 61) (b := 34) hc2 rfl rfl ?_
      refine qa_bk_do (pc' := 62) rfl rfl ?_
      refine qa_bk_do (pc' := 63) rfl rfl ?_
      refine qa_bk_gr rfl rfl qa_dx_0_1 rfl ?_
      refine qa_bk_gr rfl rfl (qa_ds0 qa_rg_1) rfl ?_
      refine qa_bk_gi rfl rfl (qa_ds9 qa_rg_1) rfl ?_
      refine qa_bk_do (pc' := 73) rfl rfl ?_
      refine qa_bk_do (pc' := 74) rfl rfl ?_
      refine qa_bk_do (pc' := 75) rfl rfl ?_
      refine qa_bk_cs (qa_tX9_mix rfl) rfl rfl rfl rfl rfl rfl rfl ?_
      refine qa_bk_do (pc' := 79) (lv' := [(3, _), (0, _), (1, _), (5, _)]) rfl rfl ?_
      refine qa_bk_do (pc' := 80) rfl rfl ?_
      refine qa_bk_do (pc' := 81) rfl rfl ?_
      refine qa_bk_gr rfl rfl qa_dx_0_1 rfl ?_
      refine qa_bk_gr rfl rfl (qa_ds0 qa_rg_1) rfl ?_
      refine qa_bk_gi rfl rfl (qa_ds11 qa_rg_1) rfl ?_
      refine qa_bk_do (pc' := 91) rfl rfl ?_
      refine qa_bk_do (pc' := 92) rfl rfl ?_
      refine qa_bk_do (pc' := 93) rfl rfl ?_
      refine qa_bk_cs (qa_tX9_mix rfl) rfl rfl rfl rfl rfl rfl rfl ?_
      refine qa_bk_do (pc' := 97) (lv' := [(3, _), (0, _), (1, _), (5, _)]) rfl rfl ?_
      refine qa_bk_do (pc' := 98) rfl rfl ?_
      refine qa_bk_do (pc' := 99) rfl rfl ?_
      refine qa_bk_gr rfl rfl qa_dx_0_1 rfl ?_
      refine qa_bk_gr rfl rfl (qa_ds0 qa_rg_1) rfl ?_
      refine qa_bk_gi rfl rfl (qa_ds11 qa_rg_1) rfl ?_
      refine qa_bk_do (pc' := 109) rfl rfl ?_
      refine qa_bk_do (pc' := 110) rfl rfl ?_
      refine qa_bk_do (pc' := 111) rfl rfl ?_
      refine qa_bk_cs (qa_tX9_mix rfl) rfl rfl rfl rfl rfl rfl rfl ?_
      refine qa_bk_do (pc' := 115) (lv' := [(3, _), (0, _), (1, _), (5, _)]) rfl rfl ?_
      refine qa_bk_do (pc' := 116) rfl rfl ?_
      refine qa_bk_do (pc' := 117) rfl rfl ?_
      refine qa_bk_gr rfl rfl qa_dx_0_1 rfl ?_
      refine qa_bk_gr rfl rfl (qa_ds0 qa_rg_1) rfl ?_
      refine qa_bk_gi rfl rfl (qa_ds11 qa_rg_1) rfl ?_
      refine qa_bk_do (pc' := 127) rfl rfl ?_
      refine qa_bk_cs (qa_tX9_mix rfl) rfl rfl rfl rfl rfl rfl rfl ?_
      refine qa_bk_do (pc' := 131) (lv' := [(3, _), (0, _), (1, _), (5, _)]) rfl rfl ?_
      refine qa_bk_do (pc' := 132) rfl rfl ?_
      refine qa_bk_do (pc' := 133) rfl rfl ?_
      refine qa_bk_gr rfl rfl qa_dx_0_1 rfl ?_
      refine qa_bk_gr rfl rfl (qa_ds0 qa_rg_1) rfl ?_
      refine qa_bk_gi rfl rfl (qa_ds11 qa_rg_1) rfl ?_
      refine qa_bk_do (pc' := 143) rfl rfl ?_
      refine qa_bk_do (pc' := 144) rfl rfl ?_
      refine qa_bk_do (pc' := 145) rfl rfl ?_
      refine qa_bk_cs (qa_tX9_mix rfl) rfl rfl rfl rfl rfl rfl rfl ?_
      refine qa_bk_do (pc' := 149) (lv' := [(3, _), (0, _), (1, _), (5, _)]) rfl rfl ?_
      refine qa_bk_do (pc' := 150) rfl rfl ?_
      refine qa_bk_do (pc' := 151) rfl rfl ?_
      refine qa_bk_gr rfl rfl qa_dx_0_1 rfl ?_
      refine qa_bk_gr rfl rfl (qa_ds0 qa_rg_1) rfl ?_
      refine qa_bk_gi rfl rfl (qa_ds11 qa_rg_1) rfl ?_
      refine qa_bk_do (pc' := 161) rfl rfl ?_
      refine qa_bk_cs (qa_tX9_mix rfl) rfl rfl rfl rfl rfl rfl rfl ?_
      cases h
      exact qa_bk_re rfl rfl rfl
    · refine qa_bk_1f (a := 61) (b := 34) hc2 rfl rfl ?_
      refine qa_bk_do (pc' := 35) rfl rfl ?_
      refine qa_bk_do (pc' := 36) rfl rfl ?_
      refine qa_bk_gr rfl rfl qa_dx_0_1 rfl ?_
      refine qa_bk_gr rfl rfl (qa_ds0 qa_rg_1) rfl ?_
      refine qa_bk_gr rfl rfl (qa_ds9 qa_rg_1) rfl ?_
      refine qa_bk_do (pc' := 47) rfl rfl ?_
      refine qa_bk_cs (qa_tX9_at (qa_ds10 qa_rg_1) (Nat.le_of_ble_eq_true rfl) rfl) rfl rfl rfl rfl rfl rfl rfl ?_
      refine qa_bk_do (pc' := 51) rfl rfl ?_
      refine qa_bk_cs (qa_tX9_mix rfl) rfl rfl rfl rfl rfl rfl rfl ?_
      refine qa_bk_do (pc' := 55) (lv' := [(3, _), (0, _), (1, _), (5, _)]) rfl rfl ?_
      refine qa_bk_do (pc' := 58) (lv' := [(5, _), (3, _), (0, _), (1, _)]) rfl rfl ?_
      refine qa_bk_do (pc' := 19) rfl rfl ?_
      exact qa_bk_lw (ih _ _ _ _ h) rfl rfl (And.intro rfl (And.intro rfl (And.intro rfl (And.intro rfl (trivial)))))
set_option maxRecDepth 100000 in
theorem qa_tX9_mixProgramme {L : Nat} {a1 : Int64}  {σ : qa_T} {r : Int64} (h : qa_fX9_mixProgramme a1 σ = some r) : qa_Bk (qa_ds L) qa_mX9_mixProgramme 0 (qa_ag 0 [.inl (0, 1), .inr (.long a1)]) [] σ (.inl (some (.inr (.long r)))) σ := by
  unfold qa_fX9_mixProgramme at h
  try dsimp only at h
  show qa_Bk (qa_ds L) qa_mX9_mixProgramme 0 [(0, .inl (0, 1)), (1, .inr (.long a1))] [] σ _ _
  refine qa_bk_do (pc' := 1) rfl rfl ?_
  refine qa_bk_do (pc' := 2) rfl rfl ?_
  refine qa_bk_gr rfl rfl qa_dx_0_1 rfl ?_
  refine qa_bk_gr rfl rfl (qa_ds0 qa_rg_1) rfl ?_
  refine qa_bk_gi rfl rfl (qa_ds9 qa_rg_1) rfl ?_
  refine qa_bk_do (pc' := 12) rfl rfl ?_
  refine qa_bk_cs (qa_tX9_mix rfl) rfl rfl rfl rfl rfl rfl rfl ?_
  refine qa_bk_do (pc' := 16) (lv' := [(3, _), (0, _), (1, _)]) rfl rfl ?_
  refine qa_bk_do (pc' := 17) rfl rfl ?_
  refine qa_bk_do (pc' := 19) (lv' := [(5, _), (3, _), (0, _), (1, _)]) rfl rfl ?_
  exact qa_bk_lw (qa_tX9_mixProgramme_19  _ _ _ _ _ h) rfl rfl (And.intro rfl (And.intro rfl (And.intro rfl (And.intro rfl (trivial)))))
noncomputable def qa_fX9_mixLoading_53 (a1 : Int64) : Nat → Int64 → Int32 → qa_T → Option Int64
  | 0, _, _, _ => none
  | n + 1, x3, x5, σ =>
    if (σ.1 (1, 12) 2) ≤ x5 then
      (qa_fX1_sumOfCosts 1 σ).bind fun c5 =>
      let v7 : Int64 := (qa_fX9_mix x3 ((c5).toInt64) σ)
      let v8 : Int64 := (qa_fX9_mix v7 (((σ.1 (1, 12) 4)).toInt64) σ)
      let v9 : Int64 := (qa_fX9_mix v8 (((σ.1 (1, 14) 0)).toInt64) σ)
      let v10 : Int64 := (qa_fX9_mix v9 (((σ.1 (1, 14) 1)).toInt64) σ)
      let v11 : Int64 := (qa_fX9_mix v10 (((σ.1 (1, 14) 2)).toInt64) σ)
      let v12 : Int64 := (qa_fX9_mix v11 (((σ.1 (1, 14) 3)).toInt64) σ)
      some (qa_fX9_mix v12 (((σ.1 (1, 14) 4)).toInt64) σ)
    else
      let v13 : Int64 := (qa_fX9_mix x3 (((qa_fX9_at (1, 13) 16 x5 σ)).toInt64) σ)
      let v14 : Int32 := x5 + Int32.ofInt 1
      qa_fX9_mixLoading_53 a1 n v13 v14 σ
noncomputable def qa_fX9_mixLoading (a1 : Int64) (σ : qa_T) : Option Int64 :=
    let v1 : Int64 := (qa_fX9_mix a1 ((((σ.1 (1, 12) 0) + (Int32.ofInt 1))).toInt64) σ)
    let v2 : Int64 := (qa_fX9_mix v1 (((σ.1 (1, 12) 1)).toInt64) σ)
    let v3 : Int64 := (qa_fX9_mix v2 (((σ.1 (1, 12) 2)).toInt64) σ)
    qa_fX9_mixLoading_53 a1 qa_fu v3 (Int32.ofInt 0) σ
set_option maxRecDepth 100000 in
theorem qa_tX9_mixLoading_53 {L : Nat} {a1 : Int64}  : ∀ (n : Nat) (x3 : Int64) (x5 : Int32) (σ : qa_T) (r : Int64), qa_fX9_mixLoading_53 a1 n x3 x5 σ = some r → qa_Bk (qa_ds L) qa_mX9_mixLoading 53 [(0, .inl (0, 1)), (1, .inr (.long a1)), (3, .inr (.long x3)), (5, .inr (.int x5))] [] σ (.inl (some (.inr (.long r)))) σ := by
  intro n
  induction n with
  | zero => intro x3 x5 σ r h; cases h
  | succ n ih =>
    intro x3 x5 σ r h
    unfold qa_fX9_mixLoading_53 at h
    try dsimp only at h
    refine qa_bk_do (pc' := 55) rfl rfl ?_
    refine qa_bk_do (pc' := 56) rfl rfl ?_
    refine qa_bk_gr rfl rfl qa_dx_0_1 rfl ?_
    refine qa_bk_gr rfl rfl (qa_ds0 qa_rg_1) rfl ?_
    refine qa_bk_gi rfl rfl (qa_ds12 qa_rg_1) rfl ?_
    rcases qa_ite h with ⟨hc4, h⟩ | ⟨hc4, h⟩
    · refine qa_bk_1t (a := 95) (b := 68) hc4 rfl rfl ?_
      refine qa_bk_do (pc' := 96) rfl rfl ?_
      refine qa_bk_do (pc' := 97) rfl rfl ?_
      refine qa_bk_gr rfl rfl qa_dx_0_1 rfl ?_
      obtain ⟨c5, hc6, h⟩ := Option.bind_eq_some_iff.mp h
      refine qa_bk_cv (qa_tX1_sumOfCosts qa_rg_1 hc6) rfl rfl rfl rfl rfl rfl rfl (qa_ds0 qa_rg_1) ?_
      refine qa_bk_do (pc' := 104) rfl rfl ?_
      refine qa_bk_cs (qa_tX9_mix rfl) rfl rfl rfl rfl rfl rfl rfl ?_
      refine qa_bk_do (pc' := 108) (lv' := [(3, _), (0, _), (1, _), (5, _)]) rfl rfl ?_
      refine qa_bk_do (pc' := 109) rfl rfl ?_
      refine qa_bk_do (pc' := 110) rfl rfl ?_
      refine qa_bk_gr rfl rfl qa_dx_0_1 rfl ?_
      refine qa_bk_gr rfl rfl (qa_ds0 qa_rg_1) rfl ?_
      refine qa_bk_gi rfl rfl (qa_ds12 qa_rg_1) rfl ?_
      refine qa_bk_do (pc' := 120) rfl rfl ?_
      refine qa_bk_cs (qa_tX9_mix rfl) rfl rfl rfl rfl rfl rfl rfl ?_
      refine qa_bk_do (pc' := 124) (lv' := [(3, _), (0, _), (1, _), (5, _)]) rfl rfl ?_
      refine qa_bk_do (pc' := 125) rfl rfl ?_
      refine qa_bk_do (pc' := 126) rfl rfl ?_
      refine qa_bk_gr rfl rfl qa_dx_0_1 rfl ?_
      refine qa_bk_gr rfl rfl (qa_ds0 qa_rg_1) rfl ?_
      refine qa_bk_gi rfl rfl (qa_ds14 qa_rg_1) rfl ?_
      refine qa_bk_do (pc' := 136) rfl rfl ?_
      refine qa_bk_cs (qa_tX9_mix rfl) rfl rfl rfl rfl rfl rfl rfl ?_
      refine qa_bk_do (pc' := 140) (lv' := [(3, _), (0, _), (1, _), (5, _)]) rfl rfl ?_
      refine qa_bk_do (pc' := 141) rfl rfl ?_
      refine qa_bk_do (pc' := 142) rfl rfl ?_
      refine qa_bk_gr rfl rfl qa_dx_0_1 rfl ?_
      refine qa_bk_gr rfl rfl (qa_ds0 qa_rg_1) rfl ?_
      refine qa_bk_gi rfl rfl (qa_ds14 qa_rg_1) rfl ?_
      refine qa_bk_do (pc' := 152) rfl rfl ?_
      refine qa_bk_cs (qa_tX9_mix rfl) rfl rfl rfl rfl rfl rfl rfl ?_
      refine qa_bk_do (pc' := 156) (lv' := [(3, _), (0, _), (1, _), (5, _)]) rfl rfl ?_
      refine qa_bk_do (pc' := 157) rfl rfl ?_
      refine qa_bk_do (pc' := 158) rfl rfl ?_
      refine qa_bk_gr rfl rfl qa_dx_0_1 rfl ?_
      refine qa_bk_gr rfl rfl (qa_ds0 qa_rg_1) rfl ?_
      refine qa_bk_gi rfl rfl (qa_ds14 qa_rg_1) rfl ?_
      refine qa_bk_do (pc' := 168) rfl rfl ?_
      refine qa_bk_cs (qa_tX9_mix rfl) rfl rfl rfl rfl rfl rfl rfl ?_
      refine qa_bk_do (pc' := 172) (lv' := [(3, _), (0, _), (1, _), (5, _)]) rfl rfl ?_
      refine qa_bk_do (pc' := 173) rfl rfl ?_
      refine qa_bk_do (pc' := 174) rfl rfl ?_
      refine qa_bk_gr rfl rfl qa_dx_0_1 rfl ?_
      refine qa_bk_gr rfl rfl (qa_ds0 qa_rg_1) rfl ?_
      refine qa_bk_gi rfl rfl (qa_ds14 qa_rg_1) rfl ?_
      refine qa_bk_do (pc' := 184) rfl rfl ?_
      refine qa_bk_cs (qa_tX9_mix rfl) rfl rfl rfl rfl rfl rfl rfl ?_
      refine qa_bk_do (pc' := 188) (lv' := [(3, _), (0, _), (1, _), (5, _)]) rfl rfl ?_
      refine qa_bk_do (pc' := 189) rfl rfl ?_
      refine qa_bk_do (pc' := 190) rfl rfl ?_
      refine qa_bk_gr rfl rfl qa_dx_0_1 rfl ?_
      refine qa_bk_gr rfl rfl (qa_ds0 qa_rg_1) rfl ?_
      refine qa_bk_gi rfl rfl (qa_ds14 qa_rg_1) rfl ?_
      refine qa_bk_do (pc' := 200) rfl rfl ?_
      refine qa_bk_cs (qa_tX9_mix rfl) rfl rfl rfl rfl rfl rfl rfl ?_
      cases h
      exact qa_bk_re rfl rfl rfl
    · refine qa_bk_1f (a := 95) (b := 68) hc4 rfl rfl ?_
      refine qa_bk_do (pc' := 69) rfl rfl ?_
      refine qa_bk_do (pc' := 70) rfl rfl ?_
      refine qa_bk_gr rfl rfl qa_dx_0_1 rfl ?_
      refine qa_bk_gr rfl rfl (qa_ds0 qa_rg_1) rfl ?_
      refine qa_bk_gr rfl rfl (qa_ds12 qa_rg_1) rfl ?_
      refine qa_bk_do (pc' := 81) rfl rfl ?_
      refine qa_bk_cs (qa_tX9_at (qa_ds13 qa_rg_1) (Nat.le_of_ble_eq_true rfl) rfl) rfl rfl rfl rfl rfl rfl rfl ?_
      refine qa_bk_do (pc' := 85) rfl rfl ?_
      refine qa_bk_cs (qa_tX9_mix rfl) rfl rfl rfl rfl rfl rfl rfl ?_
      refine qa_bk_do (pc' := 89) (lv' := [(3, _), (0, _), (1, _), (5, _)]) rfl rfl ?_
      refine qa_bk_do (pc' := 92) (lv' := [(5, _), (3, _), (0, _), (1, _)]) rfl rfl ?_
      refine qa_bk_do (pc' := 53) rfl rfl ?_
      exact qa_bk_lw (ih _ _ _ _ h) rfl rfl (And.intro rfl (And.intro rfl (And.intro rfl (And.intro rfl (trivial)))))
set_option maxRecDepth 100000 in
theorem qa_tX9_mixLoading {L : Nat} {a1 : Int64}  {σ : qa_T} {r : Int64} (h : qa_fX9_mixLoading a1 σ = some r) : qa_Bk (qa_ds L) qa_mX9_mixLoading 0 (qa_ag 0 [.inl (0, 1), .inr (.long a1)]) [] σ (.inl (some (.inr (.long r)))) σ := by
  unfold qa_fX9_mixLoading at h
  try dsimp only at h
  show qa_Bk (qa_ds L) qa_mX9_mixLoading 0 [(0, .inl (0, 1)), (1, .inr (.long a1))] [] σ _ _
  refine qa_bk_do (pc' := 1) rfl rfl ?_
  refine qa_bk_do (pc' := 2) rfl rfl ?_
  refine qa_bk_gr rfl rfl qa_dx_0_1 rfl ?_
  refine qa_bk_gr rfl rfl (qa_ds0 qa_rg_1) rfl ?_
  refine qa_bk_gi rfl rfl (qa_ds12 qa_rg_1) rfl ?_
  refine qa_bk_do (pc' := 12) rfl rfl ?_
  refine qa_bk_do (pc' := 13) rfl rfl ?_
  refine qa_bk_do (pc' := 14) rfl rfl ?_
  refine qa_bk_cs (qa_tX9_mix rfl) rfl rfl rfl rfl rfl rfl rfl ?_
  refine qa_bk_do (pc' := 18) (lv' := [(3, _), (0, _), (1, _)]) rfl rfl ?_
  refine qa_bk_do (pc' := 19) rfl rfl ?_
  refine qa_bk_do (pc' := 20) rfl rfl ?_
  refine qa_bk_gr rfl rfl qa_dx_0_1 rfl ?_
  refine qa_bk_gr rfl rfl (qa_ds0 qa_rg_1) rfl ?_
  refine qa_bk_gi rfl rfl (qa_ds12 qa_rg_1) rfl ?_
  refine qa_bk_do (pc' := 30) rfl rfl ?_
  refine qa_bk_cs (qa_tX9_mix rfl) rfl rfl rfl rfl rfl rfl rfl ?_
  refine qa_bk_do (pc' := 34) (lv' := [(3, _), (0, _), (1, _)]) rfl rfl ?_
  refine qa_bk_do (pc' := 35) rfl rfl ?_
  refine qa_bk_do (pc' := 36) rfl rfl ?_
  refine qa_bk_gr rfl rfl qa_dx_0_1 rfl ?_
  refine qa_bk_gr rfl rfl (qa_ds0 qa_rg_1) rfl ?_
  refine qa_bk_gi rfl rfl (qa_ds12 qa_rg_1) rfl ?_
  refine qa_bk_do (pc' := 46) rfl rfl ?_
  refine qa_bk_cs (qa_tX9_mix rfl) rfl rfl rfl rfl rfl rfl rfl ?_
  refine qa_bk_do (pc' := 50) (lv' := [(3, _), (0, _), (1, _)]) rfl rfl ?_
  refine qa_bk_do (pc' := 51) rfl rfl ?_
  refine qa_bk_do (pc' := 53) (lv' := [(5, _), (3, _), (0, _), (1, _)]) rfl rfl ?_
  exact qa_bk_lw (qa_tX9_mixLoading_53  _ _ _ _ _ h) rfl rfl (And.intro rfl (And.intro rfl (And.intro rfl (And.intro rfl (trivial)))))
noncomputable def qa_fX9_bitsOfShare_39 (a1 : UInt64) (x2 : UInt64) (x4 : Int32) (σ : qa_T) : Option Int64 :=
    if ¬ qa_nn (FP.dsub x2 FP.dconst1) then none else
    if ¬ qa_nn (FP.dmul (FP.dsub x2 FP.dconst1) (4841369599423283200 : UInt64)) then none else
    let v5 : Int64 := (FP.d2l (FP.dmul (FP.dsub x2 FP.dconst1) (4841369599423283200 : UInt64)))
    some ((((x4).toInt64) <<< ((((Int8.ofInt 52).toInt32)).toInt64 &&& 63)) + v5)
noncomputable def qa_fX9_bitsOfShare_15 (a1 : UInt64) : Nat → UInt64 → Int32 → qa_T → Option Int64
  | 0, _, _, _ => none
  | n + 1, x2, x4, σ =>
    if 0 ≤ (Op.cmpValue (FP.dcmp x2 FP.dconst1) .g) then
      qa_fX9_bitsOfShare_39 a1 x2 x4 σ
    else
      if x4 ≤ (Int32.ofInt 1) then
        qa_fX9_bitsOfShare_39 a1 x2 x4 σ
      else
        if ¬ qa_nn (FP.dmul x2 (4611686018427387904 : UInt64)) then none else
        let v8 : UInt64 := (FP.dmul x2 (4611686018427387904 : UInt64))
        let v9 : Int32 := x4 + Int32.ofInt (-1)
        qa_fX9_bitsOfShare_15 a1 n v8 v9 σ
noncomputable def qa_fX9_bitsOfShare (a1 : UInt64) (σ : qa_T) : Option Int64 :=
    if 0 < (Op.cmpValue (FP.dcmp a1 FP.dconst0) .l) then
      qa_fX9_bitsOfShare_15 a1 qa_fu a1 ((Int16.ofInt 1023).toInt32) σ
    else
      some (Int64.ofNat ((0 : Fin 2) : Nat))
set_option maxRecDepth 100000 in
theorem qa_tX9_bitsOfShare_39 {L : Nat} {a1 : UInt64}  {x2 : UInt64} {x4 : Int32} {σ : qa_T} {r : Int64} (h : qa_fX9_bitsOfShare_39 a1 x2 x4 σ = some r) : qa_Bk (qa_ds L) qa_mX9_bitsOfShare 39 [(0, .inr (.double a1)), (2, .inr (.double x2)), (4, .inr (.int x4))] [] σ (.inl (some (.inr (.long r)))) σ := by
  unfold qa_fX9_bitsOfShare_39 at h
  try dsimp only at h
  refine qa_bk_do (pc' := 40) rfl rfl ?_
  refine qa_bk_do (pc' := 41) rfl rfl ?_
  rcases qa_ite h with ⟨_, h⟩ | ⟨hc3, h⟩
  · cases h
  refine qa_bk_du (Decidable.of_not_not hc3) rfl ?_
  refine qa_bk_do (pc' := 45) rfl rfl ?_
  rcases qa_ite h with ⟨_, h⟩ | ⟨hc4, h⟩
  · cases h
  refine qa_bk_dm (Decidable.of_not_not hc4) rfl ?_
  refine qa_bk_do (pc' := 47) rfl rfl ?_
  refine qa_bk_do (pc' := 49) (lv' := [(5, _), (0, _), (2, _), (4, _)]) rfl rfl ?_
  refine qa_bk_do (pc' := 51) rfl rfl ?_
  refine qa_bk_do (pc' := 52) rfl rfl ?_
  refine qa_bk_do (pc' := 54) rfl rfl ?_
  refine qa_bk_do (pc' := 55) rfl rfl ?_
  refine qa_bk_do (pc' := 57) rfl rfl ?_
  refine qa_bk_do (pc' := 58) rfl rfl ?_
  cases h
  exact qa_bk_re rfl rfl rfl
set_option maxRecDepth 100000 in
theorem qa_tX9_bitsOfShare_15 {L : Nat} {a1 : UInt64}  : ∀ (n : Nat) (x2 : UInt64) (x4 : Int32) (σ : qa_T) (r : Int64), qa_fX9_bitsOfShare_15 a1 n x2 x4 σ = some r → qa_Bk (qa_ds L) qa_mX9_bitsOfShare 15 [(0, .inr (.double a1)), (2, .inr (.double x2)), (4, .inr (.int x4))] [] σ (.inl (some (.inr (.long r)))) σ := by
  intro n
  induction n with
  | zero => intro x2 x4 σ r h; cases h
  | succ n ih =>
    intro x2 x4 σ r h
    unfold qa_fX9_bitsOfShare_15 at h
    try dsimp only at h
    refine qa_bk_do (pc' := 16) rfl rfl ?_
    refine qa_bk_do (pc' := 17) rfl rfl ?_
    refine qa_bk_do (pc' := 18) rfl rfl ?_
    rcases qa_ite h with ⟨hc2, h⟩ | ⟨hc2, h⟩
    · refine qa_bk_1t (a := 39) (b := 21) hc2 rfl rfl ?_
      exact qa_bk_lw (qa_tX9_bitsOfShare_39  h) rfl rfl (And.intro rfl (And.intro rfl (And.intro rfl (trivial))))
    · refine qa_bk_1f (a := 39) (b := 21) hc2 rfl rfl ?_
      refine qa_bk_do (pc' := 23) rfl rfl ?_
      refine qa_bk_do (pc' := 24) rfl rfl ?_
      rcases qa_ite h with ⟨hc6, h⟩ | ⟨hc6, h⟩
      · refine qa_bk_1t (a := 39) (b := 27) hc6 rfl rfl ?_
        exact qa_bk_lw (qa_tX9_bitsOfShare_39  h) rfl rfl (And.intro rfl (And.intro rfl (And.intro rfl (trivial))))
      · refine qa_bk_1f (a := 39) (b := 27) hc6 rfl rfl ?_
        refine qa_bk_do (pc' := 28) rfl rfl ?_
        refine qa_bk_do (pc' := 31) rfl rfl ?_
        rcases qa_ite h with ⟨_, h⟩ | ⟨hc7, h⟩
        · cases h
        refine qa_bk_dm (Decidable.of_not_not hc7) rfl ?_
        refine qa_bk_do (pc' := 33) (lv' := [(2, _), (0, _), (4, _)]) rfl rfl ?_
        refine qa_bk_do (pc' := 36) (lv' := [(4, _), (2, _), (0, _)]) rfl rfl ?_
        refine qa_bk_do (pc' := 15) rfl rfl ?_
        exact qa_bk_lw (ih _ _ _ _ h) rfl rfl (And.intro rfl (And.intro rfl (And.intro rfl (trivial))))
set_option maxRecDepth 100000 in
theorem qa_tX9_bitsOfShare {L : Nat} {a1 : UInt64}  {σ : qa_T} {r : Int64} (h : qa_fX9_bitsOfShare a1 σ = some r) : qa_Bk (qa_ds L) qa_mX9_bitsOfShare 0 (qa_ag 0 [.inr (.double a1)]) [] σ (.inl (some (.inr (.long r)))) σ := by
  unfold qa_fX9_bitsOfShare at h
  try dsimp only at h
  show qa_Bk (qa_ds L) qa_mX9_bitsOfShare 0 [(0, .inr (.double a1))] [] σ _ _
  refine qa_bk_do (pc' := 1) rfl rfl ?_
  refine qa_bk_do (pc' := 2) rfl rfl ?_
  refine qa_bk_do (pc' := 3) rfl rfl ?_
  rcases qa_ite h with ⟨hc1, h⟩ | ⟨hc1, h⟩
  · refine qa_bk_1t (a := 8) (b := 6) hc1 rfl rfl ?_
    refine qa_bk_do (pc' := 9) rfl rfl ?_
    refine qa_bk_do (pc' := 10) (lv' := [(2, _), (0, _)]) rfl rfl ?_
    refine qa_bk_do (pc' := 13) rfl rfl ?_
    refine qa_bk_do (pc' := 15) (lv' := [(4, _), (2, _), (0, _)]) rfl rfl ?_
    exact qa_bk_lw (qa_tX9_bitsOfShare_15  _ _ _ _ _ h) rfl rfl (And.intro rfl (And.intro rfl (And.intro rfl (trivial))))
  · refine qa_bk_1f (a := 8) (b := 6) hc1 rfl rfl ?_
    refine qa_bk_do (pc' := 7) rfl rfl ?_
    cases h
    exact qa_bk_re rfl rfl rfl
noncomputable def qa_fX9_mixAccounts (a1 : Int64) (σ : qa_T) : Option Int64 :=
    let v1 : Int64 := (qa_fX9_mix a1 (((σ.1 (1, 15) 0)).toInt64) σ)
    let v2 : Int64 := (qa_fX9_mix v1 (((σ.1 (1, 15) 1)).toInt64) σ)
    let v3 : Int64 := (qa_fX9_mix v2 (((σ.1 (1, 15) 2)).toInt64) σ)
    let v4 : Int64 := (qa_fX9_mix v3 (((σ.1 (1, 15) 3)).toInt64) σ)
    let v5 : Int64 := (qa_fX9_mix v4 (((σ.1 (1, 15) 4)).toInt64) σ)
    let v6 : Int64 := (qa_fX9_mix v5 (((σ.1 (1, 15) 5)).toInt64) σ)
    let v7 : Int64 := (qa_fX9_mix v6 (((σ.1 (1, 15) 6)).toInt64) σ)
    let v8 : Int64 := (qa_fX9_mix v7 (((σ.1 (2, 18) 1)).toInt64) σ)
    (qa_fX0_shareOfHits 1 σ).bind fun c9 =>
    (qa_fX9_bitsOfShare c9 σ).bind fun c11 =>
    some (qa_fX9_mix v8 c11 σ)
set_option maxRecDepth 100000 in
theorem qa_tX9_mixAccounts {L : Nat} {a1 : Int64}  {σ : qa_T} {r : Int64} (h : qa_fX9_mixAccounts a1 σ = some r) : qa_Bk (qa_ds L) qa_mX9_mixAccounts 0 (qa_ag 0 [.inl (0, 1), .inr (.long a1)]) [] σ (.inl (some (.inr (.long r)))) σ := by
  unfold qa_fX9_mixAccounts at h
  try dsimp only at h
  show qa_Bk (qa_ds L) qa_mX9_mixAccounts 0 [(0, .inl (0, 1)), (1, .inr (.long a1))] [] σ _ _
  refine qa_bk_do (pc' := 1) rfl rfl ?_
  refine qa_bk_do (pc' := 2) rfl rfl ?_
  refine qa_bk_gr rfl rfl qa_dx_0_1 rfl ?_
  refine qa_bk_gr rfl rfl (qa_ds0 qa_rg_1) rfl ?_
  refine qa_bk_gi rfl rfl (qa_ds15 qa_rg_1) rfl ?_
  refine qa_bk_do (pc' := 12) rfl rfl ?_
  refine qa_bk_cs (qa_tX9_mix rfl) rfl rfl rfl rfl rfl rfl rfl ?_
  refine qa_bk_do (pc' := 16) (lv' := [(3, _), (0, _), (1, _)]) rfl rfl ?_
  refine qa_bk_do (pc' := 17) rfl rfl ?_
  refine qa_bk_do (pc' := 18) rfl rfl ?_
  refine qa_bk_gr rfl rfl qa_dx_0_1 rfl ?_
  refine qa_bk_gr rfl rfl (qa_ds0 qa_rg_1) rfl ?_
  refine qa_bk_gi rfl rfl (qa_ds15 qa_rg_1) rfl ?_
  refine qa_bk_do (pc' := 28) rfl rfl ?_
  refine qa_bk_cs (qa_tX9_mix rfl) rfl rfl rfl rfl rfl rfl rfl ?_
  refine qa_bk_do (pc' := 32) (lv' := [(3, _), (0, _), (1, _)]) rfl rfl ?_
  refine qa_bk_do (pc' := 33) rfl rfl ?_
  refine qa_bk_do (pc' := 34) rfl rfl ?_
  refine qa_bk_gr rfl rfl qa_dx_0_1 rfl ?_
  refine qa_bk_gr rfl rfl (qa_ds0 qa_rg_1) rfl ?_
  refine qa_bk_gi rfl rfl (qa_ds15 qa_rg_1) rfl ?_
  refine qa_bk_do (pc' := 44) rfl rfl ?_
  refine qa_bk_cs (qa_tX9_mix rfl) rfl rfl rfl rfl rfl rfl rfl ?_
  refine qa_bk_do (pc' := 48) (lv' := [(3, _), (0, _), (1, _)]) rfl rfl ?_
  refine qa_bk_do (pc' := 49) rfl rfl ?_
  refine qa_bk_do (pc' := 50) rfl rfl ?_
  refine qa_bk_gr rfl rfl qa_dx_0_1 rfl ?_
  refine qa_bk_gr rfl rfl (qa_ds0 qa_rg_1) rfl ?_
  refine qa_bk_gi rfl rfl (qa_ds15 qa_rg_1) rfl ?_
  refine qa_bk_do (pc' := 60) rfl rfl ?_
  refine qa_bk_cs (qa_tX9_mix rfl) rfl rfl rfl rfl rfl rfl rfl ?_
  refine qa_bk_do (pc' := 64) (lv' := [(3, _), (0, _), (1, _)]) rfl rfl ?_
  refine qa_bk_do (pc' := 65) rfl rfl ?_
  refine qa_bk_do (pc' := 66) rfl rfl ?_
  refine qa_bk_gr rfl rfl qa_dx_0_1 rfl ?_
  refine qa_bk_gr rfl rfl (qa_ds0 qa_rg_1) rfl ?_
  refine qa_bk_gi rfl rfl (qa_ds15 qa_rg_1) rfl ?_
  refine qa_bk_do (pc' := 76) rfl rfl ?_
  refine qa_bk_cs (qa_tX9_mix rfl) rfl rfl rfl rfl rfl rfl rfl ?_
  refine qa_bk_do (pc' := 80) (lv' := [(3, _), (0, _), (1, _)]) rfl rfl ?_
  refine qa_bk_do (pc' := 81) rfl rfl ?_
  refine qa_bk_do (pc' := 82) rfl rfl ?_
  refine qa_bk_gr rfl rfl qa_dx_0_1 rfl ?_
  refine qa_bk_gr rfl rfl (qa_ds0 qa_rg_1) rfl ?_
  refine qa_bk_gi rfl rfl (qa_ds15 qa_rg_1) rfl ?_
  refine qa_bk_do (pc' := 92) rfl rfl ?_
  refine qa_bk_cs (qa_tX9_mix rfl) rfl rfl rfl rfl rfl rfl rfl ?_
  refine qa_bk_do (pc' := 96) (lv' := [(3, _), (0, _), (1, _)]) rfl rfl ?_
  refine qa_bk_do (pc' := 97) rfl rfl ?_
  refine qa_bk_do (pc' := 98) rfl rfl ?_
  refine qa_bk_gr rfl rfl qa_dx_0_1 rfl ?_
  refine qa_bk_gr rfl rfl (qa_ds0 qa_rg_1) rfl ?_
  refine qa_bk_gi rfl rfl (qa_ds15 qa_rg_1) rfl ?_
  refine qa_bk_do (pc' := 108) rfl rfl ?_
  refine qa_bk_cs (qa_tX9_mix rfl) rfl rfl rfl rfl rfl rfl rfl ?_
  refine qa_bk_do (pc' := 112) (lv' := [(3, _), (0, _), (1, _)]) rfl rfl ?_
  refine qa_bk_do (pc' := 113) rfl rfl ?_
  refine qa_bk_do (pc' := 114) rfl rfl ?_
  refine qa_bk_gr rfl rfl qa_dx_0_1 rfl ?_
  refine qa_bk_gi rfl rfl qa_dx_2_18 rfl ?_
  refine qa_bk_do (pc' := 121) rfl rfl ?_
  refine qa_bk_cs (qa_tX9_mix rfl) rfl rfl rfl rfl rfl rfl rfl ?_
  refine qa_bk_do (pc' := 125) (lv' := [(3, _), (0, _), (1, _)]) rfl rfl ?_
  refine qa_bk_do (pc' := 126) rfl rfl ?_
  refine qa_bk_do (pc' := 127) rfl rfl ?_
  refine qa_bk_gr rfl rfl qa_dx_0_1 rfl ?_
  refine qa_bk_gr rfl rfl (qa_ds0 qa_rg_1) rfl ?_
  obtain ⟨c9, hc10, h⟩ := Option.bind_eq_some_iff.mp h
  refine qa_bk_cv (qa_tX0_shareOfHits qa_rg_1 hc10) rfl rfl rfl rfl rfl rfl rfl (qa_ds15 qa_rg_1) ?_
  obtain ⟨c11, hc12, h⟩ := Option.bind_eq_some_iff.mp h
  refine qa_bk_cs (qa_tX9_bitsOfShare hc12) rfl rfl rfl rfl rfl rfl rfl ?_
  refine qa_bk_cs (qa_tX9_mix rfl) rfl rfl rfl rfl rfl rfl rfl ?_
  cases h
  exact qa_bk_re rfl rfl rfl
noncomputable def qa_fX9_digest_174  : Nat → Int64 → Int32 → qa_T → Option (Int64 × qa_T)
  | 0, _, _, _ => none
  | n + 1, x1, x4, σ =>
    if (σ.1 (10, 19) 0) ≤ x4 then
      some (x1, σ)
    else
      let v17 : Int64 := (qa_fX9_mix x1 (((qa_fX9_at (10, 20) 60 x4 σ)).toInt64) σ)
      let v18 : Int32 := x4 + Int32.ofInt 1
      qa_fX9_digest_174  n v17 v18 σ
noncomputable def qa_fX9_digest_148  (k127 : Int64 → Int32 → qa_T → Option (Int64 × qa_T)) (x4 : Int32) (y0 : Int64) (y1 : Int64) (σ : qa_T) : Option (Int64 × qa_T) :=
    let v20 : Int64 := (qa_fX9_mix y1 y0 σ)
    let v21 : Int32 := x4 + Int32.ofInt 1
    k127 v20 v21 σ
noncomputable def qa_fX9_digest_127  : Nat → Int64 → Int32 → qa_T → Option (Int64 × qa_T)
  | 0, _, _, _ => none
  | n + 1, x1, x4, σ =>
    if (Int32.ofInt 2) ≤ x4 then
      let v15 : Int64 := (qa_fX9_mix x1 (((σ.1 (10, 19) 0)).toInt64) σ)
      qa_fX9_digest_174  qa_fu v15 (Int32.ofInt 0) σ
    else
      if (qa_bi (qa_fX9_hasSnapshot x4 σ)) = 0 then
        qa_fX9_digest_148  (qa_fX9_digest_127  n) x4 (Int64.ofNat ((0 : Fin 2) : Nat)) x1 σ
      else
        qa_fX9_digest_148  (qa_fX9_digest_127  n) x4 (Int64.ofNat ((1 : Fin 2) : Nat)) x1 σ
noncomputable def qa_fX9_digest_114  (y0 : Int64) (y1 : Int64) (σ : qa_T) : Option (Int64 × qa_T) :=
    let v11 : Int64 := (qa_fX9_mix y1 y0 σ)
    (qa_fX9_mixAccounts v11 σ).bind fun c12 =>
    qa_fX9_digest_127  qa_fu c12 (Int32.ofInt 0) σ
noncomputable def qa_fX9_digest_93  (x3 : Int32) (y0 : Int64) (y1 : Int64) (σ : qa_T) : Option (Int64 × qa_T) :=
    let v9 : Int64 := (qa_fX9_mix y1 y0 σ)
    if x3 = 0 then
      qa_fX9_digest_114  (Int64.ofNat ((0 : Fin 2) : Nat)) v9 σ
    else
      qa_fX9_digest_114  (((qa_fX1_sumOfWait 1 σ)).toInt64) v9 σ
noncomputable def qa_fX9_digest_78  (x1 : Int64) (y0 : Int32) (σ : qa_T) : Option (Int64 × qa_T) :=
    if y0 = 0 then
      qa_fX9_digest_93  y0 (Int64.ofNat ((0 : Fin 2) : Nat)) x1 σ
    else
      (qa_fX9_waitOnTrial σ).bind fun c22 =>
      qa_fX9_digest_93  y0 ((c22.1).toInt64) x1 c22.2
noncomputable def qa_fX9_digest_20  : Nat → Int64 → Int32 → qa_T → Option (Int64 × qa_T)
  | 0, _, _, _ => none
  | n + 1, x1, x3, σ =>
    if (σ.1 (1, 1) 0) ≤ x3 then
      (qa_fX9_mixProgramme x1 σ).bind fun c3 =>
      (qa_fX9_mixLoading c3 σ).bind fun c5 =>
      if (σ.1 (1, 11) 4) = (Int32.ofInt (-1)) then
        qa_fX9_digest_78  c5 (Int32.ofInt 0) σ
      else
        qa_fX9_digest_78  c5 (Int32.ofInt 1) σ
    else
      (qa_fX9_mixSlide x1 x3 σ).bind fun c24 =>
      let v26 : Int32 := x3 + Int32.ofInt 1
      qa_fX9_digest_20  n c24.1 v26 c24.2
noncomputable def qa_fX9_digest  (σ : qa_T) : Option (Int64 × qa_T) :=
    let v1 : Int64 := (qa_fX9_mix (4447 : Int64) (((σ.1 (1, 1) 0)).toInt64) σ)
    qa_fX9_digest_20  qa_fu v1 (Int32.ofInt 0) σ
set_option maxRecDepth 100000 in
theorem qa_tX9_digest_174 {L : Nat}   : ∀ (n : Nat) (x1 : Int64) (x4 : Int32) (σ : qa_T) (r : (Int64 × qa_T)), qa_fX9_digest_174  n x1 x4 σ = some r → qa_Bk (qa_ds L) qa_mX9_digest 174 [(0, .inl (0, 1)), (1, .inr (.long x1)), (4, .inr (.int x4))] [] σ (.inl (some (.inr (.long r.1)))) r.2 := by
  intro n
  induction n with
  | zero => intro x1 x4 σ r h; cases h
  | succ n ih =>
    intro x1 x4 σ r h
    unfold qa_fX9_digest_174 at h
    try dsimp only at h
    refine qa_bk_do (pc' := 176) rfl rfl ?_
    refine qa_bk_do (pc' := 177) rfl rfl ?_
    refine qa_bk_gr rfl rfl qa_dx_0_1 rfl ?_
    refine qa_bk_gi rfl rfl qa_dx_10_19 rfl ?_
    rcases qa_ite h with ⟨hc16, h⟩ | ⟨hc16, h⟩
    · refine qa_bk_1t (a := 210) (b := 186) hc16 rfl rfl ?_
      refine qa_bk_do (pc' := 211) rfl rfl ?_
      cases h
      exact qa_bk_re rfl rfl rfl
    · refine qa_bk_1f (a := 210) (b := 186) hc16 rfl rfl ?_
      refine qa_bk_do (pc' := 187) rfl rfl ?_
      refine qa_bk_do (pc' := 188) rfl rfl ?_
      refine qa_bk_gr rfl rfl qa_dx_0_1 rfl ?_
      refine qa_bk_gr rfl rfl qa_dx_10_19 rfl ?_
      refine qa_bk_do (pc' := 196) rfl rfl ?_
      refine qa_bk_cs (qa_tX9_at qa_dx_10_20 (Nat.le_of_ble_eq_true rfl) rfl) rfl rfl rfl rfl rfl rfl rfl ?_
      refine qa_bk_do (pc' := 200) rfl rfl ?_
      refine qa_bk_cs (qa_tX9_mix rfl) rfl rfl rfl rfl rfl rfl rfl ?_
      refine qa_bk_do (pc' := 204) (lv' := [(1, _), (0, _), (4, _)]) rfl rfl ?_
      refine qa_bk_do (pc' := 207) (lv' := [(4, _), (1, _), (0, _)]) rfl rfl ?_
      refine qa_bk_do (pc' := 174) rfl rfl ?_
      exact qa_bk_lw (ih _ _ _ _ h) rfl rfl (And.intro rfl (And.intro rfl (And.intro rfl (trivial))))
set_option maxRecDepth 100000 in
theorem qa_tX9_digest_148 {L : Nat}   {k127 : Int64 → Int32 → qa_T → Option (Int64 × qa_T)} (K127 : ∀ (x1 : Int64) (x4 : Int32) (σ : qa_T) (r : (Int64 × qa_T)), k127 x1 x4 σ = some r → qa_Bk (qa_ds L) qa_mX9_digest 127 [(0, .inl (0, 1)), (1, .inr (.long x1)), (4, .inr (.int x4))] [] σ (.inl (some (.inr (.long r.1)))) r.2) {x4 : Int32} {y0 : Int64} {y1 : Int64} {σ : qa_T} {r : (Int64 × qa_T)} (h : qa_fX9_digest_148  k127 x4 y0 y1 σ = some r) : qa_Bk (qa_ds L) qa_mX9_digest 148 [(0, .inl (0, 1)), (4, .inr (.int x4))] [.inr (.long y0), .inr (.long y1)] σ (.inl (some (.inr (.long r.1)))) r.2 := by
  unfold qa_fX9_digest_148 at h
  try dsimp only at h
  refine qa_bk_cs (qa_tX9_mix rfl) rfl rfl rfl rfl rfl rfl rfl ?_
  refine qa_bk_do (pc' := 152) (lv' := [(1, _), (0, _), (4, _)]) rfl rfl ?_
  refine qa_bk_do (pc' := 155) (lv' := [(4, _), (1, _), (0, _)]) rfl rfl ?_
  refine qa_bk_do (pc' := 127) rfl rfl ?_
  exact qa_bk_lw (K127 _ _ _ _ h) rfl rfl (And.intro rfl (And.intro rfl (And.intro rfl (trivial))))
set_option maxRecDepth 100000 in
theorem qa_tX9_digest_127 {L : Nat}   : ∀ (n : Nat) (x1 : Int64) (x4 : Int32) (σ : qa_T) (r : (Int64 × qa_T)), qa_fX9_digest_127  n x1 x4 σ = some r → qa_Bk (qa_ds L) qa_mX9_digest 127 [(0, .inl (0, 1)), (1, .inr (.long x1)), (4, .inr (.int x4))] [] σ (.inl (some (.inr (.long r.1)))) r.2 := by
  intro n
  induction n with
  | zero => intro x1 x4 σ r h; cases h
  | succ n ih =>
    intro x1 x4 σ r h
    unfold qa_fX9_digest_127 at h
    try dsimp only at h
    refine qa_bk_do (pc' := 129) rfl rfl ?_
    refine qa_bk_do (pc' := 130) rfl rfl ?_
    rcases qa_ite h with ⟨hc14, h⟩ | ⟨hc14, h⟩
    · refine qa_bk_1t (a := 158) (b := 133) hc14 rfl rfl ?_
      refine qa_bk_do (pc' := 159) rfl rfl ?_
      refine qa_bk_do (pc' := 160) rfl rfl ?_
      refine qa_bk_gr rfl rfl qa_dx_0_1 rfl ?_
      refine qa_bk_gi rfl rfl qa_dx_10_19 rfl ?_
      refine qa_bk_do (pc' := 167) rfl rfl ?_
      refine qa_bk_cs (qa_tX9_mix rfl) rfl rfl rfl rfl rfl rfl rfl ?_
      refine qa_bk_do (pc' := 171) (lv' := [(1, _), (0, _), (4, _)]) rfl rfl ?_
      refine qa_bk_do (pc' := 172) rfl rfl ?_
      refine qa_bk_do (pc' := 174) (lv' := [(4, _), (1, _), (0, _)]) rfl rfl ?_
      exact qa_bk_lw (qa_tX9_digest_174  _ _ _ _ _ h) rfl rfl (And.intro rfl (And.intro rfl (And.intro rfl (trivial))))
    · refine qa_bk_1f (a := 158) (b := 133) hc14 rfl rfl ?_
      refine qa_bk_do (pc' := 134) rfl rfl ?_
      refine qa_bk_do (pc' := 135) rfl rfl ?_
      refine qa_bk_do (pc' := 137) rfl rfl ?_
      refine qa_bk_cv (qa_tX9_hasSnapshot rfl) rfl rfl rfl rfl rfl rfl rfl qa_dx_0_1 ?_
      rcases qa_ite h with ⟨hc19, h⟩ | ⟨hc19, h⟩
      · refine qa_bk_1t (a := 147) (b := 143) hc19 rfl rfl ?_
        refine qa_bk_do (pc' := 148) rfl rfl ?_
        exact qa_bk_lw (qa_tX9_digest_148  ih h) rfl rfl (And.intro rfl (And.intro rfl (trivial)))
      · refine qa_bk_1f (a := 147) (b := 143) hc19 rfl rfl ?_
        refine qa_bk_do (pc' := 144) rfl rfl ?_
        refine qa_bk_do (pc' := 148) rfl rfl ?_
        exact qa_bk_lw (qa_tX9_digest_148  ih h) rfl rfl (And.intro rfl (And.intro rfl (trivial)))
set_option maxRecDepth 100000 in
theorem qa_tX9_digest_114 {L : Nat}   {y0 : Int64} {y1 : Int64} {σ : qa_T} {r : (Int64 × qa_T)} (h : qa_fX9_digest_114  y0 y1 σ = some r) : qa_Bk (qa_ds L) qa_mX9_digest 114 [(0, .inl (0, 1))] [.inr (.long y0), .inr (.long y1)] σ (.inl (some (.inr (.long r.1)))) r.2 := by
  unfold qa_fX9_digest_114 at h
  try dsimp only at h
  refine qa_bk_cs (qa_tX9_mix rfl) rfl rfl rfl rfl rfl rfl rfl ?_
  refine qa_bk_do (pc' := 118) (lv' := [(1, _), (0, _)]) rfl rfl ?_
  refine qa_bk_do (pc' := 119) rfl rfl ?_
  refine qa_bk_do (pc' := 120) rfl rfl ?_
  obtain ⟨c12, hc13, h⟩ := Option.bind_eq_some_iff.mp h
  refine qa_bk_cv (qa_tX9_mixAccounts hc13) rfl rfl rfl rfl rfl rfl rfl qa_dx_0_1 ?_
  refine qa_bk_do (pc' := 124) (lv' := [(1, _), (0, _)]) rfl rfl ?_
  refine qa_bk_do (pc' := 125) rfl rfl ?_
  refine qa_bk_do (pc' := 127) (lv' := [(4, _), (1, _), (0, _)]) rfl rfl ?_
  exact qa_bk_lw (qa_tX9_digest_127  _ _ _ _ _ h) rfl rfl (And.intro rfl (And.intro rfl (And.intro rfl (trivial))))
set_option maxRecDepth 100000 in
theorem qa_tX9_digest_93 {L : Nat}   {x3 : Int32} {y0 : Int64} {y1 : Int64} {σ : qa_T} {r : (Int64 × qa_T)} (h : qa_fX9_digest_93  x3 y0 y1 σ = some r) : qa_Bk (qa_ds L) qa_mX9_digest 93 [(0, .inl (0, 1)), (3, .inr (.int x3))] [.inr (.long y0), .inr (.long y1)] σ (.inl (some (.inr (.long r.1)))) r.2 := by
  unfold qa_fX9_digest_93 at h
  try dsimp only at h
  refine qa_bk_cs (qa_tX9_mix rfl) rfl rfl rfl rfl rfl rfl rfl ?_
  refine qa_bk_do (pc' := 97) (lv' := [(1, _), (0, _), (3, _)]) rfl rfl ?_
  refine qa_bk_do (pc' := 98) rfl rfl ?_
  refine qa_bk_do (pc' := 99) rfl rfl ?_
  rcases qa_ite h with ⟨hc10, h⟩ | ⟨hc10, h⟩
  · refine qa_bk_1t (a := 113) (b := 102) hc10 rfl rfl ?_
    refine qa_bk_do (pc' := 114) rfl rfl ?_
    exact qa_bk_lw (qa_tX9_digest_114  h) rfl rfl (And.intro rfl (trivial))
  · refine qa_bk_1f (a := 113) (b := 102) hc10 rfl rfl ?_
    refine qa_bk_do (pc' := 103) rfl rfl ?_
    refine qa_bk_gr rfl rfl qa_dx_0_1 rfl ?_
    refine qa_bk_cv (qa_tX1_sumOfWait qa_rg_1 rfl) rfl rfl rfl rfl rfl rfl rfl (qa_ds0 qa_rg_1) ?_
    refine qa_bk_do (pc' := 110) rfl rfl ?_
    refine qa_bk_do (pc' := 114) rfl rfl ?_
    exact qa_bk_lw (qa_tX9_digest_114  h) rfl rfl (And.intro rfl (trivial))
set_option maxRecDepth 100000 in
theorem qa_tX9_digest_78 {L : Nat}   {x1 : Int64} {y0 : Int32} {σ : qa_T} {r : (Int64 × qa_T)} (h : qa_fX9_digest_78  x1 y0 σ = some r) : qa_Bk (qa_ds L) qa_mX9_digest 78 [(0, .inl (0, 1)), (1, .inr (.long x1))] [.inr (.int y0)] σ (.inl (some (.inr (.long r.1)))) r.2 := by
  unfold qa_fX9_digest_78 at h
  try dsimp only at h
  refine qa_bk_do (pc' := 79) (lv' := [(3, _), (0, _), (1, _)]) rfl rfl ?_
  refine qa_bk_do (pc' := 80) rfl rfl ?_
  refine qa_bk_do (pc' := 81) rfl rfl ?_
  rcases qa_ite h with ⟨hc8, h⟩ | ⟨hc8, h⟩
  · refine qa_bk_1t (a := 92) (b := 84) hc8 rfl rfl ?_
    refine qa_bk_do (pc' := 93) rfl rfl ?_
    exact qa_bk_lw (qa_tX9_digest_93  h) rfl rfl (And.intro rfl (And.intro rfl (trivial)))
  · refine qa_bk_1f (a := 92) (b := 84) hc8 rfl rfl ?_
    refine qa_bk_do (pc' := 85) rfl rfl ?_
    obtain ⟨c22, hc23, h⟩ := Option.bind_eq_some_iff.mp h
    refine qa_bk_cv (qa_tX9_waitOnTrial hc23) rfl rfl rfl rfl rfl rfl rfl qa_dx_0_1 ?_
    refine qa_bk_do (pc' := 89) rfl rfl ?_
    refine qa_bk_do (pc' := 93) rfl rfl ?_
    exact qa_bk_lw (qa_tX9_digest_93  h) rfl rfl (And.intro rfl (And.intro rfl (trivial)))
set_option maxRecDepth 100000 in
theorem qa_tX9_digest_20 {L : Nat}   : ∀ (n : Nat) (x1 : Int64) (x3 : Int32) (σ : qa_T) (r : (Int64 × qa_T)), qa_fX9_digest_20  n x1 x3 σ = some r → qa_Bk (qa_ds L) qa_mX9_digest 20 [(0, .inl (0, 1)), (1, .inr (.long x1)), (3, .inr (.int x3))] [] σ (.inl (some (.inr (.long r.1)))) r.2 := by
  intro n
  induction n with
  | zero => intro x1 x3 σ r h; cases h
  | succ n ih =>
    intro x1 x3 σ r h
    unfold qa_fX9_digest_20 at h
    try dsimp only at h
    refine qa_bk_do (pc' := 21) rfl rfl ?_
    refine qa_bk_do (pc' := 22) rfl rfl ?_
    refine qa_bk_gr rfl rfl qa_dx_0_1 rfl ?_
    refine qa_bk_gr rfl rfl (qa_ds0 qa_rg_1) rfl ?_
    refine qa_bk_gi rfl rfl (qa_ds1 qa_rg_1) rfl ?_
    rcases qa_ite h with ⟨hc2, h⟩ | ⟨hc2, h⟩
    · refine qa_bk_1t (a := 47) (b := 34) hc2 rfl rfl ?_
      refine qa_bk_do (pc' := 48) rfl rfl ?_
      refine qa_bk_do (pc' := 49) rfl rfl ?_
      obtain ⟨c3, hc4, h⟩ := Option.bind_eq_some_iff.mp h
      refine qa_bk_cv (qa_tX9_mixProgramme hc4) rfl rfl rfl rfl rfl rfl rfl qa_dx_0_1 ?_
      refine qa_bk_do (pc' := 53) (lv' := [(1, _), (0, _), (3, _)]) rfl rfl ?_
      refine qa_bk_do (pc' := 54) rfl rfl ?_
      refine qa_bk_do (pc' := 55) rfl rfl ?_
      obtain ⟨c5, hc6, h⟩ := Option.bind_eq_some_iff.mp h
      refine qa_bk_cv (qa_tX9_mixLoading hc6) rfl rfl rfl rfl rfl rfl rfl qa_dx_0_1 ?_
      refine qa_bk_do (pc' := 59) (lv' := [(1, _), (0, _), (3, _)]) rfl rfl ?_
      refine qa_bk_do (pc' := 60) rfl rfl ?_
      refine qa_bk_gr rfl rfl qa_dx_0_1 rfl ?_
      refine qa_bk_gr rfl rfl (qa_ds0 qa_rg_1) rfl ?_
      refine qa_bk_gi rfl rfl (qa_ds11 qa_rg_1) rfl ?_
      refine qa_bk_do (pc' := 70) rfl rfl ?_
      rcases qa_ite h with ⟨hc7, h⟩ | ⟨hc7, h⟩
      · refine qa_bk_1t (a := 77) (b := 73) hc7 rfl rfl ?_
        refine qa_bk_do (pc' := 78) rfl rfl ?_
        exact qa_bk_lw (qa_tX9_digest_78  h) rfl rfl (And.intro rfl (And.intro rfl (trivial)))
      · refine qa_bk_1f (a := 77) (b := 73) hc7 rfl rfl ?_
        refine qa_bk_do (pc' := 74) rfl rfl ?_
        refine qa_bk_do (pc' := 78) rfl rfl ?_
        exact qa_bk_lw (qa_tX9_digest_78  h) rfl rfl (And.intro rfl (And.intro rfl (trivial)))
    · refine qa_bk_1f (a := 47) (b := 34) hc2 rfl rfl ?_
      refine qa_bk_do (pc' := 35) rfl rfl ?_
      refine qa_bk_do (pc' := 36) rfl rfl ?_
      refine qa_bk_do (pc' := 37) rfl rfl ?_
      obtain ⟨c24, hc25, h⟩ := Option.bind_eq_some_iff.mp h
      refine qa_bk_cv (qa_tX9_mixSlide hc25) rfl rfl rfl rfl rfl rfl rfl qa_dx_0_1 ?_
      refine qa_bk_do (pc' := 41) (lv' := [(1, _), (0, _), (3, _)]) rfl rfl ?_
      refine qa_bk_do (pc' := 44) (lv' := [(3, _), (1, _), (0, _)]) rfl rfl ?_
      refine qa_bk_do (pc' := 20) rfl rfl ?_
      exact qa_bk_lw (ih _ _ _ _ h) rfl rfl (And.intro rfl (And.intro rfl (And.intro rfl (trivial))))
set_option maxRecDepth 100000 in
theorem qa_tX9_digest {L : Nat}   {σ : qa_T} {r : (Int64 × qa_T)} (h : qa_fX9_digest  σ = some r) : qa_Bk (qa_ds L) qa_mX9_digest 0 (qa_ag 0 [.inl (0, 1)]) [] σ (.inl (some (.inr (.long r.1)))) r.2 := by
  unfold qa_fX9_digest at h
  try dsimp only at h
  show qa_Bk (qa_ds L) qa_mX9_digest 0 [(0, .inl (0, 1))] [] σ _ _
  refine qa_bk_do (pc' := 3) rfl rfl ?_
  refine qa_bk_do (pc' := 4) rfl rfl ?_
  refine qa_bk_gr rfl rfl qa_dx_0_1 rfl ?_
  refine qa_bk_gr rfl rfl (qa_ds0 qa_rg_1) rfl ?_
  refine qa_bk_gi rfl rfl (qa_ds1 qa_rg_1) rfl ?_
  refine qa_bk_do (pc' := 14) rfl rfl ?_
  refine qa_bk_cs (qa_tX9_mix rfl) rfl rfl rfl rfl rfl rfl rfl ?_
  refine qa_bk_do (pc' := 18) (lv' := [(1, _), (0, _)]) rfl rfl ?_
  refine qa_bk_do (pc' := 19) rfl rfl ?_
  refine qa_bk_do (pc' := 20) (lv' := [(3, _), (1, _), (0, _)]) rfl rfl ?_
  exact qa_bk_lw (qa_tX9_digest_20  _ _ _ _ _ h) rfl rfl (And.intro rfl (And.intro rfl (And.intro rfl (trivial))))
