/-! the methods as functions (written by wip/tools/gen.py) -/
noncomputable def qa_fX10_digest_448  : Nat → Int32 → qa_T → Option (Int64 × qa_T)
  | 0, _, _ => none
  | n + 1, x2, σ =>
    if (σ.1 (10, 21) 8) ≤ x2 then
      some ((σ.2 (10, 21) 14), σ)
    else
      if ¬ qa_in x2 60 = true then none else
      let σ44 := qa_fX10_mix (((σ.1 (10, 28) (x2).toNatClampNeg)).toInt64) σ
      let v45 : Int32 := x2 + Int32.ofInt 1
      qa_fX10_digest_448  n v45 σ44
noncomputable def qa_fX10_digest_434  (y0 : Int64) (σ : qa_T) : Option (Int64 × qa_T) :=
    let σ40 := qa_fX10_mix y0 σ
    let σ41 := qa_fX10_mix (((σ40.1 (10, 21) 8)).toInt64) σ40
    qa_fX10_digest_448  qa_fu (Int32.ofInt 0) σ41
noncomputable def qa_fX10_digest_416  (y0 : Int64) (σ : qa_T) : Option (Int64 × qa_T) :=
    let σ38 := qa_fX10_mix y0 σ
    if (σ38.1 (10, 25) ((Int32.ofInt 1)).toNatClampNeg) = 0 then
      qa_fX10_digest_434  (Int64.ofNat ((0 : Fin 2) : Nat)) σ38
    else
      qa_fX10_digest_434  (Int64.ofNat ((1 : Fin 2) : Nat)) σ38
noncomputable def qa_fX10_digest_352  : Nat → Int32 → qa_T → Option (Int64 × qa_T)
  | 0, _, _ => none
  | n + 1, x2, σ =>
    if ((Int16.ofInt 174).toInt32) < x2 then
      let σ31 := qa_fX10_mix (((σ.1 (10, 21) 2)).toInt64) σ
      (qa_fX10_share σ31).bind fun c32 =>
      (qa_fX10_bitsOf c32 ((Int8.ofInt 52).toInt32) ((Int16.ofInt 1023).toInt32) σ31).bind fun c34 =>
      let σ36 := qa_fX10_mix c34 σ31
      if (σ36.1 (10, 25) ((Int32.ofInt 0)).toNatClampNeg) = 0 then
        qa_fX10_digest_416  (Int64.ofNat ((0 : Fin 2) : Nat)) σ36
      else
        qa_fX10_digest_416  (Int64.ofNat ((1 : Fin 2) : Nat)) σ36
    else
      if ¬ qa_in x2 176 = true then none else
      let σ47 := qa_fX10_mix (((σ.1 (10, 22) (x2).toNatClampNeg)).toInt64) σ
      let v48 : Int32 := x2 + Int32.ofInt 1
      qa_fX10_digest_352  n v48 σ47
noncomputable def qa_fX10_digest_335  (y0 : Int32) (σ : qa_T) : Option (Int64 × qa_T) :=
    let σ28 := qa_fX10_mix ((y0).toInt64) σ
    let σ29 := qa_fX10_mix ((y0).toInt64) σ28
    qa_fX10_digest_352  qa_fu ((Int16.ofInt 168).toInt32) σ29
noncomputable def qa_fX10_digest_291  : Nat → Int32 → qa_T → Option (Int64 × qa_T)
  | 0, _, _ => none
  | n + 1, x1, σ =>
    if ((Int16.ofInt 167).toInt32) < x1 then
      if ¬ (σ.1 (10, 22) (((Int16.ofInt 142).toInt32)).toNatClampNeg) = (Int32.ofInt (-1)) then
        (qa_fX10_untilShown σ).bind fun c26 =>
        qa_fX10_digest_335  c26.1 c26.2
      else
        qa_fX10_digest_335  (Int32.ofInt 0) σ
    else
      if ¬ qa_in x1 176 = true then none else
      let σ50 := qa_fX10_mix (((σ.1 (10, 22) (x1).toNatClampNeg)).toInt64) σ
      let v51 : Int32 := x1 + Int32.ofInt 1
      qa_fX10_digest_291  n v51 σ50
noncomputable def qa_fX10_digest_236  : Nat → Int32 → qa_T → Option (Int64 × qa_T)
  | 0, _, _ => none
  | n + 1, x1, σ =>
    if (σ.1 (10, 22) (((Int16.ofInt 146).toInt32)).toNatClampNeg) ≤ x1 then
      (qa_fX10_taken σ).bind fun c18 =>
      let σ20 := qa_fX10_mix ((c18).toInt64) σ
      (qa_fX10_taken σ20).bind fun c21 =>
      let σ23 := qa_fX10_mix ((c21).toInt64) σ20
      qa_fX10_digest_291  qa_fu ((Int16.ofInt 163).toInt32) σ23
    else
      if ¬ qa_in (((Int16.ofInt 147).toInt32) + x1) 176 = true then none else
      let σ53 := qa_fX10_mix (((σ.1 (10, 22) ((((Int16.ofInt 147).toInt32) + x1)).toNatClampNeg)).toInt64) σ
      let v54 : Int32 := x1 + Int32.ofInt 1
      qa_fX10_digest_236  n v54 σ53
noncomputable def qa_fX10_digest_190  (y0 : Int64) (σ : qa_T) : Option (Int64 × qa_T) :=
    let σ13 := qa_fX10_mix y0 σ
    let σ14 := qa_fX10_mix ((((σ13.1 (10, 22) (((Int16.ofInt 144).toInt32)).toNatClampNeg) + (Int32.ofInt 1))).toInt64) σ13
    let σ15 := qa_fX10_mix (((σ14.1 (10, 22) (((Int16.ofInt 145).toInt32)).toNatClampNeg)).toInt64) σ14
    let σ16 := qa_fX10_mix (((σ15.1 (10, 22) (((Int16.ofInt 146).toInt32)).toNatClampNeg)).toInt64) σ15
    qa_fX10_digest_236  qa_fu (Int32.ofInt 0) σ16
noncomputable def qa_fX10_digest_60  : Nat → Int32 → qa_T → Option (Int64 × qa_T)
  | 0, _, _ => none
  | n + 1, x1, σ =>
    if (σ.1 (10, 22) (((Int8.ofInt 113).toInt32)).toNatClampNeg) ≤ x1 then
      let σ7 := qa_fX10_mix ((((σ.1 (10, 22) (((Int16.ofInt 138).toInt32)).toNatClampNeg) + (Int32.ofInt 1))).toInt64) σ
      let σ8 := qa_fX10_mix ((((σ7.1 (10, 22) (((Int16.ofInt 139).toInt32)).toNatClampNeg) + (Int32.ofInt 1))).toInt64) σ7
      let σ9 := qa_fX10_mix ((((σ8.1 (10, 22) (((Int16.ofInt 140).toInt32)).toNatClampNeg) + (Int32.ofInt 1))).toInt64) σ8
      let σ10 := qa_fX10_mix (((σ9.1 (10, 22) (((Int16.ofInt 141).toInt32)).toNatClampNeg)).toInt64) σ9
      let σ11 := qa_fX10_mix ((((σ10.1 (10, 22) (((Int16.ofInt 142).toInt32)).toNatClampNeg) + (Int32.ofInt 1))).toInt64) σ10
      if ¬ (σ11.1 (10, 22) (((Int16.ofInt 139).toInt32)).toNatClampNeg) = (Int32.ofInt (-1)) then
        qa_fX10_digest_190  (((σ11.1 (10, 22) (((Int16.ofInt 143).toInt32)).toNatClampNeg)).toInt64) σ11
      else
        qa_fX10_digest_190  (Int64.ofNat ((0 : Fin 2) : Nat)) σ11
    else
      if ¬ qa_in (((Int8.ofInt 114).toInt32) + x1) 176 = true then none else
      let σ56 := qa_fX10_mix (((σ.1 (10, 22) ((((Int8.ofInt 114).toInt32) + x1)).toNatClampNeg)).toInt64) σ
      let v57 : Int32 := x1 + Int32.ofInt 1
      qa_fX10_digest_60  n v57 σ56
noncomputable def qa_fX10_digest_25  : Nat → Int32 → qa_T → Option (Int64 × qa_T)
  | 0, _, _ => none
  | n + 1, x1, σ =>
    if (σ.1 (10, 22) ((Int32.ofInt 0)).toNatClampNeg) ≤ x1 then
      let σ5 := qa_fX10_mix (((σ.1 (10, 22) (((Int8.ofInt 113).toInt32)).toNatClampNeg)).toInt64) σ
      qa_fX10_digest_60  qa_fu (Int32.ofInt 0) σ5
    else
      (qa_fX10_mixesSlide x1 σ).bind fun c58 =>
      let v60 : Int32 := x1 + Int32.ofInt 1
      qa_fX10_digest_25  n v60 c58
noncomputable def qa_fX10_digest  (σ : qa_T) : Option (Int64 × qa_T) :=
    let σ1 := qa_wi σ (10, 21) 9 (Int32.ofInt 0)
    let σ2 := qa_wl σ1 (10, 21) 14 (4447 : Int64)
    let σ3 := qa_fX10_mix (((σ2.1 (10, 22) ((Int32.ofInt 0)).toNatClampNeg)).toInt64) σ2
    qa_fX10_digest_25  qa_fu (Int32.ofInt 0) σ3
set_option maxRecDepth 100000 in
theorem qa_tX10_digest_448 {L : Nat}   : ∀ (n : Nat) (x2 : Int32) (σ : qa_T) (r : (Int64 × qa_T)), qa_fX10_digest_448  n x2 σ = some r → qa_Bk (qa_ds L) qa_mX10_digest 448 [(0, .inl (10, 21)), (2, .inr (.int x2))] [] σ (.inl (some (.inr (.long r.1)))) r.2 := by
  intro n
  induction n with
  | zero => intro x2 σ r h; cases h
  | succ n ih =>
    intro x2 σ r h
    unfold qa_fX10_digest_448 at h
    try dsimp only at h
    refine qa_bk_do (pc' := 449) rfl rfl ?_
    refine qa_bk_do (pc' := 450) rfl rfl ?_
    refine qa_bk_gi rfl rfl qa_dx_10_21 rfl ?_
    rcases qa_ite h with ⟨hc42, h⟩ | ⟨hc42, h⟩
    · refine qa_bk_1t (a := 473) (b := 456) hc42 rfl rfl ?_
      refine qa_bk_do (pc' := 474) rfl rfl ?_
      refine qa_bk_gl rfl rfl qa_dx_10_21 rfl ?_
      cases h
      exact qa_bk_re rfl rfl rfl
    · refine qa_bk_1f (a := 473) (b := 456) hc42 rfl rfl ?_
      refine qa_bk_do (pc' := 457) rfl rfl ?_
      refine qa_bk_do (pc' := 458) rfl rfl ?_
      refine qa_bk_gr rfl rfl qa_dx_10_21 rfl ?_
      refine qa_bk_do (pc' := 462) rfl rfl ?_
      rcases qa_ite h with ⟨_, h⟩ | ⟨hc43, h⟩
      · cases h
      refine qa_bk_ia rfl qa_dx_10_28 (Or.inl rfl) (Decidable.of_not_not hc43) ?_
      refine qa_bk_do (pc' := 464) rfl rfl ?_
      refine qa_bk_cv (qa_tX10_mix rfl) rfl rfl rfl rfl rfl rfl rfl qa_dx_10_21 ?_
      refine qa_bk_do (pc' := 470) (lv' := [(2, _), (0, _)]) rfl rfl ?_
      refine qa_bk_do (pc' := 448) rfl rfl ?_
      exact qa_bk_lw (ih _ _ _ h) rfl rfl (And.intro rfl (And.intro rfl (trivial)))
set_option maxRecDepth 100000 in
theorem qa_tX10_digest_434 {L : Nat}   {y0 : Int64} {σ : qa_T} {r : (Int64 × qa_T)} (h : qa_fX10_digest_434  y0 σ = some r) : qa_Bk (qa_ds L) qa_mX10_digest 434 [(0, .inl (10, 21))] [.inr (.long y0), .inl (10, 21)] σ (.inl (some (.inr (.long r.1)))) r.2 := by
  unfold qa_fX10_digest_434 at h
  try dsimp only at h
  refine qa_bk_cv (qa_tX10_mix rfl) rfl rfl rfl rfl rfl rfl rfl qa_dx_10_21 ?_
  refine qa_bk_do (pc' := 438) rfl rfl ?_
  refine qa_bk_do (pc' := 439) rfl rfl ?_
  refine qa_bk_gi rfl rfl qa_dx_10_21 rfl ?_
  refine qa_bk_do (pc' := 443) rfl rfl ?_
  refine qa_bk_cv (qa_tX10_mix rfl) rfl rfl rfl rfl rfl rfl rfl qa_dx_10_21 ?_
  refine qa_bk_do (pc' := 447) rfl rfl ?_
  refine qa_bk_do (pc' := 448) (lv' := [(2, _), (0, _)]) rfl rfl ?_
  exact qa_bk_lw (qa_tX10_digest_448  _ _ _ _ h) rfl rfl (And.intro rfl (And.intro rfl (trivial)))
set_option maxRecDepth 100000 in
theorem qa_tX10_digest_416 {L : Nat}   {y0 : Int64} {σ : qa_T} {r : (Int64 × qa_T)} (h : qa_fX10_digest_416  y0 σ = some r) : qa_Bk (qa_ds L) qa_mX10_digest 416 [(0, .inl (10, 21))] [.inr (.long y0), .inl (10, 21)] σ (.inl (some (.inr (.long r.1)))) r.2 := by
  unfold qa_fX10_digest_416 at h
  try dsimp only at h
  refine qa_bk_cv (qa_tX10_mix rfl) rfl rfl rfl rfl rfl rfl rfl qa_dx_10_21 ?_
  refine qa_bk_do (pc' := 420) rfl rfl ?_
  refine qa_bk_do (pc' := 421) rfl rfl ?_
  refine qa_bk_gr rfl rfl qa_dx_10_21 rfl ?_
  refine qa_bk_do (pc' := 425) rfl rfl ?_
  refine qa_bk_ba rfl qa_dx_10_25 rfl ?_
  rcases qa_ite h with ⟨hc39, h⟩ | ⟨hc39, h⟩
  · refine qa_bk_1t (a := 433) (b := 429) hc39 rfl rfl ?_
    refine qa_bk_do (pc' := 434) rfl rfl ?_
    exact qa_bk_lw (qa_tX10_digest_434  h) rfl rfl (And.intro rfl (trivial))
  · refine qa_bk_1f (a := 433) (b := 429) hc39 rfl rfl ?_
    refine qa_bk_do (pc' := 430) rfl rfl ?_
    refine qa_bk_do (pc' := 434) rfl rfl ?_
    exact qa_bk_lw (qa_tX10_digest_434  h) rfl rfl (And.intro rfl (trivial))
set_option maxRecDepth 100000 in
theorem qa_tX10_digest_352 {L : Nat}   : ∀ (n : Nat) (x2 : Int32) (σ : qa_T) (r : (Int64 × qa_T)), qa_fX10_digest_352  n x2 σ = some r → qa_Bk (qa_ds L) qa_mX10_digest 352 [(0, .inl (10, 21)), (2, .inr (.int x2))] [] σ (.inl (some (.inr (.long r.1)))) r.2 := by
  intro n
  induction n with
  | zero => intro x2 σ r h; cases h
  | succ n ih =>
    intro x2 σ r h
    unfold qa_fX10_digest_352 at h
    try dsimp only at h
    refine qa_bk_do (pc' := 353) rfl rfl ?_
    refine qa_bk_do (pc' := 356) rfl rfl ?_
    rcases qa_ite h with ⟨hc30, h⟩ | ⟨hc30, h⟩
    · refine qa_bk_1t (a := 376) (b := 359) hc30 rfl rfl ?_
      refine qa_bk_do (pc' := 377) rfl rfl ?_
      refine qa_bk_do (pc' := 378) rfl rfl ?_
      refine qa_bk_gi rfl rfl qa_dx_10_21 rfl ?_
      refine qa_bk_do (pc' := 382) rfl rfl ?_
      refine qa_bk_cv (qa_tX10_mix rfl) rfl rfl rfl rfl rfl rfl rfl qa_dx_10_21 ?_
      refine qa_bk_do (pc' := 386) rfl rfl ?_
      refine qa_bk_do (pc' := 387) rfl rfl ?_
      obtain ⟨c32, hc33, h⟩ := Option.bind_eq_some_iff.mp h
      refine qa_bk_cv (qa_tX10_share hc33) rfl rfl rfl rfl rfl rfl rfl qa_dx_10_21 ?_
      refine qa_bk_do (pc' := 392) rfl rfl ?_
      refine qa_bk_do (pc' := 395) rfl rfl ?_
      obtain ⟨c34, hc35, h⟩ := Option.bind_eq_some_iff.mp h
      refine qa_bk_cs (qa_tX10_bitsOf hc35) rfl rfl rfl rfl rfl rfl rfl ?_
      refine qa_bk_cv (qa_tX10_mix rfl) rfl rfl rfl rfl rfl rfl rfl qa_dx_10_21 ?_
      refine qa_bk_do (pc' := 402) rfl rfl ?_
      refine qa_bk_do (pc' := 403) rfl rfl ?_
      refine qa_bk_gr rfl rfl qa_dx_10_21 rfl ?_
      refine qa_bk_do (pc' := 407) rfl rfl ?_
      refine qa_bk_ba rfl qa_dx_10_25 rfl ?_
      rcases qa_ite h with ⟨hc37, h⟩ | ⟨hc37, h⟩
      · refine qa_bk_1t (a := 415) (b := 411) hc37 rfl rfl ?_
        refine qa_bk_do (pc' := 416) rfl rfl ?_
        exact qa_bk_lw (qa_tX10_digest_416  h) rfl rfl (And.intro rfl (trivial))
      · refine qa_bk_1f (a := 415) (b := 411) hc37 rfl rfl ?_
        refine qa_bk_do (pc' := 412) rfl rfl ?_
        refine qa_bk_do (pc' := 416) rfl rfl ?_
        exact qa_bk_lw (qa_tX10_digest_416  h) rfl rfl (And.intro rfl (trivial))
    · refine qa_bk_1f (a := 376) (b := 359) hc30 rfl rfl ?_
      refine qa_bk_do (pc' := 360) rfl rfl ?_
      refine qa_bk_do (pc' := 361) rfl rfl ?_
      refine qa_bk_gr rfl rfl qa_dx_10_21 rfl ?_
      refine qa_bk_do (pc' := 365) rfl rfl ?_
      rcases qa_ite h with ⟨_, h⟩ | ⟨hc46, h⟩
      · cases h
      refine qa_bk_ia rfl qa_dx_10_22 (Or.inl rfl) (Decidable.of_not_not hc46) ?_
      refine qa_bk_do (pc' := 367) rfl rfl ?_
      refine qa_bk_cv (qa_tX10_mix rfl) rfl rfl rfl rfl rfl rfl rfl qa_dx_10_21 ?_
      refine qa_bk_do (pc' := 373) (lv' := [(2, _), (0, _)]) rfl rfl ?_
      refine qa_bk_do (pc' := 352) rfl rfl ?_
      exact qa_bk_lw (ih _ _ _ h) rfl rfl (And.intro rfl (And.intro rfl (trivial)))
set_option maxRecDepth 100000 in
theorem qa_tX10_digest_335 {L : Nat}   {y0 : Int32} {σ : qa_T} {r : (Int64 × qa_T)} (h : qa_fX10_digest_335  y0 σ = some r) : qa_Bk (qa_ds L) qa_mX10_digest 335 [(0, .inl (10, 21))] [.inr (.int y0)] σ (.inl (some (.inr (.long r.1)))) r.2 := by
  unfold qa_fX10_digest_335 at h
  try dsimp only at h
  refine qa_bk_do (pc' := 336) (lv' := [(1, _), (0, _)]) rfl rfl ?_
  refine qa_bk_do (pc' := 337) rfl rfl ?_
  refine qa_bk_do (pc' := 338) rfl rfl ?_
  refine qa_bk_do (pc' := 339) rfl rfl ?_
  refine qa_bk_cv (qa_tX10_mix rfl) rfl rfl rfl rfl rfl rfl rfl qa_dx_10_21 ?_
  refine qa_bk_do (pc' := 343) rfl rfl ?_
  refine qa_bk_do (pc' := 344) rfl rfl ?_
  refine qa_bk_do (pc' := 345) rfl rfl ?_
  refine qa_bk_cv (qa_tX10_mix rfl) rfl rfl rfl rfl rfl rfl rfl qa_dx_10_21 ?_
  refine qa_bk_do (pc' := 351) rfl rfl ?_
  refine qa_bk_do (pc' := 352) (lv' := [(2, _), (1, _), (0, _)]) rfl rfl ?_
  exact qa_bk_lw (qa_tX10_digest_352  _ _ _ _ h) rfl rfl (And.intro rfl (And.intro rfl (trivial)))
set_option maxRecDepth 100000 in
theorem qa_tX10_digest_291 {L : Nat}   : ∀ (n : Nat) (x1 : Int32) (σ : qa_T) (r : (Int64 × qa_T)), qa_fX10_digest_291  n x1 σ = some r → qa_Bk (qa_ds L) qa_mX10_digest 291 [(0, .inl (10, 21)), (1, .inr (.int x1))] [] σ (.inl (some (.inr (.long r.1)))) r.2 := by
  intro n
  induction n with
  | zero => intro x1 σ r h; cases h
  | succ n ih =>
    intro x1 σ r h
    unfold qa_fX10_digest_291 at h
    try dsimp only at h
    refine qa_bk_do (pc' := 292) rfl rfl ?_
    refine qa_bk_do (pc' := 295) rfl rfl ?_
    rcases qa_ite h with ⟨hc24, h⟩ | ⟨hc24, h⟩
    · refine qa_bk_1t (a := 315) (b := 298) hc24 rfl rfl ?_
      refine qa_bk_do (pc' := 316) rfl rfl ?_
      refine qa_bk_gr rfl rfl qa_dx_10_21 rfl ?_
      refine qa_bk_do (pc' := 322) rfl rfl ?_
      refine qa_bk_ia rfl qa_dx_10_22 (Or.inl rfl) rfl ?_
      refine qa_bk_do (pc' := 324) rfl rfl ?_
      rcases qa_ite h with ⟨hc25, h⟩ | ⟨hc25, h⟩
      · refine qa_bk_1t (a := 331) (b := 327) hc25 rfl rfl ?_
        refine qa_bk_do (pc' := 332) rfl rfl ?_
        obtain ⟨c26, hc27, h⟩ := Option.bind_eq_some_iff.mp h
        refine qa_bk_cv (qa_tX10_untilShown hc27) rfl rfl rfl rfl rfl rfl rfl qa_dx_10_21 ?_
        exact qa_bk_lw (qa_tX10_digest_335  h) rfl rfl (And.intro rfl (trivial))
      · refine qa_bk_1f (a := 331) (b := 327) hc25 rfl rfl ?_
        refine qa_bk_do (pc' := 328) rfl rfl ?_
        refine qa_bk_do (pc' := 335) rfl rfl ?_
        exact qa_bk_lw (qa_tX10_digest_335  h) rfl rfl (And.intro rfl (trivial))
    · refine qa_bk_1f (a := 315) (b := 298) hc24 rfl rfl ?_
      refine qa_bk_do (pc' := 299) rfl rfl ?_
      refine qa_bk_do (pc' := 300) rfl rfl ?_
      refine qa_bk_gr rfl rfl qa_dx_10_21 rfl ?_
      refine qa_bk_do (pc' := 304) rfl rfl ?_
      rcases qa_ite h with ⟨_, h⟩ | ⟨hc49, h⟩
      · cases h
      refine qa_bk_ia rfl qa_dx_10_22 (Or.inl rfl) (Decidable.of_not_not hc49) ?_
      refine qa_bk_do (pc' := 306) rfl rfl ?_
      refine qa_bk_cv (qa_tX10_mix rfl) rfl rfl rfl rfl rfl rfl rfl qa_dx_10_21 ?_
      refine qa_bk_do (pc' := 312) (lv' := [(1, _), (0, _)]) rfl rfl ?_
      refine qa_bk_do (pc' := 291) rfl rfl ?_
      exact qa_bk_lw (ih _ _ _ h) rfl rfl (And.intro rfl (And.intro rfl (trivial)))
set_option maxRecDepth 100000 in
theorem qa_tX10_digest_236 {L : Nat}   : ∀ (n : Nat) (x1 : Int32) (σ : qa_T) (r : (Int64 × qa_T)), qa_fX10_digest_236  n x1 σ = some r → qa_Bk (qa_ds L) qa_mX10_digest 236 [(0, .inl (10, 21)), (1, .inr (.int x1))] [] σ (.inl (some (.inr (.long r.1)))) r.2 := by
  intro n
  induction n with
  | zero => intro x1 σ r h; cases h
  | succ n ih =>
    intro x1 σ r h
    unfold qa_fX10_digest_236 at h
    try dsimp only at h
    refine qa_bk_do (pc' := 237) rfl rfl ?_
    refine qa_bk_do (pc' := 238) rfl rfl ?_
    refine qa_bk_gr rfl rfl qa_dx_10_21 rfl ?_
    refine qa_bk_do (pc' := 244) rfl rfl ?_
    refine qa_bk_ia rfl qa_dx_10_22 (Or.inl rfl) rfl ?_
    rcases qa_ite h with ⟨hc17, h⟩ | ⟨hc17, h⟩
    · refine qa_bk_1t (a := 269) (b := 248) hc17 rfl rfl ?_
      refine qa_bk_do (pc' := 270) rfl rfl ?_
      refine qa_bk_do (pc' := 271) rfl rfl ?_
      obtain ⟨c18, hc19, h⟩ := Option.bind_eq_some_iff.mp h
      refine qa_bk_cv (qa_tX10_taken hc19) rfl rfl rfl rfl rfl rfl rfl qa_dx_10_21 ?_
      refine qa_bk_do (pc' := 275) rfl rfl ?_
      refine qa_bk_cv (qa_tX10_mix rfl) rfl rfl rfl rfl rfl rfl rfl qa_dx_10_21 ?_
      refine qa_bk_do (pc' := 279) rfl rfl ?_
      refine qa_bk_do (pc' := 280) rfl rfl ?_
      obtain ⟨c21, hc22, h⟩ := Option.bind_eq_some_iff.mp h
      refine qa_bk_cv (qa_tX10_taken hc22) rfl rfl rfl rfl rfl rfl rfl qa_dx_10_21 ?_
      refine qa_bk_do (pc' := 284) rfl rfl ?_
      refine qa_bk_cv (qa_tX10_mix rfl) rfl rfl rfl rfl rfl rfl rfl qa_dx_10_21 ?_
      refine qa_bk_do (pc' := 290) rfl rfl ?_
      refine qa_bk_do (pc' := 291) (lv' := [(1, _), (0, _)]) rfl rfl ?_
      exact qa_bk_lw (qa_tX10_digest_291  _ _ _ _ h) rfl rfl (And.intro rfl (And.intro rfl (trivial)))
    · refine qa_bk_1f (a := 269) (b := 248) hc17 rfl rfl ?_
      refine qa_bk_do (pc' := 249) rfl rfl ?_
      refine qa_bk_do (pc' := 250) rfl rfl ?_
      refine qa_bk_gr rfl rfl qa_dx_10_21 rfl ?_
      refine qa_bk_do (pc' := 256) rfl rfl ?_
      refine qa_bk_do (pc' := 257) rfl rfl ?_
      refine qa_bk_do (pc' := 258) rfl rfl ?_
      rcases qa_ite h with ⟨_, h⟩ | ⟨hc52, h⟩
      · cases h
      refine qa_bk_ia rfl qa_dx_10_22 (Or.inl rfl) (Decidable.of_not_not hc52) ?_
      refine qa_bk_do (pc' := 260) rfl rfl ?_
      refine qa_bk_cv (qa_tX10_mix rfl) rfl rfl rfl rfl rfl rfl rfl qa_dx_10_21 ?_
      refine qa_bk_do (pc' := 266) (lv' := [(1, _), (0, _)]) rfl rfl ?_
      refine qa_bk_do (pc' := 236) rfl rfl ?_
      exact qa_bk_lw (ih _ _ _ h) rfl rfl (And.intro rfl (And.intro rfl (trivial)))
set_option maxRecDepth 100000 in
theorem qa_tX10_digest_190 {L : Nat}   {y0 : Int64} {σ : qa_T} {r : (Int64 × qa_T)} (h : qa_fX10_digest_190  y0 σ = some r) : qa_Bk (qa_ds L) qa_mX10_digest 190 [(0, .inl (10, 21))] [.inr (.long y0), .inl (10, 21)] σ (.inl (some (.inr (.long r.1)))) r.2 := by
  unfold qa_fX10_digest_190 at h
  try dsimp only at h
  refine qa_bk_cv (qa_tX10_mix rfl) rfl rfl rfl rfl rfl rfl rfl qa_dx_10_21 ?_
  refine qa_bk_do (pc' := 194) rfl rfl ?_
  refine qa_bk_do (pc' := 195) rfl rfl ?_
  refine qa_bk_gr rfl rfl qa_dx_10_21 rfl ?_
  refine qa_bk_do (pc' := 201) rfl rfl ?_
  refine qa_bk_ia rfl qa_dx_10_22 (Or.inl rfl) rfl ?_
  refine qa_bk_do (pc' := 203) rfl rfl ?_
  refine qa_bk_do (pc' := 204) rfl rfl ?_
  refine qa_bk_do (pc' := 205) rfl rfl ?_
  refine qa_bk_cv (qa_tX10_mix rfl) rfl rfl rfl rfl rfl rfl rfl qa_dx_10_21 ?_
  refine qa_bk_do (pc' := 209) rfl rfl ?_
  refine qa_bk_do (pc' := 210) rfl rfl ?_
  refine qa_bk_gr rfl rfl qa_dx_10_21 rfl ?_
  refine qa_bk_do (pc' := 216) rfl rfl ?_
  refine qa_bk_ia rfl qa_dx_10_22 (Or.inl rfl) rfl ?_
  refine qa_bk_do (pc' := 218) rfl rfl ?_
  refine qa_bk_cv (qa_tX10_mix rfl) rfl rfl rfl rfl rfl rfl rfl qa_dx_10_21 ?_
  refine qa_bk_do (pc' := 222) rfl rfl ?_
  refine qa_bk_do (pc' := 223) rfl rfl ?_
  refine qa_bk_gr rfl rfl qa_dx_10_21 rfl ?_
  refine qa_bk_do (pc' := 229) rfl rfl ?_
  refine qa_bk_ia rfl qa_dx_10_22 (Or.inl rfl) rfl ?_
  refine qa_bk_do (pc' := 231) rfl rfl ?_
  refine qa_bk_cv (qa_tX10_mix rfl) rfl rfl rfl rfl rfl rfl rfl qa_dx_10_21 ?_
  refine qa_bk_do (pc' := 235) rfl rfl ?_
  refine qa_bk_do (pc' := 236) (lv' := [(1, _), (0, _)]) rfl rfl ?_
  exact qa_bk_lw (qa_tX10_digest_236  _ _ _ _ h) rfl rfl (And.intro rfl (And.intro rfl (trivial)))
set_option maxRecDepth 100000 in
theorem qa_tX10_digest_60 {L : Nat}   : ∀ (n : Nat) (x1 : Int32) (σ : qa_T) (r : (Int64 × qa_T)), qa_fX10_digest_60  n x1 σ = some r → qa_Bk (qa_ds L) qa_mX10_digest 60 [(0, .inl (10, 21)), (1, .inr (.int x1))] [] σ (.inl (some (.inr (.long r.1)))) r.2 := by
  intro n
  induction n with
  | zero => intro x1 σ r h; cases h
  | succ n ih =>
    intro x1 σ r h
    unfold qa_fX10_digest_60 at h
    try dsimp only at h
    refine qa_bk_do (pc' := 61) rfl rfl ?_
    refine qa_bk_do (pc' := 62) rfl rfl ?_
    refine qa_bk_gr rfl rfl qa_dx_10_21 rfl ?_
    refine qa_bk_do (pc' := 67) rfl rfl ?_
    refine qa_bk_ia rfl qa_dx_10_22 (Or.inl rfl) rfl ?_
    rcases qa_ite h with ⟨hc6, h⟩ | ⟨hc6, h⟩
    · refine qa_bk_1t (a := 91) (b := 71) hc6 rfl rfl ?_
      refine qa_bk_do (pc' := 92) rfl rfl ?_
      refine qa_bk_do (pc' := 93) rfl rfl ?_
      refine qa_bk_gr rfl rfl qa_dx_10_21 rfl ?_
      refine qa_bk_do (pc' := 99) rfl rfl ?_
      refine qa_bk_ia rfl qa_dx_10_22 (Or.inl rfl) rfl ?_
      refine qa_bk_do (pc' := 101) rfl rfl ?_
      refine qa_bk_do (pc' := 102) rfl rfl ?_
      refine qa_bk_do (pc' := 103) rfl rfl ?_
      refine qa_bk_cv (qa_tX10_mix rfl) rfl rfl rfl rfl rfl rfl rfl qa_dx_10_21 ?_
      refine qa_bk_do (pc' := 107) rfl rfl ?_
      refine qa_bk_do (pc' := 108) rfl rfl ?_
      refine qa_bk_gr rfl rfl qa_dx_10_21 rfl ?_
      refine qa_bk_do (pc' := 114) rfl rfl ?_
      refine qa_bk_ia rfl qa_dx_10_22 (Or.inl rfl) rfl ?_
      refine qa_bk_do (pc' := 116) rfl rfl ?_
      refine qa_bk_do (pc' := 117) rfl rfl ?_
      refine qa_bk_do (pc' := 118) rfl rfl ?_
      refine qa_bk_cv (qa_tX10_mix rfl) rfl rfl rfl rfl rfl rfl rfl qa_dx_10_21 ?_
      refine qa_bk_do (pc' := 122) rfl rfl ?_
      refine qa_bk_do (pc' := 123) rfl rfl ?_
      refine qa_bk_gr rfl rfl qa_dx_10_21 rfl ?_
      refine qa_bk_do (pc' := 129) rfl rfl ?_
      refine qa_bk_ia rfl qa_dx_10_22 (Or.inl rfl) rfl ?_
      refine qa_bk_do (pc' := 131) rfl rfl ?_
      refine qa_bk_do (pc' := 132) rfl rfl ?_
      refine qa_bk_do (pc' := 133) rfl rfl ?_
      refine qa_bk_cv (qa_tX10_mix rfl) rfl rfl rfl rfl rfl rfl rfl qa_dx_10_21 ?_
      refine qa_bk_do (pc' := 137) rfl rfl ?_
      refine qa_bk_do (pc' := 138) rfl rfl ?_
      refine qa_bk_gr rfl rfl qa_dx_10_21 rfl ?_
      refine qa_bk_do (pc' := 144) rfl rfl ?_
      refine qa_bk_ia rfl qa_dx_10_22 (Or.inl rfl) rfl ?_
      refine qa_bk_do (pc' := 146) rfl rfl ?_
      refine qa_bk_cv (qa_tX10_mix rfl) rfl rfl rfl rfl rfl rfl rfl qa_dx_10_21 ?_
      refine qa_bk_do (pc' := 150) rfl rfl ?_
      refine qa_bk_do (pc' := 151) rfl rfl ?_
      refine qa_bk_gr rfl rfl qa_dx_10_21 rfl ?_
      refine qa_bk_do (pc' := 157) rfl rfl ?_
      refine qa_bk_ia rfl qa_dx_10_22 (Or.inl rfl) rfl ?_
      refine qa_bk_do (pc' := 159) rfl rfl ?_
      refine qa_bk_do (pc' := 160) rfl rfl ?_
      refine qa_bk_do (pc' := 161) rfl rfl ?_
      refine qa_bk_cv (qa_tX10_mix rfl) rfl rfl rfl rfl rfl rfl rfl qa_dx_10_21 ?_
      refine qa_bk_do (pc' := 165) rfl rfl ?_
      refine qa_bk_do (pc' := 166) rfl rfl ?_
      refine qa_bk_gr rfl rfl qa_dx_10_21 rfl ?_
      refine qa_bk_do (pc' := 172) rfl rfl ?_
      refine qa_bk_ia rfl qa_dx_10_22 (Or.inl rfl) rfl ?_
      refine qa_bk_do (pc' := 174) rfl rfl ?_
      rcases qa_ite h with ⟨hc12, h⟩ | ⟨hc12, h⟩
      · refine qa_bk_1t (a := 181) (b := 177) hc12 rfl rfl ?_
        refine qa_bk_do (pc' := 182) rfl rfl ?_
        refine qa_bk_gr rfl rfl qa_dx_10_21 rfl ?_
        refine qa_bk_do (pc' := 188) rfl rfl ?_
        refine qa_bk_ia rfl qa_dx_10_22 (Or.inl rfl) rfl ?_
        refine qa_bk_do (pc' := 190) rfl rfl ?_
        exact qa_bk_lw (qa_tX10_digest_190  h) rfl rfl (And.intro rfl (trivial))
      · refine qa_bk_1f (a := 181) (b := 177) hc12 rfl rfl ?_
        refine qa_bk_do (pc' := 178) rfl rfl ?_
        refine qa_bk_do (pc' := 190) rfl rfl ?_
        exact qa_bk_lw (qa_tX10_digest_190  h) rfl rfl (And.intro rfl (trivial))
    · refine qa_bk_1f (a := 91) (b := 71) hc6 rfl rfl ?_
      refine qa_bk_do (pc' := 72) rfl rfl ?_
      refine qa_bk_do (pc' := 73) rfl rfl ?_
      refine qa_bk_gr rfl rfl qa_dx_10_21 rfl ?_
      refine qa_bk_do (pc' := 78) rfl rfl ?_
      refine qa_bk_do (pc' := 79) rfl rfl ?_
      refine qa_bk_do (pc' := 80) rfl rfl ?_
      rcases qa_ite h with ⟨_, h⟩ | ⟨hc55, h⟩
      · cases h
      refine qa_bk_ia rfl qa_dx_10_22 (Or.inl rfl) (Decidable.of_not_not hc55) ?_
      refine qa_bk_do (pc' := 82) rfl rfl ?_
      refine qa_bk_cv (qa_tX10_mix rfl) rfl rfl rfl rfl rfl rfl rfl qa_dx_10_21 ?_
      refine qa_bk_do (pc' := 88) (lv' := [(1, _), (0, _)]) rfl rfl ?_
      refine qa_bk_do (pc' := 60) rfl rfl ?_
      exact qa_bk_lw (ih _ _ _ h) rfl rfl (And.intro rfl (And.intro rfl (trivial)))
set_option maxRecDepth 100000 in
theorem qa_tX10_digest_25 {L : Nat}   : ∀ (n : Nat) (x1 : Int32) (σ : qa_T) (r : (Int64 × qa_T)), qa_fX10_digest_25  n x1 σ = some r → qa_Bk (qa_ds L) qa_mX10_digest 25 [(0, .inl (10, 21)), (1, .inr (.int x1))] [] σ (.inl (some (.inr (.long r.1)))) r.2 := by
  intro n
  induction n with
  | zero => intro x1 σ r h; cases h
  | succ n ih =>
    intro x1 σ r h
    unfold qa_fX10_digest_25 at h
    try dsimp only at h
    refine qa_bk_do (pc' := 26) rfl rfl ?_
    refine qa_bk_do (pc' := 27) rfl rfl ?_
    refine qa_bk_gr rfl rfl qa_dx_10_21 rfl ?_
    refine qa_bk_do (pc' := 31) rfl rfl ?_
    refine qa_bk_ia rfl qa_dx_10_22 (Or.inl rfl) rfl ?_
    rcases qa_ite h with ⟨hc4, h⟩ | ⟨hc4, h⟩
    · refine qa_bk_1t (a := 46) (b := 35) hc4 rfl rfl ?_
      refine qa_bk_do (pc' := 47) rfl rfl ?_
      refine qa_bk_do (pc' := 48) rfl rfl ?_
      refine qa_bk_gr rfl rfl qa_dx_10_21 rfl ?_
      refine qa_bk_do (pc' := 53) rfl rfl ?_
      refine qa_bk_ia rfl qa_dx_10_22 (Or.inl rfl) rfl ?_
      refine qa_bk_do (pc' := 55) rfl rfl ?_
      refine qa_bk_cv (qa_tX10_mix rfl) rfl rfl rfl rfl rfl rfl rfl qa_dx_10_21 ?_
      refine qa_bk_do (pc' := 59) rfl rfl ?_
      refine qa_bk_do (pc' := 60) (lv' := [(1, _), (0, _)]) rfl rfl ?_
      exact qa_bk_lw (qa_tX10_digest_60  _ _ _ _ h) rfl rfl (And.intro rfl (And.intro rfl (trivial)))
    · refine qa_bk_1f (a := 46) (b := 35) hc4 rfl rfl ?_
      refine qa_bk_do (pc' := 36) rfl rfl ?_
      refine qa_bk_do (pc' := 37) rfl rfl ?_
      obtain ⟨c58, hc59, h⟩ := Option.bind_eq_some_iff.mp h
      refine qa_bk_cv (qa_tX10_mixesSlide hc59) rfl rfl rfl rfl rfl rfl rfl qa_dx_10_21 ?_
      refine qa_bk_do (pc' := 43) (lv' := [(1, _), (0, _)]) rfl rfl ?_
      refine qa_bk_do (pc' := 25) rfl rfl ?_
      exact qa_bk_lw (ih _ _ _ h) rfl rfl (And.intro rfl (And.intro rfl (trivial)))
set_option maxRecDepth 100000 in
theorem qa_tX10_digest {L : Nat}   {σ : qa_T} {r : (Int64 × qa_T)} (h : qa_fX10_digest  σ = some r) : qa_Bk (qa_ds L) qa_mX10_digest 0 (qa_ag 0 [.inl (10, 21)]) [] σ (.inl (some (.inr (.long r.1)))) r.2 := by
  unfold qa_fX10_digest at h
  try dsimp only at h
  show qa_Bk (qa_ds L) qa_mX10_digest 0 [(0, .inl (10, 21))] [] σ _ _
  refine qa_bk_do (pc' := 1) rfl rfl ?_
  refine qa_bk_do (pc' := 2) rfl rfl ?_
  refine qa_bk_pf rfl rfl qa_dx_10_21 rfl (qa_fiti _) rfl ?_
  refine qa_bk_do (pc' := 6) rfl rfl ?_
  refine qa_bk_do (pc' := 9) rfl rfl ?_
  refine qa_bk_pl rfl rfl qa_dx_10_21 rfl (qa_fitj _) rfl ?_
  refine qa_bk_do (pc' := 13) rfl rfl ?_
  refine qa_bk_do (pc' := 14) rfl rfl ?_
  refine qa_bk_gr rfl rfl qa_dx_10_21 rfl ?_
  refine qa_bk_do (pc' := 18) rfl rfl ?_
  refine qa_bk_ia rfl qa_dx_10_22 (Or.inl rfl) rfl ?_
  refine qa_bk_do (pc' := 20) rfl rfl ?_
  refine qa_bk_cv (qa_tX10_mix rfl) rfl rfl rfl rfl rfl rfl rfl qa_dx_10_21 ?_
  refine qa_bk_do (pc' := 24) rfl rfl ?_
  refine qa_bk_do (pc' := 25) (lv' := [(1, _), (0, _)]) rfl rfl ?_
  exact qa_bk_lw (qa_tX10_digest_25  _ _ _ _ h) rfl rfl (And.intro rfl (And.intro rfl (trivial)))
