/-! the law's start (2): the reference's constructor -/
section QCR
variable {M : qa_M} {pc : Nat} {lv : qa_L}
theorem qa_cz_ir {P : qa_H → Nat → Nat → Prop} {n R j : Nat} {nx : qa_P} {f : Nat → Int32} {i v : Int32} {r : List qa_V} {l : List (Nat × qa_C)} {b : qa_P → qa_C} (h1 : qa_lk (qa_is M) pc = some (.iastore, 1)) (hd : qa_hr R l b (R, j) = .inr (0, n, .inl f)) (hi : qa_in i n = true) (e : qa_Cz P M (pc + 1) lv r (nx, qa_hr R ((j, .inr (0, n, .inl (upd f i.toNatClampNeg v))) :: l) b)) : qa_Cz P M pc lv (.inr (.int v) :: .inr (.int i) :: .inl (R, j) :: r) (nx, qa_hr R l b) := by
  refine qa_cz_is h1 hd hi ?_
  rw [qa_hr_up]
  exact e
set_option maxRecDepth 1000000 in
set_option maxHeartbeats 4000000 in
theorem qa_cX10_run {P : qa_H → Nat → Nat → Prop} {l0 : List (Nat × qa_C)} {b : qa_P → qa_C} (hP : ∀ (l : List (Nat × qa_C)), (∀ j, j < 21 ∨ 29 ≤ j → qa_lk l j = qa_lk l0 j) → (∀ j, 21 ≤ j → j < 29 → qa_lk l j = some (qa_sh (qa_dx10 j) (if j = 22 then qi_0 else fun _ => 0) (fun _ => 0))) → P ((10, 29), qa_hr 10 l b) 7 1998) : qa_Cz P qa_mX10_init 0 [(0, .inl (10, 21))] [] ((10, 22), qa_hr 10 ((21, .inl (10, fun j => .inr (defaultValue (qa_ft 10 j)))) :: l0) b) := by
  refine qa_cz_do (pc' := 1) rfl rfl ?_
  refine qa_cz_do (pc' := 4) rfl rfl ?_
  refine qa_cz_do (pc' := 5) rfl rfl ?_
  refine qa_cz_do (pc' := 8) rfl rfl ?_
  refine qa_cz_mr rfl rfl rfl ?_
  refine qa_cz_pr rfl rfl (qa_hr_at rfl) rfl (fun _ => ⟨rfl, rfl⟩) ?_
  refine qa_cz_do (pc' := 14) rfl rfl ?_
  refine qa_cz_do (pc' := 17) rfl rfl ?_
  refine qa_cz_mr rfl rfl rfl ?_
  refine qa_cz_pr rfl rfl (qa_hr_at rfl) rfl (fun _ => ⟨rfl, rfl⟩) ?_
  refine qa_cz_do (pc' := 23) rfl rfl ?_
  refine qa_cz_do (pc' := 26) rfl rfl ?_
  refine qa_cz_mr rfl rfl rfl ?_
  refine qa_cz_pr rfl rfl (qa_hr_at rfl) rfl (fun _ => ⟨rfl, rfl⟩) ?_
  refine qa_cz_do (pc' := 32) rfl rfl ?_
  refine qa_cz_do (pc' := 33) rfl rfl ?_
  refine qa_cz_mr rfl rfl rfl ?_
  refine qa_cz_pr rfl rfl (qa_hr_at rfl) rfl (fun _ => ⟨rfl, rfl⟩) ?_
  refine qa_cz_do (pc' := 39) rfl rfl ?_
  refine qa_cz_do (pc' := 42) rfl rfl ?_
  refine qa_cz_mr rfl rfl rfl ?_
  refine qa_cz_pr rfl rfl (qa_hr_at rfl) rfl (fun _ => ⟨rfl, rfl⟩) ?_
  refine qa_cz_do (pc' := 48) rfl rfl ?_
  refine qa_cz_do (pc' := 51) rfl rfl ?_
  refine qa_cz_mr rfl rfl rfl ?_
  refine qa_cz_pr rfl rfl (qa_hr_at rfl) rfl (fun _ => ⟨rfl, rfl⟩) ?_
  refine qa_cz_do (pc' := 57) rfl rfl ?_
  refine qa_cz_do (pc' := 59) rfl rfl ?_
  refine qa_cz_mr rfl rfl rfl ?_
  refine qa_cz_pr rfl rfl (qa_hr_at rfl) rfl (fun _ => ⟨rfl, rfl⟩) ?_
  refine qa_cz_do (pc' := 65) rfl rfl ?_
  refine qa_cz_gf rfl rfl (qa_hr_at rfl) ?_
  refine qa_cz_do (pc' := 71) rfl rfl ?_
  refine qa_cz_do (pc' := 72) rfl rfl ?_
  refine qa_cz_ir rfl (qa_hr_at rfl) rfl ?_
  refine qa_cz_do (pc' := 74) rfl rfl ?_
  refine qa_cz_gf rfl rfl (qa_hr_at rfl) ?_
  refine qa_cz_do (pc' := 80) rfl rfl ?_
  refine qa_cz_do (pc' := 81) rfl rfl ?_
  refine qa_cz_ir rfl (qa_hr_at rfl) rfl ?_
  refine qa_cz_do (pc' := 83) rfl rfl ?_
  refine qa_cz_gf rfl rfl (qa_hr_at rfl) ?_
  refine qa_cz_do (pc' := 89) rfl rfl ?_
  refine qa_cz_do (pc' := 90) rfl rfl ?_
  refine qa_cz_ir rfl (qa_hr_at rfl) rfl ?_
  refine qa_cz_do (pc' := 92) rfl rfl ?_
  refine qa_cz_gf rfl rfl (qa_hr_at rfl) ?_
  refine qa_cz_do (pc' := 98) rfl rfl ?_
  refine qa_cz_do (pc' := 99) rfl rfl ?_
  refine qa_cz_ir rfl (qa_hr_at rfl) rfl ?_
  refine qa_cz_do (pc' := 101) rfl rfl ?_
  refine qa_cz_gf rfl rfl (qa_hr_at rfl) ?_
  refine qa_cz_do (pc' := 107) rfl rfl ?_
  refine qa_cz_do (pc' := 108) rfl rfl ?_
  refine qa_cz_ir rfl (qa_hr_at rfl) rfl ?_
  refine qa_cz_do (pc' := 110) rfl rfl ?_
  refine qa_cz_gf rfl rfl (qa_hr_at rfl) ?_
  refine qa_cz_do (pc' := 116) rfl rfl ?_
  refine qa_cz_do (pc' := 119) rfl rfl ?_
  refine qa_cz_ir rfl (qa_hr_at rfl) rfl ?_
  refine qa_cz_do (pc' := 121) rfl rfl ?_
  refine qa_cz_gf rfl rfl (qa_hr_at rfl) ?_
  refine qa_cz_do (pc' := 127) rfl rfl ?_
  refine qa_cz_do (pc' := 128) rfl rfl ?_
  refine qa_cz_ir rfl (qa_hr_at rfl) rfl ?_
  refine qa_cz_do (pc' := 130) rfl rfl ?_
  refine qa_cz_gf rfl rfl (qa_hr_at rfl) ?_
  refine qa_cz_do (pc' := 136) rfl rfl ?_
  refine qa_cz_do (pc' := 137) rfl rfl ?_
  refine qa_cz_ir rfl (qa_hr_at rfl) rfl ?_
  refine qa_cz_re rfl rfl ?_
  refine hP _ (fun j hj => ?_) (fun j h1 h2 => ?_)
  · have a1 : ¬ 21 = j := by omega
    have a2 : ¬ 22 = j := by omega
    have a3 : ¬ 23 = j := by omega
    have a4 : ¬ 24 = j := by omega
    have a5 : ¬ 25 = j := by omega
    have a6 : ¬ 26 = j := by omega
    have a7 : ¬ 27 = j := by omega
    have a8 : ¬ 28 = j := by omega
    simp [qa_lk, a1, a2, a3, a4, a5, a6, a7, a8]

  · match j, h1, h2 with
    | 21, _, _ => exact qa_sh_o (fun i => by
      match i with
      | 0 => rfl
      | 1 => rfl
      | 2 => rfl
      | 3 => rfl
      | 4 => rfl
      | 5 => rfl
      | 6 => rfl
      | 7 => rfl
      | 8 => rfl
      | 9 => rfl
      | 10 => rfl
      | 11 => rfl
      | 12 => rfl
      | 13 => rfl
      | 14 => rfl
      | i + 15 => simp [qa_fv, qa_K10, qa_ft, tyX10, defaultValue])
    | 22, _, _ =>
      refine congrArg (fun f => some (Sum.inr (0, 176, Sum.inl f) : qa_C)) (funext fun i => ?_)
      by_cases c166 : i = 166
      · subst c166
        rfl
      by_cases c164 : i = 164
      · subst c164
        rfl
      by_cases c163 : i = 163
      · subst c163
        rfl
      by_cases c144 : i = 144
      · subst c144
        rfl
      by_cases c142 : i = 142
      · subst c142
        rfl
      by_cases c140 : i = 140
      · subst c140
        rfl
      by_cases c139 : i = 139
      · subst c139
        rfl
      by_cases c138 : i = 138
      · subst c138
        rfl
      have e : (if 22 = 22 then qi_0 else fun _ => 0) i = 0 := by
        rw [if_pos rfl]
        unfold qi_0
        rw [if_neg (by omega), if_neg c163, if_neg c164, if_neg c166]
      rw [e]
      show (if i = 166 then _ else if i = 164 then _ else if i = 163 then _ else if i = 144 then _ else if i = 142 then _ else if i = 140 then _ else if i = 139 then _ else if i = 138 then _ else (0 : Int32)) = 0
      rw [if_neg c166, if_neg c164, if_neg c163, if_neg c144, if_neg c142, if_neg c140, if_neg c139, if_neg c138]
    | 23, _, _ => rfl
    | 24, _, _ => rfl
    | 25, _, _ => rfl
    | 26, _, _ => rfl
    | 27, _, _ => rfl
    | 28, _, _ => rfl
    | k + 29, _, h => exact absurd h (by omega)
end QCR
