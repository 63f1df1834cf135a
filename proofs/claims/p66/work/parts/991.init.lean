/-! the law's start: the constructors run (written by wip/tools/gen_init.py) -/
def qa_g0 (j : Nat) : Nat → Int32 := match j with
  | 9 => fun i => if i = 1 then Int32.ofInt (-1) else 0
  | 11 => fun i => if i = 0 then Int32.ofInt (-1) else if i = 2 then Int32.ofInt (-1) else if i = 4 then Int32.ofInt (-1) else 0
  | 12 => fun i => if i = 0 then Int32.ofInt (-1) else 0
  | 14 => fun i => if i = 0 then (Int16.ofInt 150).toInt32 else if i = 1 then Int32.ofInt 1 else if i = 3 then Int32.ofInt 5 else 0
  | _ => fun _ => 0
theorem qa_sh_o {ci : Nat} {K : Nat → qa_V ⊕ Nat} {g : Nat → Int32} {w : Nat → Int64} {f : Nat → qa_V} (h : ∀ i, f i = qa_fv K g w i) : some (.inl (ci, f) : qa_C) = some (qa_sh (.inl (ci, K)) g w) := by
  rw [show f = qa_fv K g w from funext h]
  rfl
set_option maxRecDepth 1000000 in
set_option maxHeartbeats 4000000 in
theorem qa_cX1_run {P : qa_H → Nat → Nat → Prop} {R : Nat} {b : qa_P → qa_C} (hP : ∀ l : List (Nat × qa_C), (∀ j, j < 18 → qa_lk l j = some (qa_sh (qa_db R j) (qa_g0 j) (fun _ => 0))) → (∀ j, qa_lk l (j + 18) = none) → P ((R, 18), qa_hr R l b) 17 218) : qa_Cz P qa_mX1_init 0 [(0, .inl (R, 0))] [] ((R, 1), qa_hr R [(0, .inl (1, fun j => .inr (defaultValue (qa_ft 1 j))))] b) := by
  refine qa_cz_do (pc' := 1) rfl rfl ?_
  refine qa_cz_do (pc' := 4) rfl rfl ?_
  refine qa_cz_do (pc' := 5) rfl rfl ?_
  refine qa_cz_mr rfl rfl rfl ?_
  refine qa_cz_do (pc' := 9) rfl rfl ?_
  refine qa_cz_cl (M1 := qa_mX6_init) (x := (R, 1)) (as := []) rfl rfl rfl rfl rfl rfl rfl (qa_hr_at rfl) rfl ?_
  refine qa_cz_do (pc' := 1) rfl rfl ?_
  refine qa_cz_do (pc' := 4) rfl rfl ?_
  refine qa_cz_do (pc' := 5) rfl rfl ?_
  refine qa_cz_do (pc' := 7) rfl rfl ?_
  refine qa_cz_mr rfl rfl rfl ?_
  refine qa_cz_pr rfl rfl (qa_hr_at rfl) rfl (fun _ => ⟨rfl, rfl⟩) ?_
  refine qa_cz_do (pc' := 13) rfl rfl ?_
  refine qa_cz_do (pc' := 15) rfl rfl ?_
  refine qa_cz_mr rfl rfl rfl ?_
  refine qa_cz_pr rfl rfl (qa_hr_at rfl) rfl (fun _ => ⟨rfl, rfl⟩) ?_
  refine qa_cz_do (pc' := 21) rfl rfl ?_
  refine qa_cz_do (pc' := 23) rfl rfl ?_
  refine qa_cz_mr rfl rfl rfl ?_
  refine qa_cz_pr rfl rfl (qa_hr_at rfl) rfl (fun _ => ⟨rfl, rfl⟩) ?_
  refine qa_cz_do (pc' := 29) rfl rfl ?_
  refine qa_cz_do (pc' := 31) rfl rfl ?_
  refine qa_cz_mr rfl rfl rfl ?_
  refine qa_cz_pr rfl rfl (qa_hr_at rfl) rfl (fun _ => ⟨rfl, rfl⟩) ?_
  refine qa_cz_do (pc' := 37) rfl rfl ?_
  refine qa_cz_do (pc' := 39) rfl rfl ?_
  refine qa_cz_mr rfl rfl rfl ?_
  refine qa_cz_pr rfl rfl (qa_hr_at rfl) rfl (fun _ => ⟨rfl, rfl⟩) ?_
  refine qa_cz_do (pc' := 45) rfl rfl ?_
  refine qa_cz_do (pc' := 47) rfl rfl ?_
  refine qa_cz_mr rfl rfl rfl ?_
  refine qa_cz_pr rfl rfl (qa_hr_at rfl) rfl (fun _ => ⟨rfl, rfl⟩) ?_
  refine qa_cz_do (pc' := 53) rfl rfl ?_
  refine qa_cz_do (pc' := 55) rfl rfl ?_
  refine qa_cz_mr rfl rfl rfl ?_
  refine qa_cz_pr rfl rfl (qa_hr_at rfl) rfl (fun _ => ⟨rfl, rfl⟩) ?_
  refine qa_cz_re rfl rfl ?_
  refine qa_cz_pr rfl rfl (qa_hr_at rfl) rfl (fun _ => ⟨rfl, rfl⟩) ?_
  refine qa_cz_do (pc' := 16) rfl rfl ?_
  refine qa_cz_mr rfl rfl rfl ?_
  refine qa_cz_do (pc' := 20) rfl rfl ?_
  refine qa_cz_cl (M1 := qa_mX3_init) (x := (R, 9)) (as := []) rfl rfl rfl rfl rfl rfl rfl (qa_hr_at rfl) rfl ?_
  refine qa_cz_do (pc' := 1) rfl rfl ?_
  refine qa_cz_do (pc' := 4) rfl rfl ?_
  refine qa_cz_do (pc' := 5) rfl rfl ?_
  refine qa_cz_do (pc' := 6) rfl rfl ?_
  refine qa_cz_pr rfl rfl (qa_hr_at rfl) rfl (fun _ => ⟨rfl, rfl⟩) ?_
  refine qa_cz_do (pc' := 10) rfl rfl ?_
  refine qa_cz_do (pc' := 12) rfl rfl ?_
  refine qa_cz_mr rfl rfl rfl ?_
  refine qa_cz_pr rfl rfl (qa_hr_at rfl) rfl (fun _ => ⟨rfl, rfl⟩) ?_
  refine qa_cz_re rfl rfl ?_
  refine qa_cz_pr rfl rfl (qa_hr_at rfl) rfl (fun _ => ⟨rfl, rfl⟩) ?_
  refine qa_cz_do (pc' := 27) rfl rfl ?_
  refine qa_cz_mr rfl rfl rfl ?_
  refine qa_cz_do (pc' := 31) rfl rfl ?_
  refine qa_cz_cl (M1 := qa_mX7_init) (x := (R, 11)) (as := []) rfl rfl rfl rfl rfl rfl rfl (qa_hr_at rfl) rfl ?_
  refine qa_cz_do (pc' := 1) rfl rfl ?_
  refine qa_cz_do (pc' := 4) rfl rfl ?_
  refine qa_cz_do (pc' := 5) rfl rfl ?_
  refine qa_cz_do (pc' := 6) rfl rfl ?_
  refine qa_cz_pr rfl rfl (qa_hr_at rfl) rfl (fun _ => ⟨rfl, rfl⟩) ?_
  refine qa_cz_do (pc' := 10) rfl rfl ?_
  refine qa_cz_do (pc' := 11) rfl rfl ?_
  refine qa_cz_pr rfl rfl (qa_hr_at rfl) rfl (fun _ => ⟨rfl, rfl⟩) ?_
  refine qa_cz_do (pc' := 15) rfl rfl ?_
  refine qa_cz_do (pc' := 16) rfl rfl ?_
  refine qa_cz_pr rfl rfl (qa_hr_at rfl) rfl (fun _ => ⟨rfl, rfl⟩) ?_
  refine qa_cz_re rfl rfl ?_
  refine qa_cz_pr rfl rfl (qa_hr_at rfl) rfl (fun _ => ⟨rfl, rfl⟩) ?_
  refine qa_cz_do (pc' := 38) rfl rfl ?_
  refine qa_cz_mr rfl rfl rfl ?_
  refine qa_cz_do (pc' := 42) rfl rfl ?_
  refine qa_cz_cl (M1 := qa_mX2_init) (x := (R, 12)) (as := []) rfl rfl rfl rfl rfl rfl rfl (qa_hr_at rfl) rfl ?_
  refine qa_cz_do (pc' := 1) rfl rfl ?_
  refine qa_cz_do (pc' := 4) rfl rfl ?_
  refine qa_cz_do (pc' := 5) rfl rfl ?_
  refine qa_cz_do (pc' := 6) rfl rfl ?_
  refine qa_cz_pr rfl rfl (qa_hr_at rfl) rfl (fun _ => ⟨rfl, rfl⟩) ?_
  refine qa_cz_do (pc' := 10) rfl rfl ?_
  refine qa_cz_do (pc' := 12) rfl rfl ?_
  refine qa_cz_mr rfl rfl rfl ?_
  refine qa_cz_pr rfl rfl (qa_hr_at rfl) rfl (fun _ => ⟨rfl, rfl⟩) ?_
  refine qa_cz_re rfl rfl ?_
  refine qa_cz_pr rfl rfl (qa_hr_at rfl) rfl (fun _ => ⟨rfl, rfl⟩) ?_
  refine qa_cz_do (pc' := 49) rfl rfl ?_
  refine qa_cz_mr rfl rfl rfl ?_
  refine qa_cz_do (pc' := 53) rfl rfl ?_
  refine qa_cz_cl (M1 := qa_mX4_init) (x := (R, 14)) (as := []) rfl rfl rfl rfl rfl rfl rfl (qa_hr_at rfl) rfl ?_
  refine qa_cz_do (pc' := 1) rfl rfl ?_
  refine qa_cz_do (pc' := 4) rfl rfl ?_
  refine qa_cz_do (pc' := 5) rfl rfl ?_
  refine qa_cz_do (pc' := 8) rfl rfl ?_
  refine qa_cz_pr rfl rfl (qa_hr_at rfl) rfl (fun _ => ⟨rfl, rfl⟩) ?_
  refine qa_cz_do (pc' := 12) rfl rfl ?_
  refine qa_cz_do (pc' := 13) rfl rfl ?_
  refine qa_cz_pr rfl rfl (qa_hr_at rfl) rfl (fun _ => ⟨rfl, rfl⟩) ?_
  refine qa_cz_do (pc' := 17) rfl rfl ?_
  refine qa_cz_do (pc' := 18) rfl rfl ?_
  refine qa_cz_pr rfl rfl (qa_hr_at rfl) rfl (fun _ => ⟨rfl, rfl⟩) ?_
  refine qa_cz_re rfl rfl ?_
  refine qa_cz_pr rfl rfl (qa_hr_at rfl) rfl (fun _ => ⟨rfl, rfl⟩) ?_
  refine qa_cz_do (pc' := 60) rfl rfl ?_
  refine qa_cz_mr rfl rfl rfl ?_
  refine qa_cz_do (pc' := 64) rfl rfl ?_
  refine qa_cz_cl (M1 := qa_mX0_init) (x := (R, 15)) (as := []) rfl rfl rfl rfl rfl rfl rfl (qa_hr_at rfl) rfl ?_
  refine qa_cz_do (pc' := 1) rfl rfl ?_
  refine qa_cz_do (pc' := 4) rfl rfl ?_
  refine qa_cz_re rfl rfl ?_
  refine qa_cz_pr rfl rfl (qa_hr_at rfl) rfl (fun _ => ⟨rfl, rfl⟩) ?_
  refine qa_cz_do (pc' := 71) rfl rfl ?_
  refine qa_cz_do (pc' := 73) rfl rfl ?_
  refine qa_cz_mr rfl rfl rfl ?_
  refine qa_cz_pr rfl rfl (qa_hr_at rfl) rfl (fun _ => ⟨rfl, rfl⟩) ?_
  refine qa_cz_do (pc' := 79) rfl rfl ?_
  refine qa_cz_do (pc' := 81) rfl rfl ?_
  refine qa_cz_mr rfl rfl rfl ?_
  refine qa_cz_pr rfl rfl (qa_hr_at rfl) rfl (fun _ => ⟨rfl, rfl⟩) ?_
  refine qa_cz_re rfl rfl ?_
  refine hP _ (fun j hj => ?_) (fun j => ?_)
  · match j, hj with
    | 0, _ => exact qa_sh_o (fun i => by
    match i with
    | 0 => rfl
    | 1 => rfl
    | 2 => rfl
    | 3 => rfl
    | 4 => rfl
    | 5 => rfl
    | 6 => rfl
    | 7 => rfl
    | i + 8 => simp [qa_fv, qa_K1, qa_ft, tyX1, defaultValue, qa_g0])
    | 1, _ => exact qa_sh_o (fun i => by
    match i with
    | 0 => rfl
    | 1 => rfl
    | 2 => rfl
    | 3 => rfl
    | 4 => rfl
    | 5 => rfl
    | 6 => rfl
    | 7 => rfl
    | 8 => rfl
    | i + 9 => simp [qa_fv, qa_K6, qa_ft, tyX6, defaultValue, qa_g0])
    | 2, _ => rfl
    | 3, _ => rfl
    | 4, _ => rfl
    | 5, _ => rfl
    | 6, _ => rfl
    | 7, _ => rfl
    | 8, _ => rfl
    | 9, _ => exact qa_sh_o (fun i => by
    match i with
    | 0 => rfl
    | 1 => rfl
    | 2 => rfl
    | i + 3 => simp [qa_fv, qa_K3, qa_ft, tyX3, defaultValue, qa_g0])
    | 10, _ => rfl
    | 11, _ => exact qa_sh_o (fun i => by
    match i with
    | 0 => rfl
    | 1 => rfl
    | 2 => rfl
    | 3 => rfl
    | 4 => rfl
    | i + 5 => simp [qa_fv, qa_Ki, qa_ft, tyX7, defaultValue, qa_g0])
    | 12, _ => exact qa_sh_o (fun i => by
    match i with
    | 0 => rfl
    | 1 => rfl
    | 2 => rfl
    | 3 => rfl
    | 4 => rfl
    | i + 5 => simp [qa_fv, qa_K2, qa_ft, tyX2, defaultValue, qa_g0])
    | 13, _ => rfl
    | 14, _ => exact qa_sh_o (fun i => by
    match i with
    | 0 => rfl
    | 1 => rfl
    | 2 => rfl
    | 3 => rfl
    | 4 => rfl
    | i + 5 => simp [qa_fv, qa_Ki, qa_ft, tyX4, defaultValue, qa_g0])
    | 15, _ => exact qa_sh_o (fun i => by
    match i with
    | 0 => rfl
    | 1 => rfl
    | 2 => rfl
    | 3 => rfl
    | 4 => rfl
    | 5 => rfl
    | 6 => rfl
    | i + 7 => simp [qa_fv, qa_Ki, qa_ft, tyX0, defaultValue, qa_g0])
    | 16, _ => rfl
    | 17, _ => rfl
    | j + 18, h => exact absurd h (by omega)
  · simp [qa_lk]
