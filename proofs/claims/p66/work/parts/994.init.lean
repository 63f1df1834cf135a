/-! the law's start (4): the class's constructor -/
section QCW
variable {M : qa_M} {pc : Nat} {lv : qa_L} {st : List qa_V} {nx : qa_P} {g : qa_P → qa_C} {ins : Instr} {len : Nat}
theorem qa_cz_mj {P : qa_H → Nat → Nat → Prop} {pc' sl R j : Nat} {st' : List qa_V} {c : qa_C} (h1 : qa_lk (qa_is M) pc = some (ins, len)) (h2 : qa_mkc M ins len pc st = some (pc', st', c, sl)) (hp : qa_at nx c = (R, j)) (e : qa_Cz (fun h' k s => P h' (1 + k) (sl + s)) M pc' lv (.inl (R, j) :: st') ((R, j + 1), qa_hr R [(j, c)] g)) : qa_Cz P M pc lv st (nx, g) := by
  refine qa_cz_mt h1 h2 hp ?_
  have e2 : qa_up g (R, j) c = qa_hr R [(j, c)] g := by
    rw [← qa_hr_up, qa_hr_n]
  rw [e2]
  exact e
set_option maxRecDepth 1000000 in
set_option maxHeartbeats 4000000 in
theorem qa_cX9_run {P : qa_H → Nat → Nat → Prop} {b : qa_P → qa_C} (hP : ∀ h : qa_P → qa_C, (∀ R j : Nat, 1 ≤ R → R ≤ 10 → j < 18 → h (R, j) = qa_sh (qa_db R j) (qa_g0 j) (fun _ => 0)) → h (0, 1) = qa_sh (.inl (9, qa_K9)) (fun _ => 0) (fun _ => 0) → h (2, 18) = qa_sh (qa_dx2 18) (fun _ => 0) (fun _ => 0) → h (2, 19) = qa_sh (qa_dx2 19) (fun _ => 0) (fun _ => 0) → h (8, 18) = qa_sh (qa_dx8 18) (fun _ => 0) (fun _ => 0) → h (10, 18) = qa_sh (qa_dx10 18) (fun _ => 0) (fun _ => 0) → h (10, 19) = qa_sh (qa_dx10 19) (fun _ => 0) (fun _ => 0) → h (10, 20) = qa_sh (qa_dx10 20) (fun _ => 0) (fun _ => 0) → (∀ R j : Nat, ¬ (1 ≤ R ∧ R ≤ 10 ∧ j < 18) → ¬ (R = 0 ∧ j = 1) → ¬ (R = 2 ∧ j = 18) → ¬ (R = 2 ∧ j = 19) → ¬ (R = 8 ∧ j = 18) → ¬ (R = 10 ∧ j = 18) → ¬ (R = 10 ∧ j = 19) → ¬ (R = 10 ∧ j = 20) → h (R, j) = b (R, j)) → P ((10, 21), h) 186 2338) : qa_Cz P qa_mX9_init 0 [(0, .inl (0, 1))] [] ((0, 2), qa_hr 0 [(1, .inl (9, fun j => .inr (defaultValue (qa_ft 9 j))))] b) := by
  refine qa_cz_do (pc' := 1) rfl rfl ?_
  refine qa_cz_do (pc' := 4) rfl rfl ?_
  refine qa_cz_do (pc' := 5) rfl rfl ?_
  refine qa_cz_mn (R := 1) rfl rfl rfl ?_
  refine qa_cz_do (pc' := 9) rfl rfl ?_
  refine qa_cz_cl (M1 := qa_mX1_init) (x := (1, 0)) (as := []) rfl rfl rfl rfl rfl rfl rfl (qa_hr_at rfl) rfl ?_
  refine qa_cX1_run (R := 1) (fun l1 h1 n1 => ?_)
  refine qa_cz_pt (x := (0, 1)) rfl rfl rfl rfl (fun _ => ⟨rfl, rfl⟩) ?_
  refine qa_cz_do (pc' := 16) rfl rfl ?_
  refine qa_cz_mn (R := 2) rfl rfl rfl ?_
  refine qa_cz_do (pc' := 20) rfl rfl ?_
  refine qa_cz_cl (M1 := qa_mX1_init) (x := (2, 0)) (as := []) rfl rfl rfl rfl rfl rfl rfl (qa_hr_at rfl) rfl ?_
  refine qa_cX1_run (R := 2) (fun l2 h2 n2 => ?_)
  refine qa_cz_pt (x := (0, 1)) rfl rfl rfl rfl (fun _ => ⟨rfl, rfl⟩) ?_
  refine qa_cz_do (pc' := 27) rfl rfl ?_
  refine qa_cz_mj (R := 2) (j := 18) rfl rfl rfl ?_
  refine qa_cz_do (pc' := 31) rfl rfl ?_
  refine qa_cz_cl (M1 := qa_mX5_init) (x := (2, 18)) (as := []) rfl rfl rfl rfl rfl rfl rfl (qa_hr_at rfl) rfl ?_
  refine qa_cX5_run (fun h5 q3 q4 q5 q6 q7 q8 e18 e19 ho => ?_)
  refine qa_cz_pt (x := (0, 1)) rfl rfl ((ho 0 1 (by decide) (by decide) (by decide)).trans rfl) rfl (fun _ => ⟨rfl, rfl⟩) ?_
  refine qa_cz_do (pc' := 38) rfl rfl ?_
  refine qa_cz_do (pc' := 39) rfl rfl ?_
  refine qa_cz_mt (p := (8, 18)) rfl rfl rfl ?_
  refine qa_cz_pt (x := (0, 1)) rfl rfl rfl rfl (fun _ => ⟨rfl, rfl⟩) ?_
  refine qa_cz_do (pc' := 46) rfl rfl ?_
  refine qa_cz_do (pc' := 47) rfl rfl ?_
  refine qa_cz_do (pc' := 48) rfl rfl ?_
  refine qa_cz_do (pc' := 49) rfl rfl ?_
  refine qa_cz_gf (x := (0, 1)) rfl rfl rfl ?_
  refine qa_cz_al (x := (8, 18)) rfl rfl (Or.inl (by decide)) ?_
  refine qa_cz_do (pc' := 56) rfl rfl ?_
  refine qa_cz_do (pc' := 57) rfl rfl ?_
  refine qa_cz_gf (x := (0, 1)) rfl rfl rfl ?_
  refine qa_cz_do (pc' := 61) rfl rfl ?_
  refine qa_cz_mn (R := 9) rfl rfl rfl ?_
  refine qa_cz_do (pc' := 65) rfl rfl ?_
  refine qa_cz_cl (M1 := qa_mX1_init) (x := (9, 0)) (as := []) rfl rfl rfl rfl rfl rfl rfl (qa_hr_at rfl) rfl ?_
  refine qa_cX1_run (R := 9) (fun l9 h9 n9 => ?_)
  refine qa_cz_as (x := (8, 18)) (y := (9, 0)) rfl rfl (qa_hr_at (h9 0 (by decide))) rfl ?_
  refine qa_cz_do (pc' := 72) rfl rfl ?_
  refine qa_cz_do (pc' := 47) rfl rfl ?_
  refine qa_cz_do (pc' := 48) rfl rfl ?_
  refine qa_cz_do (pc' := 49) rfl rfl ?_
  refine qa_cz_gf (x := (0, 1)) rfl rfl rfl ?_
  refine qa_cz_al (x := (8, 18)) rfl rfl (Or.inl (by decide)) ?_
  refine qa_cz_do (pc' := 56) rfl rfl ?_
  refine qa_cz_do (pc' := 57) rfl rfl ?_
  refine qa_cz_gf (x := (0, 1)) rfl rfl rfl ?_
  refine qa_cz_do (pc' := 61) rfl rfl ?_
  refine qa_cz_mn (R := 10) rfl rfl rfl ?_
  refine qa_cz_do (pc' := 65) rfl rfl ?_
  refine qa_cz_cl (M1 := qa_mX1_init) (x := (10, 0)) (as := []) rfl rfl rfl rfl rfl rfl rfl (qa_hr_at rfl) rfl ?_
  refine qa_cX1_run (R := 10) (fun l10 h10 n10 => ?_)
  refine qa_cz_as (x := (8, 18)) (y := (10, 0)) rfl rfl (qa_hr_at (h10 0 (by decide))) rfl ?_
  refine qa_cz_do (pc' := 72) rfl rfl ?_
  refine qa_cz_do (pc' := 47) rfl rfl ?_
  refine qa_cz_do (pc' := 48) rfl rfl ?_
  refine qa_cz_do (pc' := 49) rfl rfl ?_
  refine qa_cz_gf (x := (0, 1)) rfl rfl rfl ?_
  refine qa_cz_al (x := (8, 18)) rfl rfl (Or.inl (by decide)) ?_
  refine qa_cz_do (pc' := 75) rfl rfl ?_
  refine qa_cz_do (pc' := 76) rfl rfl ?_
  refine qa_cz_do (pc' := 77) rfl rfl ?_
  refine qa_cz_mt (p := (10, 18)) rfl rfl rfl ?_
  refine qa_cz_pt (x := (0, 1)) rfl rfl rfl rfl (fun _ => ⟨rfl, rfl⟩) ?_
  refine qa_cz_do (pc' := 83) rfl rfl ?_
  refine qa_cz_mt (p := (10, 19)) rfl rfl rfl ?_
  refine qa_cz_do (pc' := 87) rfl rfl ?_
  refine qa_cz_cl (M1 := qa_mX8_init) (x := (10, 19)) (as := []) rfl rfl rfl rfl rfl rfl rfl rfl rfl ?_
  refine qa_cz_do (pc' := 1) rfl rfl ?_
  refine qa_cz_do (pc' := 4) rfl rfl ?_
  refine qa_cz_do (pc' := 5) rfl rfl ?_
  refine qa_cz_do (pc' := 7) rfl rfl ?_
  refine qa_cz_mt (p := (10, 20)) rfl rfl rfl ?_
  refine qa_cz_pt (x := (10, 19)) rfl rfl rfl rfl (fun _ => ⟨rfl, rfl⟩) ?_
  refine qa_cz_re rfl rfl ?_
  refine qa_cz_pt (x := (0, 1)) rfl rfl rfl rfl (fun _ => ⟨rfl, rfl⟩) ?_
  refine qa_cz_re rfl rfl ?_
  refine hP _ (fun R j r1 r2 hj => ?_) ?_ ?_ ?_ ?_ ?_ ?_ ?_ (fun R j d0 d1 d2 d3 d4 d5 d6 d7 => ?_)
  · have cs : R = 1 ∨ R = 2 ∨ R = 3 ∨ R = 4 ∨ R = 5 ∨ R = 6 ∨ R = 7 ∨ R = 8 ∨ R = 9 ∨ R = 10 := by omega
    rcases cs with rfl | rfl | rfl | rfl | rfl | rfl | rfl | rfl | rfl | rfl
    · rw [qa_up_y (by omega), qa_up_y (by omega), qa_up_y (by omega), qa_up_y (by omega), qa_up_y (by omega), qa_up_y (by omega), qa_up_y (by omega), qa_hr_x (by omega), qa_up_y (by omega), qa_hr_x (by omega), qa_up_y (by omega), qa_up_y (by omega), qa_up_y (by omega), ho _ _ (by omega) (by omega) (by omega), qa_up_y (by omega), qa_hr_x (by omega), qa_up_y (by omega)]
      exact qa_hr_at (h1 j hj)
    · rw [qa_up_y (by omega), qa_up_y (by omega), qa_up_y (by omega), qa_up_y (by omega), qa_up_y (by omega), qa_up_y (by omega), qa_up_y (by omega), qa_hr_x (by omega), qa_up_y (by omega), qa_hr_x (by omega), qa_up_y (by omega), qa_up_y (by omega), qa_up_y (by omega), ho _ _ (by omega) (by omega) (by omega), qa_up_y (by omega)]
      exact qa_hr_at (h2 j hj)
    · rw [qa_up_y (by omega), qa_up_y (by omega), qa_up_y (by omega), qa_up_y (by omega), qa_up_y (by omega), qa_up_y (by omega), qa_up_y (by omega), qa_hr_x (by omega), qa_up_y (by omega), qa_hr_x (by omega), qa_up_y (by omega), qa_up_y (by omega), qa_up_y (by omega)]
      exact q3 j hj
    · rw [qa_up_y (by omega), qa_up_y (by omega), qa_up_y (by omega), qa_up_y (by omega), qa_up_y (by omega), qa_up_y (by omega), qa_up_y (by omega), qa_hr_x (by omega), qa_up_y (by omega), qa_hr_x (by omega), qa_up_y (by omega), qa_up_y (by omega), qa_up_y (by omega)]
      exact q4 j hj
    · rw [qa_up_y (by omega), qa_up_y (by omega), qa_up_y (by omega), qa_up_y (by omega), qa_up_y (by omega), qa_up_y (by omega), qa_up_y (by omega), qa_hr_x (by omega), qa_up_y (by omega), qa_hr_x (by omega), qa_up_y (by omega), qa_up_y (by omega), qa_up_y (by omega)]
      exact q5 j hj
    · rw [qa_up_y (by omega), qa_up_y (by omega), qa_up_y (by omega), qa_up_y (by omega), qa_up_y (by omega), qa_up_y (by omega), qa_up_y (by omega), qa_hr_x (by omega), qa_up_y (by omega), qa_hr_x (by omega), qa_up_y (by omega), qa_up_y (by omega), qa_up_y (by omega)]
      exact q6 j hj
    · rw [qa_up_y (by omega), qa_up_y (by omega), qa_up_y (by omega), qa_up_y (by omega), qa_up_y (by omega), qa_up_y (by omega), qa_up_y (by omega), qa_hr_x (by omega), qa_up_y (by omega), qa_hr_x (by omega), qa_up_y (by omega), qa_up_y (by omega), qa_up_y (by omega)]
      exact q7 j hj
    · rw [qa_up_y (by omega), qa_up_y (by omega), qa_up_y (by omega), qa_up_y (by omega), qa_up_y (by omega), qa_up_y (by omega), qa_up_y (by omega), qa_hr_x (by omega), qa_up_y (by omega), qa_hr_x (by omega), qa_up_y (by omega), qa_up_y (by omega), qa_up_y (by omega)]
      exact q8 j hj
    · rw [qa_up_y (by omega), qa_up_y (by omega), qa_up_y (by omega), qa_up_y (by omega), qa_up_y (by omega), qa_up_y (by omega), qa_up_y (by omega), qa_hr_x (by omega), qa_up_y (by omega)]
      exact qa_hr_at (h9 j hj)
    · rw [qa_up_y (by omega), qa_up_y (by omega), qa_up_y (by omega), qa_up_y (by omega), qa_up_y (by omega), qa_up_y (by omega), qa_up_y (by omega)]
      exact qa_hr_at (h10 j hj)
  · exact Option.some.inj (qa_sh_o (fun i => by
      match i with
      | 0 => rfl
      | 1 => rfl
      | 2 => rfl
      | 3 => rfl
      | 4 => rfl
      | 5 => rfl
      | i + 6 => simp [qa_fv, qa_K9, qa_ft, tyX9, defaultValue]))
  · rw [qa_up_y (by omega), qa_up_y (by omega), qa_up_y (by omega), qa_up_y (by omega), qa_up_y (by omega), qa_up_y (by omega), qa_up_y (by omega), qa_hr_x (by omega), qa_up_y (by omega), qa_hr_x (by omega), qa_up_y (by omega), qa_up_y (by omega), qa_up_y (by omega)]
    exact e18
  · rw [qa_up_y (by omega), qa_up_y (by omega), qa_up_y (by omega), qa_up_y (by omega), qa_up_y (by omega), qa_up_y (by omega), qa_up_y (by omega), qa_hr_x (by omega), qa_up_y (by omega), qa_hr_x (by omega), qa_up_y (by omega), qa_up_y (by omega), qa_up_y (by omega)]
    exact e19
  · show (Sum.inr (3, _, Sum.inr (Sum.inr _)) : qa_C) = Sum.inr (3, 2, Sum.inr (Sum.inr fun i => if i < 2 then some (9 + i, 0) else none))
    congr 5
    funext i
    match i with
    | 0 => rfl
    | 1 => rfl
    | i + 2 => simp [va_up]
  · rfl
  · exact Option.some.inj (qa_sh_o (fun i => by
      match i with
      | 0 => rfl
      | 1 => rfl
      | 2 => rfl
      | 3 => rfl
      | 4 => rfl
      | i + 5 => simp [qa_fv, qa_K8, qa_ft, tyX8, defaultValue]))
  · rfl
  · have hk : ∀ (R' : Nat) (l : List (Nat × qa_C)), (∀ j, qa_lk l (j + 18) = none) → 1 ≤ R' → R' ≤ 10 → R = R' → qa_lk l j = none := by
      intro R' l n a1 a2 a3
      have e : j = j - 18 + 18 := by omega
      rw [e]
      exact n _
    rw [qa_up_y (by omega), qa_up_y (by omega), qa_up_y (by omega), qa_up_y (by omega), qa_up_y (by omega), qa_up_y (by omega), qa_up_y (by omega), qa_hr_k (hk 10 l10 n10 (by omega) (by omega)), qa_up_y (by omega), qa_hr_k (hk 9 l9 n9 (by omega) (by omega)), qa_up_y (by omega), qa_up_y (by omega), qa_up_y (by omega), ho _ _ (by omega) (by omega) (by omega), qa_up_y (by omega), qa_hr_k (hk 2 l2 n2 (by omega) (by omega)), qa_up_y (by omega), qa_hr_k (hk 1 l1 n1 (by omega) (by omega)), qa_hr_1 d1]
end QCW
