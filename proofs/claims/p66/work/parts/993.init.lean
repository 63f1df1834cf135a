/-! the law's start (3): the class's saved states -/
section QCV
theorem qa_up_x {g : qa_P → qa_C} {p : qa_P} {c : qa_C} {R j : Nat} (h : ¬ R = p.1) : qa_up g p c (R, j) = g (R, j) := by
  unfold qa_up
  rw [if_neg (fun t => h (congrArg Prod.fst t))]
theorem qa_up_y {g : qa_P → qa_C} {i k : Nat} {c : qa_C} {R j : Nat} (h : ¬ (R = i ∧ j = k)) : qa_up g (i, k) c (R, j) = g (R, j) := by
  unfold qa_up
  rw [if_neg (fun t => h ⟨congrArg Prod.fst t, congrArg Prod.snd t⟩)]
theorem qa_hr_1 {R' R j i : Nat} {c : qa_C} {b : qa_P → qa_C} (h : ¬ (R = R' ∧ j = i)) : qa_hr R' [(i, c)] b (R, j) = b (R, j) := by
  rw [show qa_hr R' [(i, c)] b = qa_up b (R', i) c by rw [← qa_hr_up, qa_hr_n], qa_up_y h]
theorem qa_hr_k {R' R j : Nat} {l : List (Nat × qa_C)} {b : qa_P → qa_C} (h : R = R' → qa_lk l j = none) : qa_hr R' l b (R, j) = b (R, j) := by
  unfold qa_hr
  dsimp only
  by_cases c : R = R'
  · rw [if_pos c, h c]
  · rw [if_neg c]
theorem qa_hr_x {R' R j : Nat} {l : List (Nat × qa_C)} {b : qa_P → qa_C} (h : ¬ R = R') : qa_hr R' l b (R, j) = b (R, j) := by
  unfold qa_hr
  dsimp only
  rw [if_neg h]
set_option maxRecDepth 1000000 in
set_option maxHeartbeats 4000000 in
theorem qa_cX5_run {P : qa_H → Nat → Nat → Prop} {b : qa_P → qa_C} (hP : ∀ (h : qa_P → qa_C), (∀ j, j < 18 → h (3, j) = qa_sh (qa_db 3 j) (qa_g0 j) (fun _ => 0)) → (∀ j, j < 18 → h (4, j) = qa_sh (qa_db 4 j) (qa_g0 j) (fun _ => 0)) → (∀ j, j < 18 → h (5, j) = qa_sh (qa_db 5 j) (qa_g0 j) (fun _ => 0)) → (∀ j, j < 18 → h (6, j) = qa_sh (qa_db 6 j) (qa_g0 j) (fun _ => 0)) → (∀ j, j < 18 → h (7, j) = qa_sh (qa_db 7 j) (qa_g0 j) (fun _ => 0)) → (∀ j, j < 18 → h (8, j) = qa_sh (qa_db 8 j) (qa_g0 j) (fun _ => 0)) → h (2, 18) = qa_sh (qa_dx2 18) (fun _ => 0) (fun _ => 0) → h (2, 19) = qa_sh (qa_dx2 19) (fun _ => 0) (fun _ => 0) → (∀ R j : Nat, ¬ (R = 2 ∧ j = 18) → ¬ (R = 2 ∧ j = 19) → ¬ (3 ≤ R ∧ R ≤ 8 ∧ j < 18) → h (R, j) = b (R, j)) → P ((8, 18), h) 109 1362) : qa_Cz P qa_mX5_init 0 [(0, .inl (2, 18))] [] ((2, 19), qa_hr 2 [(18, .inl (5, fun j => .inr (defaultValue (qa_ft 5 j))))] b) := by
  refine qa_cz_do (pc' := 1) rfl rfl ?_
  refine qa_cz_do (pc' := 4) rfl rfl ?_
  refine qa_cz_do (pc' := 5) rfl rfl ?_
  refine qa_cz_do (pc' := 7) rfl rfl ?_
  refine qa_cz_mr rfl rfl rfl ?_
  refine qa_cz_pr rfl rfl (qa_hr_at rfl) rfl (fun _ => ⟨rfl, rfl⟩) ?_
  refine qa_cz_do (pc' := 14) rfl rfl ?_
  refine qa_cz_do (pc' := 15) rfl rfl ?_
  refine qa_cz_do (pc' := 16) rfl rfl ?_
  refine qa_cz_do (pc' := 17) rfl rfl ?_
  refine qa_cz_gf (x := (2, 18)) rfl rfl rfl ?_
  refine qa_cz_al (x := (2, 19)) rfl rfl (Or.inl (by decide)) ?_
  refine qa_cz_do (pc' := 24) rfl rfl ?_
  refine qa_cz_do (pc' := 25) rfl rfl ?_
  refine qa_cz_gf (x := (2, 18)) rfl rfl rfl ?_
  refine qa_cz_do (pc' := 29) rfl rfl ?_
  refine qa_cz_mn (R := 3) rfl rfl rfl ?_
  refine qa_cz_do (pc' := 33) rfl rfl ?_
  refine qa_cz_cl (M1 := qa_mX1_init) (x := (3, 0)) (as := []) rfl rfl rfl rfl rfl rfl rfl (qa_hr_at rfl) rfl ?_
  refine qa_cX1_run (R := 3) (fun l3 h3 n3 => ?_)
  refine qa_cz_as (x := (2, 19)) (y := (3, 0)) rfl rfl (qa_hr_at (h3 0 (by decide))) rfl ?_
  refine qa_cz_do (pc' := 40) rfl rfl ?_
  refine qa_cz_do (pc' := 15) rfl rfl ?_
  refine qa_cz_do (pc' := 16) rfl rfl ?_
  refine qa_cz_do (pc' := 17) rfl rfl ?_
  refine qa_cz_gf (x := (2, 18)) rfl rfl rfl ?_
  refine qa_cz_al (x := (2, 19)) rfl rfl (Or.inl (by decide)) ?_
  refine qa_cz_do (pc' := 24) rfl rfl ?_
  refine qa_cz_do (pc' := 25) rfl rfl ?_
  refine qa_cz_gf (x := (2, 18)) rfl rfl rfl ?_
  refine qa_cz_do (pc' := 29) rfl rfl ?_
  refine qa_cz_mn (R := 4) rfl rfl rfl ?_
  refine qa_cz_do (pc' := 33) rfl rfl ?_
  refine qa_cz_cl (M1 := qa_mX1_init) (x := (4, 0)) (as := []) rfl rfl rfl rfl rfl rfl rfl (qa_hr_at rfl) rfl ?_
  refine qa_cX1_run (R := 4) (fun l4 h4 n4 => ?_)
  refine qa_cz_as (x := (2, 19)) (y := (4, 0)) rfl rfl (qa_hr_at (h4 0 (by decide))) rfl ?_
  refine qa_cz_do (pc' := 40) rfl rfl ?_
  refine qa_cz_do (pc' := 15) rfl rfl ?_
  refine qa_cz_do (pc' := 16) rfl rfl ?_
  refine qa_cz_do (pc' := 17) rfl rfl ?_
  refine qa_cz_gf (x := (2, 18)) rfl rfl rfl ?_
  refine qa_cz_al (x := (2, 19)) rfl rfl (Or.inl (by decide)) ?_
  refine qa_cz_do (pc' := 24) rfl rfl ?_
  refine qa_cz_do (pc' := 25) rfl rfl ?_
  refine qa_cz_gf (x := (2, 18)) rfl rfl rfl ?_
  refine qa_cz_do (pc' := 29) rfl rfl ?_
  refine qa_cz_mn (R := 5) rfl rfl rfl ?_
  refine qa_cz_do (pc' := 33) rfl rfl ?_
  refine qa_cz_cl (M1 := qa_mX1_init) (x := (5, 0)) (as := []) rfl rfl rfl rfl rfl rfl rfl (qa_hr_at rfl) rfl ?_
  refine qa_cX1_run (R := 5) (fun l5 h5 n5 => ?_)
  refine qa_cz_as (x := (2, 19)) (y := (5, 0)) rfl rfl (qa_hr_at (h5 0 (by decide))) rfl ?_
  refine qa_cz_do (pc' := 40) rfl rfl ?_
  refine qa_cz_do (pc' := 15) rfl rfl ?_
  refine qa_cz_do (pc' := 16) rfl rfl ?_
  refine qa_cz_do (pc' := 17) rfl rfl ?_
  refine qa_cz_gf (x := (2, 18)) rfl rfl rfl ?_
  refine qa_cz_al (x := (2, 19)) rfl rfl (Or.inl (by decide)) ?_
  refine qa_cz_do (pc' := 24) rfl rfl ?_
  refine qa_cz_do (pc' := 25) rfl rfl ?_
  refine qa_cz_gf (x := (2, 18)) rfl rfl rfl ?_
  refine qa_cz_do (pc' := 29) rfl rfl ?_
  refine qa_cz_mn (R := 6) rfl rfl rfl ?_
  refine qa_cz_do (pc' := 33) rfl rfl ?_
  refine qa_cz_cl (M1 := qa_mX1_init) (x := (6, 0)) (as := []) rfl rfl rfl rfl rfl rfl rfl (qa_hr_at rfl) rfl ?_
  refine qa_cX1_run (R := 6) (fun l6 h6 n6 => ?_)
  refine qa_cz_as (x := (2, 19)) (y := (6, 0)) rfl rfl (qa_hr_at (h6 0 (by decide))) rfl ?_
  refine qa_cz_do (pc' := 40) rfl rfl ?_
  refine qa_cz_do (pc' := 15) rfl rfl ?_
  refine qa_cz_do (pc' := 16) rfl rfl ?_
  refine qa_cz_do (pc' := 17) rfl rfl ?_
  refine qa_cz_gf (x := (2, 18)) rfl rfl rfl ?_
  refine qa_cz_al (x := (2, 19)) rfl rfl (Or.inl (by decide)) ?_
  refine qa_cz_do (pc' := 24) rfl rfl ?_
  refine qa_cz_do (pc' := 25) rfl rfl ?_
  refine qa_cz_gf (x := (2, 18)) rfl rfl rfl ?_
  refine qa_cz_do (pc' := 29) rfl rfl ?_
  refine qa_cz_mn (R := 7) rfl rfl rfl ?_
  refine qa_cz_do (pc' := 33) rfl rfl ?_
  refine qa_cz_cl (M1 := qa_mX1_init) (x := (7, 0)) (as := []) rfl rfl rfl rfl rfl rfl rfl (qa_hr_at rfl) rfl ?_
  refine qa_cX1_run (R := 7) (fun l7 h7 n7 => ?_)
  refine qa_cz_as (x := (2, 19)) (y := (7, 0)) rfl rfl (qa_hr_at (h7 0 (by decide))) rfl ?_
  refine qa_cz_do (pc' := 40) rfl rfl ?_
  refine qa_cz_do (pc' := 15) rfl rfl ?_
  refine qa_cz_do (pc' := 16) rfl rfl ?_
  refine qa_cz_do (pc' := 17) rfl rfl ?_
  refine qa_cz_gf (x := (2, 18)) rfl rfl rfl ?_
  refine qa_cz_al (x := (2, 19)) rfl rfl (Or.inl (by decide)) ?_
  refine qa_cz_do (pc' := 24) rfl rfl ?_
  refine qa_cz_do (pc' := 25) rfl rfl ?_
  refine qa_cz_gf (x := (2, 18)) rfl rfl rfl ?_
  refine qa_cz_do (pc' := 29) rfl rfl ?_
  refine qa_cz_mn (R := 8) rfl rfl rfl ?_
  refine qa_cz_do (pc' := 33) rfl rfl ?_
  refine qa_cz_cl (M1 := qa_mX1_init) (x := (8, 0)) (as := []) rfl rfl rfl rfl rfl rfl rfl (qa_hr_at rfl) rfl ?_
  refine qa_cX1_run (R := 8) (fun l8 h8 n8 => ?_)
  refine qa_cz_as (x := (2, 19)) (y := (8, 0)) rfl rfl (qa_hr_at (h8 0 (by decide))) rfl ?_
  refine qa_cz_do (pc' := 40) rfl rfl ?_
  refine qa_cz_do (pc' := 15) rfl rfl ?_
  refine qa_cz_do (pc' := 16) rfl rfl ?_
  refine qa_cz_do (pc' := 17) rfl rfl ?_
  refine qa_cz_gf (x := (2, 18)) rfl rfl rfl ?_
  refine qa_cz_al (x := (2, 19)) rfl rfl (Or.inl (by decide)) ?_
  refine qa_cz_do (pc' := 43) rfl rfl ?_
  refine qa_cz_re rfl rfl ?_
  refine hP _ (fun j hj => ?_) (fun j hj => ?_) (fun j hj => ?_) (fun j hj => ?_) (fun j hj => ?_) (fun j hj => ?_) (Option.some.inj ?_) ?_ (fun R j q1 q2 q3 => ?_)
  · rw [qa_up_x (by decide), qa_hr_x (by decide), qa_up_x (by decide), qa_hr_x (by decide), qa_up_x (by decide), qa_hr_x (by decide), qa_up_x (by decide), qa_hr_x (by decide), qa_up_x (by decide), qa_hr_x (by decide), qa_up_x (by decide)]
    exact qa_hr_at (h3 j hj)
  · rw [qa_up_x (by decide), qa_hr_x (by decide), qa_up_x (by decide), qa_hr_x (by decide), qa_up_x (by decide), qa_hr_x (by decide), qa_up_x (by decide), qa_hr_x (by decide), qa_up_x (by decide)]
    exact qa_hr_at (h4 j hj)
  · rw [qa_up_x (by decide), qa_hr_x (by decide), qa_up_x (by decide), qa_hr_x (by decide), qa_up_x (by decide), qa_hr_x (by decide), qa_up_x (by decide)]
    exact qa_hr_at (h5 j hj)
  · rw [qa_up_x (by decide), qa_hr_x (by decide), qa_up_x (by decide), qa_hr_x (by decide), qa_up_x (by decide)]
    exact qa_hr_at (h6 j hj)
  · rw [qa_up_x (by decide), qa_hr_x (by decide), qa_up_x (by decide)]
    exact qa_hr_at (h7 j hj)
  · rw [qa_up_x (by decide)]
    exact qa_hr_at (h8 j hj)
  · exact qa_sh_o (fun i => by
      match i with
      | 0 => rfl
      | 1 => rfl
      | 2 => rfl
      | i + 3 => simp [qa_fv, qa_K5, qa_ft, tyX5, defaultValue])
  · show (Sum.inr (3, _, Sum.inr (Sum.inr _)) : qa_C) = Sum.inr (3, 6, Sum.inr (Sum.inr fun i => if i < 6 then some (3 + i, 0) else none))
    congr 5
    funext i
    match i with
    | 0 => rfl
    | 1 => rfl
    | 2 => rfl
    | 3 => rfl
    | 4 => rfl
    | 5 => rfl
    | i + 6 => simp [va_up]
  · have hk : ∀ (R' : Nat) (l : List (Nat × qa_C)), (∀ j, qa_lk l (j + 18) = none) → 3 ≤ R' → R' ≤ 8 → R = R' → qa_lk l j = none := by
      intro R' l n a1 a2 a3
      have e : j = j - 18 + 18 := by omega
      rw [e]
      exact n _
    rw [qa_up_y q2, qa_hr_k (hk 8 l8 n8 (by omega) (by omega)), qa_up_y q2, qa_hr_k (hk 7 l7 n7 (by omega) (by omega)), qa_up_y q2, qa_hr_k (hk 6 l6 n6 (by omega) (by omega)), qa_up_y q2, qa_hr_k (hk 5 l5 n5 (by omega) (by omega)), qa_up_y q2, qa_hr_k (hk 4 l4 n4 (by omega) (by omega)), qa_up_y q2, qa_hr_k (hk 3 l3 n3 (by omega) (by omega))]
    refine qa_hr_k (fun e => ?_)
    have h18 : ¬ 18 = j := fun t => q1 ⟨e, t.symm⟩
    have h19 : ¬ 19 = j := fun t => q2 ⟨e, t.symm⟩
    simp [qa_lk, h18, h19]
end QCV
