/-! the law's start (5): the law's first steps, and the small machine's claim -/
section QGO
variable {M : qa_M} {pc : Nat} {lv : qa_L} {st : List qa_V} {nx : qa_P} {g : qa_P → qa_C} {ins : Instr} {len : Nat} {P : Nat → Nat → Prop}
/-- a run that ends with 1, having made what P says -/
def qa_Lz (P : Nat → Nat → Prop) (M : qa_M) (pc : Nat) (lv : qa_L) (st : List qa_V) (h : qa_H) : Prop := ∃ (n : Nat) (r : qa_Z), qa_ex n M pc lv st h = some r ∧ r.1 = .inl (some (.inr (.int 1))) ∧ P r.2.2.1 r.2.2.2
theorem qa_lz_do {pc' : Nat} {lv' : qa_L} {st' : List qa_V} (h1 : qa_lk (qa_is M) pc = some (ins, len)) (h2 : qa_do M g ins len pc lv st = some (pc', lv', st')) (c : qa_Lz P M pc' lv' st' (nx, g)) : qa_Lz P M pc lv st (nx, g) := by
  obtain ⟨n, r, c1, c2⟩ := c
  refine ⟨n + 1, r, ?_, c2⟩
  rw [qa_ex, h1]
  dsimp only
  rw [h2]
  exact c1
theorem qa_lz_mt {pc' sl : Nat} {st' : List qa_V} {c : qa_C} {p : qa_P} (h1 : qa_lk (qa_is M) pc = some (ins, len)) (h2 : qa_mkc M ins len pc st = some (pc', st', c, sl)) (hp : qa_at nx c = p) (e : qa_Lz (fun k s => P (1 + k) (sl + s)) M pc' lv (.inl p :: st') (qa_nxt p, qa_up g p c)) : qa_Lz P M pc lv st (nx, g) := by
  obtain ⟨n, r, c1, c2, c3⟩ := e
  subst hp
  obtain ⟨a1, a2, a3⟩ := qa_mk_no (M := M) (ins := ins) (len := len) (pc := pc) (st := st) (g := g) (lv := lv) (by rw [h2]; rfl)
  refine ⟨n + 1, qa_pl 1 sl r, ?_, c2, c3⟩
  rw [qa_ex, h1]
  dsimp only
  rw [a1]
  dsimp only
  rw [a2]
  dsimp only
  rw [a3]
  dsimp only
  rw [h2]
  dsimp only
  rw [c1]
  rfl
theorem qa_lz_mj {pc' sl R j : Nat} {st' : List qa_V} {c : qa_C} (h1 : qa_lk (qa_is M) pc = some (ins, len)) (h2 : qa_mkc M ins len pc st = some (pc', st', c, sl)) (hp : qa_at nx c = (R, j)) (e : qa_Lz (fun k s => P (1 + k) (sl + s)) M pc' lv (.inl (R, j) :: st') ((R, j + 1), qa_hr R [(j, c)] g)) : qa_Lz P M pc lv st (nx, g) := by
  refine qa_lz_mt h1 h2 hp ?_
  have e2 : qa_up g (R, j) c = qa_hr R [(j, c)] g := by
    rw [← qa_hr_up, qa_hr_n]
  rw [e2]
  exact e
theorem qa_lz_cl {i pl : Nat} {M1 : qa_M} {nest : Bool} {x : qa_P} {as rest : List qa_V} {f : Nat → qa_V} (e1 : qa_lk (qa_is M) pc = some (.invokespecial i, 3)) (h0 : qa_do M g (.invokespecial i) 3 pc lv st = none) (h2 : qa_lk (qa_ca (qa_cl M)) i = some (M1, nest, pl)) (hst : st = (.inl x :: as : List qa_V).reverse ++ rest) (hc : qa_chk M M1 0 nest = true) (hna : (.inl x :: as : List qa_V).length = qa_na M1) (hr : Nat.ble (rest.map qa_cat).sum 8 = true) (hd : g x = .inl (qa_cl M1, f)) (ha : Nat.ble ((.inl x :: as : List qa_V).map qa_cat).sum (qa_ml M1) = true) (hb : qa_Cz (fun h1 k1 s1 => qa_Lz (fun k s => P (k1 + k) (s1 + s)) M (pc + 3) lv rest h1) M1 0 (qa_ag 0 (.inl x :: as)) [] (nx, g)) : qa_Lz P M pc lv st (nx, g) := by
  obtain ⟨h1, k1, s1, ⟨n1, hn1⟩, n2, r, c1, c2, c3⟩ := hb
  refine ⟨max n1 n2 + 1, qa_pl k1 s1 r, ?_, c2, c3⟩
  rw [qa_ex, e1]
  dsimp only
  rw [h0]
  dsimp only
  rw [show qa_re (qa_rt M) (.invokespecial i) 3 st = none from rfl]
  dsimp only
  rw [show qa_wr M (.invokespecial i) 3 pc st g = none from rfl]
  dsimp only
  rw [show qa_mkc M (.invokespecial i) 3 pc st = none from rfl]
  dsimp only
  rw [show qa_th M (.invokespecial i) 3 pc st = none from rfl]
  dsimp only
  rw [qa_inv_of (sk := 0) (Or.inr (Or.inl ⟨rfl, rfl⟩)) h2 hc hst hna (Nat.le_of_ble_eq_true hr) (Nat.le_of_ble_eq_true ha) (Or.inr ⟨x, as, f, rfl, hd⟩)]
  dsimp only
  rw [qa_ex_mono (Nat.le_max_left n1 n2) hn1]
  dsimp only
  rw [show (none : Option qa_V).toList ++ rest = rest from rfl, qa_ex_mono (Nat.le_max_right n1 n2) c1]
  rfl
theorem qa_lz_bn {L N : Nat} {σ σ' : qa_T} (hb : qa_Bn L N M pc lv st σ (some (.inr (.int 1))) σ') (hj : qa_jn nx) (hP : ∀ c, c ≤ N → P c (6 * c)) : qa_Lz P M pc lv st (nx, qa_hp (qa_ds L) σ) := by
  obtain ⟨n, c, hc, k⟩ := hb
  exact ⟨n, _, k nx hj, rfl, hP c hc⟩
/-- what the cells hold when the constructors are through -/
def qa_z0 (xs : Nat → Int32) : qa_T := (fun p => if p = (0, 0) then xs else if 1 ≤ p.1 ∧ p.1 ≤ 10 ∧ p.2 < 18 then qa_g0 p.2 else fun _ => 0, fun _ _ => 0)
theorem qa_z0_r {xs : Nat → Int32} {R j : Nat} (h : 1 ≤ R ∧ R ≤ 10 ∧ j < 18) : (qa_z0 xs).1 (R, j) = qa_g0 j := by
  have h1 : ¬ ((R, j) : qa_P) = (0, 0) := fun t => by
    have t1 : R = 0 := congrArg Prod.fst t
    omega
  show (if ((R, j) : qa_P) = (0, 0) then xs else if 1 ≤ R ∧ R ≤ 10 ∧ j < 18 then qa_g0 j else fun _ => 0) = _
  rw [if_neg h1, if_pos h]
theorem qa_z0_n {xs : Nat → Int32} {R j : Nat} (h : ¬ (1 ≤ R ∧ R ≤ 10 ∧ j < 18)) (h0 : ¬ (R = 0 ∧ j = 0)) : (qa_z0 xs).1 (R, j) = fun _ => 0 := by
  have h1 : ¬ ((R, j) : qa_P) = (0, 0) := fun t => h0 ⟨congrArg Prod.fst t, congrArg Prod.snd t⟩
  show (if ((R, j) : qa_P) = (0, 0) then xs else if 1 ≤ R ∧ R ≤ 10 ∧ j < 18 then qa_g0 j else fun _ => 0) = _
  rw [if_neg h1, if_neg h]
theorem qa_z0_at {L : Nat} {xs : Nat → Int32} {R j : Nat} {d : qa_D} {u : Nat → Int32} (hd : qa_ds L (R, j) = d) (hu : (qa_z0 xs).1 (R, j) = u) : qa_hp (qa_ds L) (qa_z0 xs) (R, j) = qa_sh d u (fun _ => 0) := by
  show qa_sh (qa_ds L (R, j)) ((qa_z0 xs).1 (R, j)) ((qa_z0 xs).2 (R, j)) = _
  rw [hd, hu]
  rfl
theorem qa_ds_10 {L j : Nat} (h : 18 ≤ j) : qa_ds L (10, j) = qa_dx10 j := by
  unfold qa_ds
  dsimp only
  rw [if_neg (by decide), if_neg (by omega), if_neg (by decide), if_neg (by decide), if_pos rfl]
theorem qa_ds_jk {L R j : Nat} (d0 : ¬ (1 ≤ R ∧ R ≤ 10 ∧ j < 18)) (d1 : ¬ (R = 0 ∧ j = 1)) (d2 : ¬ (R = 2 ∧ j = 18)) (d3 : ¬ (R = 2 ∧ j = 19)) (d4 : ¬ (R = 8 ∧ j = 18)) (d8 : ¬ (R = 10 ∧ 18 ≤ j ∧ j < 21)) (d9 : ¬ (R = 0 ∧ j = 0)) : qa_ds L (R, j) = qa_jk := by
  unfold qa_ds
  dsimp only
  by_cases c0 : R = 0
  · rw [if_pos c0]
    have hj : 2 ≤ j := by omega
    match j, hj with
    | k + 2, _ => rfl
  rw [if_neg c0, if_neg (by omega)]
  by_cases c2 : R = 2
  · rw [if_pos c2]
    have hj : 20 ≤ j := by omega
    match j, hj with
    | k + 20, _ => rfl
  rw [if_neg c2]
  by_cases c8 : R = 8
  · rw [if_pos c8]
    have hj : 19 ≤ j := by omega
    match j, hj with
    | k + 19, _ => rfl
  rw [if_neg c8]
  by_cases c10 : R = 10
  · rw [if_pos c10]
    have hj : 21 ≤ j := by omega
    match j, hj with
    | k + 21, _ => rfl
  rw [if_neg c10]
/-- the heap at the law's entry -/
def qa_b0 (L : Nat) (xs : Nat → Int32) : qa_P → qa_C := (qa_h0 L xs).2
theorem qa_b0_n {L : Nat} {xs : Nat → Int32} {R j : Nat} (h : ¬ (R = 0 ∧ j = 0)) : qa_b0 L xs (R, j) = .inl (99, fun _ => .inr .null) := by
  show (if ((R, j) : qa_P) = (0, 0) then (.inr (9, L, .inl xs) : qa_C) else .inl (99, fun _ => .inr .null)) = _
  rw [if_neg (fun t => h ⟨congrArg Prod.fst t, congrArg Prod.snd t⟩)]
theorem qa_eh {L : Nat} {xs : Nat → Int32} {h : qa_P → qa_C}
    (cR : ∀ R j : Nat, 1 ≤ R → R ≤ 10 → j < 18 → h (R, j) = qa_sh (qa_db R j) (qa_g0 j) (fun _ => 0)) (e01 : h (0, 1) = qa_sh (.inl (9, qa_K9)) (fun _ => 0) (fun _ => 0)) (e218 : h (2, 18) = qa_sh (qa_dx2 18) (fun _ => 0) (fun _ => 0)) (e219 : h (2, 19) = qa_sh (qa_dx2 19) (fun _ => 0) (fun _ => 0)) (e818 : h (8, 18) = qa_sh (qa_dx8 18) (fun _ => 0) (fun _ => 0)) (e1018 : h (10, 18) = qa_sh (qa_dx10 18) (fun _ => 0) (fun _ => 0)) (e1019 : h (10, 19) = qa_sh (qa_dx10 19) (fun _ => 0) (fun _ => 0)) (e1020 : h (10, 20) = qa_sh (qa_dx10 20) (fun _ => 0) (fun _ => 0))
    (eo : ∀ R j : Nat, ¬ (1 ≤ R ∧ R ≤ 10 ∧ j < 18) → ¬ (R = 0 ∧ j = 1) → ¬ (R = 2 ∧ j = 18) → ¬ (R = 2 ∧ j = 19) → ¬ (R = 8 ∧ j = 18) → ¬ (R = 10 ∧ j = 18) → ¬ (R = 10 ∧ j = 19) → ¬ (R = 10 ∧ j = 20) → h (R, j) = qa_b0 L xs (R, j)) : h = qa_hp (qa_ds L) (qa_z0 xs) := by
  funext p
  obtain ⟨R, j⟩ := p
  by_cases cb : 1 ≤ R ∧ R ≤ 10 ∧ j < 18
  · rw [cR R j cb.1 cb.2.1 cb.2.2]
    exact (qa_z0_at (qa_dsb ⟨cb.1, cb.2.1⟩ cb.2.2) (qa_z0_r cb)).symm
  by_cases c01 : R = 0 ∧ j = 1
  · obtain ⟨rfl, rfl⟩ := c01
    rw [e01]
    exact (qa_z0_at rfl (qa_z0_n (by omega) (by omega))).symm
  by_cases c218 : R = 2 ∧ j = 18
  · obtain ⟨rfl, rfl⟩ := c218
    rw [e218]
    exact (qa_z0_at rfl (qa_z0_n (by omega) (by omega))).symm
  by_cases c219 : R = 2 ∧ j = 19
  · obtain ⟨rfl, rfl⟩ := c219
    rw [e219]
    exact (qa_z0_at rfl (qa_z0_n (by omega) (by omega))).symm
  by_cases c818 : R = 8 ∧ j = 18
  · obtain ⟨rfl, rfl⟩ := c818
    rw [e818]
    exact (qa_z0_at rfl (qa_z0_n (by omega) (by omega))).symm
  by_cases c1018 : R = 10 ∧ j = 18
  · obtain ⟨rfl, rfl⟩ := c1018
    rw [e1018]
    exact (qa_z0_at rfl (qa_z0_n (by omega) (by omega))).symm
  by_cases c1019 : R = 10 ∧ j = 19
  · obtain ⟨rfl, rfl⟩ := c1019
    rw [e1019]
    exact (qa_z0_at rfl (qa_z0_n (by omega) (by omega))).symm
  by_cases c1020 : R = 10 ∧ j = 20
  · obtain ⟨rfl, rfl⟩ := c1020
    rw [e1020]
    exact (qa_z0_at rfl (qa_z0_n (by omega) (by omega))).symm
  rw [eo R j cb c01 c218 c219 c818 c1018 c1019 c1020]
  by_cases c00 : R = 0 ∧ j = 0
  · obtain ⟨rfl, rfl⟩ := c00
    rfl
  · rw [qa_b0_n c00, qa_z0_at (qa_ds_jk cb c01 c218 c219 c818 (by omega) c00) (qa_z0_n cb c00)]
    rfl
theorem qa_z0_qK {xs : Nat → Int32} : qK 0 xs qi_0 (qa_z0 xs) := by
  refine ⟨rfl, ⟨0, 0, fun _ => qi_0, fun _ => false, fun _ => qi_0, 0, fun _ => 0, ⟨⟨fun i hi _ => ?_, ?_⟩, rfl, rfl, fun i hi => by omega, fun i hi => rfl, (fun i hi hz => by cases hz), rfl, fun i hi => by omega⟩, by omega, by omega⟩, z_P, v_z⟩
  · have h1 := (qy_qx hi).2.1
    rw [qa_z0_r ⟨by omega, by omega, by omega⟩]
    exact z_x ⟨i, hi⟩
  · rw [qa_z0_r ⟨by omega, by omega, by omega⟩]
    rfl
set_option maxRecDepth 1000000 in
set_option maxHeartbeats 4000000 in
theorem qa_goal : qa_Goal := by
  intro L xs hL
  obtain ⟨σ', hσ⟩ := l_law (L := L) (X := xs) (by omega) qa_gu 0 0 qi_0 (qa_z0 xs) qa_z0_qK (by omega) (by unfold qa_gu; omega) (by omega)
  have hb := qa_tL_law_10 (L := L) (by omega) qa_gu (nI 0) (qa_z0 xs) (true, σ') hσ
  have hgo : qa_Lz (fun k s => k ≤ 720722 ∧ s ≤ 6939302) qa_mL_law 0 [(0, .inl (0, 0))] [] ((0, 1), qa_b0 L xs) := by
    refine qa_lz_mj (R := 0) (j := 1) rfl rfl rfl ?_
    refine qa_lz_do (pc' := 4) rfl rfl ?_
    refine qa_lz_cl (M1 := qa_mX9_init) (x := (0, 1)) (as := []) rfl rfl rfl rfl rfl rfl rfl (qa_hr_at rfl) rfl ?_
    refine qa_cX9_run (fun h cR e01 e218 e219 e818 e1018 e1019 e1020 eo => ?_)
    refine qa_lz_do (pc' := 8) rfl rfl ?_
    refine qa_lz_do (pc' := 9) rfl rfl ?_
    refine qa_lz_do (pc' := 10) rfl rfl ?_
    have eh := qa_eh (L := L) (xs := xs) cR e01 e218 e219 e818 e1018 e1019 e1020 eo
    have hb2 : qa_Bn L (qa_gu * 618 + 618) qa_mL_law 10 [(2, .inr (.int (Int32.ofInt 0))), (1, .inl (0, 1)), (0, .inl (0, 0))] [] (qa_z0 xs) (some (.inr (.int 1))) σ' := qa_bn_lw hb rfl rfl (And.intro rfl (And.intro rfl (And.intro rfl trivial)))
    have hP : ∀ c, c ≤ qa_gu * 618 + 618 → (1 + (186 + c) ≤ 720722 ∧ 6 + (2338 + 6 * c) ≤ 6939302) := fun c hc => by
      have hc2 : c ≤ 37698 := hc
      constructor <;> omega
    have hz := qa_lz_bn (P := fun k s => 1 + (186 + k) ≤ 720722 ∧ 6 + (2338 + s) ≤ 6939302) (nx := (10, 21)) hb2 ⟨rfl, Nat.le_refl _⟩ hP
    rw [← eh] at hz
    exact hz
  exact hgo
end QGO
