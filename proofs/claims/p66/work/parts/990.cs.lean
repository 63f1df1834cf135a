/-! runs of constructors -/
section QCS
def qa_hr (R : Nat) (l : List (Nat × qa_C)) (b : qa_P → qa_C) : qa_P → qa_C := fun q => if q.1 = R then (match qa_lk l q.2 with
  | some c => c
  | none => b q) else b q
theorem qa_hr_at {R j : Nat} {l : List (Nat × qa_C)} {b : qa_P → qa_C} {c : qa_C} (h : qa_lk l j = some c) : qa_hr R l b (R, j) = c := by
  unfold qa_hr
  dsimp only
  rw [if_pos rfl, h]
theorem qa_hr_up {R j : Nat} {l : List (Nat × qa_C)} {b : qa_P → qa_C} {c : qa_C} : qa_up (qa_hr R l b) (R, j) c = qa_hr R ((j, c) :: l) b := by
  funext q
  obtain ⟨q1, q2⟩ := q
  unfold qa_up qa_hr
  dsimp only
  by_cases h : q1 = R
  · subst h
    rw [if_pos rfl, if_pos rfl]
    by_cases h2 : q2 = j
    · subst h2
      rw [if_pos rfl]
      rw [show qa_lk ((q2, c) :: l) q2 = some c from if_pos rfl]
    · rw [if_neg (fun t => h2 (congrArg Prod.snd t))]
      rw [show qa_lk ((j, c) :: l) q2 = qa_lk l q2 from if_neg (Ne.symm h2)]
  · rw [if_neg (fun t => h (congrArg Prod.fst t)), if_neg h, if_neg h]
/-- the constructor ends, having made so much -/
def qa_Cs (M : qa_M) (pc : Nat) (lv : qa_L) (st : List qa_V) (h h' : qa_H) (k s : Nat) : Prop := ∃ n, qa_ex n M pc lv st h = some (.inl none, h', k, s)
variable {M : qa_M} {pc : Nat} {lv : qa_L} {st : List qa_V} {nx : qa_P} {g : qa_P → qa_C} {h' : qa_H} {k s : Nat} {ins : Instr} {len : Nat}
theorem qa_cs_do {pc' : Nat} {lv' : qa_L} {st' : List qa_V} (h1 : qa_lk (qa_is M) pc = some (ins, len)) (h2 : qa_do M g ins len pc lv st = some (pc', lv', st')) (c : qa_Cs M pc' lv' st' (nx, g) h' k s) : qa_Cs M pc lv st (nx, g) h' k s := by
  obtain ⟨n, hn⟩ := c
  refine ⟨n + 1, ?_⟩
  rw [qa_ex, h1]
  dsimp only
  rw [h2]
  exact hn
theorem qa_cs_re (h1 : qa_lk (qa_is M) pc = some (.return_, 1)) (hr : qa_rt M = none := by rfl) : qa_Cs M pc lv [] (nx, g) (nx, g) 0 0 := by
  refine ⟨1, ?_⟩
  rw [qa_ex, h1]
  dsimp only
  rw [show qa_do M g .return_ 1 pc lv [] = none from rfl]
  dsimp only
  rw [hr]
  rfl
theorem qa_cs_mk {pc' sl : Nat} {st' : List qa_V} {c : qa_C} {p : qa_P} (h1 : qa_lk (qa_is M) pc = some (ins, len)) (h0 : qa_do M g ins len pc lv st = none) (h9 : qa_re (qa_rt M) ins len st = none) (h8 : qa_wr M ins len pc st g = none) (h2 : qa_mkc M ins len pc st = some (pc', st', c, sl)) (hp : qa_at nx c = p) (e : qa_Cs M pc' lv (.inl p :: st') (qa_nxt p, qa_up g p c) h' k s) : qa_Cs M pc lv st (nx, g) h' (1 + k) (sl + s) := by
  obtain ⟨n, hn⟩ := e
  subst hp
  refine ⟨n + 1, ?_⟩
  rw [qa_ex, h1]
  dsimp only
  rw [h0]
  dsimp only
  rw [h9]
  dsimp only
  rw [h8]
  dsimp only
  rw [h2]
  dsimp only
  rw [hn]
  rfl
theorem qa_mk_no (h2 : (qa_mkc M ins len pc st).isSome = true) : qa_do M g ins len pc lv st = none ∧ qa_re (qa_rt M) ins len st = none ∧ qa_wr M ins len pc st g = none := by
  cases ins <;> first | exact ⟨rfl, rfl, rfl⟩ | cases h2
theorem qa_cs_mt {pc' sl : Nat} {st' : List qa_V} {c : qa_C} {p : qa_P} (h1 : qa_lk (qa_is M) pc = some (ins, len)) (h2 : qa_mkc M ins len pc st = some (pc', st', c, sl)) (hp : qa_at nx c = p) (e : qa_Cs M pc' lv (.inl p :: st') (qa_nxt p, qa_up g p c) h' k s) : qa_Cs M pc lv st (nx, g) h' (1 + k) (sl + s) := by
  obtain ⟨a1, a2, a3⟩ := qa_mk_no (M := M) (ins := ins) (len := len) (pc := pc) (st := st) (g := g) (lv := lv) (by rw [h2]; rfl)
  exact qa_cs_mk h1 a1 a2 a3 h2 hp e
theorem qa_cs_mr {pc' sl R j : Nat} {st' : List qa_V} {c : qa_C} {l : List (Nat × qa_C)} {b : qa_P → qa_C} (h1 : qa_lk (qa_is M) pc = some (ins, len)) (h2 : qa_mkc M ins len pc st = some (pc', st', c, sl)) (hp : qa_at (R, j) c = (R, j)) (e : qa_Cs M pc' lv (.inl (R, j) :: st') ((R, j + 1), qa_hr R ((j, c) :: l) b) h' k s) : qa_Cs M pc lv st ((R, j), qa_hr R l b) h' (1 + k) (sl + s) := by
  refine qa_cs_mt h1 h2 hp ?_
  rw [qa_hr_up]
  exact e
theorem qa_cs_wr {pc' : Nat} {st' : List qa_V} {c : qa_C} {p : qa_P} (h1 : qa_lk (qa_is M) pc = some (ins, len)) (h0 : qa_do M g ins len pc lv st = none) (h9 : qa_re (qa_rt M) ins len st = none) (h2 : qa_wr M ins len pc st g = some (pc', st', p, c)) (e : qa_Cs M pc' lv st' (nx, qa_up g p c) h' k s) : qa_Cs M pc lv st (nx, g) h' k s := by
  obtain ⟨n, hn⟩ := e
  refine ⟨n + 1, ?_⟩
  rw [qa_ex, h1]
  dsimp only
  rw [h0]
  dsimp only
  rw [h9]
  dsimp only
  rw [h2]
  exact hn
theorem qa_cs_pt {i ci sl pl : Nat} {x : qa_P} {v : qa_V} {r : List qa_V} {f : Nat → qa_V} (h1 : qa_lk (qa_is M) pc = some (.putfield i, 3)) (h2 : qa_lk (qa_fl (qa_cl M)) i = some (ci, sl, pl)) (hd : g x = .inl (ci, f)) (hf : qa_fit (qa_ft ci sl) v = true) (hn : qa_fn ci sl = true → qa_sk M = 0 ∧ ci = qa_cl M) (e : qa_Cs M (pc + 3) lv r (nx, qa_up g x (.inl (ci, fun j => if j = sl then v else f j))) h' k s) : qa_Cs M pc lv (v :: .inl x :: r) (nx, g) h' k s := by
  refine qa_cs_wr h1 rfl rfl ?_ e
  unfold qa_wr
  dsimp only
  rw [h2, hd]
  dsimp only
  rw [if_pos ⟨rfl, rfl, hf, hn⟩]
theorem qa_cs_pr {i ci sl pl R j : Nat} {v : qa_V} {r : List qa_V} {f : Nat → qa_V} {l : List (Nat × qa_C)} {b : qa_P → qa_C} (h1 : qa_lk (qa_is M) pc = some (.putfield i, 3)) (h2 : qa_lk (qa_fl (qa_cl M)) i = some (ci, sl, pl)) (hd : qa_hr R l b (R, j) = .inl (ci, f)) (hf : qa_fit (qa_ft ci sl) v = true) (hn : qa_fn ci sl = true → qa_sk M = 0 ∧ ci = qa_cl M) (e : qa_Cs M (pc + 3) lv r (nx, qa_hr R ((j, .inl (ci, fun j => if j = sl then v else f j)) :: l) b) h' k s) : qa_Cs M pc lv (v :: .inl (R, j) :: r) (nx, qa_hr R l b) h' k s := by
  refine qa_cs_pt h1 h2 hd hf hn ?_
  rw [qa_hr_up]
  exact e
theorem qa_cs_gf {i ci sl pl : Nat} {x : qa_P} {r : List qa_V} {f : Nat → qa_V} (h1 : qa_lk (qa_is M) pc = some (.getfield i, 3)) (h2 : qa_lk (qa_fl (qa_cl M)) i = some (ci, sl, pl)) (hd : g x = .inl (ci, f)) (e : qa_Cs M (pc + 3) lv (f sl :: r) (nx, g) h' k s) : qa_Cs M pc lv (.inl x :: r) (nx, g) h' k s := by
  refine qa_cs_do h1 ?_ e
  show qa_S 3 3 pc lv (qa_gf (qa_cl M) i g (.inl x :: r)) = _
  unfold qa_gf
  dsimp only
  rw [h2, hd]
  dsimp only
  rw [if_pos rfl]
  rfl
theorem qa_cs_al {τ n : Nat} {x : qa_P} {r : List qa_V} {f : qa_R} (h1 : qa_lk (qa_is M) pc = some (.arraylength, 1)) (hd : g x = .inr (τ, n, f)) (hτ : τ < 4 ∨ τ = 9) (e : qa_Cs M (pc + 1) lv (.inr (.int (Int32.ofNat n)) :: r) (nx, g) h' k s) : qa_Cs M pc lv (.inl x :: r) (nx, g) h' k s := by
  refine qa_cs_do h1 ?_ e
  show qa_S 1 1 pc lv (qa_an_ g (.inl x :: r)) = _
  unfold qa_an_
  dsimp only
  rw [hd]
  dsimp only
  rw [if_pos hτ]
  rfl
theorem qa_cs_is {n : Nat} {f : Nat → Int32} {i v : Int32} {x : qa_P} {r : List qa_V} (h1 : qa_lk (qa_is M) pc = some (.iastore, 1)) (hd : g x = .inr (0, n, .inl f)) (hi : qa_in i n = true) (e : qa_Cs M (pc + 1) lv r (nx, qa_up g x (.inr (0, n, .inl (upd f i.toNatClampNeg v)))) h' k s) : qa_Cs M pc lv (.inr (.int v) :: .inr (.int i) :: .inl x :: r) (nx, g) h' k s := by
  refine qa_cs_wr h1 rfl rfl ?_ e
  unfold qa_wr
  dsimp only
  rw [hd]
  dsimp only
  rw [if_pos ⟨rfl, rfl, hi⟩]
theorem qa_cs_as {n : Nat} {f : Nat → Option qa_P} {i : Int32} {x y : qa_P} {r : List qa_V} {u : Nat → qa_V} (h1 : qa_lk (qa_is M) pc = some (.aastore, 1)) (hd : g x = .inr (3, n, .inr (.inr f))) (hy : g y = .inl (1, u)) (hi : qa_in i n = true) (e : qa_Cs M (pc + 1) lv r (nx, qa_up g x (.inr (3, n, .inr (.inr (va_up f i.toNatClampNeg (some y)))))) h' k s) : qa_Cs M pc lv (.inl y :: .inr (.int i) :: .inl x :: r) (nx, g) h' k s := by
  refine qa_cs_wr h1 rfl rfl ?_ e
  unfold qa_wr
  dsimp only
  rw [hd, hy]
  dsimp only
  rw [if_pos ⟨rfl, rfl, rfl, hi⟩]
/-- a constructor called -/
theorem qa_cs_cl {i pl : Nat} {M1 : qa_M} {nest : Bool} {x : qa_P} {as rest : List qa_V} {h1 : qa_H} {k1 s1 : Nat} {f : Nat → qa_V} (hb : qa_Cs M1 0 (qa_ag 0 (.inl x :: as)) [] (nx, g) h1 k1 s1) (e1 : qa_lk (qa_is M) pc = some (.invokespecial i, 3)) (h0 : qa_do M g (.invokespecial i) 3 pc lv st = none) (h2 : qa_lk (qa_ca (qa_cl M)) i = some (M1, nest, pl)) (hst : st = (.inl x :: as : List qa_V).reverse ++ rest) (hc : qa_chk M M1 0 nest = true) (hna : (.inl x :: as : List qa_V).length = qa_na M1) (hr : Nat.ble (rest.map qa_cat).sum 8 = true) (hd : g x = .inl (qa_cl M1, f)) (e : qa_Cs M (pc + 3) lv rest h1 h' k s) (ha : Nat.ble ((.inl x :: as : List qa_V).map qa_cat).sum (qa_ml M1) = true := by rfl) : qa_Cs M pc lv st (nx, g) h' (k1 + k) (s1 + s) := by
  obtain ⟨n1, hn1⟩ := hb
  obtain ⟨n2, hn2⟩ := e
  refine ⟨max n1 n2 + 1, ?_⟩
  rw [qa_ex, e1]
  dsimp only
  rw [h0]
  dsimp only
  rw [show qa_re (qa_rt M) (.invokespecial i) 3 st = none from rfl]
  dsimp only
  rw [show qa_wr M (.invokespecial i) 3 pc st g = none from rfl]
  dsimp only
  rw [show qa_mkc M (.invokespecial i) 3 pc st = none from rfl]
  dsimp only
  rw [show qa_th M (.invokespecial i) 3 pc st = none from rfl]
  dsimp only
  rw [qa_inv_of (sk := 0) (Or.inr (Or.inl ⟨rfl, rfl⟩)) h2 hc hst hna (Nat.le_of_ble_eq_true hr) (Nat.le_of_ble_eq_true ha) (Or.inr ⟨x, as, f, rfl, hd⟩)]
  dsimp only
  rw [qa_ex_mono (Nat.le_max_left n1 n2) hn1]
  dsimp only
  rw [show (none : Option qa_V).toList ++ rest = rest from rfl, qa_ex_mono (Nat.le_max_right n1 n2) hn2]
  rfl
theorem qa_cs_ct {h : qa_H} {k1 s1 : Nat} (e : qa_Cs M pc lv st h h' k s) (e1 : k = k1) (e2 : s = s1) : qa_Cs M pc lv st h h' k1 s1 := by
  subst e1
  subst e2
  exact e
/-- a run that leaves what P says -/
def qa_Cz (P : qa_H → Nat → Nat → Prop) (M : qa_M) (pc : Nat) (lv : qa_L) (st : List qa_V) (h : qa_H) : Prop := ∃ h' k s, qa_Cs M pc lv st h h' k s ∧ P h' k s
theorem qa_cz_do {P : qa_H → Nat → Nat → Prop} {pc' : Nat} {lv' : qa_L} {st' : List qa_V} (h1 : qa_lk (qa_is M) pc = some (ins, len)) (h2 : qa_do M g ins len pc lv st = some (pc', lv', st')) (c : qa_Cz P M pc' lv' st' (nx, g)) : qa_Cz P M pc lv st (nx, g) := by
  obtain ⟨h', k, s, c1, c2⟩ := c
  exact ⟨h', k, s, qa_cs_do h1 h2 c1, c2⟩
theorem qa_cz_re {P : qa_H → Nat → Nat → Prop} (h1 : qa_lk (qa_is M) pc = some (.return_, 1)) (hr : qa_rt M = none) (c : P (nx, g) 0 0) : qa_Cz P M pc lv [] (nx, g) := ⟨(nx, g), 0, 0, qa_cs_re h1 hr, c⟩
theorem qa_cz_mr {P : qa_H → Nat → Nat → Prop} {pc' sl R j : Nat} {st' : List qa_V} {c : qa_C} {l : List (Nat × qa_C)} {b : qa_P → qa_C} (h1 : qa_lk (qa_is M) pc = some (ins, len)) (h2 : qa_mkc M ins len pc st = some (pc', st', c, sl)) (hp : qa_at (R, j) c = (R, j)) (e : qa_Cz (fun h' k s => P h' (1 + k) (sl + s)) M pc' lv (.inl (R, j) :: st') ((R, j + 1), qa_hr R ((j, c) :: l) b)) : qa_Cz P M pc lv st ((R, j), qa_hr R l b) := by
  obtain ⟨h', k, s, c1, c2⟩ := e
  exact ⟨h', 1 + k, sl + s, qa_cs_mr h1 h2 hp c1, c2⟩
theorem qa_cz_pr {P : qa_H → Nat → Nat → Prop} {i ci sl pl R j : Nat} {v : qa_V} {r : List qa_V} {f : Nat → qa_V} {l : List (Nat × qa_C)} {b : qa_P → qa_C} (h1 : qa_lk (qa_is M) pc = some (.putfield i, 3)) (h2 : qa_lk (qa_fl (qa_cl M)) i = some (ci, sl, pl)) (hd : qa_hr R l b (R, j) = .inl (ci, f)) (hf : qa_fit (qa_ft ci sl) v = true) (hn : qa_fn ci sl = true → qa_sk M = 0 ∧ ci = qa_cl M) (e : qa_Cz P M (pc + 3) lv r (nx, qa_hr R ((j, .inl (ci, fun j => if j = sl then v else f j)) :: l) b)) : qa_Cz P M pc lv (v :: .inl (R, j) :: r) (nx, qa_hr R l b) := by
  obtain ⟨h', k, s, c1, c2⟩ := e
  exact ⟨h', k, s, qa_cs_pr h1 h2 hd hf hn c1, c2⟩
theorem qa_cz_cl {P : qa_H → Nat → Nat → Prop} {i pl : Nat} {M1 : qa_M} {nest : Bool} {x : qa_P} {as rest : List qa_V} {f : Nat → qa_V} (e1 : qa_lk (qa_is M) pc = some (.invokespecial i, 3)) (h0 : qa_do M g (.invokespecial i) 3 pc lv st = none) (h2 : qa_lk (qa_ca (qa_cl M)) i = some (M1, nest, pl)) (hst : st = (.inl x :: as : List qa_V).reverse ++ rest) (hc : qa_chk M M1 0 nest = true) (hna : (.inl x :: as : List qa_V).length = qa_na M1) (hr : Nat.ble (rest.map qa_cat).sum 8 = true) (hd : g x = .inl (qa_cl M1, f)) (ha : Nat.ble ((.inl x :: as : List qa_V).map qa_cat).sum (qa_ml M1) = true) (hb : qa_Cz (fun h1 k1 s1 => qa_Cz (fun h' k s => P h' (k1 + k) (s1 + s)) M (pc + 3) lv rest h1) M1 0 (qa_ag 0 (.inl x :: as)) [] (nx, g)) : qa_Cz P M pc lv st (nx, g) := by
  obtain ⟨h1, k1, s1, c1, h', k, s, c2, c3⟩ := hb
  exact ⟨h', k1 + k, s1 + s, qa_cs_cl c1 e1 h0 h2 hst hc hna hr hd c2 ha, c3⟩
theorem qa_cz_gf {P : qa_H → Nat → Nat → Prop} {i ci sl pl : Nat} {x : qa_P} {r : List qa_V} {f : Nat → qa_V} (h1 : qa_lk (qa_is M) pc = some (.getfield i, 3)) (h2 : qa_lk (qa_fl (qa_cl M)) i = some (ci, sl, pl)) (hd : g x = .inl (ci, f)) (e : qa_Cz P M (pc + 3) lv (f sl :: r) (nx, g)) : qa_Cz P M pc lv (.inl x :: r) (nx, g) := by
  obtain ⟨h', k, s, c1, c2⟩ := e
  exact ⟨h', k, s, qa_cs_gf h1 h2 hd c1, c2⟩
theorem qa_cz_al {P : qa_H → Nat → Nat → Prop} {τ n : Nat} {x : qa_P} {r : List qa_V} {f : qa_R} (h1 : qa_lk (qa_is M) pc = some (.arraylength, 1)) (hd : g x = .inr (τ, n, f)) (hτ : τ < 4 ∨ τ = 9) (e : qa_Cz P M (pc + 1) lv (.inr (.int (Int32.ofNat n)) :: r) (nx, g)) : qa_Cz P M pc lv (.inl x :: r) (nx, g) := by
  obtain ⟨h', k, s, c1, c2⟩ := e
  exact ⟨h', k, s, qa_cs_al h1 hd hτ c1, c2⟩
theorem qa_cz_is {P : qa_H → Nat → Nat → Prop} {n : Nat} {f : Nat → Int32} {i v : Int32} {x : qa_P} {r : List qa_V} (h1 : qa_lk (qa_is M) pc = some (.iastore, 1)) (hd : g x = .inr (0, n, .inl f)) (hi : qa_in i n = true) (e : qa_Cz P M (pc + 1) lv r (nx, qa_up g x (.inr (0, n, .inl (upd f i.toNatClampNeg v))))) : qa_Cz P M pc lv (.inr (.int v) :: .inr (.int i) :: .inl x :: r) (nx, g) := by
  obtain ⟨h', k, s, c1, c2⟩ := e
  exact ⟨h', k, s, qa_cs_is h1 hd hi c1, c2⟩
theorem qa_cz_as {P : qa_H → Nat → Nat → Prop} {n : Nat} {f : Nat → Option qa_P} {i : Int32} {x y : qa_P} {r : List qa_V} {u : Nat → qa_V} (h1 : qa_lk (qa_is M) pc = some (.aastore, 1)) (hd : g x = .inr (3, n, .inr (.inr f))) (hy : g y = .inl (1, u)) (hi : qa_in i n = true) (e : qa_Cz P M (pc + 1) lv r (nx, qa_up g x (.inr (3, n, .inr (.inr (va_up f i.toNatClampNeg (some y))))))) : qa_Cz P M pc lv (.inl y :: .inr (.int i) :: .inl x :: r) (nx, g) := by
  obtain ⟨h', k, s, c1, c2⟩ := e
  exact ⟨h', k, s, qa_cs_as h1 hd hy hi c1, c2⟩
theorem qa_cz_pt {P : qa_H → Nat → Nat → Prop} {i ci sl pl : Nat} {x : qa_P} {v : qa_V} {r : List qa_V} {f : Nat → qa_V} (h1 : qa_lk (qa_is M) pc = some (.putfield i, 3)) (h2 : qa_lk (qa_fl (qa_cl M)) i = some (ci, sl, pl)) (hd : g x = .inl (ci, f)) (hf : qa_fit (qa_ft ci sl) v = true) (hn : qa_fn ci sl = true → qa_sk M = 0 ∧ ci = qa_cl M) (e : qa_Cz P M (pc + 3) lv r (nx, qa_up g x (.inl (ci, fun j => if j = sl then v else f j)))) : qa_Cz P M pc lv (v :: .inl x :: r) (nx, g) := by
  obtain ⟨h', k, s, c1, c2⟩ := e
  exact ⟨h', k, s, qa_cs_pt h1 h2 hd hf hn c1, c2⟩
theorem qa_cz_mt {P : qa_H → Nat → Nat → Prop} {pc' sl : Nat} {st' : List qa_V} {c : qa_C} {p : qa_P} (h1 : qa_lk (qa_is M) pc = some (ins, len)) (h2 : qa_mkc M ins len pc st = some (pc', st', c, sl)) (hp : qa_at nx c = p) (e : qa_Cz (fun h' k s => P h' (1 + k) (sl + s)) M pc' lv (.inl p :: st') (qa_nxt p, qa_up g p c)) : qa_Cz P M pc lv st (nx, g) := by
  obtain ⟨h', k, s, c1, c2⟩ := e
  exact ⟨h', 1 + k, sl + s, qa_cs_mt h1 h2 hp c1, c2⟩
theorem qa_hr_n {R : Nat} {b : qa_P → qa_C} : qa_hr R [] b = b := by
  funext q
  unfold qa_hr
  split
  · rfl
  · rfl
/-- a new region -/
theorem qa_cz_mn {P : qa_H → Nat → Nat → Prop} {pc' sl R : Nat} {st' : List qa_V} {c : qa_C} (h1 : qa_lk (qa_is M) pc = some (ins, len)) (h2 : qa_mkc M ins len pc st = some (pc', st', c, sl)) (hp : qa_at nx c = (R, 0)) (e : qa_Cz (fun h' k s => P h' (1 + k) (sl + s)) M pc' lv (.inl (R, 0) :: st') ((R, 1), qa_hr R [(0, c)] g)) : qa_Cz P M pc lv st (nx, g) := by
  refine qa_cz_mt h1 h2 hp ?_
  have e2 : qa_up g (R, 0) c = qa_hr R [(0, c)] g := by
    rw [← qa_hr_up, qa_hr_n]
  rw [e2]
  exact e
end QCS
