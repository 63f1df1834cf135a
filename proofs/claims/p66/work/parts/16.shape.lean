/-! the shapes of the cells behind the law's start, and rows for each kind of instruction (written by wip/tools/mk_shape.py) -/
section QSH
def qa_n0 : Nat → Option qa_P := fun _ => none
def qa_K1 (R : Nat) : Nat → qa_V ⊕ Nat := fun j => match j with
  | 0 => .inl (.inl (R, 1))
  | 1 => .inl (.inl (R, 9))
  | 2 => .inl (.inl (R, 11))
  | 3 => .inl (.inl (R, 12))
  | 4 => .inl (.inl (R, 14))
  | 5 => .inl (.inl (R, 15))
  | 6 => .inl (.inl (R, 16))
  | 7 => .inl (.inl (R, 17))
  | _ => .inl (.inr .null)
def qa_K6 (R : Nat) : Nat → qa_V ⊕ Nat := fun j => match j with
  | 0 => .inr 0
  | 1 => .inl (.inl (R, 2))
  | 2 => .inl (.inl (R, 3))
  | 3 => .inl (.inl (R, 4))
  | 4 => .inl (.inl (R, 5))
  | 5 => .inl (.inl (R, 6))
  | 6 => .inl (.inl (R, 7))
  | 7 => .inl (.inl (R, 8))
  | _ => .inr 0
def qa_K3 (R : Nat) : Nat → qa_V ⊕ Nat := fun j => match j with
  | 0 => .inr 0
  | 1 => .inr 0
  | 2 => .inl (.inl (R, 10))
  | _ => .inl (.inr .null)
def qa_K2 (R : Nat) : Nat → qa_V ⊕ Nat := fun j => match j with
  | 3 => .inl (.inl (R, 13))
  | _ => .inr 0
def qa_Ki : Nat → qa_V ⊕ Nat := fun _ => .inr 0
def qa_K9 : Nat → qa_V ⊕ Nat := fun j => match j with
  | 0 => .inl (.inl (1, 0))
  | 1 => .inl (.inl (2, 0))
  | 2 => .inl (.inl (2, 18))
  | 3 => .inl (.inl (8, 18))
  | 4 => .inl (.inl (10, 18))
  | 5 => .inl (.inl (10, 19))
  | _ => .inl (.inr .null)
def qa_K5 : Nat → qa_V ⊕ Nat := fun j => match j with
  | 0 => .inr 0
  | 1 => .inr 0
  | 2 => .inl (.inl (2, 19))
  | _ => .inl (.inr .null)
def qa_K8 : Nat → qa_V ⊕ Nat := fun j => match j with
  | 1 => .inl (.inl (10, 20))
  | _ => .inr 0
def qa_jk : qa_D := .inl (99, fun _ => .inl (.inr .null))
/-- a Bonfire's region -/
def qa_db (R j : Nat) : qa_D := match j with
  | 0 => .inl (1, qa_K1 R)
  | 1 => .inl (6, qa_K6 R)
  | 2 => .inr (0, 16, qa_n0)
  | 3 => .inr (0, 16, qa_n0)
  | 4 => .inr (0, 16, qa_n0)
  | 5 => .inr (1, 16, qa_n0)
  | 6 => .inr (0, 16, qa_n0)
  | 7 => .inr (0, 16, qa_n0)
  | 8 => .inr (0, 16, qa_n0)
  | 9 => .inl (3, qa_K3 R)
  | 10 => .inr (0, 24, qa_n0)
  | 11 => .inl (7, qa_Ki)
  | 12 => .inl (2, qa_K2 R)
  | 13 => .inr (0, 16, qa_n0)
  | 14 => .inl (4, qa_Ki)
  | 15 => .inl (0, qa_Ki)
  | 16 => .inr (0, 16, qa_n0)
  | _ => .inr (0, 16, qa_n0)
def qa_dx2 (j : Nat) : qa_D := match j with
  | 18 => .inl (5, qa_K5)
  | 19 => .inr (3, 6, fun i => if i < 6 then some (3 + i, 0) else none)
  | _ => qa_jk
def qa_dx8 (j : Nat) : qa_D := match j with
  | 18 => .inr (3, 2, fun i => if i < 2 then some (9 + i, 0) else none)
  | _ => qa_jk
def qa_dx10 (j : Nat) : qa_D := match j with
  | 18 => .inr (1, 2, qa_n0)
  | 19 => .inl (8, qa_K8)
  | 20 => .inr (0, 60, qa_n0)
  | _ => qa_jk
def qa_d0 (L j : Nat) : qa_D := match j with
  | 0 => .inr (9, L, qa_n0)
  | 1 => .inl (9, qa_K9)
  | _ => qa_jk
def qa_ds (L : Nat) (p : qa_P) : qa_D := if p.1 = 0 then qa_d0 L p.2 else if p.1 ≤ 10 ∧ p.2 < 18 then qa_db p.1 p.2 else if p.1 = 2 then qa_dx2 p.2 else if p.1 = 8 then qa_dx8 p.2 else if p.1 = 10 then qa_dx10 p.2 else qa_jk
/-- a region of a Bonfire -/
def qa_rg (R : Nat) : Prop := 1 ≤ R ∧ R ≤ 10
theorem qa_rg_1 : qa_rg 1 := ⟨by decide, by decide⟩
theorem qa_rg_2 : qa_rg 2 := ⟨by decide, by decide⟩
theorem qa_dsb {L R j : Nat} (h : qa_rg R) (hj : j < 18) : qa_ds L (R, j) = qa_db R j := by
  unfold qa_ds
  dsimp only
  rw [if_neg (by have := h.1; omega), if_pos ⟨h.2, hj⟩]
theorem qa_ds0 {L R : Nat} (h : qa_rg R) : qa_ds L (R, 0) = .inl (1, qa_K1 R) := qa_dsb h (by decide)
theorem qa_ds1 {L R : Nat} (h : qa_rg R) : qa_ds L (R, 1) = .inl (6, qa_K6 R) := qa_dsb h (by decide)
theorem qa_ds2 {L R : Nat} (h : qa_rg R) : qa_ds L (R, 2) = .inr (0, 16, qa_n0) := qa_dsb h (by decide)
theorem qa_ds3 {L R : Nat} (h : qa_rg R) : qa_ds L (R, 3) = .inr (0, 16, qa_n0) := qa_dsb h (by decide)
theorem qa_ds4 {L R : Nat} (h : qa_rg R) : qa_ds L (R, 4) = .inr (0, 16, qa_n0) := qa_dsb h (by decide)
theorem qa_ds5 {L R : Nat} (h : qa_rg R) : qa_ds L (R, 5) = .inr (1, 16, qa_n0) := qa_dsb h (by decide)
theorem qa_ds6 {L R : Nat} (h : qa_rg R) : qa_ds L (R, 6) = .inr (0, 16, qa_n0) := qa_dsb h (by decide)
theorem qa_ds7 {L R : Nat} (h : qa_rg R) : qa_ds L (R, 7) = .inr (0, 16, qa_n0) := qa_dsb h (by decide)
theorem qa_ds8 {L R : Nat} (h : qa_rg R) : qa_ds L (R, 8) = .inr (0, 16, qa_n0) := qa_dsb h (by decide)
theorem qa_ds9 {L R : Nat} (h : qa_rg R) : qa_ds L (R, 9) = .inl (3, qa_K3 R) := qa_dsb h (by decide)
theorem qa_ds10 {L R : Nat} (h : qa_rg R) : qa_ds L (R, 10) = .inr (0, 24, qa_n0) := qa_dsb h (by decide)
theorem qa_ds11 {L R : Nat} (h : qa_rg R) : qa_ds L (R, 11) = .inl (7, qa_Ki) := qa_dsb h (by decide)
theorem qa_ds12 {L R : Nat} (h : qa_rg R) : qa_ds L (R, 12) = .inl (2, qa_K2 R) := qa_dsb h (by decide)
theorem qa_ds13 {L R : Nat} (h : qa_rg R) : qa_ds L (R, 13) = .inr (0, 16, qa_n0) := qa_dsb h (by decide)
theorem qa_ds14 {L R : Nat} (h : qa_rg R) : qa_ds L (R, 14) = .inl (4, qa_Ki) := qa_dsb h (by decide)
theorem qa_ds15 {L R : Nat} (h : qa_rg R) : qa_ds L (R, 15) = .inl (0, qa_Ki) := qa_dsb h (by decide)
theorem qa_ds16 {L R : Nat} (h : qa_rg R) : qa_ds L (R, 16) = .inr (0, 16, qa_n0) := qa_dsb h (by decide)
theorem qa_ds17 {L R : Nat} (h : qa_rg R) : qa_ds L (R, 17) = .inr (0, 16, qa_n0) := qa_dsb h (by decide)
theorem qa_dx_2_18 {L : Nat} : qa_ds L (2, 18) = .inl (5, qa_K5) := rfl
theorem qa_dx_2_19 {L : Nat} : qa_ds L (2, 19) = .inr (3, 6, fun i => if i < 6 then some (3 + i, 0) else none) := rfl
theorem qa_dx_8_18 {L : Nat} : qa_ds L (8, 18) = .inr (3, 2, fun i => if i < 2 then some (9 + i, 0) else none) := rfl
theorem qa_dx_10_18 {L : Nat} : qa_ds L (10, 18) = .inr (1, 2, qa_n0) := rfl
theorem qa_dx_10_19 {L : Nat} : qa_ds L (10, 19) = .inl (8, qa_K8) := rfl
theorem qa_dx_10_20 {L : Nat} : qa_ds L (10, 20) = .inr (0, 60, qa_n0) := rfl
theorem qa_dx_0_1 {L : Nat} : qa_ds L (0, 1) = .inl (9, qa_K9) := rfl
theorem qa_dx_0_0 {L : Nat} : qa_ds L (0, 0) = .inr (9, L, qa_n0) := rfl
variable {L : Nat} {M : qa_M} {pc : Nat} {lv : qa_L} {st : List qa_V} {σ σ' : qa_T} {res : Option qa_V ⊕ Nat} {ins : Instr} {len : Nat}
theorem qa_bk_gi {i ci sl pl : Nat} {x : qa_P} {r : List qa_V} {K : Nat → qa_V ⊕ Nat} (h1 : qa_lk (qa_is M) pc = some (.getfield i, 3)) (h2 : qa_lk (qa_fl (qa_cl M)) i = some (ci, sl, pl)) (hd : qa_ds L x = .inl (ci, K)) (hK : K sl = .inr 0) (k : qa_Bk (qa_ds L) M (pc + 3) lv (.inr (.int (σ.1 x sl)) :: r) σ res σ') : qa_Bk (qa_ds L) M pc lv (.inl x :: r) σ res σ' := by
  refine qa_bk_gf h1 h2 hd ?_
  unfold qa_fv
  rw [hK]
  exact k
theorem qa_bk_gl {i ci sl pl : Nat} {x : qa_P} {r : List qa_V} {K : Nat → qa_V ⊕ Nat} (h1 : qa_lk (qa_is M) pc = some (.getfield i, 3)) (h2 : qa_lk (qa_fl (qa_cl M)) i = some (ci, sl, pl)) (hd : qa_ds L x = .inl (ci, K)) (hK : K sl = .inr 1) (k : qa_Bk (qa_ds L) M (pc + 3) lv (.inr (.long (σ.2 x sl)) :: r) σ res σ') : qa_Bk (qa_ds L) M pc lv (.inl x :: r) σ res σ' := by
  refine qa_bk_gf h1 h2 hd ?_
  unfold qa_fv
  rw [hK]
  exact k
theorem qa_bk_gr {i ci sl pl : Nat} {x : qa_P} {v : qa_V} {r : List qa_V} {K : Nat → qa_V ⊕ Nat} (h1 : qa_lk (qa_is M) pc = some (.getfield i, 3)) (h2 : qa_lk (qa_fl (qa_cl M)) i = some (ci, sl, pl)) (hd : qa_ds L x = .inl (ci, K)) (hK : K sl = .inl v) (k : qa_Bk (qa_ds L) M (pc + 3) lv (v :: r) σ res σ') : qa_Bk (qa_ds L) M pc lv (.inl x :: r) σ res σ' := by
  refine qa_bk_gf h1 h2 hd ?_
  unfold qa_fv
  rw [hK]
  exact k
/-- conditions: taken, not taken -/
theorem qa_bk_1t {c : Prop} [Decidable c] {a b : Nat} {lv' : qa_L} {st' : List qa_V} (hc : c) (h1 : qa_lk (qa_is M) pc = some (ins, len)) (h2 : qa_do M (qa_hp (qa_ds L) σ) ins len pc lv st = some (if decide c = true then a else b, lv', st')) (k : qa_Bk (qa_ds L) M a lv' st' σ res σ') : qa_Bk (qa_ds L) M pc lv st σ res σ' := by
  rw [if_pos (decide_eq_true hc)] at h2
  exact qa_bk_do h1 h2 k
theorem qa_bk_1f {c : Prop} [Decidable c] {a b : Nat} {lv' : qa_L} {st' : List qa_V} (hc : ¬ c) (h1 : qa_lk (qa_is M) pc = some (ins, len)) (h2 : qa_do M (qa_hp (qa_ds L) σ) ins len pc lv st = some (if decide c = true then a else b, lv', st')) (k : qa_Bk (qa_ds L) M b lv' st' σ res σ') : qa_Bk (qa_ds L) M pc lv st σ res σ' := by
  rw [if_neg (fun t => hc (of_decide_eq_true t))] at h2
  exact qa_bk_do h1 h2 k
theorem qa_bk_dv {x y : Int32} {r : List qa_V} (hy : ¬ y = 0) (h1 : qa_lk (qa_is M) pc = some (.idiv, 1)) (k : qa_Bk (qa_ds L) M (pc + 1) lv (.inr (.int (x / y)) :: r) σ res σ') : qa_Bk (qa_ds L) M pc lv (.inr (.int y) :: .inr (.int x) :: r) σ res σ' := by
  refine qa_bk_do h1 ?_ k
  show qa_S 1 1 pc lv ((if y = 0 then none else some (Value.int (x / y))).map (fun v => (.inr v :: r : List qa_V))) = _
  rw [if_neg hy]
  rfl
theorem qa_bk_rm {x y : Int32} {r : List qa_V} (hy : ¬ y = 0) (h1 : qa_lk (qa_is M) pc = some (.irem, 1)) (k : qa_Bk (qa_ds L) M (pc + 1) lv (.inr (.int (x - x / y * y)) :: r) σ res σ') : qa_Bk (qa_ds L) M pc lv (.inr (.int y) :: .inr (.int x) :: r) σ res σ' := by
  refine qa_bk_do h1 ?_ k
  show qa_S 1 1 pc lv ((if y = 0 then none else some (Value.int (x - x / y * y))).map (fun v => (.inr v :: r : List qa_V))) = _
  rw [if_neg hy]
  rfl
/-- a double's result that is a number -/
abbrev qa_nn (x : UInt64) : Prop := x &&& 0x7fffffffffffffff ≤ 0x7ff0000000000000
theorem qa_bk_dd {x y : UInt64} {r : List qa_V} (hy : qa_nn (FP.ddiv x y)) (h1 : qa_lk (qa_is M) pc = some (.ddiv, 1)) (k : qa_Bk (qa_ds L) M (pc + 1) lv (.inr (.double (FP.ddiv x y)) :: r) σ res σ') : qa_Bk (qa_ds L) M pc lv (.inr (.double y) :: .inr (.double x) :: r) σ res σ' := by
  refine qa_bk_do h1 ?_ k
  show qa_S 1 1 pc lv ((if FP.ddiv x y &&& 0x7fffffffffffffff ≤ 0x7ff0000000000000 then some (Value.double (FP.ddiv x y)) else none).map (fun v => (.inr v :: r : List qa_V))) = _
  have hy2 : FP.ddiv x y &&& 0x7fffffffffffffff ≤ 0x7ff0000000000000 := hy
  rw [if_pos hy2]
  rfl
theorem qa_bk_dm {x y : UInt64} {r : List qa_V} (hy : qa_nn (FP.dmul x y)) (h1 : qa_lk (qa_is M) pc = some (.dmul, 1)) (k : qa_Bk (qa_ds L) M (pc + 1) lv (.inr (.double (FP.dmul x y)) :: r) σ res σ') : qa_Bk (qa_ds L) M pc lv (.inr (.double y) :: .inr (.double x) :: r) σ res σ' := by
  refine qa_bk_do h1 ?_ k
  show qa_S 1 1 pc lv ((if FP.dmul x y &&& 0x7fffffffffffffff ≤ 0x7ff0000000000000 then some (Value.double (FP.dmul x y)) else none).map (fun v => (.inr v :: r : List qa_V))) = _
  have hy2 : FP.dmul x y &&& 0x7fffffffffffffff ≤ 0x7ff0000000000000 := hy
  rw [if_pos hy2]
  rfl
theorem qa_bk_du {x y : UInt64} {r : List qa_V} (hy : qa_nn (FP.dsub x y)) (h1 : qa_lk (qa_is M) pc = some (.dsub, 1)) (k : qa_Bk (qa_ds L) M (pc + 1) lv (.inr (.double (FP.dsub x y)) :: r) σ res σ') : qa_Bk (qa_ds L) M pc lv (.inr (.double y) :: .inr (.double x) :: r) σ res σ' := by
  refine qa_bk_do h1 ?_ k
  show qa_S 1 1 pc lv ((if FP.dsub x y &&& 0x7fffffffffffffff ≤ 0x7ff0000000000000 then some (Value.double (FP.dsub x y)) else none).map (fun v => (.inr v :: r : List qa_V))) = _
  have hy2 : FP.dsub x y &&& 0x7fffffffffffffff ≤ 0x7ff0000000000000 := hy
  rw [if_pos hy2]
  rfl
theorem qa_bk_cv {i pl : Nat} {M1 : qa_M} {nest : Bool} {x : qa_P} {as rest : List qa_V} {v : Option qa_V} {σ1 : qa_T} {K : Nat → qa_V ⊕ Nat} (hb : qa_Bk (qa_ds L) M1 0 (qa_ag 0 (.inl x :: as)) [] σ (.inl v) σ1) (h1 : qa_lk (qa_is M) pc = some (.invokevirtual i, 3)) (h2 : qa_lk (qa_ca (qa_cl M)) i = some (M1, nest, pl)) (hst : st = (.inl x :: as : List qa_V).reverse ++ rest) (hc : qa_chk M M1 2 nest = true) (hna : (.inl x :: as : List qa_V).length = qa_na M1) (hr : Nat.ble (rest.map qa_cat).sum 8 = true) (ha : Nat.ble ((.inl x :: as : List qa_V).map qa_cat).sum (qa_ml M1) = true) (hd : qa_ds L x = .inl (qa_cl M1, K))
    (k : qa_Bk (qa_ds L) M (pc + 3) lv (v.toList ++ rest) σ1 res σ') : qa_Bk (qa_ds L) M pc lv st σ res σ' :=
  qa_bk_in h1 rfl rfl rfl rfl rfl (qa_inv_of (Or.inl ⟨rfl, rfl⟩) h2 hc hst hna (Nat.le_of_ble_eq_true hr) (Nat.le_of_ble_eq_true ha) (Or.inr ⟨x, as, qa_fv K (σ.1 x) (σ.2 x), rfl, by unfold qa_hp; rw [hd]; rfl⟩)) hb k
theorem qa_bk_cs {i pl : Nat} {M1 : qa_M} {nest : Bool} {as rest : List qa_V} {v : Option qa_V} {σ1 : qa_T} (hb : qa_Bk (qa_ds L) M1 0 (qa_ag 0 as) [] σ (.inl v) σ1) (h1 : qa_lk (qa_is M) pc = some (.invokestatic i, 3)) (h2 : qa_lk (qa_ca (qa_cl M)) i = some (M1, nest, pl)) (hst : st = as.reverse ++ rest) (hc : qa_chk M M1 1 nest = true) (hna : as.length = qa_na M1) (hr : Nat.ble (rest.map qa_cat).sum 8 = true) (ha : Nat.ble (as.map qa_cat).sum (qa_ml M1) = true)
    (k : qa_Bk (qa_ds L) M (pc + 3) lv (v.toList ++ rest) σ1 res σ') : qa_Bk (qa_ds L) M pc lv st σ res σ' :=
  qa_bk_in h1 rfl rfl rfl rfl rfl (qa_inv_of (Or.inr (Or.inr ⟨rfl, rfl⟩)) h2 hc hst hna (Nat.le_of_ble_eq_true hr) (Nat.le_of_ble_eq_true ha) (Or.inl rfl)) hb k
theorem qa_bk_cx {i pl : Nat} {M1 : qa_M} {as rest : List qa_V} {E : Nat} {σ1 : qa_T} (hb : qa_Bk (qa_ds L) M1 0 (qa_ag 0 as) [] σ (.inr E) σ1) (h1 : qa_lk (qa_is M) pc = some (.invokestatic i, 3)) (h2 : qa_lk (qa_ca (qa_cl M)) i = some (M1, false, pl)) (hst : st = as.reverse ++ rest) (hc : qa_chk M M1 1 false = true) (hna : as.length = qa_na M1) (hr : Nat.ble (rest.map qa_cat).sum 8 = true) (ha : Nat.ble (as.map qa_cat).sum (qa_ml M1) = true) (hh : (qa_hh M).isEmpty = true) : qa_Bk (qa_ds L) M pc lv st σ (.inr E) σ1 :=
  qa_bk_ix h1 rfl rfl rfl rfl rfl (qa_inv_of (Or.inr (Or.inr ⟨rfl, rfl⟩)) h2 hc hst hna (Nat.le_of_ble_eq_true hr) (Nat.le_of_ble_eq_true ha) (Or.inl rfl)) (fun t => by
    rcases t with t | t
    · cases t
    · have h9 : qa_sk M1 = 1 := by
        unfold qa_chk at hc
        simp only [Bool.and_eq_true] at hc
        exact of_decide_eq_true hc.1.1.1
      omega) hh hb
/-- the locals, put in another order or fewer -/
def qa_nd : qa_L → Bool
  | [] => true
  | (i, _) :: l => !(l.any (fun q => q.1 == i)) && qa_nd l
def qa_sb : qa_L → qa_L → Prop
  | [], _ => True
  | (i, v) :: l, lv => qa_lk lv i = some v ∧ qa_sb l lv
def qa_le (l m : qa_L) : Prop := ∀ (i : Nat) (v : qa_V), qa_lk l i = some v → qa_lk m i = some v
theorem qa_sb_le : ∀ (l m : qa_L), qa_sb l m → qa_le l m
  | [], _, _, i, v, h => by cases h
  | (j, w) :: l, m, hs, i, v, h => by
    unfold qa_lk at h
    split at h
    · next e => cases h; rw [← e]; exact hs.1
    · exact qa_sb_le l m hs.2 i v h
theorem qa_lk_no : ∀ (l : qa_L) (i : Nat), (l.any (fun q => q.1 == i)) = false → qa_lk l i = none
  | [], _, _ => rfl
  | (j, w) :: l, i, h => by
    rw [List.any_cons, Bool.or_eq_false_iff] at h
    unfold qa_lk
    rw [if_neg (fun t => by have := h.1; dsimp only at this; rw [t, beq_self_eq_true] at this; cases this)]
    exact qa_lk_no l i h.2
theorem qa_lk_fl (P : Nat × qa_V → Bool) : ∀ (l : qa_L), qa_nd l = true → ∀ i : Nat, qa_lk (l.filter P) i = (match qa_lk l i with
    | some v => if P (i, v) = true then some v else none
    | none => none)
  | [], _, _ => rfl
  | (j, w) :: l, h, i => by
    unfold qa_nd at h
    simp only [Bool.and_eq_true, Bool.not_eq_true'] at h
    have ih := qa_lk_fl P l h.2 i
    by_cases e : j = i
    · subst e
      have h0 := qa_lk_no l j h.1
      rw [h0] at ih
      rw [List.filter_cons]
      by_cases hp : P (j, w) = true
      · rw [if_pos hp]
        show (if j = j then some w else qa_lk (l.filter P) j) = (match (if j = j then some w else qa_lk l j) with
          | some v => if P (j, v) = true then some v else none
          | none => none)
        rw [if_pos rfl, if_pos rfl]
        dsimp only
        rw [if_pos hp]
      · rw [if_neg hp, ih]
        show _ = (match (if j = j then some w else qa_lk l j) with
          | some v => if P (j, v) = true then some v else none
          | none => none)
        rw [if_pos rfl]
        dsimp only
        rw [if_neg hp]
    · have e2 : qa_lk ((j, w) :: l) i = qa_lk l i := if_neg e
      rw [e2, ← ih, List.filter_cons]
      by_cases hp : P (j, w) = true
      · rw [if_pos hp]; exact if_neg e
      · rw [if_neg hp]
theorem qa_nd_fl (P : Nat × qa_V → Bool) : ∀ (l : qa_L), qa_nd l = true → qa_nd (l.filter P) = true
  | [], _ => rfl
  | (j, w) :: l, h => by
    unfold qa_nd at h
    simp only [Bool.and_eq_true, Bool.not_eq_true'] at h
    rw [List.filter_cons]
    by_cases hp : P (j, w) = true
    · rw [if_pos hp]
      unfold qa_nd
      rw [qa_nd_fl P l h.2, Bool.and_true, Bool.not_eq_true']
      rw [List.any_eq_false]
      intro q hq
      exact List.any_eq_false.mp h.1 q (List.mem_filter.mp hq).1
    · rw [if_neg hp]; exact qa_nd_fl P l h.2
/-- a store keeps the order of two lists of locals -/
theorem qa_le_st {l m : qa_L} {i : Nat} {v : qa_V} (P : Nat × qa_V → Bool) (hl : qa_nd l = true) (hm : qa_nd m = true) (h : qa_le l m) : qa_le ((i, v) :: l.filter P) ((i, v) :: m.filter P) := by
  intro j w hj
  unfold qa_lk at hj ⊢
  split at hj
  · next e => rw [if_pos e]; exact hj
  · next e =>
    rw [if_neg e]
    rw [qa_lk_fl P l hl] at hj
    rw [qa_lk_fl P m hm]
    split at hj
    · next u hu =>
      rw [h j u hu]
      exact hj
    · cases hj
theorem qa_nd_st {l : qa_L} {i : Nat} {v : qa_V} (P : Nat × qa_V → Bool) (hP : ∀ w, P (i, w) = false) (hl : qa_nd l = true) : qa_nd ((i, v) :: l.filter P) = true := by
  unfold qa_nd
  rw [qa_nd_fl P l hl, Bool.and_true, Bool.not_eq_true', List.any_eq_false]
  intro q hq t
  have h1 := (List.mem_filter.mp hq).2
  have h2 : q.1 = i := by simpa using t
  rw [show q = (i, q.2) from by rw [← h2], hP] at h1
  cases h1
end QSH
