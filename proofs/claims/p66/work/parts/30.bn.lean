/-! runs in which exceptions are caught: of the law and what it calls -/
section QBN
/-- from here on nothing stands -/
def qa_jn (nx : qa_P) : Prop := nx.1 = 10 ∧ 21 ≤ nx.2
theorem qa_jn_ds {L : Nat} {nx : qa_P} (h : qa_jn nx) : qa_ds L nx = qa_jk := by
  obtain ⟨a, b⟩ := nx
  obtain ⟨h1, h2⟩ := h
  dsimp only at h1 h2
  subst h1
  unfold qa_ds
  dsimp only
  rw [if_neg (by decide), if_neg (by omega), if_neg (by decide), if_neg (by decide), if_pos rfl]
  match b, h2 with
  | b + 21, _ => rfl
theorem qa_jn_hp {L : Nat} {nx : qa_P} {σ : qa_T} (h : qa_jn nx) : qa_up (qa_hp (qa_ds L) σ) nx (.inl (99, fun _ => .inr .null)) = qa_hp (qa_ds L) σ := by
  funext q
  unfold qa_up
  by_cases e : q = nx
  · rw [if_pos e, e]
    unfold qa_hp
    rw [qa_jn_ds h]
    rfl
  · rw [if_neg e]
theorem qa_jn_add {nx : qa_P} (h : qa_jn nx) (c : Nat) : qa_jn (nx.1, nx.2 + c) := ⟨h.1, Nat.le_trans h.2 (Nat.le_add_right _ _)⟩
/-- the run ends so; at most N exceptions are caught -/
def qa_Bn (L N : Nat) (M : qa_M) (pc : Nat) (lv : qa_L) (st : List qa_V) (σ : qa_T) (v : Option qa_V) (σ' : qa_T) : Prop := ∃ n c, c ≤ N ∧ ∀ nx : qa_P, qa_jn nx → qa_ex n M pc lv st (nx, qa_hp (qa_ds L) σ) = some (.inl v, ((nx.1, nx.2 + c), qa_hp (qa_ds L) σ'), c, 6 * c)
variable {L N : Nat} {M : qa_M} {pc : Nat} {lv : qa_L} {st : List qa_V} {σ σ' : qa_T} {v : Option qa_V} {ins : Instr} {len : Nat}
theorem qa_bn_mono {N' : Nat} (h : N ≤ N') (k : qa_Bn L N M pc lv st σ v σ') : qa_Bn L N' M pc lv st σ v σ' := by
  obtain ⟨n, c, hc, k⟩ := k
  exact ⟨n, c, Nat.le_trans hc h, k⟩
theorem qa_bn_bk (k : qa_Bk (qa_ds L) M pc lv st σ (.inl v) σ') : qa_Bn L N M pc lv st σ v σ' := by
  obtain ⟨n, k⟩ := k
  exact ⟨n, 0, Nat.zero_le _, fun nx _ => k nx⟩
theorem qa_bn_do {pc' : Nat} {lv' : qa_L} {st' : List qa_V} (h1 : qa_lk (qa_is M) pc = some (ins, len)) (h2 : qa_do M (qa_hp (qa_ds L) σ) ins len pc lv st = some (pc', lv', st')) (k : qa_Bn L N M pc' lv' st' σ v σ') : qa_Bn L N M pc lv st σ v σ' := by
  obtain ⟨n, c, hc, k⟩ := k
  refine ⟨n + 1, c, hc, fun nx hj => ?_⟩
  rw [qa_ex, h1]
  dsimp only
  rw [h2]
  exact k nx hj
theorem qa_bn_1t {c : Prop} [Decidable c] {a b : Nat} {lv' : qa_L} {st' : List qa_V} (hc : c) (h1 : qa_lk (qa_is M) pc = some (ins, len)) (h2 : qa_do M (qa_hp (qa_ds L) σ) ins len pc lv st = some (if decide c = true then a else b, lv', st')) (k : qa_Bn L N M a lv' st' σ v σ') : qa_Bn L N M pc lv st σ v σ' := by
  rw [if_pos (decide_eq_true hc)] at h2
  exact qa_bn_do h1 h2 k
theorem qa_bn_1f {c : Prop} [Decidable c] {a b : Nat} {lv' : qa_L} {st' : List qa_V} (hc : ¬ c) (h1 : qa_lk (qa_is M) pc = some (ins, len)) (h2 : qa_do M (qa_hp (qa_ds L) σ) ins len pc lv st = some (if decide c = true then a else b, lv', st')) (k : qa_Bn L N M b lv' st' σ v σ') : qa_Bn L N M pc lv st σ v σ' := by
  rw [if_neg (fun t => hc (of_decide_eq_true t))] at h2
  exact qa_bn_do h1 h2 k
theorem qa_bn_re (h1 : qa_lk (qa_is M) pc = some (ins, len)) (h0 : qa_do M (qa_hp (qa_ds L) σ) ins len pc lv st = none) (h2 : qa_re (qa_rt M) ins len st = some v) : qa_Bn L N M pc lv st σ v σ := qa_bn_bk (qa_bk_re h1 h0 h2)
theorem qa_bn_ri {x : Int32} (h1 : qa_lk (qa_is M) pc = some (.ireturn, 1)) (hr : qa_rt M = some .int) : qa_Bn L N M pc lv [.inr (.int x)] σ (some (.inr (.int x))) σ := qa_bn_bk (qa_bk_ri h1 hr)
theorem qa_bn_rb {x : Int32} {b : Bool} (hx : x = qa_bi b) (h1 : qa_lk (qa_is M) pc = some (.ireturn, 1)) (hr : qa_rt M = some .boolean) : qa_Bn L N M pc lv [.inr (.int x)] σ (some (.inr (.int (qa_bi b)))) σ := qa_bn_bk (qa_bk_rb hx h1 hr)
theorem qa_bn_lw {lw : qa_L} (k : qa_Bn L N M pc lw st σ v σ') (h1 : qa_nd lw = true) (h2 : qa_nd lv = true) (hs : qa_sb lw lv) : qa_Bn L N M pc lv st σ v σ' := by
  obtain ⟨n, c, hc, k⟩ := k
  exact ⟨n, c, hc, fun nx hj => qa_ex_le n pc lw lv st _ _ (qa_sb_le lw lv hs) h1 h2 (k nx hj)⟩
theorem qa_bn_ia {n τ : Nat} {f : Nat → Option qa_P} {i : Int32} {x : qa_P} {r : List qa_V} (h1 : qa_lk (qa_is M) pc = some (.iaload, 1)) (hd : qa_ds L x = .inr (τ, n, f)) (hτ : τ = 0 ∨ τ = 9) (hi : qa_in i n = true) (k : qa_Bn L N M (pc + 1) lv (.inr (.int (σ.1 x i.toNatClampNeg)) :: r) σ v σ') : qa_Bn L N M pc lv (.inr (.int i) :: .inl x :: r) σ v σ' := by
  refine qa_bn_do h1 ?_ k
  show qa_S 1 1 pc lv (qa_ia (qa_hp (qa_ds L) σ) (.inr (.int i) :: .inl x :: r)) = _
  have h3 : qa_hp (qa_ds L) σ x = .inr (τ, n, .inl (σ.1 x)) := by
    unfold qa_hp
    rw [hd]
    rcases hτ with rfl | rfl <;> rfl
  unfold qa_ia
  dsimp only
  rw [h3]
  dsimp only
  rw [if_pos ⟨hτ, hi⟩]
  rfl
theorem qa_bn_al {τ n : Nat} {f : Nat → Option qa_P} {x : qa_P} {r : List qa_V} (h1 : qa_lk (qa_is M) pc = some (.arraylength, 1)) (hd : qa_ds L x = .inr (τ, n, f)) (hτ : τ < 4 ∨ τ = 9) (k : qa_Bn L N M (pc + 1) lv (.inr (.int (Int32.ofNat n)) :: r) σ v σ') : qa_Bn L N M pc lv (.inl x :: r) σ v σ' := by
  refine qa_bn_do h1 ?_ k
  show qa_S 1 1 pc lv (qa_an_ (qa_hp (qa_ds L) σ) (.inl x :: r)) = _
  have h3 : qa_hp (qa_ds L) σ x = .inr (τ, n, if τ = 2 then .inr (.inl (σ.2 x)) else if τ = 3 then .inr (.inr f) else .inl (σ.1 x)) := by unfold qa_hp; rw [hd]; rfl
  unfold qa_an_
  dsimp only
  rw [h3]
  dsimp only
  rw [if_pos hτ]
  rfl
theorem qa_bn_cv {i pl : Nat} {M1 : qa_M} {nest : Bool} {x : qa_P} {as rest : List qa_V} {u : Option qa_V} {σ1 : qa_T} {K : Nat → qa_V ⊕ Nat} (hb : qa_Bk (qa_ds L) M1 0 (qa_ag 0 (.inl x :: as)) [] σ (.inl u) σ1) (h1 : qa_lk (qa_is M) pc = some (.invokevirtual i, 3)) (h2 : qa_lk (qa_ca (qa_cl M)) i = some (M1, nest, pl)) (hst : st = (.inl x :: as : List qa_V).reverse ++ rest) (hc : qa_chk M M1 2 nest = true) (hna : (.inl x :: as : List qa_V).length = qa_na M1) (hr : Nat.ble (rest.map qa_cat).sum 8 = true) (ha : Nat.ble ((.inl x :: as : List qa_V).map qa_cat).sum (qa_ml M1) = true) (hd : qa_ds L x = .inl (qa_cl M1, K))
    (k : qa_Bn L N M (pc + 3) lv (u.toList ++ rest) σ1 v σ') : qa_Bn L N M pc lv st σ v σ' := by
  obtain ⟨n1, hn1⟩ := hb
  obtain ⟨n2, c, hcN, hn2⟩ := k
  refine ⟨max n1 n2 + 1, c, hcN, fun nx hj => ?_⟩
  rw [qa_ex, h1]
  dsimp only
  rw [show qa_do M (qa_hp (qa_ds L) σ) (.invokevirtual i) 3 pc lv st = none from rfl]
  dsimp only
  rw [show qa_re (qa_rt M) (.invokevirtual i) 3 st = none from rfl]
  dsimp only
  rw [show qa_wr M (.invokevirtual i) 3 pc st (qa_hp (qa_ds L) σ) = none from rfl]
  dsimp only
  rw [show qa_mkc M (.invokevirtual i) 3 pc st = none from rfl]
  dsimp only
  rw [show qa_th M (.invokevirtual i) 3 pc st = none from rfl]
  dsimp only
  rw [qa_inv_of (sk := 2) (Or.inl ⟨rfl, rfl⟩) h2 hc hst hna (Nat.le_of_ble_eq_true hr) (Nat.le_of_ble_eq_true ha) (Or.inr ⟨x, as, qa_fv K (σ.1 x) (σ.2 x), rfl, by unfold qa_hp; rw [hd]; rfl⟩)]
  dsimp only
  rw [qa_ex_mono (Nat.le_max_left n1 n2) (hn1 nx)]
  dsimp only
  rw [qa_ex_mono (Nat.le_max_right n1 n2) (hn2 nx hj)]
  show some (_, _, 0 + c, 0 + 6 * c) = _
  rw [Nat.zero_add, Nat.zero_add]
/-- a static call that catches for itself -/
theorem qa_bn_cl {N1 N2 i pl : Nat} {M1 : qa_M} {as rest : List qa_V} {u : Option qa_V} {σ1 : qa_T} (hNN : N1 + N2 ≤ N) (hb : qa_Bn L N1 M1 0 (qa_ag 0 as) [] σ u σ1) (h1 : qa_lk (qa_is M) pc = some (.invokestatic i, 3)) (h2 : qa_lk (qa_ca (qa_cl M)) i = some (M1, false, pl)) (hst : st = as.reverse ++ rest) (hc : qa_chk M M1 1 false = true) (hna : as.length = qa_na M1) (hr : Nat.ble (rest.map qa_cat).sum 8 = true) (ha : Nat.ble (as.map qa_cat).sum (qa_ml M1) = true)
    (k : qa_Bn L N2 M (pc + 3) lv (u.toList ++ rest) σ1 v σ') : qa_Bn L N M pc lv st σ v σ' := by
  obtain ⟨n1, c1, hc1, hn1⟩ := hb
  obtain ⟨n2, c, hcN, hn2⟩ := k
  refine ⟨max n1 n2 + 1, c1 + c, by omega, fun nx hj => ?_⟩
  rw [qa_ex, h1]
  dsimp only
  rw [show qa_do M (qa_hp (qa_ds L) σ) (.invokestatic i) 3 pc lv st = none from rfl]
  dsimp only
  rw [show qa_re (qa_rt M) (.invokestatic i) 3 st = none from rfl]
  dsimp only
  rw [show qa_wr M (.invokestatic i) 3 pc st (qa_hp (qa_ds L) σ) = none from rfl]
  dsimp only
  rw [show qa_mkc M (.invokestatic i) 3 pc st = none from rfl]
  dsimp only
  rw [show qa_th M (.invokestatic i) 3 pc st = none from rfl]
  dsimp only
  rw [qa_inv_of (sk := 1) (Or.inr (Or.inr ⟨rfl, rfl⟩)) h2 hc hst hna (Nat.le_of_ble_eq_true hr) (Nat.le_of_ble_eq_true ha) (Or.inl rfl)]
  dsimp only
  rw [qa_ex_mono (Nat.le_max_left n1 n2) (hn1 nx hj)]
  dsimp only
  rw [qa_ex_mono (Nat.le_max_right n1 n2) (hn2 _ (qa_jn_add hj c1))]
  show some (_, ((nx.1, nx.2 + c1 + c), _), c1 + c, 6 * c1 + 6 * c) = _
  rw [Nat.add_assoc, Nat.mul_add]
/-- a call whose exception is caught here -/
theorem qa_bn_ct {i pl : Nat} {M1 : qa_M} {x : qa_P} {as rest : List qa_V} {E t : Nat} {σ1 : qa_T} {K : Nat → qa_V ⊕ Nat} (hb : qa_Bk (qa_ds L) M1 0 (qa_ag 0 (.inl x :: as)) [] σ (.inr E) σ1) (h1 : qa_lk (qa_is M) pc = some (.invokevirtual i, 3)) (h2 : qa_lk (qa_ca (qa_cl M)) i = some (M1, false, pl)) (hst : st = (.inl x :: as : List qa_V).reverse ++ rest) (hc : qa_chk M M1 2 false = true) (hna : (.inl x :: as : List qa_V).length = qa_na M1) (hr : Nat.ble (rest.map qa_cat).sum 8 = true) (ha : Nat.ble ((.inl x :: as : List qa_V).map qa_cat).sum (qa_ml M1) = true) (hd : qa_ds L x = .inl (qa_cl M1, K)) (hhE : (qa_hh M).isEmpty = false) (hh : qa_hd (qa_hh M) pc E = some t) (h0 : qa_sk M1 = 2)
    (k : ∀ (nx : qa_P) (h : qa_H), qa_ex 3 M t lv [.inl nx] h = some (.inl v, h, 0, 0)) : qa_Bn L 1 M pc lv st σ v σ1 := by
  obtain ⟨n1, hn1⟩ := hb
  refine ⟨max n1 3 + 1, 1, Nat.le_refl _, fun nx hj => ?_⟩
  rw [qa_ex, h1]
  dsimp only
  rw [show qa_do M (qa_hp (qa_ds L) σ) (.invokevirtual i) 3 pc lv st = none from rfl]
  dsimp only
  rw [show qa_re (qa_rt M) (.invokevirtual i) 3 st = none from rfl]
  dsimp only
  rw [show qa_wr M (.invokevirtual i) 3 pc st (qa_hp (qa_ds L) σ) = none from rfl]
  dsimp only
  rw [show qa_mkc M (.invokevirtual i) 3 pc st = none from rfl]
  dsimp only
  rw [show qa_th M (.invokevirtual i) 3 pc st = none from rfl]
  dsimp only
  rw [qa_inv_of (sk := 2) (Or.inl ⟨rfl, rfl⟩) h2 hc hst hna (Nat.le_of_ble_eq_true hr) (Nat.le_of_ble_eq_true ha) (Or.inr ⟨x, as, qa_fv K (σ.1 x) (σ.2 x), rfl, by unfold qa_hp; rw [hd]; rfl⟩)]
  dsimp only
  rw [qa_ex_mono (Nat.le_max_left n1 3) (hn1 nx)]
  dsimp only
  rw [if_neg (by rw [h0]; decide), if_neg (by rw [hhE]; decide), hh]
  dsimp only
  rw [qa_jn_hp hj, qa_ex_mono (Nat.le_max_right n1 3) (k nx _)]
  rfl
theorem qa_bn_tb {dflt lo hi k off : Int} {offs : Array Int} {x : Int32} {r : List qa_V} {pc' : Nat} (h1 : qa_lk (qa_is M) pc = some (.tableswitch dflt lo hi offs, len)) (hx : x.toInt = k) (h2 : ¬ (k < lo ∨ hi < k)) (ho : offs[(k - lo).toNat]? = some off) (hn : 0 ≤ (pc : Int) + off) (hp : qa_to pc off = pc') (k : qa_Bn L N M pc' lv r σ v σ') : qa_Bn L N M pc lv (.inr (.int x) :: r) σ v σ' := by
  subst hp
  subst hx
  refine qa_bn_do h1 ?_ k
  show qa_ts pc dflt lo hi offs lv (.inr (.int x) :: r) = _
  unfold qa_ts
  dsimp only
  rw [if_neg h2, ho]
  dsimp only
  rw [if_pos hn]
theorem qa_bn_td {dflt lo hi : Int} {offs : Array Int} {x : Int32} {r : List qa_V} {pc' : Nat} (h1 : qa_lk (qa_is M) pc = some (.tableswitch dflt lo hi offs, len)) (hx : x.toInt < lo ∨ hi < x.toInt) (hn : 0 ≤ (pc : Int) + dflt) (hp : qa_to pc dflt = pc') (k : qa_Bn L N M pc' lv r σ v σ') : qa_Bn L N M pc lv (.inr (.int x) :: r) σ v σ' := by
  subst hp
  refine qa_bn_do h1 ?_ k
  show qa_ts pc dflt lo hi offs lv (.inr (.int x) :: r) = _
  unfold qa_ts
  dsimp only
  rw [if_pos hx, if_pos hn]
theorem qa_out {x : Int32} (n : Nat) (h : ∀ k : Nat, k < n + 1 → ¬ x.toInt = (k : Int)) : x.toInt < 0 ∨ (n : Int) < x.toInt := by
  by_cases h1 : x.toInt < 0
  · exact Or.inl h1
  · refine Or.inr (Int.not_le.mp fun h2 => ?_)
    exact h x.toInt.toNat (by omega) (by omega)
theorem qa_bn_rm {x y : Int32} {r : List qa_V} (hy : ¬ y = 0) (h1 : qa_lk (qa_is M) pc = some (.irem, 1)) (k : qa_Bn L N M (pc + 1) lv (.inr (.int (x - x / y * y)) :: r) σ v σ') : qa_Bn L N M pc lv (.inr (.int y) :: .inr (.int x) :: r) σ v σ' := by
  refine qa_bn_do h1 ?_ k
  show qa_S 1 1 pc lv ((if y = 0 then none else some (Value.int (x - x / y * y))).map (fun v => (.inr v :: r : List qa_V))) = _
  rw [if_neg hy]
  rfl
theorem qa_bn_dm {x y : UInt64} {r : List qa_V} (hy : qa_nn (FP.dmul x y)) (h1 : qa_lk (qa_is M) pc = some (.dmul, 1)) (k : qa_Bn L N M (pc + 1) lv (.inr (.double (FP.dmul x y)) :: r) σ v σ') : qa_Bn L N M pc lv (.inr (.double y) :: .inr (.double x) :: r) σ v σ' := by
  refine qa_bn_do h1 ?_ k
  show qa_S 1 1 pc lv ((if FP.dmul x y &&& 0x7fffffffffffffff ≤ 0x7ff0000000000000 then some (Value.double (FP.dmul x y)) else none).map (fun v => (.inr v :: r : List qa_V))) = _
  have hy2 : FP.dmul x y &&& 0x7fffffffffffffff ≤ 0x7ff0000000000000 := hy
  rw [if_pos hy2]
  rfl
/-- how many rounds a loop of the law may make -/
def qa_gu : Nat := 60
end QBN
