/-! help for the functions of the methods -/
section QHE
def qa_bi (b : Bool) : Int32 := match b with
  | true => 1
  | false => 0
theorem qa_bi01 (b : Bool) : qa_bi b = 0 ∨ qa_bi b = 1 := by cases b <;> decide
theorem qa_fitz (b : Bool) : qa_fit .boolean (.inr (.int (qa_bi b))) = true := by cases b <;> rfl
theorem qa_fiti (v : Int32) : qa_fit .int (.inr (.int v)) = true := by
  unfold qa_fit
  dsimp only
  rw [show (decide (narrow .int (.int v) = .int v)) = true from decide_eq_true rfl]
  rfl
theorem qa_fitj (v : Int64) : qa_fit .long (.inr (.long v)) = true := by
  unfold qa_fit
  dsimp only
  rw [show (decide (narrow .long (.long v) = .long v)) = true from decide_eq_true rfl]
  rfl
theorem qa_ite {α : Type} {c : Prop} [Decidable c] {a b r : α} (h : (if c then a else b) = r) : (c ∧ a = r) ∨ (¬ c ∧ b = r) := by
  by_cases hc : c
  · rw [if_pos hc] at h; exact Or.inl ⟨hc, h⟩
  · rw [if_neg hc] at h; exact Or.inr ⟨hc, h⟩
theorem qa_ne0 {x : Int32} (h : ¬ x ≤ 0) : ¬ x = 0 := fun e => h (by rw [e]; decide)
theorem qa_in_g {i : Int32} {n : Nat} (h1 : ¬ i < 0) (h2 : ¬ Int32.ofNat n ≤ i) (hn : n < 2147483648) : qa_in i n = true := by
  unfold qa_in
  refine decide_eq_true (fun t => ?_)
  rcases t with t | t
  · exact h1 t
  · apply h2
    rw [Int32.le_iff_toInt_le, Int32.toInt_ofNat_of_lt hn]
    have h3 : (i.toNatClampNeg : Int) = i.toInt := Int.toNat_of_nonneg (by
      rw [Int32.lt_iff_toInt_lt] at h1
      have h0 : (0 : Int32).toInt = 0 := by decide
      omega)
    omega
theorem qa_in_lt {i : Int32} {n : Nat} (h : qa_in i n = true) : i.toNatClampNeg < n := by
  have h1 := qa_in_ok h
  exact Nat.lt_of_not_le fun t => h1 (Or.inr t)
theorem qa_rg3 {i : Int32} (h : qa_in i 6 = true) : qa_rg (3 + i.toNatClampNeg) := by
  have := qa_in_lt h
  exact ⟨by omega, by omega⟩
theorem qa_rg9 {i : Int32} (h : qa_in i 2 = true) : qa_rg (9 + i.toNatClampNeg) := by
  have := qa_in_lt h
  exact ⟨by omega, by omega⟩
theorem qa_rf3 {i : Int32} (h : qa_in i 6 = true) : (fun i : Nat => if i < 6 then some ((3 + i, 0) : qa_P) else none) i.toNatClampNeg = some (3 + i.toNatClampNeg, 0) := if_pos (qa_in_lt h)
theorem qa_rf9 {i : Int32} (h : qa_in i 2 = true) : (fun i : Nat => if i < 2 then some ((9 + i, 0) : qa_P) else none) i.toNatClampNeg = some (9 + i.toNatClampNeg, 0) := if_pos (qa_in_lt h)
/-- the fuel of a loop -/
def qa_fu : Nat := 3000
def qa_ri (r : Int32 ⊕ Nat) : Option qa_V ⊕ Nat := match r with
  | .inl v => .inl (some (.inr (.int v)))
  | .inr E => .inr E
def qa_rz (r : Bool ⊕ Nat) : Option qa_V ⊕ Nat := match r with
  | .inl v => .inl (some (.inr (.int (qa_bi v))))
  | .inr E => .inr E
def qa_rj (r : Int64 ⊕ Nat) : Option qa_V ⊕ Nat := match r with
  | .inl v => .inl (some (.inr (.long v)))
  | .inr E => .inr E
def qa_rd (r : UInt64 ⊕ Nat) : Option qa_V ⊕ Nat := match r with
  | .inl v => .inl (some (.inr (.double v)))
  | .inr E => .inr E
def qa_ru (r : Unit ⊕ Nat) : Option qa_V ⊕ Nat := match r with
  | .inl _ => .inl none
  | .inr E => .inr E
variable {L : Nat} {M : qa_M} {pc : Nat} {lv : qa_L} {st : List qa_V} {σ σ' : qa_T} {res : Option qa_V ⊕ Nat} {len : Nat}
theorem qa_bk_lw {ds : qa_P → qa_D} {lw : qa_L} (k : qa_Bk ds M pc lw st σ res σ') (h1 : qa_nd lw = true) (h2 : qa_nd lv = true) (hs : qa_sb lw lv) : qa_Bk ds M pc lv st σ res σ' := qa_bk_lv h1 h2 hs k
theorem qa_bk_ri {x : Int32} (h1 : qa_lk (qa_is M) pc = some (.ireturn, 1)) (hr : qa_rt M = some .int) : qa_Bk (qa_ds L) M pc lv [.inr (.int x)] σ (.inl (some (.inr (.int x)))) σ := by
  refine qa_bk_re h1 rfl ?_
  rw [hr]
  unfold qa_re
  dsimp only
  rw [if_pos ⟨rfl, rfl⟩]
theorem qa_bk_rb {x : Int32} {b : Bool} (hx : x = qa_bi b) (h1 : qa_lk (qa_is M) pc = some (.ireturn, 1)) (hr : qa_rt M = some .boolean) : qa_Bk (qa_ds L) M pc lv [.inr (.int x)] σ (.inl (some (.inr (.int (qa_bi b))))) σ := by
  subst hx
  refine qa_bk_re h1 rfl ?_
  rw [hr]
  unfold qa_re
  dsimp only
  rw [if_pos ⟨rfl, by cases b <;> rfl⟩]
theorem qa_bk_ar {n : Nat} {f : Nat → Option qa_P} {i : Int32} {x q : qa_P} {r : List qa_V} (h1 : qa_lk (qa_is M) pc = some (.aaload, 1)) (hd : qa_ds L x = .inr (3, n, f)) (hi : qa_in i n = true) (hf : f i.toNatClampNeg = some q) (k : qa_Bk (qa_ds L) M (pc + 1) lv (.inl q :: r) σ res σ') : qa_Bk (qa_ds L) M pc lv (.inr (.int i) :: .inl x :: r) σ res σ' := by
  refine qa_bk_aa h1 hd hi ?_
  rw [hf]
  exact k
theorem qa_bk_lk {dflt off : Int} {ps : Array (Int × Int)} {x : Int32} {r : List qa_V} {pc' : Nat} (h1 : qa_lk (qa_is M) pc = some (.lookupswitch dflt ps, len)) (hs : (ps.toList.zip (ps.toList.drop 1)).all (fun q => decide (q.1.1 < q.2.1)) = true) (ho : Op.lookupswitch.offset ps.toList dflt x.toInt = off) (hn : 0 ≤ (pc : Int) + off) (hp : qa_to pc off = pc') (k : qa_Bk (qa_ds L) M pc' lv r σ res σ') : qa_Bk (qa_ds L) M pc lv (.inr (.int x) :: r) σ res σ' := by
  subst hp
  subst ho
  refine qa_bk_do h1 ?_ k
  show qa_ls pc dflt ps lv (.inr (.int x) :: r) = _
  unfold qa_ls
  dsimp only
  rw [if_pos ⟨hs, hn⟩]
theorem qa_lk5 {k a b c d e : Int} {oa ob oc od oe df : Int} (h1 : ¬ k = a) (h2 : ¬ k = b) (h3 : ¬ k = c) (h4 : ¬ k = d) (h5 : ¬ k = e) : Op.lookupswitch.offset [(a, oa), (b, ob), (c, oc), (d, od), (e, oe)] df k = df := by
  rw [Op.lookupswitch.offset_cons, if_neg (Ne.symm h1), Op.lookupswitch.offset_cons, if_neg (Ne.symm h2), Op.lookupswitch.offset_cons, if_neg (Ne.symm h3), Op.lookupswitch.offset_cons, if_neg (Ne.symm h4), Op.lookupswitch.offset_cons, if_neg (Ne.symm h5), Op.lookupswitch.offset_nil]
theorem qa_tX9_needArgument_o {x : Int32} (h : ¬ x = 0) : qa_Bk (qa_ds L) qa_mX9_needArgument 0 (qa_ag 0 [.inr (.int x)]) [] σ (.inl none) σ := by
  show qa_Bk (qa_ds L) qa_mX9_needArgument 0 [(0, .inr (.int x))] [] σ _ _
  refine qa_bk_do (pc' := 1) rfl rfl ?_
  refine qa_bk_1t (a := 12) (b := 4) h rfl rfl ?_
  exact qa_bk_re rfl rfl rfl
theorem qa_tX9_needIndex_o {x : Int32} (h : ¬ x = 0) : qa_Bk (qa_ds L) qa_mX9_needIndex 0 (qa_ag 0 [.inr (.int x)]) [] σ (.inl none) σ := by
  show qa_Bk (qa_ds L) qa_mX9_needIndex 0 [(0, .inr (.int x))] [] σ _ _
  refine qa_bk_do (pc' := 1) rfl rfl ?_
  refine qa_bk_1t (a := 12) (b := 4) h rfl rfl ?_
  exact qa_bk_re rfl rfl rfl
theorem qa_tX9_needState_o {x : Int32} (h : ¬ x = 0) : qa_Bk (qa_ds L) qa_mX9_needState 0 (qa_ag 0 [.inr (.int x)]) [] σ (.inl none) σ := by
  show qa_Bk (qa_ds L) qa_mX9_needState 0 [(0, .inr (.int x))] [] σ _ _
  refine qa_bk_do (pc' := 1) rfl rfl ?_
  refine qa_bk_1t (a := 12) (b := 4) h rfl rfl ?_
  exact qa_bk_re rfl rfl rfl
theorem qa_tX9_needArgument_x {x : Int32} (h : x = 0) : qa_Bk (qa_ds L) qa_mX9_needArgument 0 (qa_ag 0 [.inr (.int x)]) [] σ (.inr 342) σ := by
  show qa_Bk (qa_ds L) qa_mX9_needArgument 0 [(0, .inr (.int x))] [] σ _ _
  refine qa_bk_do (pc' := 1) rfl rfl ?_
  refine qa_bk_1f (c := ¬ x = 0) (a := 12) (b := 4) (fun t => t h) rfl rfl ?_
  exact qa_bk_th rfl rfl rfl rfl rfl rfl
theorem qa_tX9_needIndex_x {x : Int32} (h : x = 0) : qa_Bk (qa_ds L) qa_mX9_needIndex 0 (qa_ag 0 [.inr (.int x)]) [] σ (.inr 345) σ := by
  show qa_Bk (qa_ds L) qa_mX9_needIndex 0 [(0, .inr (.int x))] [] σ _ _
  refine qa_bk_do (pc' := 1) rfl rfl ?_
  refine qa_bk_1f (c := ¬ x = 0) (a := 12) (b := 4) (fun t => t h) rfl rfl ?_
  exact qa_bk_th rfl rfl rfl rfl rfl rfl
theorem qa_tX9_needState_x {x : Int32} (h : x = 0) : qa_Bk (qa_ds L) qa_mX9_needState 0 (qa_ag 0 [.inr (.int x)]) [] σ (.inr 348) σ := by
  show qa_Bk (qa_ds L) qa_mX9_needState 0 [(0, .inr (.int x))] [] σ _ _
  refine qa_bk_do (pc' := 1) rfl rfl ?_
  refine qa_bk_1f (c := ¬ x = 0) (a := 12) (b := 4) (fun t => t h) rfl rfl ?_
  exact qa_bk_th rfl rfl rfl rfl rfl rfl
end QHE
