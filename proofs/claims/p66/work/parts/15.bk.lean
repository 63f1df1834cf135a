/-! runs over a heap of a fixed shape: what the cells hold is a function of position and place -/
section QBK
theorem qa_ex_succ : ∀ (n : Nat) (M : qa_M) (pc : Nat) (lv : qa_L) (st : List qa_V) (h : qa_H) (r : qa_Z), qa_ex n M pc lv st h = some r → qa_ex (n + 1) M pc lv st h = some r := by
  intro n
  induction n with
  | zero => intro M pc lv st h r e; cases e
  | succ n ih =>
    intro M pc lv st h r e
    rw [qa_ex] at e
    rw [qa_ex]
    split at e
    · cases e
    · next ins len h1 =>
      try rw [h1]
      try dsimp only
      split at e
      · next F h2 =>
        try rw [h2]
        exact ih _ _ _ _ _ _ e
      · next h2 =>
        try rw [h2]
        try dsimp only
        split at e
        · next v h3 =>
          try rw [h3]
          exact e
        · next h3 =>
          try rw [h3]
          try dsimp only
          split at e
          · next w h4 =>
            try rw [h4]
            exact ih _ _ _ _ _ _ e
          · next h4 =>
            try rw [h4]
            try dsimp only
            split at e
            · next w h5 =>
              try rw [h5]
              try dsimp only
              obtain ⟨r1, e1, e2⟩ := Option.map_eq_some_iff.mp e
              rw [ih _ _ _ _ _ _ e1]
              exact congrArg some e2
            · next h5 =>
              try rw [h5]
              try dsimp only
              split at e
              · next E h6 =>
                try rw [h6]
                exact e
              · next h6 =>
                try rw [h6]
                try dsimp only
                split at e
                · cases e
                · next w h7 =>
                  try rw [h7]
                  try dsimp only
                  split at e
                  · cases e
                  · next v h1 k sl h8 =>
                    rw [ih _ _ _ _ _ _ h8]
                    try dsimp only
                    obtain ⟨r1, e1, e2⟩ := Option.map_eq_some_iff.mp e
                    rw [ih _ _ _ _ _ _ e1]
                    exact congrArg some e2
                  · next E h1 k sl h8 =>
                    rw [ih _ _ _ _ _ _ h8]
                    try dsimp only
                    split at e
                    · cases e
                    · next h9 =>
                      try rw [if_neg h9]
                      split at e
                      · next h10 =>
                        try rw [if_pos h10]
                        exact e
                      · next h10 =>
                        try rw [if_neg h10]
                        split at e
                        · cases e
                        · next t h11 =>
                          try rw [h11]
                          try dsimp only
                          obtain ⟨r1, e1, e2⟩ := Option.map_eq_some_iff.mp e
                          rw [ih _ _ _ _ _ _ e1]
                          exact congrArg some e2
theorem qa_ex_mono {n m : Nat} (hm : n ≤ m) {M : qa_M} {pc : Nat} {lv : qa_L} {st : List qa_V} {h : qa_H} {r : qa_Z} (e : qa_ex n M pc lv st h = some r) : qa_ex m M pc lv st h = some r := by
  induction hm with
  | refl => exact e
  | step _ ih => exact qa_ex_succ _ _ _ _ _ _ _ ih
/-- the shape of a cell: an object (class; what its fields are: a value for good, an int, a long), or an array (kind, length, references for good) -/
abbrev qa_D : Type := (Nat × (Nat → qa_V ⊕ Nat)) ⊕ (Nat × Nat × (Nat → Option qa_P))
/-- what is in the cells: ints and longs -/
abbrev qa_T : Type := (qa_P → Nat → Int32) × (qa_P → Nat → Int64)
def qa_fv (K : Nat → qa_V ⊕ Nat) (g : Nat → Int32) (j : Nat → Int64) (i : Nat) : qa_V := match K i with
  | .inl v => v
  | .inr 0 => .inr (.int (g i))
  | .inr _ => .inr (.long (j i))
def qa_sh (d : qa_D) (g : Nat → Int32) (j : Nat → Int64) : qa_C := match d with
  | .inl (ci, K) => .inl (ci, qa_fv K g j)
  | .inr (τ, n, f) => .inr (τ, n, if τ = 2 then .inr (.inl j) else if τ = 3 then .inr (.inr f) else .inl g)
def qa_hp (ds : qa_P → qa_D) (σ : qa_T) : qa_P → qa_C := fun p => qa_sh (ds p) (σ.1 p) (σ.2 p)
def qa_wi (σ : qa_T) (p : qa_P) (i : Nat) (v : Int32) : qa_T := (fun q => if q = p then upd (σ.1 q) i v else σ.1 q, σ.2)
def qa_wl (σ : qa_T) (p : qa_P) (i : Nat) (v : Int64) : qa_T := (σ.1, fun q => if q = p then vp_updL (σ.2 q) i v else σ.2 q)
theorem qa_hp_wi {ds : qa_P → qa_D} {σ : qa_T} {p : qa_P} {i : Nat} {v : Int32} {c : qa_C} (hc : qa_sh (ds p) (upd (σ.1 p) i v) (σ.2 p) = c) : qa_up (qa_hp ds σ) p c = qa_hp ds (qa_wi σ p i v) := by
  funext q
  unfold qa_up qa_hp qa_wi
  by_cases e : q = p
  · subst e
    rw [if_pos rfl]
    dsimp only
    rw [if_pos rfl]
    exact hc.symm
  · rw [if_neg e]
    dsimp only
    rw [if_neg e]
theorem qa_hp_wl {ds : qa_P → qa_D} {σ : qa_T} {p : qa_P} {i : Nat} {v : Int64} {c : qa_C} (hc : qa_sh (ds p) (σ.1 p) (vp_updL (σ.2 p) i v) = c) : qa_up (qa_hp ds σ) p c = qa_hp ds (qa_wl σ p i v) := by
  funext q
  unfold qa_up qa_hp qa_wl
  by_cases e : q = p
  · subst e
    rw [if_pos rfl]
    dsimp only
    rw [if_pos rfl]
    exact hc.symm
  · rw [if_neg e]
    dsimp only
    rw [if_neg e]
theorem qa_fv_i {K : Nat → qa_V ⊕ Nat} {g : Nat → Int32} {j : Nat → Int64} {sl : Nat} {v : Int32} (hK : K sl = .inr 0) : qa_fv K (upd g sl v) j = fun i => if i = sl then .inr (.int v) else qa_fv K g j i := by
  funext i
  unfold qa_fv
  by_cases e : i = sl
  · subst e
    rw [hK, if_pos rfl]
    show (.inr (.int (if i = i then v else g i)) : qa_V) = _
    rw [if_pos rfl]
  · rw [if_neg e]
    have h1 : upd g sl v i = g i := if_neg e
    rw [h1]
theorem qa_fv_l {K : Nat → qa_V ⊕ Nat} {g : Nat → Int32} {j : Nat → Int64} {sl : Nat} {v : Int64} (hK : K sl = .inr 1) : qa_fv K g (vp_updL j sl v) = fun i => if i = sl then .inr (.long v) else qa_fv K g j i := by
  funext i
  unfold qa_fv
  by_cases e : i = sl
  · subst e
    rw [hK, if_pos rfl]
    show (.inr (.long (if i = i then v else j i)) : qa_V) = _
    rw [if_pos rfl]
  · rw [if_neg e]
    have h1 : vp_updL j sl v i = j i := if_neg e
    rw [h1]
/-- how much a run makes, by its end -/
def qa_cc (res : Option qa_V ⊕ Nat) : Nat := match res with
  | .inl _ => 0
  | .inr _ => 1
/-- from this place on the run ends so -/
def qa_Bk (ds : qa_P → qa_D) (M : qa_M) (pc : Nat) (lv : qa_L) (st : List qa_V) (σ : qa_T) (res : Option qa_V ⊕ Nat) (σ' : qa_T) : Prop := ∃ n, ∀ nx : qa_P, qa_ex n M pc lv st (nx, qa_hp ds σ) = some (res, (nx, qa_hp ds σ'), qa_cc res, 6 * qa_cc res)
variable {ds : qa_P → qa_D} {M : qa_M} {pc : Nat} {lv : qa_L} {st : List qa_V} {σ σ' : qa_T} {res : Option qa_V ⊕ Nat} {ins : Instr} {len : Nat}
theorem qa_bk_do {pc' : Nat} {lv' : qa_L} {st' : List qa_V} (h1 : qa_lk (qa_is M) pc = some (ins, len)) (h2 : qa_do M (qa_hp ds σ) ins len pc lv st = some (pc', lv', st')) (k : qa_Bk ds M pc' lv' st' σ res σ') : qa_Bk ds M pc lv st σ res σ' := by
  obtain ⟨n, hn⟩ := k
  refine ⟨n + 1, fun nx => ?_⟩
  rw [qa_ex, h1]
  dsimp only
  rw [h2]
  exact hn nx
/-- a step whose target hangs on a condition -/
theorem qa_bk_br {c : Prop} [Decidable c] {a b : Nat} {lv' : qa_L} {st' : List qa_V} (h1 : qa_lk (qa_is M) pc = some (ins, len)) (h2 : qa_do M (qa_hp ds σ) ins len pc lv st = some (if c then a else b, lv', st')) (kt : c → qa_Bk ds M a lv' st' σ res σ') (kf : ¬ c → qa_Bk ds M b lv' st' σ res σ') : qa_Bk ds M pc lv st σ res σ' := by
  by_cases hc : c
  · rw [if_pos hc] at h2
    exact qa_bk_do h1 h2 (kt hc)
  · rw [if_neg hc] at h2
    exact qa_bk_do h1 h2 (kf hc)
theorem qa_bk_re {v : Option qa_V} (h1 : qa_lk (qa_is M) pc = some (ins, len)) (h0 : qa_do M (qa_hp ds σ) ins len pc lv st = none) (h2 : qa_re (qa_rt M) ins len st = some v) : qa_Bk ds M pc lv st σ (.inl v) σ := by
  refine ⟨1, fun nx => ?_⟩
  rw [qa_ex, h1]
  dsimp only
  rw [h0]
  dsimp only
  rw [h2]
  rfl
theorem qa_bk_th {E : Nat} (h1 : qa_lk (qa_is M) pc = some (ins, len)) (h0 : qa_do M (qa_hp ds σ) ins len pc lv st = none) (h2 : qa_re (qa_rt M) ins len st = none) (h3 : qa_wr M ins len pc st (qa_hp ds σ) = none) (h4 : qa_mkc M ins len pc st = none) (h5 : qa_th M ins len pc st = some E) : qa_Bk ds M pc lv st σ (.inr E) σ := by
  refine ⟨1, fun nx => ?_⟩
  rw [qa_ex, h1]
  dsimp only
  rw [h0]
  dsimp only
  rw [h2]
  dsimp only
  rw [h3]
  dsimp only
  rw [h4]
  dsimp only
  rw [h5]
  rfl
theorem qa_bk_wr {pc' : Nat} {st' : List qa_V} {p : qa_P} {c : qa_C} {σ1 : qa_T} (h1 : qa_lk (qa_is M) pc = some (ins, len)) (h0 : qa_do M (qa_hp ds σ) ins len pc lv st = none) (h2 : qa_re (qa_rt M) ins len st = none) (h3 : qa_wr M ins len pc st (qa_hp ds σ) = some (pc', st', p, c)) (h4 : qa_up (qa_hp ds σ) p c = qa_hp ds σ1) (k : qa_Bk ds M pc' lv st' σ1 res σ') : qa_Bk ds M pc lv st σ res σ' := by
  obtain ⟨n, hn⟩ := k
  refine ⟨n + 1, fun nx => ?_⟩
  rw [qa_ex, h1]
  dsimp only
  rw [h0]
  dsimp only
  rw [h2]
  dsimp only
  rw [h3]
  dsimp only
  rw [h4]
  exact hn nx
/-- a getfield: an int, a long, a value for good -/
theorem qa_bk_gf {i ci sl pl : Nat} {x : qa_P} {r : List qa_V} {K : Nat → qa_V ⊕ Nat} (h1 : qa_lk (qa_is M) pc = some (.getfield i, 3)) (h2 : qa_lk (qa_fl (qa_cl M)) i = some (ci, sl, pl)) (hd : ds x = .inl (ci, K)) (k : qa_Bk ds M (pc + 3) lv (qa_fv K (σ.1 x) (σ.2 x) sl :: r) σ res σ') : qa_Bk ds M pc lv (.inl x :: r) σ res σ' := by
  refine qa_bk_do h1 ?_ k
  show qa_S 3 3 pc lv (qa_gf (qa_cl M) i (qa_hp ds σ) (.inl x :: r)) = _
  have h3 : qa_hp ds σ x = .inl (ci, qa_fv K (σ.1 x) (σ.2 x)) := by unfold qa_hp; rw [hd]; rfl
  unfold qa_gf
  dsimp only
  rw [h2, h3]
  dsimp only
  rw [if_pos rfl]
  rfl
theorem qa_bk_al {τ n : Nat} {f : Nat → Option qa_P} {x : qa_P} {r : List qa_V} (h1 : qa_lk (qa_is M) pc = some (.arraylength, 1)) (hd : ds x = .inr (τ, n, f)) (hτ : τ < 4 ∨ τ = 9) (k : qa_Bk ds M (pc + 1) lv (.inr (.int (Int32.ofNat n)) :: r) σ res σ') : qa_Bk ds M pc lv (.inl x :: r) σ res σ' := by
  refine qa_bk_do h1 ?_ k
  show qa_S 1 1 pc lv (qa_an_ (qa_hp ds σ) (.inl x :: r)) = _
  have h3 : qa_hp ds σ x = .inr (τ, n, if τ = 2 then .inr (.inl (σ.2 x)) else if τ = 3 then .inr (.inr f) else .inl (σ.1 x)) := by unfold qa_hp; rw [hd]; rfl
  unfold qa_an_
  dsimp only
  rw [h3]
  dsimp only
  rw [if_pos hτ]
  rfl
theorem qa_bk_ia {n τ : Nat} {f : Nat → Option qa_P} {i : Int32} {x : qa_P} {r : List qa_V} (h1 : qa_lk (qa_is M) pc = some (.iaload, 1)) (hd : ds x = .inr (τ, n, f)) (hτ : τ = 0 ∨ τ = 9) (hi : qa_in i n = true) (k : qa_Bk ds M (pc + 1) lv (.inr (.int (σ.1 x i.toNatClampNeg)) :: r) σ res σ') : qa_Bk ds M pc lv (.inr (.int i) :: .inl x :: r) σ res σ' := by
  refine qa_bk_do h1 ?_ k
  show qa_S 1 1 pc lv (qa_ia (qa_hp ds σ) (.inr (.int i) :: .inl x :: r)) = _
  have h3 : qa_hp ds σ x = .inr (τ, n, .inl (σ.1 x)) := by
    unfold qa_hp
    rw [hd]
    rcases hτ with rfl | rfl <;> rfl
  unfold qa_ia
  dsimp only
  rw [h3]
  dsimp only
  rw [if_pos ⟨hτ, hi⟩]
  rfl
theorem qa_bk_ba {n : Nat} {f : Nat → Option qa_P} {i : Int32} {x : qa_P} {r : List qa_V} (h1 : qa_lk (qa_is M) pc = some (.baload, 1)) (hd : ds x = .inr (1, n, f)) (hi : qa_in i n = true) (k : qa_Bk ds M (pc + 1) lv (.inr (.int (σ.1 x i.toNatClampNeg)) :: r) σ res σ') : qa_Bk ds M pc lv (.inr (.int i) :: .inl x :: r) σ res σ' := by
  refine qa_bk_do h1 ?_ k
  show qa_S 1 1 pc lv (qa_ba (qa_hp ds σ) (.inr (.int i) :: .inl x :: r)) = _
  have h3 : qa_hp ds σ x = .inr (1, n, .inl (σ.1 x)) := by unfold qa_hp; rw [hd]; rfl
  unfold qa_ba
  dsimp only
  rw [h3]
  dsimp only
  rw [if_pos ⟨rfl, hi⟩]
  rfl
theorem qa_bk_aa {n : Nat} {f : Nat → Option qa_P} {i : Int32} {x : qa_P} {r : List qa_V} (h1 : qa_lk (qa_is M) pc = some (.aaload, 1)) (hd : ds x = .inr (3, n, f)) (hi : qa_in i n = true) (k : qa_Bk ds M (pc + 1) lv (qa_rv (f i.toNatClampNeg) :: r) σ res σ') : qa_Bk ds M pc lv (.inr (.int i) :: .inl x :: r) σ res σ' := by
  refine qa_bk_do h1 ?_ k
  show qa_S 1 1 pc lv (qa_aa (qa_hp ds σ) (.inr (.int i) :: .inl x :: r)) = _
  have h3 : qa_hp ds σ x = .inr (3, n, .inr (.inr f)) := by unfold qa_hp; rw [hd]; rfl
  unfold qa_aa
  dsimp only
  rw [h3]
  dsimp only
  rw [if_pos ⟨rfl, hi⟩]
  rfl
theorem qa_bk_pf {i ci sl pl : Nat} {x : qa_P} {v : Int32} {r : List qa_V} {K : Nat → qa_V ⊕ Nat} (h1 : qa_lk (qa_is M) pc = some (.putfield i, 3)) (h2 : qa_lk (qa_fl (qa_cl M)) i = some (ci, sl, pl)) (hd : ds x = .inl (ci, K)) (hK : K sl = .inr 0) (hf : qa_fit (qa_ft ci sl) (.inr (.int v)) = true) (hn : qa_fn ci sl = false) (k : qa_Bk ds M (pc + 3) lv r (qa_wi σ x sl v) res σ') : qa_Bk ds M pc lv (.inr (.int v) :: .inl x :: r) σ res σ' := by
  have h3 : qa_hp ds σ x = .inl (ci, qa_fv K (σ.1 x) (σ.2 x)) := by unfold qa_hp; rw [hd]; rfl
  refine qa_bk_wr (p := x) (c := .inl (ci, fun j => if j = sl then .inr (.int v) else qa_fv K (σ.1 x) (σ.2 x) j)) h1 rfl rfl ?_ (qa_hp_wi ?_) k
  · unfold qa_wr
    dsimp only
    rw [h2, h3]
    dsimp only
    rw [if_pos ⟨rfl, rfl, hf, fun t => by rw [hn] at t; cases t⟩]
  · rw [hd]
    show (.inl (ci, qa_fv K (upd (σ.1 x) sl v) (σ.2 x)) : qa_C) = _
    rw [qa_fv_i hK]
theorem qa_bk_pl {i ci sl pl : Nat} {x : qa_P} {v : Int64} {r : List qa_V} {K : Nat → qa_V ⊕ Nat} (h1 : qa_lk (qa_is M) pc = some (.putfield i, 3)) (h2 : qa_lk (qa_fl (qa_cl M)) i = some (ci, sl, pl)) (hd : ds x = .inl (ci, K)) (hK : K sl = .inr 1) (hf : qa_fit (qa_ft ci sl) (.inr (.long v)) = true) (hn : qa_fn ci sl = false) (k : qa_Bk ds M (pc + 3) lv r (qa_wl σ x sl v) res σ') : qa_Bk ds M pc lv (.inr (.long v) :: .inl x :: r) σ res σ' := by
  have h3 : qa_hp ds σ x = .inl (ci, qa_fv K (σ.1 x) (σ.2 x)) := by unfold qa_hp; rw [hd]; rfl
  refine qa_bk_wr (p := x) (c := .inl (ci, fun j => if j = sl then .inr (.long v) else qa_fv K (σ.1 x) (σ.2 x) j)) h1 rfl rfl ?_ (qa_hp_wl ?_) k
  · unfold qa_wr
    dsimp only
    rw [h2, h3]
    dsimp only
    rw [if_pos ⟨rfl, rfl, hf, fun t => by rw [hn] at t; cases t⟩]
  · rw [hd]
    show (.inl (ci, qa_fv K (σ.1 x) (vp_updL (σ.2 x) sl v)) : qa_C) = _
    rw [qa_fv_l hK]
theorem qa_bk_is {n : Nat} {f : Nat → Option qa_P} {i v : Int32} {x : qa_P} {r : List qa_V} (h1 : qa_lk (qa_is M) pc = some (.iastore, 1)) (hd : ds x = .inr (0, n, f)) (hi : qa_in i n = true) (k : qa_Bk ds M (pc + 1) lv r (qa_wi σ x i.toNatClampNeg v) res σ') : qa_Bk ds M pc lv (.inr (.int v) :: .inr (.int i) :: .inl x :: r) σ res σ' := by
  have h3 : qa_hp ds σ x = .inr (0, n, .inl (σ.1 x)) := by unfold qa_hp; rw [hd]; rfl
  refine qa_bk_wr (p := x) (c := .inr (0, n, .inl (upd (σ.1 x) i.toNatClampNeg v))) h1 rfl rfl ?_ (qa_hp_wi ?_) k
  · unfold qa_wr
    dsimp only
    rw [h3]
    dsimp only
    rw [if_pos ⟨rfl, rfl, hi⟩]
  · rw [hd]; rfl
theorem qa_bk_bs {n : Nat} {f : Nat → Option qa_P} {i v : Int32} {x : qa_P} {r : List qa_V} (h1 : qa_lk (qa_is M) pc = some (.bastore, 1)) (hd : ds x = .inr (1, n, f)) (hi : qa_in i n = true) (hv : v = 0 ∨ v = 1) (k : qa_Bk ds M (pc + 1) lv r (qa_wi σ x i.toNatClampNeg v) res σ') : qa_Bk ds M pc lv (.inr (.int v) :: .inr (.int i) :: .inl x :: r) σ res σ' := by
  have h3 : qa_hp ds σ x = .inr (1, n, .inl (σ.1 x)) := by unfold qa_hp; rw [hd]; rfl
  refine qa_bk_wr (p := x) (c := .inr (1, n, .inl (upd (σ.1 x) i.toNatClampNeg v))) h1 rfl rfl ?_ (qa_hp_wi ?_) k
  · unfold qa_wr
    dsimp only
    rw [h3]
    dsimp only
    rw [if_pos ⟨rfl, rfl, hi, hv⟩]
  · rw [hd]; rfl
/-- what a call checks that hangs on the two methods alone -/
def qa_chk (M M1 : qa_M) (sk : Nat) (nest : Bool) : Bool := decide (qa_sk M1 = sk) && decide (qa_fr M1 + 1 ≤ qa_fr M) && decide (19 + qa_ml M1 + qa_lo M1 ≤ qa_lo M) && (decide ((qa_hh M1).isEmpty = true) || (decide (sk = 1) && decide (nest = false)))
theorem qa_inv_of {h : qa_P → qa_C} {M1 : qa_M} {nest : Bool} {avs rest : List qa_V} {i pl sk : Nat} (hs : (ins = .invokevirtual i ∧ sk = 2) ∨ (ins = .invokespecial i ∧ sk = 0) ∨ (ins = .invokestatic i ∧ sk = 1)) (h1 : qa_lk (qa_ca (qa_cl M)) i = some (M1, nest, pl)) (hc : qa_chk M M1 sk nest = true) (hst : st = avs.reverse ++ rest) (hna : avs.length = qa_na M1) (hr : (rest.map qa_cat).sum ≤ 8) (ha : (avs.map qa_cat).sum ≤ qa_ml M1)
    (hrc : sk = 1 ∨ ∃ x as f, avs = .inl x :: as ∧ h x = .inl (qa_cl M1, f)) : qa_inv M h ins 3 st = some (M1, nest, avs, rest) := by
  unfold qa_chk at hc
  simp only [Bool.and_eq_true, Bool.or_eq_true, decide_eq_true_eq] at hc
  obtain ⟨⟨⟨c1, c2⟩, c3⟩, c4⟩ := hc
  have ht : st.take (qa_na M1) = avs.reverse := by rw [hst, ← hna, ← List.length_reverse, List.take_left]
  have hd : st.drop (qa_na M1) = rest := by rw [hst, ← hna, ← List.length_reverse, List.drop_left]
  have hle : qa_na M1 ≤ st.length := by rw [hst, List.length_append, List.length_reverse, hna]; exact Nat.le_add_right _ _
  have hrc2 : sk = 1 ∨ qa_rc h (qa_cl M1) (st.take (qa_na M1)).getLast? = true := by
    rcases hrc with h9 | ⟨x, as, f, rfl, h9⟩
    · exact Or.inl h9
    · refine Or.inr ?_
      rw [ht, List.getLast?_reverse]
      show (match h x with
        | .inl (cj, _) => decide (cj = qa_cl M1)
        | _ => false) = true
      rw [h9]
      exact decide_eq_true rfl
  have hcond : (3 = 3 ∧ qa_sk M1 = sk ∧ qa_na M1 ≤ st.length ∧ ((st.drop (qa_na M1)).map qa_cat).sum ≤ 8 ∧ ((st.take (qa_na M1)).map qa_cat).sum ≤ qa_ml M1 ∧ qa_fr M1 + 1 ≤ qa_fr M ∧ 19 + qa_ml M1 + qa_lo M1 ≤ qa_lo M ∧ ((qa_hh M1).isEmpty = true ∨ (sk = 1 ∧ nest = false)) ∧ (sk = 1 ∨ qa_rc h (qa_cl M1) (st.take (qa_na M1)).getLast? = true)) :=
    ⟨rfl, c1, hle, by rw [hd]; exact hr, by rw [ht, List.map_reverse, List.sum_reverse]; exact ha, c2, c3, c4, hrc2⟩
  rcases hs with ⟨rfl, rfl⟩ | ⟨rfl, rfl⟩ | ⟨rfl, rfl⟩ <;>
  · unfold qa_inv
    dsimp only
    rw [h1]
    dsimp only
    rw [if_pos hcond, ht, hd, List.reverse_reverse]
/-- a call that returns -/
theorem qa_bk_in {M1 : qa_M} {nest : Bool} {avs rest : List qa_V} {v : Option qa_V} {σ1 : qa_T} (h1 : qa_lk (qa_is M) pc = some (ins, len)) (h0 : qa_do M (qa_hp ds σ) ins len pc lv st = none) (h2 : qa_re (qa_rt M) ins len st = none) (h3 : qa_wr M ins len pc st (qa_hp ds σ) = none) (h4 : qa_mkc M ins len pc st = none) (h5 : qa_th M ins len pc st = none) (h6 : qa_inv M (qa_hp ds σ) ins len st = some (M1, nest, avs, rest))
    (hc : qa_Bk ds M1 0 (qa_ag 0 avs) [] σ (.inl v) σ1) (k : qa_Bk ds M (pc + 3) lv (v.toList ++ rest) σ1 res σ') : qa_Bk ds M pc lv st σ res σ' := by
  obtain ⟨n1, hn1⟩ := hc
  obtain ⟨n2, hn2⟩ := k
  refine ⟨max n1 n2 + 1, fun nx => ?_⟩
  rw [qa_ex, h1]
  dsimp only
  rw [h0]
  dsimp only
  rw [h2]
  dsimp only
  rw [h3]
  dsimp only
  rw [h4]
  dsimp only
  rw [h5]
  dsimp only
  rw [h6]
  dsimp only
  rw [qa_ex_mono (Nat.le_max_left n1 n2) (hn1 nx)]
  dsimp only
  rw [qa_ex_mono (Nat.le_max_right n1 n2) (hn2 nx)]
  show some (res, (nx, qa_hp ds σ'), 0 + qa_cc res, 0 + 6 * qa_cc res) = _
  rw [Nat.zero_add, Nat.zero_add]
/-- a call that throws, where no handler stands -/
theorem qa_bk_ix {M1 : qa_M} {nest : Bool} {avs rest : List qa_V} {E : Nat} {σ1 : qa_T} (h1 : qa_lk (qa_is M) pc = some (ins, len)) (h0 : qa_do M (qa_hp ds σ) ins len pc lv st = none) (h2 : qa_re (qa_rt M) ins len st = none) (h3 : qa_wr M ins len pc st (qa_hp ds σ) = none) (h4 : qa_mkc M ins len pc st = none) (h5 : qa_th M ins len pc st = none) (h6 : qa_inv M (qa_hp ds σ) ins len st = some (M1, nest, avs, rest)) (h7 : ¬ (nest = true ∨ qa_sk M1 = 0)) (h8 : (qa_hh M).isEmpty = true)
    (hc : qa_Bk ds M1 0 (qa_ag 0 avs) [] σ (.inr E) σ1) : qa_Bk ds M pc lv st σ (.inr E) σ1 := by
  obtain ⟨n1, hn1⟩ := hc
  refine ⟨n1 + 1, fun nx => ?_⟩
  rw [qa_ex, h1]
  dsimp only
  rw [h0]
  dsimp only
  rw [h2]
  dsimp only
  rw [h3]
  dsimp only
  rw [h4]
  dsimp only
  rw [h5]
  dsimp only
  rw [h6]
  dsimp only
  rw [hn1 nx]
  dsimp only
  rw [if_neg h7, if_pos h8]
end QBK
