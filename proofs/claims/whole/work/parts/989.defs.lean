/-! development only: definitions of parts 15 and 16 -/
abbrev qa_D : Type := (Nat × (Nat → qa_V ⊕ Nat)) ⊕ (Nat × Nat × (Nat → Option qa_P))
def qa_fv (K : Nat → qa_V ⊕ Nat) (g : Nat → Int32) (j : Nat → Int64) (i : Nat) : qa_V := match K i with
  | .inl v => v
  | .inr 0 => .inr (.int (g i))
  | .inr _ => .inr (.long (j i))
def qa_sh (d : qa_D) (g : Nat → Int32) (j : Nat → Int64) : qa_C := match d with
  | .inl (ci, K) => .inl (ci, qa_fv K g j)
  | .inr (τ, n, f) => .inr (τ, n, if τ = 2 then .inr (.inl j) else if τ = 3 then .inr (.inr f) else .inl g)
def qa_hp (ds : qa_P → qa_D) (σ : qa_T) : qa_P → qa_C := fun p => qa_sh (ds p) (σ.1 p) (σ.2 p)
def qa_cc (res : Option qa_V ⊕ Nat) : Nat := match res with
  | .inl _ => 0
  | .inr _ => 1
def qa_Bk (ds : qa_P → qa_D) (M : qa_M) (pc : Nat) (lv : qa_L) (st : List qa_V) (σ : qa_T) (res : Option qa_V ⊕ Nat) (σ' : qa_T) : Prop := ∃ n, ∀ nx : qa_P, qa_ex n M pc lv st (nx, qa_hp ds σ) = some (res, (nx, qa_hp ds σ'), qa_cc res, 6 * qa_cc res)
def qa_chk (M M1 : qa_M) (sk : Nat) (nest : Bool) : Bool := decide (qa_sk M1 = sk) && decide (qa_fr M1 + 1 ≤ qa_fr M) && decide (19 + qa_ml M1 + qa_lo M1 ≤ qa_lo M) && (decide ((qa_hh M1).isEmpty = true) || (decide (sk = 1) && decide (nest = false)))
def qa_n0 : Nat → Option qa_P := fun _ => none
def qa_K1 (R : Nat) : Nat → qa_V ⊕ Nat := fun j => match j with
  | 0 => .inl (.inl (R, 1))
  | 1 => .inl (.inl (R, 9))
  | 2 => .inl (.inl (R, 11))
  | 3 => .inl (.inl (R, 12))
  | 4 => .inl (.inl (R, 14))
  | 5 => .inl (.inl (R, 15))
  | 6 => .inl (.inl (R, 16))
  | 7 => .inl (.inl (R, 17))
  | _ => .inl (.inr .null)
def qa_K6 (R : Nat) : Nat → qa_V ⊕ Nat := fun j => match j with
  | 0 => .inr 0
  | 1 => .inl (.inl (R, 2))
  | 2 => .inl (.inl (R, 3))
  | 3 => .inl (.inl (R, 4))
  | 4 => .inl (.inl (R, 5))
  | 5 => .inl (.inl (R, 6))
  | 6 => .inl (.inl (R, 7))
  | 7 => .inl (.inl (R, 8))
  | _ => .inr 0
def qa_K3 (R : Nat) : Nat → qa_V ⊕ Nat := fun j => match j with
  | 0 => .inr 0
  | 1 => .inr 0
  | 2 => .inl (.inl (R, 10))
  | _ => .inl (.inr .null)
def qa_K2 (R : Nat) : Nat → qa_V ⊕ Nat := fun j => match j with
  | 3 => .inl (.inl (R, 13))
  | _ => .inr 0
def qa_Ki : Nat → qa_V ⊕ Nat := fun _ => .inr 0
def qa_K9 : Nat → qa_V ⊕ Nat := fun j => match j with
  | 0 => .inl (.inl (1, 0))
  | 1 => .inl (.inl (2, 0))
  | 2 => .inl (.inl (2, 18))
  | 3 => .inl (.inl (8, 18))
  | 4 => .inl (.inl (10, 18))
  | 5 => .inl (.inl (10, 19))
  | _ => .inl (.inr .null)
def qa_K5 : Nat → qa_V ⊕ Nat := fun j => match j with
  | 0 => .inr 0
  | 1 => .inr 0
  | 2 => .inl (.inl (2, 19))
  | _ => .inl (.inr .null)
def qa_K8 : Nat → qa_V ⊕ Nat := fun j => match j with
  | 1 => .inl (.inl (10, 20))
  | _ => .inr 0
def qa_K10 : Nat → qa_V ⊕ Nat := fun j => match j with
  | 0 => .inl (.inl (10, 22))
  | 1 => .inl (.inl (10, 23))
  | 2 => .inr 0
  | 3 => .inl (.inl (10, 24))
  | 4 => .inl (.inl (10, 25))
  | 5 => .inl (.inl (10, 26))
  | 6 => .inl (.inl (10, 27))
  | 7 => .inl (.inl (10, 28))
  | 8 => .inr 0
  | 9 => .inr 0
  | 10 => .inr 0
  | 11 => .inr 0
  | 12 => .inr 0
  | 13 => .inr 0
  | _ => .inr 1
def qa_jk : qa_D := .inl (99, fun _ => .inl (.inr .null))
def qa_db (R j : Nat) : qa_D := match j with
  | 0 => .inl (1, qa_K1 R)
  | 1 => .inl (6, qa_K6 R)
  | 2 => .inr (0, 16, qa_n0)
  | 3 => .inr (0, 16, qa_n0)
  | 4 => .inr (0, 16, qa_n0)
  | 5 => .inr (1, 16, qa_n0)
  | 6 => .inr (0, 16, qa_n0)
  | 7 => .inr (0, 16, qa_n0)
  | 8 => .inr (0, 16, qa_n0)
  | 9 => .inl (3, qa_K3 R)
  | 10 => .inr (0, 24, qa_n0)
  | 11 => .inl (7, qa_Ki)
  | 12 => .inl (2, qa_K2 R)
  | 13 => .inr (0, 16, qa_n0)
  | 14 => .inl (4, qa_Ki)
  | 15 => .inl (0, qa_Ki)
  | 16 => .inr (0, 16, qa_n0)
  | _ => .inr (0, 16, qa_n0)
def qa_dx2 (j : Nat) : qa_D := match j with
  | 18 => .inl (5, qa_K5)
  | 19 => .inr (3, 6, fun i => if i < 6 then some (3 + i, 0) else none)
  | _ => qa_jk
def qa_dx8 (j : Nat) : qa_D := match j with
  | 18 => .inr (3, 2, fun i => if i < 2 then some (9 + i, 0) else none)
  | _ => qa_jk
def qa_dx10 (j : Nat) : qa_D := match j with
  | 18 => .inr (1, 2, qa_n0)
  | 19 => .inl (8, qa_K8)
  | 20 => .inr (0, 60, qa_n0)
  | 21 => .inl (10, qa_K10)
  | 22 => .inr (0, 176, qa_n0)
  | 23 => .inr (0, 1056, qa_n0)
  | 24 => .inr (0, 352, qa_n0)
  | 25 => .inr (1, 2, qa_n0)
  | 26 => .inr (0, 176, qa_n0)
  | 27 => .inr (0, 176, qa_n0)
  | 28 => .inr (0, 60, qa_n0)
  | 29 => .inr (2, 1, qa_n0)
  | _ => qa_jk
def qa_d0 (L j : Nat) : qa_D := match j with
  | 0 => .inr (9, L, qa_n0)
  | 1 => .inl (9, qa_K9)
  | _ => qa_jk
def qa_ds (L : Nat) (p : qa_P) : qa_D := if p.1 = 0 then qa_d0 L p.2 else if p.1 ≤ 10 ∧ p.2 < 18 then qa_db p.1 p.2 else if p.1 = 2 then qa_dx2 p.2 else if p.1 = 8 then qa_dx8 p.2 else if p.1 = 10 then qa_dx10 p.2 else qa_jk
def qa_rg (R : Nat) : Prop := 1 ≤ R ∧ R ≤ 10
def qa_nd : qa_L → Bool
  | [] => true
  | (i, _) :: l => !(l.any (fun q => q.1 == i)) && qa_nd l
def qa_sb : qa_L → qa_L → Prop
  | [], _ => True
  | (i, v) :: l, lv => qa_lk lv i = some v ∧ qa_sb l lv
def qa_le (l m : qa_L) : Prop := ∀ (i : Nat) (v : qa_V), qa_lk l i = some v → qa_lk m i = some v

section QDV
variable {ds : qa_P → qa_D} {M : qa_M} {pc : Nat} {lv : qa_L} {st : List qa_V} {σ σ' : qa_T} {res : Option qa_V ⊕ Nat} {ins : Instr} {len : Nat}
theorem qa_inv_of {h : qa_P → qa_C} {M1 : qa_M} {nest : Bool} {avs rest : List qa_V} {i pl sk : Nat} (hs : (ins = .invokevirtual i ∧ sk = 2) ∨ (ins = .invokespecial i ∧ sk = 0) ∨ (ins = .invokestatic i ∧ sk = 1)) (h1 : qa_lk (qa_ca (qa_cl M)) i = some (M1, nest, pl)) (hc : qa_chk M M1 sk nest = true) (hst : st = avs.reverse ++ rest) (hna : avs.length = qa_na M1) (hr : (rest.map qa_cat).sum ≤ 8) (ha : (avs.map qa_cat).sum ≤ qa_ml M1)
    (hrc : sk = 1 ∨ ∃ x as f, avs = .inl x :: as ∧ h x = .inl (qa_cl M1, f)) : qa_inv M h ins 3 st = some (M1, nest, avs, rest) := by
  unfold qa_chk at hc
  simp only [Bool.and_eq_true, Bool.or_eq_true, decide_eq_true_eq] at hc
  obtain ⟨⟨⟨c1, c2⟩, c3⟩, c4⟩ := hc
  have ht : st.take (qa_na M1) = avs.reverse := by rw [hst, ← hna, ← List.length_reverse, List.take_left]
  have hd : st.drop (qa_na M1) = rest := by rw [hst, ← hna, ← List.length_reverse, List.drop_left]
  have hle : qa_na M1 ≤ st.length := by rw [hst, List.length_append, List.length_reverse, hna]; exact Nat.le_add_right _ _
  have hrc2 : sk = 1 ∨ qa_rc h (qa_cl M1) (st.take (qa_na M1)).getLast? = true := by
    rcases hrc with h9 | ⟨x, as, f, rfl, h9⟩
    · exact Or.inl h9
    · refine Or.inr ?_
      rw [ht, List.getLast?_reverse]
      show (match h x with
        | .inl (cj, _) => decide (cj = qa_cl M1)
        | _ => false) = true
      rw [h9]
      exact decide_eq_true rfl
  have hcond : (3 = 3 ∧ qa_sk M1 = sk ∧ qa_na M1 ≤ st.length ∧ ((st.drop (qa_na M1)).map qa_cat).sum ≤ 8 ∧ ((st.take (qa_na M1)).map qa_cat).sum ≤ qa_ml M1 ∧ qa_fr M1 + 1 ≤ qa_fr M ∧ 19 + qa_ml M1 + qa_lo M1 ≤ qa_lo M ∧ ((qa_hh M1).isEmpty = true ∨ (sk = 1 ∧ nest = false)) ∧ (sk = 1 ∨ qa_rc h (qa_cl M1) (st.take (qa_na M1)).getLast? = true)) :=
    ⟨rfl, c1, hle, by rw [hd]; exact hr, by rw [ht, List.map_reverse, List.sum_reverse]; exact ha, c2, c3, c4, hrc2⟩
  rcases hs with ⟨rfl, rfl⟩ | ⟨rfl, rfl⟩ | ⟨rfl, rfl⟩ <;>
  · unfold qa_inv
    dsimp only
    rw [h1]
    dsimp only
    rw [if_pos hcond, ht, hd, List.reverse_reverse]
end QDV
theorem qa_ex_succ : ∀ (n : Nat) (M : qa_M) (pc : Nat) (lv : qa_L) (st : List qa_V) (h : qa_H) (r : qa_Z), qa_ex n M pc lv st h = some r → qa_ex (n + 1) M pc lv st h = some r := by
  intro n
  induction n with
  | zero => intro M pc lv st h r e; cases e
  | succ n ih =>
    intro M pc lv st h r e
    rw [qa_ex] at e
    rw [qa_ex]
    split at e
    · cases e
    · next ins len h1 =>
      try rw [h1]
      try dsimp only
      split at e
      · next F h2 =>
        try rw [h2]
        exact ih _ _ _ _ _ _ e
      · next h2 =>
        try rw [h2]
        try dsimp only
        split at e
        · next v h3 =>
          try rw [h3]
          exact e
        · next h3 =>
          try rw [h3]
          try dsimp only
          split at e
          · next w h4 =>
            try rw [h4]
            exact ih _ _ _ _ _ _ e
          · next h4 =>
            try rw [h4]
            try dsimp only
            split at e
            · next w h5 =>
              try rw [h5]
              try dsimp only
              obtain ⟨r1, e1, e2⟩ := Option.map_eq_some_iff.mp e
              rw [ih _ _ _ _ _ _ e1]
              exact congrArg some e2
            · next h5 =>
              try rw [h5]
              try dsimp only
              split at e
              · next E h6 =>
                try rw [h6]
                exact e
              · next h6 =>
                try rw [h6]
                try dsimp only
                split at e
                · cases e
                · next w h7 =>
                  try rw [h7]
                  try dsimp only
                  split at e
                  · cases e
                  · next v h1 k sl h8 =>
                    rw [ih _ _ _ _ _ _ h8]
                    try dsimp only
                    obtain ⟨r1, e1, e2⟩ := Option.map_eq_some_iff.mp e
                    rw [ih _ _ _ _ _ _ e1]
                    exact congrArg some e2
                  · next E h1 k sl h8 =>
                    rw [ih _ _ _ _ _ _ h8]
                    try dsimp only
                    split at e
                    · cases e
                    · next h9 =>
                      try rw [if_neg h9]
                      split at e
                      · next h10 =>
                        try rw [if_pos h10]
                        exact e
                      · next h10 =>
                        try rw [if_neg h10]
                        split at e
                        · cases e
                        · next t h11 =>
                          try rw [h11]
                          try dsimp only
                          obtain ⟨r1, e1, e2⟩ := Option.map_eq_some_iff.mp e
                          rw [ih _ _ _ _ _ _ e1]
                          exact congrArg some e2
theorem qa_ex_mono {n m : Nat} (hm : n ≤ m) {M : qa_M} {pc : Nat} {lv : qa_L} {st : List qa_V} {h : qa_H} {r : qa_Z} (e : qa_ex n M pc lv st h = some r) : qa_ex m M pc lv st h = some r := by
  induction hm with
  | refl => exact e
  | step _ ih => exact qa_ex_succ _ _ _ _ _ _ _ ih
