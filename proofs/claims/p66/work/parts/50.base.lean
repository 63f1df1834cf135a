/-! numbers: ints as whole numbers -/
section QZB
theorem qz_le (a b : Int32) : a ≤ b ↔ a.toInt ≤ b.toInt := Int32.le_iff_toInt_le
theorem qz_lt (a b : Int32) : a < b ↔ a.toInt < b.toInt := Int32.lt_iff_toInt_lt
theorem qz_eq (a b : Int32) : a = b ↔ a.toInt = b.toInt := Int32.toInt_inj.symm
theorem qz_rg (a : Int32) : -2147483648 ≤ a.toInt ∧ a.toInt < 2147483648 := by
  have h1 := Int32.le_toInt a
  have h2 := Int32.toInt_lt a
  constructor <;> omega
theorem qz_bm {x : Int} (h1 : -2147483648 ≤ x) (h2 : x < 2147483648) : x.bmod (2 ^ 32) = x := by
  apply Int.bmod_eq_of_le <;> omega
theorem qz_add {a b : Int32} (h1 : -2147483648 ≤ a.toInt + b.toInt) (h2 : a.toInt + b.toInt < 2147483648) : (a + b).toInt = a.toInt + b.toInt := by
  rw [Int32.toInt_add]
  exact qz_bm h1 h2
theorem qz_sub {a b : Int32} (h1 : -2147483648 ≤ a.toInt - b.toInt) (h2 : a.toInt - b.toInt < 2147483648) : (a - b).toInt = a.toInt - b.toInt := by
  rw [Int32.toInt_sub]
  exact qz_bm h1 h2
theorem qz_mul {a b : Int32} (h1 : -2147483648 ≤ a.toInt * b.toInt) (h2 : a.toInt * b.toInt < 2147483648) : (a * b).toInt = a.toInt * b.toInt := by
  rw [Int32.toInt_mul]
  exact qz_bm h1 h2
theorem qz_neg {a : Int32} (h1 : -2147483648 < a.toInt) : (-a).toInt = -a.toInt := by
  rw [Int32.toInt_neg]
  have := qz_rg a
  exact qz_bm (by omega) (by omega)
theorem qz_nI {k : Nat} (h : k < 2147483648) : (nI k).toInt = (k : Int) := nI_toInt h
theorem qz_div {a b : Int32} (h1 : 0 ≤ a.toInt) (h2 : 0 < b.toInt) : (a / b).toInt = a.toInt / b.toInt := by
  rw [Int32.toInt_div, Int.tdiv_eq_ediv_of_nonneg h1]
  have h3 : a.toInt / b.toInt ≤ a.toInt := Int.ediv_le_self _ h1
  have h4 : 0 ≤ a.toInt / b.toInt := Int.ediv_nonneg h1 (by omega)
  have := qz_rg a
  exact qz_bm (by omega) (by omega)
theorem qz_mod {a b : Int32} (h1 : 0 ≤ a.toInt) (h2 : 0 < b.toInt) : (a - a / b * b).toInt = a.toInt % b.toInt := by
  have h5 := qz_div h1 h2
  have h6 : a.toInt / b.toInt * b.toInt ≤ a.toInt := Int.ediv_mul_le _ (by omega)
  have h4 : 0 ≤ a.toInt / b.toInt := Int.ediv_nonneg h1 (by omega)
  have h7 : 0 ≤ a.toInt / b.toInt * b.toInt := Int.mul_nonneg h4 (by omega)
  have := qz_rg a
  have h8 : (a / b * b).toInt = a.toInt / b.toInt * b.toInt := by
    rw [qz_mul, h5]
    · rw [h5]; omega
    · rw [h5]; omega
  rw [qz_sub, h8]
  · have := Int.mul_ediv_add_emod a.toInt b.toInt
    rw [Int.mul_comm] at this
    omega
  · rw [h8]; omega
  · rw [h8]; omega
/-- an int that is not below 0, as a natural number -/
def qn (x : Int32) : Nat := x.toInt.toNat
theorem qn_def (x : Int32) : x.toNatClampNeg = qn x := rfl
theorem qn_nI {k : Nat} (h : k < 2147483648) : qn (nI k) = k := by
  unfold qn
  rw [qz_nI h]
  rfl
theorem qn_of {x : Int32} (h : 0 ≤ x.toInt) : x = nI (qn x) := by
  have := qz_rg x
  rw [qz_eq, qz_nI (by unfold qn; omega)]
  unfold qn
  omega
theorem qn_lt {x : Int32} : qn x < 2147483648 := by
  have := qz_rg x
  unfold qn
  omega
theorem qn_int {x : Int32} (h : 0 ≤ x.toInt) : (qn x : Int) = x.toInt := by
  unfold qn
  omega
theorem qz_in {i : Int32} {n : Nat} : qa_in i n = true ↔ 0 ≤ i.toInt ∧ i.toInt < n := by
  rw [← vp_in_iff]
  unfold qa_in vp_in
  exact decide_eq_true_iff
theorem qz_if {α : Type} {i : Int32} {n : Nat} {a b : α} (h : 0 ≤ i.toInt ∧ i.toInt < n) : (if ¬ qa_in i n = true then a else b) = b := if_neg (fun t => t (qz_in.mpr h))
theorem qz_ifn {α : Type} {k n : Nat} {a b : α} (h : k < n) (hn : n < 2147483648) : (if ¬ qa_in (nI k) n = true then a else b) = b := qz_if ⟨by rw [qz_nI (by omega)]; omega, by rw [qz_nI (by omega)]; omega⟩
theorem qz_ue {f : Nat → Int32} {k j : Nat} {x : Int32} (h : j = k) : upd f k x j = x := if_pos h
theorem qz_uf {f g : Nat → Int32} (h : ∀ i, f i = g i) : f = g := funext h
theorem qz_us {f : Nat → Int32} {k : Nat} {x : Int32} (h : x = f k) : upd f k x = f := by
  funext i
  unfold upd
  by_cases e : i = k
  · rw [if_pos e, e, h]
  · rw [if_neg e]
end QZB
