/-! the reference's own methods, as steps of the row of numbers -/
section QRF
def qw (ρ : qa_T) (s : qs) (y : Int32) : qa_T := (fun p => if p = (10, 22) then s else if p = (10, 21) then upd (ρ.1 (10, 21)) 10 y else ρ.1 p, ρ.2)
variable {ρ : qa_T} {s : qs} {y : Int32}
theorem qw_s : (qw ρ s y).1 (10, 22) = s := by simp [qw]
theorem qw_y : (qw ρ s y).1 (10, 21) 10 = y := by simp [qw, upd]
theorem qw_wi (i : Nat) (v : Int32) : qa_wi (qw ρ s y) (10, 22) i v = qw ρ (upd s i v) y := by
  refine Prod.ext (funext fun p => ?_) rfl
  by_cases h : p = (10, 22) <;> simp [qa_wi, qw, h]
theorem qw_wy (v : Int32) : qa_wi (qw ρ s y) (10, 21) 10 v = qw ρ s v := by
  refine Prod.ext (funext fun p => ?_) rfl
  by_cases h : p = (10, 22)
  · simp [qa_wi, qw, h]
  · by_cases h2 : p = (10, 21)
    · subst h2
      simp only [qa_wi, qw, if_neg h, if_pos]
      funext i
      by_cases h3 : i = 10 <;> simp [upd, h3]
    · simp [qa_wi, qw, h, h2]
theorem qw_self : qw ρ (ρ.1 (10, 22)) (ρ.1 (10, 21) 10) = ρ := by
  refine Prod.ext (funext fun p => ?_) rfl
  by_cases h : p = (10, 22)
  · simp [qw, h]
  · by_cases h2 : p = (10, 21)
    · subst h2
      funext i
      by_cases h3 : i = 10 <;> simp [qw, upd, h3]
    · simp [qw, h, h2]
theorem nI_mul (a b : Nat) : nI a * nI b = nI (a * b) := by
  unfold nI
  rw [Int32.ofNat_mul]
theorem rf_ix (k w : Nat) : (Int32.ofInt 1) + (((Int8.ofInt 7).toInt32) * nI k) + nI w = nI (1 + 7 * k + w) := by
  rw [qk_a1, qk_b7, qk_i1, qk_i7, nI_mul, nI_add, nI_add]
theorem rf_of {k w : Nat} (hk : k < 16) (hw : w < 7) {b : Int32} (hb : b = nI w) : qa_fX10_of (nI k) b (qw ρ s y) = some (s (1 + 7 * k + w)) := by
  subst hb
  unfold qa_fX10_of
  rw [rf_ix, qw_s, qz_ifn (by omega) (by omega), nI_clamp (by omega)]
theorem rf_of0 {k : Nat} (hk : k < 16) : qa_fX10_of (nI k) 0 (qw ρ s y) = some (s (1 + 7 * k)) := rf_of hk (w := 0) (by decide) rfl
theorem rf_of1 {k : Nat} (hk : k < 16) : qa_fX10_of (nI k) 1 (qw ρ s y) = some (s (1 + 7 * k + 1)) := rf_of hk (w := 1) (by decide) rfl
theorem rf_of2 {k : Nat} (hk : k < 16) : qa_fX10_of (nI k) 2 (qw ρ s y) = some (s (1 + 7 * k + 2)) := rf_of hk (w := 2) (by decide) rfl
theorem rf_of3 {k : Nat} (hk : k < 16) : qa_fX10_of (nI k) 3 (qw ρ s y) = some (s (1 + 7 * k + 3)) := rf_of hk (w := 3) (by decide) rfl
theorem rf_of4 {k : Nat} (hk : k < 16) : qa_fX10_of (nI k) 4 (qw ρ s y) = some (s (1 + 7 * k + 4)) := rf_of hk (w := 4) (by decide) rfl
theorem rf_of5 {k : Nat} (hk : k < 16) : qa_fX10_of (nI k) 5 (qw ρ s y) = some (s (1 + 7 * k + 5)) := rf_of hk (w := 5) (by decide) rfl
theorem rf_of6 {k : Nat} (hk : k < 16) : qa_fX10_of (nI k) 6 (qw ρ s y) = some (s (1 + 7 * k + 6)) := rf_of hk (w := 6) (by decide) rfl
theorem rf_lay {k w : Nat} (hk : k < 16) (hw : w < 7) {b v : Int32} (hb : b = nI w) : qa_fX10_lay (nI k) b v (qw ρ s y) = some (qw ρ (upd s (1 + 7 * k + w) v) y) := by
  subst hb
  unfold qa_fX10_lay
  rw [rf_ix, qz_ifn (by omega) (by omega), nI_clamp (by omega), qw_wi]
theorem rf_lay0 {k : Nat} (hk : k < 16) {v : Int32} : qa_fX10_lay (nI k) 0 v (qw ρ s y) = some (qw ρ (upd s (1 + 7 * k) v) y) := rf_lay hk (w := 0) (by decide) rfl
theorem rf_lay1 {k : Nat} (hk : k < 16) {v : Int32} : qa_fX10_lay (nI k) 1 v (qw ρ s y) = some (qw ρ (upd s (1 + 7 * k + 1) v) y) := rf_lay hk (w := 1) (by decide) rfl
theorem rf_lay2 {k : Nat} (hk : k < 16) {v : Int32} : qa_fX10_lay (nI k) 2 v (qw ρ s y) = some (qw ρ (upd s (1 + 7 * k + 2) v) y) := rf_lay hk (w := 2) (by decide) rfl
theorem rf_lay3 {k : Nat} (hk : k < 16) {v : Int32} : qa_fX10_lay (nI k) 3 v (qw ρ s y) = some (qw ρ (upd s (1 + 7 * k + 3) v) y) := rf_lay hk (w := 3) (by decide) rfl
theorem rf_lay4 {k : Nat} (hk : k < 16) {v : Int32} : qa_fX10_lay (nI k) 4 v (qw ρ s y) = some (qw ρ (upd s (1 + 7 * k + 4) v) y) := rf_lay hk (w := 4) (by decide) rfl
theorem rf_lay5 {k : Nat} (hk : k < 16) {v : Int32} : qa_fX10_lay (nI k) 5 v (qw ρ s y) = some (qw ρ (upd s (1 + 7 * k + 5) v) y) := rf_lay hk (w := 5) (by decide) rfl
theorem rf_lay6 {k : Nat} (hk : k < 16) {v : Int32} : qa_fX10_lay (nI k) 6 v (qw ρ s y) = some (qw ρ (upd s (1 + 7 * k + 6) v) y) := rf_lay hk (w := 6) (by decide) rfl
theorem rf_ld {k : Nat} (hk : k < 16) : qa_fX10_loaded (nI k) (qw ρ s y) = some (qr_ld s k) := by
  unfold qa_fX10_loaded
  rw [qk_a3, rf_of3 hk]
  by_cases h : s (1 + 7 * k + 3) = 1 <;> simp [qr_ld, h, qk_a1]
theorem rf_os {k : Nat} : qa_fX10_onShow (nI k) (qw ρ s y) = qr_os s k := by
  unfold qa_fX10_onShow qa_fX10_onShow_24 qr_os
  rw [qw_s, qk_c139, qk_c140, qk_n139, qk_n140]
  by_cases h1 : nI k = s 139 <;> by_cases h2 : nI k = s 140 <;> simp [h1, h2]
theorem qb_0 (b : Bool) : (qa_bi b = 0) = (b = false) := by cases b <;> simp [qa_bi]
theorem rf_cb {k : Nat} (hk : k < 16) : qa_fX10_canBurn (nI k) (qw ρ s y) = some (qr_cb s k) := by
  unfold qa_fX10_canBurn qa_fX10_canBurn_20 qr_cb
  rw [rf_ld hk, rf_os]
  cases h1 : qr_ld s k <;> cases h2 : qr_os s k <;> simp [qb_0]
theorem rf_tk_l : ∀ (m k n : Nat), n ≤ 16 → s 0 = nI n → k ≤ n → n - k < m → qa_fX10_taken_4 m (qr_tk s k) (nI k) (qw ρ s y) = some (qr_tk s n) := by
  intro m
  induction m with
  | zero => intro k n h1 h2 h3 h4; omega
  | succ m ih =>
    intro k n hn h0 hk hm
    rw [qa_fX10_taken_4, qw_s, qk_a0, qk_n0, h0]
    by_cases e : k = n
    · subst e
      rw [if_pos (nI_le (Nat.le_refl _) (by omega))]
    · have hk2 : k < 16 := by omega
      rw [if_neg (nI_ge (by omega) (by omega)), rf_ld hk2]
      have h1 := ih (k + 1) n hn h0 (by omega) (by omega)
      rw [← nI_1] at h1
      cases hl : qr_ld s k <;> by_cases h4 : s 144 = nI k <;> simpa [hl, h4, qb_0, rf_of0 hk2, qa_fX10_taken_35, qa_fX10_taken_45, qr_tk, qr_tf, qk_c144, qk_n144, qk_a1] using h1
theorem rf_tk {n : Nat} (hn : n ≤ 16) (h0 : s 0 = nI n) : qa_fX10_taken (qw ρ s y) = some (qr_ta s) := by
  have h1 := rf_tk_l (ρ := ρ) (s := s) (y := y) qa_fu 0 n hn h0 (by omega) (by unfold qa_fu; omega)
  unfold qa_fX10_taken qr_ta
  rw [h0, qn_nI (by omega)]
  simpa [qk_a0, qr_tk, nI_0] using h1
end QRF
