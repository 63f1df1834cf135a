/-! the class's cells of one region, against the row of numbers -/
section QCA
variable {σ σ' : qa_T} {s t : qs} {R N : Nat}
def qx (i : Nat) : Nat × Nat := if i = 0 then (1, 0) else if i < 113 then (2 + (i - 1) % 7, (i - 1) / 7) else if i = 113 then (9, 0) else if i < 138 then (10, i - 114) else if i = 138 then (9, 1) else if i = 139 then (11, 0) else if i = 140 then (11, 2) else if i = 141 then (11, 3) else if i = 142 then (11, 4) else if i = 143 then (11, 1) else if i = 144 then (12, 0) else if i = 145 then (12, 1) else if i = 146 then (12, 2) else if i < 163 then (13, i - 147) else if i < 168 then (14, i - 163) else if i < 175 then (15, i - 168) else (1, 8)
def qy (j f : Nat) : Nat := if j = 1 then (if f = 0 then 0 else 175) else if j = 9 then (if f = 0 then 113 else 138) else if j = 10 then 114 + f else if j = 11 then (if f = 0 then 139 else if f = 1 then 143 else 138 + f) else if j = 12 then 144 + f else if j = 13 then 147 + f else if j = 14 then 163 + f else if j = 15 then 168 + f else 1 + 7 * f + (j - 2)
theorem qx_sl {k w : Nat} (hk : k < 16) (hw : w < 7) : qx (1 + 7 * k + w) = (2 + w, k) := by
  unfold qx
  rw [if_neg (by omega), if_pos (by omega)]
  refine Prod.ext ?_ ?_ <;> dsimp only <;> omega
theorem qx_pr {k : Nat} (hk : k < 24) : qx (114 + k) = (10, k) := by
  unfold qx
  rw [if_neg (by omega), if_neg (by omega), if_neg (by omega), if_pos (by omega)]
  refine Prod.ext rfl ?_
  dsimp only
  omega
theorem qx_qu {k : Nat} (hk : k < 16) : qx (147 + k) = (13, k) := by
  unfold qx
  rw [if_neg (by omega), if_neg (by omega), if_neg (by omega), if_neg (by omega), if_neg (by omega), if_neg (by omega), if_neg (by omega), if_neg (by omega), if_neg (by omega), if_neg (by omega), if_neg (by omega), if_neg (by omega), if_neg (by omega), if_pos (by omega)]
  refine Prod.ext rfl ?_
  dsimp only
  omega
theorem qy_qx {i : Nat} (h : i < 176) : qy (qx i).1 (qx i).2 = i ∧ (qx i).1 < 16 ∧ ((qx i).1 = 12 → (qx i).2 < 3) := by
  have hc : (1 ≤ i ∧ i < 113) ∨ (114 ≤ i ∧ i < 138) ∨ (147 ≤ i ∧ i < 163) ∨ i = 0 ∨ i = 113 ∨ i = 138 ∨ i = 139 ∨ i = 140 ∨ i = 141 ∨ i = 142 ∨ i = 143 ∨ i = 144 ∨ i = 145 ∨ i = 146 ∨ i = 163 ∨ i = 164 ∨ i = 165 ∨ i = 166 ∨ i = 167 ∨ i = 168 ∨ i = 169 ∨ i = 170 ∨ i = 171 ∨ i = 172 ∨ i = 173 ∨ i = 174 ∨ i = 175 := by omega
  rcases hc with h1 | h1 | h1 | h1 | h1 | h1 | h1 | h1 | h1 | h1 | h1 | h1 | h1 | h1 | h1 | h1 | h1 | h1 | h1 | h1 | h1 | h1 | h1 | h1 | h1 | h1 | h1
  · have e : i = 1 + 7 * ((i - 1) / 7) + (i - 1) % 7 := by omega
    have e2 := qx_sl (k := (i - 1) / 7) (w := (i - 1) % 7) (by omega) (by omega)
    rw [← e] at e2
    rw [e2]
    unfold qy
    dsimp only
    rw [if_neg (by omega), if_neg (by omega), if_neg (by omega), if_neg (by omega), if_neg (by omega), if_neg (by omega), if_neg (by omega), if_neg (by omega)]
    omega
  · have e2 := qx_pr (k := i - 114) (by omega)
    rw [show 114 + (i - 114) = i by omega] at e2
    rw [e2]
    refine ⟨?_, show 10 < 16 by decide, fun t => absurd (show 10 = 12 from t) (by decide)⟩
    show 114 + (i - 114) = i
    omega
  · have e2 := qx_qu (k := i - 147) (by omega)
    rw [show 147 + (i - 147) = i by omega] at e2
    rw [e2]
    refine ⟨?_, show 13 < 16 by decide, fun t => absurd (show 13 = 12 from t) (by decide)⟩
    show 147 + (i - 147) = i
    omega
  · subst h1; exact ⟨rfl, by decide, by decide⟩
  · subst h1; exact ⟨rfl, by decide, by decide⟩
  · subst h1; exact ⟨rfl, by decide, by decide⟩
  · subst h1; exact ⟨rfl, by decide, by decide⟩
  · subst h1; exact ⟨rfl, by decide, by decide⟩
  · subst h1; exact ⟨rfl, by decide, by decide⟩
  · subst h1; exact ⟨rfl, by decide, by decide⟩
  · subst h1; exact ⟨rfl, by decide, by decide⟩
  · subst h1; exact ⟨rfl, by decide, by decide⟩
  · subst h1; exact ⟨rfl, by decide, by decide⟩
  · subst h1; exact ⟨rfl, by decide, by decide⟩
  · subst h1; exact ⟨rfl, by decide, by decide⟩
  · subst h1; exact ⟨rfl, by decide, by decide⟩
  · subst h1; exact ⟨rfl, by decide, by decide⟩
  · subst h1; exact ⟨rfl, by decide, by decide⟩
  · subst h1; exact ⟨rfl, by decide, by decide⟩
  · subst h1; exact ⟨rfl, by decide, by decide⟩
  · subst h1; exact ⟨rfl, by decide, by decide⟩
  · subst h1; exact ⟨rfl, by decide, by decide⟩
  · subst h1; exact ⟨rfl, by decide, by decide⟩
  · subst h1; exact ⟨rfl, by decide, by decide⟩
  · subst h1; exact ⟨rfl, by decide, by decide⟩
  · subst h1; exact ⟨rfl, by decide, by decide⟩
  · subst h1; exact ⟨rfl, by decide, by decide⟩
theorem qx_inj {i j : Nat} (hi : i < 176) (hj : j < 176) (h1 : (qx i).1 = (qx j).1) (h2 : (qx i).2 = (qx j).2) : i = j := by
  have h3 := (qy_qx hi).1
  have h4 := (qy_qx hj).1
  rw [h1, h2] at h3
  omega
/-- the places that count -/
def qe_L (s : qs) (i : Nat) : Prop := (114 ≤ i → i < 138 → i < 114 + qn (s 113)) ∧ (147 ≤ i → i < 163 → i < 147 + qn (s 146))
def qe_A (R : Nat) (σ : qa_T) (s : qs) : Prop := ∀ i, i < 176 → qe_L s i → σ.1 (R, (qx i).1) (qx i).2 = s i
def qe_R (R : Nat) (σ : qa_T) (s : qs) : Prop := qe_A R σ s ∧ σ.1 (R, 12) 4 = qr_ta s
/-- what is outside of the region stays -/
def qe_F (R : Nat) (σ σ' : qa_T) : Prop := (∀ p : qa_P, (¬ p.1 = R ∨ 18 ≤ p.2) → σ'.1 p = σ.1 p) ∧ σ'.2 = σ.2
theorem qe_Fr : qe_F R σ σ := ⟨fun _ _ => rfl, rfl⟩
theorem qe_Ft {σ'' : qa_T} (h1 : qe_F R σ σ') (h2 : qe_F R σ' σ'') : qe_F R σ σ'' := ⟨fun p hp => (h2.1 p hp).trans (h1.1 p hp), h2.2.trans h1.2⟩
theorem qe_Fw {j i : Nat} {v : Int32} (hj : j < 18) : qe_F R σ (qa_wi σ (R, j) i v) := by
  refine ⟨fun p hp => ?_, rfl⟩
  unfold qa_wi
  dsimp only
  rw [if_neg (fun e => by subst e; dsimp only at hp; omega)]
theorem wi_eq {p : qa_P} {i : Nat} {v : Int32} : (qa_wi σ p i v).1 p i = v := by
  unfold qa_wi
  dsimp only
  rw [if_pos rfl, pk_us]
theorem wi_np {p q : qa_P} {i : Nat} {v : Int32} (h : ¬ q = p) : (qa_wi σ p i v).1 q = σ.1 q := by
  unfold qa_wi
  dsimp only
  rw [if_neg h]
theorem wi_ni {p q : qa_P} {i j : Nat} {v : Int32} (h : ¬ j = i) : (qa_wi σ p i v).1 q j = σ.1 q j := by
  unfold qa_wi
  dsimp only
  by_cases e : q = p
  · rw [if_pos e, pk_un h]
  · rw [if_neg e]
/-- a write that counts -/
theorem ra_w {i : Nat} {v : Int32} {p : qa_P} {f : Nat} (h : qe_A R σ s) (hi : i < 176) (h3 : ¬ i = 113) (h6 : ¬ i = 146) (hp : p = (R, (qx i).1)) (hf : f = (qx i).2) : qe_A R (qa_wi σ p f v) (upd s i v) := by
  subst hp
  subst hf
  intro j hj hl
  by_cases e : j = i
  · subst e
    rw [wi_eq, pk_us]
  · have hl2 : qe_L s j := by
      unfold qe_L at hl ⊢
      rw [pk_un (fun t => h3 t.symm), pk_un (fun t => h6 t.symm)] at hl
      exact hl
    rw [pk_un e, ← h j hj hl2]
    by_cases e2 : (qx j).1 = (qx i).1
    · rw [wi_ni (fun e3 => e (qx_inj hj hi e2 e3))]
    · rw [wi_np (fun e3 => e2 (congrArg Prod.snd e3))]
/-- a write that does not -/
theorem ra_o {p : qa_P} {i : Nat} {v : Int32} (h : qe_A R σ s) (hp : ¬ p.1 = R ∨ 16 ≤ p.2 ∨ (p.2 = 12 ∧ 3 ≤ i)) : qe_A R (qa_wi σ p i v) s := by
  intro j hj hl
  rw [← h j hj hl]
  obtain ⟨h1, h2, h3⟩ := qy_qx hj
  by_cases e : (R, (qx j).1) = p
  · subst e
    dsimp only at hp
    rw [wi_ni (by omega)]
  · rw [wi_np e]
theorem ra_F {R2 : Nat} (h : qe_A R σ s) (hF : qe_F R2 σ σ') (hR : ¬ R = R2) : qe_A R σ' s := by
  intro j hj hl
  rw [hF.1 _ (Or.inl hR)]
  exact h j hj hl
theorem rr_F {R2 : Nat} (h : qe_R R σ s) (hF : qe_F R2 σ σ') (hR : ¬ R = R2) : qe_R R σ' s := ⟨ra_F h.1 hF hR, by rw [hF.1 _ (Or.inl hR)]; exact h.2⟩
theorem ra_n0 (h : qe_A R σ s) : σ.1 (R, 1) 0 = s 0 := h 0 (by omega) ⟨by omega, by omega⟩
theorem ra_sl {k w : Nat} (h : qe_A R σ s) (hk : k < 16) (hw : w < 7) : σ.1 (R, 2 + w) k = s (1 + 7 * k + w) := by
  have h1 := h (1 + 7 * k + w) (by omega) ⟨by omega, by omega⟩
  rw [qx_sl hk hw] at h1
  exact h1
theorem ra_c {k : Nat} (h : qe_A R σ s) (hk : k < 16) : σ.1 (R, 2) k = s (1 + 7 * k) := ra_sl (w := 0) h hk (by omega)
theorem ra_l {k : Nat} (h : qe_A R σ s) (hk : k < 16) : σ.1 (R, 3) k = s (1 + 7 * k + 1) := ra_sl (w := 1) h hk (by omega)
theorem ra_f {k : Nat} (h : qe_A R σ s) (hk : k < 16) : σ.1 (R, 4) k = s (1 + 7 * k + 2) := ra_sl (w := 2) h hk (by omega)
theorem ra_i {k : Nat} (h : qe_A R σ s) (hk : k < 16) : σ.1 (R, 5) k = s (1 + 7 * k + 3) := ra_sl (w := 3) h hk (by omega)
theorem ra_e {k : Nat} (h : qe_A R σ s) (hk : k < 16) : σ.1 (R, 6) k = s (1 + 7 * k + 4) := ra_sl (w := 4) h hk (by omega)
theorem ra_b {k : Nat} (h : qe_A R σ s) (hk : k < 16) : σ.1 (R, 7) k = s (1 + 7 * k + 5) := ra_sl (w := 5) h hk (by omega)
theorem ra_u {k : Nat} (h : qe_A R σ s) (hk : k < 16) : σ.1 (R, 8) k = s (1 + 7 * k + 6) := ra_sl (w := 6) h hk (by omega)
theorem ra_p {k : Nat} (h : qe_A R σ s) (hk : k < qn (s 113)) (hk2 : k < 24) : σ.1 (R, 10) k = s (114 + k) := by
  have h1 := h (114 + k) (by omega) ⟨by omega, by omega⟩
  rw [qx_pr hk2] at h1
  exact h1
theorem ra_q {k : Nat} (h : qe_A R σ s) (hk : k < qn (s 146)) (hk2 : k < 16) : σ.1 (R, 13) k = s (147 + k) := by
  have h1 := h (147 + k) (by omega) ⟨by omega, by omega⟩
  rw [qx_qu hk2] at h1
  exact h1
theorem ra_113 (h : qe_A R σ s) : σ.1 (R, 9) 0 = s 113 := h 113 (by omega) ⟨by omega, by omega⟩
theorem ra_138 (h : qe_A R σ s) : σ.1 (R, 9) 1 = s 138 := h 138 (by omega) ⟨by omega, by omega⟩
theorem ra_139 (h : qe_A R σ s) : σ.1 (R, 11) 0 = s 139 := h 139 (by omega) ⟨by omega, by omega⟩
theorem ra_143 (h : qe_A R σ s) : σ.1 (R, 11) 1 = s 143 := h 143 (by omega) ⟨by omega, by omega⟩
theorem ra_140 (h : qe_A R σ s) : σ.1 (R, 11) 2 = s 140 := h 140 (by omega) ⟨by omega, by omega⟩
theorem ra_141 (h : qe_A R σ s) : σ.1 (R, 11) 3 = s 141 := h 141 (by omega) ⟨by omega, by omega⟩
theorem ra_142 (h : qe_A R σ s) : σ.1 (R, 11) 4 = s 142 := h 142 (by omega) ⟨by omega, by omega⟩
theorem ra_144 (h : qe_A R σ s) : σ.1 (R, 12) 0 = s 144 := h 144 (by omega) ⟨by omega, by omega⟩
theorem ra_145 (h : qe_A R σ s) : σ.1 (R, 12) 1 = s 145 := h 145 (by omega) ⟨by omega, by omega⟩
theorem ra_146 (h : qe_A R σ s) : σ.1 (R, 12) 2 = s 146 := h 146 (by omega) ⟨by omega, by omega⟩
theorem ra_163 (h : qe_A R σ s) : σ.1 (R, 14) 0 = s 163 := h 163 (by omega) ⟨by omega, by omega⟩
theorem ra_164 (h : qe_A R σ s) : σ.1 (R, 14) 1 = s 164 := h 164 (by omega) ⟨by omega, by omega⟩
theorem ra_165 (h : qe_A R σ s) : σ.1 (R, 14) 2 = s 165 := h 165 (by omega) ⟨by omega, by omega⟩
theorem ra_166 (h : qe_A R σ s) : σ.1 (R, 14) 3 = s 166 := h 166 (by omega) ⟨by omega, by omega⟩
theorem ra_167 (h : qe_A R σ s) : σ.1 (R, 14) 4 = s 167 := h 167 (by omega) ⟨by omega, by omega⟩
theorem ra_168 (h : qe_A R σ s) : σ.1 (R, 15) 0 = s 168 := h 168 (by omega) ⟨by omega, by omega⟩
theorem ra_169 (h : qe_A R σ s) : σ.1 (R, 15) 1 = s 169 := h 169 (by omega) ⟨by omega, by omega⟩
theorem ra_170 (h : qe_A R σ s) : σ.1 (R, 15) 2 = s 170 := h 170 (by omega) ⟨by omega, by omega⟩
theorem ra_171 (h : qe_A R σ s) : σ.1 (R, 15) 3 = s 171 := h 171 (by omega) ⟨by omega, by omega⟩
theorem ra_172 (h : qe_A R σ s) : σ.1 (R, 15) 4 = s 172 := h 172 (by omega) ⟨by omega, by omega⟩
theorem ra_173 (h : qe_A R σ s) : σ.1 (R, 15) 5 = s 173 := h 173 (by omega) ⟨by omega, by omega⟩
theorem ra_174 (h : qe_A R σ s) : σ.1 (R, 15) 6 = s 174 := h 174 (by omega) ⟨by omega, by omega⟩
theorem ra_175 (h : qe_A R σ s) : σ.1 (R, 1) 8 = s 175 := h 175 (by omega) ⟨by omega, by omega⟩
/-- rows -/
theorem at_in {p : qa_P} {n k : Nat} (hk : k < n) (hn : n < 2147483648) : qa_fX9_at p n (nI k) σ = σ.1 p k := by
  unfold qa_fX9_at qa_fX9_at_17
  rw [if_neg (nI_pos (by omega)), if_neg (show ¬ Int32.ofNat n ≤ nI k from nI_ge hk (by omega)), nI_clamp (by omega)]
theorem set_in {p : qa_P} {n k : Nat} {v : Int32} (hk : k < n) (hn : n < 2147483648) : qa_fX9_set p n (nI k) v σ = qa_wi σ p k v := by
  unfold qa_fX9_set qa_fX9_set_14
  rw [if_neg (nI_pos (by omega)), if_neg (show ¬ Int32.ofNat n ≤ nI k from nI_ge hk (by omega)), nI_clamp (by omega)]
theorem cl_has (h : qe_A R σ s) (hs : qi_sl s) (x : Int32) : qa_fX6_has R x σ = (decide (0 ≤ x.toInt) && decide (x.toInt < (s 0).toInt)) := by
  unfold qa_fX6_has qa_fX6_has_16
  have c3 : x < 0 ↔ x.toInt < 0 := by rw [qz_lt, qk_t0]
  have c4 := qz_le (s 0) x
  rw [ra_n0 h]
  by_cases c1 : x < 0
  · have c5 := c3.mp c1
    rw [if_pos c1, decide_eq_false (by omega), Bool.false_and]
  · have c5 : ¬ x.toInt < 0 := fun t => c1 (c3.mpr t)
    rw [if_neg c1, decide_eq_true (by omega), Bool.true_and]
    by_cases c2 : s 0 ≤ x
    · have c6 := c4.mp c2
      rw [if_pos c2, decide_eq_false (by omega)]
    · have c6 : ¬ (s 0).toInt ≤ x.toInt := fun t => c2 (c4.mpr t)
      rw [if_neg c2, decide_eq_true (by omega)]
theorem cl_rd (h : qe_A R σ s) (hs : qi_sl s) {k : Nat} (hk : k < 16) : qa_fX6_isReady R (nI k) σ = qr_ld s k := by
  unfold qa_fX6_isReady qa_fX6_isReady_26 qr_ld
  rw [if_neg (nI_pos (by omega)), if_neg (show ¬ Int32.ofNat 16 ≤ nI k from nI_ge hk (by omega)), nI_clamp (by omega), ra_i h hk]
  rcases (hs.2.2 k hk).1 with e | e <;> rw [e] <;> rfl
theorem cl_be (h : qe_A R σ s) {k : Nat} : qa_fX7_bears R (nI k) σ = qr_os s k := by
  unfold qa_fX7_bears qa_fX7_bears_16 qr_os
  rw [ra_139 h, ra_140 h]
  by_cases h1 : nI k = s 139 <;> by_cases h2 : nI k = s 140 <;> simp [h1, h2]
theorem cl_mb (h : qe_A R σ s) (hs : qi_sl s) {k : Nat} (hk : k < 16) : qa_fX1_mayBurn R (nI k) σ = qr_cb s k := by
  unfold qa_fX1_mayBurn qa_fX1_mayBurn_26 qr_cb
  rw [cl_rd h hs hk, cl_be h]
  cases qr_ld s k <;> cases qr_os s k <;> rfl
theorem cl_du (h : qe_A R σ s) {a : Nat} (ha : a < 16) : qa_fX6_ticksToLoad R (nI a) (Int32.ofInt 0) σ = qr_du s a := by
  unfold qa_fX6_ticksToLoad qa_fX6_ticksToLoad_30 qr_du
  rw [at_in ha (by omega), at_in ha (by omega), ra_e h ha, ra_l h ha, qk_a0, qk_a1, qk_a2]
theorem cl_sa (h : qe_A R σ s) (hp : qi_pr s) {k : Nat} (hk : 1 ≤ k) (hk2 : k ≤ 1000) : qa_fX3_slideAhead R (nI k) σ = some (if qn (s 113) = 0 then -1 else qr_sa s k) := by
  have h1 := qn_int hp.1
  have h2 := (qi_p hp).2
  unfold qa_fX3_slideAhead qa_fX3_slideAhead_43 qa_fX3_slideAhead_44
  rw [ra_113 h, ra_138 h, qk_am1]
  by_cases c : qn (s 113) = 0
  · rw [if_pos c, if_neg (by rw [qz_lt, qk_t0]; omega)]
  · have h0 : 0 < (s 113).toInt := by omega
    have h6 := (qi_ixb hp h0 k).1
    rw [if_neg c, if_pos (by rw [qz_lt, qk_t0]; omega), if_neg (fun t => by rw [t, qk_t0] at h0; omega), rf_pi hp h0 hk hk2]
    dsimp only
    rw [if_neg (nI_pos (by omega)), if_neg (show ¬ Int32.ofNat 24 ≤ nI _ from nI_ge (by omega) (by omega)), nI_clamp (by omega), ra_p h h6 (by omega)]
    rfl
/-- a slide is burnt -/
theorem cl_bu {a : Nat} (h : qe_R R σ s) (hs : qi_sl s) (he : qi_se s) (ha : a < qn (s 0)) (hl : qr_ld s a = true) (h4 : ¬ s 144 = nI a) : qe_R R (qa_fX1_putOnFire R (nI a) σ) (qr_bu s a) ∧ qe_F R σ (qa_fX1_putOnFire R (nI a) σ) ∧ (∀ k, (qa_fX1_putOnFire R (nI a) σ).1 (R, 17) k = σ.1 (R, 17) k) := by
  have hn := (qi_n hs).2
  have ha2 : a < 16 := by omega
  have e1 : qa_fX6_setReady R (nI a) false σ = qa_wi σ (R, 5) a 0 := by
    unfold qa_fX6_setReady qa_fX6_setReady_20
    rw [if_neg (nI_pos (by omega)), if_neg (show ¬ Int32.ofNat 16 ≤ nI a from nI_ge ha2 (by omega)), nI_clamp (by omega)]
    rfl
  have h1 : qe_A R (qa_wi σ (R, 5) a 0) (upd s (1 + 7 * a + 3) 0) := ra_w h.1 (by omega) (by omega) (by omega) (by rw [qx_sl ha2 (by omega)]) (by rw [qx_sl ha2 (by omega)])
  have g1 : (qa_wi σ (R, 5) a 0).1 (R, 14) 3 = s 166 := by rw [ra_166 h1, pk_un (by omega)]
  have h2 : qe_A R (qa_wi (qa_wi σ (R, 5) a 0) (R, 6) a (s 166)) (upd (upd s (1 + 7 * a + 3) 0) (1 + 7 * a + 4) (s 166)) := ra_w h1 (by omega) (by omega) (by omega) (by rw [qx_sl ha2 (by omega)]) (by rw [qx_sl ha2 (by omega)])
  have g2 : (qa_wi (qa_wi σ (R, 5) a 0) (R, 6) a (s 166)).1 (R, 7) a = s (1 + 7 * a + 5) := by rw [ra_b h2 ha2, pk_un (by omega), pk_un (by omega)]
  have h3 : qe_A R (qa_wi (qa_wi (qa_wi σ (R, 5) a 0) (R, 6) a (s 166)) (R, 7) a (s (1 + 7 * a + 5) + 1)) (upd (upd (upd s (1 + 7 * a + 3) 0) (1 + 7 * a + 4) (s 166)) (1 + 7 * a + 5) (s (1 + 7 * a + 5) + 1)) := ra_w h2 (by omega) (by omega) (by omega) (by rw [qx_sl ha2 (by omega)]) (by rw [qx_sl ha2 (by omega)])
  have g3 : (qa_wi (qa_wi (qa_wi σ (R, 5) a 0) (R, 6) a (s 166)) (R, 7) a (s (1 + 7 * a + 5) + 1)).1 (R, 2) a = s (1 + 7 * a) := by rw [ra_c h3 ha2, pk_un (by omega), pk_un (by omega), pk_un (by omega)]
  have g4 : (qa_wi (qa_wi (qa_wi σ (R, 5) a 0) (R, 6) a (s 166)) (R, 7) a (s (1 + 7 * a + 5) + 1)).1 (R, 12) 4 = qr_ta s := by
    rw [wi_np (by simp), wi_np (by simp), wi_np (by simp)]
    exact h.2
  have e : qa_fX1_putOnFire R (nI a) σ = qa_wi (qa_wi (qa_wi (qa_wi (qa_wi σ (R, 5) a 0) (R, 6) a (s 166)) (R, 7) a (s (1 + 7 * a + 5) + 1)) (R, 12) 4 (qr_ta s - s (1 + 7 * a))) (R, 15) 5 (s 173 + 1) := by
    have h5 : qe_A R (qa_wi (qa_wi (qa_wi (qa_wi σ (R, 5) a 0) (R, 6) a (s 166)) (R, 7) a (s (1 + 7 * a + 5) + 1)) (R, 12) 4 (qr_ta s - s (1 + 7 * a))) (upd (upd (upd s (1 + 7 * a + 3) 0) (1 + 7 * a + 4) (s 166)) (1 + 7 * a + 5) (s (1 + 7 * a + 5) + 1)) := ra_o h3 (Or.inr (Or.inr ⟨rfl, by omega⟩))
    have g5 := ra_173 h5
    rw [pk_un (by omega), pk_un (by omega), pk_un (by omega)] at g5
    unfold qa_fX1_putOnFire
    dsimp only
    simp only [e1, g1, set_in (n := 16) ha2 (by omega), at_in (n := 16) ha2 (by omega), g2, qk_a1, g3, g4, g5]
  rw [e]
  refine ⟨⟨?_, ?_⟩, ?_, fun k => ?_⟩
  · exact ra_w (ra_o h3 (Or.inr (Or.inr ⟨rfl, by omega⟩))) (by omega) (by omega) (by omega) rfl rfl
  · rw [wi_np (by simp), wi_eq, qz_eq, bu_ta hs he ha hl h4]
    have b1 := qr_ta_b hs
    have b2 := (hs.2.2 a ha2).2.2.2.2.1 (by have := qn_int hs.1; omega)
    rw [qz_sub (by omega) (by omega)]
  · exact qe_Ft (qe_Ft (qe_Ft (qe_Ft (qe_Fw (by omega)) (qe_Fw (by omega))) (qe_Fw (by omega))) (qe_Fw (by omega))) (qe_Fw (by omega))
  · rw [wi_np (by simp), wi_np (by simp), wi_np (by simp), wi_np (by simp), wi_np (by simp)]
end QCA
