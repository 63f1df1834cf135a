/-! the digest (2): the reference -/
section QMP
variable {σ σ1 σ' τ ρ ρ0 ρ' : qa_T} {s t : qs} {X : Nat → Int32} {N k f n L L2 : Nat} {U V : Nat → qs} {Z : Nat → Bool} {B : Nat → Int32} {x a1 : Int32} {v w b : Int64}
def ha (g : Nat → Int32) : Nat → Nat → Int64 → Int64
  | 0, _, v => v
  | j + 1, i, v => ha g j (i + 1) (hx v (g i).toInt64)
def hl (s : qs) : Nat → Nat → Int64 → Int64
  | 0, _, v => v
  | j + 1, a, v => hl s j (a + 1) (hs_s s a v)
/-- the digest's end, by the reference -/
def qE (ρ0 : qa_T) (s : qs) (k : Nat) (U : Nat → qs) (Z : Nat → Bool) (V : Nat → qs) (L : Nat) (B : Nat → Int32) (v : Int64) (F : Option (Int64 × qa_T)) : Prop := ∃ ρ', F = some (v, ρ') ∧ qj_R ρ' s k U Z V L B ∧ qe_rr ρ0 ρ'
theorem rD_448 (hL : L2 ≤ 60) : ∀ (j i f : Nat) (v : Int64) (ρ : qa_T), i + j = L2 → j < f → qD ρ0 s k U Z V L2 B v ρ → qE ρ0 s k U Z V L2 B (ha B j i v) (qa_fX10_digest_448 f (nI i) ρ) := by
  intro j
  induction j with
  | zero =>
    intro i f v ρ hi hf h
    obtain ⟨f, rfl⟩ : ∃ i, f = i + 1 := ⟨f - 1, by omega⟩
    rw [qa_fX10_digest_448, h.1.2.2.2.2.2.1, if_pos (nI_le (by omega) (by omega)), h.2.2]
    exact ⟨ρ, rfl, h.1, h.2.1⟩
  | succ j ih =>
    intro i f v ρ hi hf h
    obtain ⟨f, rfl⟩ : ∃ i, f = i + 1 := ⟨f - 1, by omega⟩
    rw [qa_fX10_digest_448, h.1.2.2.2.2.2.1, if_neg (nI_ge (by omega) (by omega)), qz_ifn (by omega) (by omega), nI_clamp (by omega), h.1.2.2.2.2.2.2 i (by omega), qk_a1, nI_1]
    exact ih (i + 1) f _ _ (by omega) (by omega) (mx_D h)
theorem rD_434 (hL : L2 ≤ 60) (h : qD ρ0 s k U Z V L2 B v ρ) : qE ρ0 s k U Z V L2 B (ha B L2 0 (hx (hx v w) (nI L2).toInt64)) (qa_fX10_digest_434 w ρ) := by
  have h1 := mx_D (w := w) h
  unfold qa_fX10_digest_434
  dsimp only
  rw [h1.1.2.2.2.2.2.1]
  exact rD_448 hL L2 0 qa_fu _ _ (by omega) (by unfold qa_fu; omega) (mx_D h1)
theorem rD_416 (hL : L2 ≤ 60) (h : qD ρ0 s k U Z V L2 B v ρ) : qE ρ0 s k U Z V L2 B (ha B L2 0 (hx (hx (hx v w) (bL (Z 1))) (nI L2).toInt64)) (qa_fX10_digest_416 w ρ) := by
  have h1 := mx_D (w := w) h
  have e : (qa_fX10_mix w ρ).1 (10, 25) ((Int32.ofInt 1)).toNatClampNeg = qa_bi (Z 1) := h1.1.2.2.2.1 1 (by omega)
  unfold qa_fX10_digest_416
  dsimp only
  rw [e]
  have g := rD_434 (w := bL (Z 1)) hL h1
  unfold bL at g ⊢
  cases hz : Z 1
  · rw [hz, if_pos (show qa_bi false = 0 from rfl)] at g
    rw [if_pos (show qa_bi false = 0 from rfl), if_pos (show qa_bi false = 0 from rfl)]
    exact g
  · rw [hz, if_neg (show ¬ qa_bi true = 0 by decide)] at g
    rw [if_neg (show ¬ qa_bi true = 0 by decide), if_neg (show ¬ qa_bi true = 0 by decide)]
    exact g
theorem rD_352 (hL : L2 ≤ 60) (hI : qi_I N s) (hN : 2 * N < 2147483647) (hb : ∀ τ : qa_T, qa_fX10_bitsOf (qd_w (s 169) (s 170)) ((Int8.ofInt 52).toInt32) ((Int16.ofInt 1023).toInt32) τ = some b) : ∀ (j i f : Nat) (v : Int64) (ρ : qa_T), i + j = 175 → j < f → qD ρ0 s k U Z V L2 B v ρ → qE ρ0 s k U Z V L2 B (ha B L2 0 (hx (hx (hx (hx (hx (ha s j i v) (nI k).toInt64) b) (bL (Z 0))) (bL (Z 1))) (nI L2).toInt64)) (qa_fX10_digest_352 f (nI i) ρ) := by
  have e174 : ((Int16.ofInt 174).toInt32) = nI 174 := rfl
  intro j
  induction j with
  | zero =>
    intro i f v ρ hi hf h
    obtain ⟨f, rfl⟩ : ∃ i, f = i + 1 := ⟨f - 1, by omega⟩
    have h1 := mx_D (w := (nI k).toInt64) h
    rw [qa_fX10_digest_352, e174, if_pos (nI_lt (by omega) (by omega)), h.1.2.1]
    dsimp only
    rw [sh_r h1.1 hI hN, Option.bind_some, hb, Option.bind_some]
    have h2 := mx_D (w := b) h1
    have e : (qa_fX10_mix b (qa_fX10_mix (nI k).toInt64 ρ)).1 (10, 25) ((Int32.ofInt 0)).toNatClampNeg = qa_bi (Z 0) := h2.1.2.2.2.1 0 (by omega)
    rw [e]
    have g := rD_416 (w := bL (Z 0)) hL h2
    rw [show ha s 0 i v = v from rfl]
    have eb : ∀ z, Z 0 = z → bL (Z 0) = (if qa_bi z = 0 then Int64.ofNat ((0 : Fin 2) : Nat) else Int64.ofNat ((1 : Fin 2) : Nat)) := fun z hz => by rw [hz]; rfl
    cases hz : Z 0
    · have e2 := eb _ hz
      rw [if_pos (show qa_bi false = 0 from rfl)] at e2
      rw [hz] at e2 g
      rw [e2] at g ⊢
      rw [if_pos (show qa_bi false = 0 from rfl)]
      exact g
    · have e2 := eb _ hz
      rw [if_neg (show ¬ qa_bi true = 0 by decide)] at e2
      rw [hz] at e2 g
      rw [e2] at g ⊢
      rw [if_neg (show ¬ qa_bi true = 0 by decide)]
      exact g
  | succ j ih =>
    intro i f v ρ hi hf h
    obtain ⟨f, rfl⟩ : ∃ i, f = i + 1 := ⟨f - 1, by omega⟩
    rw [qa_fX10_digest_352, e174, if_neg (nI_nlt (by omega) (by omega)), qz_ifn (by omega) (by omega), nI_clamp (by omega), h.1.1, qk_a1, nI_1]
    exact ih (i + 1) f _ _ (by omega) (by omega) (mx_D h)
def h5 (k : Nat) (b : Int64) (Z : Nat → Bool) (L : Nat) (B : Nat → Int32) (v : Int64) : Int64 := ha B L 0 (hx (hx (hx (hx (hx v (nI k).toInt64) b) (bL (Z 0))) (bL (Z 1))) (nI L).toInt64)
def hW (s : qs) : Int32 := if s 142 = -1 then 0 else nI (qr_wn s)
def h3 (s : qs) (v : Int64) : Int64 := ha s 7 168 (hx (hx v (hW s).toInt64) (hW s).toInt64)
def h2 (s : qs) (v : Int64) : Int64 := ha s 5 163 (hx (hx v (qr_ta s).toInt64) (qr_ta s).toInt64)
def h1' (s : qs) (v : Int64) : Int64 := ha (fun i => s (147 + i)) (qn (s 146)) 0 (hx (hx (hx v (s 144 + 1).toInt64) (s 145).toInt64) (s 146).toInt64)
def h0' (s : qs) (v : Int64) : Int64 := hx (hx (hx (hx (hx (hx (ha (fun i => s (114 + i)) (qn (s 113)) 0 v) (s 138 + 1).toInt64) (s 139 + 1).toInt64) (s 140 + 1).toInt64) (s 141).toInt64) (s 142 + 1).toInt64) (s 143).toInt64
theorem rD_335 (hL : L2 ≤ 60) (hI : qi_I N s) (hN : 2 * N < 2147483647) (hb : ∀ τ : qa_T, qa_fX10_bitsOf (qd_w (s 169) (s 170)) ((Int8.ofInt 52).toInt32) ((Int16.ofInt 1023).toInt32) τ = some b) (h : qD ρ0 s k U Z V L2 B v ρ) : qE ρ0 s k U Z V L2 B (h5 k b Z L2 B (h3 s v)) (qa_fX10_digest_335 (hW s) ρ) := by
  unfold qa_fX10_digest_335
  exact rD_352 hL hI hN hb 7 168 qa_fu _ _ (by omega) (by unfold qa_fu; omega) (mx_D (mx_D h))
theorem rD_291 (hL : L2 ≤ 60) (hP : qi_P N s) (hN : 2 * N + 200 < 2147483647) (hb : ∀ τ : qa_T, qa_fX10_bitsOf (qd_w (s 169) (s 170)) ((Int8.ofInt 52).toInt32) ((Int16.ofInt 1023).toInt32) τ = some b) : ∀ (j i f : Nat) (v : Int64) (ρ : qa_T), i + j = 168 → j < f → qD ρ0 s k U Z V L2 B v ρ → qE ρ0 s k U Z V L2 B (h5 k b Z L2 B (h3 s (ha s j i v))) (qa_fX10_digest_291 f (nI i) ρ) := by
  have e167 : ((Int16.ofInt 167).toInt32) = nI 167 := rfl
  intro j
  induction j with
  | zero =>
    intro i f v ρ hi hf h
    obtain ⟨f, rfl⟩ : ∃ i, f = i + 1 := ⟨f - 1, by omega⟩
    have e142 : ρ.1 (10, 22) (((Int16.ofInt 142).toInt32)).toNatClampNeg = s 142 := by rw [h.1.1]; rfl
    rw [qa_fX10_digest_291, e167, if_pos (nI_lt (by omega) (by omega)), e142, qk_am1]
    by_cases c : s 142 = -1
    · have g := rD_335 hL hP.1 (by omega) hb h
      rw [if_neg (not_not_intro c)]
      have e : hW s = Int32.ofInt 0 := by unfold hW; rw [if_pos c]; rfl
      rw [← e]
      exact g
    · have h4 : ¬ s 144 = -1 := fun t => c (hP.2.1 t).1
      obtain ⟨ρ', y', g1, g2⟩ := rf_un (ρ := ρ) (y := ρ.1 (10, 21) 10) hP.1 c h4 (by omega)
      rw [← jr_self h.1] at g1
      rw [if_pos c, g1, Option.bind_some]
      have e : hW s = nI (qr_wn s) := by unfold hW; rw [if_neg c]
      dsimp only
      rw [← e]
      refine rD_335 hL hP.1 (by omega) hb ⟨jr_qw (O_27 h.1 g2), rr_t h.2.1 (rr_t (rr_27 g2) rr_qw), ?_⟩
      show ρ'.2 (10, 21) 14 = _
      rw [g2.2]
      exact h.2.2
  | succ j ih =>
    intro i f v ρ hi hf h
    obtain ⟨f, rfl⟩ : ∃ i, f = i + 1 := ⟨f - 1, by omega⟩
    rw [qa_fX10_digest_291, e167, if_neg (nI_nlt (by omega) (by omega)), qz_ifn (by omega) (by omega), nI_clamp (by omega), h.1.1, qk_a1, nI_1]
    exact ih (i + 1) f _ _ (by omega) (by omega) (mx_D h)
theorem rD_236 (hL : L2 ≤ 60) (hP : qi_P N s) (hN : 2 * N + 200 < 2147483647) (hb : ∀ τ : qa_T, qa_fX10_bitsOf (qd_w (s 169) (s 170)) ((Int8.ofInt 52).toInt32) ((Int16.ofInt 1023).toInt32) τ = some b) : ∀ (j i f : Nat) (v : Int64) (ρ : qa_T), i + j = qn (s 146) → j < f → qD ρ0 s k U Z V L2 B v ρ → qE ρ0 s k U Z V L2 B (h5 k b Z L2 B (h3 s (h2 s (ha (fun i => s (147 + i)) j i v)))) (qa_fX10_digest_236 f (nI i) ρ) := by
  have hq := qi_q hP.1.1.2.2.2.2.1
  have tk : ∀ ρ, qj_R ρ s k U Z V L2 B → qa_fX10_taken ρ = some (qr_ta s) := fun ρ h => by
    rw [jr_self h]
    exact rf_tk (qi_n hP.1.1.1).2 (qi_n hP.1.1.1).1
  have e147 : ((Int16.ofInt 147).toInt32) = nI 147 := rfl
  intro j
  induction j with
  | zero =>
    intro i f v ρ hi hf h
    obtain ⟨f, rfl⟩ : ∃ i, f = i + 1 := ⟨f - 1, by omega⟩
    have e146 : ρ.1 (10, 22) (((Int16.ofInt 146).toInt32)).toNatClampNeg = nI (qn (s 146)) := by rw [h.1.1, ← hq.1]; rfl
    have g1 := mx_D (w := (qr_ta s).toInt64) h
    rw [qa_fX10_digest_236, e146, if_pos (nI_le (by omega) (by omega)), tk _ h.1, Option.bind_some]
    dsimp only
    rw [tk _ g1.1, Option.bind_some]
    exact rD_291 hL hP hN hb 5 163 qa_fu _ _ (by omega) (by unfold qa_fu; omega) (mx_D g1)
  | succ j ih =>
    intro i f v ρ hi hf h
    obtain ⟨f, rfl⟩ : ∃ i, f = i + 1 := ⟨f - 1, by omega⟩
    have e146 : ρ.1 (10, 22) (((Int16.ofInt 146).toInt32)).toNatClampNeg = nI (qn (s 146)) := by rw [h.1.1, ← hq.1]; rfl
    rw [qa_fX10_digest_236, e146, if_neg (nI_ge (by omega) (by omega)), e147, nI_add, qz_ifn (by omega) (by omega), nI_clamp (by omega), h.1.1, qk_a1, nI_1]
    exact ih (i + 1) f _ _ (by omega) (by omega) (mx_D h)
theorem rD_190 (hL : L2 ≤ 60) (hP : qi_P N s) (hN : 2 * N + 200 < 2147483647) (hb : ∀ τ : qa_T, qa_fX10_bitsOf (qd_w (s 169) (s 170)) ((Int8.ofInt 52).toInt32) ((Int16.ofInt 1023).toInt32) τ = some b) (h : qD ρ0 s k U Z V L2 B v ρ) : qE ρ0 s k U Z V L2 B (h5 k b Z L2 B (h3 s (h2 s (h1' s (hx v w))))) (qa_fX10_digest_190 w ρ) := by
  have hq := qi_q hP.1.1.2.2.2.2.1
  have g1 := mx_D (w := w) h
  unfold qa_fX10_digest_190
  dsimp only
  generalize qa_fX10_mix w ρ = ρ1 at g1 ⊢
  have e1 : ρ1.1 (10, 22) (((Int16.ofInt 144).toInt32)).toNatClampNeg = s 144 := by rw [g1.1.1]; rfl
  rw [e1, qk_a1]
  have g2 := mx_D (w := (s 144 + 1).toInt64) g1
  generalize qa_fX10_mix (s 144 + 1).toInt64 ρ1 = ρ2 at g2 ⊢
  have e2 : ρ2.1 (10, 22) (((Int16.ofInt 145).toInt32)).toNatClampNeg = s 145 := by rw [g2.1.1]; rfl
  rw [e2]
  have g3 := mx_D (w := (s 145).toInt64) g2
  generalize qa_fX10_mix (s 145).toInt64 ρ2 = ρ3 at g3 ⊢
  have e3 : ρ3.1 (10, 22) (((Int16.ofInt 146).toInt32)).toNatClampNeg = s 146 := by rw [g3.1.1]; rfl
  rw [e3]
  exact rD_236 hL hP hN hb (qn (s 146)) 0 qa_fu _ _ (by omega) (by unfold qa_fu; omega) (mx_D g3)
theorem rD_60 (hL : L2 ≤ 60) (hP : qi_P N s) (hN : 2 * N + 200 < 2147483647) (hb : ∀ τ : qa_T, qa_fX10_bitsOf (qd_w (s 169) (s 170)) ((Int8.ofInt 52).toInt32) ((Int16.ofInt 1023).toInt32) τ = some b) : ∀ (j i f : Nat) (v : Int64) (ρ : qa_T), i + j = qn (s 113) → j < f → qD ρ0 s k U Z V L2 B v ρ → qE ρ0 s k U Z V L2 B (h5 k b Z L2 B (h3 s (h2 s (h1' s (hx (hx (hx (hx (hx (hx (ha (fun i => s (114 + i)) j i v) (s 138 + 1).toInt64) (s 139 + 1).toInt64) (s 140 + 1).toInt64) (s 141).toInt64) (s 142 + 1).toInt64) (s 143).toInt64))))) (qa_fX10_digest_60 f (nI i) ρ) := by
  have hp := qi_p hP.1.1.2.1
  have e114 : ((Int8.ofInt 114).toInt32) = nI 114 := rfl
  intro j
  induction j with
  | zero =>
    intro i f v ρ hi hf h
    obtain ⟨f, rfl⟩ : ∃ i, f = i + 1 := ⟨f - 1, by omega⟩
    have e113 : ρ.1 (10, 22) (((Int8.ofInt 113).toInt32)).toNatClampNeg = nI (qn (s 113)) := by rw [h.1.1, ← hp.1]; rfl
    have e1 : ρ.1 (10, 22) (((Int16.ofInt 138).toInt32)).toNatClampNeg = s 138 := by rw [h.1.1]; rfl
    rw [qa_fX10_digest_60, e113, if_pos (nI_le (by omega) (by omega)), e1, qk_a1]
    dsimp only
    have g1 := mx_D (w := (s 138 + 1).toInt64) h
    generalize qa_fX10_mix (s 138 + 1).toInt64 ρ = ρ1 at g1 ⊢
    have e2 : ρ1.1 (10, 22) (((Int16.ofInt 139).toInt32)).toNatClampNeg = s 139 := by rw [g1.1.1]; rfl
    rw [e2]
    have g2 := mx_D (w := (s 139 + 1).toInt64) g1
    generalize qa_fX10_mix (s 139 + 1).toInt64 ρ1 = ρ2 at g2 ⊢
    have e3 : ρ2.1 (10, 22) (((Int16.ofInt 140).toInt32)).toNatClampNeg = s 140 := by rw [g2.1.1]; rfl
    rw [e3]
    have g3 := mx_D (w := (s 140 + 1).toInt64) g2
    generalize qa_fX10_mix (s 140 + 1).toInt64 ρ2 = ρ3 at g3 ⊢
    have e4 : ρ3.1 (10, 22) (((Int16.ofInt 141).toInt32)).toNatClampNeg = s 141 := by rw [g3.1.1]; rfl
    rw [e4]
    have g4 := mx_D (w := (s 141).toInt64) g3
    generalize qa_fX10_mix (s 141).toInt64 ρ3 = ρ4 at g4 ⊢
    have e5 : ρ4.1 (10, 22) (((Int16.ofInt 142).toInt32)).toNatClampNeg = s 142 := by rw [g4.1.1]; rfl
    rw [e5]
    have g5 := mx_D (w := (s 142 + 1).toInt64) g4
    generalize qa_fX10_mix (s 142 + 1).toInt64 ρ4 = ρ5 at g5 ⊢
    have e6 : ρ5.1 (10, 22) (((Int16.ofInt 139).toInt32)).toNatClampNeg = s 139 := by rw [g5.1.1]; rfl
    have e7 : ρ5.1 (10, 22) (((Int16.ofInt 143).toInt32)).toNatClampNeg = s 143 := by rw [g5.1.1]; rfl
    rw [e6, e7, qk_am1]
    have g6 := rD_190 (w := (s 143).toInt64) hL hP hN hb g5
    by_cases c : s 139 = -1
    · have e143 : s 143 = 0 := (hP.1.1.2.2.1.2.2.2.2.2.2.2 (by rw [c]; rfl)).2
      have e8 : Int64.ofNat ((0 : Fin 2) : Nat) = (s 143).toInt64 := by rw [e143]; rfl
      rw [if_neg (not_not_intro c), e8]
      exact g6
    · rw [if_pos c]
      exact g6
  | succ j ih =>
    intro i f v ρ hi hf h
    obtain ⟨f, rfl⟩ : ∃ i, f = i + 1 := ⟨f - 1, by omega⟩
    have e113 : ρ.1 (10, 22) (((Int8.ofInt 113).toInt32)).toNatClampNeg = nI (qn (s 113)) := by rw [h.1.1, ← hp.1]; rfl
    rw [qa_fX10_digest_60, e113, if_neg (nI_ge (by omega) (by omega)), e114, nI_add, qz_ifn (by omega) (by omega), nI_clamp (by omega), h.1.1, qk_a1, nI_1]
    exact ih (i + 1) f _ _ (by omega) (by omega) (mx_D h)
theorem rD_25 (hL : L2 ≤ 60) (hP : qi_P N s) (hN : 2 * N + 200 < 2147483647) (hb : ∀ τ : qa_T, qa_fX10_bitsOf (qd_w (s 169) (s 170)) ((Int8.ofInt 52).toInt32) ((Int16.ofInt 1023).toInt32) τ = some b) : ∀ (j i f : Nat) (v : Int64) (ρ : qa_T), i + j = qn (s 0) → j < f → qD ρ0 s k U Z V L2 B v ρ → qE ρ0 s k U Z V L2 B (h5 k b Z L2 B (h3 s (h2 s (h1' s (h0' s (hx (hl s j i v) (s 113).toInt64)))))) (qa_fX10_digest_25 f (nI i) ρ) := by
  have hn := qi_n hP.1.1.1
  have hp := qi_p hP.1.1.2.1
  intro j
  induction j with
  | zero =>
    intro i f v ρ hi hf h
    obtain ⟨f, rfl⟩ : ∃ i, f = i + 1 := ⟨f - 1, by omega⟩
    have e0 : ρ.1 (10, 22) ((Int32.ofInt 0)).toNatClampNeg = nI (qn (s 0)) := by rw [h.1.1, ← hn.1]; rfl
    have e1 : ρ.1 (10, 22) (((Int8.ofInt 113).toInt32)).toNatClampNeg = s 113 := by rw [h.1.1]; rfl
    rw [qa_fX10_digest_25, e0, if_pos (nI_le (by omega) (by omega)), e1]
    exact rD_60 hL hP hN hb (qn (s 113)) 0 qa_fu _ _ (by omega) (by unfold qa_fu; omega) (mx_D h)
  | succ j ih =>
    intro i f v ρ hi hf h
    obtain ⟨f, rfl⟩ : ∃ i, f = i + 1 := ⟨f - 1, by omega⟩
    have e0 : ρ.1 (10, 22) ((Int32.ofInt 0)).toNatClampNeg = nI (qn (s 0)) := by rw [h.1.1, ← hn.1]; rfl
    obtain ⟨ρ', g1, g2⟩ := rf_ds h hP (a := i) (by omega)
    rw [qa_fX10_digest_25, e0, if_neg (nI_ge (by omega) (by omega)), g1, Option.bind_some, qk_a1, nI_1]
    exact ih (i + 1) f _ _ (by omega) (by omega) g2
theorem rD_all (hR : qj_R ρ s k U Z V L2 B) (hL : L2 ≤ 60) (hP : qi_P N s) (hN : 2 * N + 200 < 2147483647) (hb : ∀ τ : qa_T, qa_fX10_bitsOf (qd_w (s 169) (s 170)) ((Int8.ofInt 52).toInt32) ((Int16.ofInt 1023).toInt32) τ = some b) : qE ρ s k U Z V L2 B (h5 k b Z L2 B (h3 s (h2 s (h1' s (h0' s (hx (hl s (qn (s 0)) 0 (hx 4447 (s 0).toInt64)) (s 113).toInt64)))))) (qa_fX10_digest ρ) := by
  unfold qa_fX10_digest
  dsimp only
  have h1 : qD ρ s k U Z V L2 B 4447 (qa_wl (qa_wi ρ (10, 21) 9 (Int32.ofInt 0)) (10, 21) 14 4447) := ⟨jr_9 (v := Int32.ofInt 0) hR, r9 (v := Int32.ofInt 0), by unfold qa_wl; simp [vp_updL]⟩
  have e0 : (qa_wl (qa_wi ρ (10, 21) 9 (Int32.ofInt 0)) (10, 21) 14 4447).1 (10, 22) ((Int32.ofInt 0)).toNatClampNeg = s 0 := by rw [h1.1.1]; rfl
  rw [e0]
  exact rD_25 hL hP hN hb (qn (s 0)) 0 qa_fu _ _ (by omega) (by have := (qi_n hP.1.1.1).2; unfold qa_fu; omega) (mx_D h1)
end QMP
