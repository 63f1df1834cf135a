/-! the reference reads a whole text, follows it -/
section QGO
variable {ρ σ σ' : qa_T} {s t : qs} {y o : Int32} {B : Nat → Int32} {L i e n : Nat}
theorem tx_db {m : Nat} : ∀ (f q n : Nat), q ≤ L → n ≤ m → q ≤ (tx_d B L m f q n).1 ∧ (tx_d B L m f q n).1 ≤ L ∧ (tx_d B L m f q n).2 ≤ m := by
  intro f
  induction f with
  | zero => intro q n h h2; exact ⟨Nat.le_refl _, h, h2⟩
  | succ f ih =>
    intro q n h h2
    rw [tx_d]
    split
    · rename_i c
      have c2 := c.2.1
      unfold tx_dg at c2
      rw [Bool.and_eq_true, decide_eq_true_eq, decide_eq_true_eq] at c2
      have := ih (q + 1) (10 * n + ((B q).toInt - 48).toNat) (by omega) (by omega)
      exact ⟨by omega, this.2.1, this.2.2⟩
    · exact ⟨Nat.le_refl _, h, h2⟩
theorem tx_qr (h : tx_q B L i = .inr (e, n)) : i < e ∧ e ≤ L ∧ tx_L (B i) ∧ n ≤ 100 ∧ (¬ B i = 116 → n ≤ 15) := by
  unfold tx_q at h
  by_cases c1 : i < L ∧ B i = 110
  · rw [if_pos c1] at h
    have h1 := Prod.mk.inj (Sum.inr.inj h)
    exact ⟨by omega, by omega, Or.inr (Or.inl c1.2), by omega, fun _ => by omega⟩
  · rw [if_neg c1] at h
    by_cases c2 : i < L ∧ (tx_sl (B i) = true ∨ B i = 116)
    · rw [if_pos c2] at h
      by_cases c3 : i + 1 < L ∧ tx_dg B (i + 1) = true ∧ (B i = 116 → 49 ≤ (B (i + 1)).toInt)
      · rw [if_pos c3] at h
        have h1 := Sum.inr.inj h
        have h2 := c3.2.1
        unfold tx_dg at h2
        rw [Bool.and_eq_true, decide_eq_true_eq, decide_eq_true_eq] at h2
        have hm : 15 ≤ tx_m (B i) ∧ tx_m (B i) ≤ 100 ∧ (¬ B i = 116 → tx_m (B i) ≤ 15) := by
          unfold tx_m
          split
          · rename_i c; exact ⟨by omega, by omega, fun t => absurd c t⟩
          · exact ⟨by omega, by omega, fun _ => by omega⟩
        have h3 := tx_db (B := B) (L := L) (m := tx_m (B i)) 60 (i + 2) ((B (i + 1)).toInt - 48).toNat (by omega) (by omega)
        rw [h1] at h3
        dsimp only at h3
        refine ⟨by omega, h3.2.1, ?_, by omega, fun t => Nat.le_trans h3.2.2 (hm.2.2 t)⟩
        rcases c2.2 with c4 | c4
        · unfold tx_sl at c4
          simp only [Bool.or_eq_true, decide_eq_true_eq] at c4
          rcases c4 with (c4 | c4) | c4
          · exact Or.inr (Or.inr (Or.inl c4))
          · exact Or.inr (Or.inr (Or.inr (Or.inl c4)))
          · exact Or.inr (Or.inr (Or.inr (Or.inr c4)))
        · exact Or.inl c4
      · rw [if_neg c3] at h
        cases h
    · rw [if_neg c2] at h
      cases h
theorem tx_ql (h : tx_q B L i = .inl e) (hi : i ≤ L) : e ≤ L := by
  unfold tx_q at h
  by_cases c1 : i < L ∧ B i = 110
  · rw [if_pos c1] at h
    cases h
  · rw [if_neg c1] at h
    by_cases c2 : i < L ∧ (tx_sl (B i) = true ∨ B i = 116)
    · rw [if_pos c2] at h
      by_cases c3 : i + 1 < L ∧ tx_dg B (i + 1) = true ∧ (B i = 116 → 49 ≤ (B (i + 1)).toInt)
      · rw [if_pos c3] at h
        cases h
      · rw [if_neg c3] at h
        have := Sum.inl.inj h
        omega
    · rw [if_neg c2] at h
      have := Sum.inl.inj h
      omega
def tx_b (b : Bool) : Int32 := if b = true then 1 else 0
theorem go_0 {a1 : Bool} {f : Nat} {τ : qa_T} (hf : 0 < f) : qa_fX10_go_17 a1 f 0 τ = some (true, τ) := by
  obtain ⟨f, rfl⟩ : ∃ i, f = i + 1 := ⟨f - 1, by omega⟩
  rw [qa_fX10_go_17, if_pos rfl]
/-- a part has been read and its order followed: on it goes -/
theorem go_s {a1 : Bool} {f : Nat} (h : tx_R ρ B L) (hL : L ≤ 60) (hf : 0 < f) (he : e ≤ L) : (if (qw (ro ρ (nI e) 0 o) s y).1 (10, 21) 8 ≤ (qw (ro ρ (nI e) 0 o) s y).1 (10, 21) 11 then qa_fX10_go_63 a1 (qa_fX10_go_17 a1 f) (qw (ro ρ (nI e) 0 o) s y) else qa_fX10_go_64 a1 (qa_fX10_go_17 a1 f) (Int32.ofInt 1) (qw (ro ρ (nI e) 0 o) s y)) = (if e < L then (if B e = 59 then qa_fX10_go_17 a1 f 1 (qw (ro ρ (nI (e + 1)) 0 o) s y) else some (true, qw (ro ρ (nI e) 1 o) s y)) else some (true, qw (ro ρ (nI e) 0 o) s y)) := by
  rw [ro_8, h.1, ro_a]
  by_cases c : e < L
  · rw [if_neg (nI_ge c (by omega)), if_pos c]
    unfold qa_fX10_go_64 qa_fX10_go_90
    have g := rf_sg (ρ := ρ) (B := B) (L := L) (q := e) (lo := 59) (hi := 59) (o := o) (s := s) (y := y) h hL (by decide) (by omega)
    rw [qk_a1, if_neg (by decide), qk_b59]
    by_cases c2 : B e = 59
    · have c3 : e < L ∧ (59 : Int32).toInt ≤ (B e).toInt ∧ (B e).toInt ≤ (59 : Int32).toInt := ⟨c, by rw [c2]; decide, by rw [c2]; decide⟩
      rw [if_pos c3] at g
      rw [g, Option.bind_some, if_pos c2]
      dsimp only
      rw [ro_w, if_neg (not_not_intro rfl)]
    · have c3 : ¬ (e < L ∧ (59 : Int32).toInt ≤ (B e).toInt ∧ (B e).toInt ≤ (59 : Int32).toInt) := fun t => c2 (by rw [qz_eq]; omega)
      rw [if_neg c3] at g
      rw [g, Option.bind_some, if_neg c2]
      dsimp only
      rw [ro_w, if_pos (by decide), qk_a0, go_0 hf]
  · rw [if_pos (nI_le (by omega) (by omega)), if_neg c]
    unfold qa_fX10_go_63 qa_fX10_go_64
    rw [qk_a0, if_pos rfl, go_0 hf]
theorem tx_p1 {f : Nat} (c : tx_q B L i = .inl e) : tx_p B L (f + 1) i = (true, e) := by
  rw [tx_p, c]
theorem tx_p2 {f : Nat} (c : tx_q B L i = .inr (e, n)) : tx_p B L (f + 1) i = if e < L then (if B e = 59 then tx_p B L f (e + 1) else (true, e)) else (false, e) := by
  rw [tx_p, c]
theorem rf_g0 (h : tx_R ρ B L) (hL : L ≤ 60) : ∀ (m f i : Nat) (o : Int32), i ≤ L → L - i < m → m < f → ∃ o', qa_fX10_go_17 false f 1 (qw (ro ρ (nI i) 0 o) s y) = some (true, qw (ro ρ (nI (tx_p B L m i).2) (tx_b (tx_p B L m i).1) o') s y) := by
  intro m
  induction m with
  | zero => intro f i o _ h2; omega
  | succ m ih =>
    intro f i o hi hm hf
    obtain ⟨f, rfl⟩ : ∃ i, f = i + 1 := ⟨f - 1, by omega⟩
    rw [qa_fX10_go_17, if_neg (by decide)]
    obtain ⟨x, v, g1, -⟩ := rf_or (s := s) (y := y) (o := o) h hL (i := i) (by omega) false
    have e140 : ∀ τ, qa_fX10_isOrdered_140 false x v τ = some (true, τ) := fun τ => by
      unfold qa_fX10_isOrdered_140 qa_fX10_isOrdered_156
      rw [if_pos (show qa_bi false = 0 from rfl)]
    rw [g1, e140, Option.bind_some]
    dsimp only
    rw [if_pos (by decide), ro_o, ro_13, ro_w]
    cases c : tx_q B L i with
    | inl e =>
      rw [tx_p1 c]
      unfold tx_w tx_e
      dsimp only
      rw [if_pos (by decide)]
      unfold qa_fX10_go_63 qa_fX10_go_64
      rw [qk_a0, if_pos rfl, go_0 (by omega)]
      exact ⟨_, rfl⟩
    | inr x =>
      obtain ⟨e, n⟩ := x
      obtain ⟨h1, h2, _⟩ := tx_qr c
      rw [tx_p2 c]
      unfold tx_w tx_e
      dsimp only
      rw [if_neg (not_not_intro rfl), go_s h hL (by omega) h2]
      by_cases c1 : e < L
      · rw [if_pos c1, if_pos c1]
        by_cases c2 : B e = 59
        · rw [if_pos c2, if_pos c2]
          exact ih f (e + 1) _ (by omega) (by omega) (by omega)
        · rw [if_neg c2, if_neg c2]
          exact ⟨_, rfl⟩
      · rw [if_neg c1, if_neg c1]
        exact ⟨_, rfl⟩
/-- a text without a fault is followed -/
def tx_go (B : Nat → Int32) (L : Nat) : Nat → Nat → Nat → qs → Bool × Nat × qs
  | 0, _, k, s => (true, k, s)
  | f + 1, i, k, s => match tx_q B L i with
    | .inl _ => (true, k, s)
    | .inr (e, n) => if (qr_or (B i) n s).1 = true then (if e < L then tx_go B L f (e + 1) (k + 1) (qr_or (B i) n s).2 else (true, k + 1, (qr_or (B i) n s).2)) else (false, k, (qr_or (B i) n s).2)
theorem tx_g2 {f k : Nat} (c : tx_q B L i = .inr (e, n)) : tx_go B L (f + 1) i k s = if (qr_or (B i) n s).1 = true then (if e < L then tx_go B L f (e + 1) (k + 1) (qr_or (B i) n s).2 else (true, k + 1, (qr_or (B i) n s).2)) else (false, k, (qr_or (B i) n s).2) := by
  rw [tx_go, c]
theorem rf_g1 (h : tx_R ρ B L) (hL : L ≤ 60) : ∀ (m f i N k : Nat) (s : qs) (y : Int32), i ≤ L → L - i < m → m < f → (tx_p B L m i).1 = false → qi_P N s → N + 400 * m + 1000 < 2147483647 → ∃ a' w' y', qa_fX10_go_17 true f 1 (qw (ro ρ (nI i) 0 (nI k)) s y) = some ((tx_go B L m i k s).1, qw (ro ρ a' w' (nI (tx_go B L m i k s).2.1)) (tx_go B L m i k s).2.2 y') ∧ qi_P (N + 400 * m) (tx_go B L m i k s).2.2 := by
  intro m
  induction m with
  | zero => intro f i N k s y _ h2; omega
  | succ m ih =>
    intro f i N k s y hi hm hf hp hP hN
    obtain ⟨f, rfl⟩ : ∃ i, f = i + 1 := ⟨f - 1, by omega⟩
    cases c : tx_q B L i with
    | inl e =>
      rw [tx_p1 c] at hp
      cases hp
    | inr x =>
      obtain ⟨e, n⟩ := x
      obtain ⟨h1, h2, h3, h4, h5⟩ := tx_qr c
      rw [tx_p2 c] at hp
      obtain ⟨x, v, g1, g2⟩ := rf_or (s := s) (y := y) (o := nI k) h hL (i := i) (by omega) true
      obtain ⟨g2, g3⟩ := g2 e n c
      obtain ⟨y', g4⟩ := rf_fo (ρ := ro ρ (nI e) 0 (nI k)) (y := y) hP h3 h4 h5 (by omega)
      have hP2 := or_P (l := B i) hP h4 (by omega)
      rw [qa_fX10_go_17, if_neg (by decide), g1, c]
      unfold tx_w tx_e
      dsimp only
      have e140 : qa_fX10_isOrdered_140 true x v (qw (ro ρ (nI e) 0 (nI k)) s y) = some ((qr_or (B i) n s).1, qw (ro ρ (nI e) 0 (nI k)) (qr_or (B i) n s).2 y') := by
        unfold qa_fX10_isOrdered_140 qa_fX10_isOrdered_156
        rw [if_neg (by decide), g2, g3, g4, Option.bind_some]
        dsimp only
        cases hb : (qr_or (B i) n s).1
        · rw [if_pos (show qa_bi false = 0 from rfl)]
        · rw [if_neg (by decide)]
      rw [e140, Option.bind_some, tx_g2 c]
      dsimp only
      by_cases cb : (qr_or (B i) n s).1 = true
      · rw [if_pos cb, cb, if_pos (by decide), ro_o, ro_13, ro_w, if_neg (not_not_intro rfl), show nI k + Int32.ofInt 1 = nI (k + 1) by rw [qk_a1, nI_1], go_s h hL (by omega) h2]
        by_cases c1 : e < L
        · rw [if_pos c1] at hp ⊢
          rw [if_pos c1]
          by_cases c2 : B e = 59
          · rw [if_pos c2] at hp ⊢
            obtain ⟨a', w', y'', b1, b2⟩ := ih f (e + 1) (N + 400) (k + 1) _ y' (by omega) (by omega) (by omega) hp hP2 (by omega)
            rw [show N + 400 * (m + 1) = N + 400 + 400 * m by omega]
            exact ⟨a', w', y'', b1, b2⟩
          · rw [if_neg c2] at hp
            cases hp
        · rw [if_neg c1, if_neg c1]
          exact ⟨_, _, _, rfl, qi_Pu hP2 (by omega)⟩
      · rw [if_neg cb, Bool.eq_false_iff.mpr cb, if_neg (by decide)]
        exact ⟨_, _, _, rfl, qi_Pu hP2 (by omega)⟩
end QGO
