/-! what always holds, kept by each step (3): burning, room, loading -/
section QRO
variable {s t : qs} {N : Nat}
/-- what the slides take, as whole numbers -/
def qr_z (s : qs) (k : Nat) : Int := (qr_tf s k).toInt
def qr_zs (f : Nat → Int) : Nat → Int
  | 0 => 0
  | k + 1 => qr_zs f k + f k
theorem zs_eq (h : qi_sl s) : ∀ k : Nat, k ≤ qn (s 0) → (qr_tk s k).toInt = qr_zs (qr_z s) k := by
  intro k
  have hn := (qi_n h).2
  have hi := qn_int h.1
  induction k with
  | zero => intro _; rfl
  | succ k ih =>
    intro hk
    have h1 := ih (by omega)
    have h0 := qr_tk_b h k (by omega)
    have h2 := (h.2.2 k (by omega)).2.2.2.2.1 (by omega)
    have h3 : 0 ≤ (qr_tf s k).toInt ∧ (qr_tf s k).toInt ≤ 50 := by
      unfold qr_tf
      split
      · omega
      · rw [qk_t0]; omega
    unfold qr_tk qr_zs
    rw [qz_add (by omega) (by omega), h1]
    rfl
theorem ta_eq (h : qi_sl s) : (qr_ta s).toInt = qr_zs (qr_z s) (qn (s 0)) := zs_eq h _ (Nat.le_refl _)
theorem z_b (h : qi_sl s) {k : Nat} (hk : k < qn (s 0)) : 0 ≤ qr_z s k ∧ qr_z s k ≤ 50 := by
  have hn := (qi_n h).2
  have hi := qn_int h.1
  have h2 := (h.2.2 k (by omega)).2.2.2.2.1 (by omega)
  unfold qr_z qr_tf
  split
  · omega
  · rw [qk_t0]; omega
theorem zs_c {f g : Nat → Int} (a : Nat) : ∀ k : Nat, (∀ j, j < k → ¬ j = a → g j = f j) → qr_zs g k = qr_zs f k + (if a < k then g a - f a else 0) := by
  intro k
  induction k with
  | zero => intro _; rw [if_neg (by omega)]; rfl
  | succ k ih =>
    intro h
    unfold qr_zs
    rw [ih (fun j hj hja => h j (by omega) hja)]
    by_cases e : k = a
    · subst e
      rw [if_neg (by omega), if_pos (by omega)]
      omega
    · rw [h k (by omega) e]
      by_cases e2 : a < k
      · rw [if_pos e2, if_pos (by omega)]; omega
      · rw [if_neg e2, if_neg (by omega)]; omega
theorem zs_0 {f g : Nat → Int} : ∀ k : Nat, (∀ j, j < k → g j = f j) → qr_zs g k = qr_zs f k := by
  intro k
  induction k with
  | zero => intro _; rfl
  | succ k ih =>
    intro h
    unfold qr_zs
    rw [ih (fun j hj => h j (by omega)), h k (by omega)]
/-- at most three slides count -/
theorem zs_3 {f : Nat → Int} (p q r : Int) : ∀ k : Nat, (∀ j : Nat, j < k → 0 ≤ f j ∧ f j ≤ 50) → (∀ j : Nat, j < k → ¬ f j = 0 → p = j ∨ q = j ∨ r = j) → qr_zs f k ≤ (if 0 ≤ p ∧ p < k then 50 else 0) + (if 0 ≤ q ∧ q < k then 50 else 0) + (if 0 ≤ r ∧ r < k then 50 else 0) := by
  intro k
  induction k with
  | zero =>
    intro _ _
    unfold qr_zs
    omega
  | succ k ih =>
    intro h1 h2
    have h3 := ih (fun j hj => h1 j (by omega)) (fun j hj => h2 j (by omega))
    have h4 := h1 k (by omega)
    have h5 := h2 k (by omega)
    unfold qr_zs
    by_cases e : f k = 0
    · rw [e]
      repeat' split at h3 <;> (try split) <;> omega
    · have h6 := h5 e
      repeat' split at h3
      all_goals (repeat' split)
      all_goals omega
theorem ta_3 (h : qi_sl s) (hl : qr_li s []) : (qr_ta s).toInt ≤ 100 + (if 0 ≤ (s 144).toInt then 50 else 0) := by
  have hn := (qi_n h).2
  rw [ta_eq h]
  have h1 := zs_3 (f := qr_z s) (s 139).toInt (s 140).toInt (s 144).toInt (qn (s 0)) (fun j hj => z_b h hj) (fun j hj hf => by
    unfold qr_z qr_tf at hf
    by_cases c : qr_ld s j = true ∨ s 144 = nI j
    · rcases c with c | c
      · have h2 : ¬ qr_cb s j = true := fun t => by
          have := (hl.2 j).mpr ⟨hj, t⟩
          cases this
        unfold qr_cb qr_os at h2
        rw [c] at h2
        simp only [Bool.true_and, Bool.not_eq_true', Bool.not_eq_false, Bool.or_eq_true, decide_eq_true_eq] at h2
        rcases h2 with h2 | h2
        · left; rw [← h2, qz_nI (by omega)]
        · right; left; rw [← h2, qz_nI (by omega)]
      · right; right; rw [c, qz_nI (by omega)]
    · rw [if_neg c, qk_t0] at hf
      exact absurd rfl hf)
  repeat' split at h1
  all_goals (repeat' split)
  all_goals omega
theorem bu_ta (h : qi_sl s) (he : qi_se s) {a : Nat} (ha : a < qn (s 0)) (hl : qr_ld s a = true) (h4 : ¬ s 144 = nI a) : (qr_ta (qr_bu s a)).toInt = (qr_ta s).toInt - (s (1 + 7 * a)).toInt := by
  have hn := (qi_n h).2
  have ha2 : a < 16 := by omega
  rw [ta_eq h, ta_eq (bu_sl ha2 h he), bu_o (i := 0) (by omega) (by omega), zs_c (f := qr_z s) a, if_pos ha]
  · have e1 : qr_z s a = (s (1 + 7 * a)).toInt := by
      unfold qr_z qr_tf
      rw [if_pos (Or.inl hl)]
    have e2 : qr_z (qr_bu s a) a = 0 := by
      unfold qr_z qr_tf qr_ld
      rw [bu_3 ha2, if_pos rfl, bu_o (i := 144) (by omega) (by omega), if_neg ?_, qk_t0]
      rintro (c | c)
      · exact absurd (of_decide_eq_true c) (by decide)
      · exact h4 c
    rw [e1, e2]; omega
  · intro j hj hja
    unfold qr_z qr_tf qr_ld
    rw [bu_3 ha2, if_neg hja, bu_o (i := 144) (by omega) (by omega), bu_o (i := 1 + 7 * j) (by omega) (by omega)]
theorem bu_A (h : qi_A N s) {a : Nat} (ha : a < 16) : qi_A N (qr_bu s a) := by
  obtain ⟨hs, hp, hw, hl, hq, he, hc⟩ := h
  refine ⟨bu_sl ha hs he, qq_pr hp (bu_o (by omega) (by omega)) (fun i h1 h2 => bu_o (by omega) (by omega)), qq_sw hw (bu_o (by omega) (by omega)) (bu_o (by omega) (by omega)) (bu_o (by omega) (by omega)) (bu_o (by omega) (by omega)) (bu_o (by omega) (by omega)), ?_, ?_, bu_se ha he, qq_ct hc (bu_o (by omega) (by omega)) (bu_o (by omega) (by omega)) (bu_o (by omega) (by omega))⟩
  · obtain ⟨l1, l2, l3, l4, l5, l6⟩ := hl
    unfold qi_lo qi_lx
    rw [bu_o (i := 142) (by omega) (by omega), bu_o (i := 144) (by omega) (by omega), bu_o (i := 145) (by omega) (by omega), bu_o (i := 0) (by omega) (by omega)]
    refine ⟨l1, l2, l3, l4, l5, fun k hk hh => ?_⟩
    rw [bu_3 ha]
    split
    · rfl
    · exact l6 k hk hh
  · obtain ⟨q1, q2, q3, q4⟩ := hq
    unfold qi_qu
    rw [bu_o (i := 142) (by omega) (by omega), bu_o (i := 144) (by omega) (by omega), bu_o (i := 146) (by omega) (by omega), bu_o (i := 0) (by omega) (by omega)]
    refine ⟨q1, q2, fun k hk => ?_, fun j k hj hk => ?_⟩
    · obtain ⟨r1, r2, r3, r4, r5⟩ := q3 k hk
      rw [bu_o (i := 147 + k) (by omega) (by omega), bu_3 ha]
      refine ⟨r1, r2, r3, r4, ?_⟩
      split
      · rfl
      · exact r5
    · rw [bu_o (i := 147 + k) (by omega) (by omega), bu_o (i := 147 + j) (by omega) (by omega)]
      exact q4 j k hj hk
theorem rm_A {m : Int} : ∀ (l : List Nat) (s : qs), (∀ a ∈ l, a < 16) → qi_A N s → qi_A N (qr_rm m l s).2 := by
  intro l
  induction l with
  | nil => intro s _ h; exact h
  | cons a l ih =>
    intro s hl h
    unfold qr_rm
    split
    · exact h
    · exact ih _ (fun x hx => hl x (List.mem_cons_of_mem _ hx)) (bu_A h (hl a List.mem_cons_self))
theorem mr_A {m : Int} (h : qi_A N s) : qi_A N (qr_mr m s).2 := rm_A _ s (ln_16 h.1) h
/-- there is room, once all that can be burnt is -/
theorem rm_ok {m : Int} : ∀ (l : List Nat) (s : qs), qi_A N s → qr_li s l → (100 + (if 0 ≤ (s 144).toInt then 50 else 0) + m ≤ (s 163).toInt) → qr_ft m (qr_rm m l s).2 = true := by
  intro l
  induction l with
  | nil =>
    intro s h hl hm
    have h1 := ta_3 h.1 hl
    unfold qr_rm qr_ft
    refine decide_eq_true ?_
    dsimp only
    omega
  | cons a l ih =>
    intro s h hl hm
    unfold qr_rm
    split
    · next e => exact e
    · have h1 := (hl.2 a).mp List.mem_cons_self
      have h2 := (qi_n h.1).2
      refine ih _ (bu_A h (by omega)) (bu_li h.2.1 h.1 hl) ?_
      rw [bu_o (i := 144) (by omega) (by omega), bu_o (i := 163) (by omega) (by omega)]
      exact hm
theorem mr_ok {m : Int} (h : qi_A N s) (hm : 100 + (if 0 ≤ (s 144).toInt then 50 else 0) + m ≤ (s 163).toInt) : qr_ft m (qr_mr m s).2 = true := rm_ok _ s h (qr_li_ln s) hm
/-- what is not loaded stays so -/
theorem rm_3 {m : Int} {k : Nat} : ∀ (l : List Nat) (s : qs), (∀ a ∈ l, a < 16) → s (1 + 7 * k + 3) = 0 → (qr_rm m l s).2 (1 + 7 * k + 3) = 0 := by
  intro l
  induction l with
  | nil => intro s _ h; exact h
  | cons a l ih =>
    intro s hl h
    unfold qr_rm
    split
    · exact h
    · refine ih _ (fun x hx => hl x (List.mem_cons_of_mem _ hx)) ?_
      rw [bu_3 (hl a List.mem_cons_self)]
      split
      · rfl
      · exact h
/-- the ember of a slide that is not loaded stays -/
theorem rm_4 {m : Int} {k : Nat} (hk : k < 16) : ∀ (l : List Nat) (s : qs), qr_li s l → qi_A N s → s (1 + 7 * k + 3) = 0 → (qr_rm m l s).2 (1 + 7 * k + 4) = s (1 + 7 * k + 4) := by
  intro l
  induction l with
  | nil => intro s _ _ _; rfl
  | cons a l ih =>
    intro s hl h h3
    unfold qr_rm
    split
    · rfl
    · have h1 := (hl.2 a).mp List.mem_cons_self
      have h2 := (qi_n h.1).2
      have ha : a < 16 := by omega
      have e : ¬ k = a := fun e => by
        subst e
        have h4 := h1.2
        unfold qr_cb qr_ld at h4
        rw [h3] at h4
        simp at h4
      dsimp only
      rw [ih _ (bu_li h.2.1 h.1 hl) (bu_A h ha) (by rw [bu_3 ha, if_neg e]; exact h3), bu_o (by omega) (by omega)]
theorem s0_o {a i : Nat} (h1 : ¬ i = 144) (h2 : ¬ i = 145) (h3 : ¬ i = 171) (h4 : ¬ i = 172) (h5 : ¬ i = 1 + 7 * a + 4) : qr_s0 t a i = t i := by
  unfold qr_s0
  simp (disch := omega) only [pk_us, pk_un, qz_ue]
theorem du_b (h : qi_sl t) {a : Nat} (ha : a < qn (t 0)) : 1 ≤ (qr_du t a).toInt ∧ (qr_du t a).toInt ≤ 20 := by
  have hn := (qi_n h).2
  have hi := qn_int h.1
  have h2 := (h.2.2 a (by omega)).2.2.2.2.1 (by omega)
  unfold qr_du
  split
  · omega
  · have h3 : (t (1 + 7 * a + 1) + 1).toInt = (t (1 + 7 * a + 1)).toInt + 1 := qz_p1 (by omega)
    rw [qz_div (by omega) (by decide), h3, show (2 : Int32).toInt = 2 from rfl]
    omega
theorem s0_A {a : Nat} (h : qi_A N t) (ha : a < qn (t 0)) (h3 : t (1 + 7 * a + 3) = 0) (hq0 : ∀ k : Nat, (k : Int) < (t 146).toInt → ¬ t (147 + k) = nI a) : qi_A N (qr_s0 t a) := by
  obtain ⟨hs, hp, hw, hl, hq, he, hc⟩ := h
  have hn := (qi_n hs).2
  have hi := qn_int hs.1
  have ha2 : a < 16 := by omega
  have e3 : ∀ k, k < 16 → qr_s0 t a (1 + 7 * k + 3) = t (1 + 7 * k + 3) := fun k hk => s0_o (by omega) (by omega) (by omega) (by omega) (by omega)
  have e144 : qr_s0 t a 144 = nI a := by
    unfold qr_s0
    simp (disch := omega) only [pk_us, pk_un, qz_ue]
  have e145 : qr_s0 t a 145 = qr_du t a := by
    unfold qr_s0
    simp (disch := omega) only [pk_us, pk_un, qz_ue]
  have e0 : qr_s0 t a 0 = t 0 := s0_o (by omega) (by omega) (by omega) (by omega) (by omega)
  have e142 : qr_s0 t a 142 = t 142 := s0_o (by omega) (by omega) (by omega) (by omega) (by omega)
  refine ⟨?_, qq_pr hp e0 (fun i h1 h2 => s0_o (by omega) (by omega) (by omega) (by omega) (by omega)), qq_sw hw e0 (s0_o (by omega) (by omega) (by omega) (by omega) (by omega)) (s0_o (by omega) (by omega) (by omega) (by omega) (by omega)) (s0_o (by omega) (by omega) (by omega) (by omega) (by omega)) (s0_o (by omega) (by omega) (by omega) (by omega) (by omega)), ?_, ?_, qq_se he (fun i h1 h2 => s0_o (by omega) (by omega) (by omega) (by omega) (by omega)), qq_ct hc (s0_o (by omega) (by omega) (by omega) (by omega) (by omega)) (s0_o (by omega) (by omega) (by omega) (by omega) (by omega)) (s0_o (by omega) (by omega) (by omega) (by omega) (by omega))⟩
  · unfold qi_sl
    rw [e0]
    refine ⟨hs.1, hs.2.1, fun k hk => ?_⟩
    obtain ⟨c1, c2, c3, c4, c5, c6⟩ := hs.2.2 k hk
    rw [e3 k hk, s0_o (i := 1 + 7 * k + 6) (by omega) (by omega) (by omega) (by omega) (by omega), s0_o (i := 1 + 7 * k) (by omega) (by omega) (by omega) (by omega) (by omega), s0_o (i := 1 + 7 * k + 1) (by omega) (by omega) (by omega) (by omega) (by omega), s0_o (i := 1 + 7 * k + 2) (by omega) (by omega) (by omega) (by omega) (by omega)]
    refine ⟨c1, ?_, ?_, c4, c5, c6⟩
    · by_cases e : k = a
      · subst e
        unfold qr_s0
        rw [pk_us, qk_t0]
        omega
      · rw [s0_o (by omega) (by omega) (by omega) (by omega) (by omega)]
        exact c2
    · by_cases e : k = a
      · subst e
        unfold qr_s0
        rw [pk_us, qk_t0]
        omega
      · rw [s0_o (by omega) (by omega) (by omega) (by omega) (by omega)]
        exact c3
  · obtain ⟨l1, l2, l3, l4, l5, l6⟩ := hl
    have hd := du_b hs ha
    unfold qi_lo qi_lx
    rw [e0, e142, e144, e145, qz_nI (by omega)]
    refine ⟨l1, l2, by omega, by omega, fun _ => hd, fun k hk hh => ?_⟩
    rw [e3 k hk]
    rcases hh with hh | hh
    · exact l6 k hk (Or.inl hh)
    · have : a = k := by omega
      subst this
      exact h3
  · obtain ⟨q1, q2, q3, q4⟩ := hq
    have e6 : qr_s0 t a 146 = t 146 := s0_o (by omega) (by omega) (by omega) (by omega) (by omega)
    have e7 : ∀ k : Nat, (k : Int) < (t 146).toInt → qr_s0 t a (147 + k) = t (147 + k) := fun k hk => s0_o (by omega) (by omega) (by omega) (by omega) (by omega)
    unfold qi_qu
    rw [e0, e142, e144, e6]
    refine ⟨q1, q2, fun k hk => ?_, fun j k hj hk => ?_⟩
    · obtain ⟨r1, r2, r3, r4, r5⟩ := q3 k hk
      have r6 := qn_int r1
      rw [e7 k hk, e3 _ (by omega)]
      exact ⟨r1, r2, r3, hq0 k hk, r5⟩
    · rw [e7 k hk, e7 j (by omega)]
      exact q4 j k hj hk
theorem s0_ta (h : qi_A N t) {a : Nat} (ha : a < qn (t 0)) (h4 : t 144 = -1) (h3 : t (1 + 7 * a + 3) = 0) (hA : qi_sl (qr_s0 t a)) : (qr_ta (qr_s0 t a)).toInt = (qr_ta t).toInt + (t (1 + 7 * a)).toInt := by
  have hs := h.1
  have hn := (qi_n hs).2
  have ha2 : a < 16 := by omega
  have e144 : qr_s0 t a 144 = nI a := by
    unfold qr_s0
    simp (disch := omega) only [pk_us, pk_un, qz_ue]
  rw [ta_eq hs, ta_eq hA, s0_o (i := 0) (by omega) (by omega) (by omega) (by omega) (by omega), zs_c (f := qr_z t) a, if_pos ha]
  · have e1 : qr_z t a = 0 := by
      unfold qr_z qr_tf qr_ld
      rw [h3, h4, if_neg ?_, qk_t0]
      rintro (c | c)
      · exact absurd (of_decide_eq_true c) (by decide)
      · exact qr_nI_m ha2 c.symm
    have e2 : qr_z (qr_s0 t a) a = (t (1 + 7 * a)).toInt := by
      unfold qr_z qr_tf
      rw [if_pos (Or.inr e144), s0_o (by omega) (by omega) (by omega) (by omega) (by omega)]
    rw [e1, e2]; omega
  · intro j hj hja
    unfold qr_z qr_tf qr_ld
    rw [s0_o (i := 1 + 7 * j + 3) (by omega) (by omega) (by omega) (by omega) (by omega), s0_o (i := 1 + 7 * j) (by omega) (by omega) (by omega) (by omega) (by omega), e144, h4]
    have : (nI a = nI j) = ((-1 : Int32) = nI j) := by
      rw [eq_iff_iff]
      constructor
      · intro c
        rw [nI_eq (by omega) (by omega)] at c
        exact absurd c.symm hja
      · intro c
        exact absurd c.symm (qr_nI_m (by omega))
    simp only [this]
theorem st_A {a : Nat} (h : qi_A N s) (ha : a < qn (s 0)) (h4 : s 144 = -1) (h3 : s (1 + 7 * a + 3) = 0) (hq0 : ∀ k : Nat, (k : Int) < (s 146).toInt → ¬ s (147 + k) = nI a) : qi_I N (qr_st s a) ∧ qr_st s a 144 = nI a := by
  have hs := h.1
  have hn := (qi_n hs).2
  have hi := qn_int hs.1
  have ha2 : a < 16 := by omega
  have hc := (hs.2.2 a ha2).2.2.2.2.1 (by omega)
  have hm := h.2.2.2.2.2.1.1
  have hq2 := h.2.2.2.2.1.2.1
  have hA := mr_A (m := (s (1 + 7 * a)).toInt) h
  have hf := mr_ok (m := (s (1 + 7 * a)).toInt) h (by rw [h4, qk_tm1, if_neg (by omega)]; omega)
  have o : ∀ i, (i < 1 ∨ 112 < i ∨ ∃ k w, i = 1 + 7 * k + w ∧ (w < 3 ∨ w = 6)) → ¬ i = 173 → (qr_mr (s (1 + 7 * a)).toInt s).2 i = s i := fun i h1 h2 => mr_o hs h1 h2
  have h3' : (qr_mr (s (1 + 7 * a)).toInt s).2 (1 + 7 * a + 3) = 0 := rm_3 _ s (ln_16 hs) h3
  have oc := o (1 + 7 * a) (Or.inr (Or.inr ⟨a, 0, rfl, Or.inl (by omega)⟩)) (by omega)
  unfold qr_st
  generalize (qr_mr (s (1 + 7 * a)).toInt s).2 = t at hA hf o h3' oc ⊢
  have e0 := o 0 (by omega) (by omega)
  have hA2 : qi_A N (qr_s0 t a) := s0_A hA (by rw [e0]; exact ha) h3' (fun k hk => by
    rw [o 146 (by omega) (by omega)] at hk
    rw [o (147 + k) (by omega) (by omega)]
    exact hq0 k hk)
  refine ⟨⟨hA2, ?_⟩, ?_⟩
  · unfold qi_tm
    rw [s0_ta hA (by rw [e0]; exact ha) (by rw [o 144 (by omega) (by omega)]; exact h4) h3' hA2.1, s0_o (i := 163) (by omega) (by omega) (by omega) (by omega) (by omega), oc]
    unfold qr_ft at hf
    exact of_decide_eq_true hf
  · unfold qr_s0
    simp (disch := omega) only [pk_us, pk_un, qz_ue]
end QRO
