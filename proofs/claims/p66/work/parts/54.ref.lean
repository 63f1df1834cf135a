/-! the reference's own methods: burning, room, loading -/
section QRJ
variable {ρ : qa_T} {s t : qs} {y : Int32}
/-- the same programme; the same weights -/
def qe_p (s t : qs) : Prop := t 113 = s 113 ∧ t 138 = s 138 ∧ ∀ k : Nat, k < 24 → t (114 + k) = s (114 + k)
def qe_w (s t : qs) : Prop := qe_p s t ∧ t 165 = s 165 ∧ ∀ k : Nat, k < 16 → t (1 + 7 * k + 6) = s (1 + 7 * k + 6) ∧ t (1 + 7 * k) = s (1 + 7 * k)
theorem qe_ix (e : qe_p s t) (k : Nat) : qr_ix t k = qr_ix s k := by
  unfold qr_ix
  rw [e.1, e.2.1]
theorem qe_sa (h : qi_pr s) (h0 : 0 < (s 113).toInt) (e : qe_p s t) (k : Nat) : qr_sa t k = qr_sa s k := by
  unfold qr_sa
  rw [qe_ix e]
  have h1 := (qi_ixb h h0 k).1
  have h2 := (qi_p h).2
  exact e.2.2 _ (by omega)
theorem qe_nf (h : qi_pr s) (h0 : 0 < (s 113).toInt) (e : qe_p s t) (a : Nat) : ∀ j k : Nat, qr_nf t a j k = qr_nf s a j k := by
  intro j
  induction j with
  | zero => intro k; rfl
  | succ j ih =>
    intro k
    unfold qr_nf
    rw [qe_sa h h0 e, ih]
theorem qe_nx (h : qi_pr s) (e : qe_p s t) (a : Nat) : qr_nx t a = qr_nx s a := by
  unfold qr_nx
  rw [e.1]
  by_cases h0 : 0 < (s 113).toInt
  · exact qe_nf h h0 e a _ _
  · rw [show qn (s 113) = 0 by unfold qn; omega]
    rfl
theorem qe_ww (h : qi_pr s) (e : qe_w s t) {k : Nat} (hk : k < 16) : qr_w t k = qr_w s k := by
  unfold qr_w
  rw [e.2.1, (e.2.2 k hk).1, (e.2.2 k hk).2, qe_nx h e.1]
theorem qe_fb (h : qi_pr s) (e : qe_w s t) {a b : Nat} (ha : a < 16) (hb : b < 16) : qr_fb t a b = qr_fb s a b := by
  unfold qr_fb
  rw [qe_ww h e ha, qe_ww h e hb]
theorem qe_pr (h : qi_pr s) (e : qe_p s t) (e0 : t 0 = s 0) : qi_pr t := by
  have h2 := (qi_p h).2
  obtain ⟨a1, a2, a3, a4, a5⟩ := h
  have h3 := qn_int a1
  unfold qi_pr
  rw [e.1, e.2.1, e0]
  refine ⟨a1, a2, a3, a4, fun k hk => ?_⟩
  rw [e.2.2 k (by omega)]
  exact a5 k hk
theorem bu_o {a i : Nat} (h : i < 1 + 7 * a + 3 ∨ 1 + 7 * a + 5 < i) (h2 : ¬ i = 173) : qr_bu s a i = s i := by
  unfold qr_bu
  simp (disch := omega) only [pk_us, pk_un, qz_ue]
theorem bu_w {a : Nat} (ha : a < 16) : qe_w s (qr_bu s a) := by
  refine ⟨⟨bu_o (by omega) (by omega), bu_o (by omega) (by omega), fun k hk => bu_o (by omega) (by omega)⟩, bu_o (by omega) (by omega), fun k hk => ⟨bu_o (by omega) (by omega), bu_o (by omega) (by omega)⟩⟩
theorem bu_3 {a k : Nat} (ha : a < 16) : qr_bu s a (1 + 7 * k + 3) = if k = a then 0 else s (1 + 7 * k + 3) := by
  by_cases e : k = a
  · subst e
    rw [if_pos rfl]
    unfold qr_bu
    simp (disch := omega) only [pk_us, pk_un, qz_ue]
  · rw [if_neg e]
    by_cases e2 : 1 + 7 * k + 3 = 173
    · exfalso; omega
    · exact bu_o (by omega) e2
theorem bu_cb {a k : Nat} (ha : a < 16) : qr_cb (qr_bu s a) k = (qr_cb s k && !decide (k = a)) := by
  unfold qr_cb qr_ld qr_os
  rw [bu_3 ha, bu_o (i := 139) (by omega) (by omega), bu_o (i := 140) (by omega) (by omega)]
  by_cases e : k = a
  · subst e
    simp
  · rw [if_neg e]
    simp [e]
theorem bu_li (hp : qi_pr s) (hs : qi_sl s) {a : Nat} {l : List Nat} (h : qr_li s (a :: l)) : qr_li (qr_bu s a) l := by
  have hn := (qi_n hs).2
  have h1 := (h.2 a).mp List.mem_cons_self
  have ha : a < 16 := by omega
  obtain ⟨p1, p2⟩ := List.pairwise_cons.mp h.1
  refine ⟨p2.imp_of_mem (fun {x z} hx hz hf => ?_), fun k => ?_⟩
  · have h2 := (h.2 x).mp (List.mem_cons_of_mem _ hx)
    have h3 := (h.2 z).mp (List.mem_cons_of_mem _ hz)
    rw [qe_fb hp (bu_w ha) (by omega) (by omega)]
    exact hf
  · rw [bu_cb ha, bu_o (i := 0) (by omega) (by omega)]
    have h4 := h.2 k
    rw [List.mem_cons] at h4
    simp only [Bool.and_eq_true, Bool.not_eq_true', decide_eq_false_iff_not]
    constructor
    · intro hk
      have h5 := h4.mp (Or.inr hk)
      refine ⟨h5.1, h5.2, fun e => ?_⟩
      subst e
      exact qr_fb_as (p1 k hk) (p1 k hk)
    · rintro ⟨h5, h6, h7⟩
      rcases h4.mpr ⟨h5, h6⟩ with h8 | h8
      · exact absurd h8 h7
      · exact h8
theorem bu_sl {a : Nat} (ha : a < 16) (h : qi_sl s) (hg : qi_se s) : qi_sl (qr_bu s a) := by
  obtain ⟨h1, h2, h3⟩ := h
  unfold qi_sl
  rw [bu_o (i := 0) (by omega) (by omega)]
  refine ⟨h1, h2, fun k hk => ?_⟩
  obtain ⟨c1, c2, c3, c4, c5, c6⟩ := h3 k hk
  rw [bu_3 ha, bu_o (i := 1 + 7 * k + 6) (by omega) (by omega), bu_o (i := 1 + 7 * k) (by omega) (by omega), bu_o (i := 1 + 7 * k + 1) (by omega) (by omega), bu_o (i := 1 + 7 * k + 2) (by omega) (by omega)]
  have g1 := hg.2.2.2.2.2.2.1
  have g2 := hg.2.2.2.2.2.2.2.1
  by_cases e : k = a
  · subst e
    rw [if_pos rfl]
    have e4 : qr_bu s k (1 + 7 * k + 4) = s 166 := by
      unfold qr_bu
      simp (disch := omega) only [pk_us, pk_un, qz_ue]
    rw [e4]
    exact ⟨Or.inl rfl, g1, g2, c4, c5, fun _ => rfl⟩
  · rw [if_neg e, bu_o (i := 1 + 7 * k + 4) (by omega) (by omega)]
    exact ⟨c1, c2, c3, c4, c5, c6⟩
theorem qi_seq (h : qi_se s) (e : ∀ i : Nat, 163 ≤ i → i ≤ 167 → t i = s i) : qi_se t := by
  unfold qi_se
  rw [e 163 (by omega) (by omega), e 164 (by omega) (by omega), e 165 (by omega) (by omega), e 166 (by omega) (by omega), e 167 (by omega) (by omega)]
  exact h
theorem bu_se {a : Nat} (ha : a < 16) (h : qi_se s) : qi_se (qr_bu s a) := qi_seq h (fun i h1 h2 => bu_o (by omega) (by omega))
theorem qr_tk_b (h : qi_sl s) : ∀ k : Nat, k ≤ qn (s 0) → 0 ≤ (qr_tk s k).toInt ∧ (qr_tk s k).toInt ≤ 50 * (k : Int) := by
  intro k
  have hn := (qi_n h).2
  have hi := qn_int h.1
  induction k with
  | zero =>
    intro _
    rw [show qr_tk s 0 = 0 from rfl, qk_t0]
    omega
  | succ k ih =>
    intro hk
    have h1 := ih (by omega)
    have h2 := (h.2.2 k (by omega)).2.2.2.2.1 (by omega)
    have h3 : 0 ≤ (qr_tf s k).toInt ∧ (qr_tf s k).toInt ≤ 50 := by
      unfold qr_tf
      split
      · omega
      · exact ⟨by decide, by decide⟩
    unfold qr_tk
    rw [qz_add (by omega) (by omega)]
    omega
theorem qr_ta_b (h : qi_sl s) : 0 ≤ (qr_ta s).toInt ∧ (qr_ta s).toInt ≤ 800 := by
  have h1 := qr_tk_b h (qn (s 0)) (Nat.le_refl _)
  have hn := (qi_n h).2
  unfold qr_ta
  omega
theorem qr_ft_i (h : qi_sl s) {b : Int32} (hb : 0 ≤ b.toInt) (hb2 : b.toInt ≤ 1000) : (qr_ta s + b ≤ s 163) ↔ qr_ft b.toInt s = true := by
  have h1 := qr_ta_b h
  unfold qr_ft
  rw [decide_eq_true_eq, qz_le, qz_add (by omega) (by omega)]
theorem qr_in_len (s : qs) (a : Nat) : ∀ l : List Nat, (qr_in s a l).length = l.length + 1 := by
  intro l
  induction l with
  | nil => rfl
  | cons b l ih =>
    unfold qr_in
    split
    · rfl
    · simp only [List.length_cons, ih]
theorem qr_lf_len (s : qs) : ∀ k : Nat, (qr_lf s k).length ≤ k := by
  intro k
  induction k with
  | zero => exact Nat.le_refl _
  | succ k ih =>
    unfold qr_lf
    split
    · rw [qr_in_len]; omega
    · omega
end QRJ
