/-! the reference's own methods: burning, room, loading -/
section QRJ
variable {ρ : qa_T} {s t : qs} {y : Int32}
/-- the same programme; the same weights -/
def qe_p (s t : qs) : Prop := t 113 = s 113 ∧ t 138 = s 138 ∧ ∀ k : Nat, k < 24 → t (114 + k) = s (114 + k)
def qe_w (s t : qs) : Prop := qe_p s t ∧ t 165 = s 165 ∧ ∀ k : Nat, k < 16 → t (1 + 7 * k + 6) = s (1 + 7 * k + 6) ∧ t (1 + 7 * k) = s (1 + 7 * k)
theorem qe_ix (e : qe_p s t) (k : Nat) : qr_ix t k = qr_ix s k := by
  unfold qr_ix
  rw [e.1, e.2.1]
theorem qe_sa (h : qi_pr s) (h0 : 0 < (s 113).toInt) (e : qe_p s t) (k : Nat) : qr_sa t k = qr_sa s k := by
  unfold qr_sa
  rw [qe_ix e]
  have h1 := (qi_ixb h h0 k).1
  have h2 := (qi_p h).2
  exact e.2.2 _ (by omega)
theorem qe_nf (h : qi_pr s) (h0 : 0 < (s 113).toInt) (e : qe_p s t) (a : Nat) : ∀ j k : Nat, qr_nf t a j k = qr_nf s a j k := by
  intro j
  induction j with
  | zero => intro k; rfl
  | succ j ih =>
    intro k
    unfold qr_nf
    rw [qe_sa h h0 e, ih]
theorem qe_nx (h : qi_pr s) (e : qe_p s t) (a : Nat) : qr_nx t a = qr_nx s a := by
  unfold qr_nx
  rw [e.1]
  by_cases h0 : 0 < (s 113).toInt
  · exact qe_nf h h0 e a _ _
  · rw [show qn (s 113) = 0 by unfold qn; omega]
    rfl
theorem qe_ww (h : qi_pr s) (e : qe_w s t) {k : Nat} (hk : k < 16) : qr_w t k = qr_w s k := by
  unfold qr_w
  rw [e.2.1, (e.2.2 k hk).1, (e.2.2 k hk).2, qe_nx h e.1]
theorem qe_fb (h : qi_pr s) (e : qe_w s t) {a b : Nat} (ha : a < 16) (hb : b < 16) : qr_fb t a b = qr_fb s a b := by
  unfold qr_fb
  rw [qe_ww h e ha, qe_ww h e hb]
theorem qe_pr (h : qi_pr s) (e : qe_p s t) (e0 : t 0 = s 0) : qi_pr t := by
  have h2 := (qi_p h).2
  obtain ⟨a1, a2, a3, a4, a5⟩ := h
  have h3 := qn_int a1
  unfold qi_pr
  rw [e.1, e.2.1, e0]
  refine ⟨a1, a2, a3, a4, fun k hk => ?_⟩
  rw [e.2.2 k (by omega)]
  exact a5 k hk
theorem bu_o {a i : Nat} (h : i < 1 + 7 * a + 3 ∨ 1 + 7 * a + 5 < i) (h2 : ¬ i = 173) : qr_bu s a i = s i := by
  unfold qr_bu
  simp (disch := omega) only [pk_us, pk_un, qz_ue]
theorem bu_w {a : Nat} (ha : a < 16) : qe_w s (qr_bu s a) := by
  refine ⟨⟨bu_o (by omega) (by omega), bu_o (by omega) (by omega), fun k hk => bu_o (by omega) (by omega)⟩, bu_o (by omega) (by omega), fun k hk => ⟨bu_o (by omega) (by omega), bu_o (by omega) (by omega)⟩⟩
theorem bu_3 {a k : Nat} (ha : a < 16) : qr_bu s a (1 + 7 * k + 3) = if k = a then 0 else s (1 + 7 * k + 3) := by
  by_cases e : k = a
  · subst e
    rw [if_pos rfl]
    unfold qr_bu
    simp (disch := omega) only [pk_us, pk_un, qz_ue]
  · rw [if_neg e]
    by_cases e2 : 1 + 7 * k + 3 = 173
    · exfalso; omega
    · exact bu_o (by omega) e2
theorem bu_cb {a k : Nat} (ha : a < 16) : qr_cb (qr_bu s a) k = (qr_cb s k && !decide (k = a)) := by
  unfold qr_cb qr_ld qr_os
  rw [bu_3 ha, bu_o (i := 139) (by omega) (by omega), bu_o (i := 140) (by omega) (by omega)]
  by_cases e : k = a
  · subst e
    simp
  · rw [if_neg e]
    simp [e]
theorem bu_li (hp : qi_pr s) (hs : qi_sl s) {a : Nat} {l : List Nat} (h : qr_li s (a :: l)) : qr_li (qr_bu s a) l := by
  have hn := (qi_n hs).2
  have h1 := (h.2 a).mp List.mem_cons_self
  have ha : a < 16 := by omega
  obtain ⟨p1, p2⟩ := List.pairwise_cons.mp h.1
  refine ⟨p2.imp_of_mem (fun {x z} hx hz hf => ?_), fun k => ?_⟩
  · have h2 := (h.2 x).mp (List.mem_cons_of_mem _ hx)
    have h3 := (h.2 z).mp (List.mem_cons_of_mem _ hz)
    rw [qe_fb hp (bu_w ha) (by omega) (by omega)]
    exact hf
  · rw [bu_cb ha, bu_o (i := 0) (by omega) (by omega)]
    have h4 := h.2 k
    rw [List.mem_cons] at h4
    simp only [Bool.and_eq_true, Bool.not_eq_true', decide_eq_false_iff_not]
    constructor
    · intro hk
      have h5 := h4.mp (Or.inr hk)
      refine ⟨h5.1, h5.2, fun e => ?_⟩
      subst e
      exact qr_fb_as (p1 k hk) (p1 k hk)
    · rintro ⟨h5, h6, h7⟩
      rcases h4.mpr ⟨h5, h6⟩ with h8 | h8
      · exact absurd h8 h7
      · exact h8
theorem bu_sl {a : Nat} (ha : a < 16) (h : qi_sl s) (hg : qi_se s) : qi_sl (qr_bu s a) := by
  obtain ⟨h1, h2, h3⟩ := h
  unfold qi_sl
  rw [bu_o (i := 0) (by omega) (by omega)]
  refine ⟨h1, h2, fun k hk => ?_⟩
  obtain ⟨c1, c2, c3, c4, c5, c6⟩ := h3 k hk
  rw [bu_3 ha, bu_o (i := 1 + 7 * k + 6) (by omega) (by omega), bu_o (i := 1 + 7 * k) (by omega) (by omega), bu_o (i := 1 + 7 * k + 1) (by omega) (by omega), bu_o (i := 1 + 7 * k + 2) (by omega) (by omega)]
  have g1 := hg.2.2.2.2.2.2.1
  have g2 := hg.2.2.2.2.2.2.2.1
  by_cases e : k = a
  · subst e
    rw [if_pos rfl]
    have e4 : qr_bu s k (1 + 7 * k + 4) = s 166 := by
      unfold qr_bu
      simp (disch := omega) only [pk_us, pk_un, qz_ue]
    rw [e4]
    exact ⟨Or.inl rfl, g1, g2, c4, c5, fun _ => rfl⟩
  · rw [if_neg e, bu_o (i := 1 + 7 * k + 4) (by omega) (by omega)]
    exact ⟨c1, c2, c3, c4, c5, c6⟩
theorem qi_seq (h : qi_se s) (e : ∀ i : Nat, 163 ≤ i → i ≤ 167 → t i = s i) : qi_se t := by
  unfold qi_se
  rw [e 163 (by omega) (by omega), e 164 (by omega) (by omega), e 165 (by omega) (by omega), e 166 (by omega) (by omega), e 167 (by omega) (by omega)]
  exact h
theorem bu_se {a : Nat} (ha : a < 16) (h : qi_se s) : qi_se (qr_bu s a) := qi_seq h (fun i h1 h2 => bu_o (by omega) (by omega))
theorem rf_bu {a : Nat} (ha : a < 16) : qa_fX10_burns (nI a) (qw ρ s y) = some (s (1 + 7 * a), qw ρ (qr_bu s a) y) := by
  unfold qa_fX10_burns
  simp (disch := omega) only [qk_am1, qk_a0, qk_a1, qk_a2, qk_a3, qk_a4, qk_a5, qk_b6, qk_b7, qk_b10, qk_b15, qk_b16, qk_b20, qk_b24, qk_b25, qk_b33, qk_b48, qk_b50, qk_b52, qk_b57, qk_b59, qk_b60, qk_b97, qk_b98, qk_b100, qk_b110, qk_b112, qk_b113, qk_b114, qk_b116, qk_b126, qk_c138, qk_c139, qk_c140, qk_c141, qk_c142, qk_c143, qk_c144, qk_c145, qk_c146, qk_c147, qk_c150, qk_c163, qk_c164, qk_c165, qk_c166, qk_c167, qk_c168, qk_c169, qk_c170, qk_c171, qk_c172, qk_c173, qk_c174, qk_c175, qk_c176, qk_c400, qk_c880, qk_c1000, qk_c1023, rf_lay3 ha, Option.bind_some, qw_s, qk_n0, qk_n1, qk_n2, qk_n3, qk_n4, qk_n5, qk_n6, qk_n7, qk_n10, qk_n15, qk_n16, qk_n20, qk_n24, qk_n25, qk_n33, qk_n48, qk_n50, qk_n52, qk_n57, qk_n59, qk_n60, qk_n97, qk_n98, qk_n100, qk_n110, qk_n112, qk_n113, qk_n114, qk_n116, qk_n126, qk_n138, qk_n139, qk_n140, qk_n141, qk_n142, qk_n143, qk_n144, qk_n145, qk_n146, qk_n147, qk_n150, qk_n163, qk_n164, qk_n165, qk_n166, qk_n167, qk_n168, qk_n169, qk_n170, qk_n171, qk_n172, qk_n173, qk_n174, qk_n175, qk_n176, qk_n400, qk_n880, qk_n1000, qk_n1023, rf_lay4 ha, rf_of5 ha, rf_lay5 ha, rf_of0 ha, qw_wi, pk_us, pk_un, qz_ue]
  rfl
theorem qr_tk_b (h : qi_sl s) : ∀ k : Nat, k ≤ qn (s 0) → 0 ≤ (qr_tk s k).toInt ∧ (qr_tk s k).toInt ≤ 50 * (k : Int) := by
  intro k
  have hn := (qi_n h).2
  have hi := qn_int h.1
  induction k with
  | zero =>
    intro _
    rw [show qr_tk s 0 = 0 from rfl, qk_t0]
    omega
  | succ k ih =>
    intro hk
    have h1 := ih (by omega)
    have h2 := (h.2.2 k (by omega)).2.2.2.2.1 (by omega)
    have h3 : 0 ≤ (qr_tf s k).toInt ∧ (qr_tf s k).toInt ≤ 50 := by
      unfold qr_tf
      split
      · omega
      · exact ⟨by decide, by decide⟩
    unfold qr_tk
    rw [qz_add (by omega) (by omega)]
    omega
theorem qr_ta_b (h : qi_sl s) : 0 ≤ (qr_ta s).toInt ∧ (qr_ta s).toInt ≤ 800 := by
  have h1 := qr_tk_b h (qn (s 0)) (Nat.le_refl _)
  have hn := (qi_n h).2
  unfold qr_ta
  omega
theorem qr_ft_i (h : qi_sl s) {b : Int32} (hb : 0 ≤ b.toInt) (hb2 : b.toInt ≤ 1000) : (qr_ta s + b ≤ s 163) ↔ qr_ft b.toInt s = true := by
  have h1 := qr_ta_b h
  unfold qr_ft
  rw [decide_eq_true_eq, qz_le, qz_add (by omega) (by omega)]
theorem rf_mr_l {b : Int32} (hb : 0 ≤ b.toInt) (hb2 : b.toInt ≤ 1000) : ∀ (l : List Nat) (s : qs) (m : Nat) (x : Int32), qi_pr s → qi_sl s → qi_se s → qr_li s l → l.length < m → qa_fX10_makesRoom_2 b m x (qw ρ s y) = some (x + nI (qr_rm b.toInt l s).1, qw ρ (qr_rm b.toInt l s).2 y) := by
  intro l
  induction l with
  | nil =>
    intro s m x hp hs he hl hm
    obtain ⟨m, rfl⟩ : ∃ j, m = j + 1 := ⟨m - 1, by simp only [List.length_nil] at hm; omega⟩
    obtain ⟨h1, h2⟩ := qi_n hs
    rw [qa_fX10_makesRoom_2, rf_tk h2 h1]
    simp only [qk_am1, qk_a0, qk_a1, qk_a2, qk_a3, qk_a4, qk_a5, qk_b6, qk_b7, qk_b10, qk_b15, qk_b16, qk_b20, qk_b24, qk_b25, qk_b33, qk_b48, qk_b50, qk_b52, qk_b57, qk_b59, qk_b60, qk_b97, qk_b98, qk_b100, qk_b110, qk_b112, qk_b113, qk_b114, qk_b116, qk_b126, qk_c138, qk_c139, qk_c140, qk_c141, qk_c142, qk_c143, qk_c144, qk_c145, qk_c146, qk_c147, qk_c150, qk_c163, qk_c164, qk_c165, qk_c166, qk_c167, qk_c168, qk_c169, qk_c170, qk_c171, qk_c172, qk_c173, qk_c174, qk_c175, qk_c176, qk_c400, qk_c880, qk_c1000, qk_c1023, Option.bind_some, qw_s, qk_n0, qk_n1, qk_n2, qk_n3, qk_n4, qk_n5, qk_n6, qk_n7, qk_n10, qk_n15, qk_n16, qk_n20, qk_n24, qk_n25, qk_n33, qk_n48, qk_n50, qk_n52, qk_n57, qk_n59, qk_n60, qk_n97, qk_n98, qk_n100, qk_n110, qk_n112, qk_n113, qk_n114, qk_n116, qk_n126, qk_n138, qk_n139, qk_n140, qk_n141, qk_n142, qk_n143, qk_n144, qk_n145, qk_n146, qk_n147, qk_n150, qk_n163, qk_n164, qk_n165, qk_n166, qk_n167, qk_n168, qk_n169, qk_n170, qk_n171, qk_n172, qk_n173, qk_n174, qk_n175, qk_n176, qk_n400, qk_n880, qk_n1000, qk_n1023, rf_nb hp hs hl, qr_hd, qa_fX10_makesRoom_42, qr_rm, nI_0, Int32.add_zero, if_true, ite_self]
  | cons a l ih =>
    intro s m x hp hs he hl hm
    obtain ⟨m, rfl⟩ : ∃ j, m = j + 1 := ⟨m - 1, by simp only [List.length_cons] at hm; omega⟩
    obtain ⟨h1, h2⟩ := qi_n hs
    have ha := (hl.2 a).mp List.mem_cons_self
    rw [qa_fX10_makesRoom_2, rf_tk h2 h1]
    simp only [qk_am1, qk_a0, qk_a1, qk_a2, qk_a3, qk_a4, qk_a5, qk_b6, qk_b7, qk_b10, qk_b15, qk_b16, qk_b20, qk_b24, qk_b25, qk_b33, qk_b48, qk_b50, qk_b52, qk_b57, qk_b59, qk_b60, qk_b97, qk_b98, qk_b100, qk_b110, qk_b112, qk_b113, qk_b114, qk_b116, qk_b126, qk_c138, qk_c139, qk_c140, qk_c141, qk_c142, qk_c143, qk_c144, qk_c145, qk_c146, qk_c147, qk_c150, qk_c163, qk_c164, qk_c165, qk_c166, qk_c167, qk_c168, qk_c169, qk_c170, qk_c171, qk_c172, qk_c173, qk_c174, qk_c175, qk_c176, qk_c400, qk_c880, qk_c1000, qk_c1023, Option.bind_some, qw_s, qk_n0, qk_n1, qk_n2, qk_n3, qk_n4, qk_n5, qk_n6, qk_n7, qk_n10, qk_n15, qk_n16, qk_n20, qk_n24, qk_n25, qk_n33, qk_n48, qk_n50, qk_n52, qk_n57, qk_n59, qk_n60, qk_n97, qk_n98, qk_n100, qk_n110, qk_n112, qk_n113, qk_n114, qk_n116, qk_n126, qk_n138, qk_n139, qk_n140, qk_n141, qk_n142, qk_n143, qk_n144, qk_n145, qk_n146, qk_n147, qk_n150, qk_n163, qk_n164, qk_n165, qk_n166, qk_n167, qk_n168, qk_n169, qk_n170, qk_n171, qk_n172, qk_n173, qk_n174, qk_n175, qk_n176, qk_n400, qk_n880, qk_n1000, qk_n1023, rf_nb hp hs hl, qr_hd, qa_fX10_makesRoom_42, qr_rm, qr_ft_i hs hb hb2, if_neg (qr_nI_m (k := a) (by omega)), rf_bu (show a < 16 by omega)]
    by_cases hf : qr_ft b.toInt s = true
    · simp only [if_pos hf, nI_0, Int32.add_zero]
    · simp only [if_neg hf]
      rw [ih _ _ _ (qe_pr hp (bu_w (by omega)).1 (bu_o (by omega) (by omega))) (bu_sl (by omega) hs he) (bu_se (by omega) he) (bu_li hp hs hl) (by simp only [List.length_cons] at hm; omega)]
      rw [nI_succ, Int32.add_assoc, Int32.add_comm 1]
theorem qr_in_len (s : qs) (a : Nat) : ∀ l : List Nat, (qr_in s a l).length = l.length + 1 := by
  intro l
  induction l with
  | nil => rfl
  | cons b l ih =>
    unfold qr_in
    split
    · rfl
    · simp only [List.length_cons, ih]
theorem qr_lf_len (s : qs) : ∀ k : Nat, (qr_lf s k).length ≤ k := by
  intro k
  induction k with
  | zero => exact Nat.le_refl _
  | succ k ih =>
    unfold qr_lf
    split
    · rw [qr_in_len]; omega
    · omega
theorem rf_mr (hp : qi_pr s) (hs : qi_sl s) (he : qi_se s) {b : Int32} (hb : 0 ≤ b.toInt) (hb2 : b.toInt ≤ 1000) : qa_fX10_makesRoom b (qw ρ s y) = some (nI (qr_mr b.toInt s).1, qw ρ (qr_mr b.toInt s).2 y) := by
  unfold qa_fX10_makesRoom qr_mr
  have h1 := qr_lf_len s (qn (s 0))
  have h9 := (qi_n hs).2
  rw [rf_mr_l hb hb2 (qr_ln s) s qa_fu _ hp hs he (qr_li_ln s) (by unfold qa_fu qr_ln; omega), qk_a0, Int32.zero_add]
end QRJ
