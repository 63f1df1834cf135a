/-! what more always holds (p66): what is on show is loaded, embers, sums of what was burnt and loaded -/
section QVA
variable {s t : qs} {N M : Nat}
/-- is it in the memory, or on its way there -/
def qv_c (s : qs) (k : Nat) : Int := if qr_ld s k = true ∨ s 144 = nI k then 1 else 0
def qv_b (s : qs) (k : Nat) : Int := (s (1 + 7 * k + 5)).toInt
def qv_1 (s : qs) : Prop := (¬ s 139 = -1 → s (1 + 7 * qn (s 139) + 3) = 1) ∧ (¬ s 140 = -1 → s (1 + 7 * qn (s 140) + 3) = 1)
def qv_2 (s : qs) : Prop := ∀ k : Nat, k < 16 → s (1 + 7 * k + 4) = 0 ∨ (s (1 + 7 * k + 3) = 0 ∧ ¬ s 144 = nI k)
def qv_3 (s : qs) : Prop := s 144 = -1 → s 145 = 0
def qv_4 (s : qs) : Prop := (s 173).toInt = qr_zs (qv_b s) 16 ∧ ∀ k : Nat, k < 16 → 0 ≤ (s (1 + 7 * k + 5)).toInt ∧ ((s 0).toInt ≤ (k : Int) → s (1 + 7 * k + 5) = 0)
def qv_5 (s : qs) : Prop := (s 171).toInt = (s 173).toInt + qr_zs (qv_c s) 16 ∧ 0 ≤ (s 172).toInt ∧ (s 172).toInt ≤ (s 171).toInt ∧ (s 171).toInt ≤ (s 175).toInt + (if s 144 = -1 then 0 else 1)
def qv_8 (N : Nat) (s : qs) : Prop := 0 ≤ (s 174).toInt ∧ (s 174).toInt ≤ N
def qv (N : Nat) (s : qs) : Prop := qv_1 s ∧ qv_2 s ∧ qv_3 s ∧ qv_4 s ∧ qv_5 s ∧ qv_8 N s
/-- what is shown and what fades out are slides -/
def qv_w (s : qs) : Prop := -1 ≤ (s 139).toInt ∧ (s 139).toInt < (s 0).toInt ∧ -1 ≤ (s 140).toInt ∧ (s 140).toInt < (s 0).toInt
theorem vw (h : qi_sw s) : qv_w s := ⟨h.1, h.2.1, h.2.2.1, h.2.2.2.1⟩
theorem zs_nn {f : Nat → Int} : ∀ k : Nat, (∀ j, j < k → 0 ≤ f j) → 0 ≤ qr_zs f k := by
  intro k
  induction k with
  | zero => intro _; exact Int.le_refl _
  | succ k ih =>
    intro h
    have h1 := ih (fun j hj => h j (by omega))
    have h2 := h k (by omega)
    unfold qr_zs
    omega
theorem zs_ge {f : Nat → Int} {a : Nat} : ∀ k : Nat, a < k → (∀ j, j < k → 0 ≤ f j) → f a ≤ qr_zs f k := by
  intro k
  induction k with
  | zero => intro h _; omega
  | succ k ih =>
    intro ha h
    have h2 := h k (by omega)
    unfold qr_zs
    by_cases e : a = k
    · subst e
      have h1 := zs_nn a (fun j hj => h j (by omega))
      omega
    · have h1 := ih (by omega) (fun j hj => h j (by omega))
      omega
theorem vc_b (s : qs) (k : Nat) : 0 ≤ qv_c s k ∧ qv_c s k ≤ 1 := by
  unfold qv_c
  split <;> omega
/-- what the parts look at -/
theorem vq_0 (h : qv N s) (e0 : t 0 = s 0) (eS : ∀ k : Nat, k < 16 → t (1 + 7 * k + 3) = s (1 + 7 * k + 3) ∧ t (1 + 7 * k + 4) = s (1 + 7 * k + 4) ∧ t (1 + 7 * k + 5) = s (1 + 7 * k + 5)) (eO : ∀ i : Nat, ((139 ≤ i ∧ i ≤ 140) ∨ (144 ≤ i ∧ i ≤ 145) ∨ (171 ≤ i ∧ i ≤ 175)) → t i = s i) (hw : qv_w s) (hs : qi_sl s) : qv N t := by
  obtain ⟨h1, h2, h3, h4, h5, h8⟩ := h
  have w1 := hw.1
  have w2 := hw.2.1
  have w3 := hw.2.2.1
  have w4 := hw.2.2.2
  have hn := hs.2.1
  refine ⟨⟨?_, ?_⟩, ?_, ?_, ⟨?_, ?_⟩, ⟨?_, ?_⟩, ?_⟩
  · rw [eO 139 (by omega)]
    intro c
    have c2 := c
    rw [qz_m1] at c2
    have := qn_int (x := s 139) (by omega)
    rw [(eS (qn (s 139)) (by omega)).1]
    exact h1.1 c
  · rw [eO 140 (by omega)]
    intro c
    have c2 := c
    rw [qz_m1] at c2
    have := qn_int (x := s 140) (by omega)
    rw [(eS (qn (s 140)) (by omega)).1]
    exact h1.2 c
  · intro k hk
    rw [(eS k hk).1, (eS k hk).2.1, eO 144 (by omega)]
    exact h2 k hk
  · unfold qv_3
    rw [eO 144 (by omega), eO 145 (by omega)]
    exact h3
  · rw [eO 173 (by omega), h4.1]
    exact (zs_0 16 (fun j hj => by unfold qv_b; rw [(eS j hj).2.2])).symm
  · intro k hk
    rw [(eS k hk).2.2, e0]
    exact h4.2 k hk
  · rw [eO 171 (by omega), eO 173 (by omega), h5.1]
    rw [zs_0 (f := qv_c s) (g := qv_c t) 16 (fun j hj => by unfold qv_c qr_ld; rw [(eS j hj).1, eO 144 (by omega)])]
  · rw [eO 172 (by omega), eO 171 (by omega), eO 175 (by omega), eO 144 (by omega)]
    exact h5.2
  · unfold qv_8
    rw [eO 174 (by omega)]
    exact h8
theorem vq_u (h : qv M s) (hl : M ≤ N) : qv N s := ⟨h.1, h.2.1, h.2.2.1, h.2.2.2.1, h.2.2.2.2.1, h.2.2.2.2.2.1, by have := h.2.2.2.2.2.2; omega⟩
/-- the counts are small -/
theorem vq_b (h : qv N s) (hc : qi_ct M s) : 0 ≤ (s 173).toInt ∧ (s 173).toInt ≤ (s 171).toInt ∧ (s 171).toInt ≤ M + 1 := by
  obtain ⟨h1, h2, h3, h4, h5, h8⟩ := h
  have z1 := zs_nn (f := qv_b s) 16 (fun j hj => (h4.2 j hj).1)
  have z2 := zs_nn (f := qv_c s) 16 (fun j hj => (vc_b s j).1)
  have e1 := h4.1
  have e2 := h5.1
  have e3 := h5.2.2.2
  have e4 := hc.2.2.2.2.2
  refine ⟨by omega, by omega, ?_⟩
  split at e3 <;> omega
theorem bu_4 {a k : Nat} (ha : a < 16) (hk : k < 16) : qr_bu s a (1 + 7 * k + 4) = if k = a then s 166 else s (1 + 7 * k + 4) := by
  unfold qr_bu
  by_cases e : k = a
  · subst e
    rw [if_pos rfl]
    simp (disch := omega) only [pk_us, pk_un, qz_ue]
  · rw [if_neg e]
    simp (disch := omega) only [pk_us, pk_un, qz_ue]
theorem bu_5 {a k : Nat} (ha : a < 16) (hk : k < 16) : qr_bu s a (1 + 7 * k + 5) = if k = a then s (1 + 7 * a + 5) + 1 else s (1 + 7 * k + 5) := by
  unfold qr_bu
  by_cases e : k = a
  · subst e
    rw [if_pos rfl]
    simp (disch := omega) only [pk_us, pk_un, qz_ue]
  · rw [if_neg e]
    simp (disch := omega) only [pk_us, pk_un, qz_ue]
theorem bu_173 {a : Nat} : qr_bu s a 173 = s 173 + 1 := by
  unfold qr_bu
  rw [pk_us]
/-- a slide that can be burnt -/
theorem cb_i {k : Nat} (h : qr_cb s k = true) : s (1 + 7 * k + 3) = 1 ∧ ¬ s 139 = nI k ∧ ¬ s 140 = nI k := by
  unfold qr_cb qr_ld qr_os at h
  rw [Bool.and_eq_true, decide_eq_true_eq] at h
  have h2 := h.2
  rw [Bool.not_eq_true', Bool.or_eq_false_iff] at h2
  have h3 := of_decide_eq_false h2.1
  have h4 := of_decide_eq_false h2.2
  exact ⟨h.1, fun e => h3 e.symm, fun e => h4 e.symm⟩
theorem ld_i {k : Nat} : qr_ld s k = true ↔ s (1 + 7 * k + 3) = 1 := by
  unfold qr_ld
  exact ⟨of_decide_eq_true, decide_eq_true⟩
/-- what is being loaded is not loaded -/
theorem lo_n (hl : qi_lo s) {k : Nat} (hk : k < 16) (h : s 144 = nI k) : s (1 + 7 * k + 3) = 0 := hl.2.2.2.2.2 k hk (Or.inr (by rw [h, qz_nI (by omega)]))
theorem i10 : ¬ (0 : Int32) = 1 := by decide
theorem v_bu {a : Nat} (hA : qi_A M s) (h : qv N s) (ha : a < 16) (hc : qr_cb s a = true) (hM : M + 2 < 2147483647) : qv N (qr_bu s a) := by
  obtain ⟨hs, hp, hw, hl, hq, he, hct⟩ := hA
  obtain ⟨b1, b2, b3⟩ := vq_b h hct
  obtain ⟨h1, h2, h3, h4, h5, h8⟩ := h
  obtain ⟨c1, c2, c3⟩ := cb_i hc
  have h44 : ¬ s 144 = nI a := fun t => by
    have := lo_n hl ha t
    rw [this] at c1
    exact i10 c1
  have o : ∀ i, 113 ≤ i → ¬ i = 173 → qr_bu s a i = s i := fun i hi h3 => bu_o (by omega) h3
  have w1 := hw.1
  have w3 := hw.2.2.1
  have z1 := zs_ge (f := qv_b s) (a := a) 16 ha (fun j hj => (h4.2 j hj).1)
  have e41 := h4.1
  have hb5 : (s (1 + 7 * a + 5) + 1).toInt = (s (1 + 7 * a + 5)).toInt + 1 := qz_p1 (by have z2 : (s (1 + 7 * a + 5)).toInt ≤ qr_zs (qv_b s) 16 := z1; omega)
  have h173 : (s 173 + 1).toInt = (s 173).toInt + 1 := qz_p1 (by omega)
  have ne : ∀ x : Int32, ¬ x = nI a → 0 ≤ x.toInt → ¬ qn x = a := fun x hx h0 e => hx (by rw [← e]; exact qn_of h0)
  refine ⟨⟨?_, ?_⟩, ?_, ?_, ⟨?_, ?_⟩, ⟨?_, ?_⟩, ?_⟩
  · rw [o 139 (by omega) (by omega)]
    intro c
    have c4 := c
    rw [qz_m1] at c4
    rw [bu_3 ha, if_neg (ne _ c2 (by omega))]
    exact h1.1 c
  · rw [o 140 (by omega) (by omega)]
    intro c
    have c4 := c
    rw [qz_m1] at c4
    rw [bu_3 ha, if_neg (ne _ c3 (by omega))]
    exact h1.2 c
  · intro k hk
    rw [bu_3 ha, bu_4 ha hk, o 144 (by omega) (by omega)]
    by_cases e : k = a
    · rw [if_pos e, if_pos e, e]
      exact Or.inr ⟨rfl, h44⟩
    · rw [if_neg e, if_neg e]
      exact h2 k hk
  · unfold qv_3
    rw [o 144 (by omega) (by omega), o 145 (by omega) (by omega)]
    exact h3
  · rw [bu_173, h173, zs_c (f := qv_b s) (g := qv_b (qr_bu s a)) a 16 (fun j hj hja => by unfold qv_b; rw [bu_5 ha hj, if_neg hja]), if_pos ha, h4.1]
    unfold qv_b
    rw [bu_5 ha ha, if_pos rfl, hb5]
    omega
  · intro k hk
    have h6 := h4.2 k hk
    rw [bu_5 ha hk, bu_o (i := 0) (by omega) (by omega)]
    by_cases e : k = a
    · subst e
      rw [if_pos rfl, hb5]
      refine ⟨by omega, fun t => ?_⟩
      have h7 := (hs.2.2 k hk).2.2.2.2.2 t
      rw [h7] at c1
      exact absurd c1 i10
    · rw [if_neg e]
      exact h6
  · rw [bu_173, h173, o 171 (by omega) (by omega), h5.1, zs_c (f := qv_c s) (g := qv_c (qr_bu s a)) a 16 (fun j hj hja => by unfold qv_c qr_ld; rw [bu_3 ha, if_neg hja, o 144 (by omega) (by omega)]), if_pos ha]
    have x1 : qv_c s a = 1 := by
      unfold qv_c
      rw [if_pos (Or.inl (ld_i.mpr c1))]
    have x2 : qv_c (qr_bu s a) a = 0 := by
      unfold qv_c
      rw [if_neg]
      rw [ld_i, bu_3 ha, if_pos rfl, o 144 (by omega) (by omega)]
      rintro (x | x)
      · exact i10 x
      · exact h44 x
    rw [x1, x2]
    omega
  · rw [o 171 (by omega) (by omega), o 172 (by omega) (by omega), o 175 (by omega) (by omega), o 144 (by omega) (by omega)]
    exact h5.2
  · unfold qv_8
    rw [o 174 (by omega) (by omega)]
    exact h8
theorem v_s0 {a : Nat} (hA : qi_A M s) (h : qv N s) (ha : a < 16) (h4' : s 144 = -1) (h3' : s (1 + 7 * a + 3) = 0) (hM : M + 2 < 2147483647) : qv N (qr_s0 s a) := by
  obtain ⟨hs, hp, hw, hl, hq, he, hct⟩ := hA
  obtain ⟨b1, b2, b3⟩ := vq_b h hct
  obtain ⟨h1, h2, h3, h4, h5, h8⟩ := h
  have o : ∀ i, ¬ i = 144 → ¬ i = 145 → ¬ i = 171 → ¬ i = 172 → ¬ i = 1 + 7 * a + 4 → qr_s0 s a i = s i := fun i x1 x2 x3 x4 x5 => s0_o x1 x2 x3 x4 x5
  have e144 : qr_s0 s a 144 = nI a := by
    unfold qr_s0
    simp (disch := omega) only [pk_us, pk_un, qz_ue]
  have e171 : qr_s0 s a 171 = s 171 + 1 := by
    unfold qr_s0
    simp (disch := omega) only [pk_us, pk_un, qz_ue]
  have e172 : qr_s0 s a 172 = s 172 + (if s (1 + 7 * a + 4) ≤ 0 then 0 else 1) := by
    unfold qr_s0
    simp (disch := omega) only [pk_us, pk_un, qz_ue]
  have e4 : qr_s0 s a (1 + 7 * a + 4) = 0 := by
    unfold qr_s0
    rw [pk_us]
  have h171 : (s 171 + 1).toInt = (s 171).toInt + 1 := qz_p1 (by omega)
  have am : ¬ nI a = (-1 : Int32) := qr_nI_m ha
  have w1 := hw.1
  have w2 := hw.2.1
  have w3 := hw.2.2.1
  have w4 := hw.2.2.2.1
  refine ⟨⟨?_, ?_⟩, ?_, ?_, ⟨?_, ?_⟩, ⟨?_, ?_⟩, ?_⟩
  · rw [o 139 (by omega) (by omega) (by omega) (by omega) (by omega)]
    intro c
    have c4 := c
    rw [qz_m1] at c4
    have := hs.2.1
    have := qn_int (x := s 139) (by omega)
    rw [o _ (by omega) (by omega) (by omega) (by omega) (by omega)]
    exact h1.1 c
  · rw [o 140 (by omega) (by omega) (by omega) (by omega) (by omega)]
    intro c
    have c4 := c
    rw [qz_m1] at c4
    have := hs.2.1
    have := qn_int (x := s 140) (by omega)
    rw [o _ (by omega) (by omega) (by omega) (by omega) (by omega)]
    exact h1.2 c
  · intro k hk
    by_cases e : k = a
    · left
      rw [e, e4]
    · rw [o (1 + 7 * k + 4) (by omega) (by omega) (by omega) (by omega) (by omega), o (1 + 7 * k + 3) (by omega) (by omega) (by omega) (by omega) (by omega), e144]
      rcases h2 k hk with x | x
      · exact Or.inl x
      · exact Or.inr ⟨x.1, fun t => e ((nI_eq (by omega) (by omega)).mp t).symm⟩
  · intro c
    rw [e144] at c
    exact absurd c am
  · rw [o 173 (by omega) (by omega) (by omega) (by omega) (by omega), h4.1]
    exact (zs_0 16 (fun j hj => by unfold qv_b; rw [o _ (by omega) (by omega) (by omega) (by omega) (by omega)])).symm
  · intro k hk
    rw [o (1 + 7 * k + 5) (by omega) (by omega) (by omega) (by omega) (by omega), o 0 (by omega) (by omega) (by omega) (by omega) (by omega)]
    exact h4.2 k hk
  · rw [e171, h171, o 173 (by omega) (by omega) (by omega) (by omega) (by omega), zs_c (f := qv_c s) (g := qv_c (qr_s0 s a)) a 16 (fun j hj hja => by
      unfold qv_c
      have x1 : (nI a = nI j) = False := eq_false (fun t => hja ((nI_eq (by omega) (by omega)).mp t).symm)
      have x2 : ((-1 : Int32) = nI j) = False := eq_false (fun t => qr_nI_m (by omega) t.symm)
      unfold qr_ld
      rw [o (1 + 7 * j + 3) (by omega) (by omega) (by omega) (by omega) (by omega), e144, h4']
      simp only [x1, x2]), if_pos ha, h5.1]
    have x1 : qv_c s a = 0 := by
      unfold qv_c
      rw [if_neg]
      rw [ld_i, h3', h4']
      rintro (x | x)
      · exact i10 x
      · exact am x.symm
    have x2 : qv_c (qr_s0 s a) a = 1 := by
      unfold qv_c
      rw [if_pos (Or.inr e144)]
    rw [x1, x2]
    omega
  · have h52 := h5.2
    rw [h4', if_pos rfl] at h52
    rw [e171, e172, e144, o 175 (by omega) (by omega) (by omega) (by omega) (by omega), if_neg am, h171]
    by_cases c : s (1 + 7 * a + 4) ≤ 0
    · rw [if_pos c, Int32.add_zero]
      omega
    · rw [if_neg c, qz_p1 (by omega)]
      omega
  · unfold qv_8
    rw [o 174 (by omega) (by omega) (by omega) (by omega) (by omega)]
    exact h8
theorem v_rm {m : Int} (hM : M + 2 < 2147483647) : ∀ (l : List Nat) (s : qs), qi_A M s → qv N s → qr_li s l → qv N (qr_rm m l s).2 := by
  intro l
  induction l with
  | nil => intro s _ h _; exact h
  | cons a l ih =>
    intro s hA h hl
    unfold qr_rm
    split
    · exact h
    · have ha := (hl.2 a).mp List.mem_cons_self
      have hn := (qi_n hA.1).2
      exact ih _ (bu_A hA (by omega)) (v_bu hA h (by omega) ha.2 hM) (bu_li hA.2.1 hA.1 hl)
theorem v_mr {m : Int} (hM : M + 2 < 2147483647) (hA : qi_A M s) (h : qv N s) : qv N (qr_mr m s).2 := v_rm hM _ s hA h (qr_li_ln s)
theorem v_st {a : Nat} (hM : M + 2 < 2147483647) (hA : qi_A M s) (h : qv N s) (ha : a < 16) (h4 : s 144 = -1) (h3 : s (1 + 7 * a + 3) = 0) : qv N (qr_st s a) := by
  unfold qr_st
  exact v_s0 (mr_A hA) (v_mr hM hA h) ha (by rw [mr_o hA.1 (by omega) (by omega)]; exact h4) (rm_3 _ s (ln_16 hA.1) h3) hM
theorem v_fg {a : Nat} (hA : qi_A M s) (h : qv N s) : qv N (qr_fg s a) := by
  have hq := qi_qdq hA.2.2.2.2.1
  exact vq_0 h (fg_o hq _ (by omega)) (fun k hk => ⟨fg_o hq _ (by omega), fg_o hq _ (by omega), fg_o hq _ (by omega)⟩) (fun i hi => fg_o hq _ (by omega)) (vw hA.2.2.1) hA.1
theorem v_bg (hM : M + 2 < 2147483647) (hI : qi_I M s) (h : qv N s) : qv N (qr_bg s) := by
  obtain ⟨hA, ht⟩ := hI
  have hA' := hA
  obtain ⟨hs, hp, hw, hl, hq, he, hc⟩ := hA
  have hn := (qi_n hs).2
  have hi := qn_int hs.1
  unfold qr_bg
  by_cases c1 : s 144 = -1
  · rw [if_neg (fun t => t c1)]
    by_cases c2 : s 142 = -1
    · rw [if_neg (fun t => t c2)]
      by_cases c3 : qn (s 146) = 0
      · rw [if_pos c3]
        unfold qr_b3
        cases e : qr_gd s with
        | none => exact h
        | some a =>
          obtain ⟨g1, g2, g3⟩ := gd_s hp hs e
          dsimp only
          split
          · exact v_st hM hA' h (by omega) c1 g2
          · exact h
      · rw [if_neg c3]
        have hq1 := qn_int hq.1
        have hq2 := hq.2.2.1 0 (by omega)
        rw [Nat.add_zero] at hq2
        obtain ⟨r1, r2, r3, r4, r5⟩ := hq2
        have r6 := qn_int r1
        have fo : ∀ i, i < 146 ∨ 163 ≤ i → qr_fg s (qn (s 147)) i = s i := fun i hi => fg_o (qi_qdq hq) _ hi
        exact v_st hM (fg_A hA') (v_fg hA' h) (by omega) (by rw [fo 144 (by omega)]; exact c1) (by rw [fo _ (by omega)]; exact r5)
    · rw [if_pos c2]
      obtain ⟨l1, l2, l3, l4, l5, l6⟩ := hl
      have g1 : 0 ≤ (s 142).toInt := by
        rw [qz_m1] at c2
        omega
      have g2 := qn_int g1
      exact v_st hM hA' h (by omega) c1 (l6 _ (by omega) (Or.inl ⟨by omega, by omega⟩))
  · rw [if_pos c1]
    exact h
end QVA
