/-! what more always holds (p66), kept by each step: shows, ticks, the programme, settings -/
section QVB
variable {s t : qs} {N M : Nat}
theorem v_us {a : Nat} (hw : qv_w s) (hs : qi_sl s) (hc : (s 175).toInt < 2147483647) (h : qv N s) (ha : a < 16) : qv N (qr_us s a) := by
  have o : ∀ i, ¬ i = 175 → ¬ i = 1 + 7 * a + 6 → qr_us s a i = s i := fun i h1 h2 => us_o h1 h2
  have e175 : qr_us s a 175 = s 175 + 1 := by
    unfold qr_us
    rw [pk_un (by omega), pk_us]
  have h5 : (s 175 + 1).toInt = (s 175).toInt + 1 := qz_p1 hc
  -- first as if the count of uses stayed
  have g : qv N (upd (qr_us s a) 175 (s 175)) := vq_0 h (by rw [pk_un (by omega), o 0 (by omega) (by omega)]) (fun k hk => ⟨by rw [pk_un (by omega), o _ (by omega) (by omega)], by rw [pk_un (by omega), o _ (by omega) (by omega)], by rw [pk_un (by omega), o _ (by omega) (by omega)]⟩) (fun i hi => by
    by_cases e : i = 175
    · rw [e, pk_us]
    · rw [pk_un e, o _ (by omega) (by omega)]) hw hs
  obtain ⟨g1, g2, g3, g4, g5, g8⟩ := g
  have r : ∀ i, ¬ i = 175 → upd (qr_us s a) 175 (s 175) i = qr_us s a i := fun i hi => pk_un hi
  have w1 := hw.1
  have w2 := hw.2.1
  have w3 := hw.2.2.1
  have w4 := hw.2.2.2
  have hn := hs.2.1
  refine ⟨⟨?_, ?_⟩, ?_, ?_, ⟨?_, ?_⟩, ⟨?_, ?_⟩, ?_⟩
  · have x := g1.1
    rw [r 139 (by omega)] at x
    intro c
    have c2 := c
    rw [o 139 (by omega) (by omega), qz_m1] at c2
    have x2 := x c
    have := qn_int (x := s 139) (by omega)
    rw [o 139 (by omega) (by omega)] at x2 ⊢
    rw [r _ (by omega)] at x2
    exact x2
  · have x := g1.2
    rw [r 140 (by omega)] at x
    intro c
    have c2 := c
    rw [o 140 (by omega) (by omega), qz_m1] at c2
    have x2 := x c
    have := qn_int (x := s 140) (by omega)
    rw [o 140 (by omega) (by omega)] at x2 ⊢
    rw [r _ (by omega)] at x2
    exact x2
  · intro k hk
    have x := g2 k hk
    rw [r _ (by omega), r _ (by omega), r _ (by omega)] at x
    exact x
  · unfold qv_3 at g3 ⊢
    rw [r _ (by omega), r _ (by omega)] at g3
    exact g3
  · have x := g4.1
    rw [r _ (by omega)] at x
    rw [x]
    exact zs_0 16 (fun j hj => by unfold qv_b; rw [r _ (by omega)])
  · intro k hk
    have x := g4.2 k hk
    rw [r _ (by omega), r _ (by omega)] at x
    exact x
  · have x := g5.1
    rw [r _ (by omega), r _ (by omega)] at x
    rw [x]
    have z : qr_zs (qv_c (upd (qr_us s a) 175 (s 175))) 16 = qr_zs (qv_c (qr_us s a)) 16 := zs_0 16 (fun j hj => by unfold qv_c qr_ld; rw [r _ (by omega), r _ (by omega)])
    rw [z]
  · have x := g5.2
    rw [r 172 (by omega), r 171 (by omega), r 144 (by omega), pk_us] at x
    rw [e175, h5]
    omega
  · unfold qv_8 at g8 ⊢
    rw [r _ (by omega)] at g8
    exact g8
theorem v_sf {a : Nat} (hw : qv_w s) (hs : qi_sl s) (h : qv N s) (ha : a < 16) (h1 : s (1 + 7 * a + 3) = 1) : qv N (upd (upd (upd (qr_sf s a) 139 (nI a)) 143 0) 142 (-1)) := by
  obtain ⟨h1', h2, h3, h4, h5, h8⟩ := h
  have o : ∀ i, ¬ i = 139 → ¬ i = 140 → ¬ i = 141 → ¬ i = 142 → ¬ i = 143 → upd (upd (upd (qr_sf s a) 139 (nI a)) 143 0) 142 (-1) i = s i := fun i x1 x2 x3 x4 x5 => by rw [pk_un x4, pk_un x5, pk_un x1, sf_o x3 x2]
  have e139 : upd (upd (upd (qr_sf s a) 139 (nI a)) 143 0) 142 (-1) 139 = nI a := by
    simp (disch := omega) only [pk_us, pk_un, qz_ue]
  have e140 : upd (upd (upd (qr_sf s a) 139 (nI a)) 143 0) 142 (-1) 140 = qr_sf s a 140 := by
    simp (disch := omega) only [pk_us, pk_un, qz_ue]
  have w1 := hw.1
  have w2 := hw.2.1
  have w3 := hw.2.2.1
  have w4 := hw.2.2.2
  have hn := hs.2.1
  refine ⟨⟨?_, ?_⟩, ?_, ?_, ⟨?_, ?_⟩, ⟨?_, ?_⟩, ?_⟩
  · intro _
    rw [e139, qn_nI (by omega), o _ (by omega) (by omega) (by omega) (by omega) (by omega)]
    exact h1
  · rw [e140]
    have f : ∀ x : Int32, ¬ x = -1 → x.toInt < (s 0).toInt → -1 ≤ x.toInt → s (1 + 7 * qn x + 3) = 1 → upd (upd (upd (qr_sf s a) 139 (nI a)) 143 0) 142 (-1) (1 + 7 * qn x + 3) = 1 := fun x hx hx2 hx3 hx4 => by
      rw [qz_m1] at hx
      have := qn_int (x := x) (by omega)
      rw [o _ (by omega) (by omega) (by omega) (by omega) (by omega)]
      exact hx4
    have f140 : qr_sf s a 140 = s 140 ∨ qr_sf s a 140 = -1 ∨ qr_sf s a 140 = s 139 := by
      unfold qr_sf
      split
      · exact Or.inl rfl
      · rw [pk_us]
        split
        · exact Or.inr (Or.inl rfl)
        · exact Or.inr (Or.inr rfl)
    rcases f140 with x | x | x
    · rw [x]
      intro c
      exact f _ c w4 w3 (h1'.2 c)
    · rw [x]
      intro c
      exact absurd rfl c
    · rw [x]
      intro c
      exact f _ c w2 w1 (h1'.1 c)
  · intro k hk
    rw [o _ (by omega) (by omega) (by omega) (by omega) (by omega), o _ (by omega) (by omega) (by omega) (by omega) (by omega), o _ (by omega) (by omega) (by omega) (by omega) (by omega)]
    exact h2 k hk
  · unfold qv_3
    rw [o 144 (by omega) (by omega) (by omega) (by omega) (by omega), o 145 (by omega) (by omega) (by omega) (by omega) (by omega)]
    exact h3
  · rw [o 173 (by omega) (by omega) (by omega) (by omega) (by omega), h4.1]
    exact (zs_0 16 (fun j hj => by unfold qv_b; rw [o _ (by omega) (by omega) (by omega) (by omega) (by omega)])).symm
  · intro k hk
    rw [o _ (by omega) (by omega) (by omega) (by omega) (by omega), o 0 (by omega) (by omega) (by omega) (by omega) (by omega)]
    exact h4.2 k hk
  · rw [o 171 (by omega) (by omega) (by omega) (by omega) (by omega), o 173 (by omega) (by omega) (by omega) (by omega) (by omega), h5.1]
    rw [zs_0 (f := qv_c s) (g := qv_c (upd (upd (upd (qr_sf s a) 139 (nI a)) 143 0) 142 (-1))) 16 (fun j hj => by unfold qv_c qr_ld; rw [o _ (by omega) (by omega) (by omega) (by omega) (by omega), o _ (by omega) (by omega) (by omega) (by omega) (by omega)])]
  · rw [o 171 (by omega) (by omega) (by omega) (by omega) (by omega), o 172 (by omega) (by omega) (by omega) (by omega) (by omega), o 175 (by omega) (by omega) (by omega) (by omega) (by omega), o 144 (by omega) (by omega) (by omega) (by omega) (by omega)]
    exact h5.2
  · unfold qv_8
    rw [o 174 (by omega) (by omega) (by omega) (by omega) (by omega)]
    exact h8
/-- what is on show after a slide is shown, is within -/
theorem sf_w {a : Nat} (hw : qv_w s) (hs : qi_sl s) (ha : a < qn (s 0)) : -1 ≤ (qr_sf s a 140).toInt ∧ (qr_sf s a 140).toInt < (s 0).toInt := by
  have w1 := hw.1
  have w2 := hw.2.1
  have w3 := hw.2.2.1
  have w4 := hw.2.2.2
  have h0 := hs.1
  unfold qr_sf
  split
  · exact ⟨w3, w4⟩
  · rw [pk_us]
    split
    · rw [qk_tm1]; omega
    · exact ⟨w1, w2⟩
theorem v_sh {a : Nat} (hw : qv_w s) (hs : qi_sl s) (hc : (s 175).toInt < 2147483647) (h : qv N s) (ha : a < qn (s 0)) (h1 : s (1 + 7 * a + 3) = 1) : qv N (qr_sh s a) := by
  have hn := (qi_n hs).2
  have hi := qn_int hs.1
  unfold qr_sh
  have o : ∀ i, ¬ i = 139 → ¬ i = 140 → ¬ i = 141 → ¬ i = 142 → ¬ i = 143 → upd (upd (upd (qr_sf s a) 139 (nI a)) 143 0) 142 (-1) i = s i := fun i x1 x2 x3 x4 x5 => by rw [pk_un x4, pk_un x5, pk_un x1, sf_o x3 x2]
  have e139 : upd (upd (upd (qr_sf s a) 139 (nI a)) 143 0) 142 (-1) 139 = nI a := by
    simp (disch := omega) only [pk_us, pk_un, qz_ue]
  have e140 : upd (upd (upd (qr_sf s a) 139 (nI a)) 143 0) 142 (-1) 140 = qr_sf s a 140 := by
    simp (disch := omega) only [pk_us, pk_un, qz_ue]
  have e0 := o 0 (by omega) (by omega) (by omega) (by omega) (by omega)
  have f := sf_w hw hs ha
  have hf : qv_w (upd (upd (upd (qr_sf s a) 139 (nI a)) 143 0) 142 (-1)) := by
    unfold qv_w
    rw [e0, e139, e140, qz_nI (by omega)]
    exact ⟨by omega, by omega, f.1, f.2⟩
  exact v_us hf (qq_sl hs (fun i hi => o i (by omega) (by omega) (by omega) (by omega) (by omega))) (by rw [o 175 (by omega) (by omega) (by omega) (by omega) (by omega)]; exact hc) (v_sf hw hs h (by omega) h1) (by omega)
theorem v_t1 (hA : qi_A M s) (h : qv N s) (hN : N < 2147483647) : qv (N + 1) (qr_t1 s) := by
  obtain ⟨hs, hp, hw, hl, hq, he, hc⟩ := hA
  obtain ⟨h1, h2, h3, h4, h5, h8⟩ := h
  have hn := (qi_n hs).2
  have o : ∀ i, (i < 1 ∨ 112 < i) → (i ≤ 139 ∨ i = 142 ∨ (144 ≤ i ∧ i < 168) ∨ (168 < i ∧ ¬ i = 174)) → qr_t1 s i = s i := fun i x1 x2 => t1_o hs (by omega) x2
  have oS : ∀ k w, w < 7 → ¬ w = 4 → k < 16 → qr_t1 s (1 + 7 * k + w) = s (1 + 7 * k + w) := fun k w hw2 hw4 hk => t1_o hs (Or.inr (Or.inr ⟨k, w, rfl, hw2, hw4⟩)) (by omega)
  have w1 := hw.1
  have w2 := hw.2.1
  have w3 := hw.2.2.1
  have w4 := hw.2.2.2.1
  have hn2 := hs.2.1
  refine ⟨⟨?_, ?_⟩, ?_, ?_, ⟨?_, ?_⟩, ⟨?_, ?_⟩, ?_⟩
  · rw [o 139 (by omega) (by omega)]
    intro c
    have c2 := c
    rw [qz_m1] at c2
    have := qn_int (x := s 139) (by omega)
    rw [oS _ 3 (by omega) (by omega) (by omega)]
    exact h1.1 c
  · have f140 : qr_t1 s 140 = -1 ∨ qr_t1 s 140 = s 140 := by
      rw [t1_140 hs]
      by_cases c : s 141 - (if s 141 ≤ 0 then (0 : Int32) else 1) ≤ 0
      · rw [if_pos c]
        exact Or.inl rfl
      · rw [if_neg c]
        exact Or.inr rfl
    rcases f140 with x | x
    · rw [x]
      intro c
      exact absurd rfl c
    · rw [x]
      intro c
      have c2 := c
      rw [qz_m1] at c2
      have := qn_int (x := s 140) (by omega)
      rw [oS _ 3 (by omega) (by omega) (by omega)]
      exact h1.2 c
  · intro k hk
    rw [t1_4 hk, oS k 3 (by omega) (by omega) hk, o 144 (by omega) (by omega)]
    rcases h2 k hk with x | x
    · left
      rw [x]
      split
      · rw [if_pos (by decide)]
      · rfl
    · exact Or.inr x
  · unfold qv_3
    rw [o 144 (by omega) (by omega), o 145 (by omega) (by omega)]
    exact h3
  · rw [o 173 (by omega) (by omega), h4.1]
    exact (zs_0 16 (fun j hj => by unfold qv_b; rw [oS j 5 (by omega) (by omega) hj])).symm
  · intro k hk
    rw [oS k 5 (by omega) (by omega) hk, o 0 (by omega) (by omega)]
    exact h4.2 k hk
  · rw [o 171 (by omega) (by omega), o 173 (by omega) (by omega), h5.1]
    rw [zs_0 (f := qv_c s) (g := qv_c (qr_t1 s)) 16 (fun j hj => by unfold qv_c qr_ld; rw [oS j 3 (by omega) (by omega) hj, o 144 (by omega) (by omega)])]
  · rw [o 171 (by omega) (by omega), o 172 (by omega) (by omega), o 175 (by omega) (by omega), o 144 (by omega) (by omega)]
    exact h5.2
  · have e : qr_t1 s 174 = s 174 + (if s 142 = -1 then 0 else 1) := by
      unfold qr_t1
      rw [fd_o (by omega) (by omega), em_o _ (by omega) _ hn]
      unfold qr_t0
      simp (disch := omega) only [pk_us, pk_un, qz_ue]
    unfold qv_8 at h8 ⊢
    rw [e]
    split
    · rw [Int32.add_zero]
      omega
    · rw [qz_p1 (by omega)]
      omega
theorem v_l0 {a : Nat} (hA : qi_A M s) (h : qv N s) (ha : s 144 = nI a) (ha2 : a < qn (s 0)) (h45 : s 145 - 1 = 0) (hM : M + 2 < 2147483647) : qv N (qr_l0 s a) := by
  obtain ⟨hs, hp, hw, hl, hq, he, hc⟩ := hA
  obtain ⟨h1, h2, h3, h4, h5, h8⟩ := h
  have hn := (qi_n hs).2
  have ha3 : a < 16 := by omega
  have o : ∀ i, ¬ i = 145 → ¬ i = 144 → ¬ i = 1 + 7 * a + 3 → ¬ i = 175 → ¬ i = 1 + 7 * a + 6 → qr_l0 s a i = s i := fun i x1 x2 x3 x4 x5 => l0_o x1 x2 x3 x4 x5
  have e144 : qr_l0 s a 144 = -1 := by
    unfold qr_l0
    rw [us_o (by omega) (by omega)]
    simp (disch := omega) only [pk_us, pk_un, qz_ue]
  have e145 : qr_l0 s a 145 = s 145 - 1 := by
    unfold qr_l0
    rw [us_o (by omega) (by omega)]
    simp (disch := omega) only [pk_us, pk_un, qz_ue]
  have e33 : qr_l0 s a (1 + 7 * a + 3) = 1 := by
    unfold qr_l0
    rw [us_o (by omega) (by omega), pk_us]
  have e175 : qr_l0 s a 175 = s 175 + 1 := by
    unfold qr_l0 qr_us
    simp (disch := omega) only [pk_us, pk_un, qz_ue]
  have hct := hc.2.2.2.2
  have am : ¬ nI a = (-1 : Int32) := qr_nI_m ha3
  have w1 := hw.1
  have w2 := hw.2.1
  have w3 := hw.2.2.1
  have w4 := hw.2.2.2.1
  have hn2 := hs.2.1
  have f : ∀ x : Int32, ¬ x = -1 → x.toInt < (s 0).toInt → -1 ≤ x.toInt → s (1 + 7 * qn x + 3) = 1 → qr_l0 s a (1 + 7 * qn x + 3) = 1 := fun x hx hx2 hx3 hx4 => by
    rw [qz_m1] at hx
    have := qn_int (x := x) (by omega)
    by_cases e : qn x = a
    · rw [e, e33]
    · rw [o _ (by omega) (by omega) (by omega) (by omega) (by omega)]
      exact hx4
  refine ⟨⟨?_, ?_⟩, ?_, ?_, ⟨?_, ?_⟩, ⟨?_, ?_⟩, ?_⟩
  · rw [o 139 (by omega) (by omega) (by omega) (by omega) (by omega)]
    intro c
    exact f _ c w2 w1 (h1.1 c)
  · rw [o 140 (by omega) (by omega) (by omega) (by omega) (by omega)]
    intro c
    exact f _ c w4 w3 (h1.2 c)
  · intro k hk
    rw [o (1 + 7 * k + 4) (by omega) (by omega) (by omega) (by omega) (by omega), e144]
    by_cases e : k = a
    · left
      rcases h2 k hk with x | x
      · exact x
      · rw [e, ha] at x
        exact absurd rfl x.2
    · rw [o (1 + 7 * k + 3) (by omega) (by omega) (by omega) (by omega) (by omega)]
      rcases h2 k hk with x | x
      · exact Or.inl x
      · exact Or.inr ⟨x.1, fun t => qr_nI_m (by omega) t.symm⟩
  · intro _
    rw [e145, h45]
  · rw [o 173 (by omega) (by omega) (by omega) (by omega) (by omega), h4.1]
    exact (zs_0 16 (fun j hj => by unfold qv_b; rw [o _ (by omega) (by omega) (by omega) (by omega) (by omega)])).symm
  · intro k hk
    rw [o (1 + 7 * k + 5) (by omega) (by omega) (by omega) (by omega) (by omega), o 0 (by omega) (by omega) (by omega) (by omega) (by omega)]
    exact h4.2 k hk
  · rw [o 171 (by omega) (by omega) (by omega) (by omega) (by omega), o 173 (by omega) (by omega) (by omega) (by omega) (by omega), h5.1]
    rw [zs_0 (f := qv_c s) (g := qv_c (qr_l0 s a)) 16 (fun j hj => by
      unfold qv_c
      by_cases e : j = a
      · subst e
        rw [if_pos (Or.inl (ld_i.mpr e33)), if_pos (Or.inr ha)]
      · unfold qr_ld
        have x1 : (nI a = nI j) = False := eq_false (fun t => e ((nI_eq (by omega) (by omega)).mp t).symm)
        have x2 : ((-1 : Int32) = nI j) = False := eq_false (fun t => qr_nI_m (by omega) t.symm)
        rw [o (1 + 7 * j + 3) (by omega) (by omega) (by omega) (by omega) (by omega), e144, ha]
        simp only [x1, x2])]
  · have h52 := h5.2
    rw [ha, if_neg am] at h52
    rw [o 171 (by omega) (by omega) (by omega) (by omega) (by omega), o 172 (by omega) (by omega) (by omega) (by omega) (by omega), e175, e144, if_pos rfl, qz_p1 (by omega)]
    omega
  · unfold qv_8
    rw [o 174 (by omega) (by omega) (by omega) (by omega) (by omega)]
    exact h8
end QVB
