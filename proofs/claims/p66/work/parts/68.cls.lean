/-! the class: loading begins, shows, a tick -/
section QCD
variable {σ σ' : qa_T} {s t : qs} {R N : Nat}
theorem upd_c {f : Nat → Int32} {i j : Nat} {v w : Int32} (h : ¬ i = j) : upd (upd f i v) j w = upd (upd f j w) i v := by
  funext k
  unfold upd
  by_cases c1 : k = i
  · by_cases c2 : k = j
    · omega
    · rw [if_neg c2, if_pos c1, if_pos c1]
  · by_cases c2 : k = j
    · rw [if_pos c2, if_neg c1, if_pos c2]
    · rw [if_neg c2, if_neg c1, if_neg c1, if_neg c2]
theorem ra_e' {s' : qs} (h : qe_A R σ s) (e : s = s') : qe_A R σ s' := by
  subst e
  exact h
theorem cl_75 {a : Nat} {x : Int32} {τ : qa_T} (h : qe_A R τ (upd t 172 (t 172 + x))) (h12 : τ.1 (R, 12) 4 = qr_ta t) (hx : x = if t (1 + 7 * a + 4) ≤ 0 then 0 else 1) (hA : qi_A N t) (ha : a < qn (t 0)) (h4 : t 144 = -1) (h3 : t (1 + 7 * a + 3) = 0) (hA2 : qi_A N (qr_s0 t a)) : ∃ σ', qa_fX1_beginLoading_75 R (nI a) (t (1 + 7 * a)) τ = some σ' ∧ qe_R R σ' (qr_s0 t a) ∧ qe_F R τ σ' := by
  have hn := (qi_n hA.1).2
  have hi := qn_int hA.1.1
  have ha2 : a < 16 := by omega
  have g1 : τ.1 (R, 15) 3 = t 171 := by rw [ra_171 h, pk_un (by omega)]
  have h1 : qe_A R (qa_wi τ (R, 15) 3 (t 171 + 1)) (upd (upd t 172 (t 172 + x)) 171 (t 171 + 1)) := ra_w h (by omega) (by omega) (by omega) rfl rfl
  have h2 : qe_A R (qa_wi (qa_wi τ (R, 15) 3 (t 171 + 1)) (R, 12) 0 (nI a)) (upd (upd (upd t 172 (t 172 + x)) 171 (t 171 + 1)) 144 (nI a)) := ra_w h1 (by omega) (by omega) (by omega) rfl rfl
  have g2 : qa_fX6_ticksToLoad R (nI a) (Int32.ofInt 0) (qa_wi (qa_wi τ (R, 15) 3 (t 171 + 1)) (R, 12) 0 (nI a)) = qr_du t a := by
    rw [cl_du h2 ha2]
    unfold qr_du
    simp (disch := omega) only [pk_us, pk_un, qz_ue]
  have h3' : qe_A R (qa_wi (qa_wi (qa_wi τ (R, 15) 3 (t 171 + 1)) (R, 12) 0 (nI a)) (R, 12) 1 (qr_du t a)) (upd (upd (upd (upd t 172 (t 172 + x)) 171 (t 171 + 1)) 144 (nI a)) 145 (qr_du t a)) := ra_w h2 (by omega) (by omega) (by omega) rfl rfl
  have g3 : (qa_wi (qa_wi (qa_wi τ (R, 15) 3 (t 171 + 1)) (R, 12) 0 (nI a)) (R, 12) 1 (qr_du t a)).1 (R, 12) 4 = qr_ta t := by rw [wi_ni (by omega), wi_ni (by omega), wi_np (by simp), h12]
  have h4' : qe_A R (qa_wi (qa_wi (qa_wi (qa_wi τ (R, 15) 3 (t 171 + 1)) (R, 12) 0 (nI a)) (R, 12) 1 (qr_du t a)) (R, 12) 4 (qr_ta t + t (1 + 7 * a))) (upd (upd (upd (upd t 172 (t 172 + x)) 171 (t 171 + 1)) 144 (nI a)) 145 (qr_du t a)) := ra_o h3' (Or.inr (Or.inr ⟨rfl, by omega⟩))
  have h5' : qe_A R (qa_wi (qa_wi (qa_wi (qa_wi (qa_wi τ (R, 15) 3 (t 171 + 1)) (R, 12) 0 (nI a)) (R, 12) 1 (qr_du t a)) (R, 12) 4 (qr_ta t + t (1 + 7 * a))) (R, 6) a 0) (upd (upd (upd (upd (upd t 172 (t 172 + x)) 171 (t 171 + 1)) 144 (nI a)) 145 (qr_du t a)) (1 + 7 * a + 4) 0) := ra_w h4' (by omega) (by omega) (by omega) (by rw [qx_sl ha2 (by omega)]) (by rw [qx_sl ha2 (by omega)])
  have e : upd (upd (upd (upd (upd t 172 (t 172 + x)) 171 (t 171 + 1)) 144 (nI a)) 145 (qr_du t a)) (1 + 7 * a + 4) 0 = qr_s0 t a := by
    unfold qr_s0
    rw [← hx, upd_c (i := 172) (j := 171) (by omega), upd_c (i := 172) (j := 144) (by omega), upd_c (i := 171) (j := 144) (by omega), upd_c (i := 172) (j := 145) (by omega), upd_c (i := 171) (j := 145) (by omega)]
  unfold qa_fX1_beginLoading_75
  dsimp only
  rw [g1, qk_a1, g2, g3, set_in ha2 (by omega), qk_a0]
  refine ⟨_, rfl, ⟨ra_e' h5' e, ?_⟩, qe_Ft (qe_Ft (qe_Ft (qe_Ft (qe_Fw (by omega)) (qe_Fw (by omega))) (qe_Fw (by omega))) (qe_Fw (by omega))) (qe_Fw (by omega))⟩
  have b1 := qr_ta_b hA.1
  have b2 := (hA.1.2.2 a ha2).2.2.2.2.1 (by omega)
  rw [wi_np (by simp), wi_eq, qz_eq, s0_ta hA ha h4 h3 hA2.1, qz_add (by omega) (by omega)]
theorem cl_st {a : Nat} (h : qe_R R σ s) (hA : qi_A N s) (ha : a < qn (s 0)) (h4 : s 144 = -1) (h3 : s (1 + 7 * a + 3) = 0) (hq0 : ∀ k : Nat, (k : Int) < (s 146).toInt → ¬ s (147 + k) = nI a) : ∃ σ', ((qa_fX1_burnDownTo R (s 163 - s (1 + 7 * a)) σ).bind fun c6 =>
        if (qa_fX9_at (R, 6) 16 (nI a) c6) ≤ 0 then
          qa_fX1_beginLoading_75 R (nI a) (s (1 + 7 * a)) c6
        else
          let σ14 := qa_wi c6 (R, 15) 4 ((c6.1 (R, 15) 4) + (Int32.ofInt 1))
          qa_fX1_beginLoading_75 R (nI a) (s (1 + 7 * a)) σ14) = some σ' ∧ qe_R R σ' (qr_st s a) ∧ qe_F R σ σ' := by
  have hs := hA.1
  have hn := (qi_n hs).2
  have hi := qn_int hs.1
  have ha2 : a < 16 := by omega
  have hc := (hs.2.2 a ha2).2.2.2.2.1 (by omega)
  have hm := hA.2.2.2.2.2.1.1
  have hm2 := hA.2.2.2.2.2.1.2.1
  have hq2 := hA.2.2.2.2.1.2.1
  obtain ⟨τ, a1, a2, a3⟩ := cl_bd (m := (s (1 + 7 * a)).toInt) (x := s 163 - s (1 + 7 * a)) h hA (by rw [qz_sub (by omega) (by omega)])
  have hAt := mr_A (m := (s (1 + 7 * a)).toInt) hA
  have o : ∀ i, (i < 1 ∨ 112 < i ∨ ∃ k w, i = 1 + 7 * k + w ∧ (w < 3 ∨ w = 6)) → ¬ i = 173 → (qr_mr (s (1 + 7 * a)).toInt s).2 i = s i := fun i h1 h2 => mr_o hs h1 h2
  have h3' : (qr_mr (s (1 + 7 * a)).toInt s).2 (1 + 7 * a + 3) = 0 := rm_3 _ s (ln_16 hs) h3
  have oc := o (1 + 7 * a) (Or.inr (Or.inr ⟨a, 0, rfl, Or.inl (by omega)⟩)) (by omega)
  unfold qr_st
  rw [a1, Option.bind_some]
  generalize (qr_mr (s (1 + 7 * a)).toInt s).2 = t at a2 hAt o h3' oc ⊢
  have e0 := o 0 (by omega) (by omega)
  have e144 := o 144 (by omega) (by omega)
  have hA2 : qi_A N (qr_s0 t a) := s0_A hAt (by rw [e0]; exact ha) h3' (fun k hk => by
    rw [o 146 (by omega) (by omega)] at hk
    rw [o (147 + k) (by omega) (by omega)]
    exact hq0 k hk)
  rw [at_in ha2 (by omega), ra_e a2.1 ha2, ← oc]
  by_cases c : t (1 + 7 * a + 4) ≤ 0
  · rw [if_pos c]
    obtain ⟨σ', b1, b2, b3⟩ := cl_75 (x := 0) (ra_e' a2.1 (by rw [Int32.add_zero, qz_us rfl])) a2.2 (by rw [if_pos c]) hAt (by rw [e0]; exact ha) (by rw [e144]; exact h4) h3' hA2
    exact ⟨σ', b1, b2, qe_Ft a3 b3⟩
  · rw [if_neg c]
    dsimp only
    rw [ra_172 a2.1, qk_a1]
    obtain ⟨σ', b1, b2, b3⟩ := cl_75 (τ := qa_wi τ (R, 15) 4 (t 172 + 1)) (x := 1) (ra_w a2.1 (by omega) (by omega) (by omega) rfl rfl) (by rw [wi_np (by simp)]; exact a2.2) (by rw [if_neg c]) hAt (by rw [e0]; exact ha) (by rw [e144]; exact h4) h3' hA2
    exact ⟨σ', b1, b2, qe_Ft a3 (qe_Ft (qe_Fw (by omega)) b3)⟩
theorem cl_bg (h : qe_R R σ s) (hA : qi_A N s) : ∃ σ', qa_fX1_beginLoading R σ = some σ' ∧ qe_R R σ' (qr_bg s) ∧ qe_F R σ σ' := by
  have hA' := hA
  obtain ⟨hs, hp, hw, hl, hq, he, hc⟩ := hA
  have hn := (qi_n hs).2
  have hi := qn_int hs.1
  unfold qa_fX1_beginLoading qa_fX1_nextToLoad qr_bg
  rw [ra_144 h.1, ra_142 h.1, ra_146 h.1]
  simp only [qk_am1, qk_a0]
  have start : ∀ (τ : qa_T) (t : qs) (a : Nat), qe_R R τ t → qi_A N t → a < qn (t 0) → t 144 = -1 → t (1 + 7 * a + 3) = 0 → (∀ k : Nat, (k : Int) < (t 146).toInt → ¬ t (147 + k) = nI a) → ∃ σ', (if ¬ nI a = -1 then
        let v5 : Int32 := (qa_fX9_at (R, 2) 16 (nI a) τ)
        (qa_fX1_burnDownTo R ((τ.1 (R, 14) 0) - v5) τ).bind fun c6 =>
        if (qa_fX9_at (R, 6) 16 (nI a) c6) ≤ 0 then
          qa_fX1_beginLoading_75 R (nI a) v5 c6
        else
          let σ14 := qa_wi c6 (R, 15) 4 ((c6.1 (R, 15) 4) + (Int32.ofInt 1))
          qa_fX1_beginLoading_75 R (nI a) v5 σ14
      else
        some τ) = some σ' ∧ qe_R R σ' (qr_st t a) ∧ qe_F R τ σ' := by
    intro τ t a b1 b2 b3 b4 b5 b6
    have hn2 := (qi_n b2.1).2
    have ha2 : a < 16 := by omega
    rw [if_pos (qr_nI_m ha2)]
    dsimp only
    rw [at_in ha2 (by omega), ra_c b1.1 ha2, ra_163 b1.1]
    exact cl_st b1 b2 b3 b4 b5 b6
  by_cases c1 : s 144 = -1
  · rw [if_pos c1, if_neg (not_not_intro c1)]
    by_cases c2 : s 142 = -1
    · rw [if_pos c2, if_neg (not_not_intro c2)]
      have hq1 := qn_int hq.1
      by_cases c3 : qn (s 146) = 0
      · rw [if_pos (by rw [qz_l0]; omega), if_pos c3, cl_gt h hA', Option.bind_some, Option.bind_some]
        dsimp only
        have stop : qr_g2 s = none → qr_b3 s = s → ∃ σ', (if ¬ qo_i (qr_g2 s) = -1 then
            (qa_fX1_burnDownTo R ((σ.1 (R, 14) 0) - (qa_fX9_at (R, 2) 16 (qo_i (qr_g2 s)) σ)) σ).bind fun c6 =>
            if (qa_fX9_at (R, 6) 16 (qo_i (qr_g2 s)) c6) ≤ 0 then
              qa_fX1_beginLoading_75 R (qo_i (qr_g2 s)) (qa_fX9_at (R, 2) 16 (qo_i (qr_g2 s)) σ) c6
            else
              qa_fX1_beginLoading_75 R (qo_i (qr_g2 s)) (qa_fX9_at (R, 2) 16 (qo_i (qr_g2 s)) σ) (qa_wi c6 (R, 15) 4 ((c6.1 (R, 15) 4) + (Int32.ofInt 1)))
          else
            some σ) = some σ' ∧ qe_R R σ' (qr_b3 s) ∧ qe_F R σ σ' := by
          intro h1 h2
          rw [h1, h2, if_neg (not_not_intro (show qo_i none = -1 from rfl))]
          exact ⟨σ, rfl, h, qe_Fr⟩
        cases e : qr_gd s with
        | none =>
          exact stop (by unfold qr_g2; rw [e]) (by unfold qr_b3; rw [e])
        | some a =>
          obtain ⟨g1, g2, g3⟩ := gd_s hp hs e
          by_cases c4 : qr_ft (s (1 + 7 * a)).toInt s = true
          · have h1 : qr_g2 s = some a := by
              unfold qr_g2
              rw [e]
              dsimp only
              rw [if_pos c4]
            have h2 : qr_b3 s = qr_st s a := by
              unfold qr_b3
              rw [e]
              dsimp only
              rw [if_pos c4]
            rw [h1, h2]
            exact start σ s a h hA' g1 c1 g2 (fun k hk => by omega)
          · refine stop ?_ ?_
            · unfold qr_g2
              rw [e]
              dsimp only
              rw [if_neg c4]
            · unfold qr_b3
              rw [e]
              dsimp only
              rw [if_neg c4]
      · rw [if_neg (by rw [qz_l0]; omega), if_neg c3]
        have hq2 := hq.2.2.1 0 (by omega)
        rw [Nat.add_zero] at hq2
        obtain ⟨r1, r2, r3, r4, r5⟩ := hq2
        have r6 := qn_int r1
        have e7 : s 147 = nI (qn (s 147)) := qn_of r1
        have e8 : qa_fX9_at (R, 13) 16 0 σ = nI (qn (s 147)) := by
          rw [show (0 : Int32) = nI 0 from rfl, at_in (by omega) (by omega), ra_q h.1 (by omega) (by omega)]
          exact e7
        have e9 : qr_qp s (qn (s 147)) = some 0 := by
          obtain ⟨q, e⟩ : ∃ q, qn (s 146) = q + 1 := ⟨qn (s 146) - 1, by omega⟩
          unfold qr_qp
          rw [e]
          unfold qr_qf
          rw [if_pos e7]
        obtain ⟨τ, a1, a2, a3⟩ := cl_uq (p := 0) h hs (qi_qdq hq) (by omega)
        have a4 : qa_fX2_unqueue R 0 σ = some τ := a1
        rw [e8, a4]
        simp only [Option.bind_some]
        rw [← fg_some e9] at a2
        have hf := fg_A (a := qn (s 147)) hA'
        obtain ⟨f1, f2⟩ := fg_q (qi_qdq hq) (qn (s 147))
        have fo : ∀ i, i < 146 ∨ 163 ≤ i → qr_fg s (qn (s 147)) i = s i := fun i hi => fg_o (qi_qdq hq) _ hi
        obtain ⟨σ', b1, b2, b3⟩ := start τ _ (qn (s 147)) a2 hf (by rw [fo 0 (by omega)]; omega) (by rw [fo 144 (by omega)]; exact c1) (by rw [fo _ (by omega)]; exact r5) (fun k hk => (f2 k hk).1)
        exact ⟨σ', b1, b2, qe_Ft a3 b3⟩
    · rw [if_neg c2, if_pos c2]
      have g1 : 0 ≤ (s 142).toInt := by
        have := hl.1
        rw [qz_m1] at c2
        omega
      have g2 := qn_int g1
      have g3 := hl.2.1
      have e7 : s 142 = nI (qn (s 142)) := qn_of g1
      rw [Option.bind_some]
      dsimp only
      generalize hz : qn (s 142) = z at e7 g2 ⊢
      rw [e7]
      exact start σ s z h hA' (by omega) c1 (hl.2.2.2.2.2 _ (by omega) (Or.inl ⟨by omega, by omega⟩)) (fun k hk => by rw [← e7]; exact (hq.2.2.1 k hk).2.2.1)
  · rw [if_neg c1, if_pos c1]
    exact ⟨σ, rfl, h, qe_Fr⟩
theorem cl_us {a : Nat} (h : qe_R R σ s) (hs : qi_sl s) (ha : a < 16) : qe_R R (qa_fX6_use R (nI a) σ) (qr_us s a) ∧ qe_F R σ (qa_fX6_use R (nI a) σ) := by
  have hn := (qi_n hs).2
  have e : qa_fX6_use R (nI a) σ = qa_wi (qa_wi σ (R, 1) 8 (s 175 + 1)) (R, 8) a (s 175 + 1) := by
    unfold qa_fX6_use
    dsimp only
    rw [ra_175 h.1, qk_a1, wi_eq, set_in ha (by omega)]
  rw [e]
  refine ⟨⟨?_, ?_⟩, qe_Ft (qe_Fw (by omega)) (qe_Fw (by omega))⟩
  · exact ra_w (ra_w (i := 175) h.1 (by omega) (by omega) (by omega) rfl rfl) (by omega) (by omega) (by omega) (by rw [qx_sl ha (by omega)]) (by rw [qx_sl ha (by omega)])
  · rw [wi_np (by simp), wi_np (by simp), h.2]
    exact (ta_q (us_o (by omega) (by omega)) (us_o (by omega) (by omega)) (fun k hk => ⟨us_o (by omega) (by omega), us_o (by omega) (by omega)⟩)).symm
theorem cl_sh {a : Nat} (h : qe_R R σ s) (hs : qi_sl s) (hw : qi_sw s) (ha : a < qn (s 0)) : qe_R R (qa_fX1_bringOn R (nI a) σ) (qr_sh s a) ∧ qe_F R σ (qa_fX1_bringOn R (nI a) σ) := by
  have hn := (qi_n hs).2
  have hi := qn_int hs.1
  have ha2 : a < 16 := by omega
  have hf := ((hs.2.2 a ha2).2.2.2.2.1 (by omega)).2.2.2.2
  obtain ⟨w1, w2, w3, w4, w5, w6, w7, w8⟩ := hw
  have fin : ∀ τ, qe_R R τ (qr_sf s a) → qe_F R σ τ → qe_R R (qa_fX6_use R (nI a) (qa_fX7_bring_41 R (nI a) (s (1 + 7 * a + 2)) τ)) (qr_sh s a) ∧ qe_F R σ (qa_fX6_use R (nI a) (qa_fX7_bring_41 R (nI a) (s (1 + 7 * a + 2)) τ)) := by
    intro τ b1 b2
    have e : qa_fX7_bring_41 R (nI a) (s (1 + 7 * a + 2)) τ = qa_wi (qa_wi (qa_wi τ (R, 11) 0 (nI a)) (R, 11) 1 0) (R, 11) 4 (-1) := by
      unfold qa_fX7_bring_41
      rw [qk_a0, qk_am1]
    rw [e]
    have h1 : qe_R R (qa_wi (qa_wi (qa_wi τ (R, 11) 0 (nI a)) (R, 11) 1 0) (R, 11) 4 (-1)) (upd (upd (upd (qr_sf s a) 139 (nI a)) 143 0) 142 (-1)) := by
      refine ⟨ra_w (ra_w (ra_w (i := 139) b1.1 (by omega) (by omega) (by omega) rfl rfl) (i := 143) (by omega) (by omega) (by omega) rfl rfl) (i := 142) (by omega) (by omega) (by omega) rfl rfl, ?_⟩
      rw [wi_np (by simp), wi_np (by simp), wi_np (by simp), b1.2]
      have e0 : qr_sf s a 0 = s 0 := sf_o (by omega) (by omega)
      exact (ta_q (by simp (disch := omega) only [pk_us, pk_un, qz_ue]) (by simp (disch := omega) only [pk_us, pk_un, qz_ue]) (fun k hk => by
        rw [e0] at hk
        constructor <;> simp (disch := omega) only [pk_us, pk_un, qz_ue])).symm
    have h2 : qi_sl (upd (upd (upd (qr_sf s a) 139 (nI a)) 143 0) 142 (-1)) := by
      refine qq_sl hs (fun i hi => ?_)
      rw [pk_un (by omega), pk_un (by omega), pk_un (by omega), sf_o (by omega) (by omega)]
    obtain ⟨c1, c2⟩ := cl_us h1 h2 ha2
    exact ⟨c1, qe_Ft b2 (qe_Ft (qe_Ft (qe_Ft (qe_Fw (by omega)) (qe_Fw (by omega))) (qe_Fw (by omega))) c2)⟩
  have sfR : ∀ τ, qe_A R τ (qr_sf s a) → τ.1 (R, 12) 4 = σ.1 (R, 12) 4 → qe_R R τ (qr_sf s a) := fun τ b1 b2 => ⟨b1, by
    rw [b2, h.2]
    exact (ta_q (sf_o (by omega) (by omega)) (sf_o (by omega) (by omega)) (fun k hk => ⟨sf_o (by omega) (by omega), sf_o (by omega) (by omega)⟩)).symm⟩
  unfold qa_fX1_bringOn
  dsimp only
  rw [at_in ha2 (by omega), ra_f h.1 ha2]
  unfold qa_fX7_bring
  rw [ra_139 h.1, qk_am1]
  by_cases c1 : nI a = s 139
  · rw [if_pos c1]
    refine fin σ ?_ qe_Fr
    unfold qr_sf
    rw [if_pos (Or.inr c1.symm)]
    exact h
  · rw [if_neg c1]
    have both : ∀ v : Int32, (if s (1 + 7 * a + 2) ≤ 0 then (-1 : Int32) else s 139) = v → qe_R R (qa_fX6_use R (nI a) (qa_fX7_bring_21 R (nI a) (s (1 + 7 * a + 2)) v σ)) (qr_sh s a) ∧ qe_F R σ (qa_fX6_use R (nI a) (qa_fX7_bring_21 R (nI a) (s (1 + 7 * a + 2)) v σ)) := by
      intro v hv
      unfold qa_fX7_bring_21 qa_fX7_bring_38
      dsimp only
      rw [wi_eq, qk_am1, qk_a0]
      have h1 : qe_A R (qa_wi σ (R, 11) 2 v) (upd s 140 v) := ra_w h.1 (by omega) (by omega) (by omega) rfl rfl
      have h2 : ∀ w, qe_A R (qa_wi (qa_wi σ (R, 11) 2 v) (R, 11) 3 w) (upd (upd s 140 v) 141 w) := fun w => ra_w h1 (by omega) (by omega) (by omega) rfl rfl
      have hF : ∀ w, qe_F R σ (qa_wi (qa_wi σ (R, 11) 2 v) (R, 11) 3 w) := fun w => qe_Ft (qe_Fw (by omega)) (qe_Fw (by omega))
      have h12 : ∀ w, (qa_wi (qa_wi σ (R, 11) 2 v) (R, 11) 3 w).1 (R, 12) 4 = σ.1 (R, 12) 4 := fun w => by rw [wi_np (by simp), wi_np (by simp)]
      by_cases c2 : s 139 = -1
      · have hv2 : v = -1 := by
          rw [← hv, c2]
          split <;> rfl
        have w9 := w8 (qz_m1.mp c2)
        have w10 := w7.mpr w9.1
        rw [if_pos hv2]
        refine fin _ (sfR _ (ra_e' (h2 0) ?_) (h12 0)) (hF 0)
        unfold qr_sf
        rw [if_pos (Or.inl c2), hv2, qz_us (k := 140) (qz_m1.mpr w10).symm, qz_us (qz_00.mpr w9.1).symm]
      · have esf : qr_sf s a = upd (upd s 141 (s (1 + 7 * a + 2))) 140 v := by
          unfold qr_sf
          rw [if_neg (fun t => t.elim c2 (fun t => c1 t.symm)), hv]
        by_cases c3 : s (1 + 7 * a + 2) ≤ 0
        · rw [if_pos c3] at hv
          rw [if_pos hv.symm]
          refine fin _ (sfR _ (ra_e' (h2 0) ?_) (h12 0)) (hF 0)
          rw [esf, upd_c (by omega)]
          rw [qz_l0] at c3
          rw [show s (1 + 7 * a + 2) = 0 from qz_00.mpr (by omega)]
        · rw [if_neg c3] at hv
          rw [if_neg (by rw [← hv]; exact c2)]
          refine fin _ (sfR _ (ra_e' (h2 _) ?_) (h12 _)) (hF _)
          rw [esf, upd_c (by omega)]
    by_cases c3 : s (1 + 7 * a + 2) ≤ 0
    · rw [if_pos c3]
      exact both (-1) (by rw [if_pos c3])
    · rw [if_neg c3]
      exact both (s 139) (by rw [if_neg c3])
end QCD
