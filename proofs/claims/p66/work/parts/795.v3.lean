/-! what more always holds (p66), kept by each call -/
section QVC
variable {s t : qs} {N M : Nat}
theorem v_go (hA : qi_A M s) (h : qv N s) (h0 : 0 < (s 113).toInt) (h4 : s 142 = -1) (hM : M + 2 < 2147483647) : qv N (qr_go s).2 := by
  have hA' := hA
  obtain ⟨hs, hp, hw, hl, hq, he, hc⟩ := hA
  obtain ⟨a1, a2⟩ := ga_b hp h0 hs
  have hn := (qi_n hs).2
  unfold qr_go
  generalize hga : qr_ga s = a at a1 a2 ⊢
  have ha : a < 16 := by omega
  by_cases hld : qr_ld s a = true
  · rw [if_pos hld]
    dsimp only
    have eo : ∀ i, ¬ i = 138 → ¬ i = 169 → upd (qr_g0 s) 169 (s 169 + 1) i = s i := fun i h1 h2 => by rw [pk_un h2, g0_o h1]
    have hv : qv N (upd (qr_g0 s) 169 (s 169 + 1)) := vq_0 h (eo _ (by omega) (by omega)) (fun k hk => ⟨eo _ (by omega) (by omega), eo _ (by omega) (by omega), eo _ (by omega) (by omega)⟩) (fun i hi => eo _ (by omega) (by omega)) (vw hw) hs
    have hw2 : qv_w (upd (qr_g0 s) 169 (s 169 + 1)) := by
      unfold qv_w
      rw [eo 139 (by omega) (by omega), eo 140 (by omega) (by omega), eo 0 (by omega) (by omega)]
      exact vw hw
    have hct := hc.2.2.2.2
    exact v_sh hw2 (qq_sl hs fun i hi => eo i (by omega) (by omega)) (by rw [eo 175 (by omega) (by omega)]; omega) hv (by rw [eo 0 (by omega) (by omega)]; exact a1) (by rw [eo _ (by omega) (by omega)]; exact ld_i.mp hld)
  · rw [if_neg hld]
    dsimp only
    have eo : ∀ i, ¬ i = 138 → ¬ i = 170 → ¬ i = 142 → upd (upd (qr_g0 s) 170 (s 170 + 1)) 142 (nI a) i = s i := fun i h1 h2 h3 => by rw [pk_un h3, pk_un h2, g0_o h1]
    have hqd : qi_qd (upd (upd (qr_g0 s) 170 (s 170 + 1)) 142 (nI a)) := by
      have h1 := qi_qdq hq
      have h2 := h1.2.1
      unfold qi_qd
      rw [eo 146 (by omega) (by omega) (by omega)]
      refine ⟨h1.1, h1.2.1, fun j k hj hk => ?_⟩
      rw [eo (147 + j) (by omega) (by omega) (by omega), eo (147 + k) (by omega) (by omega) (by omega)]
      exact h1.2.2 j k hj hk
    have fo : ∀ i, i < 146 ∨ 163 ≤ i → ¬ i = 138 → ¬ i = 170 → ¬ i = 142 → qr_fg (upd (upd (qr_g0 s) 170 (s 170 + 1)) 142 (nI a)) a i = s i := fun i h0 h1 h2 h3 => by rw [fg_o hqd a h0, eo i h1 h2 h3]
    exact vq_0 h (fo _ (by omega) (by omega) (by omega) (by omega)) (fun k hk => ⟨fo _ (by omega) (by omega) (by omega) (by omega), fo _ (by omega) (by omega) (by omega) (by omega), fo _ (by omega) (by omega) (by omega) (by omega)⟩) (fun i hi => fo _ (by omega) (by omega) (by omega) (by omega)) (vw hw) hs
theorem v_t2 (hA : qi_A M s) (h : qv N s) (hM : M + 3 < 2147483647) : qv N (qr_t2 s).2 := by
  have hA' := hA
  obtain ⟨hs, hp, hw, hl, hq, he, hc⟩ := hA
  have hn := (qi_n hs).2
  have hi := qn_int hs.1
  unfold qr_t2
  by_cases c1 : s 144 = -1
  · rw [if_pos c1]
    exact h
  · rw [if_neg c1]
    have g1 : 0 ≤ (s 144).toInt := by
      have := hl.2.2.1
      rw [qz_m1] at c1
      omega
    have g3 := qn_int g1
    have g4 := qn_of g1
    have g5 : qn (s 144) < qn (s 0) := by have := hl.2.2.2.1; omega
    by_cases c2 : s 145 - 1 = 0
    · rw [if_neg (fun t => t c2)]
      obtain ⟨b1, b2, b3, b4, b5, b6, b7⟩ := l0_A hA' g4 g5 (by omega)
      have hv := v_l0 hA' h g4 g5 c2 (by omega)
      by_cases c3 : s 142 = s 144
      · rw [if_neg (fun t => t c3)]
        refine v_sh (vw b3) b1 (by have := b7.2.2.2.2; omega) hv (by rw [l0_o (by omega) (by omega) (by omega) (by omega) (by omega)]; exact g5) ?_
        unfold qr_l0
        rw [us_o (by omega) (by omega), pk_us]
      · rw [if_pos c3]
        exact hv
    · rw [if_pos c2]
      dsimp only
      obtain ⟨h1, h2, h3, h4, h5, h8⟩ := h
      have eo : ∀ i, ¬ i = 145 → upd s 145 (s 145 - 1) i = s i := fun i h => pk_un h
      have hv : qv N (upd (upd s 145 (s 145 - 1)) 145 (s 145)) := by
        have e : upd (upd s 145 (s 145 - 1)) 145 (s 145) = s := by
          funext i
          by_cases e : i = 145
          · rw [e, pk_us]
          · rw [pk_un e, pk_un e]
        rw [e]
        exact ⟨h1, h2, h3, h4, h5, h8⟩
      have w1 := hw.1
      have w2 := hw.2.1
      have w3 := hw.2.2.1
      have w4 := hw.2.2.2.1
      refine ⟨⟨?_, ?_⟩, ?_, ?_, ⟨?_, ?_⟩, ⟨?_, ?_⟩, ?_⟩
      · rw [eo 139 (by omega)]
        intro c
        have c4 := c
        rw [qz_m1] at c4
        have := qn_int (x := s 139) (by omega)
        rw [eo _ (by omega)]
        exact h1.1 c
      · rw [eo 140 (by omega)]
        intro c
        have c4 := c
        rw [qz_m1] at c4
        have := qn_int (x := s 140) (by omega)
        rw [eo _ (by omega)]
        exact h1.2 c
      · intro k hk
        rw [eo _ (by omega), eo _ (by omega), eo _ (by omega)]
        exact h2 k hk
      · intro c
        rw [eo 144 (by omega)] at c
        exact absurd c c1
      · rw [eo 173 (by omega), h4.1]
        exact (zs_0 16 (fun j hj => by unfold qv_b; rw [eo _ (by omega)])).symm
      · intro k hk
        rw [eo _ (by omega), eo 0 (by omega)]
        exact h4.2 k hk
      · rw [eo 171 (by omega), eo 173 (by omega), h5.1, zs_0 (f := qv_c s) (g := qv_c (upd s 145 (s 145 - 1))) 16 (fun j hj => by unfold qv_c qr_ld; rw [eo _ (by omega), eo _ (by omega)])]
      · rw [eo 171 (by omega), eo 172 (by omega), eo 175 (by omega), eo 144 (by omega)]
        exact h5.2
      · unfold qv_8
        rw [eo 174 (by omega)]
        exact h8
theorem v_t3 (hA : qi_A M s) (h : qv N s) (hM : M + 3 < 2147483647) : qv N (qr_t3 s).2 := by
  unfold qr_t3
  split
  · next c =>
    refine v_go hA h ?_ c.1 (by omega)
    have := c.2.2.2.2
    rw [qz_l0] at this
    omega
  · exact h
theorem v_tc (hI : qi_I M s) (h : qv N s) (hM : M + 7 < 2147483647) (hN : N < 2147483647) : qv (N + 1) (qr_tc s).2 := by
  have a1 := t1_I hI
  have a2 := t2_I a1 (by omega)
  have a3 := t3_I a2 (by omega)
  unfold qr_tc
  exact v_bg (by omega) a3 (v_t3 a2.1 (v_t2 a1.1 (v_t1 hI.1 h hN) (by omega)) (by omega))
theorem v_ti : ∀ (m M N : Nat) (s : qs), qi_I M s → qv N s → M + 4 * m + 8 < 2147483647 → N + m < 2147483647 → qv (N + m) (qr_ti m s).2 := by
  intro m
  induction m with
  | zero => intro M N s _ h _ _; exact h
  | succ m ih =>
    intro M N s hI h hM hN
    rw [ti_s]
    have h1 := (tc_I hI (by omega)).1
    have h2 := v_tc hI h (by omega) (by omega)
    have h3 := ih (M + 4) (N + 1) _ h1 h2 (by omega) (by omega)
    have e : N + (m + 1) = N + 1 + m := by omega
    rw [e]
    exact h3
theorem v_aq {a : Nat} (hA : qi_A M s) (h : qv N s) (hq16 : (s 146).toInt < 16) : qv N (qr_aq s a) := by
  have h1 := hA.2.2.2.2.1.1
  have h6 := qn_int h1
  exact vq_0 h (aq_o (by omega) (by omega)) (fun k hk => ⟨aq_o (by omega) (by omega), aq_o (by omega) (by omega), aq_o (by omega) (by omega)⟩) (fun i hi => aq_o (by omega) (by omega)) (vw hA.2.2.1) hA.1
theorem v_ip {p a : Nat} (hA : qi_A M s) (h : qv N s) (hp : p ≤ qn (s 113)) (hc : qn (s 113) < 24) : qv N (qr_ip s p a) :=
  vq_0 h (ip_o hp (by omega) hc) (fun k hk => ⟨ip_o hp (by omega) hc, ip_o hp (by omega) hc, ip_o hp (by omega) hc⟩) (fun i hi => ip_o hp (by omega) hc) (vw hA.2.2.1) hA.1
theorem v_rp {p : Nat} (hA : qi_A M s) (h : qv N s) : qv N (qr_rp s p) := by
  have hc := (qi_p hA.2.1).2
  exact vq_0 h (rp_o (by omega) hc) (fun k hk => ⟨rp_o (by omega) hc, rp_o (by omega) hc, rp_o (by omega) hc⟩) (fun i hi => rp_o (by omega) hc) (vw hA.2.2.1) hA.1
theorem v_se {i : Nat} {v : Int32} (hA : qi_A M s) (h : qv N s) (hi : 163 ≤ i) (hi2 : i ≤ 167) : qv N (upd s i v) :=
  vq_0 h (pk_un (by omega)) (fun k hk => ⟨pk_un (by omega), pk_un (by omega), pk_un (by omega)⟩) (fun j hj => pk_un (by omega)) (vw hA.2.2.1) hA.1
theorem v_as {c l f : Int32} (hA : qi_A M s) (h : qv N s) (hn : (s 0).toInt < 16) : qv N (qr_as s c l f) := by
  obtain ⟨hs, hp, hw, hl, hq, he, hc⟩ := hA
  have h0 := qn_int hs.1
  have h00 := hs.1
  have o : ∀ i, ¬ i = 0 → ¬ i = 1 + 7 * qn (s 0) → ¬ i = 1 + 7 * qn (s 0) + 1 → ¬ i = 1 + 7 * qn (s 0) + 2 → qr_as s c l f i = s i := fun i x1 x2 x3 x4 => as_o x1 x2 x3 x4
  have e0 : qr_as s c l f 0 = s 0 + 1 := by
    unfold qr_as
    simp (disch := omega) only [pk_us, pk_un, qz_ue]
  have e01 : (s 0 + 1).toInt = (s 0).toInt + 1 := qz_p1 (by omega)
  obtain ⟨h1, h2, h3, h4, h5, h8⟩ := h
  have w1 := hw.1
  have w2 := hw.2.1
  have w3 := hw.2.2.1
  have w4 := hw.2.2.2.1
  refine ⟨⟨?_, ?_⟩, ?_, ?_, ⟨?_, ?_⟩, ⟨?_, ?_⟩, ?_⟩
  · rw [o 139 (by omega) (by omega) (by omega) (by omega)]
    intro c
    have c4 := c
    rw [qz_m1] at c4
    have := qn_int (x := s 139) (by omega)
    rw [o _ (by omega) (by omega) (by omega) (by omega)]
    exact h1.1 c
  · rw [o 140 (by omega) (by omega) (by omega) (by omega)]
    intro c
    have c4 := c
    rw [qz_m1] at c4
    have := qn_int (x := s 140) (by omega)
    rw [o _ (by omega) (by omega) (by omega) (by omega)]
    exact h1.2 c
  · intro k hk
    rw [o (1 + 7 * k + 4) (by omega) (by omega) (by omega) (by omega), o (1 + 7 * k + 3) (by omega) (by omega) (by omega) (by omega), o 144 (by omega) (by omega) (by omega) (by omega)]
    exact h2 k hk
  · unfold qv_3
    rw [o 144 (by omega) (by omega) (by omega) (by omega), o 145 (by omega) (by omega) (by omega) (by omega)]
    exact h3
  · rw [o 173 (by omega) (by omega) (by omega) (by omega), h4.1]
    exact (zs_0 16 (fun j hj => by unfold qv_b; rw [o _ (by omega) (by omega) (by omega) (by omega)])).symm
  · intro k hk
    have h42 := h4.2 k hk
    rw [o (1 + 7 * k + 5) (by omega) (by omega) (by omega) (by omega), e0, e01]
    exact ⟨h42.1, fun t => h42.2 (by omega)⟩
  · rw [o 171 (by omega) (by omega) (by omega) (by omega), o 173 (by omega) (by omega) (by omega) (by omega), h5.1, zs_0 (f := qv_c s) (g := qv_c (qr_as s c l f)) 16 (fun j hj => by unfold qv_c qr_ld; rw [o (1 + 7 * j + 3) (by omega) (by omega) (by omega) (by omega), o 144 (by omega) (by omega) (by omega) (by omega)])]
  · rw [o 171 (by omega) (by omega) (by omega) (by omega), o 172 (by omega) (by omega) (by omega) (by omega), o 175 (by omega) (by omega) (by omega) (by omega), o 144 (by omega) (by omega) (by omega) (by omega)]
    exact h5.2
  · unfold qv_8
    rw [o 174 (by omega) (by omega) (by omega) (by omega)]
    exact h8
/-- at first -/
theorem v_z : qv 0 qi_0 := by
  have z : ∀ k w, k < 16 → w < 7 → qi_0 (1 + 7 * k + w) = 0 := fun k w hk hw => z_0 (by omega)
  refine ⟨⟨fun c => absurd rfl c, fun c => absurd rfl c⟩, fun k hk => Or.inl (z k 4 hk (by omega)), fun _ => rfl, ⟨?_, ?_⟩, ⟨?_, ?_⟩, ?_⟩
  · rw [zs_0 (f := fun _ => 0) (g := qv_b qi_0) 16 (fun j hj => by unfold qv_b; rw [z j 5 hj (by omega)]; rfl)]
    rfl
  · intro k hk
    rw [z k 5 hk (by omega)]
    exact ⟨by decide, fun _ => rfl⟩
  · rw [zs_0 (f := fun _ => 0) (g := qv_c qi_0) 16 (fun j hj => by
      unfold qv_c
      rw [if_neg]
      rw [ld_i, z j 3 hj (by omega)]
      rintro (x | x)
      · exact i10 x
      · exact qr_nI_m (by omega) x.symm)]
    rfl
  · rw [show (qi_0 171).toInt = 0 from rfl, show (qi_0 172).toInt = 0 from rfl, show (qi_0 175).toInt = 0 from rfl, if_pos (show qi_0 144 = -1 from rfl)]
    omega
  · unfold qv_8
    rw [show (qi_0 174).toInt = 0 from rfl]
    omega
end QVC
