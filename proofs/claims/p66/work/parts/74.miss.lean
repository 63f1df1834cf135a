/-! what would be: misses of a round -/
section QWC
variable {ρ σ σ' : qa_T} {s t : qs} {y : Int32} {R S N : Nat}
/-- the steps to wait -/
def qr_wk (s : qs) : Nat := if s 142 = -1 then 0 else qr_wn s
def qr_mo (s : qs) : Nat × qs := (qr_bt (!(qr_go s).1), (qr_ti 10 (qr_ti (qr_wk (qr_bg (qr_go s).2)) (qr_bg (qr_go s).2)).2).2)
def qr_mi : Nat → qs → Nat × qs
  | 0, s => (0, s)
  | k + 1, s => ((qr_mo s).1 + (qr_mi k (qr_mo s).2).1, (qr_mi k (qr_mo s).2).2)
theorem mo_2 (s : qs) : (qr_mo s).2 = (qr_ti 10 (qr_ti (qr_wk (qr_bg (qr_go s).2)) (qr_bg (qr_go s).2)).2).2 := by
  unfold qr_mo
  dsimp only
theorem mi_s (k : Nat) (s : qs) : qr_mi (k + 1) s = ((qr_mo s).1 + (qr_mi k (qr_mo s).2).1, (qr_mi k (qr_mo s).2).2) := rfl
/-- what holds through such a round -/
def qi_m (N c : Nat) (s : qs) : Prop := qi_I N s ∧ s 142 = -1 ∧ s 167 = 0 ∧ s 113 = nI c
theorem wk_b (h : qi_A N s) (hst : qi_st s) : qr_wk s ≤ 40 := by
  unfold qr_wk
  split
  · omega
  · next c =>
    have c4 : ¬ s 144 = -1 := fun t => c (hst t).1
    have := W_b h c c4
    have := qn_int (x := qr_W s) (by omega)
    unfold qr_wn
    omega
theorem go_o (h : qi_A N s) (h0 : 0 < (s 113).toInt) : (qr_go s).2 113 = s 113 ∧ (qr_go s).2 167 = s 167 ∧ (qr_go s).2 170 = s 170 + nI (qr_bt (!(qr_go s).1)) := by
  obtain ⟨hs, hp, hw, hl, hq, he, hc⟩ := h
  have hn := (qi_n hs).2
  have ha := (ga_b hp h0 hs).1
  unfold qr_go
  split
  · dsimp only
    rw [sh_o (by omega) (by omega) (by omega), sh_o (by omega) (by omega) (by omega), sh_o (by omega) (by omega) (by omega), pk_un (by omega), pk_un (by omega), pk_un (by omega), g0_o (by omega), g0_o (by omega), g0_o (by omega)]
    refine ⟨rfl, rfl, ?_⟩
    show s 170 = s 170 + nI 0
    rw [nI_0, Int32.add_zero]
  · dsimp only
    have hd := qi_qdq hq
    have h2 := hd.2.1
    have hqd : qi_qd (upd (upd (qr_g0 s) 170 (s 170 + 1)) 142 (nI (qr_ga s))) := by
      have eo : ∀ i, ¬ i = 138 → ¬ i = 170 → ¬ i = 142 → upd (upd (qr_g0 s) 170 (s 170 + 1)) 142 (nI (qr_ga s)) i = s i := fun i h1 h2 h3 => by rw [pk_un h3, pk_un h2, g0_o h1]
      unfold qi_qd
      rw [eo 146 (by omega) (by omega) (by omega)]
      refine ⟨hd.1, hd.2.1, fun j k hj hk => ?_⟩
      rw [eo (147 + j) (by omega) (by omega) (by omega), eo (147 + k) (by omega) (by omega) (by omega)]
      exact hd.2.2 j k hj hk
    rw [fg_o hqd _ (by omega), fg_o hqd _ (by omega), fg_o hqd _ (by omega), pk_un (by omega), pk_un (by omega), pk_un (by omega), pk_un (by omega), pk_un (by omega), pk_us, g0_o (by omega), g0_o (by omega)]
    exact ⟨rfl, rfl, rfl⟩
/-- one place -/
theorem mo_I {c : Nat} (h : qi_m N c s) (hc : 0 < c) (hc2 : c ≤ 24) (hN : N + 210 < 2147483647) : qi_m (N + 210) c (qr_mo s).2 ∧ (qr_mo s).2 170 = s 170 + nI (qr_mo s).1 ∧ (∀ i, 176 ≤ i → (qr_mo s).2 i = s i) := by
  obtain ⟨hI, h4, h7, h3⟩ := h
  have h0 : 0 < (s 113).toInt := by rw [h3, qz_nI (by omega)]; omega
  obtain ⟨o1, o2, o3⟩ := go_o hI.1 h0
  have g1 := go_I hI h0 h4 (by omega)
  obtain ⟨g2, g3⟩ := bg_I g1
  have g4 := wk_b g2.1 g3
  have p3 : qr_bg (qr_go s).2 113 = nI c := by rw [bg_o g1.1 (by omega), o1, h3]
  have p7 : qr_bg (qr_go s).2 167 = 0 := by rw [bg_o g1.1 (by omega), o2, h7]
  have p0 : qr_bg (qr_go s).2 170 = s 170 + nI (qr_bt (!(qr_go s).1)) := by rw [bg_o g1.1 (by omega), o3]
  have ph : ∀ i, 176 ≤ i → qr_bg (qr_go s).2 i = s i := fun i hi => by rw [hi_bg g1.1 hi, hi_go hI.1 h0 hi]
  have hw : (qr_ti (qr_wk (qr_bg (qr_go s).2)) (qr_bg (qr_go s).2)).2 142 = -1 := by
    by_cases c1 : qr_bg (qr_go s).2 142 = -1
    · have : qr_wk (qr_bg (qr_go s).2) = 0 := by
        unfold qr_wk
        rw [if_pos c1]
      rw [this, ti_0]
      exact c1
    · have c4 : ¬ qr_bg (qr_go s).2 144 = -1 := fun t => c1 (g3 t).1
      have : qr_wk (qr_bg (qr_go s).2) = qr_wn (qr_bg (qr_go s).2) := by
        unfold qr_wk
        rw [if_neg c1]
      rw [this] at g4 ⊢
      exact wt_e _ (N + 2) _ g2 c1 c4 rfl (by omega)
  unfold qr_mo
  generalize qr_bg (qr_go s).2 = u at g2 g3 g4 p3 p7 p0 ph hw ⊢
  have q1 := (ti_I (qr_wk u) (N + 2) u g2 (by omega)).1
  obtain ⟨q2, q3, q4, q5⟩ := ti_0' (qr_wk u) (N + 2) u g2 p7 (by omega)
  have q6 := hi_ti (qr_wk u) (N + 2) u g2 (by omega)
  generalize (qr_ti (qr_wk u) u).2 = v at hw q1 q2 q3 q4 q6 ⊢
  have r1 := (ti_I 10 (N + 2 + 4 * qr_wk u) v q1 (by omega)).1
  obtain ⟨r2, r3, r4, r5⟩ := ti_0' 10 (N + 2 + 4 * qr_wk u) v q1 q2 (by omega)
  have r6 := hi_ti 10 (N + 2 + 4 * qr_wk u) v q1 (by omega)
  dsimp only
  exact ⟨⟨qq_I r1 (by omega), r5 hw, r2, by rw [r3, q3, p3]⟩, by rw [r4, q4, p0], fun i hi => by rw [r6 i hi, q6 i hi, ph i hi]⟩
theorem mi_I {c : Nat} (hc : 0 < c) (hc2 : c ≤ 24) : ∀ (k N : Nat) (s : qs), qi_m N c s → N + 210 * k < 2147483647 → qi_m (N + 210 * k) c (qr_mi k s).2 ∧ (qr_mi k s).2 170 = s 170 + nI (qr_mi k s).1 ∧ (∀ i, 176 ≤ i → (qr_mi k s).2 i = s i) := by
  intro k
  induction k with
  | zero =>
    intro N s h _
    exact ⟨h, by show s 170 = s 170 + nI 0; rw [nI_0, Int32.add_zero], fun _ _ => rfl⟩
  | succ k ih =>
    intro N s h hN
    obtain ⟨a1, a2, a3⟩ := mo_I h hc hc2 (by omega)
    obtain ⟨b1, b2, b3⟩ := ih (N + 210) _ a1 (by omega)
    rw [mi_s]
    dsimp only
    exact ⟨by rw [show N + 210 * (k + 1) = N + 210 + 210 * k by omega]; exact b1, by rw [b2, a2, Int32.add_assoc, nI_add], fun i hi => by rw [b3 i hi, a3 i hi]⟩
/-- the class: ten ticks -/
theorem cl_m3 {x : Int32} {k37 : Int32 → Int32 → qa_T → Option (Int32 × qa_T)} {x2 x3 : Int32} : ∀ (j k f N : Nat) (σ : qa_T) (s : qs), qe_R 2 σ s → qi_I N s → N + 4 * j < 2147483647 → k + j = 10 → j < f → ∃ σ', qa_fX9_missesOnTrial_113 x k37 f x2 x3 (nI k) σ = k37 x2 (x3 + 1) σ' ∧ qe_R 2 σ' (qr_ti j s).2 ∧ qe_F 2 σ σ' := by
  intro j
  induction j with
  | zero =>
    intro k f N σ s h hI hN hk hf
    obtain ⟨f, rfl⟩ : ∃ i, f = i + 1 := ⟨f - 1, by omega⟩
    rw [qa_fX9_missesOnTrial_113, qk_b10, qk_i10, if_pos (nI_le (by omega) (by omega)), qk_a1]
    exact ⟨σ, rfl, h, qe_Fr⟩
  | succ j ih =>
    intro k f N σ s h hI hN hk hf
    obtain ⟨f, rfl⟩ : ∃ i, f = i + 1 := ⟨f - 1, by omega⟩
    obtain ⟨τ, a1, a2, a3⟩ := cl_tc h hI.1 (by omega)
    rw [qa_fX9_missesOnTrial_113, qk_b10, qk_i10, if_neg (nI_ge (by omega) (by omega)), a1, Option.bind_some]
    dsimp only
    rw [qk_a1, nI_1]
    obtain ⟨σ', b1, b2, b3⟩ := ih (k + 1) f (N + 4) τ _ a2 (tc_I hI (by omega)).1 (by omega) (by omega) (by omega)
    rw [ti_s]
    exact ⟨σ', b1, b2, qe_Ft a3 b3⟩
/-- the class: waiting -/
theorem cl_m2 {x : Int32} {k37 : Int32 → Int32 → qa_T → Option (Int32 × qa_T)} {x2 x3 : Int32} : ∀ (w k f N : Nat) (σ : qa_T) (s : qs), qe_R 2 σ s → qi_I N s → qi_st s → qr_wk s = w → N + 4 * w < 2147483647 → k + w ≤ 999 → w < f → ∃ σ', qa_fX9_missesOnTrial_74 x k37 f x2 x3 (nI k) σ = qa_fX9_missesOnTrial_110 x k37 x2 x3 σ' ∧ qe_R 2 σ' (qr_ti w s).2 ∧ qe_F 2 σ σ' := by
  intro w
  induction w with
  | zero =>
    intro k f N σ s h hI hst hw hN hk hf
    obtain ⟨f, rfl⟩ : ∃ i, f = i + 1 := ⟨f - 1, by omega⟩
    have h2 : s 142 = -1 := by
      by_cases c : s 142 = -1
      · exact c
      · have c4 : ¬ s 144 = -1 := fun t => c (hst t).1
        have := W_b hI.1 c c4
        have := qn_int (x := qr_W s) (by omega)
        unfold qr_wk qr_wn at hw
        rw [if_neg c] at hw
        omega
    rw [qa_fX9_missesOnTrial_74, ra_142 h.1, qk_am1, if_pos h2]
    exact ⟨σ, rfl, h, qe_Fr⟩
  | succ w ih =>
    intro k f N σ s h hI hst hw hN hk hf
    obtain ⟨f, rfl⟩ : ∃ i, f = i + 1 := ⟨f - 1, by omega⟩
    have e1000 : ((Int16.ofInt 1000).toInt32) = nI 1000 := rfl
    have h2 : ¬ s 142 = -1 := fun t => by
      unfold qr_wk at hw
      rw [if_pos t] at hw
      omega
    have h4 : ¬ s 144 = -1 := fun t => h2 (hst t).1
    have hw2 : qr_wn s = w + 1 := by
      unfold qr_wk at hw
      rw [if_neg h2] at hw
      exact hw
    obtain ⟨b1, b2⟩ := wt_s hI h2 h4 (by omega)
    obtain ⟨τ, a1, a2, a3⟩ := cl_tc h hI.1 (by omega)
    rw [qa_fX9_missesOnTrial_74, ra_142 h.1, qk_am1, if_neg h2, e1000, if_neg (nI_ge (by omega) (by omega)), a1, Option.bind_some]
    dsimp only
    rw [qk_a1, nI_1]
    have hw3 : qr_wk (qr_tc s).2 = w := by
      unfold qr_wk
      by_cases c : w = 0
      · subst c
        rw [if_pos (b1 hw2).2]
      · obtain ⟨c1, c2, c3, c4⟩ := b2 (by omega)
        rw [if_neg c2, c4, hw2]
        rfl
    obtain ⟨σ', d1, d2, d3⟩ := ih (k + 1) f (N + 4) τ _ a2 (tc_I hI (by omega)).1 (tc_I hI (by omega)).2 hw3 (by omega) (by omega) (by omega)
    rw [ti_s]
    exact ⟨σ', d1, d2, qe_Ft a3 d3⟩
theorem cl_m1 {x : Int32} {c : Nat} (hc : 0 < c) (hc2 : c ≤ 24) : ∀ (j k f N : Nat) (σ : qa_T) (s : qs) (x2 : Int32), qe_R 2 σ s → qi_m N c s → σ.1 (1, 9) 0 = nI c → N + 210 * j < 2147483647 → k + j = c → j < f → ∃ σ', qa_fX9_missesOnTrial_37 x f x2 (nI k) σ = some (x2 + nI (qr_mi j s).1, σ') ∧ qe_F 2 σ σ' := by
  intro j
  induction j with
  | zero =>
    intro k f N σ s x2 h hm h9 hN hk hf
    obtain ⟨f, rfl⟩ : ∃ i, f = i + 1 := ⟨f - 1, by omega⟩
    rw [qa_fX9_missesOnTrial_37, h9, if_pos (nI_le (by omega) (by omega))]
    exact ⟨σ, by show some (x2, σ) = some (x2 + nI 0, σ); rw [nI_0, Int32.add_zero], qe_Fr⟩
  | succ j ih =>
    intro k f N σ s x2 h hm h9 hN hk hf
    obtain ⟨f, rfl⟩ : ∃ i, f = i + 1 := ⟨f - 1, by omega⟩
    obtain ⟨m1, m2, m3⟩ := mo_I hm hc hc2 (by omega)
    obtain ⟨hI, h4, h7, h3⟩ := hm
    have h0 : 0 < (s 113).toInt := by rw [h3, qz_nI (by omega)]; omega
    have g1 := go_I hI h0 h4 (by omega)
    obtain ⟨g2, g3⟩ := bg_I g1
    have g4 := wk_b g2.1 g3
    obtain ⟨τ1, a1, a2, a3⟩ := cl_go h hI.1 h0
    obtain ⟨τ2, b1, b2, b3⟩ := cl_bg a2 g1.1
    have all : ∀ z : Int32, ∃ σ', qa_fX9_missesOnTrial_64 x (qa_fX9_missesOnTrial_37 x f) z (nI k) τ1 = some (z + nI (qr_mi j (qr_mo s).2).1, σ') ∧ qe_F 2 σ σ' := by
      intro z
      obtain ⟨τ3, c1, c3, c4⟩ := cl_m2 (x := x) (k37 := qa_fX9_missesOnTrial_37 x f) (x2 := z) (x3 := nI k) (qr_wk (qr_bg (qr_go s).2)) 0 qa_fu (N + 2) τ2 _ b2 g2 g3 rfl (by omega) (by omega) (by unfold qa_fu; omega)
      obtain ⟨τ4, d1, d3, d4⟩ := cl_m3 (x := x) (k37 := qa_fX9_missesOnTrial_37 x f) (x2 := z) (x3 := nI k) 10 0 qa_fu (N + 2 + 4 * qr_wk (qr_bg (qr_go s).2)) τ3 _ c3 (ti_I _ (N + 2) _ g2 (by omega)).1 (by omega) (by omega) (by unfold qa_fu; omega)
      rw [← mo_2] at d3
      have hF : qe_F 2 σ τ4 := qe_Ft a3 (qe_Ft b3 (qe_Ft c4 d4))
      obtain ⟨σ', e1, e2⟩ := ih (k + 1) f (N + 210) τ4 (qr_mo s).2 z d3 m1 (by rw [hF.1 _ (Or.inl (by decide)), h9]) (by omega) (by omega) (by omega)
      refine ⟨σ', ?_, qe_Ft hF e2⟩
      unfold qa_fX9_missesOnTrial_64
      rw [b1, Option.bind_some, qk_a0, ← nI_0, c1]
      unfold qa_fX9_missesOnTrial_110
      rw [qk_a0, ← nI_0, d1, nI_1]
      exact e1
    rw [qa_fX9_missesOnTrial_37, h9, if_neg (nI_ge (by omega) (by omega)), a1, Option.bind_some, mi_s]
    dsimp only
    have emo : (qr_mo s).1 = qr_bt (!(qr_go s).1) := rfl
    rw [emo]
    cases c : (qr_go s).1
    · rw [if_neg (show ¬ ¬ qa_bi false = 0 by decide), qk_a1]
      obtain ⟨σ', e1, e2⟩ := all (x2 + 1)
      refine ⟨σ', ?_, e2⟩
      rw [e1]
      show some (x2 + nI 1 + nI (qr_mi j (qr_mo s).2).1, σ') = some (x2 + nI (1 + (qr_mi j (qr_mo s).2).1), σ')
      rw [Int32.add_assoc, nI_add]
    · rw [if_pos (show ¬ qa_bi true = 0 by decide)]
      obtain ⟨σ', e1, e2⟩ := all x2
      refine ⟨σ', ?_, e2⟩
      rw [e1]
      show some (x2 + nI (qr_mi j (qr_mo s).2).1, σ') = some (x2 + nI (0 + (qr_mi j (qr_mo s).2).1), σ')
      rw [Nat.zero_add]
/-- a state with another order and the pace 0 -/
def qr_m0 (s : qs) (x : Int32) : qs := upd (upd s 165 x) 167 0
theorem m0_m {x : Int32} (hI : qi_I N s) (hx : 0 ≤ x.toInt) (hx2 : x.toInt ≤ 2) (h4 : s 142 = -1) : qi_m N (qn (s 113)) (qr_m0 s x) := by
  obtain ⟨e1, e2, e3, e4, e5, e6, e7, e8, e9, e10⟩ := hI.1.2.2.2.2.2.1
  have i1 : qi_I N (upd s 165 x) := se_I hI (by omega) (by omega) (by
    unfold qi_se
    rw [pk_us, pk_un (by omega), pk_un (by omega), pk_un (by omega), pk_un (by omega)]
    exact ⟨e1, e2, e3, e4, hx, hx2, e7, e8, e9, e10⟩)
  obtain ⟨f1, f2, f3, f4, f5, f6, f7, f8, f9, f10⟩ := i1.1.2.2.2.2.2.1
  have i2 : qi_I N (qr_m0 s x) := se_I i1 (by omega) (by omega) (by
    unfold qi_se
    rw [pk_us, pk_un (by omega), pk_un (by omega), pk_un (by omega), pk_un (by omega), qk_t0]
    exact ⟨f1, f2, f3, f4, f5, f6, f7, f8, by omega, by omega⟩)
  refine ⟨i2, ?_, ?_, ?_⟩
  · unfold qr_m0
    rw [pk_un (by omega), pk_un (by omega)]
    exact h4
  · unfold qr_m0
    rw [pk_us]
  · unfold qr_m0
    rw [pk_un (by omega), pk_un (by omega)]
    exact (qi_p hI.1.2.1).1
def qr_mx (s : qs) (x : Int32) : Nat := (qr_mi (qn (s 113)) (qr_m0 s x)).1
theorem cl_mi {x : Int32} (h : qe_R 1 σ s) (hI : qi_I N s) (hx : 0 ≤ x.toInt) (hx2 : x.toInt ≤ 2) (h4 : s 142 = -1) (h0 : 0 < (s 113).toInt) (hN : N + 6000 < 2147483647) : ∃ σ', qa_fX9_missesOnTrial x σ = some (nI (qr_mx s x), σ') ∧ qe_F 2 σ σ' := by
  obtain ⟨p1, p2⟩ := qi_p hI.1.2.1
  have hp := qn_int hI.1.2.1.1
  obtain ⟨τ, a1, a2, a3⟩ := cl_cp (R := 2) h hI.1.1 (by decide)
  have h1 : qe_R 2 (qa_wi (qa_wi τ (2, 14) 2 x) (2, 14) 4 0) (qr_m0 s x) := by
    refine ⟨ra_w (ra_w (i := 165) a2.1 (by omega) (by omega) (by omega) rfl rfl) (i := 167) (by omega) (by omega) (by omega) rfl rfl, ?_⟩
    rw [wi_np (by decide), wi_np (by decide), a2.2]
    unfold qr_m0
    exact (ta_q (by rw [pk_un (by omega), pk_un (by omega)]) (by rw [pk_un (by omega), pk_un (by omega)]) (fun k hk => by
      have := (qi_n hI.1.1).2
      exact ⟨by rw [pk_un (by omega), pk_un (by omega)], by rw [pk_un (by omega), pk_un (by omega)]⟩)).symm
  have hF : qe_F 2 σ (qa_wi (qa_wi τ (2, 14) 2 x) (2, 14) 4 0) := qe_Ft a3 (qe_Ft (qe_Fw (by omega)) (qe_Fw (by omega)))
  obtain ⟨σ', b1, b2⟩ := cl_m1 (x := x) (c := qn (s 113)) (by omega) p2 (qn (s 113)) 0 qa_fu N _ _ 0 h1 (m0_m hI hx hx2 h4) (by rw [hF.1 _ (Or.inl (by decide)), ra_113 h.1]; exact p1) (by omega) (by omega) (by unfold qa_fu; omega)
  refine ⟨σ', ?_, qe_Ft hF b2⟩
  unfold qa_fX9_missesOnTrial
  rw [a1, Option.bind_some]
  dsimp only
  rw [Int32.zero_add] at b1
  rw [qk_a0]
  exact b1
theorem i32_c (a b : Int32) : a + b - a = b := by
  rw [Int32.add_comm, Int32.add_sub_cancel]
end QWC
