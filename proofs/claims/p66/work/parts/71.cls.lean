/-! the class: the programme's places, a new slide -/
section QCG
variable {σ σ' : qa_T} {s t : qs} {R S N : Nat}
/-- a change of the programme's cells alone -/
theorem pr_A {τ : qa_T} (h : qe_A R σ s) (hF : ∀ p : qa_P, ¬ p = (R, 9) → ¬ p = (R, 10) → τ.1 p = σ.1 p) (e3 : τ.1 (R, 9) 0 = t 113) (e8 : τ.1 (R, 9) 1 = t 138) (er : ∀ k, k < 24 → k < qn (t 113) → τ.1 (R, 10) k = t (114 + k)) (eo : ∀ i, (i < 113 ∨ 138 < i) → t i = s i) : qe_A R τ t := by
  intro i hi hl
  by_cases c1 : i = 113
  · subst c1
    exact e3
  · by_cases c2 : i = 138
    · subst c2
      exact e8
    · by_cases c3 : 114 ≤ i ∧ i < 138
      · have e2 := qx_pr (k := i - 114) (by omega)
        rw [show 114 + (i - 114) = i by omega] at e2
        have h1 := hl.1 c3.1 c3.2
        have h2 := er (i - 114) (by omega) (by omega)
        rw [e2]
        rw [show 114 + (i - 114) = i by omega] at h2
        exact h2
      · have h9 : ¬ (qx i).1 = 9 := fun c => by
          have h4 := (qy_qx hi).1
          rw [c] at h4
          unfold qy at h4
          rw [if_neg (by omega), if_pos rfl] at h4
          split at h4 <;> omega
        have h10 : ¬ (qx i).1 = 10 := fun c => by
          have h4 := qx_10 hi c
          have h5 : ∀ j, 138 < j → j < 176 → ¬ (qx j).1 = 10 := fun j hj hj2 c => by
            have hc : (147 ≤ j ∧ j < 163) ∨ j = 139 ∨ j = 140 ∨ j = 141 ∨ j = 142 ∨ j = 143 ∨ j = 144 ∨ j = 145 ∨ j = 146 ∨ j = 163 ∨ j = 164 ∨ j = 165 ∨ j = 166 ∨ j = 167 ∨ j = 168 ∨ j = 169 ∨ j = 170 ∨ j = 171 ∨ j = 172 ∨ j = 173 ∨ j = 174 ∨ j = 175 := by omega
            rcases hc with h1 | h1 | h1 | h1 | h1 | h1 | h1 | h1 | h1 | h1 | h1 | h1 | h1 | h1 | h1 | h1 | h1 | h1 | h1 | h1 | h1 | h1
            · have e2 := qx_qu (k := j - 147) (by omega)
              rw [show 147 + (j - 147) = j by omega] at e2
              rw [e2] at c
              exact absurd (show 13 = 10 from c) (by decide)
            all_goals subst h1
            all_goals exact absurd c (by decide)
          exact h5 i (by omega) hi c
        rw [hF _ (fun e => h9 (congrArg Prod.snd e)) (fun e => h10 (congrArg Prod.snd e)), eo i (by omega)]
        refine h i hi ⟨fun a b => absurd ⟨a, b⟩ c3, fun a b => ?_⟩
        have := hl.2 a b
        rw [eo 146 (by omega)] at this
        exact this
theorem cl_put_l {p a c : Nat} (hs : qi_sl s) (hc : c < 24) (h3 : s 113 = nI c) (hp : p ≤ c) (h : qe_R R σ s) : ∀ (f k : Nat) (τ : qa_T), qe_O (R, 10) σ τ → (∀ j, j ≤ k → j < c → τ.1 (R, 10) j = s (114 + j)) → (∀ j, k < j → j ≤ c → τ.1 (R, 10) j = s (114 + (j - 1))) → p ≤ k → k ≤ c → k - p < f → ∃ σ', qa_fX3_put_5 R (nI p) (nI a) f (nI k) τ = some σ' ∧ qe_R R σ' (qr_ip s p a) ∧ qe_F R σ σ' := by
  have hn := (qi_n hs).2
  intro f
  induction f with
  | zero => intro k τ _ _ _ _ _ h; omega
  | succ f ih =>
    intro k τ hO h1 h2 hpk hkc hf
    rw [qa_fX3_put_5]
    unfold qa_fX3_put_71
    by_cases e : k = p
    · subst e
      rw [if_pos (nI_le (Nat.le_refl _) (by omega)), set_in (by omega) (by omega)]
      dsimp only
      have g0 : (qa_wi τ (R, 10) k (nI a)).1 (R, 9) 0 = s 113 := by rw [wi_np (by simp), hO.1 _ (by simp), ra_113 h.1]
      have g1 : (qa_wi (qa_wi τ (R, 10) k (nI a)) (R, 9) 0 (s 113 + 1)).1 (R, 9) 1 = s 138 := by rw [wi_ni (by omega), wi_np (by simp), hO.1 _ (by simp), ra_138 h.1]
      rw [g0, qk_a1, g1]
      have e3 : qr_ip s k a 113 = s 113 + 1 := by
        unfold qr_ip
        rw [pk_un (by omega), pk_us]
      have e3n : qn (qr_ip s k a 113) = c + 1 := by rw [e3, h3, nI_1, qn_nI (by omega)]
      have e8 : qr_ip s k a 138 = s 138 + (if s 138 = -1 ∨ (s 138).toInt < (k : Int) then 0 else 1) := by
        unfold qr_ip
        rw [pk_us]
      have er : ∀ j, j < 24 → j < qn (qr_ip s k a 113) → (qa_wi τ (R, 10) k (nI a)).1 (R, 10) j = qr_ip s k a (114 + j) := by
        intro j hj hj2
        rw [e3n] at hj2
        have e : qr_ip s k a (114 + j) = if j = k then nI a else if k < j then s (114 + (j - 1)) else s (114 + j) := by
          unfold qr_ip
          rw [pk_un (by omega), pk_un (by omega), h3, qn_nI (by omega)]
          by_cases c1 : j = k
          · rw [if_pos (show 114 + j = 114 + k by omega), if_pos c1]
          · rw [if_neg (show ¬ 114 + j = 114 + k by omega), if_neg c1]
            by_cases c2 : k < j
            · rw [if_pos (show 114 + k < 114 + j ∧ 114 + j ≤ 114 + c by omega), if_pos c2, show 114 + j - 1 = 114 + (j - 1) by omega]
            · rw [if_neg (show ¬ (114 + k < 114 + j ∧ 114 + j ≤ 114 + c) by omega), if_neg c2]
        rw [e]
        by_cases c1 : j = k
        · rw [if_pos c1, c1, wi_eq]
        · rw [if_neg c1, wi_ni c1]
          by_cases c2 : k < j
          · rw [if_pos c2]; exact h2 j c2 (by omega)
          · rw [if_neg c2]; exact h1 j (by omega) (by omega)
      have eo : ∀ i, (i < 113 ∨ 138 < i) → qr_ip s k a i = s i := fun i hi => ip_o (by rw [h3, qn_nI (by omega)]; omega) hi (by rw [h3, qn_nI (by omega)]; omega)
      have eta : qr_ta (qr_ip s k a) = qr_ta s := ta_q (eo _ (by omega)) (eo _ (by omega)) (fun k hk => ⟨eo _ (by omega), eo _ (by omega)⟩)
      have clt : (s 138 < nI k) = ((s 138).toInt < (k : Int)) := by rw [qz_lt, qz_nI (by omega)]
      by_cases c2 : s 138 < nI k
      · rw [if_pos c2]
        rw [if_pos (Or.inr (by rw [← clt]; exact c2)), Int32.add_zero] at e8
        refine ⟨_, rfl, ⟨pr_A h.1 (fun q q9 q10 => by rw [wi_np q9, wi_np q10, hO.1 _ q10]) (by rw [wi_eq, e3]) (by rw [g1, e8]) (fun j hj hj2 => by rw [wi_np (by simp)]; exact er j hj hj2) eo, ?_⟩, qe_Ft (qe_OF hO (by omega)) (qe_Ft (qe_Fw (by omega)) (qe_Fw (by omega)))⟩
        rw [wi_np (by simp), wi_np (by simp), hO.1 _ (by simp), h.2, eta]
      · rw [if_neg c2]
        have c3 : ¬ (s 138 = -1 ∨ (s 138).toInt < (k : Int)) := by
          rintro (t | t)
          · exact c2 (by rw [clt, t, qk_tm1]; omega)
          · exact c2 (by rw [clt]; exact t)
        rw [if_neg c3] at e8
        refine ⟨_, rfl, ⟨pr_A h.1 (fun q q9 q10 => by rw [wi_np q9, wi_np q9, wi_np q10, hO.1 _ q10]) (by rw [wi_ni (by omega), wi_eq, e3]) (by rw [wi_eq, e8]) (fun j hj hj2 => by rw [wi_np (by simp), wi_np (by simp)]; exact er j hj hj2) eo, ?_⟩, qe_Ft (qe_OF hO (by omega)) (qe_Ft (qe_Ft (qe_Fw (by omega)) (qe_Fw (by omega))) (qe_Fw (by omega)))⟩
        rw [wi_np (by simp), wi_np (by simp), wi_np (by simp), hO.1 _ (by simp), h.2, eta]
    · obtain ⟨k, rfl⟩ : ∃ j, k = j + 1 := ⟨k - 1, by omega⟩
      rw [if_neg (nI_ge (by omega) (by omega)), qk_a1, nI_pred, at_in (by omega) (by omega), set_in (by omega) (by omega), h1 k (by omega) (by omega)]
      dsimp only
      rw [qk_am1, show nI (k + 1) + -1 = nI k by rw [← Int32.sub_eq_add_neg, nI_pred]]
      refine ih k _ (qe_Ot hO qe_Ow) (fun j hj hj2 => ?_) (fun j hj hj2 => ?_) (by omega) (by omega) (by omega)
      · rw [wi_ni (by omega)]
        exact h1 j (by omega) hj2
      · by_cases c1 : j = k + 1
        · subst c1
          rw [wi_eq]
          rfl
        · rw [wi_ni c1]
          exact h2 j (by omega) hj2
theorem cl_put {p a : Nat} (h : qe_R R σ s) (hs : qi_sl s) (hp0 : qi_pr s) (hc : (s 113).toInt < 24) (hp : (p : Int) ≤ (s 113).toInt) : ∃ σ', qa_fX3_put R (nI p) (nI a) σ = some σ' ∧ qe_R R σ' (qr_ip s p a) ∧ qe_F R σ σ' := by
  have h1 := qn_int hp0.1
  have h2 := qn_of hp0.1
  have h3 := cl_put_l (a := a) hs (show qn (s 113) < 24 by omega) h2 (show p ≤ qn (s 113) by omega) h qa_fu (qn (s 113)) σ qe_Or (fun j _ hj => ra_p h.1 hj (by omega)) (fun j hj hj2 => by omega) (by omega) (by omega) (by unfold qa_fu; omega)
  rw [← h2] at h3
  unfold qa_fX3_put
  dsimp only
  rw [ra_113 h.1]
  exact h3
theorem cl_rm_l {p c : Nat} {v : Int32} (hs : qi_sl s) (hc : c < 24) (h3 : s 113 = nI (c + 1)) (hp : p ≤ c) (h : qe_R R σ s) : ∀ (f k : Nat) (τ : qa_T), qe_O (R, 10) σ τ → (∀ j, j < c + 1 → τ.1 (R, 10) j = if p ≤ j ∧ j < k then s (114 + (j + 1)) else s (114 + j)) → p ≤ k → k ≤ c → c - k < f → ∃ σ', qa_fX3_remove_11 R (nI p) f v (nI k) τ = some (v, σ') ∧ qe_R R σ' (qr_rp s p) ∧ qe_F R σ σ' := by
  have hn := (qi_n hs).2
  intro f
  induction f with
  | zero => intro k τ _ _ _ _ h; omega
  | succ f ih =>
    intro k τ hO h1 hpk hkc hf
    have g113 : τ.1 (R, 9) 0 = nI (c + 1) := by rw [hO.1 _ (by simp), ra_113 h.1, h3]
    rw [qa_fX3_remove_11, g113, qk_a1, nI_1]
    unfold qa_fX3_remove_73
    by_cases e : k = c
    · subst e
      rw [if_pos (nI_le (Nat.le_refl _) (by omega)), nI_pred]
      dsimp only
      have g1 : (qa_wi τ (R, 9) 0 (nI k)).1 (R, 9) 1 = s 138 := by rw [wi_ni (by omega), hO.1 _ (by simp), ra_138 h.1]
      rw [g1]
      have e3 : qr_rp s p 113 = nI k := by
        unfold qr_rp
        rw [pk_un (by omega), pk_us, h3, nI_pred]
      have e8 : qr_rp s p 138 = s 138 - (if s 138 = -1 ∨ (s 138).toInt < (p : Int) then 0 else 1) := by
        unfold qr_rp
        rw [pk_us]
      have er : ∀ j, j < 24 → j < qn (qr_rp s p 113) → τ.1 (R, 10) j = qr_rp s p (114 + j) := by
        intro j hj hj2
        rw [e3, qn_nI (by omega)] at hj2
        have e : qr_rp s p (114 + j) = if p ≤ j then s (114 + (j + 1)) else s (114 + j) := by
          unfold qr_rp
          rw [pk_un (by omega), pk_un (by omega), h3, qn_nI (by omega)]
          by_cases c1 : p ≤ j
          · rw [if_pos (show 114 + p ≤ 114 + j ∧ 114 + j + 1 < 114 + (k + 1) by omega), if_pos c1]; rfl
          · rw [if_neg (show ¬ (114 + p ≤ 114 + j ∧ 114 + j + 1 < 114 + (k + 1)) by omega), if_neg (show ¬ 114 + j + 1 = 114 + (k + 1) by omega), if_neg c1]
        rw [e, h1 j (by omega)]
        by_cases c1 : p ≤ j
        · rw [if_pos (by omega), if_pos c1]
        · rw [if_neg (by omega), if_neg c1]
      have eo : ∀ i, (i < 113 ∨ 138 < i) → qr_rp s p i = s i := fun i hi => rp_o hi (by rw [h3, qn_nI (by omega)]; omega)
      have eta : qr_ta (qr_rp s p) = qr_ta s := ta_q (eo _ (by omega)) (eo _ (by omega)) (fun k hk => ⟨eo _ (by omega), eo _ (by omega)⟩)
      have clt : (s 138 < nI p) = ((s 138).toInt < (p : Int)) := by rw [qz_lt, qz_nI (by omega)]
      by_cases c2 : s 138 < nI p
      · rw [if_pos c2]
        rw [if_pos (Or.inr (by rw [← clt]; exact c2)), Int32.sub_zero] at e8
        refine ⟨_, rfl, ⟨pr_A h.1 (fun q q9 q10 => by rw [wi_np q9, hO.1 _ q10]) (by rw [wi_eq, e3]) (by rw [g1, e8]) (fun j hj hj2 => by rw [wi_np (by simp)]; exact er j hj hj2) eo, ?_⟩, qe_Ft (qe_OF hO (by omega)) (qe_Fw (by omega))⟩
        rw [wi_np (by simp), hO.1 _ (by simp), h.2, eta]
      · rw [if_neg c2]
        have c3 : ¬ (s 138 = -1 ∨ (s 138).toInt < (p : Int)) := by
          rintro (t | t)
          · exact c2 (by rw [clt, t, qk_tm1]; omega)
          · exact c2 (by rw [clt]; exact t)
        rw [if_neg c3] at e8
        refine ⟨_, rfl, ⟨pr_A h.1 (fun q q9 q10 => by rw [wi_np q9, wi_np q9, hO.1 _ q10]) (by rw [wi_ni (by omega), wi_eq, e3]) (by rw [wi_eq, e8]) (fun j hj hj2 => by rw [wi_np (by simp), wi_np (by simp)]; exact er j hj hj2) eo, ?_⟩, qe_Ft (qe_OF hO (by omega)) (qe_Ft (qe_Fw (by omega)) (qe_Fw (by omega)))⟩
        rw [wi_np (by simp), wi_np (by simp), hO.1 _ (by simp), h.2, eta]
    · rw [if_neg (nI_ge (by omega) (by omega)), at_in (by omega) (by omega), set_in (by omega) (by omega)]
      dsimp only
      refine ih (k + 1) _ (qe_Ot hO qe_Ow) (fun j hj => ?_) (by omega) (by omega) (by omega)
      by_cases c1 : j = k
      · subst c1
        rw [wi_eq, h1 (j + 1) (by omega), if_neg (by omega), if_pos (by omega)]
      · rw [wi_ni c1, h1 j hj]
        by_cases c2 : p ≤ j ∧ j < k
        · rw [if_pos c2, if_pos (by omega)]
        · rw [if_neg c2, if_neg (by omega)]
theorem cl_rm {p : Nat} (h : qe_R R σ s) (hs : qi_sl s) (hp0 : qi_pr s) (hp : (p : Int) < (s 113).toInt) : ∃ σ', qa_fX3_remove R (nI p) σ = some (s (114 + p), σ') ∧ qe_R R σ' (qr_rp s p) ∧ qe_F R σ σ' := by
  have h1 := qn_int hp0.1
  have h2 := qn_of hp0.1
  have h4 := (qi_p hp0).2
  obtain ⟨c, e⟩ : ∃ c, qn (s 113) = c + 1 := ⟨qn (s 113) - 1, by omega⟩
  rw [e] at h2
  unfold qa_fX3_remove
  dsimp only
  rw [at_in (by omega) (by omega), ra_p h.1 (by omega) (by omega)]
  exact cl_rm_l hs (by omega) h2 (by omega) h qa_fu p σ qe_Or (fun j hj => by rw [if_neg (by omega)]; exact ra_p h.1 (by omega) (by omega)) (by omega) (by omega) (by unfold qa_fu; omega)
theorem cl_add {c l f : Int32} (h : qe_R R σ s) (hs : qi_sl s) (hn : (s 0).toInt < 16) (h4 : (s 144).toInt < (s 0).toInt) : (qa_fX6_add R c l f σ).1 = s 0 ∧ qe_R R (qa_fX6_add R c l f σ).2 (qr_as s c l f) ∧ qe_F R σ (qa_fX6_add R c l f σ).2 := by
  have hi := qn_int hs.1
  have h0 := qn_of hs.1
  have hk : qn (s 0) < 16 := by omega
  have h1 : qe_A R (qa_wi σ (R, 2) (qn (s 0)) c) (upd s (1 + 7 * qn (s 0)) c) := ra_w (i := 1 + 7 * qn (s 0)) h.1 (by omega) (by omega) (by omega) (by rw [show 1 + 7 * qn (s 0) = 1 + 7 * qn (s 0) + 0 from rfl, qx_sl hk (by omega)]) (by rw [show 1 + 7 * qn (s 0) = 1 + 7 * qn (s 0) + 0 from rfl, qx_sl hk (by omega)])
  have h2 : qe_A R (qa_wi (qa_wi σ (R, 2) (qn (s 0)) c) (R, 3) (qn (s 0)) l) (upd (upd s (1 + 7 * qn (s 0)) c) (1 + 7 * qn (s 0) + 1) l) := ra_w h1 (by omega) (by omega) (by omega) (by rw [qx_sl hk (by omega)]) (by rw [qx_sl hk (by omega)])
  have h3 : qe_A R (qa_wi (qa_wi (qa_wi σ (R, 2) (qn (s 0)) c) (R, 3) (qn (s 0)) l) (R, 4) (qn (s 0)) f) (upd (upd (upd s (1 + 7 * qn (s 0)) c) (1 + 7 * qn (s 0) + 1) l) (1 + 7 * qn (s 0) + 2) f) := ra_w h2 (by omega) (by omega) (by omega) (by rw [qx_sl hk (by omega)]) (by rw [qx_sl hk (by omega)])
  have g0 : (qa_wi (qa_wi (qa_wi σ (R, 2) (qn (s 0)) c) (R, 3) (qn (s 0)) l) (R, 4) (qn (s 0)) f).1 (R, 1) 0 = s 0 := by rw [wi_np (by simp), wi_np (by simp), wi_np (by simp), ra_n0 h.1]
  have e : qa_fX6_add R c l f σ = (s 0, qa_wi (qa_wi (qa_wi (qa_wi σ (R, 2) (qn (s 0)) c) (R, 3) (qn (s 0)) l) (R, 4) (qn (s 0)) f) (R, 1) 0 (s 0 + 1)) := by
    unfold qa_fX6_add
    dsimp only
    rw [ra_n0 h.1]
    have e2 : ∀ p v τ, qa_fX9_set p 16 (s 0) v τ = qa_wi τ p (qn (s 0)) v := by
      intro p v τ
      conv => lhs; rw [h0]
      exact set_in (by omega) (by omega)
    simp only [e2, g0, qk_a1]
  rw [e]
  refine ⟨rfl, ⟨?_, ?_⟩, qe_Ft (qe_Ft (qe_Ft (qe_Fw (by omega)) (qe_Fw (by omega))) (qe_Fw (by omega))) (qe_Fw (by omega))⟩
  · refine ra_e' (ra_w (i := 0) h3 (by omega) (by omega) (by omega) rfl rfl) ?_
    unfold qr_as
    rw [upd_c (i := 1 + 7 * qn (s 0) + 2) (j := 0) (by omega), upd_c (i := 1 + 7 * qn (s 0) + 1) (j := 0) (by omega), upd_c (i := 1 + 7 * qn (s 0)) (j := 0) (by omega)]
  · dsimp only
    rw [wi_np (by simp), wi_np (by simp), wi_np (by simp), wi_np (by simp), h.2, as_ta hs hn h4]
end QCG
