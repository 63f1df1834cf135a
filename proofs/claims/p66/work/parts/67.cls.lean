/-! the class: burning down, the queue, what begins to load -/
section QCC
variable {σ σ' : qa_T} {s t : qs} {R N : Nat}
theorem cl_b19 {m : Int} {x : Int32} {len : Nat} (hlen : len ≤ 16) : ∀ (l : List Nat) (i f : Nat) (σ : qa_T) (s : qs), qe_R R σ s → qi_A N s → x.toInt = (s 163).toInt - m → qr_li s l → (∀ j b, l[j]? = some b → σ.1 (R, 17) (i + j) = nI b) → i + l.length = len → l.length < f → ∃ σ', qa_fX1_burnDownTo_19 R x f (nI len) (nI i) σ = some σ' ∧ qe_R R σ' (qr_rm m l s).2 ∧ qe_F R σ σ' := by
  intro l
  induction l with
  | nil =>
    intro i f σ s h hA hx hl hr hi hf
    obtain ⟨f, rfl⟩ : ∃ j, f = j + 1 := ⟨f - 1, by simp only [List.length_nil] at hf; omega⟩
    simp only [List.length_nil] at hi
    rw [qa_fX1_burnDownTo_19, if_pos (nI_le (by omega) (by omega))]
    exact ⟨σ, rfl, h, qe_Fr⟩
  | cons a l ih =>
    intro i f σ s h hA hx hl hr hi hf
    obtain ⟨f, rfl⟩ : ∃ j, f = j + 1 := ⟨f - 1, by simp only [List.length_cons] at hf; omega⟩
    simp only [List.length_cons] at hi hf
    have hA' := hA
    obtain ⟨hs, hp, hw, hlo, hq, he, hc⟩ := hA
    have hn := (qi_n hs).2
    have hi0 := qn_int hs.1
    have ha := (hl.2 a).mp List.mem_cons_self
    have ha2 : a < 16 := by omega
    have h0 := hr 0 a rfl
    rw [Nat.add_zero] at h0
    have hft : σ.1 (R, 12) 4 ≤ x ↔ qr_ft m s = true := by
      unfold qr_ft
      rw [h.2, qz_le, decide_eq_true_eq, hx]
      omega
    rw [qa_fX1_burnDownTo_19, if_neg (nI_ge (by omega) (by omega)), at_in (by omega) (by omega), h0, qk_a1, nI_1]
    unfold qr_rm
    by_cases c : qr_ft m s = true
    · rw [if_pos (hft.mpr c), if_pos c]
      exact ⟨σ, rfl, h, qe_Fr⟩
    · rw [if_neg (fun t => c (hft.mp t)), if_neg c]
      have hcb := ha.2
      unfold qr_cb at hcb
      rw [Bool.and_eq_true] at hcb
      have h4 : ¬ s 144 = nI a := fun t => by
        have h5 := hlo.2.2.2.2.2 a ha2 (Or.inr (by rw [t, qz_nI (by omega)]))
        have h6 := hcb.1
        unfold qr_ld at h6
        rw [h5] at h6
        exact absurd (of_decide_eq_true h6) (by decide)
      obtain ⟨b1, b2, b3⟩ := cl_bu h hs he ha.1 hcb.1 h4
      obtain ⟨σ', a1, a2, a3⟩ := ih (i + 1) f _ _ b1 (bu_A hA' ha2) (by rw [bu_o (by omega) (by omega)]; exact hx) (bu_li hp hs hl) (fun j b hb => by
        rw [b3, show i + 1 + j = i + (j + 1) by omega]
        exact hr (j + 1) b hb) (by omega) (by omega)
      exact ⟨σ', a1, a2, qe_Ft b2 a3⟩
theorem cl_bd {m : Int} {x : Int32} (h : qe_R R σ s) (hA : qi_A N s) (hx : x.toInt = (s 163).toInt - m) : ∃ σ', qa_fX1_burnDownTo R x σ = some σ' ∧ qe_R R σ' (qr_mr m s).2 ∧ qe_F R σ σ' := by
  have hA' := hA
  obtain ⟨hs, hp, hw, hlo, hq, he, hc⟩ := hA
  have hn := (qi_n hs).2
  have h9 := qr_lf_len s (qn (s 0))
  have hft : x < σ.1 (R, 12) 4 ↔ ¬ qr_ft m s = true := by
    unfold qr_ft
    rw [h.2, qz_lt, decide_eq_true_eq, hx]
    omega
  unfold qa_fX1_burnDownTo
  by_cases c : qr_ft m s = true
  · rw [if_neg (fun t => hft.mp t c)]
    have e : qr_mr m s = (0, s) := by
      unfold qr_mr
      cases qr_ln s with
      | nil => rfl
      | cons a l =>
        unfold qr_rm
        rw [if_pos c]
    rw [e]
    exact ⟨σ, rfl, h, qe_Fr⟩
  · rw [if_pos (hft.mpr c)]
    obtain ⟨σ1, a1, a2, a3⟩ := cl_lu h.1 hs hp he
    rw [a1, Option.bind_some]
    dsimp only
    have hlen : (qr_ln s).length ≤ 16 := by
      unfold qr_ln
      omega
    obtain ⟨σ', b1, b2, b3⟩ := cl_b19 (R := R) (N := N) (m := m) (x := x) hlen (qr_ln s) 0 qa_fu σ1 s (rr_G h a2) hA' hx (qr_li_ln s) (fun j b hb => by rw [Nat.zero_add]; exact a3 j b hb) (by omega) (by unfold qa_fu; omega)
    exact ⟨σ', b1, b2, qe_Ft (qe_GF a2) b3⟩
/-- nothing but one cell has changed -/
def qe_O (q : qa_P) (σ σ' : qa_T) : Prop := (∀ p : qa_P, ¬ p = q → σ'.1 p = σ.1 p) ∧ σ'.2 = σ.2
theorem qe_Or {q : qa_P} : qe_O q σ σ := ⟨fun _ _ => rfl, rfl⟩
theorem qe_Ot {q : qa_P} {σ'' : qa_T} (h1 : qe_O q σ σ') (h2 : qe_O q σ' σ'') : qe_O q σ σ'' := ⟨fun p h3 => (h2.1 p h3).trans (h1.1 p h3), h2.2.trans h1.2⟩
theorem qe_Ow {q : qa_P} {i : Nat} {v : Int32} : qe_O q σ (qa_wi σ q i v) := ⟨fun p h => wi_np h, rfl⟩
theorem qe_OF {j : Nat} (h : qe_O (R, j) σ σ') (hj : j < 18) : qe_F R σ σ' := ⟨fun p hp => h.1 p (fun e => by subst e; dsimp only at hp; omega), h.2⟩
theorem qx_13 {i : Nat} (hi : i < 176) (h : (qx i).1 = 13) : i = 147 + (qx i).2 := by
  have h1 := (qy_qx hi).1
  rw [h] at h1
  exact h1.symm
theorem qx_10 {i : Nat} (hi : i < 176) (h : (qx i).1 = 10) : i = 114 + (qx i).2 := by
  have h1 := (qy_qx hi).1
  rw [h] at h1
  exact h1.symm
theorem f0_o {p i : Nat} (h : i < 146) : qr_f0 s p i = s i := by
  unfold qr_f0
  rw [if_neg (by omega), if_neg (by omega), if_neg (by omega)]
theorem cl_uq_l {p q : Nat} (hn : qn (s 0) ≤ 16) (hq : q + 1 ≤ 16) (h6 : s 146 = nI (q + 1)) (hp : p ≤ q) (h : qe_R R σ s) (x : Int32) : ∀ (f i : Nat) (τ : qa_T), qe_O (R, 13) σ τ → (∀ j, j < q + 1 → τ.1 (R, 13) j = if p ≤ j ∧ j < i then s (147 + (j + 1)) else s (147 + j)) → p ≤ i → i ≤ q → q - i < f → ∃ σ', qa_fX2_unqueue_2 R x f (nI i) τ = some σ' ∧ qe_R R σ' (qr_f0 s p) ∧ qe_F R σ σ' := by
  intro f
  induction f with
  | zero => intro i τ _ _ _ _ h; omega
  | succ f ih =>
    intro i τ hO hr h1 h2 h3
    have e146 : τ.1 (R, 12) 2 = nI (q + 1) := by rw [hO.1 _ (by simp), ra_146 h.1, h6]
    rw [qa_fX2_unqueue_2, e146, qk_a1, nI_1]
    by_cases e : i = q
    · subst e
      rw [if_pos (nI_le (Nat.le_refl _) (by omega))]
      refine ⟨_, rfl, ⟨?_, ?_⟩, qe_Ft (qe_OF hO (by omega)) (qe_Fw (by omega))⟩
      · intro j hj hl
        have g6 : qr_f0 s p 146 = nI i := by
          unfold qr_f0
          rw [if_pos rfl, h6, qn_nI (by omega)]
          rfl
        by_cases c1 : j = 146
        · subst c1
          show (qa_wi τ (R, 12) 2 (nI (i + 1) - 1)).1 (R, 12) 2 = _
          rw [wi_eq, g6, nI_pred]
        · rw [show (qa_wi τ (R, 12) 2 (nI (i + 1) - 1)).1 (R, (qx j).1) (qx j).2 = τ.1 (R, (qx j).1) (qx j).2 by
            by_cases c3 : (qx j).1 = 12
            · by_cases c4 : (qx j).2 = 2
              · exact absurd (qx_inj hj (show 146 < 176 by omega) c3 c4) c1
              · rw [wi_ni c4]
            · rw [wi_np (fun t => c3 (congrArg Prod.snd t))]]
          by_cases c2 : (qx j).1 = 13
          · have e2 := qx_13 hj c2
            have e3 := (qy_qx hj).2.1
            have hj2 : 147 ≤ j ∧ j < 163 := by
              have : ¬ 163 ≤ j := fun t => by
                have h7 : j = 163 ∨ j = 164 ∨ j = 165 ∨ j = 166 ∨ j = 167 ∨ j = 168 ∨ j = 169 ∨ j = 170 ∨ j = 171 ∨ j = 172 ∨ j = 173 ∨ j = 174 ∨ j = 175 := by omega
                rcases h7 with h7 | h7 | h7 | h7 | h7 | h7 | h7 | h7 | h7 | h7 | h7 | h7 | h7 <;> subst h7 <;> exact absurd c2 (by decide)
              omega
            have hl2 := hl.2 hj2.1 hj2.2
            rw [g6, qn_nI (by omega)] at hl2
            generalize hz : (qx j).2 = z at e2
            rw [c2, hr z (by omega)]
            unfold qr_f0
            rw [if_neg c1, h6, qn_nI (by omega)]
            by_cases c5 : p ≤ z ∧ z < i
            · rw [if_pos c5, if_pos (by omega), e2]; rfl
            · rw [if_neg c5, if_neg (by omega), if_neg (by omega), e2]
          · have c4 : j < 146 ∨ 163 ≤ j := by
              have : ¬ (147 ≤ j ∧ j < 163) := fun t => by
                have := qx_qu (k := j - 147) (by omega)
                rw [show 147 + (j - 147) = j by omega] at this
                rw [this] at c2
                exact c2 rfl
              omega
            rw [hO.1 _ (fun t => c2 (congrArg Prod.snd t))]
            have e5 : qr_f0 s p j = s j := by
              unfold qr_f0
              rw [if_neg c1, h6, qn_nI (by omega), if_neg (by omega), if_neg (by omega)]
            rw [e5]
            refine h.1 j hj ⟨fun h7 h8 => ?_, fun h7 h8 => by omega⟩
            have h9 := hl.1 h7 h8
            have e6 : qr_f0 s p 113 = s 113 := by
              unfold qr_f0
              rw [if_neg (by omega), if_neg (by omega), if_neg (by rw [h6, qn_nI (by omega)]; omega)]
            rw [e6] at h9
            exact h9
      · rw [wi_ni (by omega), hO.1 _ (by simp), h.2]
        exact (ta_q (f0_o (by omega)) (f0_o (by omega)) (fun k hk => ⟨f0_o (by omega), f0_o (by omega)⟩)).symm
    · rw [if_neg (nI_ge (by omega) (by omega)), set_in (by omega) (by omega), at_in (by omega) (by omega)]
      dsimp only
      refine ih (i + 1) _ (qe_Ot hO qe_Ow) (fun j hj => ?_) (by omega) (by omega) (by omega)
      by_cases c1 : j = i
      · subst c1
        rw [wi_eq, hr (j + 1) (by omega), if_neg (by omega), if_pos (by omega)]
      · rw [wi_ni c1, hr j hj]
        by_cases c2 : p ≤ j ∧ j < i
        · rw [if_pos c2, if_pos (by omega)]
        · rw [if_neg c2, if_neg (by omega)]
theorem cl_uq {p : Nat} (h : qe_R R σ s) (hs : qi_sl s) (hq : qi_qd s) (hp : (p : Int) < (s 146).toInt) : ∃ σ', qa_fX2_unqueue R (nI p) σ = some σ' ∧ qe_R R σ' (qr_f0 s p) ∧ qe_F R σ σ' := by
  have hn := (qi_n hs).2
  have h1 := qn_int hq.1
  have h2 := hq.2.1
  have h3 := qn_of hq.1
  obtain ⟨q, e⟩ : ∃ q, qn (s 146) = q + 1 := ⟨qn (s 146) - 1, by omega⟩
  rw [e] at h3
  unfold qa_fX2_unqueue
  exact cl_uq_l hn (q := q) (p := p) (by omega) h3 (by omega) h (nI p) qa_fu p σ qe_Or (fun j hj => by rw [if_neg (by omega)]; exact ra_q h.1 (by omega) (by omega)) (Nat.le_refl _) (by omega) (by unfold qa_fu; omega)
theorem cl_qp_l {a q : Nat} (hq : q ≤ 16) (h6 : qn (s 146) = q) (h7 : s 146 = nI q) (h : qe_A R σ s) : ∀ (f k : Nat), k ≤ q → q - k < f → qa_fX2_queuePlace_2 R (nI a) f (nI k) σ = some (qo_i (qr_qf s a (q - k) k)) := by
  intro f
  induction f with
  | zero => intro k h1 h2; omega
  | succ f ih =>
    intro k h1 h2
    rw [qa_fX2_queuePlace_2, ra_146 h, h7]
    by_cases e : k = q
    · subst e
      rw [if_pos (nI_le (Nat.le_refl _) (by omega)), Nat.sub_self]
      rfl
    · obtain ⟨d, hd⟩ : ∃ d, q - k = d + 1 := ⟨q - k - 1, by omega⟩
      rw [if_neg (nI_ge (by omega) (by omega)), at_in (by omega) (by omega), ra_q h (by omega) (by omega), hd]
      unfold qr_qf
      by_cases c : s (147 + k) = nI a
      · rw [if_neg (not_not_intro c), if_pos c]
        rfl
      · rw [if_pos c, if_neg c, qk_a1, nI_1]
        have := ih (k + 1) (by omega) (by omega)
        rw [show q - (k + 1) = d by omega] at this
        exact this
theorem cl_qp {a : Nat} (h : qe_A R σ s) (hq : qi_qd s) : qa_fX2_queuePlace R (nI a) σ = some (qo_i (qr_qp s a)) := by
  have h1 := qn_int hq.1
  have h2 := hq.2.1
  unfold qa_fX2_queuePlace qr_qp
  exact cl_qp_l (q := qn (s 146)) (by omega) rfl (qn_of hq.1) h qa_fu 0 (by omega) (by unfold qa_fu; omega)
theorem cl_ma {a : Nat} (h : qe_A R σ s) (hs : qi_sl s) (hq : qi_qd s) (ha : a < 16) : qa_fX1_mayAsk R (nI a) σ = some (qr_ca s a) := by
  unfold qa_fX1_mayAsk qa_fX1_mayAsk_49 qr_ca
  rw [cl_rd h hs ha, ra_144 h, ra_142 h, cl_qp h hq, Option.bind_some, qk_am1]
  cases c1 : qr_ld s a
  · rw [if_neg (by decide)]
    by_cases c2 : nI a = s 144
    · rw [if_pos c2]
      simp [c2]
    · rw [if_neg c2]
      by_cases c3 : nI a = s 142
      · rw [if_pos c3]
        simp [c3]
      · rw [if_neg c3]
        have c2' : ¬ s 144 = nI a := fun t => c2 t.symm
        have c3' : ¬ s 142 = nI a := fun t => c3 t.symm
        cases c4 : qr_qp s a with
        | none => simp [qo_i, c2', c3']
        | some p =>
          have h5 := qf_s s a _ _ p c4
          have h6 := qn_int hq.1
          have h7 := hq.2.1
          rw [if_pos (show ¬ qo_i (some p) = -1 from qr_nI_m (by omega))]
          simp [c2', c3']
  · rw [if_pos (by decide)]
    simp
theorem fg_none {a : Nat} (e : qr_qp s a = none) : qr_fg s a = s := by
  unfold qr_fg
  rw [e]
theorem fg_some {a p : Nat} (e : qr_qp s a = some p) : qr_fg s a = qr_f0 s p := by
  unfold qr_fg
  rw [e]
/-- what is forgotten -/
theorem cl_fg {a : Nat} (h : qe_R R σ s) (hs : qi_sl s) (hq : qi_qd s) : ∃ σ', ((qa_fX2_queuePlace R (nI a) σ).bind fun c5 => if c5 = -1 then some σ else qa_fX2_unqueue R c5 σ) = some σ' ∧ qe_R R σ' (qr_fg s a) ∧ qe_F R σ σ' := by
  rw [cl_qp h.1 hq, Option.bind_some]
  cases e : qr_qp s a with
  | none =>
    rw [if_pos (show qo_i none = -1 from rfl), fg_none e]
    exact ⟨σ, rfl, h, qe_Fr⟩
  | some p =>
    have h5 := qf_s s a _ _ p e
    have h6 := qn_int hq.1
    have h7 := hq.2.1
    rw [if_neg (show ¬ qo_i (some p) = -1 from qr_nI_m (by omega)), fg_some e]
    exact cl_uq h hs hq (by omega)
theorem cl_qu {a : Nat} (h : qe_R R σ s) (hs : qi_sl s) (hq : qi_qd s) (h16 : (s 146).toInt < 16) : qe_R R (qa_fX2_queue R (nI a) σ) (qr_aq s a) ∧ qe_F R σ (qa_fX2_queue R (nI a) σ) := by
  have hn := (qi_n hs).2
  have h1 := qn_int hq.1
  have h3 := qn_of hq.1
  have e : qa_fX2_queue R (nI a) σ = qa_wi (qa_wi σ (R, 13) (qn (s 146)) (nI a)) (R, 12) 2 (s 146 + 1) := by
    unfold qa_fX2_queue
    dsimp only
    have e1 : (qa_wi σ (R, 13) (qn (s 146)) (nI a)).1 (R, 12) 2 = s 146 := by rw [wi_np (by simp), ra_146 h.1]
    rw [ra_146 h.1]
    conv => lhs; rw [h3]
    rw [set_in (by omega) (by omega), e1, qk_a1]
  rw [e]
  have g6 : qr_aq s a 146 = s 146 + 1 := by
    unfold qr_aq
    rw [pk_us]
  have g6n : qn (qr_aq s a 146) = qn (s 146) + 1 := by
    rw [g6]
    unfold qn
    rw [qz_p1 (by omega)]
    omega
  refine ⟨⟨fun j hj hl => ?_, ?_⟩, qe_Ft (qe_Fw (by omega)) (qe_Fw (by omega))⟩
  · by_cases c1 : j = 146
    · subst c1
      show (qa_wi (qa_wi σ (R, 13) (qn (s 146)) (nI a)) (R, 12) 2 (s 146 + 1)).1 (R, 12) 2 = _
      rw [wi_eq, g6]
    · have e3 : (qa_wi (qa_wi σ (R, 13) (qn (s 146)) (nI a)) (R, 12) 2 (s 146 + 1)).1 (R, (qx j).1) (qx j).2 = (qa_wi σ (R, 13) (qn (s 146)) (nI a)).1 (R, (qx j).1) (qx j).2 := by
        by_cases c3 : (qx j).1 = 12
        · by_cases c4 : (qx j).2 = 2
          · exact absurd (qx_inj hj (show 146 < 176 by omega) c3 c4) c1
          · rw [wi_ni c4]
        · rw [wi_np (fun t => c3 (congrArg Prod.snd t))]
      rw [e3]
      by_cases c2 : j = 147 + qn (s 146)
      · subst c2
        rw [qx_qu (by omega)]
        dsimp only
        rw [wi_eq]
        unfold qr_aq
        rw [pk_un (by omega), pk_us]
      · rw [aq_o c1 c2]
        have c5 : ¬ ((qx j).1 = 13 ∧ (qx j).2 = qn (s 146)) := fun t => c2 (by rw [← t.2]; exact qx_13 hj t.1)
        have e4 : (qa_wi σ (R, 13) (qn (s 146)) (nI a)).1 (R, (qx j).1) (qx j).2 = σ.1 (R, (qx j).1) (qx j).2 := by
          by_cases c6 : (qx j).1 = 13
          · rw [wi_ni (fun t => c5 ⟨c6, t⟩)]
          · rw [wi_np (fun t => c6 (congrArg Prod.snd t))]
        rw [e4]
        refine h.1 j hj ⟨fun h7 h8 => ?_, fun h7 h8 => ?_⟩
        · have := hl.1 h7 h8
          rw [aq_o (by omega) (by omega)] at this
          exact this
        · have := hl.2 h7 h8
          omega
  · rw [wi_ni (by omega), wi_np (by simp), h.2]
    exact (ta_q (aq_o (by omega) (by omega)) (aq_o (by omega) (by omega)) (fun k hk => ⟨aq_o (by omega) (by omega), aq_o (by omega) (by omega)⟩)).symm
/-- in good time -/
def qr_g2 (s : qs) : Option Nat := match qr_gd s with
  | none => none
  | some a => if qr_ft (s (1 + 7 * a)).toInt s = true then some a else none
theorem cl_gt_l {c : Nat} (h : qe_R R σ s) (hA : qi_A N s) (hc : s 164 = nI c) (hc2 : c ≤ 4) : ∀ (f k j : Nat), k + j = c + 1 → 1 ≤ k → j < f → qa_fX1_nextInGoodTime_2 R f (nI k) σ = some (qo_i (match (if qn (s 113) = 0 then none else qr_gf s j k) with
    | none => none
    | some a => if qr_ft (s (1 + 7 * a)).toInt s = true then some a else none)) := by
  obtain ⟨hs, hp, hw, hl, hq, he, hct⟩ := hA
  have hn := (qi_n hs).2
  have hi := qn_int hs.1
  have hp1 := qn_int hp.1
  have hp2 := (qi_p hp).2
  intro f
  induction f with
  | zero => intro k j _ _ h3; omega
  | succ f ih =>
    intro k j hk h1 hf
    rw [qa_fX1_nextInGoodTime_2, ra_164 h.1, hc]
    cases j with
    | zero =>
      rw [if_pos (nI_lt (by omega) (by omega))]
      by_cases c0 : qn (s 113) = 0
      · rw [if_pos c0]; rfl
      · rw [if_neg c0]; rfl
    | succ j =>
      rw [if_neg (nI_nlt (by omega) (by omega)), cl_sa h.1 hp h1 (by omega), Option.bind_some, qk_am1]
      unfold qa_fX1_nextInGoodTime_73 qa_fX1_nextInGoodTime_72
      rw [qk_a1, nI_1]
      have h5 := ih (k + 1) j (by omega) (by omega) (by omega)
      by_cases c0 : qn (s 113) = 0
      · rw [if_pos c0, if_pos rfl]
        rw [if_pos c0] at h5 ⊢
        exact h5
      · rw [if_neg c0] at h5
        simp only [if_neg c0]
        have h0 : 0 < (s 113).toInt := by omega
        have h7 := qi_sa hp h0 k
        have h8 := qn_int h7.1
        have h9 : qr_sa s k = nI (qn (qr_sa s k)) := qn_of h7.1
        have ha : qn (qr_sa s k) < 16 := by omega
        have hcc := (hs.2.2 _ ha).2.2.2.2.1 (by omega)
        have e1 : ¬ qr_sa s k = -1 := by rw [h9]; exact qr_nI_m ha
        have e2 : qa_fX6_isReady R (qr_sa s k) σ = qr_ld s (qn (qr_sa s k)) := by
          conv => lhs; rw [h9]
          exact cl_rd h.1 hs ha
        have e3 : qa_fX9_at (R, 2) 16 (qr_sa s k) σ = s (1 + 7 * qn (qr_sa s k)) := by
          conv => lhs; rw [h9]
          rw [at_in ha (by omega), ra_c h.1 ha]
        have hft := qr_ft_i hs (b := s (1 + 7 * qn (qr_sa s k))) (by omega) (by omega)
        have hlt : (s 163 < qr_ta s + s (1 + 7 * qn (qr_sa s k))) ↔ ¬ (qr_ta s + s (1 + 7 * qn (qr_sa s k)) ≤ s 163) := by
          rw [qz_lt, qz_le]
          omega
        rw [if_neg e1, e2, e3, ra_163 h.1, h.2]
        unfold qr_gf
        cases c1 : qr_ld s (qn (qr_sa s k))
        · rw [if_neg (show ¬ ¬ qa_bi false = 0 by decide), if_neg (show ¬ false = true by decide)]
          dsimp only
          by_cases c2 : qr_ft (s (1 + 7 * qn (qr_sa s k))).toInt s = true
          · rw [if_neg (fun t => (hlt.mp t) (hft.mpr c2)), if_pos c2, h9, qn_nI (by omega)]
            rfl
          · rw [if_pos (hlt.mpr (fun t => c2 (hft.mp t))), if_neg c2]
            rfl
        · rw [if_pos (by decide), if_pos rfl]
          exact h5
theorem cl_gt (h : qe_R R σ s) (hA : qi_A N s) : qa_fX1_nextInGoodTime R σ = some (qo_i (qr_g2 s)) := by
  have he := hA.2.2.2.2.2.1
  have ha1 := qn_int (x := s 164) he.2.2.1
  have ha2 := he.2.2.2.1
  unfold qa_fX1_nextInGoodTime qr_g2 qr_gd
  exact cl_gt_l h hA (qn_of he.2.2.1) (by omega) qa_fu 1 (qn (s 164)) (by omega) (by omega) (by unfold qa_fu; omega)
end QCC
