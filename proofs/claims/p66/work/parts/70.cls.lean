/-! the class: copies, the programme, a new slide, what would be -/
section QCF
variable {σ σ' : qa_T} {s t : qs} {R S N : Nat}
/-- what has been copied -/
def qe_K (R S : Nat) (σ τ : qa_T) (D : Nat → Nat → Prop) : Prop := (∀ j f, D j f → τ.1 (R, j) f = σ.1 (S, j) f) ∧ qe_F R σ τ
theorem ck_w {D : Nat → Nat → Prop} {τ : qa_T} {j f : Nat} (hRS : ¬ S = R) (h : qe_K R S σ τ D) (hj : j < 18) : qe_K R S σ (qa_wi τ (R, j) f (τ.1 (S, j) f)) (fun j' f' => (j' = j ∧ f' = f) ∨ D j' f') := by
  refine ⟨fun j' f' hd => ?_, qe_Ft h.2 (qe_Fw hj)⟩
  by_cases e : j' = j
  · subst e
    by_cases e2 : f' = f
    · subst e2
      rw [wi_eq, h.2.1 _ (Or.inl hRS)]
    · rw [wi_ni e2]
      exact h.1 j' f' (hd.resolve_left (fun t => e2 t.2))
  · rw [wi_np (fun t => e (congrArg Prod.snd t))]
    exact h.1 j' f' (hd.resolve_left (fun t => e t.1))
theorem ck_m {D D' : Nat → Nat → Prop} {τ : qa_T} (h : qe_K R S σ τ D) (hd : ∀ j f, D' j f → D j f) : qe_K R S σ τ D' := ⟨fun j f h2 => h.1 j f (hd j f h2), h.2⟩
theorem cp_l {p q : qa_P} {n : Nat} (hn : n < 1000) (hpq : ¬ p = q) : ∀ (f k : Nat) (τ : qa_T), qe_O q σ τ → (∀ i, i < k → τ.1 q i = σ.1 p i) → k ≤ n → n - k < f → ∃ σ', qa_fX9_copyRow_2 p n q n f (nI k) τ = some σ' ∧ qe_O q σ σ' ∧ ∀ i, i < n → σ'.1 q i = σ.1 p i := by
  intro f
  induction f with
  | zero => intro k τ _ _ _ h; omega
  | succ f ih =>
    intro k τ hO hr hk hf
    rw [qa_fX9_copyRow_2]
    unfold qa_fX9_copyRow_26
    by_cases e : k = n
    · subst e
      rw [if_pos (show Int32.ofNat k ≤ nI k from nI_le (Nat.le_refl _) (by omega))]
      exact ⟨τ, rfl, hO, hr⟩
    · rw [if_neg (show ¬ Int32.ofNat n ≤ nI k from nI_ge (by omega) (by omega)), if_neg (show ¬ Int32.ofNat n ≤ nI k from nI_ge (by omega) (by omega)), qz_ifn (by omega) (by omega), qz_ifn (by omega) (by omega), nI_clamp (by omega), qk_a1, nI_1]
      refine ih (k + 1) _ (qe_Ot hO qe_Ow) (fun i hi => ?_) (by omega) (by omega)
      by_cases c : i = k
      · subst c
        rw [wi_eq, hO.1 p hpq]
      · rw [wi_ni c]
        exact hr i (by omega)
theorem ck_r {D : Nat → Nat → Prop} {τ : qa_T} {j n : Nat} (hRS : ¬ S = R) (h : qe_K R S σ τ D) (hj : j < 18) (hn : n < 1000) (hD : ∀ f, ¬ D j f) : ∃ τ', qa_fX9_copyRow (S, j) n (R, j) n τ = some τ' ∧ qe_K R S σ τ' (fun j' f' => (j' = j ∧ f' < n) ∨ D j' f') := by
  obtain ⟨τ', a1, a2, a3⟩ := cp_l (σ := τ) (p := (S, j)) (q := (R, j)) hn (fun t => hRS (congrArg Prod.fst t)) qa_fu 0 τ qe_Or (fun i hi => by omega) (by omega) (by unfold qa_fu; omega)
  refine ⟨τ', a1, fun j' f' hd => ?_, qe_Ft h.2 (qe_OF a2 hj)⟩
  by_cases e : j' = j
  · subst e
    rcases hd with hd | hd
    · rw [a3 f' hd.2, h.2.1 _ (Or.inl hRS)]
    · exact absurd hd (hD f')
  · rw [a2.1 _ (fun t => e (congrArg Prod.snd t))]
    exact h.1 j' f' (hd.resolve_left (fun t => e t.1))
theorem ck_z {D : Nat → Nat → Prop} (hRS : ¬ S = R) (hD : ∀ f, ¬ D 5 f) (h01 : ∀ k, k < 16 → σ.1 (S, 5) k = 0 ∨ σ.1 (S, 5) k = 1) : ∀ (f k : Nat) (τ : qa_T), qe_K R S σ τ (fun j' f' => (j' = 5 ∧ f' < k) ∨ D j' f') → k ≤ 16 → 16 - k < f → ∃ τ', qa_fX6_copyFrom_76 R S f (nI k) τ = some τ' ∧ qe_K R S σ τ' (fun j' f' => (j' = 1 ∧ f' = 8) ∨ (j' = 5 ∧ f' < 16) ∨ D j' f') := by
  intro f
  induction f with
  | zero => intro k τ _ _ h; omega
  | succ f ih =>
    intro k τ h hk hf
    rw [qa_fX6_copyFrom_76]
    unfold qa_fX6_copyFrom_112
    by_cases e : k = 16
    · subst e
      rw [if_pos (show Int32.ofNat 16 ≤ nI 16 from nI_le (Nat.le_refl _) (by omega))]
      exact ⟨_, rfl, ck_w hRS h (by omega)⟩
    · have h1 := h.2.1 (S, 5) (Or.inl hRS)
      rw [if_neg (show ¬ Int32.ofNat 16 ≤ nI k from nI_ge (by omega) (by omega)), if_neg (show ¬ Int32.ofNat 16 ≤ nI k from nI_ge (by omega) (by omega)), qz_ifn (by omega) (by omega), qz_ifn (by omega) (by omega), nI_clamp (by omega), if_neg (not_not_intro (by rw [h1]; exact h01 k (by omega))), qk_a1, nI_1]
      refine ih (k + 1) _ ?_ (by omega) (by omega)
      have h2 := ck_w (j := 5) (f := k) hRS h (by omega)
      refine ⟨fun j' f' hd => h2.1 j' f' ?_, h2.2⟩
      rcases hd with hd | hd
      · by_cases c : f' = k
        · exact Or.inl ⟨hd.1, c⟩
        · exact Or.inr (Or.inl ⟨hd.1, by omega⟩)
      · exact Or.inr (Or.inr hd)
theorem ck_7 {D : Nat → Nat → Prop} {τ : qa_T} (hRS : ¬ S = R) (h : qe_K R S σ τ D) : qe_K R S σ (qa_fX7_copyFrom R S τ) (fun j f => (j = 11 ∧ f < 5) ∨ D j f) := by
  unfold qa_fX7_copyFrom
  refine ck_m (ck_w (j := 11) (f := 4) hRS (ck_w (j := 11) (f := 3) hRS (ck_w (j := 11) (f := 2) hRS (ck_w (j := 11) (f := 1) hRS (ck_w (j := 11) (f := 0) hRS h (by omega)) (by omega)) (by omega)) (by omega)) (by omega)) (fun j f hd => ?_)
  rcases hd with hd | hd
  · omega
  · exact Or.inr (Or.inr (Or.inr (Or.inr (Or.inr hd))))
theorem ck_4 {D : Nat → Nat → Prop} {τ : qa_T} (hRS : ¬ S = R) (h : qe_K R S σ τ D) : qe_K R S σ (qa_fX4_copyFrom R S τ) (fun j f => (j = 14 ∧ f < 5) ∨ D j f) := by
  unfold qa_fX4_copyFrom
  refine ck_m (ck_w (j := 14) (f := 4) hRS (ck_w (j := 14) (f := 3) hRS (ck_w (j := 14) (f := 2) hRS (ck_w (j := 14) (f := 1) hRS (ck_w (j := 14) (f := 0) hRS h (by omega)) (by omega)) (by omega)) (by omega)) (by omega)) (fun j f hd => ?_)
  rcases hd with hd | hd
  · omega
  · exact Or.inr (Or.inr (Or.inr (Or.inr (Or.inr hd))))
theorem ck_0 {D : Nat → Nat → Prop} {τ : qa_T} (hRS : ¬ S = R) (h : qe_K R S σ τ D) : qe_K R S σ (qa_fX0_copyFrom R S τ) (fun j f => (j = 15 ∧ f < 7) ∨ D j f) := by
  unfold qa_fX0_copyFrom
  refine ck_m (ck_w (j := 15) (f := 6) hRS (ck_w (j := 15) (f := 5) hRS (ck_w (j := 15) (f := 4) hRS (ck_w (j := 15) (f := 3) hRS (ck_w (j := 15) (f := 2) hRS (ck_w (j := 15) (f := 1) hRS (ck_w (j := 15) (f := 0) hRS h (by omega)) (by omega)) (by omega)) (by omega)) (by omega)) (by omega)) (by omega)) (fun j f hd => ?_)
  rcases hd with hd | hd
  · omega
  · exact Or.inr (Or.inr (Or.inr (Or.inr (Or.inr (Or.inr (Or.inr hd))))))
theorem ck_3 {D : Nat → Nat → Prop} {τ : qa_T} (hRS : ¬ S = R) (h : qe_K R S σ τ D) (hD : ∀ f, ¬ D 10 f) : ∃ τ', qa_fX3_copyFrom R S τ = some τ' ∧ qe_K R S σ τ' (fun j f => (j = 10 ∧ f < 24) ∨ (j = 9 ∧ f < 2) ∨ D j f) := by
  obtain ⟨t, e, k⟩ := ck_r (j := 10) (n := 24) hRS (ck_w (j := 9) (f := 1) hRS (ck_w (j := 9) (f := 0) hRS h (by omega)) (by omega)) (by omega) (by omega) (fun f t => by
    rcases t with t | t | t
    · omega
    · omega
    · exact hD f t)
  refine ⟨t, ?_, ck_m k (fun j f hd => ?_)⟩
  · unfold qa_fX3_copyFrom
    dsimp only
    rw [e, Option.bind_some]
  · rcases hd with hd | hd | hd
    · exact Or.inl hd
    · omega
    · exact Or.inr (Or.inr (Or.inr hd))
theorem ck_2 {D : Nat → Nat → Prop} {τ : qa_T} (hRS : ¬ S = R) (h : qe_K R S σ τ D) (hD : ∀ f, ¬ D 13 f) : ∃ τ', qa_fX2_copyFrom R S τ = some τ' ∧ qe_K R S σ τ' (fun j f => (j = 13 ∧ f < 16) ∨ (j = 12 ∧ (f < 3 ∨ f = 4)) ∨ D j f) := by
  obtain ⟨t, e, k⟩ := ck_r (j := 13) (n := 16) hRS (ck_w (j := 12) (f := 2) hRS (ck_w (j := 12) (f := 1) hRS (ck_w (j := 12) (f := 0) hRS h (by omega)) (by omega)) (by omega)) (by omega) (by omega) (fun f t => by
    rcases t with t | t | t | t
    · omega
    · omega
    · omega
    · exact hD f t)
  refine ⟨_, ?_, ck_m (ck_w (j := 12) (f := 4) hRS k (by omega)) (fun j f hd => ?_)⟩
  · unfold qa_fX2_copyFrom
    dsimp only
    rw [e, Option.bind_some]
  · rcases hd with hd | hd | hd
    · exact Or.inr (Or.inl hd)
    · omega
    · exact Or.inr (Or.inr (Or.inr (Or.inr (Or.inr hd))))
theorem ck_6 (hRS : ¬ S = R) (h01 : ∀ k, k < 16 → σ.1 (S, 5) k = 0 ∨ σ.1 (S, 5) k = 1) : ∃ τ', qa_fX6_copyFrom R S σ = some τ' ∧ qe_K R S σ τ' (fun j f => (j = 1 ∧ (f = 0 ∨ f = 8)) ∨ (2 ≤ j ∧ j ≤ 8 ∧ f < 16)) := by
  have k0 : qe_K R S σ σ (fun _ _ => False) := ⟨fun j f h => h.elim, qe_Fr⟩
  have k1 := ck_w (j := 1) (f := 0) hRS k0 (by omega)
  obtain ⟨t2, e2, k2⟩ := ck_r (j := 2) (n := 16) hRS k1 (by omega) (by omega) (fun f => by simp)
  obtain ⟨t3, e3, k3⟩ := ck_r (j := 3) (n := 16) hRS k2 (by omega) (by omega) (fun f => by simp)
  obtain ⟨t4, e4, k4⟩ := ck_r (j := 4) (n := 16) hRS k3 (by omega) (by omega) (fun f => by simp)
  obtain ⟨t6, e6, k6⟩ := ck_r (j := 6) (n := 16) hRS k4 (by omega) (by omega) (fun f => by simp)
  obtain ⟨t7, e7, k7⟩ := ck_r (j := 7) (n := 16) hRS k6 (by omega) (by omega) (fun f => by simp)
  obtain ⟨t8, e8, k8⟩ := ck_r (j := 8) (n := 16) hRS k7 (by omega) (by omega) (fun f => by simp)
  obtain ⟨t5, e5, k5⟩ := ck_z hRS (fun f => by simp) h01 qa_fu 0 t8 ⟨fun j f hd => k8.1 j f (hd.resolve_left (fun t => by omega)), k8.2⟩ (by omega) (by unfold qa_fu; omega)
  refine ⟨t5, ?_, ck_m k5 (fun j f hd => by omega)⟩
  unfold qa_fX6_copyFrom
  dsimp only
  rw [e2, Option.bind_some, e3, Option.bind_some, e4, Option.bind_some, e6, Option.bind_some, e7, Option.bind_some, e8, Option.bind_some, qk_a0]
  exact e5
theorem cl_cp (h : qe_R S σ s) (hs : qi_sl s) (hRS : ¬ S = R) : ∃ σ', qa_fX1_copyFrom R S σ = some σ' ∧ qe_R R σ' s ∧ qe_F R σ σ' := by
  have h01 : ∀ k, k < 16 → σ.1 (S, 5) k = 0 ∨ σ.1 (S, 5) k = 1 := fun k hk => by
    rw [ra_i h.1 hk]
    exact (hs.2.2 k hk).1
  obtain ⟨t6, e6, k6⟩ := ck_6 hRS h01
  obtain ⟨t3, e3, k3⟩ := ck_3 hRS k6 (fun f t => by omega)
  have k7 := ck_7 hRS k3
  obtain ⟨t2, e2, k2⟩ := ck_2 hRS k7 (fun f t => by omega)
  have k0 := ck_0 hRS (ck_4 hRS k2)
  refine ⟨qa_fX0_copyFrom R S (qa_fX4_copyFrom R S t2), ?_, ⟨?_, ?_⟩, k0.2⟩
  · unfold qa_fX1_copyFrom
    rw [e6, Option.bind_some, e3, Option.bind_some]
    dsimp only
    rw [e2, Option.bind_some]
  · intro i hi hl
    rw [← h.1 i hi hl]
    refine k0.1 _ _ ?_
    have hc : (1 ≤ i ∧ i < 113) ∨ (114 ≤ i ∧ i < 138) ∨ (147 ≤ i ∧ i < 163) ∨ i = 0 ∨ i = 113 ∨ i = 138 ∨ i = 139 ∨ i = 140 ∨ i = 141 ∨ i = 142 ∨ i = 143 ∨ i = 144 ∨ i = 145 ∨ i = 146 ∨ i = 163 ∨ i = 164 ∨ i = 165 ∨ i = 166 ∨ i = 167 ∨ i = 168 ∨ i = 169 ∨ i = 170 ∨ i = 171 ∨ i = 172 ∨ i = 173 ∨ i = 174 ∨ i = 175 := by omega
    rcases hc with h1 | h1 | h1 | h1 | h1 | h1 | h1 | h1 | h1 | h1 | h1 | h1 | h1 | h1 | h1 | h1 | h1 | h1 | h1 | h1 | h1 | h1 | h1 | h1 | h1 | h1 | h1
    · have e : i = 1 + 7 * ((i - 1) / 7) + (i - 1) % 7 := by omega
      have e2 := qx_sl (k := (i - 1) / 7) (w := (i - 1) % 7) (by omega) (by omega)
      rw [← e] at e2
      rw [e2]
      dsimp only
      omega
    · have e2 := qx_pr (k := i - 114) (by omega)
      rw [show 114 + (i - 114) = i by omega] at e2
      rw [e2]
      dsimp only
      omega
    · have e2 := qx_qu (k := i - 147) (by omega)
      rw [show 147 + (i - 147) = i by omega] at e2
      rw [e2]
      dsimp only
      omega
    all_goals subst h1
    all_goals decide
  · rw [← h.2]
    exact k0.1 12 4 (by decide)
theorem cl_sc_l {n : Nat} (h : qe_A R σ s) (hs : qi_sl s) (hn : n ≤ 16) (h0 : s 0 = nI n) : ∀ m k : Nat, k ≤ n → n - k < m → qa_fX1_sumOfCosts_4 R m (qr_tk s k) (nI k) σ = some (qr_tk s n) := by
  intro m
  induction m with
  | zero => intro k h1 h2; omega
  | succ m ih =>
    intro k hk hm
    rw [qa_fX1_sumOfCosts_4, ra_n0 h, h0]
    by_cases e : k = n
    · subst e
      rw [if_pos (nI_le (Nat.le_refl _) (by omega))]
    · have hk2 : k < 16 := by omega
      have h1 := ih (k + 1) (by omega) (by omega)
      unfold qa_fX1_sumOfCosts_37 qa_fX1_sumOfCosts_51
      rw [if_neg (nI_ge (by omega) (by omega)), cl_rd h hs hk2, at_in hk2 (by omega), ra_c h hk2, ra_144 h, qk_a1, nI_1]
      have e2 : qr_tk s (k + 1) = qr_tk s k + qr_tf s k := rfl
      unfold qr_tf at e2
      cases c : qr_ld s k
      · rw [if_neg (show ¬ ¬ qa_bi false = 0 by decide)]
        by_cases c2 : nI k = s 144
        · rw [if_neg (not_not_intro c2)]
          rw [if_pos (Or.inr c2.symm)] at e2
          rw [e2] at h1
          exact h1
        · rw [if_pos c2]
          rw [c, if_neg (fun t => t.elim (fun t => by cases t) (fun t => c2 t.symm)), Int32.add_zero] at e2
          rw [e2] at h1
          exact h1
      · rw [if_pos (show ¬ qa_bi true = 0 by decide)]
        rw [if_pos (Or.inl c)] at e2
        rw [e2] at h1
        exact h1
theorem cl_sc (h : qe_A R σ s) (hs : qi_sl s) : qa_fX1_sumOfCosts R σ = some (qr_ta s) := by
  obtain ⟨n1, n2⟩ := qi_n hs
  unfold qa_fX1_sumOfCosts qr_ta
  exact cl_sc_l h hs n2 n1 qa_fu 0 (by omega) (by unfold qa_fu; omega)
theorem cl_pu_l {a c : Nat} (h : qe_A R σ s) (hp : qi_pr s) (ha : a < 16) (hc : s 113 = nI c) (hc2 : c ≤ 24) : ∀ (m k j : Nat), k + j = c + 1 → 1 ≤ k → j < m → qa_fX3_placesUntil_2 R (nI a) m (nI k) σ = some (if qr_nf s a j k ≤ c then nI (qr_nf s a j k) else 0) := by
  intro m
  induction m with
  | zero => intro k j _ _ h3; omega
  | succ m ih =>
    intro k j hk h1 hm
    rw [qa_fX3_placesUntil_2, ra_113 h, hc, qk_a0]
    cases j with
    | zero =>
      rw [if_pos (nI_lt (by omega) (by omega)), if_neg (show ¬ qr_nf s a 0 k ≤ c by unfold qr_nf; omega)]
    | succ j =>
      rw [if_neg (nI_nlt (by omega) (by omega)), cl_sa h hp h1 (by omega), if_neg (by rw [hc, qn_nI (by omega)]; omega), Option.bind_some, qk_a1, nI_1]
      unfold qr_nf
      by_cases e : qr_sa s k = nI a
      · rw [if_neg (not_not_intro e), if_pos e, if_pos (by omega)]
      · rw [if_pos e, if_neg e]
        exact ih (k + 1) j (by omega) (by omega) (by omega)
theorem cl_pu {a : Nat} (h : qe_A R σ s) (hp : qi_pr s) (ha : a < 16) : qa_fX3_placesUntil R (nI a) σ = some (if qr_nx s a ≤ qn (s 113) then nI (qr_nx s a) else 0) := by
  obtain ⟨h1, h2⟩ := qi_p hp
  unfold qa_fX3_placesUntil qr_nx
  exact cl_pu_l h hp ha h1 h2 qa_fu 1 (qn (s 113)) (by omega) (by omega) (by unfold qa_fu; omega)
/-- the place in a line -/
def qr_po (a : Nat) : List Nat → Nat → Int32
  | [], _ => -1
  | b :: l, i => if b = a then nI i else qr_po a l (i + 1)
theorem cl_pl_l {a len : Nat} (ha : a < 16) (hlen : len ≤ 16) : ∀ (l : List Nat) (i f : Nat), (∀ b ∈ l, b < 16) → (∀ j b, l[j]? = some b → σ.1 (R, 17) (i + j) = nI b) → i + l.length = len → l.length < f → qa_fX1_placeInLine_7 R (nI a) f (nI len) (nI i) σ = some (qr_po a l i, σ) := by
  intro l
  induction l with
  | nil =>
    intro i f hb hr hi hf
    obtain ⟨f, rfl⟩ : ∃ j, f = j + 1 := ⟨f - 1, by simp only [List.length_nil] at hf; omega⟩
    simp only [List.length_nil] at hi
    rw [qa_fX1_placeInLine_7, if_pos (nI_le (by omega) (by omega)), qk_am1]
    rfl
  | cons b l ih =>
    intro i f hb hr hi hf
    obtain ⟨f, rfl⟩ : ∃ j, f = j + 1 := ⟨f - 1, by simp only [List.length_cons] at hf; omega⟩
    simp only [List.length_cons] at hi hf
    have h0 := hr 0 b rfl
    rw [Nat.add_zero] at h0
    have hb2 := hb b List.mem_cons_self
    rw [qa_fX1_placeInLine_7, if_neg (nI_ge (by omega) (by omega)), at_in (by omega) (by omega), h0, qk_a1, nI_1]
    unfold qr_po
    by_cases c : b = a
    · subst c
      rw [if_neg (not_not_intro rfl), if_pos rfl]
    · rw [if_pos (fun t => c ((nI_eq (by omega) (by omega)).mp t)), if_neg c]
      exact ih (i + 1) f (fun x hx => hb x (List.mem_cons_of_mem _ hx)) (fun j x hx => by
        rw [show i + 1 + j = i + (j + 1) by omega]
        exact hr (j + 1) x hx) (by omega) (by omega)
theorem cl_pl {a : Nat} (h : qe_A R σ s) (hA : qi_A N s) (ha : a < 16) : ∃ σ', qa_fX1_placeInLine R (nI a) σ = some (qr_po a (qr_ln s) 0, σ') ∧ qe_G R σ σ' := by
  obtain ⟨hs, hp, hw, hlo, hq, he, hc⟩ := hA
  have hn := (qi_n hs).2
  have h9 := qr_lf_len s (qn (s 0))
  obtain ⟨σ1, a1, a2, a3⟩ := cl_lu h hs hp he
  have hlen : (qr_ln s).length ≤ 16 := by
    unfold qr_ln
    omega
  refine ⟨σ1, ?_, a2⟩
  unfold qa_fX1_placeInLine
  rw [a1, Option.bind_some]
  exact cl_pl_l ha hlen (qr_ln s) 0 qa_fu (ln_16 hs) (fun j b hb => by rw [Nat.zero_add]; exact a3 j b hb) (by omega) (by unfold qa_fu; omega)
theorem cl_bt_l {a len : Nat} {m : Int} (hlen : len ≤ 16) (hm : 0 ≤ m) (hm2 : m ≤ 1000) : ∀ (l : List Nat) (i f : Nat) (x : Int32) (s : qs), (∀ b, b < 16 → σ.1 (R, 2) b = s (1 + 7 * b)) → qi_A N s → qr_li s l → (∀ j b, l[j]? = some b → σ.1 (R, 17) (i + j) = nI b) → i + l.length = len → l.length < f → x.toInt = (qr_ta s).toInt + m - (s 163).toInt → qa_fX1_burningsToLoad_60 R (nI a) f x (nI len) (nI i) σ = some (nI (i + (qr_rm m l s).1), σ) := by
  intro l
  induction l with
  | nil =>
    intro i f x s hc hA hl hr hi hf hx
    obtain ⟨f, rfl⟩ : ∃ j, f = j + 1 := ⟨f - 1, by simp only [List.length_nil] at hf; omega⟩
    simp only [List.length_nil] at hi
    rw [qa_fX1_burningsToLoad_60, if_pos (nI_le (by omega) (by omega))]
    rfl
  | cons b l ih =>
    intro i f x s hc hA hl hr hi hf hx
    obtain ⟨f, rfl⟩ : ∃ j, f = j + 1 := ⟨f - 1, by simp only [List.length_cons] at hf; omega⟩
    simp only [List.length_cons] at hi hf
    have hA' := hA
    obtain ⟨hs, hp, hw, hlo, hq, he, hct⟩ := hA
    have hn := (qi_n hs).2
    have hi0 := qn_int hs.1
    have h0 := hr 0 b rfl
    rw [Nat.add_zero] at h0
    have hb := (hl.2 b).mp List.mem_cons_self
    have hb2 : b < 16 := by omega
    have hcb := hb.2
    unfold qr_cb at hcb
    rw [Bool.and_eq_true] at hcb
    have hcc := (hs.2.2 b hb2).2.2.2.2.1 (by omega)
    have hta := qr_ta_b hs
    have he1 := he.1
    have he2 := he.2.1
    have h4 : ¬ s 144 = nI b := fun t => by
      have h5 := hlo.2.2.2.2.2 b hb2 (Or.inr (by rw [t, qz_nI (by omega)]))
      have h6 := hcb.1
      unfold qr_ld at h6
      rw [h5] at h6
      exact absurd (of_decide_eq_true h6) (by decide)
    have hft : x ≤ 0 ↔ qr_ft m s = true := by
      unfold qr_ft
      rw [qz_l0, decide_eq_true_eq, hx]
      omega
    rw [qa_fX1_burningsToLoad_60, if_neg (nI_ge (by omega) (by omega)), at_in (by omega) (by omega), h0, at_in hb2 (by omega), hc b hb2, qk_a1, nI_1]
    unfold qa_fX1_burningsToLoad_98 qr_rm
    by_cases c : qr_ft m s = true
    · rw [if_pos (hft.mpr c), if_pos c]
      rfl
    · rw [if_neg (fun t => c (hft.mp t)), if_neg c]
      dsimp only
      have e1 := bu_ta hs he hb.1 hcb.1 h4
      have := ih (i + 1) f (x - s (1 + 7 * b)) (qr_bu s b) (fun k hk => by rw [bu_o (by omega) (by omega)]; exact hc k hk) (bu_A hA' hb2) (bu_li hp hs hl) (fun j y hy => by
        rw [show i + 1 + j = i + (j + 1) by omega]
        exact hr (j + 1) y hy) (by omega) (by omega) (by rw [e1, bu_o (by omega) (by omega), qz_sub (by omega) (by omega)]; omega)
      rw [this]
      congr 3
      omega
set_option maxRecDepth 100000 in
theorem cl_bt {a : Nat} (h : qe_R R σ s) (hA : qi_A N s) (ha : a < qn (s 0)) : ∃ σ', qa_fX1_burningsToLoad R (nI a) σ = some (if qr_ld s a = true ∨ s 144 = nI a then 0 else nI (qr_mr (s (1 + 7 * a)).toInt s).1, σ') ∧ qe_G R σ σ' := by
  have hA' := hA
  obtain ⟨hs, hp, hw, hlo, hq, he, hct⟩ := hA
  have hn := (qi_n hs).2
  have hi0 := qn_int hs.1
  have ha2 : a < 16 := by omega
  have hcc := (hs.2.2 a ha2).2.2.2.2.1 (by omega)
  have hta := qr_ta_b hs
  have he1 := he.1
  have he2 := he.2.1
  have h9 := qr_lf_len s (qn (s 0))
  unfold qa_fX1_burningsToLoad qa_fX1_burningsToLoad_22
  rw [cl_rd h.1 hs ha2, ra_144 h.1, qk_a0]
  cases c1 : qr_ld s a
  · rw [if_neg (show ¬ ¬ qa_bi false = 0 by decide)]
    by_cases c2 : nI a = s 144
    · rw [if_neg (not_not_intro c2), if_pos (Or.inr c2.symm)]
      exact ⟨σ, rfl, qe_Gr⟩
    · rw [if_pos c2, if_neg (fun t => t.elim (fun t => by cases t) (fun t => c2 t.symm)), at_in ha2 (by omega), ra_c h.1 ha2, h.2, ra_163 h.1]
      obtain ⟨σ1, a1, a2, a3⟩ := cl_lu h.1 hs hp he
      have hlen : (qr_ln s).length ≤ 16 := by
        unfold qr_ln
        omega
      refine ⟨σ1, ?_, a2⟩
      rw [a1]
      simp only [Option.bind_some]
      have e1 : (qr_ta s + s (1 + 7 * a)).toInt = (qr_ta s).toInt + (s (1 + 7 * a)).toInt := qz_add (by omega) (by omega)
      have := cl_bt_l (σ := σ1) (R := R) (a := a) (N := N) (m := (s (1 + 7 * a)).toInt) hlen (by omega) (by omega) (qr_ln s) 0 qa_fu (qr_ta s + s (1 + 7 * a) - s 163) s (fun b hb => by
        rw [a2.1 _ (by simp) (by simp)]
        exact ra_c h.1 hb) hA' (qr_li_ln s) (fun j b hb => by rw [Nat.zero_add]; exact a3 j b hb) (by omega) (by unfold qa_fu; omega) (by rw [qz_sub (by omega) (by omega), e1])
      rw [Nat.zero_add, nI_0] at this
      rw [this]
      rfl
  · rw [if_pos (show ¬ qa_bi true = 0 by decide), if_pos (Or.inl rfl)]
    exact ⟨σ, rfl, qe_Gr⟩
end QCF
