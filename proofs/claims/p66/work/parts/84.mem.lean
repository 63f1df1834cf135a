/-! the memory as the law counts it (p66) -/
section QKE
variable {σ σ1 σ2 σ' : qa_T} {s t : qs} {N M : Nat} {X : Nat → Int32} {a x v x1 x2 x3 x4 : Int32} {K : Int32 → Int32 → Int32 → Int32 → Int32 → Int32 → qa_T → Option (Bool × qa_T)}
/-- how many are loaded or on their way; how often slides were burnt; the bits of the line -/
def qv_cn (s : qs) : Nat → Nat
  | 0 => 0
  | k + 1 => qv_cn s k + (if qr_ld s k = true ∨ s 144 = nI k then 1 else 0)
def qv_bs (s : qs) : Nat → Int32
  | 0 => 0
  | k + 1 => qv_bs s k + s (1 + 7 * k + 5)
def qv_f (l : List Nat) (j : Nat) : Nat := if j ∈ l then 2 ^ qv_ix j l else 0
def qv_du (l : List Nat) : Nat → Nat
  | 0 => 0
  | k + 1 => qv_du l k + qv_f l k
theorem ix_cons {a b : Nat} {l : List Nat} : qv_ix a (b :: l) = if b = a then 0 else qv_ix a l + 1 := rfl
theorem f_cons {b j : Nat} {l : List Nat} : qv_f (b :: l) j = if j = b then 1 else 2 * qv_f l j := by
  unfold qv_f
  by_cases e : j = b
  · subst e
    rw [if_pos List.mem_cons_self, if_pos rfl, ix_cons, if_pos rfl]
  · rw [if_neg e]
    have em : (j ∈ b :: l) ↔ j ∈ l := by
      rw [List.mem_cons]
      exact ⟨fun h => h.resolve_left e, Or.inr⟩
    by_cases m : j ∈ l
    · rw [if_pos (em.mpr m), if_pos m, ix_cons, if_neg (fun t => e t.symm), Nat.pow_succ, Nat.mul_comm]
    · rw [if_neg (fun t => m (em.mp t)), if_neg m]
theorem du_cons {b : Nat} {l : List Nat} (hb : ¬ b ∈ l) : ∀ n : Nat, qv_du (b :: l) n = 2 * qv_du l n + (if b < n then 1 else 0) := by
  intro n
  induction n with
  | zero => rw [if_neg (by omega)]; rfl
  | succ n ih =>
    unfold qv_du
    rw [ih, f_cons]
    by_cases e : n = b
    · subst e
      have f0 : qv_f l n = 0 := if_neg hb
      rw [if_pos rfl, f0, if_neg (by omega), if_pos (by omega)]
      omega
    · rw [if_neg e]
      by_cases c : b < n
      · rw [if_pos c, if_pos (by omega)]
        omega
      · rw [if_neg c, if_neg (by omega)]
        omega
theorem du_nil : ∀ n : Nat, qv_du [] n = 0 := by
  intro n
  induction n with
  | zero => rfl
  | succ n ih =>
    unfold qv_du
    rw [ih, show qv_f [] n = 0 from if_neg List.not_mem_nil]
theorem du_all {n : Nat} : ∀ l : List Nat, l.Nodup → (∀ j ∈ l, j < n) → qv_du l n + 1 = 2 ^ l.length := by
  intro l
  induction l with
  | nil => intro _ _; rw [du_nil]; rfl
  | cons b l ih =>
    intro h1 h2
    obtain ⟨h3, h4⟩ := List.nodup_cons.mp h1
    rw [du_cons h3, if_pos (h2 b List.mem_cons_self), List.length_cons, Nat.pow_succ]
    have := ih h4 (fun j hj => h2 j (List.mem_cons_of_mem _ hj))
    omega
theorem ln_nd (s : qs) : (qr_ln s).Nodup := by
  have h := (qr_li_ln s).1
  exact h.imp (fun {x y} hxy e => by
    subst e
    exact qr_fb_as hxy hxy)
theorem ti_n (h : qi_sl s) : ∀ (k : Nat), (qv_cn s k : Int) = qr_zs (qv_c s) k := by
  intro k
  induction k with
  | zero => rfl
  | succ k ih =>
    have e1 : qv_cn s (k + 1) = qv_cn s k + (if qr_ld s k = true ∨ s 144 = nI k then 1 else 0) := rfl
    have e2 : qr_zs (qv_c s) (k + 1) = qr_zs (qv_c s) k + (if qr_ld s k = true ∨ s 144 = nI k then 1 else 0) := rfl
    rw [e1, e2, ← ih]
    split <;> omega
theorem sh_p : ∀ p : Nat, p < 16 → ((Int32.ofInt 1) <<< (nI p &&& 31)) = nI (2 ^ p) := by decide +kernel
theorem du_a : ∀ p : Nat, p < 17 → (nI (2 ^ p - 1) &&& (nI (2 ^ p - 1) + Int32.ofInt 1)) = 0 := by decide +kernel
theorem rm_n {m : Int} : ∀ (l : List Nat) (s : qs), (qr_rm m l s).1 ≤ l.length := by
  intro l
  induction l with
  | nil => intro s; exact Nat.le_refl _
  | cons b l ih =>
    intro s
    unfold qr_rm
    split
    · exact Nat.zero_le _
    · dsimp only
      rw [List.length_cons]
      have := ih (qr_bu s b)
      omega
theorem os_i {j : Nat} : qr_os s j = true ↔ (s 139 = nI j ∨ s 140 = nI j) := by
  unfold qr_os
  rw [Bool.or_eq_true]
  constructor
  · rintro (h | h)
    · exact Or.inl (of_decide_eq_true h).symm
    · exact Or.inr (of_decide_eq_true h).symm
  · rintro (h | h)
    · exact Or.inl (decide_eq_true h.symm)
    · exact Or.inr (decide_eq_true h.symm)
/-- what is on show is loaded -/
theorem os_ld {j : Nat} (hv : qv N s) (hj : j < 16) (h : qr_os s j = true) : qr_ld s j = true := by
  rw [ld_i]
  rcases os_i.mp h with e | e
  · have := hv.1.1 (fun t => qr_nI_m hj (e.symm.trans t))
    rw [e, qn_nI (by omega)] at this
    exact this
  · have := hv.1.2 (fun t => qr_nI_m hj (e.symm.trans t))
    rw [e, qn_nI (by omega)] at this
    exact this
theorem m_217 {j : Nat} {x8 : Int32} (h : qK N X s σ) (hj : j < qn (s 0)) (h8 : x8 = qa_bi (qr_os s j)) : ∃ σ', qa_fL_isMemorySo_217_1 K x1 x2 x3 x4 (nI j) (qa_bi (qr_ld s j)) x8 σ = K x1 x2 x3 (x4 + nI (qv_f (qr_ln s) j)) (Int32.ofInt 1) (nI j + Int32.ofInt 1) σ' ∧ qK N X s σ' := by
  subst h8
  have hn := n16 h
  have no : ¬ qr_cb s j = true → ∃ σ', qa_fL_isMemorySo_242 K x1 x2 x3 (Int32.ofInt 1) (nI j) x4 σ = K x1 x2 x3 (x4 + nI (qv_f (qr_ln s) j)) (Int32.ofInt 1) (nI j + Int32.ofInt 1) σ' ∧ qK N X s σ' := fun c => by
    refine ⟨σ, ?_, h⟩
    have f0 : qv_f (qr_ln s) j = 0 := if_neg (fun t => c (ln_mem.mp t).2)
    rw [f0]
    rfl
  unfold qa_fL_isMemorySo_217_1
  cases e1 : qr_ld s j
  · rw [if_pos (show qa_bi false = 0 from rfl)]
    exact no (fun t => by
      unfold qr_cb at t
      rw [e1] at t
      cases t)
  · rw [if_neg nt]
    cases e2 : qr_os s j
    · rw [if_neg (not_not_intro (show qa_bi false = 0 from rfl))]
      have cb : qr_cb s j = true := by
        unfold qr_cb
        rw [e1, e2]
        rfl
      obtain ⟨σ1, b1, b2⟩ := k_burnPlace h hj cb
      have hm := ln_mem.mpr ⟨hj, cb⟩
      have hl := ix_lt _ hm
      have hl2 := ln_len s
      refine ⟨σ1, ?_, b2⟩
      rw [b1, Option.bind_some]
      unfold qa_fL_isMemorySo_243_1
      dsimp only
      rw [sh_p _ (by omega), show qv_f (qr_ln s) j = 2 ^ qv_ix j (qr_ln s) from if_pos hm]
    · rw [if_pos nt]
      exact no (fun t => by
        unfold qr_cb at t
        rw [e1, e2] at t
        cases t)
theorem m_169 {j : Nat} {x8 : Int32} (h : qK N X s σ) (hj : j < qn (s 0)) (h8 : x8 = qa_bi (qr_os s j)) : ∃ σ', qa_fL_isMemorySo_169 K x1 x2 x3 x4 (nI j) (qa_bi (qr_ld s j)) x8 σ = K x1 x2 x3 (x4 + nI (qv_f (qr_ln s) j)) (Int32.ofInt 1) (nI j + Int32.ofInt 1) σ' ∧ qK N X s σ' := by
  have hd := du_b (qK_s h) hj
  have c1 : ¬ qr_du s j ≤ 0 := fun t => by rw [qz_l0] at t; omega
  have c2 : ¬ ((Int8.ofInt 21).toInt32) ≤ qr_du s j := fun t => by
    rw [qz_le, show (((Int8.ofInt 21).toInt32)).toInt = 21 from rfl] at t
    omega
  obtain ⟨σ1, b1, b2⟩ := k_burningsFor h hj
  obtain ⟨σ2, d1, d2⟩ := k_burningsFor b2 hj
  have hr := rm_n (m := (s (1 + 7 * j)).toInt) (qr_ln s) s
  have hl2 := ln_len s
  have hn := n16 h
  have c3 : ¬ (if qr_ld s j = true ∨ s 144 = nI j then (0 : Int32) else nI (qr_mr (s (1 + 7 * j)).toInt s).1) < 0 := by
    split
    · decide
    · intro t
      rw [qz_lt, qk_t0, qz_nI (by unfold qr_mr; omega)] at t
      omega
  unfold qa_fL_isMemorySo_169
  rw [k_loadOf h hj, Option.bind_some]
  dsimp only
  rw [if_neg c1]
  try rw [k_loadOf h hj]
  rw [Option.bind_some]
  dsimp only
  rw [if_neg c2, b1, Option.bind_some]
  dsimp only
  rw [if_neg c3]
  cases e1 : qr_ld s j
  · rw [if_pos (show qa_bi false = 0 from rfl)]
    unfold qa_fL_isMemorySo_212
    rw [← e1]
    exact m_217 b2 hj h8
  · rw [if_neg nt, d1, Option.bind_some]
    dsimp only
    rw [if_pos (Or.inl e1), if_neg (not_not_intro rfl)]
    unfold qa_fL_isMemorySo_212
    rw [← e1]
    exact m_217 d2 hj h8
theorem m_145 {j : Nat} {x8 : Int32} (h : qK N X s σ) (hj : j < qn (s 0)) (h8 : x8 = qa_bi (qr_os s j)) : ∃ σ', qa_fL_isMemorySo_145 K x1 x2 x3 x4 (nI j) (qa_bi (qr_ld s j)) x8 σ = K x1 x2 x3 (x4 + nI (qv_f (qr_ln s) j)) (Int32.ofInt 1) (nI j + Int32.ofInt 1) σ' ∧ qK N X s σ' := by
  have hn := n16 h
  unfold qa_fL_isMemorySo_145
  rw [k_glowOf h hj, Option.bind_some]
  dsimp only
  by_cases c : s (1 + 7 * j + 4) = 0
  · rw [if_pos c]
    exact m_169 h hj h8
  · obtain ⟨g1, g2⟩ := (h.2.2.2.2.1 j (by omega)).resolve_left c
    have e1 : qr_ld s j = false := by
      cases e : qr_ld s j
      · rfl
      · rw [ld_i, g1] at e
        exact absurd e i10
    have hm := m_169 (K := K) (x1 := x1) (x2 := x2) (x3 := x3) (x4 := x4) h hj h8
    rw [e1] at hm
    rw [if_neg c, e1, if_neg (not_not_intro (show qa_bi false = 0 from rfl)), l_told3 h, Option.bind_some]
    dsimp only
    rw [if_neg g2]
    exact hm
theorem m_112 {j : Nat} (h : qK N X s σ) (hj : j < qn (s 0)) (ho : qr_os s j = true) : ∃ σ', qa_fL_isMemorySo_112 K x1 x2 x3 x4 (Int32.ofInt 1) (nI j) (qa_bi (qr_ld s j)) σ = K x1 x2 x3 (x4 + nI (qv_f (qr_ln s) j)) (Int32.ofInt 1) (nI j + Int32.ofInt 1) σ' ∧ qK N X s σ' := by
  have hn := n16 h
  have hl := os_ld h.2.2.2 (show j < 16 by omega) ho
  unfold qa_fL_isMemorySo_112 qa_fL_isMemorySo_117
  rw [if_neg (by decide), k_isOnShow h hj, Option.bind_some]
  dsimp only
  rw [ho, hl, if_neg (by decide), if_neg (by decide), if_neg nt, ← hl]
  exact m_145 h hj (by rw [ho]; rfl)
theorem m_117 {j : Nat} (h : qK N X s σ) (hj : j < qn (s 0)) (ho : qr_os s j = false) : ∃ σ', qa_fL_isMemorySo_117_1 K x1 x2 x3 x4 (Int32.ofInt 1) (nI j) (qa_bi (qr_ld s j)) σ = K x1 x2 x3 (x4 + nI (qv_f (qr_ln s) j)) (Int32.ofInt 1) (nI j + Int32.ofInt 1) σ' ∧ qK N X s σ' := by
  unfold qa_fL_isMemorySo_117_1
  rw [if_neg (by decide), k_isOnShow h hj, Option.bind_some]
  dsimp only
  rw [ho, if_neg (by decide), if_pos (by decide)]
  exact m_145 h hj (by rw [ho]; rfl)
/-- is it on show, as the law asks -/
theorem m_sh {j : Nat} (h : qK N X s σ) (hj : j < qn (s 0)) : ∃ σ', ((qa_fL_told (Int32.ofInt 1) σ).bind fun c128 =>
        if c128.1 = nI j then
          qa_fL_isMemorySo_112 K x1 x2 x3 x4 (Int32.ofInt 1) (nI j) (qa_bi (qr_ld s j)) c128.2
        else
          (qa_fL_told (Int32.ofInt 2) c128.2).bind fun c193 =>
          if ¬ c193.1 = nI j then
            qa_fL_isMemorySo_117_1 K x1 x2 x3 x4 (Int32.ofInt 1) (nI j) (qa_bi (qr_ld s j)) c193.2
          else
            qa_fL_isMemorySo_112 K x1 x2 x3 x4 (Int32.ofInt 1) (nI j) (qa_bi (qr_ld s j)) c193.2) = K x1 x2 x3 (x4 + nI (qv_f (qr_ln s) j)) (Int32.ofInt 1) (nI j + Int32.ofInt 1) σ' ∧ qK N X s σ' := by
  rw [l_told1 h, Option.bind_some]
  dsimp only
  by_cases c1 : s 139 = nI j
  · rw [if_pos c1]
    exact m_112 h hj (os_i.mpr (Or.inl c1))
  · rw [if_neg c1, l_told2 h, Option.bind_some]
    dsimp only
    by_cases c2 : s 140 = nI j
    · rw [if_neg (not_not_intro c2)]
      exact m_112 h hj (os_i.mpr (Or.inr c2))
    · rw [if_pos c2]
      refine m_117 h hj ?_
      cases e : qr_os s j
      · rfl
      · exact absurd (os_i.mp e) (by rintro (y | y); exact c1 y; exact c2 y)
theorem m_76 {j : Nat} (h : qK N X s σ) (hj : j < qn (s 0)) : ∃ σ', qa_fL_isMemorySo_76 K x1 x3 x4 (Int32.ofInt 1) (nI j) (qa_bi (qr_ld s j)) x2 σ = K x1 (x2 + Int32.ofInt 1) (x3 + s (1 + 7 * j + 5)) (x4 + nI (qv_f (qr_ln s) j)) (Int32.ofInt 1) (nI j + Int32.ofInt 1) σ' ∧ qK N X s σ' := by
  unfold qa_fL_isMemorySo_76 qa_fL_isMemorySo_81
  dsimp only
  rw [k_burntTimes h hj, Option.bind_some]
  exact m_sh h hj
theorem m_81 {j : Nat} (h : qK N X s σ) (hj : j < qn (s 0)) : ∃ σ', qa_fL_isMemorySo_81_1 K x1 x3 x4 (Int32.ofInt 1) (nI j) (qa_bi (qr_ld s j)) x2 σ = K x1 (x2 + Int32.ofInt 0) (x3 + s (1 + 7 * j + 5)) (x4 + nI (qv_f (qr_ln s) j)) (Int32.ofInt 1) (nI j + Int32.ofInt 1) σ' ∧ qK N X s σ' := by
  unfold qa_fL_isMemorySo_81_1
  dsimp only
  rw [k_burntTimes h hj, Option.bind_some]
  exact m_sh h hj
/-- one slide -/
theorem m_body {j : Nat} (h : qK N X s σ) (hj : j < qn (s 0)) : ∃ σ', ((some (qa_fX9_isLoaded (nI j) σ)).bind fun c107 => match c107 with
        | (.inl r109, σ110) =>
          let v112 : Int32 := (qa_bi r109)
          if ¬ v112 = 0 then
            qa_fL_isMemorySo_48 K x2 x3 x4 (Int32.ofInt 1) (nI j) v112 x1 σ110
          else
            (qa_fL_told (Int32.ofInt 3) σ110).bind fun c221 =>
            if ¬ c221.1 = nI j then
              qa_fL_isMemorySo_58_1 K x2 x3 x4 (Int32.ofInt 1) (nI j) v112 x1 c221.2
            else
              qa_fL_isMemorySo_48 K x2 x3 x4 (Int32.ofInt 1) (nI j) v112 x1 c221.2
        | (.inr E111, σ110) =>
          none) = K (x1 + qr_tf s j) (x2 + nI (if qr_ld s j = true ∨ s 144 = nI j then 1 else 0)) (x3 + s (1 + 7 * j + 5)) (x4 + nI (qv_f (qr_ln s) j)) (Int32.ofInt 1) (nI j + Int32.ofInt 1) σ' ∧ qK N X s σ' := by
  rw [k_isLoaded h hj, Option.bind_some]
  dsimp only
  have m48 : (qr_ld s j = true ∨ s 144 = nI j) → ∃ σ', qa_fL_isMemorySo_48 K x2 x3 x4 (Int32.ofInt 1) (nI j) (qa_bi (qr_ld s j)) x1 σ = K (x1 + qr_tf s j) (x2 + nI (if qr_ld s j = true ∨ s 144 = nI j then 1 else 0)) (x3 + s (1 + 7 * j + 5)) (x4 + nI (qv_f (qr_ln s) j)) (Int32.ofInt 1) (nI j + Int32.ofInt 1) σ' ∧ qK N X s σ' := fun c => by
    have et : qr_tf s j = s (1 + 7 * j) := if_pos c
    rw [if_pos c, et]
    unfold qa_fL_isMemorySo_48
    rw [k_costOf h hj, Option.bind_some]
    dsimp only
    unfold qa_fL_isMemorySo_58
    dsimp only
    cases e1 : qr_ld s j
    · rw [if_neg (not_not_intro (show qa_bi false = 0 from rfl)), l_told3 h, Option.bind_some]
      dsimp only
      have c2 : s 144 = nI j := c.resolve_left (fun t => by rw [e1] at t; cases t)
      rw [if_neg (not_not_intro c2), ← e1]
      exact m_76 h hj
    · rw [if_pos nt, ← e1]
      exact m_76 h hj
  cases e1 : qr_ld s j
  · rw [if_neg (not_not_intro (show qa_bi false = 0 from rfl)), l_told3 h, Option.bind_some]
    dsimp only
    by_cases c : s 144 = nI j
    · rw [if_neg (not_not_intro c), ← e1]
      exact m48 (Or.inr c)
    · have cn : ¬ (qr_ld s j = true ∨ s 144 = nI j) := by
        rw [e1]
        rintro (y | y)
        · cases y
        · exact c y
      have et : qr_tf s j = 0 := if_neg cn
      rw [if_pos c, et, ← e1, if_neg cn]
      unfold qa_fL_isMemorySo_58_1
      dsimp only
      rw [e1, if_neg (not_not_intro (show qa_bi false = 0 from rfl)), l_told3 h, Option.bind_some]
      dsimp only
      rw [if_pos c, ← e1]
      exact m_81 h hj
  · rw [if_pos nt]
    have g := m48 (Or.inl e1)
    rw [e1] at g
    exact g
end QKE
