/-! a step that writes a cell, or makes one -/
section QWR
variable {p : Program} {l : Launch} {e : Env} {R : Room} {s : State} {m : MethodId} {args : Array Value} {below : List Frame} {meth : Method} {c : Code} {H : Heap} {locs : List Loc} {cells slots : Nat} {Q : State → Prop}
variable {M : qa_M} {D : va_G} {ca : Nat → ClassId} {b L z : Nat} {xs : Nat → Int32} {φ : qa_P → Nat} {al : List qa_P} {h : qa_H} {pc len : Nat} {ls : Array Slot} {st : List qa_V}
theorem qa_up_self (h : qa_P → qa_C) (x : qa_P) (v : qa_C) : qa_up h x v x = v := if_pos rfl
theorem qa_up_ne {h : qa_P → qa_C} {x y : qa_P} {v : qa_C} (e : y ≠ x) : qa_up h x v y = h y := if_neg e
theorem qa_w_set {h : qa_P → qa_C} {x : qa_P} {v : qa_C} {q0 : Nat} {A : Nat → Prop} (hD : va_D A (qa_w φ ca al h)) (hq : al[q0]? = some x) : (qa_w φ ca al h).set q0 (φ x, qa_e φ ca v) = qa_w φ ca al (qa_up h x v) := by
  have hw : ∀ (i : Nat) (y : qa_P), al[i]? = some y → (qa_w φ ca al h)[i]? = some (φ y, qa_e φ ca (h y)) := fun i y hi => by unfold qa_w; rw [List.getElem?_map, hi]; rfl
  have hlen : q0 < (qa_w φ ca al h).length := (List.getElem?_eq_some_iff.mp (hw q0 x hq)).1
  refine List.ext_getElem? fun i => ?_
  by_cases hi : i = q0
  · subst hi
    rw [List.getElem?_set_self hlen]
    unfold qa_w
    rw [List.getElem?_map, hq]
    show some _ = some (φ x, qa_e φ ca (qa_up h x v x))
    rw [qa_up_self]
  · rw [List.getElem?_set_ne (Ne.symm hi)]
    unfold qa_w
    rw [List.getElem?_map, List.getElem?_map]
    cases hy : al[i]? with
    | none => rfl
    | some y =>
      have hne : y ≠ x := fun t => hi (hD.1 i q0 _ _ (hw i y hy) (hw q0 x hq) (by rw [t]))
      show some (φ y, qa_e φ ca (h y)) = some (φ y, qa_e φ ca (qa_up h x v y))
      rw [qa_up_ne hne]
theorem qa_Hp_up {x : qa_P} {v : qa_C} {q0 : Nat} {H1 : Heap} (hI : qa_Hp D ca b L z xs φ al h H) (hq : al[q0]? = some x) (h9 : ∀ n r, v ≠ .inr (9, n, r)) (ho : qa_oC h.1 v)
    (hP : va_P D vwCl ((qa_w φ ca al h.2).set q0 (φ x, qa_e φ ca v)) H1) (hD : va_D (qa_A z) ((qa_w φ ca al h.2).set q0 (φ x, qa_e φ ca v))) : qa_Hp D ca b L z xs φ al (h.1, qa_up h.2 x v) H1 := by
  rw [qa_w_set hI.2.1 hq] at hP hD
  have hx : x ∈ al := List.mem_of_getElem? hq
  refine ⟨hP, hD, fun y hy => ?_, hI.2.2.2.1, fun y n r hy => ?_, fun y hy => ?_⟩
  · by_cases e1 : y = x
    · rw [e1]; exact hx
    · exact hI.2.2.1 y (by rw [← qa_up_ne (h := h.2) (v := v) e1]; exact hy)
  · by_cases e1 : y = x
    · rw [e1] at hy
      exact absurd ((qa_up_self h.2 x v).symm.trans hy) (h9 n r)
    · exact hI.2.2.2.2.1 y n r (by rw [← qa_up_ne (h := h.2) (v := v) e1]; exact hy)
  · show qa_oC h.1 (qa_up h.2 x v y)
    by_cases e1 : y = x
    · rw [e1, qa_up_self]; exact ho
    · rw [qa_up_ne e1]; exact hI.2.2.2.2.2 y hy
theorem qa_fit_ok {ty : FieldType} {v : qa_V} (h : qa_fit ty v = true) (φ : qa_P → Nat) : narrow ty (qa_cv φ v) = qa_cv φ v ∧ fits ty (qa_cv φ v) = true := by
  cases v with
  | inl y =>
    cases ty with
    | object n => exact ⟨rfl, rfl⟩
    | array n => exact ⟨rfl, rfl⟩
    | _ => cases h
  | inr w =>
    unfold qa_fit at h
    simp only [Bool.and_eq_true] at h
    exact ⟨of_decide_eq_true h.1, h.2⟩
theorem qa_dc {k sl : Nat} {q : vw_C} (h : vwCl[k]? = some q) (hs : sl < q.2.2) : (q.2.1 sl).1 = qa_cn k := by
  revert hs
  match k, h with
  | 0, h => cases h; exact fun hs => (show ∀ j, j < 7 → (TX0 j).1 = RX0 by decide +kernel) sl hs
  | 1, h => cases h; exact fun hs => (show ∀ j, j < 8 → (TX1 j).1 = RX1 by decide +kernel) sl hs
  | 2, h => cases h; exact fun hs => (show ∀ j, j < 5 → (TX2 j).1 = RX2 by decide +kernel) sl hs
  | 3, h => cases h; exact fun hs => (show ∀ j, j < 3 → (TX3 j).1 = RX3 by decide +kernel) sl hs
  | 4, h => cases h; exact fun hs => (show ∀ j, j < 5 → (TX4 j).1 = RX4 by decide +kernel) sl hs
  | 5, h => cases h; exact fun hs => (show ∀ j, j < 3 → (TX5 j).1 = RX5 by decide +kernel) sl hs
  | 6, h => cases h; exact fun hs => (show ∀ j, j < 9 → (TX6 j).1 = RX6 by decide +kernel) sl hs
  | 7, h => cases h; exact fun hs => (show ∀ j, j < 5 → (TX7 j).1 = RX7 by decide +kernel) sl hs
  | 8, h => cases h; exact fun hs => (show ∀ j, j < 5 → (TX8 j).1 = RX8 by decide +kernel) sl hs
  | 9, h => cases h; exact fun hs => (show ∀ j, j < 6 → (TX9 j).1 = RX9 by decide +kernel) sl hs
  | k + 10, h => cases h
theorem qa_fs_set {k sl : Nat} {f : Nat → qa_V} (v : qa_V) : (qa_fs φ k f).set sl (qa_cv φ v) = qa_fs φ k (fun j => if j = sl then v else f j) := by
  refine List.ext_getElem? fun i => ?_
  unfold qa_fs
  by_cases hi : i = sl
  · subst hi
    by_cases hl : i < qa_fz k
    · rw [List.getElem?_set_self (by simpa using hl), List.getElem?_map, List.getElem?_range hl]
      show some _ = some (qa_cv φ (if i = i then v else f i))
      rw [if_pos rfl]
    · rw [List.getElem?_eq_none (by simpa using Nat.not_lt.mp hl), List.getElem?_eq_none (by simpa using Nat.not_lt.mp hl)]
  · rw [List.getElem?_set_ne (Ne.symm hi), List.getElem?_map, List.getElem?_map]
    by_cases hl : i < qa_fz k
    · rw [List.getElem?_range hl]
      show some _ = some (qa_cv φ (if i = sl then v else f i))
      rw [if_neg hi]
    · rw [List.getElem?_eq_none (by simpa using Nat.not_lt.mp hl)]
      rfl
theorem qa_up_map (f : Nat → Option qa_P) (k : Nat) (v : qa_P) : (fun i => (va_up f k (some v) i).map φ) = va_up (fun i => (f i).map φ) k (some (φ v)) := by
  funext i
  unfold va_up
  by_cases hi : i = k
  · rw [if_pos hi, if_pos hi]; rfl
  · rw [if_neg hi, if_neg hi]
theorem qa_wr_put {i : Nat} {w : Nat × List qa_V × qa_P × qa_C} {hh : qa_P → qa_C} (e : qa_wr M (.putfield i) len pc st hh = some w) : ∃ v x r ci sl pl f, st = v :: .inl x :: r ∧ qa_lk (qa_fl (qa_cl M)) i = some (ci, sl, pl) ∧ hh x = .inl (ci, f) ∧ len = 3 ∧ qa_fit (qa_ft ci sl) v = true ∧ (qa_fn ci sl = true → qa_sk M = 0 ∧ ci = qa_cl M) ∧ w = (pc + 3, r, x, .inl (ci, fun j => if j = sl then v else f j)) := by
  unfold qa_wr at e
  dsimp only at e
  split at e
  · split at e
    · next h1 h2 =>
      split at e
      · next h3 => obtain ⟨h3, rfl, h4, h5⟩ := h3; exact ⟨_, _, _, _, _, _, _, rfl, h1, h2, h3, h4, h5, (Option.some.inj e).symm⟩
      · cases e
    · cases e
  · cases e
theorem qa_wr_iast {w : Nat × List qa_V × qa_P × qa_C} {hh : qa_P → qa_C} (e : qa_wr M .iastore len pc st hh = some w) : ∃ x i y r n f, st = .inr (.int x) :: .inr (.int i) :: .inl y :: r ∧ hh y = .inr (0, n, .inl f) ∧ len = 1 ∧ vp_in i n ∧ w = (pc + 1, r, y, .inr (0, n, .inl (upd f i.toNatClampNeg x))) := by
  unfold qa_wr at e
  dsimp only at e
  split at e
  · split at e
    · next h1 =>
      split at e
      · next h3 => obtain ⟨h3, rfl, h4⟩ := h3; exact ⟨_, _, _, _, _, _, rfl, h1, h3, qa_in_ok h4, (Option.some.inj e).symm⟩
      · cases e
    · cases e
  · cases e
theorem qa_wr_bast {w : Nat × List qa_V × qa_P × qa_C} {hh : qa_P → qa_C} (e : qa_wr M .bastore len pc st hh = some w) : ∃ x i y r n f, st = .inr (.int x) :: .inr (.int i) :: .inl y :: r ∧ hh y = .inr (1, n, .inl f) ∧ len = 1 ∧ vp_in i n ∧ (x = 0 ∨ x = 1) ∧ w = (pc + 1, r, y, .inr (1, n, .inl (upd f i.toNatClampNeg x))) := by
  unfold qa_wr at e
  dsimp only at e
  split at e
  · split at e
    · next h1 =>
      split at e
      · next h3 => obtain ⟨h3, rfl, h4, h5⟩ := h3; exact ⟨_, _, _, _, _, _, rfl, h1, h3, qa_in_ok h4, h5, (Option.some.inj e).symm⟩
      · cases e
    · cases e
  · cases e
theorem qa_wr_aast {w : Nat × List qa_V × qa_P × qa_C} {hh : qa_P → qa_C} (e : qa_wr M .aastore len pc st hh = some w) : ∃ x i y r n f g, st = .inl x :: .inr (.int i) :: .inl y :: r ∧ hh y = .inr (3, n, .inr (.inr f)) ∧ hh x = .inl (1, g) ∧ len = 1 ∧ vp_in i n ∧ w = (pc + 1, r, y, .inr (3, n, .inr (.inr (va_up f i.toNatClampNeg (some x))))) := by
  unfold qa_wr at e
  dsimp only at e
  split at e
  · split at e
    · next h1 h2 =>
      split at e
      · next h3 => obtain ⟨h3, rfl, rfl, h4⟩ := h3; exact ⟨_, _, _, _, _, _, _, rfl, h1, h2, h3, qa_in_ok h4, (Option.some.inj e).symm⟩
      · cases e
    · cases e
  · cases e
set_option maxHeartbeats 1000000 in
theorem qa_wrW (hF : qa_Fr M p R s m args c) (hE : qa_En D ca b L z xs s) (hI : qa_Hp D ca b L z xs φ al h H) (hS : va_S (qa_A z) s.heap H locs) (hini : qa_sk M = 0 → meth.name = "<init>") (hoS : qa_oS h.1 st)
    {ins : Instr} (hd : decode (qa_by M) pc = .ok (ins, len)) {w : Nat × List qa_V × qa_P × qa_C} (hw : qa_wr M ins len pc st h.2 = some w)
    (kk : ∀ (H1 : Heap) (locs1 : List Loc), qa_Hp D ca b L z xs φ al (h.1, qa_up h.2 w.2.2.1 w.2.2.2) H1 → va_S (qa_A z) s.heap H1 locs1 → qa_oS h.1 w.2.1 → W p l e R s m args below meth c H1 locs1 cells slots Q (F0 m w.1 ls (w.2.1.map (qa_cv φ)))) :
    W p l e R s m args below meth c H locs cells slots Q (F0 m pc ls (st.map (qa_cv φ))) := by
  obtain ⟨hx, hb, hml, hown, hts, hk, hfr, hlo⟩ := hF
  cases ins with
  | putfield i =>
    obtain ⟨v, x, r, ci, sl, pl, f, rfl, h2, h3, rfl, hfit, hfin, rfl⟩ := qa_wr_put hw
    obtain ⟨q, hq, hsl, hlk⟩ := qa_fl_at hk h2
    have hal : x ∈ al := hI.2.2.1 x (by rw [h3]; exact decide_eq_true (qa_ft_ok hq).2.2.1)
    obtain ⟨q0, hal0, hq0⟩ := qa_w_at (φ := φ) (ca := ca) (h := h.2) hal
    rw [h3] at hq0
    have hlen : sl < (qa_fs φ ci f).length := by unfold qa_fs; rw [List.length_map, List.length_range, qa_fz_eq hq]; exact hsl
    have hoc := hI.2.2.2.2.2 x hal
    rw [h3] at hoc
    have ho : qa_oC h.1 (.inl (ci, fun j => if j = sl then v else f j)) := fun j => by
      show qa_ov h.1 (if j = sl then v else f j)
      by_cases hj : j = sl
      · rw [if_pos hj]; exact qa_oS_hd hoS
      · rw [if_neg hj]; exact hoc j
    have hft := qa_fit_ok hfit φ
    by_cases hf9 : (q.2.1 sl).2.2.2 = true
    · have hf2 := hfin (by unfold qa_fn; rw [hq]; exact hf9)
      refine va_putF hx hb hts (qa_cws hq).2.2 (qa_ft ci) (qa_ft_ok hq).1 (qa_ft_ok hq).2.1 hown hE.1 hI.1 hI.2.1 hS q0 hq0 hq sl hsl (hts _ hlk) (fun _ t => t) hf9 (hini hf2.1) ((qa_dc hq hsl).trans (by rw [hf2.2])) ((qa_ft_ok hq).1 sl hsl) hft.1 hft.2 hlen hd (fun H1 locs1 hP1 hD1 hS1 => kk H1 locs1 ?_ hS1 (qa_oS_tl (qa_oS_tl hoS)))
      rw [qa_fs_set] at hP1 hD1
      exact qa_Hp_up (v := .inl (ci, fun j => if j = sl then v else f j)) hI hal0 (fun n r t => by cases t) ho hP1 hD1
    · refine va_put hx hb hts (qa_cws hq).2.2 (qa_ft ci) (qa_ft_ok hq).1 (qa_ft_ok hq).2.1 hown hE.1 hI.1 hI.2.1 hS q0 hq0 hq sl hsl (hts _ hlk) (fun _ t => t) (Bool.eq_false_iff.mpr hf9) ((qa_ft_ok hq).1 sl hsl) hft.1 hft.2 hlen hd (fun H1 locs1 hP1 hD1 hS1 => kk H1 locs1 ?_ hS1 (qa_oS_tl (qa_oS_tl hoS)))
      rw [qa_fs_set] at hP1 hD1
      exact qa_Hp_up (v := .inl (ci, fun j => if j = sl then v else f j)) hI hal0 (fun n r t => by cases t) ho hP1 hD1
  | iastore =>
    obtain ⟨x, i, y, r, n, f, rfl, h2, rfl, hin, rfl⟩ := qa_wr_iast hw
    have hal : y ∈ al := hI.2.2.1 y (by rw [h2]; rfl)
    obtain ⟨q0, hal0, hq0⟩ := qa_w_at (φ := φ) (ca := ca) (h := h.2) hal
    rw [h2] at hq0
    exact va_iast hx hb hE.1 hI.1 hI.2.1 hS q0 0 hq0 (qa_tys_0 ca) hin hd (fun H1 locs1 hP1 hD1 hS1 => kk H1 locs1 (qa_Hp_up (v := .inr (0, n, .inl (upd f i.toNatClampNeg x))) hI hal0 (fun n r t => by cases t) trivial hP1 hD1) hS1 (qa_oS_tl (qa_oS_tl (qa_oS_tl hoS))))
  | bastore =>
    obtain ⟨x, i, y, r, n, f, rfl, h2, rfl, hin, hx01, rfl⟩ := qa_wr_bast hw
    have hal : y ∈ al := hI.2.2.1 y (by rw [h2]; rfl)
    obtain ⟨q0, hal0, hq0⟩ := qa_w_at (φ := φ) (ca := ca) (h := h.2) hal
    rw [h2] at hq0
    have hnx : vp_nar .boolean x = x := by rcases hx01 with rfl | rfl <;> rfl
    refine va_zast hx hb hE.1 hI.1 hI.2.1 hS q0 1 hq0 (qa_tys_1 ca) hin hd (fun H1 locs1 hP1 hD1 hS1 => kk H1 locs1 ?_ hS1 (qa_oS_tl (qa_oS_tl (qa_oS_tl hoS))))
    rw [hnx] at hP1 hD1
    exact qa_Hp_up (v := .inr (1, n, .inl (upd f i.toNatClampNeg x))) hI hal0 (fun n r t => by cases t) trivial hP1 hD1
  | aastore =>
    obtain ⟨x, i, y, r, n, f, g, rfl, h2, h3, rfl, hin, rfl⟩ := qa_wr_aast hw
    have hal : y ∈ al := hI.2.2.1 y (by rw [h2]; rfl)
    obtain ⟨q0, hal0, hq0⟩ := qa_w_at (φ := φ) (ca := ca) (h := h.2) hal
    rw [h2] at hq0
    have hal2 : x ∈ al := hI.2.2.1 x (by rw [h3]; rfl)
    obtain ⟨q1, -, hq1⟩ := qa_w_at (φ := φ) (ca := ca) (h := h.2) hal2
    rw [h3] at hq1
    have hoc := hI.2.2.2.2.2 y hal
    rw [h2] at hoc
    have ho : qa_oC h.1 (.inr (3, n, .inr (.inr (va_up f i.toNatClampNeg (some x))))) := fun j y1 hy1 => by
      unfold va_up at hy1
      by_cases hj : j = i.toNatClampNeg
      · rw [if_pos hj] at hy1; cases hy1; exact qa_oS_hd hoS
      · rw [if_neg hj] at hy1; exact hoc j y1 hy1
    have he : qa_e φ ca (.inr (3, n, .inr (.inr (va_up f i.toNatClampNeg (some x))))) = .inl (ca 3, n, .inr (.inr (.inr (.inr (va_up (fun i => (f i).map φ) i.toNatClampNeg (some (φ x))))))) := by
      rw [← qa_up_map]; rfl
    refine va_astq hx hb hE.1 hI.1 hI.2.1 hS q0 3 q1 1 (r := (RX1, TX1, 8)) hq0 (qa_tys_3 ca) hq1 rfl hin hd (fun H1 locs1 hP1 hD1 hS1 => kk H1 locs1 ?_ hS1 (qa_oS_tl (qa_oS_tl (qa_oS_tl hoS))))
    rw [← he] at hP1 hD1
    exact qa_Hp_up (v := .inr (3, n, .inr (.inr (va_up f i.toNatClampNeg (some x))))) hI hal0 (fun n r t => by cases t) ho hP1 hD1
  | _ => cases hw
end QWR
