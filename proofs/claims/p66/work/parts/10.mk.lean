/-! a step that makes a cell -/
section QMK
variable {p : Program} {l : Launch} {e : Env} {R : Room} {s : State} {m : MethodId} {args : Array Value} {below : List Frame} {meth : Method} {c : Code} {H : Heap} {locs : List Loc} {cells slots : Nat} {Q : State → Prop}
variable {M : qa_M} {D : va_G} {ca : Nat → ClassId} {b L z : Nat} {xs : Nat → Int32} {φ ψ : qa_P → Nat} {al : List qa_P} {h : qa_H} {pc len : Nat} {ls : Array Slot} {st : List qa_V}
/-- two maps that agree on what is ahead of nx -/
def qa_ag2 (nx : qa_P) (φ ψ : qa_P → Nat) : Prop := ∀ q, qa_lt q nx → ψ q = φ q
theorem qa_ag2_refl (nx : qa_P) (φ : qa_P → Nat) : qa_ag2 nx φ φ := fun _ _ => rfl
theorem qa_cv_ag {nx : qa_P} (h : qa_ag2 nx φ ψ) {v : qa_V} (hv : qa_ov nx v) : qa_cv ψ v = qa_cv φ v := by
  cases v with
  | inl y => show Value.ref _ = Value.ref _; rw [h y hv]
  | inr w => rfl
theorem qa_st_ag {nx : qa_P} (h : qa_ag2 nx φ ψ) {st : List qa_V} (hv : qa_oS nx st) : st.map (qa_cv ψ) = st.map (qa_cv φ) := List.map_congr_left fun v hm => qa_cv_ag h (hv v hm)
theorem qa_lm_ag {nx : qa_P} (h : qa_ag2 nx φ ψ) {lv : qa_L} (hv : qa_oL nx lv) : qa_lm ψ lv = qa_lm φ lv := List.map_congr_left fun q hm => by show (q.1, qa_cv ψ q.2) = (q.1, qa_cv φ q.2); rw [qa_cv_ag h (hv q hm)]
theorem qa_e_ag {nx : qa_P} (h : qa_ag2 nx φ ψ) {v : qa_C} (hv : qa_oC nx v) : qa_e ψ ca v = qa_e φ ca v := by
  obtain ⟨ci, f⟩ | ⟨τ, n, f | f | f⟩ := v
  · show (.inr (ci, qa_fs ψ ci f) : va_E) = .inr (ci, qa_fs φ ci f)
    unfold qa_fs
    rw [List.map_congr_left fun k _ => qa_cv_ag h (hv k)]
  · rfl
  · rfl
  · show (.inl (ca τ, n, .inr (.inr (.inr (.inr (fun i => (f i).map ψ))))) : va_E) = .inl (ca τ, n, .inr (.inr (.inr (.inr (fun i => (f i).map φ)))))
    rw [show (fun i => (f i).map ψ) = (fun i => (f i).map φ) from funext fun i => by
      cases hi : f i with
      | none => rfl
      | some y => show some (ψ y) = some (φ y); rw [h y (hv i y hi)]]
theorem qa_lt_trans {a d k : qa_P} (h1 : qa_lt a d) (h2 : qa_lt d k) : qa_lt a k := by
  unfold qa_lt at *
  omega
theorem qa_lt_nxt {a d : qa_P} (h1 : qa_lt a d) : qa_lt a (qa_nxt d) := by
  unfold qa_lt qa_nxt at *
  dsimp only
  omega
theorem qa_lt_self (d : qa_P) : qa_lt d (qa_nxt d) := by
  unfold qa_lt qa_nxt
  dsimp only
  omega
/-- a position from which on nothing stands, and what stands is ahead of it -/
def qa_fresh (nx y : qa_P) : Prop := ¬ qa_lt y nx ∧ ∀ q, qa_lt q nx → qa_lt q y
theorem qa_fresh_self (nx : qa_P) : qa_fresh nx nx := ⟨by unfold qa_lt; omega, fun _ h => h⟩
theorem qa_fresh_at (nx : qa_P) (v : qa_C) : qa_fresh nx (qa_at nx v) := by
  unfold qa_at
  split
  · refine ⟨?_, fun q hq => ?_⟩
    · unfold qa_lt; dsimp only; omega
    · unfold qa_lt at *; dsimp only; omega
  · exact qa_fresh_self nx
theorem qa_ov_mono {nx ny : qa_P} (h : ∀ q, qa_lt q nx → qa_lt q ny) {v : qa_V} (hv : qa_ov nx v) : qa_ov ny v := by
  cases v with
  | inl y => exact h y hv
  | inr w => trivial
theorem qa_oS_mono {nx ny : qa_P} (h : ∀ q, qa_lt q nx → qa_lt q ny) {st : List qa_V} (hv : qa_oS nx st) : qa_oS ny st := fun v hm => qa_ov_mono h (hv v hm)
theorem qa_oL_mono {nx ny : qa_P} (h : ∀ q, qa_lt q nx → qa_lt q ny) {lv : qa_L} (hv : qa_oL nx lv) : qa_oL ny lv := fun v hm => qa_ov_mono h (hv v hm)
theorem qa_oC_mono {nx ny : qa_P} (h : ∀ q, qa_lt q nx → qa_lt q ny) {v : qa_C} (hv : qa_oC nx v) : qa_oC ny v := by
  obtain ⟨ci, f⟩ | ⟨τ, n, f | f | f⟩ := v
  · exact fun k => qa_ov_mono h (hv k)
  · trivial
  · trivial
  · exact fun i y hi => h y (hv i y hi)
theorem qa_w_push {nx y : qa_P} {a : Nat} {v : qa_C} {hh : qa_P → qa_C} (hf : qa_fresh nx y) (hal : ∀ x ∈ al, qa_lt x nx) (hoc : ∀ x ∈ al, qa_oC nx (hh x)) :
    qa_w (fun q => if q = y then a else φ q) ca (al ++ [y]) (qa_up hh y v) = qa_w φ ca al hh ++ [(a, qa_e (fun q => if q = y then a else φ q) ca v)] := by
  have hag : qa_ag2 nx φ (fun q => if q = y then a else φ q) := fun q hq => if_neg (fun t => hf.1 (by rw [← t]; exact hq))
  unfold qa_w
  rw [List.map_append]
  congr 1
  · refine List.map_congr_left fun x hx => ?_
    have hne : x ≠ y := fun t => hf.1 (by rw [← t]; exact hal x hx)
    show (_, _) = (_, _)
    rw [qa_up_ne hne, qa_e_ag hag (hoc x hx), hag x (hal x hx)]
  · show [((if y = y then a else φ y), qa_e _ ca (qa_up hh y v y))] = _
    rw [if_pos rfl, qa_up_self]
theorem qa_Hp_push {y : qa_P} {a : Nat} {v : qa_C} {H1 : Heap} (hI : qa_Hp D ca b L z xs φ al h H) (hf : qa_fresh h.1 y) (h9 : ∀ n r, v ≠ .inr (9, n, r)) (ho : qa_oC (qa_nxt y) v) (hlive : qa_live v = true)
    (hP : va_P D vwCl (qa_w φ ca al h.2 ++ [(a, qa_e (fun q => if q = y then a else φ q) ca v)]) H1) (hD : va_D (qa_A z) (qa_w φ ca al h.2 ++ [(a, qa_e (fun q => if q = y then a else φ q) ca v)])) :
    qa_Hp D ca b L z xs (fun q => if q = y then a else φ q) (al ++ [y]) (qa_nxt y, qa_up h.2 y v) H1 := by
  rw [← qa_w_push hf hI.2.2.2.1 hI.2.2.2.2.2] at hP hD
  have hm : ∀ q, qa_lt q h.1 → qa_lt q (qa_nxt y) := fun q hq => qa_lt_nxt (hf.2 q hq)
  refine ⟨hP, hD, fun x hx => ?_, fun x hx => ?_, fun x n r hx => ?_, fun x hx => ?_⟩
  · by_cases e1 : x = y
    · rw [e1]; exact List.mem_append_right _ List.mem_cons_self
    · exact List.mem_append_left _ (hI.2.2.1 x (by rw [← qa_up_ne (h := h.2) (v := v) e1]; exact hx))
  · rcases List.mem_append.mp hx with h1 | h1
    · exact hm x (hI.2.2.2.1 x h1)
    · rw [List.mem_singleton.mp h1]; exact qa_lt_self y
  · by_cases e1 : x = y
    · rw [e1] at hx
      exact absurd ((qa_up_self h.2 y v).symm.trans hx) (h9 n r)
    · have h2 : h.2 x = .inr (9, n, r) := by rw [← qa_up_ne (h := h.2) (v := v) e1]; exact hx
      refine ⟨(hI.2.2.2.2.1 x n r h2).1, (hI.2.2.2.2.1 x n r h2).2.1, ?_⟩
      show (if x = y then a else φ x) = b
      rw [if_neg e1]
      exact (hI.2.2.2.2.1 x n r h2).2.2
  · show qa_oC (qa_nxt y) (qa_up h.2 y v x)
    by_cases e1 : x = y
    · rw [e1, qa_up_self]; exact ho
    · rw [qa_up_ne e1]
      rcases List.mem_append.mp hx with h1 | h1
      · exact qa_oC_mono hm (hI.2.2.2.2.2 x h1)
      · exact absurd (List.mem_singleton.mp h1) e1
theorem qa_nw_at {k i ci pl : Nat} (hk : k < 12) (h : qa_lk (qa_nw k) i = some (ci, pl)) : ∃ q, vwCl[ci]? = some q ∧ Cond.classLink (qa_cn k) i q.1 ∈ qa_gw := by
  have h1 := List.all_eq_true.mp (qa_nw_k k hk) _ (qa_lk_mem h)
  unfold qa_nk at h1
  dsimp only at h1
  split at h1
  · next q e => exact ⟨q, e, qa_gw_at h1⟩
  · cases h1
theorem qa_mk_new {i : Nat} {w : Nat × List qa_V × qa_C × Nat} (e : qa_mkc M (.new i) len pc st = some w) : ∃ ci pl, qa_lk (qa_nw (qa_cl M)) i = some (ci, pl) ∧ len = 3 ∧ w = (pc + 3, st, .inl (ci, fun j => .inr (defaultValue (qa_ft ci j))), qa_fz ci) := by
  unfold qa_mkc at e
  dsimp only at e
  split at e
  · next h1 =>
    split at e
    · next h3 => exact ⟨_, _, h1, h3, (Option.some.inj e).symm⟩
    · cases e
  · cases e
theorem qa_mk_arr {t : ArrayType} {w : Nat × List qa_V × qa_C × Nat} (e : qa_mkc M (.newarray t) len pc st = some w) : ∃ n r, st = .inr (.int n) :: r ∧ len = 2 ∧ ¬ n < 0 ∧ n.toNatClampNeg ≤ 60000000 ∧ ((t = .int ∧ w = (pc + 2, r, .inr (0, n.toNatClampNeg, .inl (fun _ => 0)), n.toNatClampNeg)) ∨ (t = .boolean ∧ w = (pc + 2, r, .inr (1, n.toNatClampNeg, .inl (fun _ => 0)), n.toNatClampNeg))) := by
  unfold qa_mkc at e
  dsimp only at e
  split at e
  · split at e
    · next h3 =>
      obtain ⟨h3, h4, h5⟩ := h3
      split at e
      · exact ⟨_, _, rfl, h3, h4, h5, Or.inl ⟨rfl, (Option.some.inj e).symm⟩⟩
      · exact ⟨_, _, rfl, h3, h4, h5, Or.inr ⟨rfl, (Option.some.inj e).symm⟩⟩
      · cases e
    · cases e
  · cases e
theorem qa_mk_arq {i : Nat} {w : Nat × List qa_V × qa_C × Nat} (e : qa_mkc M (.anewarray i) len pc st = some w) : ∃ n r, st = .inr (.int n) :: r ∧ len = 3 ∧ ¬ n < 0 ∧ n.toNatClampNeg ≤ 60000000 ∧ Cond.classLink (qa_cn (qa_cl M)) i RX1 ∈ qa_gw ∧ w = (pc + 3, r, .inr (3, n.toNatClampNeg, .inr (.inr (fun _ => none))), n.toNatClampNeg) := by
  unfold qa_mkc at e
  dsimp only at e
  split at e
  · split at e
    · next h3 =>
      obtain ⟨h3, h4, h5, h6⟩ := h3
      obtain ⟨q, hq, h7⟩ := List.any_eq_true.mp h6
      simp only [Bool.and_eq_true, beq_iff_eq] at h7
      have h8 := List.all_eq_true.mp qa_an_k q hq
      rw [h7.1, h7.2] at h8
      exact ⟨_, _, rfl, h3, h4, h5, qa_gw_at h8, (Option.some.inj e).symm⟩
    · cases e
  · cases e
theorem qa_ca_eq {cA : ClassId} {τ : Nat} {ty : FieldType} (hK : va_K D vwCl (qa_tys ca) s) (ht : (qa_tys ca)[τ]? = some (ca τ, ty)) (h4 : va_K D vwCl (qa_tys ca ++ [(cA, ty)]) s) : cA = ca τ := by
  have h1 := (hK.2 τ _ ht).2
  have h2 := (h4.2 4 (cA, ty) rfl).2
  cases ty with
  | object n =>
    obtain ⟨_, _, -, -, -, e1⟩ := h1
    obtain ⟨_, _, -, -, -, e2⟩ := h2
    exact Option.some.inj (e2.symm.trans e1)
  | _ => exact Option.some.inj (h2.symm.trans h1)
set_option maxHeartbeats 1000000 in
theorem qa_mkW (hF : qa_Fr M p R s m args c) (hE : qa_En D ca b L z xs s) (hI : qa_Hp D ca b L z xs φ al h H) (hS : va_S (qa_A z) s.heap H locs) (hoS : qa_oS h.1 st)
    {ins : Instr} (hd : decode (qa_by M) pc = .ok (ins, len)) {w : Nat × List qa_V × qa_C × Nat} (hw : qa_mkc M ins len pc st = some w) (hcells : cells + 1 ≤ R.cells) (hslots : slots + w.2.2.2 ≤ R.slots)
    (kk : ∀ (ψ : qa_P → Nat) (al1 : List qa_P) (H1 : Heap), qa_ag2 h.1 φ ψ → qa_Hp D ca b L z xs ψ al1 (qa_nxt (qa_at h.1 w.2.2.1), qa_up h.2 (qa_at h.1 w.2.2.1) w.2.2.1) H1 → va_S (qa_A z) s.heap H1 locs → qa_oS h.1 w.2.1 → W p l e R s m args below meth c H1 locs (cells + 1) (slots + w.2.2.2) Q (F0 m w.1 ls ((.inl (qa_at h.1 w.2.2.1) :: w.2.1).map (qa_cv ψ)))) :
    W p l e R s m args below meth c H locs cells slots Q (F0 m pc ls (st.map (qa_cv φ))) := by
  obtain ⟨hx, hb, hml, hown, hts, hk, hfr, hlo⟩ := hF
  have hA : ∀ q, s.heap.size ≤ q → qa_A z q := fun q hq => Nat.le_trans hE.2.2.2.2.2.2.2.2 hq
  have fin : ∀ (y : qa_P) (a : Nat) (r : List qa_V), qa_fresh h.1 y → qa_oS h.1 r → ((.inl y :: r : List qa_V)).map (qa_cv (fun q => if q = y then a else φ q)) = .ref a :: r.map (qa_cv φ) := fun y a r hf hr => by
    have hag : qa_ag2 h.1 φ (fun q => if q = y then a else φ q) := fun q hq => if_neg (fun t => hf.1 (by rw [← t]; exact hq))
    rw [List.map_cons, qa_st_ag hag hr]
    show Value.ref (if y = y then a else φ y) :: _ = _
    rw [if_pos rfl]
  have agr : ∀ (y : qa_P) (a : Nat), qa_fresh h.1 y → qa_ag2 h.1 φ (fun q => if q = y then a else φ q) := fun y a hf q hq => if_neg (fun t => hf.1 (by rw [← t]; exact hq))
  cases ins with
  | new i =>
    obtain ⟨ci, pl, h2, rfl, rfl⟩ := qa_mk_new hw
    obtain ⟨q, hq, hlk⟩ := qa_nw_at hk h2
    have hfz := qa_fz_eq hq
    have hf := qa_fresh_at h.1 (.inl (ci, fun j => .inr (defaultValue (qa_ft ci j))))
    refine va_new (fs := qa_fs φ ci (fun j => .inr (defaultValue (qa_ft ci j)))) hx hb hts (qa_cws hq).2.2 (qa_ft ci) (qa_ft_ok hq).1 hown (hts _ hlk) (hts _ (qa_cws hq).2.1) (hts _ (qa_cws hq).1) hE.1 hI.1 hI.2.1 hS hA hq (fun j hj => ?_) hcells (by rw [← hfz]; exact hslots) hd (fun a H1 hP1 hD1 hS1 => ?_)
    · unfold vp_V
      rw [List.getD_eq_getElem?_getD, qa_fs_at hq hj]
      rfl
    · have K := kk _ _ H1 (agr _ a hf) (qa_Hp_push (a := a) (v := .inl (ci, fun j => .inr (defaultValue (qa_ft ci j)))) hI hf (fun n r t => by cases t) (fun _ => trivial) (decide_eq_true (qa_ft_ok hq).2.2.1) hP1 hD1) hS1 hoS
      rw [fin _ a _ hf hoS] at K
      rw [← hfz]
      exact K
  | newarray t =>
    obtain ⟨n, r, rfl, rfl, hn, hn2, hc⟩ := qa_mk_arr hw
    have hwa := List.all_eq_true.mp qa_ar_w
    rcases hc with ⟨rfl, rfl⟩ | ⟨rfl, rfl⟩
    · have hf := qa_fresh_at h.1 (.inr (0, n.toNatClampNeg, .inl (fun _ => 0)))
      refine va_newa (atype := .int) (ty := .int) (a0 := (n.toNatClampNeg, .inl (fun _ => 0))) hx hb (hts _ (qa_gw_in (hwa _ List.mem_cons_self))) rfl hE.1 hI.1 hI.2.1 hS hA (fun cA => rfl) hn rfl (show n.toNatClampNeg * 4 ≤ 536870912 by omega) hcells hslots hd (fun a cA H1 hK1 hP1 hD1 hS1 => ?_)
      cases qa_ca_eq hE.1 (qa_tys_0 ca) hK1
      have K := kk _ _ H1 (agr _ a hf) (qa_Hp_push (a := a) (v := .inr (0, n.toNatClampNeg, .inl (fun _ => 0))) hI hf (fun n r t => by cases t) trivial rfl hP1 hD1) hS1 (qa_oS_tl hoS)
      rw [fin _ a _ hf (qa_oS_tl hoS)] at K
      exact K
    · have hf := qa_fresh_at h.1 (.inr (1, n.toNatClampNeg, .inl (fun _ => 0)))
      refine va_newa (atype := .boolean) (ty := .boolean) (a0 := (n.toNatClampNeg, .inl (fun _ => 0))) hx hb (hts _ (qa_gw_in (hwa _ (List.mem_cons_of_mem _ List.mem_cons_self)))) rfl hE.1 hI.1 hI.2.1 hS hA (fun cA => rfl) hn rfl (show n.toNatClampNeg * 1 ≤ 536870912 by omega) hcells hslots hd (fun a cA H1 hK1 hP1 hD1 hS1 => ?_)
      cases qa_ca_eq hE.1 (qa_tys_1 ca) hK1
      have K := kk _ _ H1 (agr _ a hf) (qa_Hp_push (a := a) (v := .inr (1, n.toNatClampNeg, .inl (fun _ => 0))) hI hf (fun n r t => by cases t) trivial rfl hP1 hD1) hS1 (qa_oS_tl hoS)
      rw [fin _ a _ hf (qa_oS_tl hoS)] at K
      exact K
  | anewarray i =>
    obtain ⟨n, r, rfl, rfl, hn, hn2, hlk, rfl⟩ := qa_mk_arq hw
    have hf := qa_fresh_at h.1 (.inr (3, n.toNatClampNeg, .inr (.inr (fun _ => none))))
    refine va_newq hx hb hown (hts _ hlk) hE.2.2.1 hE.1 hI.1 hI.2.1 hS hA hn rfl (show n.toNatClampNeg * 4 ≤ 536870912 by omega) hcells hslots hd (fun a cA H1 hK1 hP1 hD1 hS1 => ?_)
    cases qa_ca_eq hE.1 (qa_tys_3 ca) hK1
    have K := kk _ _ H1 (agr _ a hf) (qa_Hp_push (a := a) (v := .inr (3, n.toNatClampNeg, .inr (.inr (fun _ => none)))) hI hf (fun n r t => by cases t) (fun i y hy => by cases hy) rfl hP1 hD1) hS1 (qa_oS_tl hoS)
    rw [fin _ a _ hf (qa_oS_tl hoS)] at K
    exact K
  | _ => cases hw
end QMK
