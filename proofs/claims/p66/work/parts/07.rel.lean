/-! the small machine's heap against the machine's -/
theorem qa_S_inv {len n pc : Nat} {lv : qa_L} {o : Option (List qa_V)} {F : qa_F} (h : qa_S len n pc lv o = some F) : len = n ∧ ∃ st, o = some st ∧ F = (pc + n, lv, st) := by
  unfold qa_S at h
  split at h
  · next e =>
    cases o with
    | none => cases h
    | some st => exact ⟨e, st, rfl, (Option.some.inj h).symm⟩
  · cases h
theorem qa_ii_inv {f : Int32 → Int32 → Option Value} {st st' : List qa_V} (h : qa_ii f st = some st') : ∃ x y r v, st = .inr (.int y) :: .inr (.int x) :: r ∧ f x y = some v ∧ st' = .inr v :: r := by
  unfold qa_ii at h
  split at h
  · next y x r =>
    cases hf : f x y with
    | none => rw [hf] at h; cases h
    | some v => rw [hf] at h; exact ⟨x, y, r, v, rfl, hf, (Option.some.inj h).symm⟩
  · cases h
theorem qa_jj_inv {f : Int64 → Int64 → Option Value} {st st' : List qa_V} (h : qa_jj f st = some st') : ∃ x y r v, st = .inr (.long y) :: .inr (.long x) :: r ∧ f x y = some v ∧ st' = .inr v :: r := by
  unfold qa_jj at h
  split at h
  · next y x r =>
    cases hf : f x y with
    | none => rw [hf] at h; cases h
    | some v => rw [hf] at h; exact ⟨x, y, r, v, rfl, hf, (Option.some.inj h).symm⟩
  · cases h
theorem qa_dd_inv {f : UInt64 → UInt64 → Option Value} {st st' : List qa_V} (h : qa_dd f st = some st') : ∃ x y r v, st = .inr (.double y) :: .inr (.double x) :: r ∧ f x y = some v ∧ st' = .inr v :: r := by
  unfold qa_dd at h
  split at h
  · next y x r =>
    cases hf : f x y with
    | none => rw [hf] at h; cases h
    | some v => rw [hf] at h; exact ⟨x, y, r, v, rfl, hf, (Option.some.inj h).symm⟩
  · cases h
theorem qa_ui_inv {f : Int32 → Value} {st st' : List qa_V} (h : qa_ui f st = some st') : ∃ x r, st = .inr (.int x) :: r ∧ st' = .inr (f x) :: r := by
  unfold qa_ui at h
  split at h
  · exact ⟨_, _, rfl, (Option.some.inj h).symm⟩
  · cases h
theorem qa_uj_inv {f : Int64 → Value} {st st' : List qa_V} (h : qa_uj f st = some st') : ∃ x r, st = .inr (.long x) :: r ∧ st' = .inr (f x) :: r := by
  unfold qa_uj at h
  split at h
  · exact ⟨_, _, rfl, (Option.some.inj h).symm⟩
  · cases h
theorem qa_ud_inv {f : UInt64 → Value} {st st' : List qa_V} (h : qa_ud f st = some st') : ∃ x r, st = .inr (.double x) :: r ∧ st' = .inr (f x) :: r := by
  unfold qa_ud at h
  split at h
  · exact ⟨_, _, rfl, (Option.some.inj h).symm⟩
  · cases h
theorem qa_ji_inv {f : Int64 → Int32 → Value} {st st' : List qa_V} (h : qa_ji f st = some st') : ∃ x y r, st = .inr (.int y) :: .inr (.long x) :: r ∧ st' = .inr (f x y) :: r := by
  unfold qa_ji at h
  split at h
  · exact ⟨_, _, _, rfl, (Option.some.inj h).symm⟩
  · cases h
theorem qa_li_inv {lv : qa_L} {i : Nat} {st st' : List qa_V} (h : qa_li lv i st = some st') : ∃ x, qa_lk lv i = some (.inr (.int x)) ∧ st' = .inr (.int x) :: st := by
  unfold qa_li at h
  split at h
  · next x e => exact ⟨_, e, (Option.some.inj h).symm⟩
  · cases h
theorem qa_ll_inv {lv : qa_L} {i : Nat} {st st' : List qa_V} (h : qa_ll lv i st = some st') : ∃ x, qa_lk lv i = some (.inr (.long x)) ∧ st' = .inr (.long x) :: st := by
  unfold qa_ll at h
  split at h
  · next x e => exact ⟨_, e, (Option.some.inj h).symm⟩
  · cases h
theorem qa_ld_inv {lv : qa_L} {i : Nat} {st st' : List qa_V} (h : qa_ld lv i st = some st') : ∃ x, qa_lk lv i = some (.inr (.double x)) ∧ st' = .inr (.double x) :: st := by
  unfold qa_ld at h
  split at h
  · next x e => exact ⟨_, e, (Option.some.inj h).symm⟩
  · cases h
theorem qa_la_inv {lv : qa_L} {i : Nat} {st st' : List qa_V} (h : qa_la lv i st = some st') : ∃ x, qa_lk lv i = some (.inl x) ∧ st' = .inl x :: st := by
  unfold qa_la at h
  split at h
  · next x e => exact ⟨_, e, (Option.some.inj h).symm⟩
  · cases h
theorem qa_si_inv {nL len n pc i : Nat} {lv : qa_L} {st : List qa_V} {F : qa_F} (h : qa_si nL len n pc i lv st = some F) : ∃ x r, st = .inr (.int x) :: r ∧ len = n ∧ i < nL ∧ F = (pc + n, qa_s1 i (.inr (.int x)) lv, r) := by
  unfold qa_si at h
  split at h
  · split at h
    · next e => exact ⟨_, _, rfl, e.1, e.2, (Option.some.inj h).symm⟩
    · cases h
  · cases h
theorem qa_sa_inv {nL len n pc i : Nat} {lv : qa_L} {st : List qa_V} {F : qa_F} (h : qa_sa nL len n pc i lv st = some F) : ∃ x r, st = .inl x :: r ∧ len = n ∧ i < nL ∧ F = (pc + n, qa_s1 i (.inl x) lv, r) := by
  unfold qa_sa at h
  split at h
  · split at h
    · next e => exact ⟨_, _, rfl, e.1, e.2, (Option.some.inj h).symm⟩
    · cases h
  · cases h
theorem qa_sl_inv {nL len n pc i : Nat} {lv : qa_L} {st : List qa_V} {F : qa_F} (h : qa_sl nL len n pc i lv st = some F) : ∃ x r, st = .inr (.long x) :: r ∧ len = n ∧ i + 1 < nL ∧ F = (pc + n, qa_s2 i (.inr (.long x)) lv, r) := by
  unfold qa_sl at h
  split at h
  · split at h
    · next e => exact ⟨_, _, rfl, e.1, e.2, (Option.some.inj h).symm⟩
    · cases h
  · cases h
theorem qa_sd_inv {nL len n pc i : Nat} {lv : qa_L} {st : List qa_V} {F : qa_F} (h : qa_sd nL len n pc i lv st = some F) : ∃ x r, st = .inr (.double x) :: r ∧ len = n ∧ i + 1 < nL ∧ F = (pc + n, qa_s2 i (.inr (.double x)) lv, r) := by
  unfold qa_sd at h
  split at h
  · split at h
    · next e => exact ⟨_, _, rfl, e.1, e.2, (Option.some.inj h).symm⟩
    · cases h
  · cases h
theorem qa_to_eq {pc : Nat} {off : Int} (h : 0 ≤ (pc : Int) + off) : (pc : Int) + off = (qa_to pc off : Int) := (Int.toNat_of_nonneg h).symm
theorem qa_b1_inv {len pc : Nat} {off : Int} {lv : qa_L} {st : List qa_V} {t : Int32 → Bool} {F : qa_F} (h : qa_b1 len pc off lv st t = some F) : ∃ x r, st = .inr (.int x) :: r ∧ len = 3 ∧ 0 ≤ (pc : Int) + off ∧ F = (if t x = true then qa_to pc off else pc + 3, lv, r) := by
  unfold qa_b1 at h
  split at h
  · split at h
    · next e => exact ⟨_, _, rfl, e.1, e.2, (Option.some.inj h).symm⟩
    · cases h
  · cases h
theorem qa_b2_inv {len pc : Nat} {off : Int} {lv : qa_L} {st : List qa_V} {t : Int32 → Int32 → Bool} {F : qa_F} (h : qa_b2 len pc off lv st t = some F) : ∃ x y r, st = .inr (.int y) :: .inr (.int x) :: r ∧ len = 3 ∧ 0 ≤ (pc : Int) + off ∧ F = (if t x y = true then qa_to pc off else pc + 3, lv, r) := by
  unfold qa_b2 at h
  split at h
  · split at h
    · next e => exact ⟨_, _, _, rfl, e.1, e.2, (Option.some.inj h).symm⟩
    · cases h
  · cases h
theorem qa_gf_inv {k idx : Nat} {h : qa_P → qa_C} {st st' : List qa_V} (e : qa_gf k idx h st = some st') : ∃ p r ci sl pl f, st = .inl p :: r ∧ qa_lk (qa_fl k) idx = some (ci, sl, pl) ∧ h p = .inl (ci, f) ∧ st' = f sl :: r := by
  unfold qa_gf at e
  split at e
  · split at e
    · next h1 h2 =>
      split at e
      · next h3 => subst h3; exact ⟨_, _, _, _, _, _, rfl, h1, h2, (Option.some.inj e).symm⟩
      · cases e
    · cases e
  · cases e
theorem qa_an_inv {h : qa_P → qa_C} {st st' : List qa_V} (e : qa_an_ h st = some st') : ∃ p r τ n f, st = .inl p :: r ∧ h p = .inr (τ, n, f) ∧ (τ < 4 ∨ τ = 9) ∧ st' = .inr (.int (Int32.ofNat n)) :: r := by
  unfold qa_an_ at e
  split at e
  · split at e
    · next h1 =>
      split at e
      · next h3 => exact ⟨_, _, _, _, _, rfl, h1, h3, (Option.some.inj e).symm⟩
      · cases e
    · cases e
  · cases e
theorem qa_in_ok {i : Int32} {n : Nat} (h : qa_in i n = true) : vp_in i n := by
  unfold qa_in at h
  simpa [vp_in] using h
theorem qa_ia_inv {h : qa_P → qa_C} {st st' : List qa_V} (e : qa_ia h st = some st') : ∃ p r τ n f i, st = .inr (.int i) :: .inl p :: r ∧ h p = .inr (τ, n, .inl f) ∧ (τ = 0 ∨ τ = 9) ∧ vp_in i n ∧ st' = .inr (.int (f i.toNatClampNeg)) :: r := by
  unfold qa_ia at e
  split at e
  · split at e
    · next h1 =>
      split at e
      · next h3 => exact ⟨_, _, _, _, _, _, rfl, h1, h3.1, qa_in_ok h3.2, (Option.some.inj e).symm⟩
      · cases e
    · cases e
  · cases e
theorem qa_ba_inv {h : qa_P → qa_C} {st st' : List qa_V} (e : qa_ba h st = some st') : ∃ p r n f i, st = .inr (.int i) :: .inl p :: r ∧ h p = .inr (1, n, .inl f) ∧ vp_in i n ∧ st' = .inr (.int (f i.toNatClampNeg)) :: r := by
  unfold qa_ba at e
  split at e
  · split at e
    · next h1 =>
      split at e
      · next h3 => obtain ⟨rfl, h4⟩ := h3; exact ⟨_, _, _, _, _, rfl, h1, qa_in_ok h4, (Option.some.inj e).symm⟩
      · cases e
    · cases e
  · cases e
theorem qa_ja_inv {h : qa_P → qa_C} {st st' : List qa_V} (e : qa_ja h st = some st') : ∃ p r n f i, st = .inr (.int i) :: .inl p :: r ∧ h p = .inr (2, n, .inr (.inl f)) ∧ vp_in i n ∧ st' = .inr (.long (f i.toNatClampNeg)) :: r := by
  unfold qa_ja at e
  split at e
  · split at e
    · next h1 =>
      split at e
      · next h3 => obtain ⟨rfl, h4⟩ := h3; exact ⟨_, _, _, _, _, rfl, h1, qa_in_ok h4, (Option.some.inj e).symm⟩
      · cases e
    · cases e
  · cases e
theorem qa_aa_inv {h : qa_P → qa_C} {st st' : List qa_V} (e : qa_aa h st = some st') : ∃ p r n f i, st = .inr (.int i) :: .inl p :: r ∧ h p = .inr (3, n, .inr (.inr f)) ∧ vp_in i n ∧ st' = qa_rv (f i.toNatClampNeg) :: r := by
  unfold qa_aa at e
  split at e
  · split at e
    · next h1 =>
      split at e
      · next h3 => obtain ⟨rfl, h4⟩ := h3; exact ⟨_, _, _, _, _, rfl, h1, qa_in_ok h4, (Option.some.inj e).symm⟩
      · cases e
    · cases e
  · cases e
theorem qa_cv_cat (φ : qa_P → Nat) (v : qa_V) : (qa_cv φ v).category = qa_cat v := by cases v <;> rfl
theorem qa_cats (φ : qa_P → Nat) (st : List qa_V) : ((st.map (qa_cv φ)).map fun v => v.category).sum = (st.map qa_cat).sum := by
  rw [List.map_map]
  congr 1
  exact List.map_congr_left fun v _ => qa_cv_cat φ v
theorem qa_s1_map (φ : qa_P → Nat) (i : Nat) (v : qa_V) (lv : qa_L) : (i, qa_cv φ v) :: (qa_lm φ lv).filter (fun q => !(q.1 == i) && !(q.1 + 1 == i && q.2.category == 2)) = qa_lm φ (qa_s1 i v lv) := by
  unfold qa_lm qa_s1
  rw [List.map_cons, List.filter_map]
  congr 3
  funext q
  show (!(q.1 == i) && !(q.1 + 1 == i && (qa_cv φ q.2).category == 2)) = _
  rw [qa_cv_cat]
theorem qa_s2_map (φ : qa_P → Nat) (i : Nat) (v : qa_V) (lv : qa_L) : (i, qa_cv φ v) :: (qa_lm φ lv).filter (fun q => !(q.1 == i) && (!(q.1 == i + 1) && !(q.1 + 1 == i && q.2.category == 2))) = qa_lm φ (qa_s2 i v lv) := by
  unfold qa_lm qa_s2
  rw [List.map_cons, List.filter_map]
  congr 3
  funext q
  show (!(q.1 == i) && (!(q.1 == i + 1) && !(q.1 + 1 == i && (qa_cv φ q.2).category == 2))) = _
  rw [qa_cv_cat]
theorem qa_has {φ : qa_P → Nat} {lv : qa_L} {i nL : Nat} {v : qa_V} {ls : Array Slot} (h : lv_has ls nL (qa_lm φ lv)) (e : qa_lk lv i = some v) : ls[i]? = some (.val (qa_cv φ v)) :=
  h.2.2 (i, qa_cv φ v) (List.mem_map.mpr ⟨(i, v), qa_lk_mem e, rfl⟩)
/-- positions that are ahead of the next free one -/
def qa_lt (p q : qa_P) : Prop := p.1 < q.1 ∨ (p.1 = q.1 ∧ p.2 < q.2)
def qa_ov (nx : qa_P) (v : qa_V) : Prop := match v with
  | .inl p => qa_lt p nx
  | .inr _ => True
def qa_oS (nx : qa_P) (st : List qa_V) : Prop := ∀ v ∈ st, qa_ov nx v
def qa_oL (nx : qa_P) (lv : qa_L) : Prop := ∀ q ∈ lv, qa_ov nx q.2
def qa_oC (nx : qa_P) (c : qa_C) : Prop := match c with
  | .inl (_, f) => ∀ k, qa_ov nx (f k)
  | .inr (_, _, .inr (.inr f)) => ∀ i p, f i = some p → qa_lt p nx
  | .inr (_, _, .inl _) => True
  | .inr (_, _, .inr (.inl _)) => True
theorem qa_oS_cons {nx : qa_P} {v : qa_V} {st : List qa_V} (h1 : qa_ov nx v) (h2 : qa_oS nx st) : qa_oS nx (v :: st) := List.forall_mem_cons.mpr ⟨h1, h2⟩
theorem qa_oS_tl {nx : qa_P} {v : qa_V} {st : List qa_V} (h : qa_oS nx (v :: st)) : qa_oS nx st := (List.forall_mem_cons.mp h).2
theorem qa_oS_hd {nx : qa_P} {v : qa_V} {st : List qa_V} (h : qa_oS nx (v :: st)) : qa_ov nx v := (List.forall_mem_cons.mp h).1
theorem qa_oL_s1 {nx : qa_P} {i : Nat} {v : qa_V} {lv : qa_L} (h1 : qa_ov nx v) (h2 : qa_oL nx lv) : qa_oL nx (qa_s1 i v lv) := List.forall_mem_cons.mpr ⟨h1, fun q hq => h2 q (List.mem_filter.mp hq).1⟩
theorem qa_oL_s2 {nx : qa_P} {i : Nat} {v : qa_V} {lv : qa_L} (h1 : qa_ov nx v) (h2 : qa_oL nx lv) : qa_oL nx (qa_s2 i v lv) := List.forall_mem_cons.mpr ⟨h1, fun q hq => h2 q (List.mem_filter.mp hq).1⟩
theorem qa_oL_lk {nx : qa_P} {i : Nat} {v : qa_V} {lv : qa_L} (h : qa_oL nx lv) (e : qa_lk lv i = some v) : qa_ov nx v := h (i, v) (qa_lk_mem e)
def qa_live (c : qa_C) : Bool := match c with
  | .inl (ci, _) => decide (ci < 11)
  | .inr (τ, _, _) => decide (τ < 4)
def qa_ty (τ : Nat) : FieldType := match τ with
  | 0 => .int
  | 1 => .boolean
  | 2 => .int
  | _ => .object RX1
def qa_tys (ca : Nat → ClassId) : List (ClassId × FieldType) := [(ca 0, .int), (ca 1, .boolean), (ca 2, .int), (ca 3, .object RX1)]
def qa_r (φ : qa_P → Nat) (r : qa_R) : (Nat → Int32) ⊕ (Nat → Int64) ⊕ (Nat → UInt32) ⊕ (Nat → UInt64) ⊕ (Nat → Option Nat) := match r with
  | .inl f => .inl f
  | .inr (.inl f) => .inr (.inl f)
  | .inr (.inr f) => .inr (.inr (.inr (.inr (fun i => (f i).map φ))))
def qa_fs (φ : qa_P → Nat) (ci : Nat) (f : Nat → qa_V) : List Value := (List.range (qa_fz ci)).map (fun k => qa_cv φ (f k))
def qa_e (φ : qa_P → Nat) (ca : Nat → ClassId) (c : qa_C) : va_E := match c with
  | .inl (ci, f) => .inr (ci, qa_fs φ ci f)
  | .inr (τ, n, r) => .inl (ca τ, n, qa_r φ r)
def qa_w (φ : qa_P → Nat) (ca : Nat → ClassId) (al : List qa_P) (h : qa_P → qa_C) : va_W := al.map (fun p => (φ p, qa_e φ ca (h p)))
def qa_A (z : Nat) : Nat → Prop := fun q => z ≤ q
/-- the machine's heap holds the small machine's cells -/
def qa_Hp (D : va_G) (ca : Nat → ClassId) (b L z : Nat) (xs : Nat → Int32) (φ : qa_P → Nat) (al : List qa_P) (h : qa_H) (H : Heap) : Prop :=
  va_P D vwCl (qa_w φ ca al h.2) H ∧ va_D (qa_A z) (qa_w φ ca al h.2) ∧ (∀ p, qa_live (h.2 p) = true → p ∈ al) ∧ (∀ p ∈ al, qa_lt p h.1) ∧
  (∀ p n r, h.2 p = .inr (9, n, r) → n = L ∧ r = .inl xs ∧ φ p = b) ∧ (∀ p ∈ al, qa_oC h.1 (h.2 p))
def qa_gw : List Cond := lw_tbl.filter goodWord
/-- the other words that are asked for: links to nest mates, casts, declarations -/
def qa_nwo (w : Cond) : Bool := match w with
  | .methodLinkNest .. => true
  | .castable .. => true
  | .declares _ => true
  | _ => false
def qa_nwl : List Cond := lw_tbl.filter qa_nwo
def qa_ncl : List (String × String) := [(qa_xn 342, qa_xn 348), (qa_xn 345, qa_xn 348)]
/-- what the tables and the cells that nobody writes say, at a method's start -/
def qa_En (D : va_G) (ca : Nat → ClassId) (b L z : Nat) (xs : Nat → Int32) (U : State) : Prop :=
  va_K D vwCl (qa_tys ca) U ∧ (∀ w ∈ qa_nwl, va_Nw w U) ∧ va_AO RX1 U ∧ (∀ q ∈ qa_ncl, va_Nc q.1 q.2 U) ∧ va_X b L xs U U.heap ∧
  vx_Zq Bundle.tN "UNASSIGNED_STACK" Bundle.steD (qa_A z) U U.heap ∧ vx_Zq Bundle.tN "SUPPRESSED_SENTINEL" Bundle.listD (qa_A z) U U.heap ∧ b < z ∧ z ≤ U.heap.size
theorem qa_gw_in {w : Cond} (h : qa_in_tbl w = true) : w ∈ qa_gw := by
  unfold qa_in_tbl at h
  simp only [Bool.and_eq_true] at h
  exact List.mem_filter.mpr ⟨of_decide_eq_true h.1, h.2⟩
theorem qa_gw_at {w : Cond} {i : Nat} (h : qa_wk w i = true) : w ∈ qa_gw := by
  unfold qa_wk at h
  simp only [Bool.and_eq_true] at h
  exact List.mem_filter.mpr ⟨List.mem_of_getElem? (of_decide_eq_true h.1), h.2⟩
theorem qa_cw_all {k : Nat} {q : vw_C} (h : vwCl[k]? = some q) : (Cond.initialized q.1 :: Cond.instantiable q.1 q.2.2 :: u_ws q.1 q.2.1 q.2.2).all qa_in_tbl = true := by
  match k, h with
  | 0, h => cases h; exact qa_cw_0
  | 1, h => cases h; exact qa_cw_1
  | 2, h => cases h; exact qa_cw_2
  | 3, h => cases h; exact qa_cw_3
  | 4, h => cases h; exact qa_cw_4
  | 5, h => cases h; exact qa_cw_5
  | 6, h => cases h; exact qa_cw_6
  | 7, h => cases h; exact qa_cw_7
  | 8, h => cases h; exact qa_cw_8
  | 9, h => cases h; exact qa_cw_9
  | k + 10, h => cases h
theorem qa_cws {k : Nat} {q : vw_C} (h : vwCl[k]? = some q) : Cond.initialized q.1 ∈ qa_gw ∧ Cond.instantiable q.1 q.2.2 ∈ qa_gw ∧ ∀ w ∈ u_ws q.1 q.2.1 q.2.2, w ∈ qa_gw := by
  have h1 := List.all_eq_true.mp (qa_cw_all h)
  exact ⟨qa_gw_in (h1 _ List.mem_cons_self), qa_gw_in (h1 _ (List.mem_cons_of_mem _ List.mem_cons_self)), fun w hw => qa_gw_in (h1 w (List.mem_cons_of_mem _ (List.mem_cons_of_mem _ hw)))⟩
theorem qa_ft_ok {k : Nat} {q : vw_C} (h : vwCl[k]? = some q) : (∀ j, j < q.2.2 → parseFieldDescriptor (q.2.1 j).2.2.1 = some (qa_ft k j)) ∧ (∀ a, a < q.2.2 → ∀ b, b < q.2.2 → a ≠ b → (q.2.1 a).2.1 ≠ (q.2.1 b).2.1) ∧ k < 11 ∧ q.1 = qa_cn k := by
  match k, h with
  | 0, h => cases h; exact ⟨tyX0_ok, nmX0, by decide, rfl⟩
  | 1, h => cases h; exact ⟨tyX1_ok, nmX1, by decide, rfl⟩
  | 2, h => cases h; exact ⟨tyX2_ok, nmX2, by decide, rfl⟩
  | 3, h => cases h; exact ⟨tyX3_ok, nmX3, by decide, rfl⟩
  | 4, h => cases h; exact ⟨tyX4_ok, nmX4, by decide, rfl⟩
  | 5, h => cases h; exact ⟨tyX5_ok, nmX5, by decide, rfl⟩
  | 6, h => cases h; exact ⟨tyX6_ok, nmX6, by decide, rfl⟩
  | 7, h => cases h; exact ⟨tyX7_ok, nmX7, by decide, rfl⟩
  | 8, h => cases h; exact ⟨tyX8_ok, nmX8, by decide, rfl⟩
  | 9, h => cases h; exact ⟨tyX9_ok, nmX9, by decide, rfl⟩
  | k + 10, h => cases h
theorem qa_w_at {φ : qa_P → Nat} {ca : Nat → ClassId} {al : List qa_P} {h : qa_P → qa_C} {p : qa_P} (hp : p ∈ al) : ∃ q0 : Nat, al[q0]? = some p ∧ (qa_w φ ca al h)[q0]? = some (φ p, qa_e φ ca (h p)) := by
  obtain ⟨q0, hq⟩ := List.getElem?_of_mem hp
  exact ⟨q0, hq, by unfold qa_w; rw [List.getElem?_map, hq]; rfl⟩
theorem qa_fz_eq {k : Nat} {q : vw_C} (h : vwCl[k]? = some q) : qa_fz k = q.2.2 := by unfold qa_fz; rw [h]
theorem qa_fs_at {φ : qa_P → Nat} {k sl : Nat} {q : vw_C} {f : Nat → qa_V} (h : vwCl[k]? = some q) (hs : sl < q.2.2) : (qa_fs φ k f)[sl]? = some (qa_cv φ (f sl)) := by
  unfold qa_fs
  rw [qa_fz_eq h, List.getElem?_map, List.getElem?_range hs]
  rfl
theorem qa_fl_at {k i ci sl pl : Nat} (hk : k < 12) (h : qa_lk (qa_fl k) i = some (ci, sl, pl)) : ∃ q, vwCl[ci]? = some q ∧ sl < q.2.2 ∧ Cond.fieldLink (qa_cn k) i (q.2.1 sl).1 (q.2.1 sl).2.1 (q.2.1 sl).2.2.1 ∈ qa_gw := by
  have h1 := List.all_eq_true.mp (qa_fl_k k hk) _ (qa_lk_mem h)
  unfold qa_fk at h1
  dsimp only at h1
  split at h1
  · next q e =>
    simp only [Bool.and_eq_true] at h1
    exact ⟨q, e, of_decide_eq_true h1.1, qa_gw_at h1.2⟩
  · cases h1
