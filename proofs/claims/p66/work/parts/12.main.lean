/-! a run of the small machine is a run of the machine -/
section QMA
theorem qa_xw_342 : (Cond.classLink RX9 342 (qa_xn 342) :: Cond.initialized (qa_xn 342) :: (vx_at0 RX9 344 (qa_xn 342) ["java/lang/RuntimeException", "java/lang/Exception"]).filter goodWord).all qa_in_tbl = true := by decide +kernel
theorem qa_xw_345 : (Cond.classLink RX9 345 (qa_xn 345) :: Cond.initialized (qa_xn 345) :: (vx_at0 RX9 347 (qa_xn 345) ["java/lang/RuntimeException", "java/lang/Exception"]).filter goodWord).all qa_in_tbl = true := by decide +kernel
theorem qa_xw_348 : (Cond.classLink RX9 348 (qa_xn 348) :: Cond.initialized (qa_xn 348) :: (vx_at0 RX9 350 (qa_xn 348) ["java/lang/RuntimeException", "java/lang/Exception"]).filter goodWord).all qa_in_tbl = true := by decide +kernel
def qa_nw_tbl (w : Cond) : Bool := decide (w ∈ lw_tbl) && qa_nwo w
theorem qa_yw_342 : ((vx_at0 RX9 344 (qa_xn 342) ["java/lang/RuntimeException", "java/lang/Exception"]).filter (fun w => !goodWord w)).all qa_nw_tbl = true := by decide +kernel
theorem qa_yw_345 : ((vx_at0 RX9 347 (qa_xn 345) ["java/lang/RuntimeException", "java/lang/Exception"]).filter (fun w => !goodWord w)).all qa_nw_tbl = true := by decide +kernel
theorem qa_yw_348 : ((vx_at0 RX9 350 (qa_xn 348) ["java/lang/RuntimeException", "java/lang/Exception"]).filter (fun w => !goodWord w)).all qa_nw_tbl = true := by decide +kernel
theorem qa_zw_342 : (Cond.classLink RX9 342 (qa_xn 342) :: Cond.initialized (qa_xn 342) :: vx_at0 RX9 344 (qa_xn 342) ["java/lang/RuntimeException", "java/lang/Exception"]).all vx_ot = true := by decide +kernel
theorem qa_zw_345 : (Cond.classLink RX9 345 (qa_xn 345) :: Cond.initialized (qa_xn 345) :: vx_at0 RX9 347 (qa_xn 345) ["java/lang/RuntimeException", "java/lang/Exception"]).all vx_ot = true := by decide +kernel
theorem qa_zw_348 : (Cond.classLink RX9 348 (qa_xn 348) :: Cond.initialized (qa_xn 348) :: vx_at0 RX9 350 (qa_xn 348) ["java/lang/RuntimeException", "java/lang/Exception"]).all vx_ot = true := by decide +kernel
theorem qa_cs_342 : ([Cond.castable (qa_xn 342) (qa_xn 342), .castable (qa_xn 345) (qa_xn 345), .castable (qa_xn 348) (qa_xn 348)] : List Cond).all qa_nw_tbl = true := by decide +kernel
theorem qa_nw_in {w : Cond} (h : qa_nw_tbl w = true) : w ∈ qa_nwl := by
  unfold qa_nw_tbl at h
  simp only [Bool.and_eq_true] at h
  exact List.mem_filter.mpr ⟨of_decide_eq_true h.1, h.2⟩
theorem qa_xs {i ik ic : Nat} {nm : String} (h : qa_lk qa_xl i = some (nm, ik, ic)) : qa_is3 i ∧ nm = qa_xn i ∧ ik = i ∧ Bundle.fit (qa_xn i) = true ∧ (Cond.classLink RX9 i (qa_xn i) :: Cond.initialized (qa_xn i) :: (vx_at0 RX9 ic (qa_xn i) ["java/lang/RuntimeException", "java/lang/Exception"]).filter goodWord).all qa_in_tbl = true ∧
    ((vx_at0 RX9 ic (qa_xn i) ["java/lang/RuntimeException", "java/lang/Exception"]).filter (fun w => !goodWord w)).all qa_nw_tbl = true ∧ (Cond.classLink RX9 i (qa_xn i) :: Cond.initialized (qa_xn i) :: vx_at0 RX9 ic (qa_xn i) ["java/lang/RuntimeException", "java/lang/Exception"]).all vx_ot = true := by
  have h1 := qa_lk_mem h
  simp only [qa_xl, List.mem_cons, List.not_mem_nil, or_false, Prod.mk.injEq] at h1
  rcases h1 with ⟨rfl, rfl, rfl, rfl⟩ | ⟨rfl, rfl, rfl, rfl⟩ | ⟨rfl, rfl, rfl, rfl⟩
  · exact ⟨Or.inl rfl, rfl, rfl, by decide +kernel, qa_xw_342, qa_yw_342, qa_zw_342⟩
  · exact ⟨Or.inr (Or.inl rfl), rfl, rfl, by decide +kernel, qa_xw_345, qa_yw_345, qa_zw_345⟩
  · exact ⟨Or.inr (Or.inr rfl), rfl, rfl, by decide +kernel, qa_xw_348, qa_yw_348, qa_zw_348⟩
theorem qa_cast3 {k : Nat} (h : qa_is3 k) : Cond.castable (qa_xn k) (qa_xn k) ∈ qa_nwl := by
  have h1 := List.all_eq_true.mp qa_cs_342
  rcases h with rfl | rfl | rfl
  · exact qa_nw_in (h1 _ List.mem_cons_self)
  · exact qa_nw_in (h1 _ (List.mem_cons_of_mem _ List.mem_cons_self))
  · exact qa_nw_in (h1 _ (List.mem_cons_of_mem _ (List.mem_cons_of_mem _ List.mem_cons_self)))
theorem qa_ncl3 {k j : Nat} (h : qa_is3 k) (h2 : j = 348) (hne : j ≠ k) : (qa_xn k, qa_xn j) ∈ qa_ncl := by
  subst h2
  rcases h with rfl | rfl | rfl
  · decide +kernel
  · decide +kernel
  · exact absurd rfl hne
theorem qa_ht3 {ct k : Nat} (h : qa_lk qa_ht ct = some k) : k = 348 ∧ ct ≠ 0 ∧ Cond.classLink RL ct (qa_xn k) ∈ qa_gw := by
  obtain ⟨q, hq, e1, e2⟩ := qa_ht_k _ (qa_lk_mem h)
  have h1 := List.all_eq_true.mp qa_hq_k q hq
  dsimp only at e1 e2
  rw [e1, e2] at h1
  refine ⟨?_, ?_, qa_gw_at h1⟩
  · have h2 := qa_lk_mem h
    simp only [qa_ht, List.mem_cons, List.not_mem_nil, or_false, Prod.mk.injEq] at h2
    exact h2.2
  · have h2 := qa_lk_mem h
    simp only [qa_ht, List.mem_cons, List.not_mem_nil, or_false, Prod.mk.injEq] at h2
    omega
/-- the handler that the small machine finds is the one that takes the exception -/
theorem qa_hd_sp : ∀ (hh : List (Nat × Nat × Nat × Nat)) (pc E t : Nat), qa_hd hh pc E = some t → ∃ (pre : List ExceptionTableEntry) (x : ExceptionTableEntry) (suf : List ExceptionTableEntry), tableOf hh = pre ++ x :: suf ∧
    (∀ y ∈ pre, covers y pc = false ∨ ∃ j, qa_lk qa_ht y.catchType = some j ∧ j ≠ E) ∧ covers x pc = true ∧ qa_lk qa_ht x.catchType = some E ∧ x.handlerPc = t
  | [], pc, E, t, h => by cases h
  | (a, d, tg, ct) :: l, pc, E, t, h => by
    unfold qa_hd at h
    split at h
    · next hc =>
      split at h
      · next j hj =>
        split at h
        · next he =>
          cases h
          subst he
          exact ⟨[], ⟨a, d, tg, ct⟩, tableOf l, rfl, fun y hy => absurd hy List.not_mem_nil, by show (decide (a ≤ pc) && decide (pc < d)) = true; rw [decide_eq_true hc.1, decide_eq_true hc.2]; rfl, hj, rfl⟩
        · next he =>
          obtain ⟨pre, x, suf, h1, h2, h3, h4, h5⟩ := qa_hd_sp l pc E t h
          refine ⟨⟨a, d, tg, ct⟩ :: pre, x, suf, by show (⟨a, d, tg, ct⟩ : ExceptionTableEntry) :: tableOf l = _; rw [h1]; rfl, ?_, h3, h4, h5⟩
          exact List.forall_mem_cons.mpr ⟨Or.inr ⟨j, hj, he⟩, h2⟩
      · cases h
    · next hc =>
      obtain ⟨pre, x, suf, h1, h2, h3, h4, h5⟩ := qa_hd_sp l pc E t h
      refine ⟨⟨a, d, tg, ct⟩ :: pre, x, suf, by show (⟨a, d, tg, ct⟩ : ExceptionTableEntry) :: tableOf l = _; rw [h1]; rfl, ?_, h3, h4, h5⟩
      refine List.forall_mem_cons.mpr ⟨Or.inl ?_, h2⟩
      show (decide (a ≤ pc) && decide (pc < d)) = false
      by_cases h6 : a ≤ pc
      · rw [decide_eq_false (fun h7 : pc < d => hc ⟨h6, h7⟩), Bool.and_false]
      · rw [decide_eq_false h6, Bool.false_and]
variable {p : Program} {l : Launch} {e : Env} {R : Room} {s : State} {m : MethodId} {args : Array Value} {below : List Frame} {meth : Method} {c : Code} {H : Heap} {locs : List Loc} {cells slots : Nat} {Q : State → Prop}
variable {M : qa_M} {D : va_G} {ca : Nat → ClassId} {b L z : Nat} {xs : Nat → Int32} {φ ψ : qa_P → Nat} {al : List qa_P} {h : qa_H} {pc len : Nat} {ls : Array Slot} {st : List qa_V}
theorem qa_de_at {ins : Instr} (h : qa_de M = true) (e : qa_lk (qa_is M) pc = some (ins, len)) : decode (qa_by M) pc = .ok (ins, len) := by
  have h1 : (qa_is M).all (fun q => decide (decode (qa_by M) q.1 = .ok (q.2.1, q.2.2))) = true := h
  have h2 := List.all_eq_true.mp h1 _ (qa_lk_mem e)
  dsimp only at h2
  exact of_decide_eq_true h2
theorem qa_re_inv {ret : Option FieldType} {ins : Instr} {v : Option qa_V} (e : qa_re ret ins len st = some v) : len = 1 ∧ st = v.toList := by
  unfold qa_re at e
  split at e
  · split at e
    · split at e
      · split at e
        · next hc => cases e; exact ⟨hc.1, rfl⟩
        · cases e
      · cases e
    · cases e
  · split at e
    · split at e
      · next hc => cases e; exact ⟨hc.1, rfl⟩
      · cases e
    · cases e
  · split at e
    · split at e
      · next hc => cases e; exact ⟨hc.1, rfl⟩
      · cases e
    · cases e
  · split at e
    · split at e
      · next hc => cases e; exact ⟨hc.1, rfl⟩
      · cases e
    · cases e
  · cases e
theorem qa_reW {ins : Instr} {v : Option qa_V} {Qc : Array Value → State → Outcome → State → Prop} {XC : String → State → State → Prop} {free : Addr → Prop} (hx : p.tables.exec = Jvm.exec) (hb : c.code = qa_by M) (hr : meth.sig.returnType = qa_rt M) (hlocks : meth.locks = false) (hd : decode (qa_by M) pc = .ok (ins, 1)) (hre : qa_re (qa_rt M) ins 1 v.toList = some v)
    (hq : ∀ t : State, t.heap = H → Qc args s (.returned (v.map (qa_cv ψ))) t) (hf : ∀ q ∈ locs, free q.base) : W p l e R s m args below meth c H locs cells slots (vx_MQ below Qc XC args s cells slots free) (F0 m pc ls (v.toList.map (qa_cv ψ))) := by
  cases ins with
  | ireturn =>
    obtain _ | ⟨y | w⟩ := v
    · cases hre
    · cases hre
    · cases w with
      | int x =>
        unfold qa_re at hre
        dsimp only [Option.toList] at hre
        split at hre
        · next ty hty =>
          split at hre
          · next hc => exact vx_ret (W.zret hx hb (hr.trans hty) hc.2 (fun t ht _ => hq t ht) hf hd hlocks)
          · cases hre
        · cases hre
      | _ => cases hre
  | lreturn =>
    obtain _ | ⟨y | w⟩ := v
    · cases hre
    · cases hre
    · cases w with
      | long x =>
        unfold qa_re at hre
        dsimp only [Option.toList] at hre
        split at hre
        · next hc => exact vx_ret (W.lret hx hb (hr.trans hc.2) (fun t ht _ => hq t ht) hf hd hlocks)
        · cases hre
      | _ => cases hre
  | dreturn =>
    obtain _ | ⟨y | w⟩ := v
    · cases hre
    · cases hre
    · cases w with
      | double x =>
        unfold qa_re at hre
        dsimp only [Option.toList] at hre
        split at hre
        · next hc => exact vx_ret (W.dret hx hb (hr.trans hc.2) (fun t ht _ => hq t ht) hf hd hlocks)
        · cases hre
      | _ => cases hre
  | return_ =>
    obtain _ | w := v
    · unfold qa_re at hre
      dsimp only [Option.toList] at hre
      split at hre
      · next hc => exact vx_ret (W.vret hx hb (hr.trans hc.2) (fun t ht _ => hq t ht) hf hd hlocks)
      · cases hre
    · cases hre
  | _ => cases hre
/-- what is owed where the run returns, where it throws, and where a callee's exception leaves it -/
def qa_kR (p : Program) (l : Launch) (e : Env) (R : Room) (s : State) (m : MethodId) (args : Array Value) (below : List Frame) (meth : Method) (c : Code) (Q : State → Prop) (M : qa_M) (D : va_G) (ca : Nat → ClassId) (b L z : Nat) (xs : Nat → Int32) (φ : qa_P → Nat) (nx : qa_P) (res : Option qa_V ⊕ Nat) (h1 : qa_H) (K S : Nat) : Prop :=
  ∀ (v : Option qa_V) (ψ : qa_P → Nat) (al1 : List qa_P) (H1 : Heap) (locs1 : List Loc) (pc1 : Nat) (ls1 : Array Slot) (ins : Instr), res = .inl v → qa_ag2 nx φ ψ → (∀ q, qa_lt q nx → qa_lt q h1.1) → qa_Hp D ca b L z xs ψ al1 h1 H1 → va_S (qa_A z) s.heap H1 locs1 → (∀ w, v = some w → qa_ov h1.1 w) →
    decode (qa_by M) pc1 = .ok (ins, 1) → qa_re (qa_rt M) ins 1 v.toList = some v → W p l e R s m args below meth c H1 locs1 K S Q (F0 m pc1 ls1 (v.toList.map (qa_cv ψ)))
def qa_k1 (p : Program) (l : Launch) (e : Env) (R : Room) (s : State) (m : MethodId) (args : Array Value) (below : List Frame) (meth : Method) (c : Code) (Q : State → Prop) (M : qa_M) (D : va_G) (ca : Nat → ClassId) (b L z : Nat) (xs : Nat → Int32) (φ : qa_P → Nat) (nx : qa_P) (res : Option qa_V ⊕ Nat) (h1 : qa_H) (K S : Nat) : Prop :=
  ∀ (E : Nat) (ψ : qa_P → Nat) (al1 : List qa_P) (H1 : Heap) (locs1 : List Loc) (pc1 : Nat) (ls1 : Array Slot) (st1 : List qa_V) (ins : Instr) (len1 cells1 slots1 : Nat), res = .inr E → qa_ag2 nx φ ψ → (∀ q, qa_lt q nx → qa_lt q h1.1) → qa_Hp D ca b L z xs ψ al1 h1 H1 → va_S (qa_A z) s.heap H1 locs1 → ls1.size = qa_ml M →
    decode (qa_by M) pc1 = .ok (ins, len1) → qa_th M ins len1 pc1 st1 = some E → cells1 + 1 = K → slots1 + 6 = S → W p l e R s m args below meth c H1 locs1 cells1 slots1 Q (F0 m pc1 ls1 (st1.map (qa_cv ψ)))
def qa_k2 (p : Program) (l : Launch) (e : Env) (R : Room) (s : State) (m : MethodId) (args : Array Value) (below : List Frame) (meth : Method) (c : Code) (Q : State → Prop) (M : qa_M) (D : va_G) (ca : Nat → ClassId) (b L z : Nat) (xs : Nat → Int32) (φ : qa_P → Nat) (nx : qa_P) (res : Option qa_V ⊕ Nat) (h1 : qa_H) (K S : Nat) : Prop :=
  ∀ (E : Nat) (ψ : qa_P → Nat) (al1 : List qa_P) (H1 : Heap) (locs1 : List Loc) (pc1 : Nat) (ls1 : Array Slot) (rest : List Value) (ce : Cell) (q : Addr), res = .inr E → qa_is3 E → qa_ag2 nx φ ψ → (∀ q, qa_lt q nx → qa_lt q h1.1) → qa_Hp D ca b L z xs ψ al1 h1 H1 → va_S (qa_A z) s.heap H1 locs1 → (qa_hh M).isEmpty = true →
    H1[q]? = some ce → ce.vm = .none → s.vm.findClass (qa_xn E) = some ce.cls → vx_W p l e R s m args below meth c H1 locs1 K S Q (F0 m pc1 ls1 rest) q
def qa_Ks (p : Program) (l : Launch) (e : Env) (R : Room) (s : State) (m : MethodId) (args : Array Value) (below : List Frame) (meth : Method) (c : Code) (Q : State → Prop) (M : qa_M) (D : va_G) (ca : Nat → ClassId) (b L z : Nat) (xs : Nat → Int32) (φ : qa_P → Nat) (nx : qa_P) (res : Option qa_V ⊕ Nat) (h1 : qa_H) (K S : Nat) : Prop :=
  qa_kR p l e R s m args below meth c Q M D ca b L z xs φ nx res h1 K S ∧ qa_k1 p l e R s m args below meth c Q M D ca b L z xs φ nx res h1 K S ∧ qa_k2 p l e R s m args below meth c Q M D ca b L z xs φ nx res h1 K S
theorem qa_ag2_tr {nx ny : qa_P} {χ : qa_P → Nat} (h1 : qa_ag2 nx φ ψ) (hm : ∀ q, qa_lt q nx → qa_lt q ny) (h2 : qa_ag2 ny ψ χ) : qa_ag2 nx φ χ := fun q hq => (h2 q (hm q hq)).trans (h1 q hq)
theorem qa_Ks_on {nx ny : qa_P} {res : Option qa_V ⊕ Nat} {h1 : qa_H} {K S : Nat} (h1' : qa_ag2 nx φ ψ) (hm : ∀ q, qa_lt q nx → qa_lt q ny) (hk : qa_Ks p l e R s m args below meth c Q M D ca b L z xs φ nx res h1 K S) : qa_Ks p l e R s m args below meth c Q M D ca b L z xs ψ ny res h1 K S := by
  obtain ⟨k0, k1, k2⟩ := hk
  refine ⟨?_, ?_, ?_⟩
  · intro v χ al1 H1 locs1 pc1 ls1 ins a1 a2 a3
    exact k0 v χ al1 H1 locs1 pc1 ls1 ins a1 (qa_ag2_tr h1' hm a2) (fun q hq => a3 q (hm q hq))
  · intro E χ al1 H1 locs1 pc1 ls1 st1 ins len1 cells1 slots1 a1 a2 a3
    exact k1 E χ al1 H1 locs1 pc1 ls1 st1 ins len1 cells1 slots1 a1 (qa_ag2_tr h1' hm a2) (fun q hq => a3 q (hm q hq))
  · intro E χ al1 H1 locs1 pc1 ls1 rest ce q a1 a2 a3 a4
    exact k2 E χ al1 H1 locs1 pc1 ls1 rest ce q a1 a2 (qa_ag2_tr h1' hm a3) (fun q hq => a4 q (hm q hq))
/-- a run from a frame on -/
def qa_FL (l : Launch) (D : va_G) (ca : Nat → ClassId) (b L z : Nat) (xs : Nat → Int32) (n : Nat) : Prop :=
  ∀ (M : qa_M) (pc : Nat) (lv : qa_L) (st : List qa_V) (h : qa_H) (r : qa_Z), qa_de M = true → qa_ex n M pc lv st h = some r →
  ∀ (p : Program) (e : Env) (R : Room) (s : State) (m : MethodId) (args : Array Value) (below : List Frame) (meth : Method) (c : Code) (H : Heap) (locs : List Loc) (cells slots : Nat) (Q : State → Prop) (φ : qa_P → Nat) (al : List qa_P) (ls : Array Slot) (K S : Nat),
    qa_Fr M p R s m args c → (qa_sk M = 0 → meth.name = "<init>") → qa_En D ca b L z xs s → ((qa_hh M).isEmpty = true ∨ (c.exceptionTable.toList = tableOf (qa_hh M) ∧ qa_cl M = 11)) → cells + r.2.2.1 = K → slots + r.2.2.2 = S → K ≤ R.cells → S ≤ R.slots →
    qa_Hp D ca b L z xs φ al h H → va_S (qa_A z) s.heap H locs → lv_has ls (qa_ml M) (qa_lm φ lv) → qa_oL h.1 lv → qa_oS h.1 st → qa_Ks p l e R s m args below meth c Q M D ca b L z xs φ h.1 r.1 r.2.1 K S →
    W p l e R s m args below meth c H locs cells slots Q (F0 m pc ls (st.map (qa_cv φ)))
theorem qa_cats_ag : ∀ (i : Nat) (vs : List qa_V), lv_args i (vs.map (qa_cv φ)) = qa_lm φ (qa_ag i vs)
  | _, [] => rfl
  | i, v :: vs => by
    show (i, qa_cv φ v) :: lv_args (if (qa_cv φ v).category = 2 then i + 2 else i + 1) (vs.map (qa_cv φ)) = (i, qa_cv φ v) :: qa_lm φ (qa_ag (if qa_cat v = 2 then i + 2 else i + 1) vs)
    rw [qa_cv_cat, qa_cats_ag]
theorem qa_oL_ag {nx : qa_P} : ∀ (i : Nat) (vs : List qa_V), qa_oS nx vs → qa_oL nx (qa_ag i vs)
  | _, [], _ => fun _ h => nomatch h
  | i, v :: vs, h => List.forall_mem_cons.mpr ⟨qa_oS_hd h, qa_oL_ag _ vs (qa_oS_tl h)⟩
theorem qa_sl_len (vs : List qa_V) : (lg_sl (vs.map (qa_cv φ))).length = (vs.map qa_cat).sum := by
  induction vs with
  | nil => rfl
  | cons v vs ih =>
    have h1 : lg_sl ((v :: vs).map (qa_cv φ)) = (if (qa_cv φ v).category = 2 then [.val (qa_cv φ v), .second] else [.val (qa_cv φ v)]) ++ lg_sl (vs.map (qa_cv φ)) := rfl
    rw [h1, List.length_append, ih, List.map_cons, List.sum_cons, qa_cv_cat]
    congr 1
    rcases lv_cat (qa_cv φ v) with h2 | h2
    · rw [qa_cv_cat] at h2
      rw [h2]; rfl
    · rw [qa_cv_cat] at h2
      rw [h2]; rfl
theorem qa_th_sp {ins : Instr} {E : Nat} (e : qa_th M ins len pc st = some E) : ∃ ic, ins = .new E ∧ len = 3 ∧ qa_lk qa_xl E = some (qa_xn E, E, ic) ∧ qa_cl M = 9 ∧ (qa_hh M).isEmpty = true ∧ 6 ≤ qa_fr M ∧ 90 ≤ qa_lo M ∧ (st.map qa_cat).sum ≤ 8 ∧ qa_lk (qa_is M) (pc + 3) = some (.dup, 1) ∧ qa_lk (qa_is M) (pc + 4) = some (.invokespecial ic, 3) ∧ qa_lk (qa_is M) (pc + 7) = some (.athrow, 1) := by
  unfold qa_th at e
  split at e
  · split at e
    · next nm ik ic hlk =>
      split at e
      · next hc =>
        obtain ⟨c1, rfl, c3, c4, c5, c6, c7, c8, c9, c10⟩ := hc
        cases e
        have h2 := (qa_xs hlk).2.1
        subst h2
        exact ⟨ic, rfl, c1, hlk, c3, c4, c5, c6, c7, c8, c9, c10⟩
      · cases e
    · cases e
  · cases e
theorem qa_Hp_kept {H1 : Heap} (hI : qa_Hp D ca b L z xs φ al h H) (hk : ∀ q : Nat, q < H.size → H1[q]? = H[q]?) : qa_Hp D ca b L z xs φ al h H1 :=
  ⟨hI.1.kept (fun k q hq => hk q.1 (hI.1 k q hq).lt), hI.2⟩
/-- a caught exception takes a position of its own -/
theorem qa_Hp_junk {a : Nat} {f : Nat → qa_V} (hI : qa_Hp D ca b L z xs φ al h H) : qa_Hp D ca b L z xs (fun q => if q = h.1 then a else φ q) al (qa_nxt h.1, qa_up h.2 h.1 (.inl (99, f))) H := by
  have hf := qa_fresh_self h.1
  have hag : qa_ag2 h.1 φ (fun q => if q = h.1 then a else φ q) := fun q hq => if_neg (fun t => hf.1 (by have hq2 := hq; rw [t] at hq2; exact hq2))
  have hne : ∀ x ∈ al, x ≠ h.1 := fun x hx t => hf.1 (by have := hI.2.2.2.1 x hx; rw [t] at this; exact this)
  have hw : qa_w (fun q => if q = h.1 then a else φ q) ca al (qa_up h.2 h.1 (.inl (99, f))) = qa_w φ ca al h.2 := by
    unfold qa_w
    refine List.map_congr_left fun x hx => ?_
    show (_, _) = (_, _)
    rw [qa_up_ne (hne x hx), qa_e_ag hag (hI.2.2.2.2.2 x hx), hag x (hI.2.2.2.1 x hx)]
  refine ⟨?_, ?_, fun x hx => ?_, fun x hx => qa_lt_nxt (hI.2.2.2.1 x hx), fun x n r hx => ?_, fun x hx => ?_⟩
  · show va_P D vwCl (qa_w _ ca al (qa_up h.2 h.1 (.inl (99, f)))) H
    rw [hw]; exact hI.1
  · show va_D (qa_A z) (qa_w _ ca al (qa_up h.2 h.1 (.inl (99, f))))
    rw [hw]; exact hI.2.1
  · by_cases e1 : x = h.1
    · rw [e1] at hx
      rw [show (qa_nxt h.1, qa_up h.2 h.1 (.inl (99, f))).2 h.1 = .inl (99, f) from qa_up_self _ _ _] at hx
      cases hx
    · exact hI.2.2.1 x (by rw [← qa_up_ne (h := h.2) (v := .inl (99, f)) e1]; exact hx)
  · by_cases e1 : x = h.1
    · rw [e1] at hx
      rw [show (qa_nxt h.1, qa_up h.2 h.1 (.inl (99, f))).2 h.1 = .inl (99, f) from qa_up_self _ _ _] at hx
      cases hx
    · have h2 : h.2 x = .inr (9, n, r) := by rw [← qa_up_ne (h := h.2) (v := .inl (99, f)) e1]; exact hx
      refine ⟨(hI.2.2.2.2.1 x n r h2).1, (hI.2.2.2.2.1 x n r h2).2.1, ?_⟩
      show (if x = h.1 then a else φ x) = b
      rw [if_neg e1]
      exact (hI.2.2.2.2.1 x n r h2).2.2
  · show qa_oC (qa_nxt h.1) (qa_up h.2 h.1 (.inl (99, f)) x)
    rw [qa_up_ne (hne x hx)]
    exact qa_oC_mono (fun q hq => qa_lt_nxt hq) (hI.2.2.2.2.2 x hx)
/-- the contract of a method out of its run -/
theorem qa_body {y : MethodName} {ws : List Cond} {rm : Room} {n : Nat} {avs : List qa_V} {r : qa_Z} {s₁ : State} (hlst : l.stackTraces = false) (hfl : qa_FL l D ca b L z xs n) (hok : qa_Ok M) (hk : qa_cl M < 12) (hh11 : (qa_hh M).isEmpty = true ∨ qa_cl M = 11) (hav : qa_oS h.1 avs) (hsl : (avs.map qa_cat).sum ≤ qa_ml M)
    (hex : qa_ex n M 0 (qa_ag 0 avs) [] h = some r) (hy : y = qa_nm M) (hrm : rm = qa_rm M r.2.2.1 r.2.2.2)
    (B : BodyLoose p l y (headSpec ws rm) (qa_by M) (qa_ml M) (qa_rt M) e s m args below meth c s₁) (hml : c.maxLocals = qa_ml M) (hws : ∀ w ∈ qa_gw, w ∈ ws) (htab : c.exceptionTable.toList = tableOf (qa_hh M)) (hP : qa_Pc D ca b L z xs φ al h avs args s) :
    W p l e (headSpec ws rm).room s m args below meth c s.heap [] 0 0 (vx_MQ below (qa_Qc D ca b L z xs φ h.1 r.1 r.2.1) (qa_Xc D ca b L z xs φ h.1 r.1 r.2.1) args s r.2.2.1 r.2.2.2 (qa_A z)) (entryFrame m args (qa_ml M)) := by
  obtain ⟨rfl, hE, hI⟩ := hP
  subst hrm
  subst hy
  obtain ⟨g1, g2, g3, g4, g5, g6, g7, g8, g9, g10, g11⟩ := qa_mk_sp hok.2
  have hts : ∀ w ∈ qa_gw, w.before (avs.map (qa_cv φ)).toArray s = true := fun w hw => atoms_spec (ws := ws) B.pre w (hws w hw)
  have hown : s.vm.findClass (qa_cn (qa_cl M)) = some m.cls := by rw [← g1]; exact findClass_of_methodNamed B.named
  have hFr : qa_Fr M p (headSpec ws (qa_rm M r.2.2.1 r.2.2.2)).room s m (avs.map (qa_cv φ)).toArray c := ⟨B.exec, B.bytes, hml, hown, hts, hk, Nat.le_refl _, Nat.le_refl _⟩
  have hini : qa_sk M = 0 → meth.name = "<init>" := fun h0 => (name_of_methodNamed B.named B.method).1.trans (g6.mp h0)
  rw [lg_entry_eq]
  have hl := lv_entry (avs.map (qa_cv φ)) (n := qa_ml M) (by rw [qa_sl_len]; exact hsl)
  rw [qa_cats_ag] at hl
  refine hfl M 0 (qa_ag 0 avs) [] h r hok.1 hex p e _ s m _ below meth c s.heap [] 0 0 _ φ al _ r.2.2.1 r.2.2.2 hFr hini hE (hh11.imp id (fun t => ⟨htab, t⟩)) (Nat.zero_add _) (Nat.zero_add _) (Nat.le_refl _) (Nat.le_refl _) hI va_S.rf hl (qa_oL_ag 0 avs hav) (fun _ h => nomatch h) ⟨?_, ?_, ?_⟩
  · intro v ψ al1 H1 locs1 pc1 ls1 ins a1 a2 a3 a4 a5 a6 a7 a8
    exact qa_reW B.exec B.bytes B.returns B.notSynchronized a7 a8 (fun t ht => ⟨v, ψ, al1, a1, rfl, a2, a3, by rw [ht]; exact a4, a6, a5.F ht⟩) a5.2.2
  · intro E ψ al1 H1 locs1 pc1 ls1 st1 ins len1 cells1 slots1 a1 a2 a3 a4 a5 a6 a7 a8 a9 a10
    obtain ⟨ic, rfl, rfl, t3, t4, t5, t6, t7, t8, t9, t10, t11⟩ := qa_th_sp a8
    obtain ⟨x1, -, -, x4, x5, x6, x7⟩ := qa_xs t3
    rw [t4] at hown
    have hw5 := List.all_eq_true.mp x5
    have hemp : c.exceptionTable.toList = [] := by rw [htab, List.isEmpty_iff.mp t5]; rfl
    refine vx_throw0 (names := ["java/lang/RuntimeException", "java/lang/Exception"]) (A := qa_A z) B.exec B.bytes hlst hown x4 (by decide +kernel) (hts _ (qa_gw_in (hw5 _ List.mem_cons_self))) (hts _ (qa_gw_in (hw5 _ (List.mem_cons_of_mem _ List.mem_cons_self))))
      (vx_hat (B := qa_nwl) (fun w hw => hts _ (qa_gw_in (hw5 _ (List.mem_cons_of_mem _ (List.mem_cons_of_mem _ hw))))) (fun w hw => qa_nw_in (List.all_eq_true.mp x6 w hw)) (fun w hw => (hE.2.1 w hw).use (qa_nwo_tab (List.mem_filter.mp hw).2)))
      (List.all_eq_true.mp x7) hE.2.2.2.2.2.1 hE.2.2.2.2.2.2.1 a5 (a6.trans hml.symm) a7 (qa_de_at hok.1 t9) (qa_de_at hok.1 t10) (qa_de_at hok.1 t11) (by rw [hemp]; exact fun x hx => nomatch hx) ?_ ?_ (Nat.le_of_eq a9) (Nat.le_of_eq a10) B.notSynchronized ?_ a5.2.2 (Nat.le_of_eq a9) (Nat.le_of_eq a10)
    · show 2 + 3 < qa_fr M
      omega
    · show ((st1.map (qa_cv ψ)).map fun v => v.category).sum + (13 * (2 + 1) + 42) ≤ qa_lo M
      rw [qa_cats]
      omega
    · intro t hal hz hk1
      refine ⟨E, ψ, al1, a1, rfl, x1, a2, a3, qa_Hp_kept a4 hk1, Nat.le_trans a5.1 hz, fun q h1 h2 => ?_⟩
      rw [hk1 q (Nat.lt_of_lt_of_le h1 a5.1)]
      exact a5.2.1 q h1 h2
  · intro E ψ al1 H1 locs1 pc1 ls1 rest ce q a1 a2 a3 a4 a5 a6 a7 a8 a9 a10
    have hemp : c.exceptionTable.toList = [] := by rw [htab, List.isEmpty_iff.mp a7]; rfl
    exact vx_out (by rw [hemp]; exact fun x hx => nomatch hx) B.notSynchronized a8 a9 a10 (fun t ht _ => ⟨E, ψ, al1, a1, rfl, a2, a3, a4, by rw [ht]; exact a5, a6.F ht⟩) a6.2.2 (Nat.le_refl _) (Nat.le_refl _)
theorem qa_ct_of {n : Nat} {avs : List qa_V} {r : qa_Z} (hlst : l.stackTraces = false) (hfl : qa_FL l D ca b L z xs n) (hok : qa_Ok M) (hk : qa_cl M < 12) (hh11 : (qa_hh M).isEmpty = true ∨ qa_cl M = 11) (hav : qa_oS h.1 avs) (hsl : (avs.map qa_cat).sum ≤ qa_ml M)
    (hex : qa_ex n M 0 (qa_ag 0 avs) [] h = some r) : qa_Ct l D ca b L z xs M φ al h avs r := by
  obtain ⟨g1, g2, g3, g4, g5, g6, g7, g8, g9, g10, g11⟩ := qa_mk_sp hok.2
  unfold qa_Ct
  by_cases hem : (qa_hh M).isEmpty = true
  · have hcw : qa_mw M = .code (qa_nm M) (qa_by M) (qa_ml M) (qa_rt M) :: qa_gw := by unfold qa_mw qa_cw; rw [if_pos hem]
    refine vx_ofW (cc := qa_by M) (maxL := qa_ml M) (ret := qa_rt M) g3 hcw fun p e s m args below meth c s₁ B hml ht hP => ?_
    refine qa_body hlst hfl hok hk hh11 hav hsl hex rfl rfl B hml (fun w hw => List.mem_cons_of_mem _ hw) ?_ hP
    rw [List.isEmpty_iff.mp hem]
    exact List.eq_nil_iff_forall_not_mem.mpr ht
  · have hcw : qa_mw M = .codeWith (qa_nm M) (qa_by M) (qa_ml M) (qa_rt M) (qa_hh M) :: qa_gw := by unfold qa_mw qa_cw; rw [if_neg hem]
    refine vx_ofWH (cc := qa_by M) (maxL := qa_ml M) (ret := qa_rt M) (hh := qa_hh M) g3 hcw fun p e s m args below meth c s₁ B hml hP => ?_
    refine qa_body hlst hfl hok hk hh11 hav hsl hex rfl rfl B hml (fun w hw => List.mem_cons_of_mem _ hw) ?_ hP
    exact vx_table (x := qa_nm M) B (atoms_spec (ws := qa_mw M) B.pre _ (by rw [hcw]; exact List.mem_cons_self))
theorem qa_map_some {n : Nat} {pc1 : Nat} {lv : qa_L} {st1 : List qa_V} {h1 : qa_H} {k sl : Nat} {r : qa_Z} (e : (qa_ex n M pc1 lv st1 h1).map (qa_pl k sl) = some r) : ∃ r1, qa_ex n M pc1 lv st1 h1 = some r1 ∧ r.1 = r1.1 ∧ r.2.1 = r1.2.1 ∧ r.2.2.1 = k + r1.2.2.1 ∧ r.2.2.2 = sl + r1.2.2.2 := by
  obtain ⟨r1, h2, h3⟩ := Option.map_eq_some_iff.mp e
  subst h3
  exact ⟨r1, h2, rfl, rfl, rfl, rfl⟩
set_option maxHeartbeats 2000000 in
theorem qa_main (hlst : l.stackTraces = false) : ∀ n : Nat, qa_FL l D ca b L z xs n := by
  intro n
  induction n with
  | zero =>
    intro M pc lv st h r hde hex
    cases hex
  | succ n ih =>
    intro M pc lv st h r hde hex p e R s m args below meth c H locs cells slots Q φ al ls K S hFr hini hE hh11 hK hSl hKR hSR hI hS hl hoL hoS hks
    have hFr0 := hFr
    unfold qa_ex at hex
    split at hex
    · cases hex
    · next ins len hlk =>
      have hd := qa_de_at hde hlk
      split at hex
      · next F hdo =>
        exact qa_doW hFr hE hI hS hl hoL hoS hd hdo (fun ls1 pc1 e1 hl1 hoL1 hoS1 => by
          subst e1
          exact ih M F.1 F.2.1 F.2.2 h r hde hex p e R s m args below meth c H locs cells slots Q φ al ls1 K S hFr hini hE hh11 hK hSl hKR hSR hI hS hl1 hoL1 hoS1 hks)
      · split at hex
        · next v hre =>
          cases hex
          obtain ⟨rfl, hst⟩ := qa_re_inv hre
          subst hst
          have K0 := hks.1 v φ al H locs pc ls ins rfl (qa_ag2_refl _ _) (fun _ h => h) hI hS (fun w hw => by subst hw; exact hoS w List.mem_cons_self) hd hre
          rw [← hK, ← hSl] at K0
          exact K0
        · split at hex
          · next w hw =>
            exact qa_wrW hFr hE hI hS hini hoS hd hw (fun H1 locs1 hI1 hS1 hoS1 => ih M w.1 lv w.2.1 (h.1, qa_up h.2 w.2.2.1 w.2.2.2) r hde hex p e R s m args below meth c H1 locs1 cells slots Q φ al ls K S hFr hini hE hh11 hK hSl hKR hSR hI1 hS1 hl hoL hoS1 hks)
          · split at hex
            · next w hw =>
              obtain ⟨r1, hex1, e1, e2, e3, e4⟩ := qa_map_some hex
              have hmo : ∀ q, qa_lt q h.1 → qa_lt q (qa_nxt (qa_at h.1 w.2.2.1)) := fun q hq => qa_lt_nxt ((qa_fresh_at h.1 w.2.2.1).2 q hq)
              refine qa_mkW hFr hE hI hS hoS hd hw (by omega) (by omega) (fun ψ al1 H1 hag hI1 hS1 hoS1 => ?_)
              have hks1 := qa_Ks_on hag hmo hks
              rw [e1, e2] at hks1
              exact ih M w.1 lv (.inl (qa_at h.1 w.2.2.1) :: w.2.1) _ r1 hde hex1 p e R s m args below meth c H1 locs (cells + 1) (slots + w.2.2.2) Q ψ al1 ls K S hFr hini hE hh11 (by omega) (by omega) hKR hSR hI1 hS1 (by rw [qa_lm_ag hag hoL]; exact hl) (qa_oL_mono hmo hoL) (qa_oS_cons (qa_lt_self _) (qa_oS_mono hmo hoS1)) hks1
            · split at hex
              · next E hth =>
                cases hex
                exact hks.2.1 E φ al H locs pc ls st ins len cells slots rfl (qa_ag2_refl _ _) (fun _ h => h) hI hS hl.1 hd hth hK hSl
              · split at hex
                · cases hex
                · next w hinv =>
                  obtain ⟨M1, nest, avs, rest⟩ := w
                  obtain ⟨i, pl, hins, hlk1, rfl, hna, hst, hc8, hcl, hf1, hl1, hhh, hrc⟩ := qa_inv_sp hinv
                  have hcq := qa_cq_at hFr.2.2.2.2.2.1 hlk1
                  have hoa : qa_oS h.1 avs := fun v hv => hoS v (by rw [hst]; exact List.mem_append_left _ (List.mem_reverse.mpr hv))
                  have hor : qa_oS h.1 rest := fun v hv => hoS v (by rw [hst]; exact List.mem_append_right _ hv)
                  split at hex
                  · cases hex
                  · next v h1 k sl hex1 =>
                    obtain ⟨r1, hex2, e1, e2, e3, e4⟩ := qa_map_some hex
                    have hC : qa_Ok M1 → qa_Ct l D ca b L z xs M1 φ al h avs (.inl v, h1, k, sl) := fun hok => qa_ct_of hlst ih hok hcq.2.1 hcq.2.2 hoa hcl hex1
                    obtain ⟨a, hrun⟩ := qa_invW (e := e) (below := below) (meth := meth) (cells := cells) (slots := slots) (r := (.inl v, h1, k, sl)) hFr hE hI hS hl.1 hd hinv hC (fun _ => ⟨v, rfl⟩) (by dsimp only; omega) (by dsimp only; omega)
                    refine qa_callW hrun hS (fun k9 ψ al1 ce q9 H1 locs1 a1 => by dsimp only at a1; cases a1) (fun v1 ψ al1 H1 locs1 a1 hag hmo hI1 hov hS1 => ?_)
                    dsimp only at a1
                    cases a1
                    have hks1 := qa_Ks_on hag hmo hks
                    rw [e1, e2] at hks1
                    have K0 := ih M (pc + 3) lv (v.toList ++ rest) h1 r1 hde hex2 p e R s m args below meth c H1 locs1 (cells + k) (slots + sl) Q ψ al1 ls K S hFr hini hE hh11 (by omega) (by omega) hKR hSR hI1 hS1 (by rw [qa_lm_ag hag hoL]; exact hl) (qa_oL_mono hmo hoL) (fun w hw => by
                      rcases List.mem_append.mp hw with h2 | h2
                      · exact hov w (Option.mem_toList.mp h2)
                      · exact qa_ov_mono hmo (hor w h2)) hks1
                    rw [List.map_append, qa_st_ag hag hor] at K0
                    rw [show (v.map (qa_cv ψ)).toList = v.toList.map (qa_cv ψ) by cases v <;> rfl]
                    exact K0
                  · next E h1 k sl hex1 =>
                    split at hex
                    · cases hex
                    · next hno =>
                      have hC : qa_Ok M1 → qa_Ct l D ca b L z xs M1 φ al h avs (.inr E, h1, k, sl) := fun hok => qa_ct_of hlst ih hok hcq.2.1 hcq.2.2 hoa hcl hex1
                      split at hex
                      · next hem =>
                        cases hex
                        obtain ⟨a, hrun⟩ := qa_invW (e := e) (below := below) (meth := meth) (cells := cells) (slots := slots) (r := (.inr E, h1, k, sl)) hFr hE hI hS hl.1 hd hinv hC (fun h9 => absurd h9 hno) (by dsimp only at hK ⊢; omega) (by dsimp only at hSl ⊢; omega)
                        refine qa_callW hrun hS (fun k9 ψ al1 ce q9 H1 locs1 a1 a2 a3 a4 a5 a6 a7 a8 a9 => ?_) (fun v1 ψ al1 H1 locs1 a1 => by dsimp only at a1; cases a1)
                        have K0 := hks.2.2 k9 ψ al1 H1 locs1 pc ls (rest.map (qa_cv φ)) ce q9 a1 a2 a3 a4 a5 a6 hem a7 a8 a9
                        dsimp only at hK hSl
                        rw [← hK, ← hSl] at K0
                        exact K0
                      · next hem =>
                        split at hex
                        · cases hex
                        · next t hhd =>
                          obtain ⟨r1, hex2, e1, e2, e3, e4⟩ := qa_map_some hex
                          obtain ⟨a, hrun⟩ := qa_invW (e := e) (below := below) (meth := meth) (cells := cells) (slots := slots) (r := (.inr E, h1, k, sl)) hFr hE hI hS hl.1 hd hinv hC (fun h9 => absurd h9 hno) (by dsimp only; omega) (by dsimp only; omega)
                          refine qa_callW hrun hS (fun k9 ψ al1 ce q9 H1 locs1 a1 a2 hag hmo hI1 hS1 a7 a8 a9 => ?_) (fun v1 ψ al1 H1 locs1 a1 => by dsimp only at a1; cases a1)
                          dsimp only at a1
                          cases a1
                          obtain ⟨htab, h11⟩ := hh11.resolve_left hem
                          obtain ⟨hx, hb, hml, hown, hts, -⟩ := hFr
                          rw [h11] at hown
                          obtain ⟨pre, x, suf, t1, t2, t3, t4, t5⟩ := qa_hd_sp _ _ _ _ hhd
                          obtain ⟨-, u2, u3⟩ := qa_ht3 t4
                          refine vx_catch (own := RL) (name := qa_xn E) hown pre x suf (htab.trans t1) (fun y hy => ?_) t3 u2 (hts _ u3) ((hE.2.1 _ (qa_cast3 a2)).use rfl) a7 a8 a9 ?_
                          · rcases t2 y hy with g1 | ⟨j, g1, g2⟩
                            · exact Or.inl g1
                            · obtain ⟨w1, w2, w3⟩ := qa_ht3 g1
                              exact Or.inr ⟨w2, qa_xn j, hts _ w3, hE.2.2.2.1 _ (qa_ncl3 a2 w1 g2)⟩
                          · subst t5
                            have hmo2 : ∀ q, qa_lt q h.1 → qa_lt q (qa_nxt h1.1) := fun q hq => qa_lt_nxt (hmo q hq)
                            have hag2 : qa_ag2 h1.1 ψ (fun q => if q = h1.1 then q9 else ψ q) := fun q hq => if_neg (fun t => (qa_fresh_self h1.1).1 (by have hq2 := hq; rw [t] at hq2; exact hq2))
                            have hag3 := qa_ag2_tr hag hmo hag2
                            have hks1 := qa_Ks_on hag3 hmo2 hks
                            rw [e1, e2] at hks1
                            have K0 := ih M x.handlerPc lv [.inl h1.1] _ r1 hde hex2 p e R s m args below meth c H1 locs1 (cells + k) (slots + sl) Q (fun q => if q = h1.1 then q9 else ψ q) al1 ls K S hFr0 hini hE hh11 (by omega) (by omega) hKR hSR (qa_Hp_junk hI1) hS1 (by rw [qa_lm_ag hag3 hoL]; exact hl) (qa_oL_mono hmo2 hoL) (qa_oS_cons (qa_lt_self _) (fun _ h => nomatch h)) hks1
                            have e9 : ([.inl h1.1] : List qa_V).map (qa_cv (fun q => if q = h1.1 then q9 else ψ q)) = [.ref q9] := by
                              show [Value.ref (if h1.1 = h1.1 then q9 else ψ h1.1)] = _
                              rw [if_pos rfl]
                            rw [e9] at K0
                            exact K0
end QMA
