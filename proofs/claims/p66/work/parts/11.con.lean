/-! contracts: what a run of the small machine says of the method -/
section QCO
variable {p : Program} {l : Launch} {e : Env} {R : Room} {s : State} {m : MethodId} {args : Array Value} {below : List Frame} {meth : Method} {c : Code} {H : Heap} {locs : List Loc} {cells slots : Nat} {Q : State → Prop}
variable {M : qa_M} {D : va_G} {ca : Nat → ClassId} {b L z : Nat} {xs : Nat → Int32} {φ ψ : qa_P → Nat} {al : List qa_P} {h : qa_H} {pc len : Nat} {ls : Array Slot} {st : List qa_V}
theorem qa_ini_RL : qa_in_tbl (Cond.initialized RL) = true := by decide +kernel
theorem qa_ini (k : Nat) : Cond.initialized (qa_cn k) ∈ qa_gw := by
  match k with
  | 0 => exact (qa_cws (k := 0) rfl).1
  | 1 => exact (qa_cws (k := 1) rfl).1
  | 2 => exact (qa_cws (k := 2) rfl).1
  | 3 => exact (qa_cws (k := 3) rfl).1
  | 4 => exact (qa_cws (k := 4) rfl).1
  | 5 => exact (qa_cws (k := 5) rfl).1
  | 6 => exact (qa_cws (k := 6) rfl).1
  | 7 => exact (qa_cws (k := 7) rfl).1
  | 8 => exact (qa_cws (k := 8) rfl).1
  | 9 => exact (qa_cws (k := 9) rfl).1
  | k + 10 => exact qa_gw_in qa_ini_RL
/-- the word of a method's code -/
def qa_cw (M : qa_M) : Cond := if (qa_hh M).isEmpty then .code (qa_nm M) (qa_by M) (qa_ml M) (qa_rt M) else .codeWith (qa_nm M) (qa_by M) (qa_ml M) (qa_rt M) (qa_hh M)
def qa_mw (M : qa_M) : List Cond := qa_cw M :: qa_gw
def qa_rm (M : qa_M) (k sl : Nat) : Room := { frames := qa_fr M, cells := k, slots := sl, locals := qa_lo M }
theorem qa_mk_sp (h : qa_mk M = true) : (qa_nm M).cls = qa_cn (qa_cl M) ∧ ((qa_nm M).cls ≠ "java/lang/invoke/MethodHandle" ∧ (qa_nm M).cls ≠ "java/lang/invoke/VarHandle") ∧ plainName (qa_nm M).cls = true ∧
    (parseMethodDescriptor (qa_nm M).desc).map (fun d => d.parameters.length) = some (if qa_sk M = 1 then qa_na M else qa_na M - 1) ∧ (qa_sk M = 1 ∨ 0 < qa_na M) ∧ (qa_sk M = 0 ↔ (qa_nm M).name = "<init>") ∧ qa_sk M < 3 ∧
    qa_cw M ∈ qa_gw ∧ (if qa_sk M = 1 then Cond.static (qa_nm M) else .instanceMethod (qa_nm M)) ∈ qa_gw ∧ (qa_sk M = 2 → Cond.selects (qa_cn (qa_cl M)) (qa_nm M) (qa_nm M) ∈ qa_gw) ∧ (qa_sk M = 0 → qa_rt M = none) := by
  unfold qa_mk at h
  simp only [Bool.and_eq_true] at h
  obtain ⟨⟨⟨⟨⟨⟨⟨⟨⟨⟨h1, h2⟩, h3⟩, h4⟩, h5⟩, h6⟩, h7⟩, h8⟩, h9⟩, h10⟩, h11⟩ := h
  refine ⟨of_decide_eq_true h1, of_decide_eq_true h2, h3, of_decide_eq_true h4, of_decide_eq_true h5, of_decide_eq_true h6, of_decide_eq_true h7, qa_gw_at h8, qa_gw_at h9, fun h2 => ?_, of_decide_eq_true h11⟩
  rw [Bool.or_eq_true] at h10
  rcases h10 with h10 | h10
  · exact absurd h2 (of_decide_eq_true h10)
  · exact qa_gw_at h10
theorem qa_gw_good {w : Cond} (h : w ∈ qa_gw) : w ∈ qa_gw ∧ ((w.onTables && w.keeps) = true ∨ ∃ ty, w = .arrayClass ty) := ⟨h, good_of_word (List.mem_filter.mp h).2⟩
theorem qa_mw_sub (hc : qa_cw M ∈ qa_gw) : ∀ w ∈ qa_mw M, w ∈ qa_gw := List.forall_mem_cons.mpr ⟨hc, fun _ h => h⟩
theorem qa_pay (hts : ∀ w ∈ qa_gw, w.before args s = true) (hc : qa_cw M ∈ qa_gw) : ∀ w ∈ qa_mw M, ∀ (a' : Array Value) (U : State), s.WarmedH U.vm → w.before a' U = true := pay_in hts fun w hw => qa_gw_good (qa_mw_sub hc w hw)
/-- how a run ends, over the machine -/
def qa_Qc (D : va_G) (ca : Nat → ClassId) (b L z : Nat) (xs : Nat → Int32) (φ : qa_P → Nat) (nx : qa_P) (res : Option qa_V ⊕ Nat) (h1 : qa_H) : Array Value → State → Outcome → State → Prop := fun _ st o t =>
  ∃ (v : Option qa_V) (ψ : qa_P → Nat) (al1 : List qa_P), res = .inl v ∧ o = .returned (v.map (qa_cv ψ)) ∧ qa_ag2 nx φ ψ ∧ (∀ q, qa_lt q nx → qa_lt q h1.1) ∧ qa_Hp D ca b L z xs ψ al1 h1 t.heap ∧ (∀ w, v = some w → qa_ov h1.1 w) ∧ va_F (qa_A z) st t
def qa_is3 (k : Nat) : Prop := k = 342 ∨ k = 345 ∨ k = 348
def qa_Xc (D : va_G) (ca : Nat → ClassId) (b L z : Nat) (xs : Nat → Int32) (φ : qa_P → Nat) (nx : qa_P) (res : Option qa_V ⊕ Nat) (h1 : qa_H) : String → State → State → Prop := fun E st t =>
  ∃ (k : Nat) (ψ : qa_P → Nat) (al1 : List qa_P), res = .inr k ∧ E = qa_xn k ∧ qa_is3 k ∧ qa_ag2 nx φ ψ ∧ (∀ q, qa_lt q nx → qa_lt q h1.1) ∧ qa_Hp D ca b L z xs ψ al1 h1 t.heap ∧ va_F (qa_A z) st t
def qa_Pc (D : va_G) (ca : Nat → ClassId) (b L z : Nat) (xs : Nat → Int32) (φ : qa_P → Nat) (al : List qa_P) (h : qa_H) (avs : List qa_V) : Array Value → State → Prop :=
  va_Pc (avs.map (qa_cv φ)) (fun U => qa_En D ca b L z xs U ∧ qa_Hp D ca b L z xs φ al h U.heap)
/-- the contract of a method, for one start and one end of the small machine -/
def qa_Ct (l : Launch) (D : va_G) (ca : Nat → ClassId) (b L z : Nat) (xs : Nat → Int32) (M : qa_M) (φ : qa_P → Nat) (al : List qa_P) (h : qa_H) (avs : List qa_V) (r : qa_Z) : Prop :=
  vx_Met l (qa_nm M) (qa_mw M) (qa_rm M r.2.2.1 r.2.2.2) (qa_Pc D ca b L z xs φ al h avs) (qa_Qc D ca b L z xs φ h.1 r.1 r.2.1) (qa_Xc D ca b L z xs φ h.1 r.1 r.2.1) r.2.2.1 r.2.2.2 (qa_A z)
theorem qa_nwo_tab {w : Cond} (h : qa_nwo w = true) : w.onTables = true := by
  cases w <;> first | rfl | cases h
theorem qa_nwo_warm {w : Cond} {U : State} (h : qa_nwo w = true) (hW : s.WarmedH U.vm) (hw : va_Nw w s) : va_Nw w U := by
  cases w <;> first | exact va_Nw.warmM hW hw | exact va_Nw.warmC hW hw | exact va_Nw.warmD hW hw | cases h
theorem qa_En_same {u U : State} (hv : u.vm = U.vm) (hh : U.heap = u.heap) (hE : qa_En D ca b L z xs u) : qa_En D ca b L z xs U := by
  have hal : u.vm.Alike U.vm := by rw [← hv]; exact Vm.Alike.refl u.vm
  obtain ⟨h1, h2, h3, h4, h5, h6, h7, h8, h9⟩ := hE
  refine ⟨h1.moved hal, fun w hw => va_Nw.same (qa_nwo_tab (List.mem_filter.mp hw).2) hv (h2 w hw), va_AO.moved hal h3, fun q hq => (h4 q hq).moved hal, ?_, ?_, ?_, h8, by rw [hh]; exact h9⟩
  · rw [hh]; exact h5.moved hal
  · rw [hh]; exact vx_Zq.moved hal h6
  · rw [hh]; exact vx_Zq.moved hal h7
theorem qa_En_warm {U : State} (hW : s.WarmedH U.vm) (hh : U.heap = H) (hS : va_S (qa_A z) s.heap H locs) (hE : qa_En D ca b L z xs s) : qa_En D ca b L z xs U := by
  subst hh
  have hal : s.vm.Alike U.vm := hW.alike
  obtain ⟨h1, h2, h3, h4, h5, h6, h7, h8, h9⟩ := hE
  have hb : U.heap[b]? = s.heap[b]? := hS.2.1 b (Nat.lt_of_lt_of_le h8 h9) (Nat.not_le.mpr h8)
  exact ⟨h1.moved hal, fun w hw => qa_nwo_warm (List.mem_filter.mp hw).2 hW (h2 w hw), va_AO.moved hal h3, fun q hq => (h4 q hq).moved hal, (h5.kept hb).moved hal, vx_Zq.moved hal (h6.kept hS.2.1), vx_Zq.moved hal (h7.kept hS.2.1), h8, Nat.le_trans h9 hS.1⟩
theorem qa_Pc_blind {avs : List qa_V} : FrameBlind (qa_Pc D ca b L z xs φ al h avs) := by
  intro a U g mk hq
  obtain ⟨q0, q1, q2⟩ := hq
  exact ⟨q0, qa_En_same (u := U) (U := U.calling g mk a) rfl rfl q1, q2⟩
theorem qa_Met {mc ms : Nat} {res : Option qa_V ⊕ Nat} {v : Option qa_V} {h1 : qa_H} {nx : qa_P} {y : MethodName} {ws : List Cond} {rm : Room} {Pc : Array Value → State → Prop} (hr : res = .inl v)
    (hM : vx_Met l y ws rm Pc (qa_Qc D ca b L z xs φ nx res h1) (qa_Xc D ca b L z xs φ nx res h1) mc ms (qa_A z)) : Met l y ws rm Pc (qa_Qc D ca b L z xs φ nx res h1) mc ms (qa_A z) := by
  intro p e ha hc hk s m args below hf happ hP hK
  obtain ⟨n, o, a1, a2, a3, a4⟩ := hM p e ha hc hk s m args below hf happ hP hK
  refine ⟨n, o, a1, a2, a3, ?_⟩
  rcases a4 with a4 | ⟨q, -, E, ce, LL, ⟨k, ψ, al1, h9, -⟩, -⟩
  · exact a4
  · rw [hr] at h9; cases h9
theorem qa_run {mc ms : Nat} {g : JFrame} {rest : List Value} {Qa : State → Outcome → State → Prop} {XC : String → State → State → Prop} {free : Addr → Prop} (hr : va_Run p l e R s m args below meth c H locs cells slots mc ms g rest Qa free) : vx_Run p l e R s m args below meth c H locs cells slots mc ms g rest Qa XC free :=
  fun T hT X => Or.inl (hr T hT X)
/-- behind a call -/
theorem qa_callW {mc ms : Nat} {st0 rest : List Value} {a : Array Value} {res : Option qa_V ⊕ Nat} {h1 : qa_H} {nx : qa_P} (hr : vx_Run p l e R s m args below meth c H locs cells slots mc ms (F0 m pc ls st0) rest (qa_Qc D ca b L z xs φ nx res h1 a) (qa_Xc D ca b L z xs φ nx res h1) (qa_A z)) (hS : va_S (qa_A z) s.heap H locs)
    (kx : ∀ (k : Nat) (ψ : qa_P → Nat) (al1 : List qa_P) (ce : Cell) (q9 : Addr) (H1 : Heap) (locs1 : List Loc), res = .inr k → qa_is3 k → qa_ag2 nx φ ψ → (∀ q, qa_lt q nx → qa_lt q h1.1) → qa_Hp D ca b L z xs ψ al1 h1 H1 → va_S (qa_A z) s.heap H1 locs1 → H1[q9]? = some ce → ce.vm = .none → s.vm.findClass (qa_xn k) = some ce.cls → vx_W p l e R s m args below meth c H1 locs1 (cells + mc) (slots + ms) Q (F0 m pc ls rest) q9)
    (kk : ∀ (v : Option qa_V) (ψ : qa_P → Nat) (al1 : List qa_P) (H1 : Heap) (locs1 : List Loc), res = .inl v → qa_ag2 nx φ ψ → (∀ q, qa_lt q nx → qa_lt q h1.1) → qa_Hp D ca b L z xs ψ al1 h1 H1 → (∀ w, v = some w → qa_ov h1.1 w) → va_S (qa_A z) s.heap H1 locs1 → W p l e R s m args below meth c H1 locs1 (cells + mc) (slots + ms) Q (F0 m (pc + 3) ls ((v.map (qa_cv ψ)).toList ++ rest))) : W p l e R s m args below meth c H locs cells slots Q (F0 m pc ls st0) := by
  intro T hT X
  rcases hr T hT X with ⟨v, st₀, t, T', LL, h0, X', hL, e1, e2, ⟨v1, ψ, al1, hv, ho, hag, hmo, hp, hov, hF⟩, st⟩ | ⟨q, st₀, t, T', LL, E, ce, h0, X', hL, e1, e2, ⟨k, ψ, al1, hv, hE, h3, hag, hmo, hp, hF⟩, hce, hcv, hcl, st⟩
  · cases ho
    obtain ⟨k1, k2, k3⟩ := vx_keep h0 e1 hS (fun _ _ h => h) (fun _ h => h) hL hF
    obtain ⟨t2, a1, b1⟩ := kk v1 ψ al1 T'.heap (locs ++ LL) hv hag hmo (by rw [e1]; exact hp) hov k3 T' rfl X'
    exact ⟨t2, st t2 a1, b1⟩
  · obtain ⟨k1, k2, k3⟩ := vx_keep h0 e1 hS (fun _ _ h => h) (fun _ h => h) hL hF
    subst hE
    obtain ⟨t2, a1, b1⟩ := kx k ψ al1 ce q T'.heap (locs ++ LL) hv h3 hag hmo (by rw [e1]; exact hp) k3 (by rw [e1]; exact hce) hcv hcl T' rfl X'
    exact ⟨t2, st.trans a1, b1⟩
/-- what a call asks for -/
theorem qa_inv_sp {h : qa_P → qa_C} {ins : Instr} {M1 : qa_M} {nest : Bool} {avs rest : List qa_V} (e : qa_inv M h ins len st = some (M1, nest, avs, rest)) : ∃ i pl, ((ins = .invokevirtual i ∧ qa_sk M1 = 2) ∨ (ins = .invokespecial i ∧ qa_sk M1 = 0) ∨ (ins = .invokestatic i ∧ qa_sk M1 = 1)) ∧ qa_lk (qa_ca (qa_cl M)) i = some (M1, nest, pl) ∧
    len = 3 ∧ avs.length = qa_na M1 ∧ st = avs.reverse ++ rest ∧ (rest.map qa_cat).sum ≤ 8 ∧ (avs.map qa_cat).sum ≤ qa_ml M1 ∧ qa_fr M1 + 1 ≤ qa_fr M ∧ 19 + qa_ml M1 + qa_lo M1 ≤ qa_lo M ∧ ((qa_hh M1).isEmpty = true ∨ (qa_sk M1 = 1 ∧ nest = false)) ∧ (qa_sk M1 = 1 ∨ ∃ x as f, avs = .inl x :: as ∧ h x = .inl (qa_cl M1, f)) := by
  have key : ∀ (i sk : Nat), (match qa_lk (qa_ca (qa_cl M)) i with
    | some (M', nest, _) =>
      if len = 3 ∧ qa_sk M' = sk ∧ qa_na M' ≤ st.length ∧ ((st.drop (qa_na M')).map qa_cat).sum ≤ 8 ∧ ((st.take (qa_na M')).map qa_cat).sum ≤ qa_ml M' ∧ qa_fr M' + 1 ≤ qa_fr M ∧ 19 + qa_ml M' + qa_lo M' ≤ qa_lo M ∧ ((qa_hh M').isEmpty = true ∨ (sk = 1 ∧ nest = false))
        ∧ (sk = 1 ∨ qa_rc h (qa_cl M') (st.take (qa_na M')).getLast? = true)
      then some (M', nest, (st.take (qa_na M')).reverse, st.drop (qa_na M')) else none
    | none => none) = some (M1, nest, avs, rest) → ∃ pl, qa_sk M1 = sk ∧ qa_lk (qa_ca (qa_cl M)) i = some (M1, nest, pl) ∧
      len = 3 ∧ avs.length = qa_na M1 ∧ st = avs.reverse ++ rest ∧ (rest.map qa_cat).sum ≤ 8 ∧ (avs.map qa_cat).sum ≤ qa_ml M1 ∧ qa_fr M1 + 1 ≤ qa_fr M ∧ 19 + qa_ml M1 + qa_lo M1 ≤ qa_lo M ∧ ((qa_hh M1).isEmpty = true ∨ (sk = 1 ∧ nest = false)) ∧ (sk = 1 ∨ ∃ x as f, avs = .inl x :: as ∧ h x = .inl (qa_cl M1, f)) := by
    intro i sk e
    split at e
    · next M' nest' pl hlk =>
      split at e
      · next hc =>
        cases e
        obtain ⟨c1, c2, c3, c4, c5, c6, c7, c8, c9⟩ := hc
        refine ⟨pl, c2, hlk, c1, ?_, ?_, c4, ?_, c6, c7, c8, ?_⟩
        · rw [List.length_reverse, List.length_take, Nat.min_eq_left c3]
        · rw [List.reverse_reverse, List.take_append_drop]
        · rw [List.map_reverse, List.sum_reverse]; exact c5
        · rcases c9 with c9 | c9
          · exact Or.inl c9
          · refine Or.inr ?_
            unfold qa_rc at c9
            split at c9
            · next x hx =>
              split at c9
              · next cj f hf =>
                have h9 : cj = qa_cl M1 := of_decide_eq_true c9
                subst h9
                obtain ⟨ys, hys⟩ := List.getLast?_eq_some_iff.mp hx
                exact ⟨x, ys.reverse, f, by rw [hys, List.reverse_append]; rfl, hf⟩
              · cases c9
            · cases c9
      · cases e
    · cases e
  unfold qa_inv at e
  dsimp only at e
  split at e
  · obtain ⟨pl, e0, e1⟩ := key _ _ e
    exact ⟨_, pl, Or.inl ⟨rfl, e0⟩, by rw [e0]; exact e1⟩
  · obtain ⟨pl, e0, e1⟩ := key _ _ e
    exact ⟨_, pl, Or.inr (Or.inl ⟨rfl, e0⟩), by rw [e0]; exact e1⟩
  · obtain ⟨pl, e0, e1⟩ := key _ _ e
    exact ⟨_, pl, Or.inr (Or.inr ⟨rfl, e0⟩), by rw [e0]; exact e1⟩
  · cases e
theorem qa_ca_at {k i pl : Nat} {M1 : qa_M} {nest : Bool} (hk : k < 12) (h : qa_lk (qa_ca k) i = some (M1, nest, pl)) : qa_Ok M1 ∧ (nest = false → Cond.methodLink (qa_cn k) i (qa_nm M1) ∈ qa_gw) ∧ (nest = true → Cond.methodLinkNest (qa_cn k) i (qa_nm M1) RX9 ∈ qa_nwl) := by
  have h0 := qa_lk_mem h
  have h1 := List.all_eq_true.mp (qa_ca_k k hk) _ h0
  refine ⟨qa_co k _ h0, fun e1 => ?_, fun e1 => ?_⟩
  · subst e1
    unfold qa_ck at h1
    rw [if_neg (fun t => by cases t)] at h1
    exact qa_gw_at h1
  · subst e1
    unfold qa_ck at h1
    rw [if_pos rfl] at h1
    exact List.mem_filter.mpr ⟨List.mem_of_getElem? (of_decide_eq_true h1), rfl⟩
def qa_cqb (e : Nat × qa_M × Bool × Nat) : Bool := decide ((qa_sk e.2.1 = 1 ∨ qa_cl e.2.1 < 11) ∧ qa_cl e.2.1 < 12 ∧ ((qa_hh e.2.1).isEmpty = true ∨ qa_cl e.2.1 = 11))
theorem qa_cq_0 : (qa_ca 0).all qa_cqb = true := by decide +kernel
theorem qa_cq_1 : (qa_ca 1).all qa_cqb = true := by decide +kernel
theorem qa_cq_2 : (qa_ca 2).all qa_cqb = true := by decide +kernel
theorem qa_cq_3 : (qa_ca 3).all qa_cqb = true := by decide +kernel
theorem qa_cq_4 : (qa_ca 4).all qa_cqb = true := by decide +kernel
theorem qa_cq_5 : (qa_ca 5).all qa_cqb = true := by decide +kernel
theorem qa_cq_6 : (qa_ca 6).all qa_cqb = true := by decide +kernel
theorem qa_cq_7 : (qa_ca 7).all qa_cqb = true := by decide +kernel
theorem qa_cq_8 : (qa_ca 8).all qa_cqb = true := by decide +kernel
theorem qa_cq_9 : (qa_ca 9).all qa_cqb = true := by decide +kernel
theorem qa_cq_10 : (qa_ca 10).all qa_cqb = true := by decide +kernel
theorem qa_cq_11 : (qa_ca 11).all qa_cqb = true := by decide +kernel
theorem qa_cq (k : Nat) (hk : k < 12) : (qa_ca k).all qa_cqb = true := by
  match k, hk with
  | 0, _ => exact qa_cq_0
  | 1, _ => exact qa_cq_1
  | 2, _ => exact qa_cq_2
  | 3, _ => exact qa_cq_3
  | 4, _ => exact qa_cq_4
  | 5, _ => exact qa_cq_5
  | 6, _ => exact qa_cq_6
  | 7, _ => exact qa_cq_7
  | 8, _ => exact qa_cq_8
  | 9, _ => exact qa_cq_9
  | 10, _ => exact qa_cq_10
  | 11, _ => exact qa_cq_11
  | _ + 12, h => exact absurd h (by omega)
theorem qa_cq_at {k i pl : Nat} {M1 : qa_M} {nest : Bool} (hk : k < 12) (h : qa_lk (qa_ca k) i = some (M1, nest, pl)) : (qa_sk M1 = 1 ∨ qa_cl M1 < 11) ∧ qa_cl M1 < 12 ∧ ((qa_hh M1).isEmpty = true ∨ qa_cl M1 = 11) := of_decide_eq_true (List.all_eq_true.mp (qa_cq k hk) _ (qa_lk_mem h))
theorem qa_parse {n : Nat} {d : String} (h : (parseMethodDescriptor d).map (fun d => d.parameters.length) = some n) : ∀ sig, parseMethodDescriptor d = some sig → n = sig.parameters.length := by
  intro sig hs
  rw [hs] at h
  exact (Option.some.inj h).symm
set_option maxHeartbeats 1000000 in
/-- the call itself: the callee's contract stands -/
theorem qa_invW {M1 : qa_M} {nest : Bool} {avs rest : List qa_V} {ins : Instr} {r : qa_Z} (hF : qa_Fr M p R s m args c) (hE : qa_En D ca b L z xs s) (hI : qa_Hp D ca b L z xs φ al h H) (hS : va_S (qa_A z) s.heap H locs) (hsz : ls.size = qa_ml M)
    (hd : decode (qa_by M) pc = .ok (ins, len)) (hinv : qa_inv M h.2 ins len st = some (M1, nest, avs, rest)) (hC : qa_Ok M1 → qa_Ct l D ca b L z xs M1 φ al h avs r) (hthr : (nest = true ∨ qa_sk M1 = 0) → ∃ v, r.1 = .inl v) (hcells : cells + r.2.2.1 ≤ R.cells) (hslots : slots + r.2.2.2 ≤ R.slots) :
    ∃ a, vx_Run p l e R s m args below meth c H locs cells slots r.2.2.1 r.2.2.2 (F0 m pc ls (st.map (qa_cv φ))) (rest.map (qa_cv φ)) (qa_Qc D ca b L z xs φ h.1 r.1 r.2.1 a) (qa_Xc D ca b L z xs φ h.1 r.1 r.2.1) (qa_A z) := by
  obtain ⟨hx, hb, hml, hown, hts, hk, hfr, hlo⟩ := hF
  obtain ⟨i, pl, hins, hlk, rfl, hna, rfl, hc8, hcl, hf1, hl1, hhh, hrc⟩ := qa_inv_sp hinv
  obtain ⟨hok, hw1, hw2⟩ := qa_ca_at hk hlk
  obtain ⟨g1, g2, g3, g4, g5, g6, g7, g8, g9, g10, g11⟩ := qa_mk_sp hok.2
  have hC := hC hok
  have hR1 : (qa_rm M1 r.2.2.1 r.2.2.2).frames + 1 ≤ R.frames := Nat.le_trans hf1 hfr
  have hR2 : 8 + (qa_ml M1 + 11) + (qa_rm M1 r.2.2.1 r.2.2.2).locals ≤ R.locals := by
    show 8 + (qa_ml M1 + 11) + qa_lo M1 ≤ R.locals
    omega
  have hini : (Cond.initialized (qa_nm M1).cls).before args s = true := hts _ (by rw [g1]; exact qa_ini _)
  have hfix : CallFix p m c (qa_by M) (qa_ml M) s args qa_gw (qa_cn (qa_cl M)) := ⟨hx, hb, hml, hown, hts⟩
  have hPU : ∀ U : State, U.heap = H → s.WarmedH U.vm → qa_Pc D ca b L z xs φ al h avs (avs.map (qa_cv φ)).toArray U := fun U hU hW => ⟨rfl, qa_En_warm hW hU hS hE, by rw [hU]; exact hI⟩
  have hpay := qa_pay (M := M1) hts g8
  have hst : ∀ av : List qa_V, (av.reverse ++ rest).map (qa_cv φ) = (av.map (qa_cv φ)).reverse ++ rest.map (qa_cv φ) := fun av => by rw [List.map_append, List.map_reverse]
  have hroom : 2 * (F0 m pc ls ((avs.reverse ++ rest).map (qa_cv φ))).monitorRoom + ((rest.map (qa_cv φ)).map fun v => v.category).sum ≤ 8 := lv_room (by rw [qa_cats]; exact hc8)
  by_cases hem : (qa_hh M1).isEmpty = true
  · have hcw : qa_cw M1 = .code (qa_nm M1) (qa_by M1) (qa_ml M1) (qa_rt M1) := by unfold qa_cw; rw [if_pos hem]
    have hcin : Cond.code (qa_nm M1) (qa_by M1) (qa_ml M1) (qa_rt M1) ∈ qa_mw M1 := by unfold qa_mw; rw [hcw]; exact List.mem_cons_self
    have hcb : (Cond.code (qa_nm M1) (qa_by M1) (qa_ml M1) (qa_rt M1)).before args s = true := hts _ (by rw [← hcw]; exact g8)
    rcases hins with ⟨rfl, hsk⟩ | ⟨rfl, hsk⟩ | ⟨rfl, hsk⟩
    · rcases hrc with hrc | ⟨x, as, f, rfl, hxf⟩
      · omega
      · rw [if_neg (by omega)] at g4 g9
        have hal : x ∈ al := hI.2.2.1 x (by rw [hxf]; exact decide_eq_true ((qa_cq_at hk hlk).1.resolve_left (by omega)))
        obtain ⟨q0, -, hq0⟩ := qa_w_at (φ := φ) (ca := ca) (h := h.2) hal
        rw [hxf] at hq0
        obtain ⟨q, hq⟩ : ∃ q, vwCl[qa_cl M1]? = some q := by
          obtain ⟨r9, h9, -⟩ := hI.1 q0 _ hq0
          exact ⟨r9, h9⟩
        have hrecv := va_recv hE.1 hI.1 hq hq0
        rw [(qa_ft_ok hq).2.2.2, ← g1] at hrecv
        have hsel := hts _ (g10 hsk)
        rw [← g1] at hsel
        have hlen : (as.map (qa_cv φ)).length = qa_na M1 - 1 := by rw [List.length_map, ← hna]; rfl
        refine ⟨(Value.ref (φ x) :: as.map (qa_cv φ)).toArray, ?_⟩
        have hpre : PreV s H (qa_nm M1).cls (φ x) (qa_Pc D ca b L z xs φ al h (.inl x :: as)) (as.map (qa_cv φ)) := ⟨qa_Pc_blind, hrecv, hPU⟩
        have hstk : (F0 m pc ls (((.inl x :: as : List qa_V).reverse ++ rest).map (qa_cv φ))).stack = (as.map (qa_cv φ)).reverse ++ .ref (φ x) :: rest.map (qa_cv φ) := by
          show ((.inl x :: as : List qa_V).reverse ++ rest).map (qa_cv φ) = _
          rw [hst, List.map_cons, List.reverse_cons, List.append_assoc]
          rfl
        by_cases hn : nest = true
        · obtain ⟨v, hv⟩ := hthr (Or.inl hn)
          exact qa_run (va_runVN hfix (qa_Met hv hC) ⟨⟨⟨rfl, rfl, hR1, hR2, hpay, hcin⟩, hcb, hini, g2, qa_parse g4, (hE.2.1 _ (hw2 hn)).use rfl⟩, hts _ g9, hsel⟩ hpre rfl hlen hsz hstk hroom hd ⟨hcells, hslots⟩)
        · exact vx_runV hfix hC ⟨⟨rfl, rfl, hR1, hR2, hpay, hcin, hcb, hini, g2, qa_parse g4, hts _ (hw1 (Bool.eq_false_iff.mpr hn))⟩, hts _ g9, hsel⟩ hpre rfl hlen hsz hstk hroom hd ⟨hcells, hslots⟩
    · rcases hrc with hrc | ⟨x, as, f, rfl, hxf⟩
      · omega
      · rw [if_neg (by omega)] at g4 g9
        obtain ⟨v, hv⟩ := hthr (Or.inr hsk)
        have hlen : (as.map (qa_cv φ)).length = qa_na M1 - 1 := by rw [List.length_map, ← hna]; rfl
        refine ⟨(Value.ref (φ x) :: as.map (qa_cv φ)).toArray, ?_⟩
        have hpre : PreS s H (qa_Pc D ca b L z xs φ al h (.inl x :: as)) (.ref (φ x) :: as.map (qa_cv φ)) := ⟨qa_Pc_blind, hPU⟩
        have hstk : (F0 m pc ls (((.inl x :: as : List qa_V).reverse ++ rest).map (qa_cv φ))).stack = (as.map (qa_cv φ)).reverse ++ .ref (φ x) :: rest.map (qa_cv φ) := by
          show ((.inl x :: as : List qa_V).reverse ++ rest).map (qa_cv φ) = _
          rw [hst, List.map_cons, List.reverse_cons, List.append_assoc]
          rfl
        rw [g11 hsk] at hcin hcb
        by_cases hn : nest = true
        · exact qa_run (va_runIN hfix (qa_Met hv hC) ⟨⟨⟨rfl, rfl, hR1, hR2, hpay, hcin⟩, hcb, hini, g2, qa_parse g4, (hE.2.1 _ (hw2 hn)).use rfl⟩, g6.mp hsk, hts _ g9⟩ hpre rfl hlen hsz hstk hroom hd ⟨hcells, hslots⟩)
        · exact qa_run (va_runI hfix (qa_Met hv hC) ⟨⟨rfl, rfl, hR1, hR2, hpay, hcin, hcb, hini, g2, qa_parse g4, hts _ (hw1 (Bool.eq_false_iff.mpr hn))⟩, g6.mp hsk, hts _ g9⟩ hpre rfl hlen hsz hstk hroom hd ⟨hcells, hslots⟩)
    · rw [if_pos hsk] at g4 g9
      have hlen : (avs.map (qa_cv φ)).length = qa_na M1 := by rw [List.length_map, hna]
      refine ⟨(avs.map (qa_cv φ)).toArray, ?_⟩
      have hpre : PreS s H (qa_Pc D ca b L z xs φ al h avs) (avs.map (qa_cv φ)) := ⟨qa_Pc_blind, hPU⟩
      by_cases hn : nest = true
      · obtain ⟨v, hv⟩ := hthr (Or.inl hn)
        exact qa_run (va_runSN hfix (qa_Met hv hC) ⟨⟨⟨rfl, rfl, hR1, hR2, hpay, hcin⟩, hcb, hini, g2, qa_parse g4, (hE.2.1 _ (hw2 hn)).use rfl⟩, hts _ g9, trivial⟩ hpre rfl hlen hsz (hst avs) hroom hd ⟨hcells, hslots⟩)
      · exact vx_runS hfix hC ⟨⟨rfl, rfl, hR1, hR2, hpay, hcin, hcb, hini, g2, qa_parse g4, hts _ (hw1 (Bool.eq_false_iff.mpr hn))⟩, hts _ g9⟩ hpre rfl hlen hsz (hst avs) hroom hd ⟨hcells, hslots⟩
  · obtain ⟨hsk, hn⟩ := hhh.resolve_left hem
    have hcw : qa_cw M1 = .codeWith (qa_nm M1) (qa_by M1) (qa_ml M1) (qa_rt M1) (qa_hh M1) := by unfold qa_cw; rw [if_neg hem]
    have hcin : Cond.codeWith (qa_nm M1) (qa_by M1) (qa_ml M1) (qa_rt M1) (qa_hh M1) ∈ qa_mw M1 := by unfold qa_mw; rw [hcw]; exact List.mem_cons_self
    have hcb : (Cond.codeWith (qa_nm M1) (qa_by M1) (qa_ml M1) (qa_rt M1) (qa_hh M1)).before args s = true := hts _ (by rw [← hcw]; exact g8)
    rw [if_pos hsk] at g4 g9
    rcases hins with ⟨rfl, hsk2⟩ | ⟨rfl, hsk2⟩ | ⟨rfl, -⟩
    · omega
    · omega
    · have hlen : (avs.map (qa_cv φ)).length = qa_na M1 := by rw [List.length_map, hna]
      refine ⟨(avs.map (qa_cv φ)).toArray, ?_⟩
      have hpre : PreS s H (qa_Pc D ca b L z xs φ al h avs) (avs.map (qa_cv φ)) := ⟨qa_Pc_blind, hPU⟩
      exact vx_runSX hfix hC ⟨⟨rfl, rfl, hR1, hR2, hpay, hcin⟩, hcb, hini, g2, qa_parse g4, hts _ (hw1 hn), hts _ g9⟩ hpre rfl hlen hsz (hst avs) hroom hd ⟨hcells, hslots⟩
end QCO
