section
-- ===== PART A: goes FIRST, ahead of the names: the tables' words, and 'selects' of the private methods out of them =====
/-- a private method of a class that the tables say can be made, by its rows of tables_1 -/
def lw_okq (q : MethodName × Nat) : Prop := (q.1.cls ≠ "java/lang/invoke/MethodHandle" ∧ q.1.cls ≠ "java/lang/invoke/VarHandle") ∧ Cond.instantiable q.1.cls q.2 ∈ tables_1 ∧ Cond.privateMethod q.1 ∈ tables_1 ∧ Cond.instanceMethod q.1 ∈ tables_1
theorem lw_p0 : lw_okq (⟨"java/lang/Throwable", "fillInStackTrace", "(I)Ljava/lang/Throwable;"⟩, 6) := ⟨⟨by decide +kernel, by decide +kernel⟩, List.mem_of_getElem? (i := 384) (by decide +kernel), List.mem_of_getElem? (i := 382) (by decide +kernel), List.mem_of_getElem? (i := 383) (by decide +kernel)⟩
theorem lw_p1 : lw_okq (⟨"SlideBonfire", "waitOnTrial", "()I"⟩, 6) := ⟨⟨by decide +kernel, by decide +kernel⟩, List.mem_of_getElem? (i := 18) (by decide +kernel), List.mem_of_getElem? (i := 819) (by decide +kernel), List.mem_of_getElem? (i := 820) (by decide +kernel)⟩
theorem lw_p2 : lw_okq (⟨"SlideBonfire", "missesOnTrial", "(I)I"⟩, 6) := ⟨⟨by decide +kernel, by decide +kernel⟩, List.mem_of_getElem? (i := 18) (by decide +kernel), List.mem_of_getElem? (i := 912) (by decide +kernel), List.mem_of_getElem? (i := 913) (by decide +kernel)⟩
def lw_privs_1 : List (MethodName × Nat) := [(⟨"java/lang/Throwable", "fillInStackTrace", "(I)Ljava/lang/Throwable;"⟩, 6), (⟨"SlideBonfire", "waitOnTrial", "()I"⟩, 6), (⟨"SlideBonfire", "missesOnTrial", "(I)I"⟩, 6)]
theorem lw_r1 : ∀ q ∈ lw_privs_1, lw_okq q := List.forall_mem_cons.mpr ⟨lw_p0, List.forall_mem_cons.mpr ⟨lw_p1, List.forall_mem_cons.mpr ⟨lw_p2, fun _ h => absurd h List.not_mem_nil⟩⟩⟩
def lw_privs : List (MethodName × Nat) := lw_privs_1
def lw_tbl : List Cond := k2_sels lw_privs ++ tables_1
theorem lw_privs_ok : ∀ q ∈ lw_privs, lw_okq q := lw_r1
/-- the streams that the claim lets the run draw from -/
abbrev lw_cs : List Choice := [Jvm.Choice.named "NaN.bits"]
theorem lw_bits : nanBits ∈ lw_cs := by first | decide | exact List.mem_cons_self | simp [lw_cs, nanBits]
end
section
/-! ===== BEGIN words of one list among another's, by their places ===== -/
theorem goodIn_r {big : List Cond} (ws : List Cond) (ps : List Nat) (hp : ws = ps.filterMap (fun i => big[i]?)) (h : ws.all goodWord = true) : GoodIn big ws := by
  intro w hw
  have h1 := List.all_eq_true.mp h w hw
  rw [hp] at hw
  obtain ⟨i, -, hi⟩ := List.mem_filterMap.mp hw
  have hm : w ∈ big := by first | exact List.mem_of_getElem? hi | exact List.getElem?_mem hi
  exact ⟨hm, good_of_word h1⟩
theorem goodIn_app {big a b : List Cond} (ha : GoodIn big a) (hb : GoodIn big b) : GoodIn big (a ++ b) := fun w h => (List.mem_append.mp h).elim (ha w) (hb w)
theorem goodIn_ca {big a b : List Cond} {c : Cond} (ha : GoodIn big (c :: a)) (hb : GoodIn big b) : GoodIn big (c :: (a ++ b)) := fun w h => (List.mem_cons.mp h).elim (fun e => ha w (List.mem_cons.mpr (Or.inl e))) (fun h => (List.mem_append.mp h).elim (fun h => ha w (List.mem_cons.mpr (Or.inr h))) (hb w))
theorem goodIn_sub {big ws : List Cond} (hm : ∀ w ∈ ws, w ∈ big) (h : ws.all goodWord = true) : GoodIn big ws := fun w hw => ⟨hm w hw, good_of_word (List.all_eq_true.mp h w hw)⟩
/-! ===== END ===== -/

/-! ===== BEGIN exceptions that leave a method, and their catching by the caller (launches without stack traces) ===== -/
section VXA
/-! The laws vx_back, vx_callV, vx_callS, vx_callSW, vx_throw0, vx_throwS follow proofs of the library, with one case more: JvmDerived/Free/Laws.lean (Back.of_free), Shelf42/LK1.lean (callV, callS), Shelf/KitTraced.lean (throwNew0V, throwNewS). -/
/-- where a method has thrown q: the class by its name, the cell, what was written, the world -/
def vx_T (XC : String → State → State → Prop) (st : State) (q : Addr) (t : State) (mc ms : Nat) (free : Addr → Prop) : Prop :=
  ∃ (E : String) (ce : Cell) (L : List Loc), XC E st t ∧ t.heap[q]? = some ce ∧ ce.vm = .none ∧ st.vm.findClass E = some ce.cls ∧ st.WarmedH t.vm ∧ st.sameButNew ({ t with vm := st.vm } : State) L mc ms ∧ ∀ z ∈ L, free z.base
def vx_Q (Qc : Array Value → State → Outcome → State → Prop) (XC : String → State → State → Prop) (mc ms : Nat) (free : Addr → Prop) : Array Value → State → Outcome → State → Prop := fun a st o t =>
  (Qc a st o t ∧ ∃ L, FrameEnd st o t L mc ms ∧ ∀ q ∈ L, free q.base) ∨ ∃ q, o = .threw q ∧ vx_T XC st q t mc ms free
/-- a callee that returns or throws -/
def vx_Met (l : Launch) (y : MethodName) (ws : List Cond) (rm : Room) (Pc : Array Value → State → Prop) (Qc : Array Value → State → Outcome → State → Prop) (XC : String → State → State → Prop) (mc ms : Nat) (free : Addr → Prop) : Prop :=
  MetFree l y (headSpec ws rm) Pc (fun _ _ _ _ _ => True) (vx_Q Qc XC mc ms free)
def vx_Post (XC : String → State → State → Prop) (mc ms : Nat) (free : Addr → Prop) : Pt → Array Value → Addr → Pt → Prop := fun A a q B =>
  ∃ (g : JFrame) (mk : MethodId) (t : State) (L : List Loc) (E : String) (ce : Cell), B.U.heap = t.heap ∧ B.U.vm = t.vm ∧ XC E (A.U.calling g mk a) t ∧ t.heap[q]? = some ce ∧ ce.vm = .none ∧ A.U.vm.findClass E = some ce.cls ∧ B.locs = A.locs ++ L ∧ (∀ z ∈ L, free z.base) ∧ B.cells = A.cells + mc ∧ B.slots = A.slots + ms
def vx_Back (l : Launch) (R : Room) (p : Program) (e : Env) (below : List Frame) (s : State) (sargs : Array Value) (y : MethodName) (len W9 : Nat)
    (Pre : Pt → Array Value → Prop) (Post : Pt → Array Value → Option Value → Pt → Prop) (PostX : Pt → Array Value → Addr → Pt → Prop) : Prop :=
  ∀ (m : MethodId) (meth : Method) (c : Code) (A : Pt) (g : JFrame) (ig : Instr) (mk : MethodId) (a : Array Value),
    Stand p l e R s m sargs below meth c A.U A.locs A.cells A.slots → g.method = m → g.locals.size = c.maxLocals → decode c.code g.pc = .ok (ig, len) →
    2 * g.monitorRoom + (g.stack.map fun v => v.category).sum ≤ W9 → A.U.methodNamed? y = some mk → Pre A a →
    (∃ (v : Option Value) (B : Pt), Stand p l e R s m sargs below meth c B.U B.locs B.cells B.slots ∧ Post A a v B ∧
      Steps p.tables e below (doInvoke e (A.U.setTop g) [] mk a).1 (B.U.setTop { g with pc := g.pc + len, stack := v.toList ++ g.stack })) ∨
    (∃ (q : Addr) (B : Pt), Stand p l e R s m sargs below meth c B.U B.locs B.cells B.slots ∧ PostX A a q B ∧
      Steps p.tables e below (doInvoke e (A.U.setTop g) [] mk a).1 ((B.U.setTop g).pushFrame (.throwing q)))
section Payer
variable {l : Launch} {R : Room} {p : Program} {e : Env} {below : List Frame} {s : State} {sargs : Array Value} {y : MethodName} {len W9 : Nat}
theorem vx_back {ws : List Cond} {rm : Room} {Pc : Array Value → State → Prop} {Qc : Array Value → State → Outcome → State → Prop} {XC : String → State → State → Prop} {mc ms : Nat} {free : Addr → Prop} {bytes : ByteArray} {maxL : Nat} {ret : Option FieldType}
    (hM : vx_Met l y ws rm Pc Qc XC mc ms free) (hblind : FrameBlind Pc) (hrc : rm.cells = mc) (hrs : rm.slots = ms)
    (hframes : rm.frames + 1 ≤ R.frames) (hlocals : W9 + (maxL + 11) + rm.locals ≤ R.locals)
    (hws : ∀ w ∈ ws, ∀ a' U, s.WarmedH U.vm → w.before a' U = true) (hcode : Cond.code y bytes maxL ret ∈ ws) (hinit : ∀ a' U, s.WarmedH U.vm → (Cond.initialized y.cls).before a' U = true) :
    vx_Back l R p e below s sargs y len W9 (PreOf R mc ms Pc) (PostOf Qc mc ms free) (vx_Post XC mc ms free) := by
  intro m meth c A g ig mk a X hg hsize hdg hW hn hp
  have h1 : (headSpec ws rm).pre.before a A.U = true := atoms_intro fun w hw => hws w hw _ _ X.warmed
  have h2 : (Cond.code y bytes maxL ret).before a A.U = true := hws _ hcode _ _ X.warmed
  have h3 : (Cond.initialized y.cls).before a A.U = true := hinit _ _ X.warmed
  have h4 : A.cells + (headSpec ws rm).room.cells ≤ R.cells := by rw [show (headSpec ws rm).room.cells = mc from hrc]; exact hp.1
  have h5 : A.slots + (headSpec ws rm).room.slots ≤ R.slots := by rw [show (headSpec ws rm).room.slots = ms from hrs]; exact hp.2.1
  have hPc : Pc a (A.U.calling g mk a) := hblind _ _ _ _ hp.2.2
  obtain ⟨U, Ls, c0, s0⟩ := A
  dsimp only [Pt.U, Pt.locs, Pt.cells, Pt.slots] at h1 h2 h3 h4 h5 X hn hPc ⊢
  obtain ⟨methY, cY, hmY, hcY, -, hlY, -, -, -, -⟩ := Cond.code_spec hn h2
  obtain ⟨kY, hkY, -⟩ := className_of_methodNamed hn
  have hinitY : kY.init = .initialized := Cond.initialized_spec (findClass_of_methodNamed hn) hkY h3
  have h : At U g.method c below := by rw [hg]; exact X.here
  have hlocals9 : W9 + (maxL + 11) + (headSpec ws rm).room.locals ≤ R.locals := hlocals
  have happ : (headSpec ws rm).appliesLoose y e.platform (U.calling g mk a) = true :=
    Spec.appliesLoose_calling (g := g) h hdg hn hkY hinitY
      (X.room_calling (g := g) (R' := (headSpec ws rm).room) hsize hmY hcY hframes (by rw [hlY]; omega) h4 h5) h1
  obtain ⟨mid, hmid⟩ := h.above
  have hfr : (U.setTop g).frames = (.java g :: mid) ++ below := by rw [State.frames_setTop' g h.top, hmid]; rfl
  obtain ⟨o, s₂, hsteps, -, hend, hq⟩ := Steps.callFree hM p X.admits X.cas X.clock (acts := []) hfr happ hPc trivial
  have hq' : vx_Q Qc XC mc ms free a (U.calling g mk a) o s₂ := hq
  rw [State.frames_setTop' g h.top] at hend
  obtain ⟨g₀, hg0⟩ := Option.isSome_iff_exists.mp h.top
  obtain ⟨r, hr⟩ := State.topJava?_eq_some.mp hg0
  have hr' : (({ U with heap := s₂.heap, slotsUsed := s₂.slotsUsed } : State).setVm s₂.vm).frames = .java g₀ :: r := hr
  rcases hq' with ⟨hqc, L, hfe, hL⟩ | ⟨q, rfl, E, ce, L, hx, hce, hcv, hcl, hW₂, hsm, hL⟩
  · obtain ⟨⟨v, rfl⟩, hW₂, e2, q2, q3, q4, q5, q6⟩ := id hfe
    have e3 : s₂ = ({ (U.calling g mk a).setFrames s₂.frames with heap := s₂.heap, slotsUsed := s₂.slotsUsed } : State).setVm s₂.vm := by
      have : s₂ = ({ s₂ with vm := (U.calling g mk a).vm } : State).setVm s₂.vm := rfl
      rw [e2] at this
      exact this
    obtain ⟨c₂, i₂, len₂, hc₂, hd₂, hf₂⟩ := hend
    have hW' : U.WarmedH s₂.vm := hW₂
    have hcc : c₂ = c := by
      have h1 : s₂.code? g.method = U.code? g.method := by
        rw [State.code?_eq, State.code?_eq, hW'.alike.method?]
      exact Option.some.inj (hc₂.symm.trans (h1.trans h.code))
    subst hcc
    have hlen : len₂ = len := by rw [hdg] at hd₂; cases hd₂; rfl
    subst hlen
    have hs₂ : s₂ = (({ U with heap := s₂.heap, slotsUsed := s₂.slotsUsed } : State).setVm s₂.vm).setTop { g with pc := g.pc + len₂, stack := v.toList ++ g.stack } := by
      refine e3.trans ?_
      rw [hf₂, State.calling_eq h.top, State.setFrames_setFrames, State.setTop_of_frames _ hr', hr]
      rfl
    have hsame : U.sameButNew ({ U with heap := s₂.heap, slotsUsed := s₂.slotsUsed } : State) L mc ms := by
      refine ⟨?_, q2, q3, q4, q5, q6⟩
      obtain ⟨t, ht, -⟩ := State.frames_cons hr
      show ({ U with heap := s₂.heap, slotsUsed := s₂.slotsUsed } : State) = { U.setFrames U.frames with heap := s₂.heap, slotsUsed := s₂.slotsUsed }
      rw [State.setFrames_self ht]
    subst hg
    refine Or.inl ⟨v, ⟨(({ U with heap := s₂.heap, slotsUsed := s₂.slotsUsed } : State).setVm s₂.vm), Ls ++ L, c0 + mc, s0 + ms⟩,
      ⟨X.admits, X.cas, X.clock, X.frames, X.room, X.hears, X.method, X.code, (X.here.setHeapUsed s₂.heap s₂.slotsUsed).setVm hW'.alike, X.tail, State.WarmedH.trans X.warmed hW', X.limits, X.bytes, X.same.trans (hsame.setVm s.vm)⟩,
      ⟨g, mk, s₂, L, rfl, rfl, hqc, rfl, hL, rfl, rfl⟩, ?_⟩
    show Steps p.tables e below _ ((({ U with heap := s₂.heap, slotsUsed := s₂.slotsUsed } : State).setVm s₂.vm).setTop { g with pc := g.pc + len₂, stack := v.toList ++ g.stack })
    rw [← hs₂]
    exact hsteps
  · obtain ⟨e2, q2, q3, q4, q5, q6⟩ := id hsm
    have e3 : s₂ = ({ (U.calling g mk a).setFrames s₂.frames with heap := s₂.heap, slotsUsed := s₂.slotsUsed } : State).setVm s₂.vm := by
      have : s₂ = ({ s₂ with vm := (U.calling g mk a).vm } : State).setVm s₂.vm := rfl
      rw [e2] at this
      exact this
    have hf₂ : s₂.frames = .throwing q :: .java g :: U.frames.tail := hend
    have hW' : U.WarmedH s₂.vm := hW₂
    have hs₂ : s₂ = ((({ U with heap := s₂.heap, slotsUsed := s₂.slotsUsed } : State).setVm s₂.vm).setTop g).pushFrame (.throwing q) := by
      refine e3.trans ?_
      rw [hf₂, State.calling_eq h.top, State.setFrames_setFrames, State.pushFrame, State.frames_setTop _ hr', State.setTop_of_frames _ hr', State.setFrames_setFrames, hr]
      rfl
    have hsame : U.sameButNew ({ U with heap := s₂.heap, slotsUsed := s₂.slotsUsed } : State) L mc ms := by
      refine ⟨?_, q2, q3, q4, q5, q6⟩
      obtain ⟨t, ht, -⟩ := State.frames_cons hr
      show ({ U with heap := s₂.heap, slotsUsed := s₂.slotsUsed } : State) = { U.setFrames U.frames with heap := s₂.heap, slotsUsed := s₂.slotsUsed }
      rw [State.setFrames_self ht]
    subst hg
    refine Or.inr ⟨q, ⟨(({ U with heap := s₂.heap, slotsUsed := s₂.slotsUsed } : State).setVm s₂.vm), Ls ++ L, c0 + mc, s0 + ms⟩,
      ⟨X.admits, X.cas, X.clock, X.frames, X.room, X.hears, X.method, X.code, (X.here.setHeapUsed s₂.heap s₂.slotsUsed).setVm hW'.alike, X.tail, State.WarmedH.trans X.warmed hW', X.limits, X.bytes, X.same.trans (hsame.setVm s.vm)⟩,
      ⟨g, mk, s₂, L, E, ce, rfl, rfl, hx, hce, hcv, hcl, rfl, hL, rfl, rfl⟩, ?_⟩
    show Steps p.tables e below _ (((({ U with heap := s₂.heap, slotsUsed := s₂.slotsUsed } : State).setVm s₂.vm).setTop g).pushFrame (.throwing q))
    rw [← hs₂]
    exact hsteps
end Payer
section Calls
variable {p : Program} {l : Launch} {e : Env} {R : Room} {s : State} {m : MethodId} {args : Array Value} {below : List Frame} {meth : Method} {c : Code} {T : State} {locs : List Loc} {cells slots : Nat}
theorem vx_callV (X : Stand p l e R s m args below meth c T locs cells slots) (hexec : p.tables.exec = Jvm.exec) {own C : String} {index : Nat} {y : MethodName} {bytes : ByteArray} {maxL : Nat} {ret : Option FieldType}
    (hown : s.vm.findClass own = some m.cls) (hlink : (Cond.methodLink own index y).before args s = true) (hinst : (Cond.instanceMethod y).before args s = true) (hsel : (Cond.selects C y y).before args s = true)
    (hcode : (Cond.code y bytes maxL ret).before args s = true) (hy : y.cls ≠ "java/lang/invoke/MethodHandle" ∧ y.cls ≠ "java/lang/invoke/VarHandle")
    {W9 : Nat} {Pre : Pt → Array Value → Prop} {Post : Pt → Array Value → Option Value → Pt → Prop} {PostX : Pt → Array Value → Addr → Pt → Prop} (hK : vx_Back l R p e below s args y 3 W9 Pre Post PostX)
    {b : Addr} {cellB : Cell} (hcell : T.heap[b]? = some cellB) (hobj : cellB.vm.isStatics = false) (hcls : s.vm.findClass C = some cellB.cls)
    {g : JFrame} (hg : g.method = m) (hsize : g.locals.size = c.maxLocals) {argsL rest : List Value} (hlen : ∀ sig, parseMethodDescriptor y.desc = some sig → argsL.length = sig.parameters.length)
    (hstack : g.stack = argsL.reverse ++ .ref b :: rest) (hW : 2 * g.monitorRoom + (rest.map fun v => v.category).sum ≤ W9) (hdg : decode c.code g.pc = .ok (.invokevirtual index, 3))
    (hpre : ∀ vm₁, s.WarmedH vm₁ → Pre ⟨T.setVm vm₁, locs, cells, slots⟩ (Value.ref b :: argsL).toArray) :
    (∃ (v : Option Value) (vm₁ : Vm) (B : Pt), s.WarmedH vm₁ ∧ Stand p l e R s m args below meth c B.U B.locs B.cells B.slots ∧ Post ⟨T.setVm vm₁, locs, cells, slots⟩ (Value.ref b :: argsL).toArray v B ∧
      ∀ target, Steps p.tables e below (B.U.setTop { g with pc := g.pc + 3, stack := v.toList ++ rest }) target → Steps p.tables e below (T.setTop g) target) ∨
    (∃ (q : Addr) (vm₁ : Vm) (B : Pt), s.WarmedH vm₁ ∧ Stand p l e R s m args below meth c B.U B.locs B.cells B.slots ∧ PostX ⟨T.setVm vm₁, locs, cells, slots⟩ (Value.ref b :: argsL).toArray q B ∧
      Steps p.tables e below (T.setTop g) ((B.U.setTop { g with stack := rest }).pushFrame (.throwing q))) := by
  obtain ⟨mk, methM, hnamed, hmethM, hstM, habM⟩ := Cond.instanceMethod_spec hinst
  obtain ⟨methM', cM, hmethM', -, -, -, -, -, -, hsigM⟩ := Cond.code_spec hnamed hcode
  cases hmethM.symm.trans hmethM'
  obtain ⟨c2, r2, m2, q1, q2, q3, q4, kP, hkP, hkPi⟩ := Cond.selects_spec hsel
  cases hcls.symm.trans q1
  cases (State.methodFound?_of_named hnamed hy).symm.trans q2
  cases hnamed.symm.trans q3
  have hselP : selectMethod e.platform s.vm cellB.cls mk = .method mk := by rw [Launch.admits_selectMethod X.admits]; exact q4
  obtain ⟨vm₁, X₁, hstep₁⟩ := X.invokevirtual hexec hown hlink hnamed hmethM hstM hkP hkPi hy (a := b) (cell := cellB) hcell
    (fun z h => by rw [h] at hobj; cases hobj) hselP hmethM habM hkP hkPi (g := g) hg (argsL := argsL) (rest := rest) (hlen _ hsigM) hstack hdg
  rcases hK m meth c ⟨T.setVm vm₁, locs, cells, slots⟩ { g with stack := rest } (.invokevirtual index) mk (Value.ref b :: argsL).toArray X₁ hg hsize hdg hW (X₁.named hnamed) (hpre vm₁ X₁.warmed) with ⟨v, B, X', hpost, hsteps⟩ | ⟨q, B, X', hpost, hsteps⟩
  · exact Or.inl ⟨v, vm₁, B, X₁.warmed, X', hpost, fun target h => hstep₁ _ fun acts => by rw [doInvoke_state]; exact hsteps.trans h⟩
  · exact Or.inr ⟨q, vm₁, B, X₁.warmed, X', hpost, hstep₁ _ fun acts => by rw [doInvoke_state]; exact hsteps⟩
theorem vx_callS (X : Stand p l e R s m args below meth c T locs cells slots) (hexec : p.tables.exec = Jvm.exec) {own : String} {index : Nat} {y : MethodName} {bytes : ByteArray} {maxL : Nat} {ret : Option FieldType}
    (hown : s.vm.findClass own = some m.cls) (hlink : (Cond.methodLink own index y).before args s = true) (hstat : (Cond.static y).before args s = true) (hinit : (Cond.initialized y.cls).before args s = true)
    (hcode : (Cond.code y bytes maxL ret).before args s = true) (hy : y.cls ≠ "java/lang/invoke/MethodHandle" ∧ y.cls ≠ "java/lang/invoke/VarHandle")
    {W9 : Nat} {Pre : Pt → Array Value → Prop} {Post : Pt → Array Value → Option Value → Pt → Prop} {PostX : Pt → Array Value → Addr → Pt → Prop} (hK : vx_Back l R p e below s args y 3 W9 Pre Post PostX)
    {g : JFrame} (hg : g.method = m) (hsize : g.locals.size = c.maxLocals) {argsL rest : List Value} (hlen : ∀ sig, parseMethodDescriptor y.desc = some sig → argsL.length = sig.parameters.length)
    (hstack : g.stack = argsL.reverse ++ rest) (hW : 2 * g.monitorRoom + (rest.map fun v => v.category).sum ≤ W9) (hdg : decode c.code g.pc = .ok (.invokestatic index, 3))
    (hpre : ∀ vm₁, s.WarmedH vm₁ → Pre ⟨T.setVm vm₁, locs, cells, slots⟩ argsL.toArray) :
    (∃ (v : Option Value) (vm₁ : Vm) (B : Pt), s.WarmedH vm₁ ∧ Stand p l e R s m args below meth c B.U B.locs B.cells B.slots ∧ Post ⟨T.setVm vm₁, locs, cells, slots⟩ argsL.toArray v B ∧
      ∀ target, Steps p.tables e below (B.U.setTop { g with pc := g.pc + 3, stack := v.toList ++ rest }) target → Steps p.tables e below (T.setTop g) target) ∨
    (∃ (q : Addr) (vm₁ : Vm) (B : Pt), s.WarmedH vm₁ ∧ Stand p l e R s m args below meth c B.U B.locs B.cells B.slots ∧ PostX ⟨T.setVm vm₁, locs, cells, slots⟩ argsL.toArray q B ∧
      Steps p.tables e below (T.setTop g) ((B.U.setTop { g with stack := rest }).pushFrame (.throwing q))) := by
  obtain ⟨mk, hnamed⟩ := Cond.code_named hcode
  obtain ⟨methM, cM, hmethM, -, -, -, -, -, -, hsigM⟩ := Cond.code_spec hnamed hcode
  have hstatic : methM.isStatic = true := Cond.static_spec hnamed hmethM hstat
  obtain ⟨kP, hkP, -⟩ := className_of_methodNamed hnamed
  have hinitP : kP.init = .initialized := Cond.initialized_spec (findClass_of_methodNamed hnamed) hkP hinit
  obtain ⟨vm₁, X₁, hstep₁⟩ := X.invokestatic hexec hown hlink hnamed hmethM hstatic hkP hinitP hy (g := g) hg (argsL := argsL) (rest := rest) (hlen _ hsigM) hstack hdg
  rcases hK m meth c ⟨T.setVm vm₁, locs, cells, slots⟩ { g with stack := rest } (.invokestatic index) mk argsL.toArray X₁ hg hsize hdg hW (X₁.named hnamed) (hpre vm₁ X₁.warmed) with ⟨v, B, X', hpost, hsteps⟩ | ⟨q, B, X', hpost, hsteps⟩
  · exact Or.inl ⟨v, vm₁, B, X₁.warmed, X', hpost, fun target h => hstep₁ _ fun acts => by rw [doInvoke_state]; exact hsteps.trans h⟩
  · exact Or.inr ⟨q, vm₁, B, X₁.warmed, X', hpost, hstep₁ _ fun acts => by rw [doInvoke_state]; exact hsteps⟩
end Calls
theorem vx_cls {s : State} {T : State} {vm₁ : Vm} {E : String} {k : ClassId} (hW : s.WarmedH vm₁) (h : (T.setVm vm₁).vm.findClass E = some k) : s.vm.findClass E = some k := by
  have h1 : vm₁.findClass E = some k := h
  rw [hW.alike.findClass] at h1
  exact h1
/-- the method's frame g, with q thrown over it -/
def vx_W (p : Program) (l : Launch) (e : Env) (R : Room) (s : State) (m : MethodId) (args : Array Value) (below : List Frame) (meth : Method) (c : Code) (H : Heap) (locs : List Loc) (cells slots : Nat) (Q : State → Prop) (g : JFrame) (q : Addr) : Prop :=
  ∀ T : State, T.heap = H → Stand p l e R s m args below meth c T locs cells slots → ∃ t, Steps p.tables e below ((T.setTop g).pushFrame (.throwing q)) t ∧ Q t
def vx_Run (p : Program) (l : Launch) (e : Env) (R : Room) (s : State) (m : MethodId) (args : Array Value) (below : List Frame) (meth : Method) (c : Code) (H : Heap) (locs : List Loc) (cells slots mc ms : Nat) (g : JFrame) (rest : List Value) (Qa : State → Outcome → State → Prop) (XC : String → State → State → Prop) (free : Addr → Prop) : Prop :=
  ∀ T : State, T.heap = H → Stand p l e R s m args below meth c T locs cells slots →
    (∃ (v : Option Value) (st₀ t T' : State) (L : List Loc), st₀.heap = H ∧ Stand p l e R s m args below meth c T' (locs ++ L) (cells + mc) (slots + ms) ∧ (∀ q ∈ L, free q.base) ∧ T'.heap = t.heap ∧ T'.vm = t.vm ∧ Qa st₀ (.returned v) t ∧
      Goes p e below T g T' { g with pc := g.pc + 3, stack := v.toList ++ rest }) ∨
    (∃ (q : Addr) (st₀ t T' : State) (L : List Loc) (E : String) (ce : Cell), st₀.heap = H ∧ Stand p l e R s m args below meth c T' (locs ++ L) (cells + mc) (slots + ms) ∧ (∀ z ∈ L, free z.base) ∧ T'.heap = t.heap ∧ T'.vm = t.vm ∧ XC E st₀ t ∧ t.heap[q]? = some ce ∧ ce.vm = .none ∧ s.vm.findClass E = some ce.cls ∧
      Steps p.tables e below (T.setTop g) ((T'.setTop { g with stack := rest }).pushFrame (.throwing q)))
def vx_X {S : Type} (px : S → Prop) (B : String → S → State → Prop) (A : Nat → Prop) : String → State → State → Prop := fun E st t => ∃ u : S, px u ∧ B E u t ∧ va_F A st t
section Runs
variable {p : Program} {l : Launch} {e : Env} {R : Room} {s : State} {m : MethodId} {args : Array Value} {below : List Frame} {meth : Method} {c : Code} {H : Heap} {locs : List Loc} {cells slots : Nat}
variable {y : MethodName} {bytes cc : ByteArray} {maxL nL mc ms n index : Nat} {ret : Option FieldType} {ws : List Cond} {rm : Room} {Pc : Array Value → State → Prop} {Qc : Array Value → State → Outcome → State → Prop} {XC : String → State → State → Prop} {free : Addr → Prop} {Ts : List Cond} {own C : String} {b : Addr} {As rest : List Value} {g : JFrame}
theorem vx_callBack (cb : CallB R s args own index y bytes maxL ret ws rm mc ms n) (hM : vx_Met l y ws rm Pc Qc XC mc ms free) (hbl : FrameBlind Pc) : vx_Back l R p e below s args y 3 8 (PreOf R mc ms Pc) (PostOf Qc mc ms free) (vx_Post XC mc ms free) := by
  obtain ⟨hrc, hrs, hfr, hlo, hws, hcw, -, hini, -⟩ := cb
  exact vx_back (bytes := bytes) (maxL := maxL) (ret := ret) hM hbl hrc hrs hfr hlo hws hcw (fun a' U hW => word_at hW (Or.inl (by first | rfl | simp [Cond.onTables, Cond.keeps, Cond.steady])) hini)
theorem vx_runV (S : CallFix p m c cc nL s args Ts own) (hM : vx_Met l y ws rm Pc Qc XC mc ms free) (cw : CallW R s args own C index y bytes maxL ret ws rm mc ms n) (hp : PreV s H C b Pc As)
    (hg : g.method = m) (hn : As.length = n) (hsize : g.locals.size = nL) (hstack : g.stack = As.reverse ++ .ref b :: rest) (hW : 2 * g.monitorRoom + (rest.map fun v => v.category).sum ≤ 8) (hdg : decode cc g.pc = .ok (.invokevirtual index, 3)) (hf : cells + mc ≤ R.cells ∧ slots + ms ≤ R.slots) :
    vx_Run p l e R s m args below meth c H locs cells slots mc ms g rest (Qc (Value.ref b :: As).toArray) XC free := by
  have hK : vx_Back l R p e below s args y 3 8 (PreOf R mc ms Pc) (PostOf Qc mc ms free) (vx_Post XC mc ms free) := vx_callBack cw.1 hM hp.1
  obtain ⟨⟨-, -, -, -, -, -, hcode, -, hy, hlen, hl⟩, hin, hse⟩ := cw
  obtain ⟨hx, hb, hml, ho, -⟩ := S
  obtain ⟨-, ⟨cellB, hcB, hoB, hclB⟩, hPc⟩ := hp
  intro T hT X
  rcases vx_callV X hx (C := C) (bytes := bytes) (maxL := maxL) (ret := ret) ho hl hin hse hcode hy hK (by rw [hT]; exact hcB) hoB hclB hg (hsize.trans hml.symm) (argsL := As) (rest := rest) (fun sig h => hn.trans (hlen sig h)) hstack hW (by rw [hb]; exact hdg)
    (fun vm₁ hW₁ => ⟨hf.1, hf.2, hPc (T.setVm vm₁) hT hW₁⟩) with ⟨v, vm₁, ⟨U', l2, c2, s2⟩, hW₁, X', ⟨g', mk, t, L, e1, e2, hq, h1, hL, h2, h3⟩, st⟩ | ⟨q, vm₁, ⟨U', l2, c2, s2⟩, hW₁, X', ⟨g', mk, t, L, E, ce, e1, e2, hq, hce, hcv, hcl, h1, hL, h2, h3⟩, st⟩
  · dsimp only [Pt.U, Pt.locs, Pt.cells, Pt.slots] at X' e1 e2 h1 h2 h3 st
    subst h1; subst h2; subst h3
    exact Or.inl ⟨v, (T.setVm vm₁).calling g' mk (Value.ref b :: As).toArray, t, U', L, hT, X', hL, e1, e2, hq, st⟩
  · dsimp only [Pt.U, Pt.locs, Pt.cells, Pt.slots] at X' e1 e2 h1 h2 h3 st hcl
    subst h1; subst h2; subst h3
    exact Or.inr ⟨q, (T.setVm vm₁).calling g' mk (Value.ref b :: As).toArray, t, U', L, E, ce, hT, X', hL, e1, e2, hq, hce, hcv, vx_cls hW₁ hcl, st⟩
theorem vx_runS (S : CallFix p m c cc nL s args Ts own) (hM : vx_Met l y ws rm Pc Qc XC mc ms free) (cw : CallB R s args own index y bytes maxL ret ws rm mc ms n ∧ (Cond.static y).before args s = true) (hp : PreS s H Pc As)
    (hg : g.method = m) (hn : As.length = n) (hsize : g.locals.size = nL) (hstack : g.stack = As.reverse ++ rest) (hW : 2 * g.monitorRoom + (rest.map fun v => v.category).sum ≤ 8) (hdg : decode cc g.pc = .ok (.invokestatic index, 3)) (hf : cells + mc ≤ R.cells ∧ slots + ms ≤ R.slots) :
    vx_Run p l e R s m args below meth c H locs cells slots mc ms g rest (Qc As.toArray) XC free := by
  have hK : vx_Back l R p e below s args y 3 8 (PreOf R mc ms Pc) (PostOf Qc mc ms free) (vx_Post XC mc ms free) := vx_callBack cw.1 hM hp.1
  obtain ⟨⟨-, -, -, -, -, -, hcode, hini, hy, hlen, hl⟩, hstt⟩ := cw
  obtain ⟨hx, hb, hml, ho, -⟩ := S
  intro T hT X
  rcases vx_callS X hx (bytes := bytes) (maxL := maxL) (ret := ret) ho hl hstt hini hcode hy hK hg (hsize.trans hml.symm) (argsL := As) (rest := rest) (fun sig h => hn.trans (hlen sig h)) hstack hW (by rw [hb]; exact hdg)
    (fun vm₁ hW₁ => ⟨hf.1, hf.2, hp.2 (T.setVm vm₁) hT hW₁⟩) with ⟨v, vm₁, ⟨U', l2, c2, s2⟩, hW₁, X', ⟨g', mk, t, L, e1, e2, hq, h1, hL, h2, h3⟩, st⟩ | ⟨q, vm₁, ⟨U', l2, c2, s2⟩, hW₁, X', ⟨g', mk, t, L, E, ce, e1, e2, hq, hce, hcv, hcl, h1, hL, h2, h3⟩, st⟩
  · dsimp only [Pt.U, Pt.locs, Pt.cells, Pt.slots] at X' e1 e2 h1 h2 h3 st
    subst h1; subst h2; subst h3
    exact Or.inl ⟨v, (T.setVm vm₁).calling g' mk As.toArray, t, U', L, hT, X', hL, e1, e2, hq, st⟩
  · dsimp only [Pt.U, Pt.locs, Pt.cells, Pt.slots] at X' e1 e2 h1 h2 h3 st hcl
    subst h1; subst h2; subst h3
    exact Or.inr ⟨q, (T.setVm vm₁).calling g' mk As.toArray, t, U', L, E, ce, hT, X', hL, e1, e2, hq, hce, hcv, vx_cls hW₁ hcl, st⟩
end Runs
section Rows
variable {p : Program} {l : Launch} {e : Env} {R : Room} {s : State} {m : MethodId} {args : Array Value} {below : List Frame} {meth : Method} {c : Code} {H : Heap} {locs : List Loc} {cells slots : Nat} {Q : State → Prop}
variable {mc ms : Nat} {free : Addr → Prop} {A0 A1 : Nat → Prop} {H0 : Heap} {a : Array Value} {pc : Nat} {ls : Array Slot} {st0 rest : List Value}
theorem vx_keep {st₀ t T' : State} {L : List Loc} (h0 : st₀.heap = H) (e1 : T'.heap = t.heap) (hS : va_S A0 H0 H locs) (hA : ∀ q, q < H.size → A1 q → A0 q) (hf : ∀ q, free q → A0 q) (hL : ∀ q ∈ L, free q.base) (hF : va_F A1 st₀ t) :
    H.size ≤ T'.heap.size ∧ (∀ q : Nat, q < H.size → ¬ A1 q → T'.heap[q]? = H[q]?) ∧ va_S A0 H0 T'.heap (locs ++ L) := by
  obtain ⟨hz, hk⟩ := hF
  rw [h0] at hz hk
  exact ⟨by rw [e1]; exact hz, fun q h1 h2 => by rw [e1]; exact hk q h1 h2,
    ⟨Nat.le_trans hS.1 (by rw [e1]; exact hz), fun q h1 h2 => by rw [e1, hk q (Nat.lt_of_lt_of_le h1 hS.1) (fun z => h2 (hA q (Nat.lt_of_lt_of_le h1 hS.1) z))]; exact hS.2.1 q h1 h2, fun q hq => by
      rcases List.mem_append.mp hq with h | h
      · exact hS.2.2 q h
      · exact hf _ (hL q h)⟩⟩
theorem vx_calli {S SX : Type} {post : Int32 → S → Prop} {px : SX → Prop} {B : S → State → Prop} {BX : String → SX → State → Prop} {AX : Nat → Prop} (hr : vx_Run p l e R s m args below meth c H locs cells slots mc ms (F0 m pc ls st0) rest (va_Qi post B A1 a) (vx_X px BX AX) free) (hS : va_S A0 H0 H locs) (hA : ∀ q, q < H.size → A1 q → A0 q) (hf : ∀ q, free q → A0 q) (hAX : ∀ q, q < H.size → AX q → A0 q)
    (kx : ∀ (E : String) (ce : Cell) (q9 : Addr) (u : SX) (t : State) (H1 : Heap) (locs1 : List Loc), t.heap = H1 → s.vm.Alike t.vm → px u → BX E u t → H.size ≤ H1.size → (∀ q : Nat, q < H.size → ¬ AX q → H1[q]? = H[q]?) → va_S A0 H0 H1 locs1 → H1[q9]? = some ce → ce.vm = .none → s.vm.findClass E = some ce.cls → vx_W p l e R s m args below meth c H1 locs1 (cells + mc) (slots + ms) Q (F0 m pc ls rest) q9)
    (kk : ∀ (r : Int32) (u : S) (t : State) (H1 : Heap) (locs1 : List Loc), t.heap = H1 → s.vm.Alike t.vm → post r u → B u t → H.size ≤ H1.size → (∀ q : Nat, q < H.size → ¬ A1 q → H1[q]? = H[q]?) → va_S A0 H0 H1 locs1 → W p l e R s m args below meth c H1 locs1 (cells + mc) (slots + ms) Q (F0 m (pc + 3) ls (.int r :: rest))) : W p l e R s m args below meth c H locs cells slots Q (F0 m pc ls st0) := by
  intro T hT X
  rcases hr T hT X with ⟨v, st₀, t, T', L, h0, X', hL, e1, e2, ⟨⟨r, u, hv, hp, hb⟩, hF⟩, st⟩ | ⟨q, st₀, t, T', L, E, ce, h0, X', hL, e1, e2, ⟨u, hp, hb, hF⟩, hce, hcv, hcl, st⟩
  · cases hv
    obtain ⟨k1, k2, k3⟩ := vx_keep h0 e1 hS hA hf hL hF
    obtain ⟨t2, a1, b1⟩ := kk r u t T'.heap (locs ++ L) e1.symm (by rw [← e2]; exact X'.warmed.alike) hp hb k1 k2 k3 T' rfl X'
    exact ⟨t2, st t2 a1, b1⟩
  · obtain ⟨k1, k2, k3⟩ := vx_keep h0 e1 hS hAX hf hL hF
    obtain ⟨t2, a1, b1⟩ := kx E ce q u t T'.heap (locs ++ L) e1.symm (by rw [← e2]; exact X'.warmed.alike) hp hb k1 k2 k3 (by rw [e1]; exact hce) hcv hcl T' rfl X'
    exact ⟨t2, st.trans a1, b1⟩
theorem vx_calll {S SX : Type} {post : Int64 → S → Prop} {px : SX → Prop} {B : S → State → Prop} {BX : String → SX → State → Prop} {AX : Nat → Prop} (hr : vx_Run p l e R s m args below meth c H locs cells slots mc ms (F0 m pc ls st0) rest (va_Ql post B A1 a) (vx_X px BX AX) free) (hS : va_S A0 H0 H locs) (hA : ∀ q, q < H.size → A1 q → A0 q) (hf : ∀ q, free q → A0 q) (hAX : ∀ q, q < H.size → AX q → A0 q)
    (kx : ∀ (E : String) (ce : Cell) (q9 : Addr) (u : SX) (t : State) (H1 : Heap) (locs1 : List Loc), t.heap = H1 → s.vm.Alike t.vm → px u → BX E u t → H.size ≤ H1.size → (∀ q : Nat, q < H.size → ¬ AX q → H1[q]? = H[q]?) → va_S A0 H0 H1 locs1 → H1[q9]? = some ce → ce.vm = .none → s.vm.findClass E = some ce.cls → vx_W p l e R s m args below meth c H1 locs1 (cells + mc) (slots + ms) Q (F0 m pc ls rest) q9)
    (kk : ∀ (r : Int64) (u : S) (t : State) (H1 : Heap) (locs1 : List Loc), t.heap = H1 → s.vm.Alike t.vm → post r u → B u t → H.size ≤ H1.size → (∀ q : Nat, q < H.size → ¬ A1 q → H1[q]? = H[q]?) → va_S A0 H0 H1 locs1 → W p l e R s m args below meth c H1 locs1 (cells + mc) (slots + ms) Q (F0 m (pc + 3) ls (.long r :: rest))) : W p l e R s m args below meth c H locs cells slots Q (F0 m pc ls st0) := by
  intro T hT X
  rcases hr T hT X with ⟨v, st₀, t, T', L, h0, X', hL, e1, e2, ⟨⟨r, u, hv, hp, hb⟩, hF⟩, st⟩ | ⟨q, st₀, t, T', L, E, ce, h0, X', hL, e1, e2, ⟨u, hp, hb, hF⟩, hce, hcv, hcl, st⟩
  · cases hv
    obtain ⟨k1, k2, k3⟩ := vx_keep h0 e1 hS hA hf hL hF
    obtain ⟨t2, a1, b1⟩ := kk r u t T'.heap (locs ++ L) e1.symm (by rw [← e2]; exact X'.warmed.alike) hp hb k1 k2 k3 T' rfl X'
    exact ⟨t2, st t2 a1, b1⟩
  · obtain ⟨k1, k2, k3⟩ := vx_keep h0 e1 hS hAX hf hL hF
    obtain ⟨t2, a1, b1⟩ := kx E ce q u t T'.heap (locs ++ L) e1.symm (by rw [← e2]; exact X'.warmed.alike) hp hb k1 k2 k3 (by rw [e1]; exact hce) hcv hcl T' rfl X'
    exact ⟨t2, st.trans a1, b1⟩
theorem vx_callf {S SX : Type} {post : UInt32 → S → Prop} {px : SX → Prop} {B : S → State → Prop} {BX : String → SX → State → Prop} {AX : Nat → Prop} (hr : vx_Run p l e R s m args below meth c H locs cells slots mc ms (F0 m pc ls st0) rest (va_Qf post B A1 a) (vx_X px BX AX) free) (hS : va_S A0 H0 H locs) (hA : ∀ q, q < H.size → A1 q → A0 q) (hf : ∀ q, free q → A0 q) (hAX : ∀ q, q < H.size → AX q → A0 q)
    (kx : ∀ (E : String) (ce : Cell) (q9 : Addr) (u : SX) (t : State) (H1 : Heap) (locs1 : List Loc), t.heap = H1 → s.vm.Alike t.vm → px u → BX E u t → H.size ≤ H1.size → (∀ q : Nat, q < H.size → ¬ AX q → H1[q]? = H[q]?) → va_S A0 H0 H1 locs1 → H1[q9]? = some ce → ce.vm = .none → s.vm.findClass E = some ce.cls → vx_W p l e R s m args below meth c H1 locs1 (cells + mc) (slots + ms) Q (F0 m pc ls rest) q9)
    (kk : ∀ (r : UInt32) (u : S) (t : State) (H1 : Heap) (locs1 : List Loc), t.heap = H1 → s.vm.Alike t.vm → post r u → B u t → H.size ≤ H1.size → (∀ q : Nat, q < H.size → ¬ A1 q → H1[q]? = H[q]?) → va_S A0 H0 H1 locs1 → W p l e R s m args below meth c H1 locs1 (cells + mc) (slots + ms) Q (F0 m (pc + 3) ls (.float r :: rest))) : W p l e R s m args below meth c H locs cells slots Q (F0 m pc ls st0) := by
  intro T hT X
  rcases hr T hT X with ⟨v, st₀, t, T', L, h0, X', hL, e1, e2, ⟨⟨r, u, hv, hp, hb⟩, hF⟩, st⟩ | ⟨q, st₀, t, T', L, E, ce, h0, X', hL, e1, e2, ⟨u, hp, hb, hF⟩, hce, hcv, hcl, st⟩
  · cases hv
    obtain ⟨k1, k2, k3⟩ := vx_keep h0 e1 hS hA hf hL hF
    obtain ⟨t2, a1, b1⟩ := kk r u t T'.heap (locs ++ L) e1.symm (by rw [← e2]; exact X'.warmed.alike) hp hb k1 k2 k3 T' rfl X'
    exact ⟨t2, st t2 a1, b1⟩
  · obtain ⟨k1, k2, k3⟩ := vx_keep h0 e1 hS hAX hf hL hF
    obtain ⟨t2, a1, b1⟩ := kx E ce q u t T'.heap (locs ++ L) e1.symm (by rw [← e2]; exact X'.warmed.alike) hp hb k1 k2 k3 (by rw [e1]; exact hce) hcv hcl T' rfl X'
    exact ⟨t2, st.trans a1, b1⟩
theorem vx_calld {S SX : Type} {post : UInt64 → S → Prop} {px : SX → Prop} {B : S → State → Prop} {BX : String → SX → State → Prop} {AX : Nat → Prop} (hr : vx_Run p l e R s m args below meth c H locs cells slots mc ms (F0 m pc ls st0) rest (va_Qd post B A1 a) (vx_X px BX AX) free) (hS : va_S A0 H0 H locs) (hA : ∀ q, q < H.size → A1 q → A0 q) (hf : ∀ q, free q → A0 q) (hAX : ∀ q, q < H.size → AX q → A0 q)
    (kx : ∀ (E : String) (ce : Cell) (q9 : Addr) (u : SX) (t : State) (H1 : Heap) (locs1 : List Loc), t.heap = H1 → s.vm.Alike t.vm → px u → BX E u t → H.size ≤ H1.size → (∀ q : Nat, q < H.size → ¬ AX q → H1[q]? = H[q]?) → va_S A0 H0 H1 locs1 → H1[q9]? = some ce → ce.vm = .none → s.vm.findClass E = some ce.cls → vx_W p l e R s m args below meth c H1 locs1 (cells + mc) (slots + ms) Q (F0 m pc ls rest) q9)
    (kk : ∀ (r : UInt64) (u : S) (t : State) (H1 : Heap) (locs1 : List Loc), t.heap = H1 → s.vm.Alike t.vm → post r u → B u t → H.size ≤ H1.size → (∀ q : Nat, q < H.size → ¬ A1 q → H1[q]? = H[q]?) → va_S A0 H0 H1 locs1 → W p l e R s m args below meth c H1 locs1 (cells + mc) (slots + ms) Q (F0 m (pc + 3) ls (.double r :: rest))) : W p l e R s m args below meth c H locs cells slots Q (F0 m pc ls st0) := by
  intro T hT X
  rcases hr T hT X with ⟨v, st₀, t, T', L, h0, X', hL, e1, e2, ⟨⟨r, u, hv, hp, hb⟩, hF⟩, st⟩ | ⟨q, st₀, t, T', L, E, ce, h0, X', hL, e1, e2, ⟨u, hp, hb, hF⟩, hce, hcv, hcl, st⟩
  · cases hv
    obtain ⟨k1, k2, k3⟩ := vx_keep h0 e1 hS hA hf hL hF
    obtain ⟨t2, a1, b1⟩ := kk r u t T'.heap (locs ++ L) e1.symm (by rw [← e2]; exact X'.warmed.alike) hp hb k1 k2 k3 T' rfl X'
    exact ⟨t2, st t2 a1, b1⟩
  · obtain ⟨k1, k2, k3⟩ := vx_keep h0 e1 hS hAX hf hL hF
    obtain ⟨t2, a1, b1⟩ := kx E ce q u t T'.heap (locs ++ L) e1.symm (by rw [← e2]; exact X'.warmed.alike) hp hb k1 k2 k3 (by rw [e1]; exact hce) hcv hcl T' rfl X'
    exact ⟨t2, st.trans a1, b1⟩
theorem vx_callv {S SX : Type} {post : S → Prop} {px : SX → Prop} {B : S → State → Prop} {BX : String → SX → State → Prop} {AX : Nat → Prop} (hr : vx_Run p l e R s m args below meth c H locs cells slots mc ms (F0 m pc ls st0) rest (va_Qv post B A1 a) (vx_X px BX AX) free) (hS : va_S A0 H0 H locs) (hA : ∀ q, q < H.size → A1 q → A0 q) (hf : ∀ q, free q → A0 q) (hAX : ∀ q, q < H.size → AX q → A0 q)
    (kx : ∀ (E : String) (ce : Cell) (q9 : Addr) (u : SX) (t : State) (H1 : Heap) (locs1 : List Loc), t.heap = H1 → s.vm.Alike t.vm → px u → BX E u t → H.size ≤ H1.size → (∀ q : Nat, q < H.size → ¬ AX q → H1[q]? = H[q]?) → va_S A0 H0 H1 locs1 → H1[q9]? = some ce → ce.vm = .none → s.vm.findClass E = some ce.cls → vx_W p l e R s m args below meth c H1 locs1 (cells + mc) (slots + ms) Q (F0 m pc ls rest) q9)
    (kk : ∀ (u : S) (t : State) (H1 : Heap) (locs1 : List Loc), t.heap = H1 → s.vm.Alike t.vm → post u → B u t → H.size ≤ H1.size → (∀ q : Nat, q < H.size → ¬ A1 q → H1[q]? = H[q]?) → va_S A0 H0 H1 locs1 → W p l e R s m args below meth c H1 locs1 (cells + mc) (slots + ms) Q (F0 m (pc + 3) ls (rest))) : W p l e R s m args below meth c H locs cells slots Q (F0 m pc ls st0) := by
  intro T hT X
  rcases hr T hT X with ⟨v, st₀, t, T', L, h0, X', hL, e1, e2, ⟨⟨u, hv, hp, hb⟩, hF⟩, st⟩ | ⟨q, st₀, t, T', L, E, ce, h0, X', hL, e1, e2, ⟨u, hp, hb, hF⟩, hce, hcv, hcl, st⟩
  · cases hv
    obtain ⟨k1, k2, k3⟩ := vx_keep h0 e1 hS hA hf hL hF
    obtain ⟨t2, a1, b1⟩ := kk u t T'.heap (locs ++ L) e1.symm (by rw [← e2]; exact X'.warmed.alike) hp hb k1 k2 k3 T' rfl X'
    exact ⟨t2, st t2 a1, b1⟩
  · obtain ⟨k1, k2, k3⟩ := vx_keep h0 e1 hS hAX hf hL hF
    obtain ⟨t2, a1, b1⟩ := kx E ce q u t T'.heap (locs ++ L) e1.symm (by rw [← e2]; exact X'.warmed.alike) hp hb k1 k2 k3 (by rw [e1]; exact hce) hcv hcl T' rfl X'
    exact ⟨t2, st.trans a1, b1⟩
/-- caught by the row x of this method's table; the rows ahead don't take it -/
theorem vx_catch {own name : String} {E : String} {ce : Cell} {q : Addr} (hown : s.vm.findClass own = some m.cls) (pre : List ExceptionTableEntry) (x : ExceptionTableEntry) (suf : List ExceptionTableEntry) (hsplit : c.exceptionTable.toList = pre ++ x :: suf)
    (hpass : ∀ z ∈ pre, covers z pc = false ∨ (z.catchType ≠ 0 ∧ ∃ nm : String, (Cond.classLink own z.catchType nm).before args s = true ∧ va_Nc E nm s)) (hx : covers x pc = true) (h0 : x.catchType ≠ 0)
    (hlink : (Cond.classLink own x.catchType name).before args s = true) (hcast : (Cond.castable E name).before args s = true) (hcell : H[q]? = some ce) (hv : ce.vm = .none) (hcl : s.vm.findClass E = some ce.cls)
    (kk : W p l e R s m args below meth c H locs cells slots Q (F0 m x.handlerPc ls [.ref q])) : vx_W p l e R s m args below meth c H locs cells slots Q (F0 m pc ls rest) q := by
  intro T hT X
  have hpl : e.platform.magicAccessors = ({} : Platform).magicAccessors := by rw [X.admits.platform]
  obtain ⟨c3, c4, hc3, hc4, hasg⟩ := Cond.castable_spec hcast
  cases Option.some.inj (hc3.symm.trans hcl)
  obtain ⟨c5, hc5, hcl5⟩ := Cond.classLink_spec hown hlink e.platform hpl
  cases Option.some.inj (hc4.symm.trans hc5)
  obtain ⟨vm', X', st⟩ := X.thenCaughtThrough q (g := F0 m pc ls rest) rfl (Steps.refl _) (by rw [hT]; exact hcell) (by rw [hv]; rfl) (by obtain ⟨k9, h9, -⟩ := Vm.findClass_spec hcl; exact ⟨k9, h9⟩) pre x suf hsplit
    (fun z hz => by
      rcases hpass z hz with h | ⟨hz0, nm, hl1, hn1⟩
      · exact Or.inl h
      · obtain ⟨c6, hc6, hcl6⟩ := Cond.classLink_spec hown hl1 e.platform hpl
        obtain ⟨a8, b8, h1, h2, h3⟩ := hn1
        cases Option.some.inj (h1.symm.trans hcl)
        cases Option.some.inj (h2.symm.trans hc6)
        exact Or.inr ⟨hz0, _, hcl6, h3⟩) hx (Or.inr ⟨h0, c4, hcl5, hasg⟩)
  obtain ⟨t, a1, b1⟩ := kk (T.setVm vm') hT X'
  exact ⟨t, st.trans a1, b1⟩
end Rows
section Ends
variable {p : Program} {l : Launch} {e : Env} {R : Room} {s : State} {m : MethodId} {args : Array Value} {below : List Frame} {meth : Method} {c : Code} {H : Heap} {locs : List Loc} {cells slots : Nat} {Q : State → Prop}
variable {mc ms : Nat} {free : Addr → Prop} {A0 A1 : Nat → Prop} {H0 : Heap} {a : Array Value} {ls : Array Slot} {st0 rest : List Value}
variable {Qc : Array Value → State → Outcome → State → Prop} {XC : String → State → State → Prop}
/-- what a body that may throw owes at its end -/
def vx_MQ (below : List Frame) (Qc : Array Value → State → Outcome → State → Prop) (XC : String → State → State → Prop) (a : Array Value) (s : State) (mc ms : Nat) (free : Addr → Prop) : State → Prop := fun t =>
  ∃ o, t.status = .running ∧ Ended t below o ∧ vx_Q Qc XC mc ms free a s o t
theorem vx_ret {g : JFrame} {mc ms : Nat} (k : W p l e R s m args below meth c H locs cells slots (MQ below Qc args s mc ms free) g) : W p l e R s m args below meth c H locs cells slots (vx_MQ below Qc XC args s mc ms free) g := by
  intro T hT X
  obtain ⟨t, a1, o, b1, b2, b3, b4⟩ := k T hT X
  exact ⟨t, a1, o, b1, b2, Or.inl ⟨b3, b4⟩⟩
/-- not caught here: it goes on to the caller -/
theorem vx_widen {g : JFrame} {q : Addr} {k n : Nat} (h1 : cells ≤ k) (h2 : slots ≤ n) (kk : vx_W p l e R s m args below meth c H locs k n Q g q) : vx_W p l e R s m args below meth c H locs cells slots Q g q := fun T hT X => kk T hT (stand_widen X h1 h2)
theorem vx_out {pc : Nat} {E : String} {ce : Cell} {q : Addr} {mc ms : Nat} (hout : ∀ x ∈ c.exceptionTable.toList, covers x pc = false) (hlocks : meth.locks = false) (hcell : H[q]? = some ce) (hv : ce.vm = .none) (hcl : s.vm.findClass E = some ce.cls)
    (hx : ∀ t : State, t.heap = H → s.vm.Alike t.vm → XC E s t) (hf : ∀ z ∈ locs, free z.base) (hc : cells ≤ mc) (hs : slots ≤ ms) :
    vx_W p l e R s m args below meth c H locs cells slots (vx_MQ below Qc XC args s mc ms free) (F0 m pc ls rest) q := by
  intro T hT X
  obtain ⟨st1, hrun, hend, hW, hsm⟩ := X.leaveThrown q (g := F0 m pc ls rest) rfl rfl rfl hout hlocks
  have hcell9 : (T.setFrames (.throwing q :: below)).heap[q]? = some ce := by
    show T.heap[q]? = some ce
    rw [hT]; exact hcell
  exact ⟨_, st1, .threw q, hrun, hend, Or.inr ⟨q, rfl, E, ce, locs, hx _ hT hW.alike, hcell9, hv, hcl, hW, hsm.mono hc hs, hf⟩⟩
theorem vx_frame {U : State} {k n : Nat} (h : s.sameButNew ({ U with vm := s.vm } : State) locs k n) : s.heap.size ≤ U.heap.size ∧ ∀ q : Nat, q < s.heap.size → (∀ z ∈ locs, z.base ≠ q) → U.heap[q]? = s.heap[q]? := by
  obtain ⟨-, h2, -, -, -, h6⟩ := h
  refine ⟨h2, fun q hq hz => ?_⟩
  obtain ⟨c9, e1, e2, e3, e4⟩ := h6 q _ (Array.getElem?_eq_getElem hq)
  have hs : c9.slots = (s.heap[q]).slots := Array.ext_getElem? fun i => e4 i fun hm => hz _ hm rfl
  have h9 : c9 = s.heap[q] := by
    rw [hs] at e2
    exact e2
  have e5 : U.heap[q]? = some c9 := e1
  rw [e5, h9, Array.getElem?_eq_getElem hq]
/-- the words of a throw but the four that speak of the heap -/
def vx_no (w : Cond) : Bool := decide (w ≠ .isRef (.static Bundle.tN "UNASSIGNED_STACK" Bundle.steD)) && decide (w ≠ .isRef (.static Bundle.tN "SUPPRESSED_SENTINEL" Bundle.listD)) && decide (w ≠ .laysStatic Bundle.tN "UNASSIGNED_STACK" Bundle.steD) && decide (w ≠ .laysStatic Bundle.tN "SUPPRESSED_SENTINEL" Bundle.listD)
def vx_at0 (own : String) (ic : Nat) (X : String) (names : List String) : List Cond := (Bundle.ownAtoms0 own ic X names).filter vx_no
def vx_atS (own : String) (ic : Nat) (X : String) (names : List String) : List Cond := (Bundle.ownAtoms own ic X names).filter vx_no
/-- a word that the tables alone decide, or a good one -/
def vx_ot (w : Cond) : Bool := w.onTables || goodWord w
theorem vx_ot_at {args a' : Array Value} {s U : State} {w : Cond} (hW : s.WarmedH U.vm) (hvm : s.vm = U.vm) (hg : vx_ot w = true) (h : w.before args s = true) : w.before a' U = true := by
  simp only [vx_ot, Bool.or_eq_true] at hg
  rcases hg with hg | hg
  · exact va_tabs hg hvm h
  · exact word_at hW (good_of_word hg) h
/-- a list's words: the good ones out of the method's own list, the others by premises of their own -/
theorem vx_hat {args : Array Value} {s : State} {L B : List Cond} (h1 : ∀ w ∈ L.filter goodWord, w.before args s = true) (h2 : ∀ w ∈ L.filter (fun w => !goodWord w), w ∈ B) (h3 : ∀ w ∈ B, w.before args s = true) : ∀ w ∈ L, w.before args s = true := by
  intro w hw
  by_cases g : goodWord w = true
  · exact h1 w (List.mem_filter.mpr ⟨hw, g⟩)
  · refine h3 w (h2 w (List.mem_filter.mpr ⟨hw, ?_⟩))
    show (!goodWord w) = true
    cases hgw : goodWord w
    · rfl
    · exact absurd hgw g
theorem vx_c {args : Array Value} {s : State} {w : Cond} {B : List Cond} (h : w.before args s = true) (t : ∀ w ∈ B, w.before args s = true) : ∀ w' ∈ w :: B, w'.before args s = true := fun w' h' => (List.mem_cons.mp h').elim (fun e => by rw [e]; exact h) (t w')
theorem vx_n {args : Array Value} {s : State} : ∀ w ∈ ([] : List Cond), w.before args s = true := fun _ h => nomatch h
theorem vx_own {args : Array Value} {s : State} {L : List Cond} (h1 : ∀ w ∈ L.filter vx_no, w.before args s = true)
    (hU : (Cond.isRef (.static Bundle.tN "UNASSIGNED_STACK" Bundle.steD)).before args s = true) (hN : (Cond.isRef (.static Bundle.tN "SUPPRESSED_SENTINEL" Bundle.listD)).before args s = true)
    (lU : (Cond.laysStatic Bundle.tN "UNASSIGNED_STACK" Bundle.steD).before args s = true) (lN : (Cond.laysStatic Bundle.tN "SUPPRESSED_SENTINEL" Bundle.listD).before args s = true) : ∀ w ∈ L, w.before args s = true := by
  intro w hw
  by_cases e1 : w = .isRef (.static Bundle.tN "UNASSIGNED_STACK" Bundle.steD)
  · rw [e1]; exact hU
  · by_cases e2 : w = .isRef (.static Bundle.tN "SUPPRESSED_SENTINEL" Bundle.listD)
    · rw [e2]; exact hN
    · by_cases e3 : w = .laysStatic Bundle.tN "UNASSIGNED_STACK" Bundle.steD
      · rw [e3]; exact lU
      · by_cases e4 : w = .laysStatic Bundle.tN "SUPPRESSED_SENTINEL" Bundle.listD
        · rw [e4]; exact lN
        · exact h1 w (List.mem_filter.mpr ⟨hw, by unfold vx_no; rw [decide_eq_true e1, decide_eq_true e2, decide_eq_true e3, decide_eq_true e4]; rfl⟩)
/-- where a static field lies, its class's statics cell in H -/
def vx_L (C n d : String) (A : Nat → Prop) (U : State) (H : Heap) : Prop := ∃ (c : ClassId) (k : Class) (i : Nat) (f : Field) (a : Nat) (cell : Cell), U.vm.findClass C = some c ∧ U.fieldFound? C n d = some (c, k, i, f) ∧ f.isStatic = true ∧ k.statics = some a ∧ H[a]? = some cell ∧ cell.vm.isStatics = true ∧ cell.cls = c ∧ f.slot < cell.slots.size ∧ k.staticTypes[f.slot]? = some f.type ∧ ¬ A a
theorem vx_L.moved {C n d : String} {A : Nat → Prop} {u U : State} {H : Heap} (hvm : u.vm.Alike U.vm) (h : vx_L C n d A u H) : vx_L C n d A U H := by
  obtain ⟨c, k, i, f, a, cell, h1, h2, h3, h4, h5, h6, h7, h8, h9, h10⟩ := h
  obtain ⟨k', hi', he⟩ := State.fieldFound?_setVm hvm h2
  exact ⟨c, k', i, f, a, cell, by rw [hvm.findClass]; exact h1, hi', h3, by rw [he]; exact h4, h5, h6, h7, h8, by rw [he]; exact h9, h10⟩
theorem vx_L.kept {C n d : String} {A : Nat → Prop} {U : State} {H H1 : Heap} (h : vx_L C n d A U H) (hq : ∀ a : Nat, a < H.size → ¬ A a → H1[a]? = H[a]?) : vx_L C n d A U H1 := by
  obtain ⟨c, k, i, f, a, cell, h1, h2, h3, h4, h5, h6, h7, h8, h9, h10⟩ := h
  exact ⟨c, k, i, f, a, cell, h1, h2, h3, h4, by rw [hq a (Array.getElem?_eq_some_iff.mp h5).1 h10]; exact h5, h6, h7, h8, h9, h10⟩
theorem vx_L.narrow {C n d : String} {A B : Nat → Prop} {U : State} {H : Heap} (h : vx_L C n d A U H) (hAB : ∀ q, B q → A q) : vx_L C n d B U H := by
  obtain ⟨c, k, i, f, a, cell, h1, h2, h3, h4, h5, h6, h7, h8, h9, h10⟩ := h
  exact ⟨c, k, i, f, a, cell, h1, h2, h3, h4, h5, h6, h7, h8, h9, fun z => h10 (hAB _ z)⟩
theorem vx_L.word {C n d : String} {A : Nat → Prop} {s : State} {args : Array Value} (h : vx_L C n d A s s.heap) : (Cond.laysStatic C n d).before args s = true := by
  obtain ⟨c, k, i, f, a, cell, h1, h2, h3, h4, h5, h6, h7, h8, h9, -⟩ := h
  show (Cond.laysStatic C n d).holds args s none s [] = true
  exact Cond.laysStatic_of h1 h2 h3 h4 h5 h6 h7 h8 h9
/-- .. and what it holds: null or some reference -/
def vx_Zq (C n d : String) (A : Nat → Prop) (U : State) (H : Heap) : Prop := va_Zq C n d A U H ∧ vx_L C n d A U H
theorem vx_Zq.moved {C n d : String} {A : Nat → Prop} {u U : State} {H : Heap} (hvm : u.vm.Alike U.vm) (h : vx_Zq C n d A u H) : vx_Zq C n d A U H := ⟨va_Zq.moved hvm h.1, vx_L.moved hvm h.2⟩
theorem vx_Zq.kept {C n d : String} {A : Nat → Prop} {U : State} {H H1 : Heap} (h : vx_Zq C n d A U H) (hq : ∀ a : Nat, a < H.size → ¬ A a → H1[a]? = H[a]?) : vx_Zq C n d A U H1 := ⟨va_Zq.kept h.1 hq, vx_L.kept h.2 hq⟩
theorem vx_Zq.narrow {C n d : String} {A B : Nat → Prop} {U : State} {H : Heap} (h : vx_Zq C n d A U H) (hAB : ∀ q, B q → A q) : vx_Zq C n d B U H := ⟨va_Zq.narrow h.1 hAB, vx_L.narrow h.2 hAB⟩
theorem vx_Zqof {args : Array Value} {s : State} {C n d : String} {A : Nat → Prop} (hl : (Cond.laysStatic C n d).before args s = true) (hini : (Cond.initialized C).before args s = true) (h : (Cond.isRef (.static C n d)).before args s = true) (hA : ∀ a : Nat, a < s.heap.size → ¬ A a) : vx_Zq C n d A s s.heap := by
  refine ⟨va_Zqof hl hini h hA, ?_⟩
  obtain ⟨c, k, i, f, a, cell, h1, h2, h3, h4, h5, h6, h7, h8, h9⟩ := Cond.laysStatic_spec hl
  exact ⟨c, k, i, f, a, cell, h1, h2, h3, h4, h5, h6, h7, h8, h9, hA a (Array.getElem?_eq_some_iff.mp h5).1⟩
theorem vx_isRef {C n d : String} {v : Value} {A : Nat → Prop} {s : State} {args : Array Value} (h : va_Z C n d v A s s.heap) (hv : v.isRef = true) : (Cond.isRef (.static C n d)).before args s = true := by
  obtain ⟨cf, kf, fi, f, a, cell, h1, h2, h3, h4, h5, h6, h7, -⟩ := h
  have he : (Term.static C n d).eval args s none [] s = some v := by
    simp [Term.eval, State.fieldNamed?, h1, h2, h4, h5, h6, h7]
  simp only [Cond.before, Cond.holds, Cond.value, he]
  cases v <;> simp_all [Value.isRef]
theorem vx_isRefq {C n d : String} {A : Nat → Prop} {s : State} {args : Array Value} (h : va_Zq C n d A s s.heap) : (Cond.isRef (.static C n d)).before args s = true := by
  rcases h with h | ⟨t, h⟩
  · exact vx_isRef h rfl
  · exact vx_isRef h rfl
/-- the same frame, seen from here: as if the method were called anew in this heap -/
theorem vx_rebase {T : State} (X : Stand p l e R s m args below meth c T locs cells slots) {R' : Room} (hf : R'.frames ≤ R.frames) (hl : R'.locals ≤ R.locals) (hc : cells + R'.cells ≤ R.cells) (hs : slots + R'.slots ≤ R.slots) :
    Stand p l e R' ((T.setVm s.vm).setFrames (.invoking m args :: below)) m args below meth c T [] 0 0 := by
  have htop : (T.setVm s.vm).topJava?.isSome := X.here.top
  have hF : ((T.setVm s.vm).setFrames (.invoking m args :: below)).frames = .invoking m args :: below := State.frames_setFrames _ (State.cur_lt_of_top htop)
  obtain ⟨g₀, hg0⟩ := Option.isSome_iff_exists.mp htop
  obtain ⟨r, hr⟩ := State.topJava?_eq_some.mp hg0
  have hl9 : e.platform.stackLimits (T.setVm s.vm).me = e.platform.stackLimits s.me := X.limits
  have hb9 : (T.setVm s.vm).me.stackBytes = s.me.stackBytes := X.bytes
  refine ⟨X.admits, X.cas, X.clock, hF, ?_, X.hears, X.method, X.code, X.here, X.tail, X.warmed, ?_, ?_, ?_⟩
  · have h := X.room
    have hU : ((T.setVm s.vm).setFrames (.invoking m args :: below)).localsInUse = s.localsInUse := by
      rw [State.localsInUse_invoking hF (meth := meth) (c := c) X.method X.code, State.localsInUse_invoking X.frames X.method X.code]
    simp only [State.hasRoom, Bool.and_eq_true, decide_eq_true_eq] at h ⊢
    obtain ⟨⟨⟨⟨h1, h2, h3, h4, h5, h6⟩, h7⟩, h8⟩, h9⟩ := h
    rw [X.frames, List.length_cons] at h2 h3
    have q1 := X.heapSize
    have q2 := X.used
    simp only [hF, hU, List.length_cons, State.stackLimits_setFrames, State.stackBytes_setFrames, hl9, hb9]
    refine ⟨⟨⟨⟨by omega, by omega, by omega, by omega, by omega, h6⟩, ?_⟩, ?_⟩, X.book⟩
    · show T.heap.size + R'.cells ≤ e.platform.maxCells
      omega
    · show T.slotsUsed + R'.slots ≤ e.platform.maxSlots
      omega
  · rw [State.stackLimits_setFrames]; rfl
  · rw [State.stackBytes_setFrames]; rfl
  · refine ⟨?_, Nat.le_refl _, Nat.le_refl _, ?_, ?_, fun a c9 h9 => ⟨c9, h9, rfl, rfl, fun _ _ => rfl⟩⟩
    · obtain ⟨t, ht, -⟩ := State.frames_cons hr
      show T.setVm s.vm = { ((T.setVm s.vm).setFrames (.invoking m args :: below)).setFrames (T.setVm s.vm).frames with heap := T.heap, slotsUsed := T.slotsUsed }
      rw [State.setFrames_setFrames, State.setFrames_self ht]
      rfl
    · show T.slotsUsed = T.slotsUsed + ((T.heap.toList.drop T.heap.size).map (·.slots.size)).sum
      rw [List.drop_eq_nil_of_le (Nat.le_of_eq Array.length_toList)]
      rfl
    · show ((T.heap.toList.drop T.heap.size).map (·.slots.size)).sum ≤ 0
      rw [List.drop_eq_nil_of_le (Nat.le_of_eq Array.length_toList)]
      exact Nat.le_refl _
/-- 'throw new E()': new; dup; invokespecial; athrow -/
theorem vx_throw0 {cc : ByteArray} {pc : Nat} (hexec : p.tables.exec = Jvm.exec) (hb : c.code = cc) (hl : l.stackTraces = false) {own cls : String} {names : List String} {ik ic mc ms : Nat} {A : Nat → Prop}
    (hown : s.vm.findClass own = some m.cls) (hcls : Bundle.fit cls = true) (hnames : ∀ n ∈ names, Bundle.fit n = true)
    (hk : (Cond.classLink own ik cls).before args s = true) (hini : (Cond.initialized cls).before args s = true) (hat : ∀ w ∈ vx_at0 own ic cls names, w.before args s = true)
    (hgood : ∀ w ∈ Cond.classLink own ik cls :: Cond.initialized cls :: vx_at0 own ic cls names, vx_ot w = true)
    (hU : vx_Zq Bundle.tN "UNASSIGNED_STACK" Bundle.steD A s s.heap) (hN : vx_Zq Bundle.tN "SUPPRESSED_SENTINEL" Bundle.listD A s s.heap) (hS : va_S A s.heap H locs) (hsize : ls.size = c.maxLocals)
    (d0 : decode cc pc = .ok (.new ik, 3)) (d3 : decode cc (pc + 3) = .ok (.dup, 1)) (d4 : decode cc (pc + 4) = .ok (.invokespecial ic, 3)) (d7 : decode cc (pc + 7) = .ok (.athrow, 1))
    (hout : ∀ x ∈ c.exceptionTable.toList, covers x (pc + 7) = false)
    (hRframes : names.length + 3 < R.frames) (hRlocals : (rest.map fun v => v.category).sum + (13 * (names.length + 1) + 42) ≤ R.locals) (hRcells : cells + 1 ≤ R.cells) (hRslots : slots + 6 ≤ R.slots) (hlocks : meth.locks = false)
    (hx : ∀ t : State, s.vm.Alike t.vm → H.size ≤ t.heap.size → (∀ q : Nat, q < H.size → t.heap[q]? = H[q]?) → XC cls s t)
    (hf : ∀ z ∈ locs, free z.base) (hc : cells + 1 ≤ mc) (hs : slots + 6 ≤ ms) :
    W p l e R s m args below meth c H locs cells slots (vx_MQ below Qc XC args s mc ms free) (F0 m pc ls rest) := by
  intro T hT X
  have htr : e.platform.stackTraces = false := (show e.platform.stackTraces = l.stackTraces by rw [X.admits.platform]).trans hl
  have Y := vx_rebase X (R' := { frames := R.frames, locals := R.locals, cells := 1, slots := 6 }) (Nat.le_refl _) (Nat.le_refl _) hRcells hRslots
  obtain ⟨s', hA⟩ : ∃ z, z = (T.setVm s.vm).setFrames (.invoking m args :: below) := ⟨_, rfl⟩
  rw [← hA] at Y
  have hvm : s'.vm = s.vm := by rw [hA]; rfl
  have hhp : s'.heap = H := by rw [hA]; exact hT
  have hW0 : s.WarmedH s'.vm := by rw [hvm]; exact State.WarmedH.refl s
  have hat' : ∀ w ∈ vx_at0 own ic cls names, w.before args s' = true := fun w hw => vx_ot_at hW0 hvm.symm (hgood w (List.mem_cons_of_mem _ (List.mem_cons_of_mem _ hw))) (hat w hw)
  have hk' : (Cond.classLink own ik cls).before args s' = true := vx_ot_at hW0 hvm.symm (hgood _ List.mem_cons_self) hk
  have hini' : (Cond.initialized cls).before args s' = true := vx_ot_at hW0 hvm.symm (hgood _ (List.mem_cons_of_mem _ List.mem_cons_self)) hini
  have hU' : vx_Zq Bundle.tN "UNASSIGNED_STACK" Bundle.steD A s' s'.heap := by rw [hhp]; exact vx_Zq.moved hW0.alike (hU.kept hS.2.1)
  have hN' : vx_Zq Bundle.tN "SUPPRESSED_SENTINEL" Bundle.listD A s' s'.heap := by rw [hhp]; exact vx_Zq.moved hW0.alike (hN.kept hS.2.1)
  have h : ∀ w ∈ Bundle.ownAtoms0 own ic cls names, w.before args s' = true := vx_own hat' (vx_isRefq hU'.1) (vx_isRefq hN'.1) hU'.2.word hN'.2.word
  have hown' : s'.vm.findClass own = some m.cls := by rw [hvm]; exact hown
  have hins : (Cond.instantiable cls 6).before args s' = true := h _ (by simp [Bundle.ownAtoms0])
  obtain ⟨vm₁, cX, kX, hfX, hkX, -, -, X₁, st1⟩ := Y.newCold hexec (own := own) (C := cls) (index := ik) (n := 6) hown' hk' hins hini'
    (g := F0 m pc ls rest) rfl (by rw [hb]; exact d0) (Nat.le_refl _) (Nat.le_refl _)
  generalize hT1 : (T.setVm vm₁).pushCell { cls := cX, slots := kX.instanceTypes.map defaultValue, vm := .none } = T1 at X₁ st1
  have hcat : (Value.ref T.heap.size).category = 1 := rfl
  have hcellA : T1.heap[T.heap.size]? = some (freshCell cX kX) := by rw [← hT1]; exact State.heap_pushCell_size _ _
  have d3' : decode c.code (pc + 3) = .ok (.dup, 1) := by rw [hb]; exact d3
  obtain ⟨U, hsteps, hrun, hend, hW, hsame, ce, hce, hO⟩ := X₁.ctorThrow0 hexec htr (own := own) (cls := cls) (names := names) (ic := ic) hown' hcls hnames h (fun x hx => nomatch hx) hfX hkX hcellA (by rw [hhp, hT]; exact Nat.le_refl _)
    (g := { method := m, pc := pc + 4, locals := ls, stack := .ref T.heap.size :: .ref T.heap.size :: rest, locked := none }) rfl hsize rfl rfl (rest := rest) rfl
    (by rw [hb]; exact d4) (by rw [hb]; exact d7) hout hRframes (by simp only [List.map_cons, List.sum_cons, hcat]; omega) hlocks
  obtain ⟨f1, f2⟩ := vx_frame hsame
  rw [hhp] at f1 f2
  have hWs : s.WarmedH U.vm := State.WarmedH.trans hW0 hW
  have hcl : s.vm.findClass cls = some ce.cls := by
    have h9 := hO.cls
    rw [hvm] at h9
    exact h9
  have hall : s.sameButNew ({ U with vm := s.vm } : State) locs mc ms := by
    subst hA
    obtain ⟨e1, e2⟩ := hsame
    rw [State.setFrames_setFrames] at e1
    have h2 : (T.setVm s.vm).sameButNew ({ U with vm := s.vm } : State) [] (0 + 1) (0 + 6) := ⟨e1, e2⟩
    have h3 := X.same.trans h2
    rw [List.append_nil] at h3
    exact h3.mono hc hs
  refine ⟨U, ?_, .threw T.heap.size, hrun, hend, Or.inr ⟨T.heap.size, rfl, cls, ce, locs, hx U hWs.alike f1 (fun q hq => f2 q hq (fun z hz => nomatch hz)), hce, hO.vm, hcl, hWs, hall, hf⟩⟩
  refine st1 _ ?_
  show Steps p.tables e below (T1.setTop { method := m, pc := pc + 3, locals := ls, stack := .ref T.heap.size :: rest, locked := none }) _
  jvm_step X₁.here [X₁.here.top, hexec, d3', Value.category]
  exact hsteps
/-- 'throw new E("text")': new; dup; ldc; invokespecial; athrow -/
theorem vx_throwS {cc : ByteArray} {pc : Nat} (hexec : p.tables.exec = Jvm.exec) (hb : c.code = cc) (hl : l.stackTraces = false) {own cls text : String} {names : List String} {ik is ic mc ms sa : Nat} {A : Nat → Prop}
    (hown : s.vm.findClass own = some m.cls) (hcls : Bundle.fit cls = true) (hnames : ∀ n ∈ names, Bundle.fit n = true)
    (hk : (Cond.classLink own ik cls).before args s = true) (hini : (Cond.initialized cls).before args s = true) (hstr : vk_R own is text sa s) (hat : ∀ w ∈ vx_atS own ic cls names, w.before args s = true)
    (hgood : ∀ w ∈ Cond.classLink own ik cls :: Cond.initialized cls :: vx_atS own ic cls names, vx_ot w = true)
    (hU : vx_Zq Bundle.tN "UNASSIGNED_STACK" Bundle.steD A s s.heap) (hN : vx_Zq Bundle.tN "SUPPRESSED_SENTINEL" Bundle.listD A s s.heap) (hS : va_S A s.heap H locs) (hsize : ls.size = c.maxLocals)
    (d0 : decode cc pc = .ok (.new ik, 3)) (d3 : decode cc (pc + 3) = .ok (.dup, 1)) (d4 : decode cc (pc + 4) = .ok (.ldc is, 2)) (d6 : decode cc (pc + 6) = .ok (.invokespecial ic, 3)) (d9 : decode cc (pc + 9) = .ok (.athrow, 1))
    (hout : ∀ x ∈ c.exceptionTable.toList, covers x (pc + 9) = false)
    (hRframes : names.length + 3 < R.frames) (hRlocals : (rest.map fun v => v.category).sum + (13 * (names.length + 1) + 43) ≤ R.locals) (hRcells : cells + 1 ≤ R.cells) (hRslots : slots + 6 ≤ R.slots) (hlocks : meth.locks = false)
    (hx : ∀ t : State, s.vm.Alike t.vm → H.size ≤ t.heap.size → (∀ q : Nat, q < H.size → t.heap[q]? = H[q]?) → XC cls s t)
    (hf : ∀ z ∈ locs, free z.base) (hc : cells + 1 ≤ mc) (hs : slots + 6 ≤ ms) :
    W p l e R s m args below meth c H locs cells slots (vx_MQ below Qc XC args s mc ms free) (F0 m pc ls rest) := by
  intro T hT X
  have htr : e.platform.stackTraces = false := (show e.platform.stackTraces = l.stackTraces by rw [X.admits.platform]).trans hl
  have Y := vx_rebase X (R' := { frames := R.frames, locals := R.locals, cells := 1, slots := 6 }) (Nat.le_refl _) (Nat.le_refl _) hRcells hRslots
  obtain ⟨s', hA⟩ : ∃ z, z = (T.setVm s.vm).setFrames (.invoking m args :: below) := ⟨_, rfl⟩
  rw [← hA] at Y
  have hvm : s'.vm = s.vm := by rw [hA]; rfl
  have hhp : s'.heap = H := by rw [hA]; exact hT
  have hW0 : s.WarmedH s'.vm := by rw [hvm]; exact State.WarmedH.refl s
  have hat' : ∀ w ∈ vx_atS own ic cls names, w.before args s' = true := fun w hw => vx_ot_at hW0 hvm.symm (hgood w (List.mem_cons_of_mem _ (List.mem_cons_of_mem _ hw))) (hat w hw)
  have hk' : (Cond.classLink own ik cls).before args s' = true := vx_ot_at hW0 hvm.symm (hgood _ List.mem_cons_self) hk
  have hini' : (Cond.initialized cls).before args s' = true := vx_ot_at hW0 hvm.symm (hgood _ (List.mem_cons_of_mem _ List.mem_cons_self)) hini
  have hU' : vx_Zq Bundle.tN "UNASSIGNED_STACK" Bundle.steD A s' s'.heap := by rw [hhp]; exact vx_Zq.moved hW0.alike (hU.kept hS.2.1)
  have hN' : vx_Zq Bundle.tN "SUPPRESSED_SENTINEL" Bundle.listD A s' s'.heap := by rw [hhp]; exact vx_Zq.moved hW0.alike (hN.kept hS.2.1)
  have h : ∀ w ∈ Bundle.ownAtoms own ic cls names, w.before args s' = true := vx_own hat' (vx_isRefq hU'.1) (vx_isRefq hN'.1) hU'.2.word hN'.2.word
  have hown' : s'.vm.findClass own = some m.cls := by rw [hvm]; exact hown
  have hins : (Cond.instantiable cls 6).before args s' = true := h _ (by simp [Bundle.ownAtoms])
  obtain ⟨vm₁, cX, kX, hfX, hkX, -, -, X₁, st1⟩ := Y.newCold hexec (own := own) (C := cls) (index := ik) (n := 6) hown' hk' hins hini'
    (g := F0 m pc ls rest) rfl (by rw [hb]; exact d0) (Nat.le_refl _) (Nat.le_refl _)
  generalize hT1 : (T.setVm vm₁).pushCell { cls := cX, slots := kX.instanceTypes.map defaultValue, vm := .none } = T1 at X₁ st1
  have hcat : (Value.ref T.heap.size).category = 1 := rfl
  have hcellA : T1.heap[T.heap.size]? = some (freshCell cX kX) := by rw [← hT1]; exact State.heap_pushCell_size _ _
  have d3' : decode c.code (pc + 3) = .ok (.dup, 1) := by rw [hb]; exact d3
  have d4' : decode c.code (pc + 4) = .ok (.ldc is, 2) := by rw [hb]; exact d4
  have hstr' : vk_R own is text sa s' := vk_R.warm hW0 hstr
  obtain ⟨U, hsteps, hrun, hend, hW, hsame, ce, hce, hO⟩ := X₁.ctorThrowS hexec htr (own := own) (cls := cls) (names := names) (ic := ic) hown' hcls hnames h (fun x hx => nomatch hx) hfX hkX hcellA (by rw [hhp, hT]; exact Nat.le_refl _) (msg := .ref sa) rfl
    (g := { method := m, pc := pc + 6, locals := ls, stack := .ref sa :: .ref T.heap.size :: .ref T.heap.size :: rest, locked := none }) rfl hsize rfl rfl (rest := rest) rfl
    (by rw [hb]; exact d6) (by rw [hb]; exact d9) hout hRframes (by simp only [List.map_cons, List.sum_cons, hcat]; omega) hlocks
  obtain ⟨f1, f2⟩ := vx_frame hsame
  rw [hhp] at f1 f2
  have hWs : s.WarmedH U.vm := State.WarmedH.trans hW0 hW
  have hcl : s.vm.findClass cls = some ce.cls := by
    have h9 := hO.cls
    rw [hvm] at h9
    exact h9
  have hall : s.sameButNew ({ U with vm := s.vm } : State) locs mc ms := by
    subst hA
    obtain ⟨e1, e2⟩ := hsame
    rw [State.setFrames_setFrames] at e1
    have h2 : (T.setVm s.vm).sameButNew ({ U with vm := s.vm } : State) [] (0 + 1) (0 + 6) := ⟨e1, e2⟩
    have h3 := X.same.trans h2
    rw [List.append_nil] at h3
    exact h3.mono hc hs
  refine ⟨U, ?_, .threw T.heap.size, hrun, hend, Or.inr ⟨T.heap.size, rfl, cls, ce, locs, hx U hWs.alike f1 (fun q hq => f2 q hq (fun z hz => nomatch hz)), hce, hO.vm, hcl, hWs, hall, hf⟩⟩
  refine st1 _ ?_
  show Steps p.tables e below (T1.setTop { method := m, pc := pc + 3, locals := ls, stack := .ref T.heap.size :: rest, locked := none }) _
  jvm_step X₁.here [X₁.here.top, hexec, d3', Value.category]
  exact X₁.ldcString hexec (own := own) (text := text) (index := is) (a := sa) hown' hstr'.1 hstr'.2
    (g := { method := m, pc := pc + 4, locals := ls, stack := .ref T.heap.size :: .ref T.heap.size :: rest, locked := none }) rfl d4' _ hsteps
/-- 'throw new E("text")', the text by a wide index -/
theorem vx_throwSW {cc : ByteArray} {pc : Nat} (hexec : p.tables.exec = Jvm.exec) (hb : c.code = cc) (hl : l.stackTraces = false) {own cls text : String} {names : List String} {ik is ic mc ms sa : Nat} {A : Nat → Prop}
    (hown : s.vm.findClass own = some m.cls) (hcls : Bundle.fit cls = true) (hnames : ∀ n ∈ names, Bundle.fit n = true)
    (hk : (Cond.classLink own ik cls).before args s = true) (hini : (Cond.initialized cls).before args s = true) (hstr : vk_R own is text sa s) (hat : ∀ w ∈ vx_atS own ic cls names, w.before args s = true)
    (hgood : ∀ w ∈ Cond.classLink own ik cls :: Cond.initialized cls :: vx_atS own ic cls names, vx_ot w = true)
    (hU : vx_Zq Bundle.tN "UNASSIGNED_STACK" Bundle.steD A s s.heap) (hN : vx_Zq Bundle.tN "SUPPRESSED_SENTINEL" Bundle.listD A s s.heap) (hS : va_S A s.heap H locs) (hsize : ls.size = c.maxLocals)
    (d0 : decode cc pc = .ok (.new ik, 3)) (d3 : decode cc (pc + 3) = .ok (.dup, 1)) (d4 : decode cc (pc + 4) = .ok (.ldc_w is, 3)) (d7 : decode cc (pc + 7) = .ok (.invokespecial ic, 3)) (d10 : decode cc (pc + 10) = .ok (.athrow, 1))
    (hout : ∀ x ∈ c.exceptionTable.toList, covers x (pc + 10) = false)
    (hRframes : names.length + 3 < R.frames) (hRlocals : (rest.map fun v => v.category).sum + (13 * (names.length + 1) + 43) ≤ R.locals) (hRcells : cells + 1 ≤ R.cells) (hRslots : slots + 6 ≤ R.slots) (hlocks : meth.locks = false)
    (hx : ∀ t : State, s.vm.Alike t.vm → H.size ≤ t.heap.size → (∀ q : Nat, q < H.size → t.heap[q]? = H[q]?) → XC cls s t)
    (hf : ∀ z ∈ locs, free z.base) (hc : cells + 1 ≤ mc) (hs : slots + 6 ≤ ms) :
    W p l e R s m args below meth c H locs cells slots (vx_MQ below Qc XC args s mc ms free) (F0 m pc ls rest) := by
  intro T hT X
  have htr : e.platform.stackTraces = false := (show e.platform.stackTraces = l.stackTraces by rw [X.admits.platform]).trans hl
  have Y := vx_rebase X (R' := { frames := R.frames, locals := R.locals, cells := 1, slots := 6 }) (Nat.le_refl _) (Nat.le_refl _) hRcells hRslots
  obtain ⟨s', hA⟩ : ∃ z, z = (T.setVm s.vm).setFrames (.invoking m args :: below) := ⟨_, rfl⟩
  rw [← hA] at Y
  have hvm : s'.vm = s.vm := by rw [hA]; rfl
  have hhp : s'.heap = H := by rw [hA]; exact hT
  have hW0 : s.WarmedH s'.vm := by rw [hvm]; exact State.WarmedH.refl s
  have hat' : ∀ w ∈ vx_atS own ic cls names, w.before args s' = true := fun w hw => vx_ot_at hW0 hvm.symm (hgood w (List.mem_cons_of_mem _ (List.mem_cons_of_mem _ hw))) (hat w hw)
  have hk' : (Cond.classLink own ik cls).before args s' = true := vx_ot_at hW0 hvm.symm (hgood _ List.mem_cons_self) hk
  have hini' : (Cond.initialized cls).before args s' = true := vx_ot_at hW0 hvm.symm (hgood _ (List.mem_cons_of_mem _ List.mem_cons_self)) hini
  have hU' : vx_Zq Bundle.tN "UNASSIGNED_STACK" Bundle.steD A s' s'.heap := by rw [hhp]; exact vx_Zq.moved hW0.alike (hU.kept hS.2.1)
  have hN' : vx_Zq Bundle.tN "SUPPRESSED_SENTINEL" Bundle.listD A s' s'.heap := by rw [hhp]; exact vx_Zq.moved hW0.alike (hN.kept hS.2.1)
  have h : ∀ w ∈ Bundle.ownAtoms own ic cls names, w.before args s' = true := vx_own hat' (vx_isRefq hU'.1) (vx_isRefq hN'.1) hU'.2.word hN'.2.word
  have hown' : s'.vm.findClass own = some m.cls := by rw [hvm]; exact hown
  have hins : (Cond.instantiable cls 6).before args s' = true := h _ (by simp [Bundle.ownAtoms])
  obtain ⟨vm₁, cX, kX, hfX, hkX, -, -, X₁, st1⟩ := Y.newCold hexec (own := own) (C := cls) (index := ik) (n := 6) hown' hk' hins hini'
    (g := F0 m pc ls rest) rfl (by rw [hb]; exact d0) (Nat.le_refl _) (Nat.le_refl _)
  generalize hT1 : (T.setVm vm₁).pushCell { cls := cX, slots := kX.instanceTypes.map defaultValue, vm := .none } = T1 at X₁ st1
  have hcat : (Value.ref T.heap.size).category = 1 := rfl
  have hcellA : T1.heap[T.heap.size]? = some (freshCell cX kX) := by rw [← hT1]; exact State.heap_pushCell_size _ _
  have d3' : decode c.code (pc + 3) = .ok (.dup, 1) := by rw [hb]; exact d3
  have d4' : decode c.code (pc + 4) = .ok (.ldc_w is, 3) := by rw [hb]; exact d4
  have hstr' : vk_R own is text sa s' := vk_R.warm hW0 hstr
  obtain ⟨U, hsteps, hrun, hend, hW, hsame, ce, hce, hO⟩ := X₁.ctorThrowS hexec htr (own := own) (cls := cls) (names := names) (ic := ic) hown' hcls hnames h (fun x hx => nomatch hx) hfX hkX hcellA (by rw [hhp, hT]; exact Nat.le_refl _) (msg := .ref sa) rfl
    (g := { method := m, pc := pc + 7, locals := ls, stack := .ref sa :: .ref T.heap.size :: .ref T.heap.size :: rest, locked := none }) rfl hsize rfl rfl (rest := rest) rfl
    (by rw [hb]; exact d7) (by rw [hb]; exact d10) hout hRframes (by simp only [List.map_cons, List.sum_cons, hcat]; omega) hlocks
  obtain ⟨f1, f2⟩ := vx_frame hsame
  rw [hhp] at f1 f2
  have hWs : s.WarmedH U.vm := State.WarmedH.trans hW0 hW
  have hcl : s.vm.findClass cls = some ce.cls := by
    have h9 := hO.cls
    rw [hvm] at h9
    exact h9
  have hall : s.sameButNew ({ U with vm := s.vm } : State) locs mc ms := by
    subst hA
    obtain ⟨e1, e2⟩ := hsame
    rw [State.setFrames_setFrames] at e1
    have h2 : (T.setVm s.vm).sameButNew ({ U with vm := s.vm } : State) [] (0 + 1) (0 + 6) := ⟨e1, e2⟩
    have h3 := X.same.trans h2
    rw [List.append_nil] at h3
    exact h3.mono hc hs
  refine ⟨U, ?_, .threw T.heap.size, hrun, hend, Or.inr ⟨T.heap.size, rfl, cls, ce, locs, hx U hWs.alike f1 (fun q hq => f2 q hq (fun z hz => nomatch hz)), hce, hO.vm, hcl, hWs, hall, hf⟩⟩
  refine st1 _ ?_
  show Steps p.tables e below (T1.setTop { method := m, pc := pc + 3, locals := ls, stack := .ref T.heap.size :: rest, locked := none }) _
  jvm_step X₁.here [X₁.here.top, hexec, d3', Value.category]
  exact X₁.ldcStringW hexec (own := own) (text := text) (index := is) (a := sa) hown' hstr'.1 hstr'.2
    (g := { method := m, pc := pc + 4, locals := ls, stack := .ref T.heap.size :: .ref T.heap.size :: rest, locked := none }) rfl d4' _ hsteps
end Ends
section Bodies
variable {l : Launch}
theorem vx_ofW {y : MethodName} {ws ws' : List Cond} {rm : Room} {Pc : Array Value → State → Prop} {Qc : Array Value → State → Outcome → State → Prop} {XC : String → State → State → Prop} {mc ms : Nat} {free : Addr → Prop} {cc : ByteArray} {maxL : Nat} {ret : Option FieldType}
    (hy : plainName y.cls = true) (hw : ws = Cond.code y cc maxL ret :: ws')
    (body : ∀ p e s m args below meth c s₁, BodyLoose p l y (headSpec ws rm) cc maxL ret e s m args below meth c s₁ → c.maxLocals = maxL → (∀ x ∈ c.exceptionTable.toList, False) → Pc args s →
      W p l e (headSpec ws rm).room s m args below meth c s.heap [] 0 0 (vx_MQ below Qc XC args s mc ms free) (entryFrame m args maxL)) : vx_Met l y ws rm Pc Qc XC mc ms free := by
  refine MetFree.of_bodyS (code := cc) (maxLocals := maxL) (ret := ret) hy ?_ ?_
  · intro args s m h hn
    obtain ⟨meth, c, h1, h2, h3, h4, h5, h6, -, -⟩ := Cond.code_spec hn (atoms_spec (ws := ws) h _ (by rw [hw]; exact List.mem_cons_self))
    exact ⟨meth, c, h1, h2, h3, h4, h5, h6⟩
  · intro p e s m args below meth c s₁ B hml hP _
    have hh0 : s₁.heap = s.heap := by rw [B.state]; rfl
    have ht : ∀ x ∈ c.exceptionTable.toList, False := by
      obtain ⟨meth9, c9, h1, h2, -, -, -, -, h7, -⟩ := Cond.code_spec B.named (atoms_spec (ws := ws) B.pre _ (by rw [hw]; exact List.mem_cons_self))
      cases Option.some.inj (h1.symm.trans B.method)
      cases Option.some.inj (h2.symm.trans (Stand.of_body B).code)
      intro x hx
      rw [Array.isEmpty_iff.mp h7] at hx
      cases hx
    obtain ⟨t, a1, o, b1, b2, b3⟩ := body p e s m args below meth c s₁ B hml ht hP s₁ hh0 (Stand.of_body B)
    exact ⟨t, o, a1, b1, b2, b3⟩
/-- the table of a body with handlers -/
theorem vx_table {p : Program} {x y : MethodName} {S : Spec} {cc bytes : ByteArray} {maxL maxL' : Nat} {ret ret' : Option FieldType} {e : Env} {s s₁ : State} {m : MethodId} {args : Array Value} {below : List Frame} {meth : Method} {c : Code} {hh : List (Nat × Nat × Nat × Nat)}
    (B : BodyLoose p l y S cc maxL ret e s m args below meth c s₁) (h : (Cond.codeWith y bytes maxL' ret' hh).before args s = true) : c.exceptionTable.toList = tableOf hh := by
  obtain ⟨m9, meth9, c9, hn9, h1, h2, -, -, h6, -⟩ := Cond.codeWith_spec h
  cases Option.some.inj (hn9.symm.trans B.named)
  cases Option.some.inj (h1.symm.trans B.method)
  cases Option.some.inj (h2.symm.trans (Stand.of_body B).code)
  rw [← h6, table_eq]
end Bodies
end VXA
/-! ===== END ===== -/
/-! ===== BEGIN a static call of a method with an exception table ===== -/
section VXS
variable {p : Program} {l : Launch} {e : Env} {R : Room} {s : State} {m : MethodId} {args : Array Value} {below : List Frame} {meth : Method} {c : Code} {T : State} {H : Heap} {locs : List Loc} {cells slots : Nat}
abbrev vx_CSW (R : Room) (s : State) (args : Array Value) (own : String) (index : Nat) (y : MethodName) (bytes : ByteArray) (maxL : Nat) (ret : Option FieldType) (hh : List (Nat × Nat × Nat × Nat)) (ws : List Cond) (rm : Room) (mc ms n : Nat) : Prop :=
  (rm.cells = mc ∧ rm.slots = ms ∧ rm.frames + 1 ≤ R.frames ∧ 8 + (maxL + 11) + rm.locals ≤ R.locals ∧ (∀ w ∈ ws, ∀ (a' : Array Value) (U : State), s.WarmedH U.vm → w.before a' U = true) ∧ Cond.codeWith y bytes maxL ret hh ∈ ws) ∧
  (Cond.codeWith y bytes maxL ret hh).before args s = true ∧ (Cond.initialized y.cls).before args s = true ∧ (y.cls ≠ "java/lang/invoke/MethodHandle" ∧ y.cls ≠ "java/lang/invoke/VarHandle") ∧
  (∀ sig, parseMethodDescriptor y.desc = some sig → n = sig.parameters.length) ∧ (Cond.methodLink own index y).before args s = true ∧ (Cond.static y).before args s = true
theorem vx_cwSW {own : String} {index maxL mc ms : Nat} {y : MethodName} {bytes : ByteArray} {ret : Option FieldType} {hh : List (Nat × Nat × Nat × Nat)} {Ts ws ws' : List Cond} {rm : Room} (n : Nat) (ht : ∀ w ∈ Ts, w.before args s = true) (hT : GoodIn Ts (va_wsS own index y ws)) (hw : ws = Cond.codeWith y bytes maxL ret hh :: ws') (hrc : rm.cells = mc) (hrs : rm.slots = ms)
    (hd : y.cls ≠ "java/lang/invoke/MethodHandle" ∧ y.cls ≠ "java/lang/invoke/VarHandle" ∧ (parseMethodDescriptor y.desc).map (fun d => d.parameters.length) = some n) (hR : rm.frames + 1 ≤ R.frames ∧ 8 + (maxL + 11) + rm.locals ≤ R.locals) :
    vx_CSW R s args own index y bytes maxL ret hh ws rm mc ms n := by
  have ok : ∀ w ∈ va_wsS own index y ws, w.before args s = true := fun w h => ht w (hT w h).1
  have hG : GoodIn Ts ws := fun w h => hT w (by unfold va_wsS; exact List.mem_append_right _ h)
  have hc : Cond.codeWith y bytes maxL ret hh ∈ ws := by rw [hw]; exact List.mem_cons_self
  refine ⟨⟨hrc, hrs, hR.1, hR.2, pay_in ht hG, hc⟩, ht _ (hG _ hc).1, ok _ (by simp [va_wsS]), ⟨hd.1, hd.2.1⟩, fun sig h => ?_, ok _ (by simp [va_wsS]), ok _ (by simp [va_wsS])⟩
  have h2 := hd.2.2
  rw [h] at h2
  exact (Option.some.inj h2).symm
theorem vx_callSW (X : Stand p l e R s m args below meth c T locs cells slots) (hexec : p.tables.exec = Jvm.exec) {own : String} {index : Nat} {y : MethodName} {bytes : ByteArray} {maxL : Nat} {ret : Option FieldType} {hh : List (Nat × Nat × Nat × Nat)}
    (hown : s.vm.findClass own = some m.cls) (hlink : (Cond.methodLink own index y).before args s = true) (hstat : (Cond.static y).before args s = true) (hinit : (Cond.initialized y.cls).before args s = true)
    (hcode : (Cond.codeWith y bytes maxL ret hh).before args s = true) (hy : y.cls ≠ "java/lang/invoke/MethodHandle" ∧ y.cls ≠ "java/lang/invoke/VarHandle")
    {W9 : Nat} {Pre : Pt → Array Value → Prop} {Post : Pt → Array Value → Option Value → Pt → Prop} (hK : Back l R p e below s args y 3 W9 Pre Post)
    {g : JFrame} (hg : g.method = m) (hsize : g.locals.size = c.maxLocals) {argsL rest : List Value} (hlen : ∀ sig, parseMethodDescriptor y.desc = some sig → argsL.length = sig.parameters.length)
    (hstack : g.stack = argsL.reverse ++ rest) (hW : 2 * g.monitorRoom + (rest.map fun v => v.category).sum ≤ W9) (hdg : decode c.code g.pc = .ok (.invokestatic index, 3))
    (hpre : ∀ vm₁, s.WarmedH vm₁ → Pre ⟨T.setVm vm₁, locs, cells, slots⟩ argsL.toArray) :
    ∃ (v : Option Value) (vm₁ : Vm) (B : Pt), s.WarmedH vm₁ ∧ Stand p l e R s m args below meth c B.U B.locs B.cells B.slots ∧ Post ⟨T.setVm vm₁, locs, cells, slots⟩ argsL.toArray v B ∧
      ∀ target, Steps p.tables e below (B.U.setTop { g with pc := g.pc + 3, stack := v.toList ++ rest }) target → Steps p.tables e below (T.setTop g) target := by
  obtain ⟨mk, methM, cM, hnamed, hmethM, -, -, -, -, -, -, hsigM⟩ := Cond.codeWith_spec hcode
  have hstatic : methM.isStatic = true := Cond.static_spec hnamed hmethM hstat
  obtain ⟨kP, hkP, -⟩ := className_of_methodNamed hnamed
  have hinitP : kP.init = .initialized := Cond.initialized_spec (findClass_of_methodNamed hnamed) hkP hinit
  obtain ⟨vm₁, X₁, hstep₁⟩ := X.invokestatic hexec hown hlink hnamed hmethM hstatic hkP hinitP hy (g := g) hg (argsL := argsL) (rest := rest) (hlen _ hsigM) hstack hdg
  obtain ⟨v, B, X', hpost, hsteps⟩ := hK m meth c ⟨T.setVm vm₁, locs, cells, slots⟩ { g with stack := rest } (.invokestatic index) mk argsL.toArray X₁ hg hsize hdg hW (X₁.named hnamed) (hpre vm₁ X₁.warmed)
  exact ⟨v, vm₁, B, X₁.warmed, X', hpost, fun target h => hstep₁ _ fun acts => by rw [doInvoke_state]; exact hsteps.trans h⟩
theorem vx_runSW {y : MethodName} {bytes cc : ByteArray} {maxL nL mc ms n index : Nat} {ret : Option FieldType} {hh : List (Nat × Nat × Nat × Nat)} {ws : List Cond} {rm : Room} {Pc : Array Value → State → Prop} {Qc : Array Value → State → Outcome → State → Prop} {free : Addr → Prop} {Ts : List Cond} {own : String} {As rest : List Value} {g : JFrame}
    (S : CallFix p m c cc nL s args Ts own) (hM : Met l y ws rm Pc Qc mc ms free) (cw : vx_CSW R s args own index y bytes maxL ret hh ws rm mc ms n) (hp : PreS s H Pc As)
    (hg : g.method = m) (hn : As.length = n) (hsize : g.locals.size = nL) (hstack : g.stack = As.reverse ++ rest) (hW : 2 * g.monitorRoom + (rest.map fun v => v.category).sum ≤ 8) (hdg : decode cc g.pc = .ok (.invokestatic index, 3)) (hf : cells + mc ≤ R.cells ∧ slots + ms ≤ R.slots) :
    va_Run p l e R s m args below meth c H locs cells slots mc ms g rest (Qc As.toArray) (free) := by
  obtain ⟨⟨hrc, hrs, hfr, hlo, hws, hcw⟩, hcode, hini, hy, hlen, hl, hstt⟩ := cw
  have hK : Back l R p e below s args y 3 8 (PreOf R mc ms Pc) (PostOf Qc mc ms free) := va_backW (hh := hh) (bytes := bytes) (maxL := maxL) (ret := ret) hM hp.1 hrc hrs hfr hlo hws hcw (fun a' U hW => word_at hW (Or.inl (by first | rfl | simp [Cond.onTables, Cond.keeps, Cond.steady])) hini)
  obtain ⟨hx, hb, hml, ho, -⟩ := S
  intro T hT X
  obtain ⟨v, vm₁, ⟨U', l2, c2, s2⟩, hW₁, X', ⟨g', mk, t, L, e1, e2, hq, h1, hL, h2, h3⟩, st⟩ := vx_callSW X hx (hh := hh) (bytes := bytes) (maxL := maxL) (ret := ret) ho hl hstt hini hcode hy hK hg (hsize.trans hml.symm) (argsL := As) (rest := rest) (fun sig h => hn.trans (hlen sig h)) hstack hW (by rw [hb]; exact hdg)
    (fun vm₁ hW₁ => ⟨hf.1, hf.2, hp.2 (T.setVm vm₁) hT hW₁⟩)
  dsimp only [Pt.U, Pt.locs, Pt.cells, Pt.slots] at X' e1 e2 h1 h2 h3 st
  subst h1; subst h2; subst h3
  exact ⟨v, (T.setVm vm₁).calling g' mk As.toArray, t, U', L, hT, X', hL, e1, e2, hq, st⟩
/-- not caught here, past rows that name other classes: it goes on to the caller -/
theorem vx_outP {p : Program} {l : Launch} {e : Env} {R : Room} {s : State} {m : MethodId} {args : Array Value} {below : List Frame} {meth : Method} {c : Code} {H : Heap} {locs : List Loc} {cells slots : Nat} {free : Addr → Prop} {ls : Array Slot} {rest : List Value} {Qc : Array Value → State → Outcome → State → Prop} {XC : String → State → State → Prop}
    {pc : Nat} {own E : String} {ce : Cell} {q : Addr} {mc ms : Nat} (hown : s.vm.findClass own = some m.cls) (hlocks : meth.locks = false)
    (hpass : ∀ z ∈ c.exceptionTable.toList, covers z pc = false ∨ (z.catchType ≠ 0 ∧ ∃ nm : String, (Cond.classLink own z.catchType nm).before args s = true ∧ va_Nc E nm s)) (hcell : H[q]? = some ce) (hv : ce.vm = .none) (hcl : s.vm.findClass E = some ce.cls)
    (hx : ∀ t : State, t.heap = H → s.vm.Alike t.vm → XC E s t) (hf : ∀ z ∈ locs, free z.base) (hc : cells ≤ mc) (hs : slots ≤ ms) :
    vx_W p l e R s m args below meth c H locs cells slots (vx_MQ below Qc XC args s mc ms free) (F0 m pc ls rest) q := by
  intro T hT X
  have hpl : e.platform.magicAccessors = ({} : Platform).magicAccessors := by rw [X.admits.platform]
  obtain ⟨vm', hW', X', st⟩ := X.outThrough hlocks q (g := F0 m pc ls rest) rfl rfl rfl (cell := ce) (by rw [hT]; exact hcell) (by rw [hv]; rfl)
    (by obtain ⟨k9, h9, -⟩ := Vm.findClass_spec hcl; exact ⟨k9, h9⟩) (fun z hz => by
      rcases hpass z hz with h | ⟨hz0, nm, hl1, hn1⟩
      · exact Or.inl h
      · obtain ⟨c6, hc6, hcl6⟩ := Cond.classLink_spec hown hl1 e.platform hpl
        obtain ⟨a8, b8, h1, h2, h3⟩ := hn1
        cases Option.some.inj (h1.symm.trans hcl)
        cases Option.some.inj (h2.symm.trans hc6)
        exact Or.inr ⟨hz0, _, hcl6, h3⟩)
  obtain ⟨g₀, hfr⟩ := X'.frames_eq
  have hcell9 : ((T.setVm vm').setFrames (.throwing q :: below)).heap[q]? = some ce := by
    show T.heap[q]? = some ce
    rw [hT]; exact hcell
  have hend : Ended ((T.setVm vm').setFrames (.throwing q :: below)) below (.threw q) := State.frames_setFrames _ (State.cur_lt_of_frames hfr)
  refine ⟨(T.setVm vm').setFrames (.throwing q :: below), ?_, .threw q, X'.here.running, hend, Or.inr ⟨q, rfl, E, ce, locs, hx _ hT (X'.ends _).1.alike, hcell9, hv, hcl, (X'.ends _).1, (X'.ends _).2.mono hc hs, hf⟩⟩
  rw [X.pushThrowing_eq]
  exact st
/-- a thing of a world lies in the heap -/
theorem vx_lt {D : va_G} {cl : List vw_C} {ws : va_W} {H1 : Heap} (h : va_P D cl ws H1) {k : Nat} {q : Nat × va_E} (hk : ws[k]? = some q) : q.1 < H1.size := (h k q hk).lt
end VXS
/-! ===== END ===== -/
/-! ===== BEGIN methods with a table of their own: called by a name, returning or throwing ===== -/
section VXH
/-! vx_backW, vx_callVX, vx_callSX, vx_callVW, vx_runVW, vx_runVX, vx_runSX, vx_ofWH follow the same proofs as their sisters above (Free/Laws.lean, Shelf42/LK1.lean); vx_outP calls Shelf42/NT130.lean (outThrough). -/
section
variable {l : Launch} {R : Room} {p : Program} {e : Env} {below : List Frame} {s : State} {sargs : Array Value} {y : MethodName} {len W9 : Nat}
theorem vx_backW {ws : List Cond} {rm : Room} {Pc : Array Value → State → Prop} {Qc : Array Value → State → Outcome → State → Prop} {XC : String → State → State → Prop} {mc ms : Nat} {free : Addr → Prop} {bytes : ByteArray} {maxL : Nat} {ret : Option FieldType} {hh : List (Nat × Nat × Nat × Nat)}
    (hM : vx_Met l y ws rm Pc Qc XC mc ms free) (hblind : FrameBlind Pc) (hrc : rm.cells = mc) (hrs : rm.slots = ms)
    (hframes : rm.frames + 1 ≤ R.frames) (hlocals : W9 + (maxL + 11) + rm.locals ≤ R.locals)
    (hws : ∀ w ∈ ws, ∀ a' U, s.WarmedH U.vm → w.before a' U = true) (hcode : Cond.codeWith y bytes maxL ret hh ∈ ws) (hinit : ∀ a' U, s.WarmedH U.vm → (Cond.initialized y.cls).before a' U = true) :
    vx_Back l R p e below s sargs y len W9 (PreOf R mc ms Pc) (PostOf Qc mc ms free) (vx_Post XC mc ms free) := by
  intro m meth c A g ig mk a X hg hsize hdg hW hn hp
  have h1 : (headSpec ws rm).pre.before a A.U = true := atoms_intro fun w hw => hws w hw _ _ X.warmed
  have h2 : (Cond.codeWith y bytes maxL ret hh).before a A.U = true := hws _ hcode _ _ X.warmed
  have h3 : (Cond.initialized y.cls).before a A.U = true := hinit _ _ X.warmed
  have h4 : A.cells + (headSpec ws rm).room.cells ≤ R.cells := by rw [show (headSpec ws rm).room.cells = mc from hrc]; exact hp.1
  have h5 : A.slots + (headSpec ws rm).room.slots ≤ R.slots := by rw [show (headSpec ws rm).room.slots = ms from hrs]; exact hp.2.1
  have hPc : Pc a (A.U.calling g mk a) := hblind _ _ _ _ hp.2.2
  obtain ⟨U, Ls, c0, s0⟩ := A
  dsimp only [Pt.U, Pt.locs, Pt.cells, Pt.slots] at h1 h2 h3 h4 h5 X hn hPc ⊢
  obtain ⟨m9, methY, cY, hn9, hmY, hcY, -, hlY, -⟩ := Cond.codeWith_spec h2
  cases Option.some.inj (hn9.symm.trans hn)
  obtain ⟨kY, hkY, -⟩ := className_of_methodNamed hn
  have hinitY : kY.init = .initialized := Cond.initialized_spec (findClass_of_methodNamed hn) hkY h3
  have h : At U g.method c below := by rw [hg]; exact X.here
  have hlocals9 : W9 + (maxL + 11) + (headSpec ws rm).room.locals ≤ R.locals := hlocals
  have happ : (headSpec ws rm).appliesLoose y e.platform (U.calling g mk a) = true :=
    Spec.appliesLoose_calling (g := g) h hdg hn hkY hinitY
      (X.room_calling (g := g) (R' := (headSpec ws rm).room) hsize hmY hcY hframes (by rw [hlY]; omega) h4 h5) h1
  obtain ⟨mid, hmid⟩ := h.above
  have hfr : (U.setTop g).frames = (.java g :: mid) ++ below := by rw [State.frames_setTop' g h.top, hmid]; rfl
  obtain ⟨o, s₂, hsteps, -, hend, hq⟩ := Steps.callFree hM p X.admits X.cas X.clock (acts := []) hfr happ hPc trivial
  have hq' : vx_Q Qc XC mc ms free a (U.calling g mk a) o s₂ := hq
  rw [State.frames_setTop' g h.top] at hend
  obtain ⟨g₀, hg0⟩ := Option.isSome_iff_exists.mp h.top
  obtain ⟨r, hr⟩ := State.topJava?_eq_some.mp hg0
  have hr' : (({ U with heap := s₂.heap, slotsUsed := s₂.slotsUsed } : State).setVm s₂.vm).frames = .java g₀ :: r := hr
  rcases hq' with ⟨hqc, L, hfe, hL⟩ | ⟨q, rfl, E, ce, L, hx, hce, hcv, hcl, hW₂, hsm, hL⟩
  · obtain ⟨⟨v, rfl⟩, hW₂, e2, q2, q3, q4, q5, q6⟩ := id hfe
    have e3 : s₂ = ({ (U.calling g mk a).setFrames s₂.frames with heap := s₂.heap, slotsUsed := s₂.slotsUsed } : State).setVm s₂.vm := by
      have : s₂ = ({ s₂ with vm := (U.calling g mk a).vm } : State).setVm s₂.vm := rfl
      rw [e2] at this
      exact this
    obtain ⟨c₂, i₂, len₂, hc₂, hd₂, hf₂⟩ := hend
    have hW' : U.WarmedH s₂.vm := hW₂
    have hcc : c₂ = c := by
      have h1 : s₂.code? g.method = U.code? g.method := by
        rw [State.code?_eq, State.code?_eq, hW'.alike.method?]
      exact Option.some.inj (hc₂.symm.trans (h1.trans h.code))
    subst hcc
    have hlen : len₂ = len := by rw [hdg] at hd₂; cases hd₂; rfl
    subst hlen
    have hs₂ : s₂ = (({ U with heap := s₂.heap, slotsUsed := s₂.slotsUsed } : State).setVm s₂.vm).setTop { g with pc := g.pc + len₂, stack := v.toList ++ g.stack } := by
      refine e3.trans ?_
      rw [hf₂, State.calling_eq h.top, State.setFrames_setFrames, State.setTop_of_frames _ hr', hr]
      rfl
    have hsame : U.sameButNew ({ U with heap := s₂.heap, slotsUsed := s₂.slotsUsed } : State) L mc ms := by
      refine ⟨?_, q2, q3, q4, q5, q6⟩
      obtain ⟨t, ht, -⟩ := State.frames_cons hr
      show ({ U with heap := s₂.heap, slotsUsed := s₂.slotsUsed } : State) = { U.setFrames U.frames with heap := s₂.heap, slotsUsed := s₂.slotsUsed }
      rw [State.setFrames_self ht]
    subst hg
    refine Or.inl ⟨v, ⟨(({ U with heap := s₂.heap, slotsUsed := s₂.slotsUsed } : State).setVm s₂.vm), Ls ++ L, c0 + mc, s0 + ms⟩,
      ⟨X.admits, X.cas, X.clock, X.frames, X.room, X.hears, X.method, X.code, (X.here.setHeapUsed s₂.heap s₂.slotsUsed).setVm hW'.alike, X.tail, State.WarmedH.trans X.warmed hW', X.limits, X.bytes, X.same.trans (hsame.setVm s.vm)⟩,
      ⟨g, mk, s₂, L, rfl, rfl, hqc, rfl, hL, rfl, rfl⟩, ?_⟩
    show Steps p.tables e below _ ((({ U with heap := s₂.heap, slotsUsed := s₂.slotsUsed } : State).setVm s₂.vm).setTop { g with pc := g.pc + len₂, stack := v.toList ++ g.stack })
    rw [← hs₂]
    exact hsteps
  · obtain ⟨e2, q2, q3, q4, q5, q6⟩ := id hsm
    have e3 : s₂ = ({ (U.calling g mk a).setFrames s₂.frames with heap := s₂.heap, slotsUsed := s₂.slotsUsed } : State).setVm s₂.vm := by
      have : s₂ = ({ s₂ with vm := (U.calling g mk a).vm } : State).setVm s₂.vm := rfl
      rw [e2] at this
      exact this
    have hf₂ : s₂.frames = .throwing q :: .java g :: U.frames.tail := hend
    have hW' : U.WarmedH s₂.vm := hW₂
    have hs₂ : s₂ = ((({ U with heap := s₂.heap, slotsUsed := s₂.slotsUsed } : State).setVm s₂.vm).setTop g).pushFrame (.throwing q) := by
      refine e3.trans ?_
      rw [hf₂, State.calling_eq h.top, State.setFrames_setFrames, State.pushFrame, State.frames_setTop _ hr', State.setTop_of_frames _ hr', State.setFrames_setFrames, hr]
      rfl
    have hsame : U.sameButNew ({ U with heap := s₂.heap, slotsUsed := s₂.slotsUsed } : State) L mc ms := by
      refine ⟨?_, q2, q3, q4, q5, q6⟩
      obtain ⟨t, ht, -⟩ := State.frames_cons hr
      show ({ U with heap := s₂.heap, slotsUsed := s₂.slotsUsed } : State) = { U.setFrames U.frames with heap := s₂.heap, slotsUsed := s₂.slotsUsed }
      rw [State.setFrames_self ht]
    subst hg
    refine Or.inr ⟨q, ⟨(({ U with heap := s₂.heap, slotsUsed := s₂.slotsUsed } : State).setVm s₂.vm), Ls ++ L, c0 + mc, s0 + ms⟩,
      ⟨X.admits, X.cas, X.clock, X.frames, X.room, X.hears, X.method, X.code, (X.here.setHeapUsed s₂.heap s₂.slotsUsed).setVm hW'.alike, X.tail, State.WarmedH.trans X.warmed hW', X.limits, X.bytes, X.same.trans (hsame.setVm s.vm)⟩,
      ⟨g, mk, s₂, L, E, ce, rfl, rfl, hx, hce, hcv, hcl, rfl, hL, rfl, rfl⟩, ?_⟩
    show Steps p.tables e below _ (((({ U with heap := s₂.heap, slotsUsed := s₂.slotsUsed } : State).setVm s₂.vm).setTop g).pushFrame (.throwing q))
    rw [← hs₂]
    exact hsteps
end
variable {p : Program} {l : Launch} {e : Env} {R : Room} {s : State} {m : MethodId} {args : Array Value} {below : List Frame} {meth : Method} {c : Code} {T : State} {H : Heap} {locs : List Loc} {cells slots : Nat}
theorem vx_callVX (X : Stand p l e R s m args below meth c T locs cells slots) (hexec : p.tables.exec = Jvm.exec) {own C : String} {index : Nat} {y : MethodName} {bytes : ByteArray} {maxL : Nat} {ret : Option FieldType} {hh : List (Nat × Nat × Nat × Nat)}
    (hown : s.vm.findClass own = some m.cls) (hlink : (Cond.methodLink own index y).before args s = true) (hinst : (Cond.instanceMethod y).before args s = true) (hsel : (Cond.selects C y y).before args s = true)
    (hcode : (Cond.codeWith y bytes maxL ret hh).before args s = true) (hy : y.cls ≠ "java/lang/invoke/MethodHandle" ∧ y.cls ≠ "java/lang/invoke/VarHandle")
    {W9 : Nat} {Pre : Pt → Array Value → Prop} {Post : Pt → Array Value → Option Value → Pt → Prop} {PostX : Pt → Array Value → Addr → Pt → Prop} (hK : vx_Back l R p e below s args y 3 W9 Pre Post PostX)
    {b : Addr} {cellB : Cell} (hcell : T.heap[b]? = some cellB) (hobj : cellB.vm.isStatics = false) (hcls : s.vm.findClass C = some cellB.cls)
    {g : JFrame} (hg : g.method = m) (hsize : g.locals.size = c.maxLocals) {argsL rest : List Value} (hlen : ∀ sig, parseMethodDescriptor y.desc = some sig → argsL.length = sig.parameters.length)
    (hstack : g.stack = argsL.reverse ++ .ref b :: rest) (hW : 2 * g.monitorRoom + (rest.map fun v => v.category).sum ≤ W9) (hdg : decode c.code g.pc = .ok (.invokevirtual index, 3))
    (hpre : ∀ vm₁, s.WarmedH vm₁ → Pre ⟨T.setVm vm₁, locs, cells, slots⟩ (Value.ref b :: argsL).toArray) :
    (∃ (v : Option Value) (vm₁ : Vm) (B : Pt), s.WarmedH vm₁ ∧ Stand p l e R s m args below meth c B.U B.locs B.cells B.slots ∧ Post ⟨T.setVm vm₁, locs, cells, slots⟩ (Value.ref b :: argsL).toArray v B ∧
      ∀ target, Steps p.tables e below (B.U.setTop { g with pc := g.pc + 3, stack := v.toList ++ rest }) target → Steps p.tables e below (T.setTop g) target) ∨
    (∃ (q : Addr) (vm₁ : Vm) (B : Pt), s.WarmedH vm₁ ∧ Stand p l e R s m args below meth c B.U B.locs B.cells B.slots ∧ PostX ⟨T.setVm vm₁, locs, cells, slots⟩ (Value.ref b :: argsL).toArray q B ∧
      Steps p.tables e below (T.setTop g) ((B.U.setTop { g with stack := rest }).pushFrame (.throwing q))) := by
  obtain ⟨mk, methM, hnamed, hmethM, hstM, habM⟩ := Cond.instanceMethod_spec hinst
  obtain ⟨m8, methM', cM, hn8, hmethM', -, -, -, -, -, -, hsigM⟩ := Cond.codeWith_spec hcode
  cases Option.some.inj (hn8.symm.trans hnamed)
  cases hmethM.symm.trans hmethM'
  obtain ⟨c2, r2, m2, q1, q2, q3, q4, kP, hkP, hkPi⟩ := Cond.selects_spec hsel
  cases hcls.symm.trans q1
  cases (State.methodFound?_of_named hnamed hy).symm.trans q2
  cases hnamed.symm.trans q3
  have hselP : selectMethod e.platform s.vm cellB.cls mk = .method mk := by rw [Launch.admits_selectMethod X.admits]; exact q4
  obtain ⟨vm₁, X₁, hstep₁⟩ := X.invokevirtual hexec hown hlink hnamed hmethM hstM hkP hkPi hy (a := b) (cell := cellB) hcell
    (fun z h => by rw [h] at hobj; cases hobj) hselP hmethM habM hkP hkPi (g := g) hg (argsL := argsL) (rest := rest) (hlen _ hsigM) hstack hdg
  rcases hK m meth c ⟨T.setVm vm₁, locs, cells, slots⟩ { g with stack := rest } (.invokevirtual index) mk (Value.ref b :: argsL).toArray X₁ hg hsize hdg hW (X₁.named hnamed) (hpre vm₁ X₁.warmed) with ⟨v, B, X', hpost, hsteps⟩ | ⟨q, B, X', hpost, hsteps⟩
  · exact Or.inl ⟨v, vm₁, B, X₁.warmed, X', hpost, fun target h => hstep₁ _ fun acts => by rw [doInvoke_state]; exact hsteps.trans h⟩
  · exact Or.inr ⟨q, vm₁, B, X₁.warmed, X', hpost, hstep₁ _ fun acts => by rw [doInvoke_state]; exact hsteps⟩
theorem vx_callSX (X : Stand p l e R s m args below meth c T locs cells slots) (hexec : p.tables.exec = Jvm.exec) {own : String} {index : Nat} {y : MethodName} {bytes : ByteArray} {maxL : Nat} {ret : Option FieldType} {hh : List (Nat × Nat × Nat × Nat)}
    (hown : s.vm.findClass own = some m.cls) (hlink : (Cond.methodLink own index y).before args s = true) (hstat : (Cond.static y).before args s = true) (hinit : (Cond.initialized y.cls).before args s = true)
    (hcode : (Cond.codeWith y bytes maxL ret hh).before args s = true) (hy : y.cls ≠ "java/lang/invoke/MethodHandle" ∧ y.cls ≠ "java/lang/invoke/VarHandle")
    {W9 : Nat} {Pre : Pt → Array Value → Prop} {Post : Pt → Array Value → Option Value → Pt → Prop} {PostX : Pt → Array Value → Addr → Pt → Prop} (hK : vx_Back l R p e below s args y 3 W9 Pre Post PostX)
    {g : JFrame} (hg : g.method = m) (hsize : g.locals.size = c.maxLocals) {argsL rest : List Value} (hlen : ∀ sig, parseMethodDescriptor y.desc = some sig → argsL.length = sig.parameters.length)
    (hstack : g.stack = argsL.reverse ++ rest) (hW : 2 * g.monitorRoom + (rest.map fun v => v.category).sum ≤ W9) (hdg : decode c.code g.pc = .ok (.invokestatic index, 3))
    (hpre : ∀ vm₁, s.WarmedH vm₁ → Pre ⟨T.setVm vm₁, locs, cells, slots⟩ argsL.toArray) :
    (∃ (v : Option Value) (vm₁ : Vm) (B : Pt), s.WarmedH vm₁ ∧ Stand p l e R s m args below meth c B.U B.locs B.cells B.slots ∧ Post ⟨T.setVm vm₁, locs, cells, slots⟩ argsL.toArray v B ∧
      ∀ target, Steps p.tables e below (B.U.setTop { g with pc := g.pc + 3, stack := v.toList ++ rest }) target → Steps p.tables e below (T.setTop g) target) ∨
    (∃ (q : Addr) (vm₁ : Vm) (B : Pt), s.WarmedH vm₁ ∧ Stand p l e R s m args below meth c B.U B.locs B.cells B.slots ∧ PostX ⟨T.setVm vm₁, locs, cells, slots⟩ argsL.toArray q B ∧
      Steps p.tables e below (T.setTop g) ((B.U.setTop { g with stack := rest }).pushFrame (.throwing q))) := by
  obtain ⟨mk, methM, cM, hnamed, hmethM, -, -, -, -, -, -, hsigM⟩ := Cond.codeWith_spec hcode
  have hstatic : methM.isStatic = true := Cond.static_spec hnamed hmethM hstat
  obtain ⟨kP, hkP, -⟩ := className_of_methodNamed hnamed
  have hinitP : kP.init = .initialized := Cond.initialized_spec (findClass_of_methodNamed hnamed) hkP hinit
  obtain ⟨vm₁, X₁, hstep₁⟩ := X.invokestatic hexec hown hlink hnamed hmethM hstatic hkP hinitP hy (g := g) hg (argsL := argsL) (rest := rest) (hlen _ hsigM) hstack hdg
  rcases hK m meth c ⟨T.setVm vm₁, locs, cells, slots⟩ { g with stack := rest } (.invokestatic index) mk argsL.toArray X₁ hg hsize hdg hW (X₁.named hnamed) (hpre vm₁ X₁.warmed) with ⟨v, B, X', hpost, hsteps⟩ | ⟨q, B, X', hpost, hsteps⟩
  · exact Or.inl ⟨v, vm₁, B, X₁.warmed, X', hpost, fun target h => hstep₁ _ fun acts => by rw [doInvoke_state]; exact hsteps.trans h⟩
  · exact Or.inr ⟨q, vm₁, B, X₁.warmed, X', hpost, hstep₁ _ fun acts => by rw [doInvoke_state]; exact hsteps⟩
theorem vx_callVW (X : Stand p l e R s m args below meth c T locs cells slots) (hexec : p.tables.exec = Jvm.exec) {own C : String} {index : Nat} {y : MethodName} {bytes : ByteArray} {maxL : Nat} {ret : Option FieldType} {hh : List (Nat × Nat × Nat × Nat)}
    (hown : s.vm.findClass own = some m.cls) (hlink : (Cond.methodLink own index y).before args s = true) (hinst : (Cond.instanceMethod y).before args s = true) (hsel : (Cond.selects C y y).before args s = true)
    (hcode : (Cond.codeWith y bytes maxL ret hh).before args s = true) (hy : y.cls ≠ "java/lang/invoke/MethodHandle" ∧ y.cls ≠ "java/lang/invoke/VarHandle")
    {W9 : Nat} {Pre : Pt → Array Value → Prop} {Post : Pt → Array Value → Option Value → Pt → Prop} (hK : Back l R p e below s args y 3 W9 Pre Post)
    {b : Addr} {cellB : Cell} (hcell : T.heap[b]? = some cellB) (hobj : cellB.vm.isStatics = false) (hcls : s.vm.findClass C = some cellB.cls)
    {g : JFrame} (hg : g.method = m) (hsize : g.locals.size = c.maxLocals) {argsL rest : List Value} (hlen : ∀ sig, parseMethodDescriptor y.desc = some sig → argsL.length = sig.parameters.length)
    (hstack : g.stack = argsL.reverse ++ .ref b :: rest) (hW : 2 * g.monitorRoom + (rest.map fun v => v.category).sum ≤ W9) (hdg : decode c.code g.pc = .ok (.invokevirtual index, 3))
    (hpre : ∀ vm₁, s.WarmedH vm₁ → Pre ⟨T.setVm vm₁, locs, cells, slots⟩ (Value.ref b :: argsL).toArray) :
    ∃ (v : Option Value) (vm₁ : Vm) (B : Pt), s.WarmedH vm₁ ∧ Stand p l e R s m args below meth c B.U B.locs B.cells B.slots ∧ Post ⟨T.setVm vm₁, locs, cells, slots⟩ (Value.ref b :: argsL).toArray v B ∧
      ∀ target, Steps p.tables e below (B.U.setTop { g with pc := g.pc + 3, stack := v.toList ++ rest }) target → Steps p.tables e below (T.setTop g) target := by
  obtain ⟨mk, methM, hnamed, hmethM, hstM, habM⟩ := Cond.instanceMethod_spec hinst
  obtain ⟨m8, methM', cM, hn8, hmethM', -, -, -, -, -, -, hsigM⟩ := Cond.codeWith_spec hcode
  cases Option.some.inj (hn8.symm.trans hnamed)
  cases hmethM.symm.trans hmethM'
  obtain ⟨c2, r2, m2, q1, q2, q3, q4, kP, hkP, hkPi⟩ := Cond.selects_spec hsel
  cases hcls.symm.trans q1
  cases (State.methodFound?_of_named hnamed hy).symm.trans q2
  cases hnamed.symm.trans q3
  have hselP : selectMethod e.platform s.vm cellB.cls mk = .method mk := by rw [Launch.admits_selectMethod X.admits]; exact q4
  obtain ⟨vm₁, X₁, hstep₁⟩ := X.invokevirtual hexec hown hlink hnamed hmethM hstM hkP hkPi hy (a := b) (cell := cellB) hcell
    (fun z h => by rw [h] at hobj; cases hobj) hselP hmethM habM hkP hkPi (g := g) hg (argsL := argsL) (rest := rest) (hlen _ hsigM) hstack hdg
  obtain ⟨v, B, X', hpost, hsteps⟩ := hK m meth c ⟨T.setVm vm₁, locs, cells, slots⟩ { g with stack := rest } (.invokevirtual index) mk (Value.ref b :: argsL).toArray X₁ hg hsize hdg hW (X₁.named hnamed) (hpre vm₁ X₁.warmed)
  exact ⟨v, vm₁, B, X₁.warmed, X', hpost, fun target h => hstep₁ _ fun acts => by rw [doInvoke_state]; exact hsteps.trans h⟩
abbrev vx_CVW (R : Room) (s : State) (args : Array Value) (own C : String) (index : Nat) (y : MethodName) (bytes : ByteArray) (maxL : Nat) (ret : Option FieldType) (hh : List (Nat × Nat × Nat × Nat)) (ws : List Cond) (rm : Room) (mc ms n : Nat) : Prop :=
  (rm.cells = mc ∧ rm.slots = ms ∧ rm.frames + 1 ≤ R.frames ∧ 8 + (maxL + 11) + rm.locals ≤ R.locals ∧ (∀ w ∈ ws, ∀ (a' : Array Value) (U : State), s.WarmedH U.vm → w.before a' U = true) ∧ Cond.codeWith y bytes maxL ret hh ∈ ws) ∧
  (Cond.codeWith y bytes maxL ret hh).before args s = true ∧ (Cond.initialized y.cls).before args s = true ∧ (y.cls ≠ "java/lang/invoke/MethodHandle" ∧ y.cls ≠ "java/lang/invoke/VarHandle") ∧
  (∀ sig, parseMethodDescriptor y.desc = some sig → n = sig.parameters.length) ∧ (Cond.methodLink own index y).before args s = true ∧ (Cond.instanceMethod y).before args s = true ∧ (Cond.selects C y y).before args s = true
theorem vx_cwVW {own C : String} {index maxL mc ms : Nat} {y : MethodName} {bytes : ByteArray} {ret : Option FieldType} {hh : List (Nat × Nat × Nat × Nat)} {Ts ws ws' : List Cond} {rm : Room} (n : Nat) (ht : ∀ w ∈ Ts, w.before args s = true) (hT : GoodIn Ts (wsV own index C y ws)) (hw : ws = Cond.codeWith y bytes maxL ret hh :: ws') (hrc : rm.cells = mc) (hrs : rm.slots = ms)
    (hd : y.cls = C ∧ y.cls ≠ "java/lang/invoke/MethodHandle" ∧ y.cls ≠ "java/lang/invoke/VarHandle" ∧ (parseMethodDescriptor y.desc).map (fun d => d.parameters.length) = some n) (hR : rm.frames + 1 ≤ R.frames ∧ 8 + (maxL + 11) + rm.locals ≤ R.locals) :
    vx_CVW R s args own C index y bytes maxL ret hh ws rm mc ms n := by
  obtain ⟨hC, hd⟩ := hd
  subst hC
  have ok : ∀ w ∈ wsV own index y.cls y ws, w.before args s = true := fun w h => ht w (hT w h).1
  have hG : GoodIn Ts ws := fun w h => hT w (by unfold wsV; exact List.mem_append_right _ h)
  have hc : Cond.codeWith y bytes maxL ret hh ∈ ws := by rw [hw]; exact List.mem_cons_self
  refine ⟨⟨hrc, hrs, hR.1, hR.2, pay_in ht hG, hc⟩, ht _ (hG _ hc).1, ok _ (by simp [wsV]), ⟨hd.1, hd.2.1⟩, fun sig h => ?_, ok _ (by simp [wsV]), ok _ (by simp [wsV]), ok _ (by simp [wsV])⟩
  have h2 := hd.2.2
  rw [h] at h2
  exact (Option.some.inj h2).symm
theorem vx_runVW {y : MethodName} {bytes cc : ByteArray} {maxL nL mc ms n index : Nat} {ret : Option FieldType} {hh : List (Nat × Nat × Nat × Nat)} {ws : List Cond} {rm : Room} {Pc : Array Value → State → Prop} {Qc : Array Value → State → Outcome → State → Prop} {free : Addr → Prop} {Ts : List Cond} {own C : String} {b : Addr} {As rest : List Value} {g : JFrame}
    (S : CallFix p m c cc nL s args Ts own) (hM : Met l y ws rm Pc Qc mc ms free) (cw : vx_CVW R s args own C index y bytes maxL ret hh ws rm mc ms n) (hp : PreV s H C b Pc As)
    (hg : g.method = m) (hn : As.length = n) (hsize : g.locals.size = nL) (hstack : g.stack = As.reverse ++ .ref b :: rest) (hW : 2 * g.monitorRoom + (rest.map fun v => v.category).sum ≤ 8) (hdg : decode cc g.pc = .ok (.invokevirtual index, 3)) (hf : cells + mc ≤ R.cells ∧ slots + ms ≤ R.slots) :
    va_Run p l e R s m args below meth c H locs cells slots mc ms g rest (Qc (Value.ref b :: As).toArray) free := by
  obtain ⟨⟨hrc, hrs, hfr, hlo, hws, hcw⟩, hcode, hini, hy, hlen, hl, hin, hse⟩ := cw
  have hK : Back l R p e below s args y 3 8 (PreOf R mc ms Pc) (PostOf Qc mc ms free) := va_backW (hh := hh) (bytes := bytes) (maxL := maxL) (ret := ret) hM hp.1 hrc hrs hfr hlo hws hcw (fun a' U hW => word_at hW (Or.inl (by first | rfl | simp [Cond.onTables, Cond.keeps, Cond.steady])) hini)
  obtain ⟨hx, hb, hml, ho, -⟩ := S
  obtain ⟨-, ⟨cellB, hcB, hoB, hclB⟩, hPc⟩ := hp
  intro T hT X
  obtain ⟨v, vm₁, ⟨U', l2, c2, s2⟩, hW₁, X', ⟨g', mk, t, L, e1, e2, hq, h1, hL, h2, h3⟩, st⟩ := vx_callVW X hx (C := C) (hh := hh) (bytes := bytes) (maxL := maxL) (ret := ret) ho hl hin hse hcode hy hK (by rw [hT]; exact hcB) hoB hclB hg (hsize.trans hml.symm) (argsL := As) (rest := rest) (fun sig h => hn.trans (hlen sig h)) hstack hW (by rw [hb]; exact hdg)
    (fun vm₁ hW₁ => ⟨hf.1, hf.2, hPc (T.setVm vm₁) hT hW₁⟩)
  dsimp only [Pt.U, Pt.locs, Pt.cells, Pt.slots] at X' e1 e2 h1 h2 h3 st
  subst h1; subst h2; subst h3
  exact ⟨v, (T.setVm vm₁).calling g' mk (Value.ref b :: As).toArray, t, U', L, hT, X', hL, e1, e2, hq, st⟩
section
variable {y : MethodName} {bytes cc : ByteArray} {maxL nL mc ms n index : Nat} {ret : Option FieldType} {ws : List Cond} {rm : Room} {Pc : Array Value → State → Prop} {Qc : Array Value → State → Outcome → State → Prop} {XC : String → State → State → Prop} {free : Addr → Prop} {Ts : List Cond} {own C : String} {b : Addr} {As rest : List Value} {g : JFrame}
theorem vx_runVX {hh : List (Nat × Nat × Nat × Nat)} (S : CallFix p m c cc nL s args Ts own) (hM : vx_Met l y ws rm Pc Qc XC mc ms free) (cw : vx_CVW R s args own C index y bytes maxL ret hh ws rm mc ms n) (hp : PreV s H C b Pc As)
    (hg : g.method = m) (hn : As.length = n) (hsize : g.locals.size = nL) (hstack : g.stack = As.reverse ++ .ref b :: rest) (hW : 2 * g.monitorRoom + (rest.map fun v => v.category).sum ≤ 8) (hdg : decode cc g.pc = .ok (.invokevirtual index, 3)) (hf : cells + mc ≤ R.cells ∧ slots + ms ≤ R.slots) :
    vx_Run p l e R s m args below meth c H locs cells slots mc ms g rest (Qc (Value.ref b :: As).toArray) XC free := by
  obtain ⟨⟨hrc, hrs, hfr, hlo, hws, hcw⟩, hcode, hini, hy, hlen, hl, hin, hse⟩ := cw
  have hK : vx_Back l R p e below s args y 3 8 (PreOf R mc ms Pc) (PostOf Qc mc ms free) (vx_Post XC mc ms free) := vx_backW (hh := hh) (bytes := bytes) (maxL := maxL) (ret := ret) hM hp.1 hrc hrs hfr hlo hws hcw (fun a' U hW => word_at hW (Or.inl (by first | rfl | simp [Cond.onTables, Cond.keeps, Cond.steady])) hini)
  obtain ⟨hx, hb, hml, ho, -⟩ := S
  obtain ⟨-, ⟨cellB, hcB, hoB, hclB⟩, hPc⟩ := hp
  intro T hT X
  rcases vx_callVX X hx (C := C) (hh := hh) (bytes := bytes) (maxL := maxL) (ret := ret) ho hl hin hse hcode hy hK (by rw [hT]; exact hcB) hoB hclB hg (hsize.trans hml.symm) (argsL := As) (rest := rest) (fun sig h => hn.trans (hlen sig h)) hstack hW (by rw [hb]; exact hdg)
    (fun vm₁ hW₁ => ⟨hf.1, hf.2, hPc (T.setVm vm₁) hT hW₁⟩) with ⟨v, vm₁, ⟨U', l2, c2, s2⟩, hW₁, X', ⟨g', mk, t, L, e1, e2, hq, h1, hL, h2, h3⟩, st⟩ | ⟨q, vm₁, ⟨U', l2, c2, s2⟩, hW₁, X', ⟨g', mk, t, L, E, ce, e1, e2, hq, hce, hcv, hcl, h1, hL, h2, h3⟩, st⟩
  · dsimp only [Pt.U, Pt.locs, Pt.cells, Pt.slots] at X' e1 e2 h1 h2 h3 st
    subst h1; subst h2; subst h3
    exact Or.inl ⟨v, (T.setVm vm₁).calling g' mk (Value.ref b :: As).toArray, t, U', L, hT, X', hL, e1, e2, hq, st⟩
  · dsimp only [Pt.U, Pt.locs, Pt.cells, Pt.slots] at X' e1 e2 h1 h2 h3 st hcl
    subst h1; subst h2; subst h3
    exact Or.inr ⟨q, (T.setVm vm₁).calling g' mk (Value.ref b :: As).toArray, t, U', L, E, ce, hT, X', hL, e1, e2, hq, hce, hcv, vx_cls hW₁ hcl, st⟩
theorem vx_runSX {hh : List (Nat × Nat × Nat × Nat)} (S : CallFix p m c cc nL s args Ts own) (hM : vx_Met l y ws rm Pc Qc XC mc ms free) (cw : vx_CSW R s args own index y bytes maxL ret hh ws rm mc ms n) (hp : PreS s H Pc As)
    (hg : g.method = m) (hn : As.length = n) (hsize : g.locals.size = nL) (hstack : g.stack = As.reverse ++ rest) (hW : 2 * g.monitorRoom + (rest.map fun v => v.category).sum ≤ 8) (hdg : decode cc g.pc = .ok (.invokestatic index, 3)) (hf : cells + mc ≤ R.cells ∧ slots + ms ≤ R.slots) :
    vx_Run p l e R s m args below meth c H locs cells slots mc ms g rest (Qc As.toArray) XC free := by
  obtain ⟨⟨hrc, hrs, hfr, hlo, hws, hcw⟩, hcode, hini, hy, hlen, hl, hstt⟩ := cw
  have hK : vx_Back l R p e below s args y 3 8 (PreOf R mc ms Pc) (PostOf Qc mc ms free) (vx_Post XC mc ms free) := vx_backW (hh := hh) (bytes := bytes) (maxL := maxL) (ret := ret) hM hp.1 hrc hrs hfr hlo hws hcw (fun a' U hW => word_at hW (Or.inl (by first | rfl | simp [Cond.onTables, Cond.keeps, Cond.steady])) hini)
  obtain ⟨hx, hb, hml, ho, -⟩ := S
  intro T hT X
  rcases vx_callSX X hx (hh := hh) (bytes := bytes) (maxL := maxL) (ret := ret) ho hl hstt hini hcode hy hK hg (hsize.trans hml.symm) (argsL := As) (rest := rest) (fun sig h => hn.trans (hlen sig h)) hstack hW (by rw [hb]; exact hdg)
    (fun vm₁ hW₁ => ⟨hf.1, hf.2, hp.2 (T.setVm vm₁) hT hW₁⟩) with ⟨v, vm₁, ⟨U', l2, c2, s2⟩, hW₁, X', ⟨g', mk, t, L, e1, e2, hq, h1, hL, h2, h3⟩, st⟩ | ⟨q, vm₁, ⟨U', l2, c2, s2⟩, hW₁, X', ⟨g', mk, t, L, E, ce, e1, e2, hq, hce, hcv, hcl, h1, hL, h2, h3⟩, st⟩
  · dsimp only [Pt.U, Pt.locs, Pt.cells, Pt.slots] at X' e1 e2 h1 h2 h3 st
    subst h1; subst h2; subst h3
    exact Or.inl ⟨v, (T.setVm vm₁).calling g' mk As.toArray, t, U', L, hT, X', hL, e1, e2, hq, st⟩
  · dsimp only [Pt.U, Pt.locs, Pt.cells, Pt.slots] at X' e1 e2 h1 h2 h3 st hcl
    subst h1; subst h2; subst h3
    exact Or.inr ⟨q, (T.setVm vm₁).calling g' mk As.toArray, t, U', L, E, ce, hT, X', hL, e1, e2, hq, hce, hcv, vx_cls hW₁ hcl, st⟩
end
end VXH
theorem vx_ofWH {l : Launch} {y : MethodName} {ws ws' : List Cond} {rm : Room} {Pc : Array Value → State → Prop} {Qc : Array Value → State → Outcome → State → Prop} {XC : String → State → State → Prop} {mc ms : Nat} {free : Addr → Prop} {cc : ByteArray} {maxL : Nat} {ret : Option FieldType} {hh : List (Nat × Nat × Nat × Nat)}
    (hy : plainName y.cls = true) (hw : ws = Cond.codeWith y cc maxL ret hh :: ws')
    (body : ∀ p e s m args below meth c s₁, BodyLoose p l y (headSpec ws rm) cc maxL ret e s m args below meth c s₁ → c.maxLocals = maxL → Pc args s →
      W p l e (headSpec ws rm).room s m args below meth c s.heap [] 0 0 (vx_MQ below Qc XC args s mc ms free) (entryFrame m args maxL)) : vx_Met l y ws rm Pc Qc XC mc ms free := by
  refine MetFree.of_bodyS (code := cc) (maxLocals := maxL) (ret := ret) hy ?_ ?_
  · intro args s m h hn
    obtain ⟨m9, meth, c, hn9, h1, h2, h3, h4, -, h5, h6, -⟩ := Cond.codeWith_spec (atoms_spec (ws := ws) h _ (by rw [hw]; exact List.mem_cons_self))
    cases hn.symm.trans hn9
    exact ⟨meth, c, h1, h2, h3, h4, h5, h6⟩
  · intro p e s m args below meth c s₁ B hml hP _
    have hh0 : s₁.heap = s.heap := by rw [B.state]; rfl
    obtain ⟨t, a1, o, b1, b2, b3⟩ := body p e s m args below meth c s₁ B hml hP s₁ hh0 (Stand.of_body B)
    exact ⟨t, o, a1, b1, b2, b3⟩
/-! ===== END ===== -/
end
section
def RX0 : String := "SlideBonfire$Accounts"
def TX0 : u_T := fun k => match k with
  | 0 => ("SlideBonfire$Accounts", "time", "I", false)
  | 1 => ("SlideBonfire$Accounts", "hits", "I", false)
  | 2 => ("SlideBonfire$Accounts", "misses", "I", false)
  | 3 => ("SlideBonfire$Accounts", "loads", "I", false)
  | 4 => ("SlideBonfire$Accounts", "warmLoads", "I", false)
  | 5 => ("SlideBonfire$Accounts", "burnings", "I", false)
  | _ => ("SlideBonfire$Accounts", "waited", "I", false)
def tyX0 : Nat → FieldType := fun k => match k with
  | 0 => .int
  | 1 => .int
  | 2 => .int
  | 3 => .int
  | 4 => .int
  | 5 => .int
  | _ => .int
abbrev wsX00 : List Cond := u_ws RX0 TX0 7
theorem nmX0 : ∀ a, a < 7 → ∀ b, b < 7 → a ≠ b → (TX0 a).2.1 ≠ (TX0 b).2.1 := by decide +kernel
theorem tyX0_ok : ∀ k, k < 7 → parseFieldDescriptor (TX0 k).2.2.1 = some (tyX0 k) := by decide +kernel
abbrev cX0_init : ByteArray := prog_2_method_1_code
def yX0_init : MethodName := ⟨RX0, "<init>", "()V"⟩
abbrev cX0_copyFrom : ByteArray := prog_2_method_2_code
def yX0_copyFrom : MethodName := ⟨RX0, "copyFrom", "(LSlideBonfire$Accounts;)V"⟩
abbrev cX0_shareOfHits : ByteArray := prog_2_method_3_code
def yX0_shareOfHits : MethodName := ⟨RX0, "shareOfHits", "()D"⟩
def RX1 : String := "SlideBonfire$Bonfire"
def TX1 : u_T := fun k => match k with
  | 0 => ("SlideBonfire$Bonfire", "slides", "LSlideBonfire$Slides;", true)
  | 1 => ("SlideBonfire$Bonfire", "programme", "LSlideBonfire$Programme;", true)
  | 2 => ("SlideBonfire$Bonfire", "stage", "LSlideBonfire$Stage;", true)
  | 3 => ("SlideBonfire$Bonfire", "loader", "LSlideBonfire$Loader;", true)
  | 4 => ("SlideBonfire$Bonfire", "settings", "LSlideBonfire$Settings;", true)
  | 5 => ("SlideBonfire$Bonfire", "accounts", "LSlideBonfire$Accounts;", true)
  | 6 => ("SlideBonfire$Bonfire", "weight", "[I", true)
  | _ => ("SlideBonfire$Bonfire", "line", "[I", true)
def tyX1 : Nat → FieldType := fun k => match k with
  | 0 => .object "SlideBonfire$Slides"
  | 1 => .object "SlideBonfire$Programme"
  | 2 => .object "SlideBonfire$Stage"
  | 3 => .object "SlideBonfire$Loader"
  | 4 => .object "SlideBonfire$Settings"
  | 5 => .object "SlideBonfire$Accounts"
  | 6 => .array .int
  | _ => .array .int
abbrev wsX10 : List Cond := u_ws RX1 TX1 8
theorem nmX1 : ∀ a, a < 8 → ∀ b, b < 8 → a ≠ b → (TX1 a).2.1 ≠ (TX1 b).2.1 := by decide +kernel
theorem tyX1_ok : ∀ k, k < 8 → parseFieldDescriptor (TX1 k).2.2.1 = some (tyX1 k) := by decide +kernel
abbrev cX1_init : ByteArray := prog_3_method_1_code
def yX1_init : MethodName := ⟨RX1, "<init>", "()V"⟩
abbrev cX1_copyFrom : ByteArray := prog_3_method_2_code
def yX1_copyFrom : MethodName := ⟨RX1, "copyFrom", "(LSlideBonfire$Bonfire;)V"⟩
abbrev cX1_mayGoOn : ByteArray := prog_3_method_3_code
def yX1_mayGoOn : MethodName := ⟨RX1, "mayGoOn", "()Z"⟩
abbrev cX1_mayAsk : ByteArray := prog_3_method_4_code
def yX1_mayAsk : MethodName := ⟨RX1, "mayAsk", "(I)Z"⟩
abbrev cX1_mayBurn : ByteArray := prog_3_method_5_code
def yX1_mayBurn : MethodName := ⟨RX1, "mayBurn", "(I)Z"⟩
abbrev cX1_proceed : ByteArray := prog_3_method_11_code
def yX1_proceed : MethodName := ⟨RX1, "proceed", "()Z"⟩
abbrev cX1_bringOn : ByteArray := prog_3_method_12_code
def yX1_bringOn : MethodName := ⟨RX1, "bringOn", "(I)V"⟩
abbrev cX1_passTicks : ByteArray := prog_3_method_13_code
def yX1_passTicks : MethodName := ⟨RX1, "passTicks", "(I)I"⟩
abbrev cX1_passTick : ByteArray := prog_3_method_14_code
def yX1_passTick : MethodName := ⟨RX1, "passTick", "()I"⟩
abbrev cX1_paceIsReached : ByteArray := prog_3_method_15_code
def yX1_paceIsReached : MethodName := ⟨RX1, "paceIsReached", "()Z"⟩
abbrev cX1_loadOnce : ByteArray := prog_3_method_16_code
def yX1_loadOnce : MethodName := ⟨RX1, "loadOnce", "()Z"⟩
abbrev cX1_beginLoading : ByteArray := prog_3_method_17_code
def yX1_beginLoading : MethodName := ⟨RX1, "beginLoading", "()V"⟩
abbrev cX1_nextToLoad : ByteArray := prog_3_method_18_code
def yX1_nextToLoad : MethodName := ⟨RX1, "nextToLoad", "()I"⟩
abbrev cX1_nextInGoodTime : ByteArray := prog_3_method_19_code
def yX1_nextInGoodTime : MethodName := ⟨RX1, "nextInGoodTime", "()I"⟩
abbrev cX1_putOnFire : ByteArray := prog_3_method_20_code
def yX1_putOnFire : MethodName := ⟨RX1, "putOnFire", "(I)V"⟩
abbrev cX1_burnDownTo : ByteArray := prog_3_method_21_code
def yX1_burnDownTo : MethodName := ⟨RX1, "burnDownTo", "(I)V"⟩
abbrev cX1_lineUp : ByteArray := prog_3_method_22_code
def yX1_lineUp : MethodName := ⟨RX1, "lineUp", "()I"⟩
abbrev cX1_weighByUseOrCost : ByteArray := prog_3_method_23_code
def yX1_weighByUseOrCost : MethodName := ⟨RX1, "weighByUseOrCost", "()V"⟩
abbrev cX1_weighByNextUse : ByteArray := prog_3_method_24_code
def yX1_weighByNextUse : MethodName := ⟨RX1, "weighByNextUse", "()V"⟩
abbrev cX1_placeInLine : ByteArray := prog_3_method_25_code
def yX1_placeInLine : MethodName := ⟨RX1, "placeInLine", "(I)I"⟩
abbrev cX1_burningsToLoad : ByteArray := prog_3_method_26_code
def yX1_burningsToLoad : MethodName := ⟨RX1, "burningsToLoad", "(I)I"⟩
abbrev cX1_sumOfCosts : ByteArray := prog_3_method_27_code
def yX1_sumOfCosts : MethodName := ⟨RX1, "sumOfCosts", "()I"⟩
abbrev cX1_sumOfWait : ByteArray := prog_3_method_28_code
def yX1_sumOfWait : MethodName := ⟨RX1, "sumOfWait", "()I"⟩
def RX2 : String := "SlideBonfire$Loader"
def TX2 : u_T := fun k => match k with
  | 0 => ("SlideBonfire$Loader", "slide", "I", false)
  | 1 => ("SlideBonfire$Loader", "left", "I", false)
  | 2 => ("SlideBonfire$Loader", "queued", "I", false)
  | 3 => ("SlideBonfire$Loader", "row", "[I", true)
  | _ => ("SlideBonfire$Loader", "taken", "I", false)
def tyX2 : Nat → FieldType := fun k => match k with
  | 0 => .int
  | 1 => .int
  | 2 => .int
  | 3 => .array .int
  | _ => .int
abbrev wsX20 : List Cond := u_ws RX2 TX2 5
theorem nmX2 : ∀ a, a < 5 → ∀ b, b < 5 → a ≠ b → (TX2 a).2.1 ≠ (TX2 b).2.1 := by decide +kernel
theorem tyX2_ok : ∀ k, k < 5 → parseFieldDescriptor (TX2 k).2.2.1 = some (tyX2 k) := by decide +kernel
abbrev cX2_init : ByteArray := prog_4_method_1_code
def yX2_init : MethodName := ⟨RX2, "<init>", "()V"⟩
abbrev cX2_copyFrom : ByteArray := prog_4_method_2_code
def yX2_copyFrom : MethodName := ⟨RX2, "copyFrom", "(LSlideBonfire$Loader;)V"⟩
abbrev cX2_queuePlace : ByteArray := prog_4_method_3_code
def yX2_queuePlace : MethodName := ⟨RX2, "queuePlace", "(I)I"⟩
abbrev cX2_queue : ByteArray := prog_4_method_4_code
def yX2_queue : MethodName := ⟨RX2, "queue", "(I)V"⟩
abbrev cX2_unqueue : ByteArray := prog_4_method_5_code
def yX2_unqueue : MethodName := ⟨RX2, "unqueue", "(I)V"⟩
def RX3 : String := "SlideBonfire$Programme"
def TX3 : u_T := fun k => match k with
  | 0 => ("SlideBonfire$Programme", "count", "I", false)
  | 1 => ("SlideBonfire$Programme", "place", "I", false)
  | _ => ("SlideBonfire$Programme", "row", "[I", true)
def tyX3 : Nat → FieldType := fun k => match k with
  | 0 => .int
  | 1 => .int
  | _ => .array .int
abbrev wsX30 : List Cond := u_ws RX3 TX3 3
theorem nmX3 : ∀ a, a < 3 → ∀ b, b < 3 → a ≠ b → (TX3 a).2.1 ≠ (TX3 b).2.1 := by decide +kernel
theorem tyX3_ok : ∀ k, k < 3 → parseFieldDescriptor (TX3 k).2.2.1 = some (tyX3 k) := by decide +kernel
abbrev cX3_init : ByteArray := prog_5_method_1_code
def yX3_init : MethodName := ⟨RX3, "<init>", "()V"⟩
abbrev cX3_copyFrom : ByteArray := prog_5_method_2_code
def yX3_copyFrom : MethodName := ⟨RX3, "copyFrom", "(LSlideBonfire$Programme;)V"⟩
abbrev cX3_has : ByteArray := prog_5_method_3_code
def yX3_has : MethodName := ⟨RX3, "has", "(I)Z"⟩
abbrev cX3_put : ByteArray := prog_5_method_4_code
def yX3_put : MethodName := ⟨RX3, "put", "(II)V"⟩
abbrev cX3_remove : ByteArray := prog_5_method_5_code
def yX3_remove : MethodName := ⟨RX3, "remove", "(I)I"⟩
abbrev cX3_advance : ByteArray := prog_5_method_6_code
def yX3_advance : MethodName := ⟨RX3, "advance", "()I"⟩
abbrev cX3_slideAhead : ByteArray := prog_5_method_7_code
def yX3_slideAhead : MethodName := ⟨RX3, "slideAhead", "(I)I"⟩
abbrev cX3_placesUntil : ByteArray := prog_5_method_8_code
def yX3_placesUntil : MethodName := ⟨RX3, "placesUntil", "(I)I"⟩
def RX4 : String := "SlideBonfire$Settings"
def TX4 : u_T := fun k => match k with
  | 0 => ("SlideBonfire$Settings", "memory", "I", false)
  | 1 => ("SlideBonfire$Settings", "ahead", "I", false)
  | 2 => ("SlideBonfire$Settings", "order", "I", false)
  | 3 => ("SlideBonfire$Settings", "glow", "I", false)
  | _ => ("SlideBonfire$Settings", "pace", "I", false)
def tyX4 : Nat → FieldType := fun k => match k with
  | 0 => .int
  | 1 => .int
  | 2 => .int
  | 3 => .int
  | _ => .int
abbrev wsX40 : List Cond := u_ws RX4 TX4 5
theorem nmX4 : ∀ a, a < 5 → ∀ b, b < 5 → a ≠ b → (TX4 a).2.1 ≠ (TX4 b).2.1 := by decide +kernel
theorem tyX4_ok : ∀ k, k < 5 → parseFieldDescriptor (TX4 k).2.2.1 = some (tyX4 k) := by decide +kernel
abbrev cX4_init : ByteArray := prog_6_method_1_code
def yX4_init : MethodName := ⟨RX4, "<init>", "()V"⟩
abbrev cX4_copyFrom : ByteArray := prog_6_method_2_code
def yX4_copyFrom : MethodName := ⟨RX4, "copyFrom", "(LSlideBonfire$Settings;)V"⟩
def RX5 : String := "SlideBonfire$Shelf"
def TX5 : u_T := fun k => match k with
  | 0 => ("SlideBonfire$Shelf", "first", "I", false)
  | 1 => ("SlideBonfire$Shelf", "count", "I", false)
  | _ => ("SlideBonfire$Shelf", "ring", "[LSlideBonfire$Bonfire;", true)
def tyX5 : Nat → FieldType := fun k => match k with
  | 0 => .int
  | 1 => .int
  | _ => .array (.object "SlideBonfire$Bonfire")
abbrev wsX50 : List Cond := u_ws RX5 TX5 3
theorem nmX5 : ∀ a, a < 3 → ∀ b, b < 3 → a ≠ b → (TX5 a).2.1 ≠ (TX5 b).2.1 := by decide +kernel
theorem tyX5_ok : ∀ k, k < 3 → parseFieldDescriptor (TX5 k).2.2.1 = some (tyX5 k) := by decide +kernel
abbrev cX5_init : ByteArray := prog_7_method_1_code
def yX5_init : MethodName := ⟨RX5, "<init>", "()V"⟩
abbrev cX5_push : ByteArray := prog_7_method_2_code
def yX5_push : MethodName := ⟨RX5, "push", "(LSlideBonfire$Bonfire;)V"⟩
def RX6 : String := "SlideBonfire$Slides"
def TX6 : u_T := fun k => match k with
  | 0 => ("SlideBonfire$Slides", "count", "I", false)
  | 1 => ("SlideBonfire$Slides", "cost", "[I", true)
  | 2 => ("SlideBonfire$Slides", "load", "[I", true)
  | 3 => ("SlideBonfire$Slides", "fade", "[I", true)
  | 4 => ("SlideBonfire$Slides", "ready", "[Z", true)
  | 5 => ("SlideBonfire$Slides", "ember", "[I", true)
  | 6 => ("SlideBonfire$Slides", "burnt", "[I", true)
  | 7 => ("SlideBonfire$Slides", "usedAt", "[I", true)
  | _ => ("SlideBonfire$Slides", "uses", "I", false)
def tyX6 : Nat → FieldType := fun k => match k with
  | 0 => .int
  | 1 => .array .int
  | 2 => .array .int
  | 3 => .array .int
  | 4 => .array .boolean
  | 5 => .array .int
  | 6 => .array .int
  | 7 => .array .int
  | _ => .int
abbrev wsX60 : List Cond := u_ws RX6 TX6 9
theorem nmX6 : ∀ a, a < 9 → ∀ b, b < 9 → a ≠ b → (TX6 a).2.1 ≠ (TX6 b).2.1 := by decide +kernel
theorem tyX6_ok : ∀ k, k < 9 → parseFieldDescriptor (TX6 k).2.2.1 = some (tyX6 k) := by decide +kernel
abbrev cX6_init : ByteArray := prog_8_method_1_code
def yX6_init : MethodName := ⟨RX6, "<init>", "()V"⟩
abbrev cX6_copyFrom : ByteArray := prog_8_method_2_code
def yX6_copyFrom : MethodName := ⟨RX6, "copyFrom", "(LSlideBonfire$Slides;)V"⟩
abbrev cX6_has : ByteArray := prog_8_method_3_code
def yX6_has : MethodName := ⟨RX6, "has", "(I)Z"⟩
abbrev cX6_isReady : ByteArray := prog_8_method_4_code
def yX6_isReady : MethodName := ⟨RX6, "isReady", "(I)Z"⟩
abbrev cX6_setReady : ByteArray := prog_8_method_5_code
def yX6_setReady : MethodName := ⟨RX6, "setReady", "(IZ)V"⟩
abbrev cX6_add : ByteArray := prog_8_method_6_code
def yX6_add : MethodName := ⟨RX6, "add", "(III)I"⟩
abbrev cX6_ticksToLoad : ByteArray := prog_8_method_7_code
def yX6_ticksToLoad : MethodName := ⟨RX6, "ticksToLoad", "(II)I"⟩
abbrev cX6_use : ByteArray := prog_8_method_8_code
def yX6_use : MethodName := ⟨RX6, "use", "(I)V"⟩
abbrev cX6_coolEmbers : ByteArray := prog_8_method_9_code
def yX6_coolEmbers : MethodName := ⟨RX6, "coolEmbers", "()V"⟩
def RX7 : String := "SlideBonfire$Stage"
def TX7 : u_T := fun k => match k with
  | 0 => ("SlideBonfire$Stage", "shown", "I", false)
  | 1 => ("SlideBonfire$Stage", "shownFor", "I", false)
  | 2 => ("SlideBonfire$Stage", "fading", "I", false)
  | 3 => ("SlideBonfire$Stage", "fadeLeft", "I", false)
  | _ => ("SlideBonfire$Stage", "awaited", "I", false)
def tyX7 : Nat → FieldType := fun k => match k with
  | 0 => .int
  | 1 => .int
  | 2 => .int
  | 3 => .int
  | _ => .int
abbrev wsX70 : List Cond := u_ws RX7 TX7 5
theorem nmX7 : ∀ a, a < 5 → ∀ b, b < 5 → a ≠ b → (TX7 a).2.1 ≠ (TX7 b).2.1 := by decide +kernel
theorem tyX7_ok : ∀ k, k < 5 → parseFieldDescriptor (TX7 k).2.2.1 = some (tyX7 k) := by decide +kernel
abbrev cX7_init : ByteArray := prog_9_method_1_code
def yX7_init : MethodName := ⟨RX7, "<init>", "()V"⟩
abbrev cX7_copyFrom : ByteArray := prog_9_method_2_code
def yX7_copyFrom : MethodName := ⟨RX7, "copyFrom", "(LSlideBonfire$Stage;)V"⟩
abbrev cX7_bears : ByteArray := prog_9_method_3_code
def yX7_bears : MethodName := ⟨RX7, "bears", "(I)Z"⟩
abbrev cX7_bring : ByteArray := prog_9_method_4_code
def yX7_bring : MethodName := ⟨RX7, "bring", "(II)V"⟩
abbrev cX7_fadeOnce : ByteArray := prog_9_method_5_code
def yX7_fadeOnce : MethodName := ⟨RX7, "fadeOnce", "()V"⟩
abbrev cX7_countShown : ByteArray := prog_9_method_6_code
def yX7_countShown : MethodName := ⟨RX7, "countShown", "()V"⟩
def RX8 : String := "SlideBonfire$Text"
def TX8 : u_T := fun k => match k with
  | 0 => ("SlideBonfire$Text", "length", "I", false)
  | 1 => ("SlideBonfire$Text", "codes", "[I", true)
  | 2 => ("SlideBonfire$Text", "letter", "I", false)
  | 3 => ("SlideBonfire$Text", "number", "I", false)
  | _ => ("SlideBonfire$Text", "nextPart", "I", false)
def tyX8 : Nat → FieldType := fun k => match k with
  | 0 => .int
  | 1 => .array .int
  | 2 => .int
  | 3 => .int
  | _ => .int
abbrev wsX80 : List Cond := u_ws RX8 TX8 5
theorem nmX8 : ∀ a, a < 5 → ∀ b, b < 5 → a ≠ b → (TX8 a).2.1 ≠ (TX8 b).2.1 := by decide +kernel
theorem tyX8_ok : ∀ k, k < 5 → parseFieldDescriptor (TX8 k).2.2.1 = some (tyX8 k) := by decide +kernel
abbrev cX8_init : ByteArray := prog_10_method_1_code
def yX8_init : MethodName := ⟨RX8, "<init>", "()V"⟩
def RX9 : String := "SlideBonfire"
def TX9 : u_T := fun k => match k with
  | 0 => ("SlideBonfire", "now", "LSlideBonfire$Bonfire;", true)
  | 1 => ("SlideBonfire", "trial", "LSlideBonfire$Bonfire;", true)
  | 2 => ("SlideBonfire", "saved", "LSlideBonfire$Shelf;", true)
  | 3 => ("SlideBonfire", "kept", "[LSlideBonfire$Bonfire;", true)
  | 4 => ("SlideBonfire", "isKept", "[Z", true)
  | _ => ("SlideBonfire", "buffer", "LSlideBonfire$Text;", true)
def tyX9 : Nat → FieldType := fun k => match k with
  | 0 => .object "SlideBonfire$Bonfire"
  | 1 => .object "SlideBonfire$Bonfire"
  | 2 => .object "SlideBonfire$Shelf"
  | 3 => .array (.object "SlideBonfire$Bonfire")
  | 4 => .array .boolean
  | _ => .object "SlideBonfire$Text"
abbrev wsX90 : List Cond := u_ws RX9 TX9 6
theorem nmX9 : ∀ a, a < 6 → ∀ b, b < 6 → a ≠ b → (TX9 a).2.1 ≠ (TX9 b).2.1 := by decide +kernel
theorem tyX9_ok : ∀ k, k < 6 → parseFieldDescriptor (TX9 k).2.2.1 = some (tyX9 k) := by decide +kernel
abbrev cX9_init : ByteArray := prog_1_method_1_code
def yX9_init : MethodName := ⟨RX9, "<init>", "()V"⟩
abbrev cX9_addSlide : ByteArray := prog_1_method_2_code
def yX9_addSlide : MethodName := ⟨RX9, "addSlide", "(III)I"⟩
abbrev cX9_insert : ByteArray := prog_1_method_3_code
def yX9_insert : MethodName := ⟨RX9, "insert", "(II)I"⟩
abbrev cX9_takeOut : ByteArray := prog_1_method_4_code
def yX9_takeOut : MethodName := ⟨RX9, "takeOut", "(I)I"⟩
abbrev cX9_goOn : ByteArray := prog_1_method_5_code
def yX9_goOn : MethodName := ⟨RX9, "goOn", "()Z"⟩
abbrev cX9_ask : ByteArray := prog_1_method_6_code
def yX9_ask : MethodName := ⟨RX9, "ask", "(I)I"⟩
abbrev cX9_burn : ByteArray := prog_1_method_7_code
def yX9_burn : MethodName := ⟨RX9, "burn", "(I)I"⟩
abbrev cX9_tick : ByteArray := prog_1_method_8_code
def yX9_tick : MethodName := ⟨RX9, "tick", "(I)I"⟩
abbrev cX9_changeMemory : ByteArray := prog_1_method_9_code
def yX9_changeMemory : MethodName := ⟨RX9, "changeMemory", "(I)I"⟩
abbrev cX9_changeAhead : ByteArray := prog_1_method_10_code
def yX9_changeAhead : MethodName := ⟨RX9, "changeAhead", "(I)I"⟩
abbrev cX9_changeOrder : ByteArray := prog_1_method_11_code
def yX9_changeOrder : MethodName := ⟨RX9, "changeOrder", "(I)I"⟩
abbrev cX9_changeGlow : ByteArray := prog_1_method_12_code
def yX9_changeGlow : MethodName := ⟨RX9, "changeGlow", "(I)I"⟩
abbrev cX9_changePace : ByteArray := prog_1_method_13_code
def yX9_changePace : MethodName := ⟨RX9, "changePace", "(I)I"⟩
abbrev cX9_slides : ByteArray := prog_1_method_22_code
def yX9_slides : MethodName := ⟨RX9, "slides", "()I"⟩
abbrev cX9_costOf : ByteArray := prog_1_method_23_code
def yX9_costOf : MethodName := ⟨RX9, "costOf", "(I)I"⟩
abbrev cX9_loadOf : ByteArray := prog_1_method_24_code
def yX9_loadOf : MethodName := ⟨RX9, "loadOf", "(I)I"⟩
abbrev cX9_fadeOf : ByteArray := prog_1_method_25_code
def yX9_fadeOf : MethodName := ⟨RX9, "fadeOf", "(I)I"⟩
abbrev cX9_isLoaded : ByteArray := prog_1_method_26_code
def yX9_isLoaded : MethodName := ⟨RX9, "isLoaded", "(I)Z"⟩
abbrev cX9_isOnShow : ByteArray := prog_1_method_27_code
def yX9_isOnShow : MethodName := ⟨RX9, "isOnShow", "(I)Z"⟩
abbrev cX9_glowOf : ByteArray := prog_1_method_28_code
def yX9_glowOf : MethodName := ⟨RX9, "glowOf", "(I)I"⟩
abbrev cX9_burntTimes : ByteArray := prog_1_method_29_code
def yX9_burntTimes : MethodName := ⟨RX9, "burntTimes", "(I)I"⟩
abbrev cX9_nextUse : ByteArray := prog_1_method_30_code
def yX9_nextUse : MethodName := ⟨RX9, "nextUse", "(I)I"⟩
abbrev cX9_burnPlace : ByteArray := prog_1_method_31_code
def yX9_burnPlace : MethodName := ⟨RX9, "burnPlace", "(I)I"⟩
abbrev cX9_places : ByteArray := prog_1_method_32_code
def yX9_places : MethodName := ⟨RX9, "places", "()I"⟩
abbrev cX9_slideAt : ByteArray := prog_1_method_33_code
def yX9_slideAt : MethodName := ⟨RX9, "slideAt", "(I)I"⟩
abbrev cX9_showPlace : ByteArray := prog_1_method_34_code
def yX9_showPlace : MethodName := ⟨RX9, "showPlace", "()I"⟩
abbrev cX9_shown : ByteArray := prog_1_method_35_code
def yX9_shown : MethodName := ⟨RX9, "shown", "()I"⟩
abbrev cX9_fading : ByteArray := prog_1_method_36_code
def yX9_fading : MethodName := ⟨RX9, "fading", "()I"⟩
abbrev cX9_fadeLeft : ByteArray := prog_1_method_37_code
def yX9_fadeLeft : MethodName := ⟨RX9, "fadeLeft", "()I"⟩
abbrev cX9_awaited : ByteArray := prog_1_method_38_code
def yX9_awaited : MethodName := ⟨RX9, "awaited", "()I"⟩
abbrev cX9_shownFor : ByteArray := prog_1_method_39_code
def yX9_shownFor : MethodName := ⟨RX9, "shownFor", "()I"⟩
abbrev cX9_loading : ByteArray := prog_1_method_40_code
def yX9_loading : MethodName := ⟨RX9, "loading", "()I"⟩
abbrev cX9_loadLeft : ByteArray := prog_1_method_41_code
def yX9_loadLeft : MethodName := ⟨RX9, "loadLeft", "()I"⟩
abbrev cX9_asked : ByteArray := prog_1_method_42_code
def yX9_asked : MethodName := ⟨RX9, "asked", "()I"⟩
abbrev cX9_askedAt : ByteArray := prog_1_method_43_code
def yX9_askedAt : MethodName := ⟨RX9, "askedAt", "(I)I"⟩
abbrev cX9_takenBySlides : ByteArray := prog_1_method_44_code
def yX9_takenBySlides : MethodName := ⟨RX9, "takenBySlides", "()I"⟩
abbrev cX9_takenByAccount : ByteArray := prog_1_method_45_code
def yX9_takenByAccount : MethodName := ⟨RX9, "takenByAccount", "()I"⟩
abbrev cX9_memory : ByteArray := prog_1_method_46_code
def yX9_memory : MethodName := ⟨RX9, "memory", "()I"⟩
abbrev cX9_order : ByteArray := prog_1_method_48_code
def yX9_order : MethodName := ⟨RX9, "order", "()I"⟩
abbrev cX9_glow : ByteArray := prog_1_method_49_code
def yX9_glow : MethodName := ⟨RX9, "glow", "()I"⟩
abbrev cX9_ticksToShowByTicks : ByteArray := prog_1_method_51_code
def yX9_ticksToShowByTicks : MethodName := ⟨RX9, "ticksToShowByTicks", "()I"⟩
abbrev cX9_ticksToShowBySums : ByteArray := prog_1_method_52_code
def yX9_ticksToShowBySums : MethodName := ⟨RX9, "ticksToShowBySums", "()I"⟩
abbrev cX9_burningsFor : ByteArray := prog_1_method_53_code
def yX9_burningsFor : MethodName := ⟨RX9, "burningsFor", "(I)I"⟩
abbrev cX9_missesWith : ByteArray := prog_1_method_54_code
def yX9_missesWith : MethodName := ⟨RX9, "missesWith", "(I)I"⟩
abbrev cX9_bestOrder : ByteArray := prog_1_method_55_code
def yX9_bestOrder : MethodName := ⟨RX9, "bestOrder", "()I"⟩
abbrev cX9_time : ByteArray := prog_1_method_56_code
def yX9_time : MethodName := ⟨RX9, "time", "()I"⟩
abbrev cX9_hits : ByteArray := prog_1_method_57_code
def yX9_hits : MethodName := ⟨RX9, "hits", "()I"⟩
abbrev cX9_misses : ByteArray := prog_1_method_58_code
def yX9_misses : MethodName := ⟨RX9, "misses", "()I"⟩
abbrev cX9_loads : ByteArray := prog_1_method_59_code
def yX9_loads : MethodName := ⟨RX9, "loads", "()I"⟩
abbrev cX9_warmLoads : ByteArray := prog_1_method_60_code
def yX9_warmLoads : MethodName := ⟨RX9, "warmLoads", "()I"⟩
abbrev cX9_burnings : ByteArray := prog_1_method_61_code
def yX9_burnings : MethodName := ⟨RX9, "burnings", "()I"⟩
abbrev cX9_waited : ByteArray := prog_1_method_62_code
def yX9_waited : MethodName := ⟨RX9, "waited", "()I"⟩
abbrev cX9_hitShare : ByteArray := prog_1_method_63_code
def yX9_hitShare : MethodName := ⟨RX9, "hitShare", "()D"⟩
abbrev cX9_waitOnTrial : ByteArray := prog_1_method_71_code
def yX9_waitOnTrial : MethodName := ⟨RX9, "waitOnTrial", "()I"⟩
abbrev cX9_missesOnTrial : ByteArray := prog_1_method_72_code
def yX9_missesOnTrial : MethodName := ⟨RX9, "missesOnTrial", "(I)I"⟩
abbrev cX9_needArgument : ByteArray := prog_1_method_74_code
def yX9_needArgument : MethodName := ⟨RX9, "needArgument", "(Z)V"⟩
abbrev cX9_needIndex : ByteArray := prog_1_method_75_code
def yX9_needIndex : MethodName := ⟨RX9, "needIndex", "(Z)V"⟩
abbrev cX9_needState : ByteArray := prog_1_method_76_code
def yX9_needState : MethodName := ⟨RX9, "needState", "(Z)V"⟩
abbrev cX9_isWithin : ByteArray := prog_1_method_77_code
def yX9_isWithin : MethodName := ⟨RX9, "isWithin", "(III)Z"⟩
abbrev cX9_at : ByteArray := prog_1_method_78_code
def yX9_at : MethodName := ⟨RX9, "at", "([II)I"⟩
abbrev cX9_set : ByteArray := prog_1_method_79_code
def yX9_set : MethodName := ⟨RX9, "set", "([III)V"⟩
abbrev cX9_copyRow : ByteArray := prog_1_method_80_code
def yX9_copyRow : MethodName := ⟨RX9, "copyRow", "([I[I)V"⟩
def RX10 : String := "SlideBonfireModel"
def TX10 : u_T := fun k => match k with
  | _ => ("", "", "", false)
def tyX10 : Nat → FieldType := fun k => match k with
  | _ => .int
abbrev wsX100 : List Cond := u_ws RX10 TX10 0
theorem nmX10 : ∀ a, a < 0 → ∀ b, b < 0 → a ≠ b → (TX10 a).2.1 ≠ (TX10 b).2.1 := by decide +kernel
theorem tyX10_ok : ∀ k, k < 0 → parseFieldDescriptor (TX10 k).2.2.1 = some (tyX10 k) := by decide +kernel
def RL : String := "SlideBonfireLaw"
abbrev cL_cell : ByteArray := method_2_code
def yL_cell : MethodName := ⟨RL, "cell", "([II)I"⟩
abbrev cL_low : ByteArray := method_3_code
def yL_low : MethodName := ⟨RL, "low", "(II)I"⟩
abbrev cL_told : ByteArray := method_4_code
def yL_told : MethodName := ⟨RL, "told", "(LSlideBonfire;I)I"⟩
abbrev cL_showPlace : ByteArray := method_5_code
def yL_showPlace : MethodName := ⟨RL, "showPlace", "(LSlideBonfire;)I"⟩
abbrev cL_isAsked : ByteArray := method_6_code
def yL_isAsked : MethodName := ⟨RL, "isAsked", "(LSlideBonfire;I)Z"⟩
abbrev cL_does : ByteArray := method_7_code
def yL_does : MethodName := ⟨RL, "does", "(LSlideBonfire;II)Z"⟩
abbrev cL_isInserted : ByteArray := method_8_code
def yL_isInserted : MethodName := ⟨RL, "isInserted", "(LSlideBonfire;II)Z"⟩
abbrev cL_isTaken : ByteArray := method_9_code
def yL_isTaken : MethodName := ⟨RL, "isTaken", "(LSlideBonfire;I)Z"⟩
abbrev cL_isGone : ByteArray := method_10_code
def yL_isGone : MethodName := ⟨RL, "isGone", "(LSlideBonfire;)Z"⟩
abbrev cL_isBurnt : ByteArray := method_11_code
def yL_isBurnt : MethodName := ⟨RL, "isBurnt", "(LSlideBonfire;I)Z"⟩
abbrev cL_isTicked : ByteArray := method_12_code
def yL_isTicked : MethodName := ⟨RL, "isTicked", "(LSlideBonfire;I)Z"⟩
abbrev cL_isAwaited : ByteArray := method_13_code
def yL_isAwaited : MethodName := ⟨RL, "isAwaited", "(LSlideBonfire;)Z"⟩
abbrev cL_isMemorySo : ByteArray := method_14_code
def yL_isMemorySo : MethodName := ⟨RL, "isMemorySo", "(LSlideBonfire;)Z"⟩
abbrev cL_isAskedSo : ByteArray := method_15_code
def yL_isAskedSo : MethodName := ⟨RL, "isAskedSo", "(LSlideBonfire;)Z"⟩
abbrev cL_isRoundSo : ByteArray := method_16_code
def yL_isRoundSo : MethodName := ⟨RL, "isRoundSo", "(LSlideBonfire;I)Z"⟩
abbrev cL_law : ByteArray := code
def yL_law : MethodName := ⟨RL, "law", "([I)Z"⟩
abbrev vwCl : List vw_C := [(RX0, TX0, 7), (RX1, TX1, 8), (RX2, TX2, 5), (RX3, TX3, 3), (RX4, TX4, 5), (RX5, TX5, 3), (RX6, TX6, 9), (RX7, TX7, 5), (RX8, TX8, 5), (RX9, TX9, 6)]
end
section
/-! A small machine of my own for the program's bytecode (qa_): its words. Positions of cells are pairs (region, place). -/
abbrev qa_P : Type := Nat × Nat
/-- a value: a reference by its position, or a value of the machine that is none -/
abbrev qa_V : Type := qa_P ⊕ Value
abbrev qa_R : Type := (Nat → Int32) ⊕ (Nat → Int64) ⊕ (Nat → Option qa_P)
/-- a cell: an object (class, fields by slot) or an array (kind of its elements, length, elements) -/
abbrev qa_C : Type := (Nat × (Nat → qa_V)) ⊕ (Nat × Nat × qa_R)
/-- the heap: the next free position, the cells -/
abbrev qa_H : Type := qa_P × (qa_P → qa_C)
abbrev qa_L : Type := List (Nat × qa_V)
/-- a method: name, bytes, locals, return type, class, instructions, arguments with the receiver, kind (0 constructor, 1 static, 2 of an object), frames, locals' room, handlers, places of its words in lw_tbl -/
abbrev qa_M : Type := MethodName × ByteArray × Nat × Option FieldType × Nat × List (Nat × Instr × Nat) × Nat × Nat × Nat × Nat × List (Nat × Nat × Nat × Nat) × Nat × Nat × Nat
def qa_nm (M : qa_M) : MethodName := M.1
def qa_by (M : qa_M) : ByteArray := M.2.1
def qa_ml (M : qa_M) : Nat := M.2.2.1
def qa_rt (M : qa_M) : Option FieldType := M.2.2.2.1
def qa_cl (M : qa_M) : Nat := M.2.2.2.2.1
def qa_is (M : qa_M) : List (Nat × Instr × Nat) := M.2.2.2.2.2.1
def qa_na (M : qa_M) : Nat := M.2.2.2.2.2.2.1
def qa_sk (M : qa_M) : Nat := M.2.2.2.2.2.2.2.1
def qa_fr (M : qa_M) : Nat := M.2.2.2.2.2.2.2.2.1
def qa_lo (M : qa_M) : Nat := M.2.2.2.2.2.2.2.2.2.1
def qa_hh (M : qa_M) : List (Nat × Nat × Nat × Nat) := M.2.2.2.2.2.2.2.2.2.2.1
def qa_wp (M : qa_M) : Nat × Nat × Nat := M.2.2.2.2.2.2.2.2.2.2.2
def qa_lk {α : Type} : List (Nat × α) → Nat → Option α
  | [], _ => none
  | (k, a) :: l, n => if k = n then some a else qa_lk l n
theorem qa_lk_mem {α : Type} {l : List (Nat × α)} {n : Nat} {a : α} (h : qa_lk l n = some a) : (n, a) ∈ l := by
  induction l with
  | nil => cases h
  | cons q l ih =>
    obtain ⟨k, b⟩ := q
    unfold qa_lk at h
    split at h
    · next e => cases h; rw [e]; exact List.mem_cons_self
    · exact List.mem_cons_of_mem _ (ih h)
/-- each instruction stands where the listing says -/
def qa_de (M : qa_M) : Bool := (qa_is M).all (fun q => decide (decode (qa_by M) q.1 = .ok (q.2.1, q.2.2)))
end
section
/-! the tables of the program, by class number and number of the pool (written by wip/tools/mk_tab.py) -/
def qa_cn : Nat → String := fun k => match k with
  | 0 => RX0
  | 1 => RX1
  | 2 => RX2
  | 3 => RX3
  | 4 => RX4
  | 5 => RX5
  | 6 => RX6
  | 7 => RX7
  | 8 => RX8
  | 9 => RX9
  | _ => RL
def qa_fl0 : List (Nat × (Nat × Nat × Nat)) := [(7, (0, 0, 201)), (13, (0, 1, 204)), (16, (0, 2, 207)), (19, (0, 3, 210)), (22, (0, 4, 213)), (25, (0, 5, 216)), (28, (0, 6, 219))]
def qa_fl1 : List (Nat × (Nat × Nat × Nat)) := [(12, (1, 0, 237)), (21, (1, 1, 239)), (28, (1, 2, 241)), (35, (1, 3, 243)), (42, (1, 4, 245)), (49, (1, 5, 247)), (53, (1, 6, 249)), (57, (1, 7, 250)), (79, (3, 0, 88)), (83, (7, 4, 118)), (90, (2, 0, 138)), (149, (0, 1, 205)), (155, (0, 2, 208)), (161, (6, 3, 48)), (174, (0, 0, 202)), (177, (0, 6, 220)), (195, (4, 4, 183)), (198, (7, 0, 108)), (201, (7, 1, 111)), (204, (2, 1, 141)), (214, (6, 1, 45)), (217, (4, 0, 171)), (223, (6, 5, 52)), (226, (0, 4, 214)), (229, (0, 3, 211)), (236, (2, 4, 150)), (243, (2, 2, 145)), (246, (2, 3, 147)), (252, (4, 1, 174)), (258, (4, 3, 180)), (261, (6, 6, 55)), (264, (0, 5, 217)), (270, (4, 2, 177)), (279, (6, 0, 42)), (280, (6, 7, 58))]
def qa_fl2 : List (Nat × (Nat × Nat × Nat)) := [(9, (2, 0, 137)), (15, (2, 3, 146)), (19, (2, 1, 140)), (22, (2, 2, 143)), (29, (2, 4, 149))]
def qa_fl3 : List (Nat × (Nat × Nat × Nat)) := [(9, (3, 1, 90)), (15, (3, 2, 92)), (19, (3, 0, 87))]
def qa_fl4 : List (Nat × (Nat × Nat × Nat)) := [(9, (4, 0, 169)), (15, (4, 1, 172)), (18, (4, 3, 178)), (21, (4, 2, 175)), (24, (4, 4, 181))]
def qa_fl5 : List (Nat × (Nat × Nat × Nat)) := [(11, (5, 2, 279)), (18, (5, 0, 277)), (22, (5, 1, 278))]
def qa_fl6 : List (Nat × (Nat × Nat × Nat)) := [(9, (6, 1, 43)), (15, (6, 2, 46)), (18, (6, 3, 47)), (21, (6, 4, 50)), (25, (6, 5, 51)), (28, (6, 6, 54)), (31, (6, 7, 57)), (34, (6, 0, 40)), (42, (6, 8, 59))]
def qa_fl7 : List (Nat × (Nat × Nat × Nat)) := [(9, (7, 0, 107)), (15, (7, 2, 113)), (18, (7, 4, 117)), (21, (7, 1, 110)), (24, (7, 3, 115))]
def qa_fl8 : List (Nat × (Nat × Nat × Nat)) := [(9, (8, 1, 293))]
def qa_fl9 : List (Nat × (Nat × Nat × Nat)) := [(10, (9, 0, 305)), (16, (9, 1, 306)), (22, (9, 2, 307)), (26, (9, 3, 308)), (30, (9, 4, 309)), (37, (9, 5, 310)), (49, (1, 0, 238)), (53, (6, 0, 41)), (73, (1, 1, 240)), (77, (3, 0, 89)), (106, (1, 3, 244)), (116, (2, 2, 144)), (125, (6, 1, 44)), (136, (1, 4, 246)), (140, (4, 0, 170)), (148, (4, 1, 173)), (151, (4, 2, 176)), (154, (4, 3, 179)), (157, (4, 4, 182)), (202, (6, 3, 49)), (208, (1, 2, 242)), (217, (6, 5, 53)), (220, (6, 6, 56)), (229, (3, 2, 93)), (232, (3, 1, 91)), (235, (7, 0, 109)), (238, (7, 2, 114)), (241, (7, 3, 116)), (244, (7, 4, 119)), (247, (7, 1, 112)), (250, (2, 0, 139)), (253, (2, 1, 142)), (256, (2, 3, 148)), (260, (2, 4, 151)), (275, (1, 5, 248)), (279, (0, 0, 203)), (284, (0, 1, 206)), (287, (0, 2, 209)), (290, (0, 3, 212)), (293, (0, 4, 215)), (296, (0, 5, 218)), (299, (0, 6, 221))]
def qa_fl10 : List (Nat × (Nat × Nat × Nat)) := []
def qa_fl11 : List (Nat × (Nat × Nat × Nat)) := []
def qa_fl : Nat → List (Nat × (Nat × Nat × Nat)) := fun k => match k with
  | 0 => qa_fl0
  | 1 => qa_fl1
  | 2 => qa_fl2
  | 3 => qa_fl3
  | 4 => qa_fl4
  | 5 => qa_fl5
  | 6 => qa_fl6
  | 7 => qa_fl7
  | 8 => qa_fl8
  | 9 => qa_fl9
  | 10 => qa_fl10
  | _ => qa_fl11
def qa_nw0 : List (Nat × (Nat × Nat)) := []
def qa_nw1 : List (Nat × (Nat × Nat)) := [(9, (6, 34)), (18, (3, 81)), (25, (7, 101)), (32, (2, 131)), (39, (4, 163)), (46, (0, 195))]
def qa_nw2 : List (Nat × (Nat × Nat)) := []
def qa_nw3 : List (Nat × (Nat × Nat)) := []
def qa_nw4 : List (Nat × (Nat × Nat)) := []
def qa_nw5 : List (Nat × (Nat × Nat)) := [(9, (1, 274))]
def qa_nw6 : List (Nat × (Nat × Nat)) := []
def qa_nw7 : List (Nat × (Nat × Nat)) := []
def qa_nw8 : List (Nat × (Nat × Nat)) := []
def qa_nw9 : List (Nat × (Nat × Nat)) := [(7, (1, 28)), (19, (5, 268)), (34, (8, 287))]
def qa_nw10 : List (Nat × (Nat × Nat)) := []
def qa_nw11 : List (Nat × (Nat × Nat)) := [(9, (9, 20))]
def qa_nw : Nat → List (Nat × (Nat × Nat)) := fun k => match k with
  | 0 => qa_nw0
  | 1 => qa_nw1
  | 2 => qa_nw2
  | 3 => qa_nw3
  | 4 => qa_nw4
  | 5 => qa_nw5
  | 6 => qa_nw6
  | 7 => qa_nw7
  | 8 => qa_nw8
  | 9 => qa_nw9
  | 10 => qa_nw10
  | _ => qa_nw11
def qa_kl0 : List (Nat × (Value × Nat)) := []
def qa_kl1 : List (Nat × (Value × Nat)) := []
def qa_kl2 : List (Nat × (Value × Nat)) := []
def qa_kl3 : List (Nat × (Value × Nat)) := []
def qa_kl4 : List (Nat × (Value × Nat)) := []
def qa_kl5 : List (Nat × (Value × Nat)) := []
def qa_kl6 : List (Nat × (Value × Nat)) := []
def qa_kl7 : List (Nat × (Value × Nat)) := []
def qa_kl8 : List (Nat × (Value × Nat)) := []
def qa_kl9 : List (Nat × (Value × Nat)) := []
def qa_kl10 : List (Nat × (Value × Nat)) := []
def qa_kl11 : List (Nat × (Value × Nat)) := []
def qa_kl : Nat → List (Nat × (Value × Nat)) := fun k => match k with
  | 0 => qa_kl0
  | 1 => qa_kl1
  | 2 => qa_kl2
  | 3 => qa_kl3
  | 4 => qa_kl4
  | 5 => qa_kl5
  | 6 => qa_kl6
  | 7 => qa_kl7
  | 8 => qa_kl8
  | 9 => qa_kl9
  | 10 => qa_kl10
  | _ => qa_kl11
def qa_kz0 : List (Nat × (Int32 × Nat)) := []
def qa_kz1 : List (Nat × (Int32 × Nat)) := []
def qa_kz2 : List (Nat × (Int32 × Nat)) := []
def qa_kz3 : List (Nat × (Int32 × Nat)) := []
def qa_kz4 : List (Nat × (Int32 × Nat)) := []
def qa_kz5 : List (Nat × (Int32 × Nat)) := []
def qa_kz6 : List (Nat × (Int32 × Nat)) := []
def qa_kz7 : List (Nat × (Int32 × Nat)) := []
def qa_kz8 : List (Nat × (Int32 × Nat)) := []
def qa_kz9 : List (Nat × (Int32 × Nat)) := []
def qa_kz10 : List (Nat × (Int32 × Nat)) := []
def qa_kz11 : List (Nat × (Int32 × Nat)) := [(7, (2147483647, 337))]
def qa_kz : Nat → List (Nat × (Int32 × Nat)) := fun k => match k with
  | 0 => qa_kz0
  | 1 => qa_kz1
  | 2 => qa_kz2
  | 3 => qa_kz3
  | 4 => qa_kz4
  | 5 => qa_kz5
  | 6 => qa_kz6
  | 7 => qa_kz7
  | 8 => qa_kz8
  | 9 => qa_kz9
  | 10 => qa_kz10
  | _ => qa_kz11
def qa_iX0_init : List (Nat × Instr × Nat) := [(0, .aload_n 0, 1), (1, .invokespecial 1, 3), (4, .return_, 1)]
def qa_mX0_init : qa_M := (yX0_init, cX0_init, 1, none, 0, qa_iX0_init, 1, 0, 1, 20, [], 199, 198, 0)
def qa_iX0_copyFrom : List (Nat × Instr × Nat) := [(0, .aload_n 0, 1), (1, .aload_n 1, 1), (2, .getfield 7, 3), (5, .putfield 7, 3), (8, .aload_n 0, 1), (9, .aload_n 1, 1), (10, .getfield 13, 3), (13, .putfield 13, 3), (16, .aload_n 0, 1), (17, .aload_n 1, 1), (18, .getfield 16, 3), (21, .putfield 16, 3), (24, .aload_n 0, 1), (25, .aload_n 1, 1), (26, .getfield 19, 3), (29, .putfield 19, 3), (32, .aload_n 0, 1), (33, .aload_n 1, 1), (34, .getfield 22, 3), (37, .putfield 22, 3), (40, .aload_n 0, 1), (41, .aload_n 1, 1), (42, .getfield 25, 3), (45, .putfield 25, 3), (48, .aload_n 0, 1), (49, .aload_n 1, 1), (50, .getfield 28, 3), (53, .putfield 28, 3), (56, .return_, 1)]
def qa_mX0_copyFrom : qa_M := (yX0_copyFrom, cX0_copyFrom, 2, none, 0, qa_iX0_copyFrom, 2, 2, 0, 0, [], 465, 463, 464)
def qa_iX0_shareOfHits : List (Nat × Instr × Nat) := [(0, .aload_n 0, 1), (1, .getfield 13, 3), (4, .aload_n 0, 1), (5, .getfield 16, 3), (8, .iadd, 1), (9, .istore_n 1, 1), (10, .iload_n 1, 1), (11, .ifCond .le 14, 3), (14, .aload_n 0, 1), (15, .getfield 13, 3), (18, .i2d, 1), (19, .iload_n 1, 1), (20, .i2d, 1), (21, .ddiv, 1), (22, .goto 4, 3), (25, .dconst 0, 1), (26, .dreturn, 1)]
def qa_mX0_shareOfHits : qa_M := (yX0_shareOfHits, cX0_shareOfHits, 2, (some .double), 0, qa_iX0_shareOfHits, 1, 2, 0, 0, [], 909, 907, 908)
def qa_iX1_init : List (Nat × Instr × Nat) := [(0, .aload_n 0, 1), (1, .invokespecial 3, 3), (4, .aload_n 0, 1), (5, .new 9, 3), (8, .dup, 1), (9, .invokespecial 11, 3), (12, .putfield 12, 3), (15, .aload_n 0, 1), (16, .new 18, 3), (19, .dup, 1), (20, .invokespecial 20, 3), (23, .putfield 21, 3), (26, .aload_n 0, 1), (27, .new 25, 3), (30, .dup, 1), (31, .invokespecial 27, 3), (34, .putfield 28, 3), (37, .aload_n 0, 1), (38, .new 32, 3), (41, .dup, 1), (42, .invokespecial 34, 3), (45, .putfield 35, 3), (48, .aload_n 0, 1), (49, .new 39, 3), (52, .dup, 1), (53, .invokespecial 41, 3), (56, .putfield 42, 3), (59, .aload_n 0, 1), (60, .new 46, 3), (63, .dup, 1), (64, .invokespecial 48, 3), (67, .putfield 49, 3), (70, .aload_n 0, 1), (71, .bipush 16, 2), (73, .newarray .int, 2), (75, .putfield 53, 3), (78, .aload_n 0, 1), (79, .bipush 16, 2), (81, .newarray .int, 2), (83, .putfield 57, 3), (86, .return_, 1)]
def qa_mX1_init : qa_M := (yX1_init, cX1_init, 1, none, 1, qa_iX1_init, 1, 0, 2, 40, [], 32, 31, 0)
def qa_iX1_copyFrom : List (Nat × Instr × Nat) := [(0, .aload_n 0, 1), (1, .getfield 12, 3), (4, .aload_n 1, 1), (5, .getfield 12, 3), (8, .invokevirtual 60, 3), (11, .aload_n 0, 1), (12, .getfield 21, 3), (15, .aload_n 1, 1), (16, .getfield 21, 3), (19, .invokevirtual 64, 3), (22, .aload_n 0, 1), (23, .getfield 28, 3), (26, .aload_n 1, 1), (27, .getfield 28, 3), (30, .invokevirtual 67, 3), (33, .aload_n 0, 1), (34, .getfield 35, 3), (37, .aload_n 1, 1), (38, .getfield 35, 3), (41, .invokevirtual 70, 3), (44, .aload_n 0, 1), (45, .getfield 42, 3), (48, .aload_n 1, 1), (49, .getfield 42, 3), (52, .invokevirtual 73, 3), (55, .aload_n 0, 1), (56, .getfield 49, 3), (59, .aload_n 1, 1), (60, .getfield 49, 3), (63, .invokevirtual 76, 3), (66, .return_, 1)]
def qa_mX1_copyFrom : qa_M := (yX1_copyFrom, cX1_copyFrom, 2, none, 1, qa_iX1_copyFrom, 2, 2, 2, 44, [], 436, 434, 435)
def qa_iX1_mayGoOn : List (Nat × Instr × Nat) := [(0, .aload_n 0, 1), (1, .getfield 21, 3), (4, .getfield 79, 3), (7, .ifCond .le 18, 3), (10, .aload_n 0, 1), (11, .getfield 28, 3), (14, .getfield 83, 3), (17, .iconst (-1), 1), (18, .if_icmp .ne 7, 3), (21, .iconst 1, 1), (22, .goto 4, 3), (25, .iconst 0, 1), (26, .ireturn, 1)]
def qa_mX1_mayGoOn : qa_M := (yX1_mayGoOn, cX1_mayGoOn, 1, (some .boolean), 1, qa_iX1_mayGoOn, 1, 2, 0, 0, [], 649, 647, 648)
def qa_iX1_mayAsk : List (Nat × Instr × Nat) := [(0, .aload_n 0, 1), (1, .getfield 12, 3), (4, .iload_n 1, 1), (5, .invokevirtual 86, 3), (8, .ifCond .ne 41, 3), (11, .iload_n 1, 1), (12, .aload_n 0, 1), (13, .getfield 35, 3), (16, .getfield 90, 3), (19, .if_icmp .eq 30, 3), (22, .iload_n 1, 1), (23, .aload_n 0, 1), (24, .getfield 28, 3), (27, .getfield 83, 3), (30, .if_icmp .eq 19, 3), (33, .aload_n 0, 1), (34, .getfield 35, 3), (37, .iload_n 1, 1), (38, .invokevirtual 93, 3), (41, .iconst (-1), 1), (42, .if_icmp .ne 7, 3), (45, .iconst 1, 1), (46, .goto 4, 3), (49, .iconst 0, 1), (50, .ireturn, 1)]
def qa_mX1_mayAsk : qa_M := (yX1_mayAsk, cX1_mayAsk, 2, (some .boolean), 1, qa_iX1_mayAsk, 2, 2, 2, 43, [], 704, 702, 703)
def qa_iX1_mayBurn : List (Nat × Instr × Nat) := [(0, .aload_n 0, 1), (1, .getfield 12, 3), (4, .iload_n 1, 1), (5, .invokevirtual 86, 3), (8, .ifCond .eq 18, 3), (11, .aload_n 0, 1), (12, .getfield 28, 3), (15, .iload_n 1, 1), (16, .invokevirtual 97, 3), (19, .ifCond .ne 7, 3), (22, .iconst 1, 1), (23, .goto 4, 3), (26, .iconst 0, 1), (27, .ireturn, 1)]
def qa_mX1_mayBurn : qa_M := (yX1_mayBurn, cX1_mayBurn, 2, (some .boolean), 1, qa_iX1_mayBurn, 2, 2, 1, 21, [], 522, 520, 521)
def qa_iX1_proceed : List (Nat × Instr × Nat) := [(0, .aload_n 0, 1), (1, .getfield 21, 3), (4, .invokevirtual 146, 3), (7, .istore_n 1, 1), (8, .aload_n 0, 1), (9, .getfield 12, 3), (12, .iload_n 1, 1), (13, .invokevirtual 86, 3), (16, .ifCond .eq 23, 3), (19, .aload_n 0, 1), (20, .getfield 49, 3), (23, .dup, 1), (24, .getfield 149, 3), (27, .iconst 1, 1), (28, .iadd, 1), (29, .putfield 149, 3), (32, .aload_n 0, 1), (33, .iload_n 1, 1), (34, .invokevirtual 152, 3), (37, .iconst 1, 1), (38, .ireturn, 1), (39, .aload_n 0, 1), (40, .getfield 49, 3), (43, .dup, 1), (44, .getfield 155, 3), (47, .iconst 1, 1), (48, .iadd, 1), (49, .putfield 155, 3), (52, .aload_n 0, 1), (53, .getfield 28, 3), (56, .iload_n 1, 1), (57, .putfield 83, 3), (60, .aload_n 0, 1), (61, .getfield 35, 3), (64, .iload_n 1, 1), (65, .invokevirtual 93, 3), (68, .istore_n 2, 1), (69, .iload_n 2, 1), (70, .iconst (-1), 1), (71, .if_icmp .eq 11, 3), (74, .aload_n 0, 1), (75, .getfield 35, 3), (78, .iload_n 2, 1), (79, .invokevirtual 158, 3), (82, .iconst 0, 1), (83, .ireturn, 1)]
def qa_mX1_proceed : qa_M := (yX1_proceed, cX1_proceed, 3, (some .boolean), 1, qa_iX1_proceed, 1, 2, 3, 64, [], 653, 651, 652)
def qa_iX1_bringOn : List (Nat × Instr × Nat) := [(0, .aload_n 0, 1), (1, .getfield 28, 3), (4, .iload_n 1, 1), (5, .aload_n 0, 1), (6, .getfield 12, 3), (9, .getfield 161, 3), (12, .iload_n 1, 1), (13, .invokestatic 164, 3), (16, .invokevirtual 168, 3), (19, .aload_n 0, 1), (20, .getfield 12, 3), (23, .iload_n 1, 1), (24, .invokevirtual 171, 3), (27, .return_, 1)]
def qa_mX1_bringOn : qa_M := (yX1_bringOn, cX1_bringOn, 2, none, 1, qa_iX1_bringOn, 2, 2, 2, 43, [], 661, 659, 660)
def qa_iX1_passTicks : List (Nat × Instr × Nat) := [(0, .iconst 0, 1), (1, .istore_n 2, 1), (2, .iconst 0, 1), (3, .istore_n 3, 1), (4, .iload_n 3, 1), (5, .iload_n 1, 1), (6, .if_icmp .ge 16, 3), (9, .iload_n 2, 1), (10, .aload_n 0, 1), (11, .invokevirtual 113, 3), (14, .iadd, 1), (15, .istore_n 2, 1), (16, .iinc 3 1, 3), (19, .goto (-15), 3), (22, .iload_n 2, 1), (23, .ireturn, 1)]
def qa_mX1_passTicks : qa_M := (yX1_passTicks, cX1_passTicks, 4, (some .int), 1, qa_iX1_passTicks, 2, 2, 6, 133, [], 786, 784, 785)
def qa_iX1_passTick : List (Nat × Instr × Nat) := [(0, .iconst 0, 1), (1, .istore_n 1, 1), (2, .aload_n 0, 1), (3, .getfield 49, 3), (6, .dup, 1), (7, .getfield 174, 3), (10, .iconst 1, 1), (11, .iadd, 1), (12, .putfield 174, 3), (15, .aload_n 0, 1), (16, .getfield 28, 3), (19, .getfield 83, 3), (22, .iconst (-1), 1), (23, .if_icmp .eq 16, 3), (26, .aload_n 0, 1), (27, .getfield 49, 3), (30, .dup, 1), (31, .getfield 177, 3), (34, .iconst 1, 1), (35, .iadd, 1), (36, .putfield 177, 3), (39, .aload_n 0, 1), (40, .getfield 12, 3), (43, .invokevirtual 180, 3), (46, .aload_n 0, 1), (47, .getfield 28, 3), (50, .invokevirtual 183, 3), (53, .aload_n 0, 1), (54, .getfield 28, 3), (57, .invokevirtual 186, 3), (60, .aload_n 0, 1), (61, .invokevirtual 189, 3), (64, .ifCond .eq 6, 3), (67, .iinc 1 1, 3), (70, .aload_n 0, 1), (71, .invokevirtual 192, 3), (74, .ifCond .eq 13, 3), (77, .aload_n 0, 1), (78, .invokevirtual 120, 3), (81, .ifCond .eq 6, 3), (84, .iinc 1 1, 3), (87, .aload_n 0, 1), (88, .invokevirtual 123, 3), (91, .iload_n 1, 1), (92, .ireturn, 1)]
def qa_mX1_passTick : qa_M := (yX1_passTick, cX1_passTick, 2, (some .int), 1, qa_iX1_passTick, 1, 2, 5, 112, [], 790, 788, 789)
def qa_iX1_paceIsReached : List (Nat × Instr × Nat) := [(0, .aload_n 0, 1), (1, .getfield 42, 3), (4, .getfield 195, 3), (7, .ifCond .le 42, 3), (10, .aload_n 0, 1), (11, .invokevirtual 117, 3), (14, .ifCond .eq 35, 3), (17, .aload_n 0, 1), (18, .getfield 28, 3), (21, .getfield 198, 3), (24, .iconst (-1), 1), (25, .if_icmp .eq 24, 3), (28, .aload_n 0, 1), (29, .getfield 28, 3), (32, .getfield 201, 3), (35, .aload_n 0, 1), (36, .getfield 42, 3), (39, .getfield 195, 3), (42, .if_icmp .lt 7, 3), (45, .iconst 1, 1), (46, .goto 4, 3), (49, .iconst 0, 1), (50, .ireturn, 1)]
def qa_mX1_paceIsReached : qa_M := (yX1_paceIsReached, cX1_paceIsReached, 1, (some .boolean), 1, qa_iX1_paceIsReached, 1, 2, 1, 20, [], 810, 808, 809)
def qa_iX1_loadOnce : List (Nat × Instr × Nat) := [(0, .aload_n 0, 1), (1, .getfield 35, 3), (4, .getfield 90, 3), (7, .istore_n 1, 1), (8, .iload_n 1, 1), (9, .iconst (-1), 1), (10, .if_icmp .ne 5, 3), (13, .iconst 0, 1), (14, .ireturn, 1), (15, .aload_n 0, 1), (16, .getfield 35, 3), (19, .dup, 1), (20, .getfield 204, 3), (23, .iconst 1, 1), (24, .isub, 1), (25, .putfield 204, 3), (28, .aload_n 0, 1), (29, .getfield 35, 3), (32, .getfield 204, 3), (35, .ifCond .le 5, 3), (38, .iconst 0, 1), (39, .ireturn, 1), (40, .aload_n 0, 1), (41, .getfield 35, 3), (44, .iconst (-1), 1), (45, .putfield 90, 3), (48, .aload_n 0, 1), (49, .getfield 12, 3), (52, .iload_n 1, 1), (53, .iconst 1, 1), (54, .invokevirtual 207, 3), (57, .aload_n 0, 1), (58, .getfield 12, 3), (61, .iload_n 1, 1), (62, .invokevirtual 171, 3), (65, .aload_n 0, 1), (66, .getfield 28, 3), (69, .getfield 83, 3), (72, .iload_n 1, 1), (73, .if_icmp .eq 5, 3), (76, .iconst 0, 1), (77, .ireturn, 1), (78, .aload_n 0, 1), (79, .iload_n 1, 1), (80, .invokevirtual 152, 3), (83, .iconst 1, 1), (84, .ireturn, 1)]
def qa_mX1_loadOnce : qa_M := (yX1_loadOnce, cX1_loadOnce, 2, (some .boolean), 1, qa_iX1_loadOnce, 1, 2, 3, 64, [], 806, 804, 805)
def qa_iX1_beginLoading : List (Nat × Instr × Nat) := [(0, .aload_n 0, 1), (1, .getfield 35, 3), (4, .getfield 90, 3), (7, .iconst (-1), 1), (8, .if_icmp .eq 4, 3), (11, .return_, 1), (12, .aload_n 0, 1), (13, .invokevirtual 211, 3), (16, .istore_n 1, 1), (17, .iload_n 1, 1), (18, .iconst (-1), 1), (19, .if_icmp .ne 4, 3), (22, .return_, 1), (23, .aload_n 0, 1), (24, .getfield 12, 3), (27, .getfield 214, 3), (30, .iload_n 1, 1), (31, .invokestatic 164, 3), (34, .istore_n 2, 1), (35, .aload_n 0, 1), (36, .aload_n 0, 1), (37, .getfield 42, 3), (40, .getfield 217, 3), (43, .iload_n 2, 1), (44, .isub, 1), (45, .invokevirtual 220, 3), (48, .aload_n 0, 1), (49, .getfield 12, 3), (52, .getfield 223, 3), (55, .iload_n 1, 1), (56, .invokestatic 164, 3), (59, .ifCond .le 16, 3), (62, .aload_n 0, 1), (63, .getfield 49, 3), (66, .dup, 1), (67, .getfield 226, 3), (70, .iconst 1, 1), (71, .iadd, 1), (72, .putfield 226, 3), (75, .aload_n 0, 1), (76, .getfield 49, 3), (79, .dup, 1), (80, .getfield 229, 3), (83, .iconst 1, 1), (84, .iadd, 1), (85, .putfield 229, 3), (88, .aload_n 0, 1), (89, .getfield 35, 3), (92, .iload_n 1, 1), (93, .putfield 90, 3), (96, .aload_n 0, 1), (97, .getfield 35, 3), (100, .aload_n 0, 1), (101, .getfield 12, 3), (104, .iload_n 1, 1), (105, .iconst 0, 1), (106, .invokevirtual 232, 3), (109, .putfield 204, 3), (112, .aload_n 0, 1), (113, .getfield 35, 3), (116, .dup, 1), (117, .getfield 236, 3), (120, .iload_n 2, 1), (121, .iadd, 1), (122, .putfield 236, 3), (125, .aload_n 0, 1), (126, .getfield 12, 3), (129, .getfield 223, 3), (132, .iload_n 1, 1), (133, .iconst 0, 1), (134, .invokestatic 239, 3), (137, .return_, 1)]
def qa_mX1_beginLoading : qa_M := (yX1_beginLoading, cX1_beginLoading, 3, none, 1, qa_iX1_beginLoading, 1, 2, 4, 90, [], 476, 474, 475)
def qa_iX1_nextToLoad : List (Nat × Instr × Nat) := [(0, .aload_n 0, 1), (1, .getfield 28, 3), (4, .getfield 83, 3), (7, .iconst (-1), 1), (8, .if_icmp .eq 11, 3), (11, .aload_n 0, 1), (12, .getfield 28, 3), (15, .getfield 83, 3), (18, .ireturn, 1), (19, .aload_n 0, 1), (20, .getfield 35, 3), (23, .getfield 243, 3), (26, .ifCond .le 25, 3), (29, .aload_n 0, 1), (30, .getfield 35, 3), (33, .getfield 246, 3), (36, .iconst 0, 1), (37, .invokestatic 164, 3), (40, .istore_n 1, 1), (41, .aload_n 0, 1), (42, .getfield 35, 3), (45, .iconst 0, 1), (46, .invokevirtual 158, 3), (49, .iload_n 1, 1), (50, .ireturn, 1), (51, .aload_n 0, 1), (52, .invokevirtual 249, 3), (55, .ireturn, 1)]
def qa_mX1_nextToLoad : qa_M := (yX1_nextToLoad, cX1_nextToLoad, 2, (some .int), 1, qa_iX1_nextToLoad, 1, 2, 2, 44, [], 480, 478, 479)
def qa_iX1_nextInGoodTime : List (Nat × Instr × Nat) := [(0, .iconst 1, 1), (1, .istore_n 1, 1), (2, .iload_n 1, 1), (3, .aload_n 0, 1), (4, .getfield 42, 3), (7, .getfield 252, 3), (10, .if_icmp .gt 69, 3), (13, .aload_n 0, 1), (14, .getfield 21, 3), (17, .iload_n 1, 1), (18, .invokevirtual 255, 3), (21, .istore_n 2, 1), (22, .iload_n 2, 1), (23, .iconst (-1), 1), (24, .if_icmp .eq 49, 3), (27, .aload_n 0, 1), (28, .getfield 12, 3), (31, .iload_n 2, 1), (32, .invokevirtual 86, 3), (35, .ifCond .ne 38, 3), (38, .aload_n 0, 1), (39, .getfield 35, 3), (42, .getfield 236, 3), (45, .aload_n 0, 1), (46, .getfield 12, 3), (49, .getfield 214, 3), (52, .iload_n 2, 1), (53, .invokestatic 164, 3), (56, .iadd, 1), (57, .aload_n 0, 1), (58, .getfield 42, 3), (61, .getfield 217, 3), (64, .if_icmp .gt 7, 3), (67, .iload_n 2, 1), (68, .goto 4, 3), (71, .iconst (-1), 1), (72, .ireturn, 1), (73, .iinc 1 1, 3), (76, .goto (-74), 3), (79, .iconst (-1), 1), (80, .ireturn, 1)]
def qa_mX1_nextInGoodTime : qa_M := (yX1_nextInGoodTime, cX1_nextInGoodTime, 3, (some .int), 1, qa_iX1_nextInGoodTime, 1, 2, 1, 22, [], 493, 491, 492)
def qa_iX1_putOnFire : List (Nat × Instr × Nat) := [(0, .aload_n 0, 1), (1, .getfield 12, 3), (4, .iload_n 1, 1), (5, .iconst 0, 1), (6, .invokevirtual 207, 3), (9, .aload_n 0, 1), (10, .getfield 12, 3), (13, .getfield 223, 3), (16, .iload_n 1, 1), (17, .aload_n 0, 1), (18, .getfield 42, 3), (21, .getfield 258, 3), (24, .invokestatic 239, 3), (27, .aload_n 0, 1), (28, .getfield 12, 3), (31, .getfield 261, 3), (34, .iload_n 1, 1), (35, .aload_n 0, 1), (36, .getfield 12, 3), (39, .getfield 261, 3), (42, .iload_n 1, 1), (43, .invokestatic 164, 3), (46, .iconst 1, 1), (47, .iadd, 1), (48, .invokestatic 239, 3), (51, .aload_n 0, 1), (52, .getfield 35, 3), (55, .dup, 1), (56, .getfield 236, 3), (59, .aload_n 0, 1), (60, .getfield 12, 3), (63, .getfield 214, 3), (66, .iload_n 1, 1), (67, .invokestatic 164, 3), (70, .isub, 1), (71, .putfield 236, 3), (74, .aload_n 0, 1), (75, .getfield 49, 3), (78, .dup, 1), (79, .getfield 264, 3), (82, .iconst 1, 1), (83, .iadd, 1), (84, .putfield 264, 3), (87, .return_, 1)]
def qa_mX1_putOnFire : qa_M := (yX1_putOnFire, cX1_putOnFire, 2, none, 1, qa_iX1_putOnFire, 2, 2, 1, 22, [], 530, 528, 529)
def qa_iX1_burnDownTo : List (Nat × Instr × Nat) := [(0, .aload_n 0, 1), (1, .getfield 35, 3), (4, .getfield 236, 3), (7, .iload_n 1, 1), (8, .if_icmp .gt 4, 3), (11, .return_, 1), (12, .aload_n 0, 1), (13, .invokevirtual 267, 3), (16, .istore_n 2, 1), (17, .iconst 0, 1), (18, .istore_n 3, 1), (19, .iload_n 3, 1), (20, .iload_n 2, 1), (21, .if_icmp .ge 32, 3), (24, .aload_n 0, 1), (25, .getfield 35, 3), (28, .getfield 236, 3), (31, .iload_n 1, 1), (32, .if_icmp .le 21, 3), (35, .aload_n 0, 1), (36, .aload_n 0, 1), (37, .getfield 57, 3), (40, .iload_n 3, 1), (41, .invokestatic 164, 3), (44, .invokevirtual 139, 3), (47, .iinc 3 1, 3), (50, .goto (-31), 3), (53, .return_, 1)]
def qa_mX1_burnDownTo : qa_M := (yX1_burnDownTo, cX1_burnDownTo, 4, none, 1, qa_iX1_burnDownTo, 2, 2, 3, 67, [], 505, 503, 504)
def qa_iX1_lineUp : List (Nat × Instr × Nat) := [(0, .aload_n 0, 1), (1, .getfield 42, 3), (4, .getfield 270, 3), (7, .iconst 2, 1), (8, .if_icmp .ne 10, 3), (11, .aload_n 0, 1), (12, .invokevirtual 273, 3), (15, .goto 7, 3), (18, .aload_n 0, 1), (19, .invokevirtual 276, 3), (22, .iconst 0, 1), (23, .istore_n 1, 1), (24, .iconst 0, 1), (25, .istore_n 2, 1), (26, .iload_n 2, 1), (27, .aload_n 0, 1), (28, .getfield 12, 3), (31, .getfield 279, 3), (34, .if_icmp .ge 87, 3), (37, .aload_n 0, 1), (38, .iload_n 2, 1), (39, .invokevirtual 136, 3), (42, .ifCond .eq 73, 3), (45, .iload_n 1, 1), (46, .istore_n 3, 1), (47, .iload_n 3, 1), (48, .ifCond .le 55, 3), (51, .aload_n 0, 1), (52, .getfield 53, 3), (55, .aload_n 0, 1), (56, .getfield 57, 3), (59, .iload_n 3, 1), (60, .iconst 1, 1), (61, .isub, 1), (62, .invokestatic 164, 3), (65, .invokestatic 164, 3), (68, .aload_n 0, 1), (69, .getfield 53, 3), (72, .iload_n 2, 1), (73, .invokestatic 164, 3), (76, .if_icmp .ge 27, 3), (79, .aload_n 0, 1), (80, .getfield 57, 3), (83, .iload_n 3, 1), (84, .aload_n 0, 1), (85, .getfield 57, 3), (88, .iload_n 3, 1), (89, .iconst 1, 1), (90, .isub, 1), (91, .invokestatic 164, 3), (94, .invokestatic 239, 3), (97, .iinc 3 (-1), 3), (100, .goto (-53), 3), (103, .aload_n 0, 1), (104, .getfield 57, 3), (107, .iload_n 3, 1), (108, .iload_n 2, 1), (109, .invokestatic 239, 3), (112, .iinc 1 1, 3), (115, .iinc 2 1, 3), (118, .goto (-92), 3), (121, .iload_n 1, 1), (122, .ireturn, 1)]
def qa_mX1_lineUp : qa_M := (yX1_lineUp, cX1_lineUp, 4, (some .int), 1, qa_iX1_lineUp, 1, 2, 2, 44, [], 509, 507, 508)
def qa_iX1_weighByUseOrCost : List (Nat × Instr × Nat) := [(0, .iconst 0, 1), (1, .istore_n 1, 1), (2, .iload_n 1, 1), (3, .aload_n 0, 1), (4, .getfield 12, 3), (7, .getfield 279, 3), (10, .if_icmp .ge 63, 3), (13, .aload_n 0, 1), (14, .getfield 42, 3), (17, .getfield 270, 3), (20, .ifCond .ne 7, 3), (23, .iconst 1, 1), (24, .goto 4, 3), (27, .iconst 0, 1), (28, .istore_n 2, 1), (29, .aload_n 0, 1), (30, .getfield 53, 3), (33, .iload_n 1, 1), (34, .iload_n 2, 1), (35, .ifCond .eq 18, 3), (38, .aload_n 0, 1), (39, .getfield 12, 3), (42, .getfield 280, 3), (45, .iload_n 1, 1), (46, .invokestatic 164, 3), (49, .ineg, 1), (50, .goto 14, 3), (53, .aload_n 0, 1), (54, .getfield 12, 3), (57, .getfield 214, 3), (60, .iload_n 1, 1), (61, .invokestatic 164, 3), (64, .invokestatic 239, 3), (67, .iinc 1 1, 3), (70, .goto (-68), 3), (73, .return_, 1)]
def qa_mX1_weighByUseOrCost : qa_M := (yX1_weighByUseOrCost, cX1_weighByUseOrCost, 3, none, 1, qa_iX1_weighByUseOrCost, 1, 2, 1, 22, [], 518, 516, 517)
def qa_iX1_weighByNextUse : List (Nat × Instr × Nat) := [(0, .iconst 0, 1), (1, .istore_n 1, 1), (2, .iload_n 1, 1), (3, .aload_n 0, 1), (4, .getfield 12, 3), (7, .getfield 279, 3), (10, .if_icmp .ge 19, 3), (13, .aload_n 0, 1), (14, .getfield 53, 3), (17, .iload_n 1, 1), (18, .bipush 25, 2), (20, .invokestatic 239, 3), (23, .iinc 1 1, 3), (26, .goto (-24), 3), (29, .aload_n 0, 1), (30, .getfield 21, 3), (33, .getfield 79, 3), (36, .istore_n 1, 1), (37, .iload_n 1, 1), (38, .ifCond .le 25, 3), (41, .aload_n 0, 1), (42, .getfield 53, 3), (45, .aload_n 0, 1), (46, .getfield 21, 3), (49, .iload_n 1, 1), (50, .invokevirtual 255, 3), (53, .iload_n 1, 1), (54, .invokestatic 239, 3), (57, .iinc 1 (-1), 3), (60, .goto (-23), 3), (63, .return_, 1)]
def qa_mX1_weighByNextUse : qa_M := (yX1_weighByNextUse, cX1_weighByNextUse, 2, none, 1, qa_iX1_weighByNextUse, 1, 2, 1, 22, [], 513, 511, 512)
def qa_iX1_placeInLine : List (Nat × Instr × Nat) := [(0, .aload_n 0, 1), (1, .invokevirtual 267, 3), (4, .istore_n 2, 1), (5, .iconst 0, 1), (6, .istore_n 3, 1), (7, .iload_n 3, 1), (8, .iload_n 2, 1), (9, .if_icmp .ge 23, 3), (12, .aload_n 0, 1), (13, .getfield 57, 3), (16, .iload_n 3, 1), (17, .invokestatic 164, 3), (20, .iload_n 1, 1), (21, .if_icmp .ne 5, 3), (24, .iload_n 3, 1), (25, .ireturn, 1), (26, .iinc 3 1, 3), (29, .goto (-22), 3), (32, .iconst (-1), 1), (33, .ireturn, 1)]
def qa_mX1_placeInLine : qa_M := (yX1_placeInLine, cX1_placeInLine, 4, (some .int), 1, qa_iX1_placeInLine, 2, 2, 3, 67, [], 858, 856, 857)
def qa_iX1_burningsToLoad : List (Nat × Instr × Nat) := [(0, .aload_n 0, 1), (1, .getfield 12, 3), (4, .iload_n 1, 1), (5, .invokevirtual 86, 3), (8, .ifCond .ne 14, 3), (11, .iload_n 1, 1), (12, .aload_n 0, 1), (13, .getfield 35, 3), (16, .getfield 90, 3), (19, .if_icmp .ne 5, 3), (22, .iconst 0, 1), (23, .ireturn, 1), (24, .aload_n 0, 1), (25, .getfield 35, 3), (28, .getfield 236, 3), (31, .aload_n 0, 1), (32, .getfield 12, 3), (35, .getfield 214, 3), (38, .iload_n 1, 1), (39, .invokestatic 164, 3), (42, .iadd, 1), (43, .aload_n 0, 1), (44, .getfield 42, 3), (47, .getfield 217, 3), (50, .isub, 1), (51, .istore_n 2, 1), (52, .aload_n 0, 1), (53, .invokevirtual 267, 3), (56, .istore_n 3, 1), (57, .iconst 0, 1), (58, .istore 4, 2), (60, .iload 4, 2), (62, .iload_n 3, 1), (63, .if_icmp .ge 35, 3), (66, .iload_n 2, 1), (67, .ifCond .le 31, 3), (70, .iload_n 2, 1), (71, .aload_n 0, 1), (72, .getfield 12, 3), (75, .getfield 214, 3), (78, .aload_n 0, 1), (79, .getfield 57, 3), (82, .iload 4, 2), (84, .invokestatic 164, 3), (87, .invokestatic 164, 3), (90, .isub, 1), (91, .istore_n 2, 1), (92, .iinc 4 1, 3), (95, .goto (-35), 3), (98, .iload 4, 2), (100, .ireturn, 1)]
def qa_mX1_burningsToLoad : qa_M := (yX1_burningsToLoad, cX1_burningsToLoad, 5, (some .int), 1, qa_iX1_burningsToLoad, 2, 2, 3, 67, [], 850, 848, 849)
def qa_iX1_sumOfCosts : List (Nat × Instr × Nat) := [(0, .iconst 0, 1), (1, .istore_n 1, 1), (2, .iconst 0, 1), (3, .istore_n 2, 1), (4, .iload_n 2, 1), (5, .aload_n 0, 1), (6, .getfield 12, 3), (9, .getfield 279, 3), (12, .if_icmp .ge 45, 3), (15, .aload_n 0, 1), (16, .getfield 12, 3), (19, .iload_n 2, 1), (20, .invokevirtual 86, 3), (23, .ifCond .ne 14, 3), (26, .iload_n 2, 1), (27, .aload_n 0, 1), (28, .getfield 35, 3), (31, .getfield 90, 3), (34, .if_icmp .ne 17, 3), (37, .iload_n 1, 1), (38, .aload_n 0, 1), (39, .getfield 12, 3), (42, .getfield 214, 3), (45, .iload_n 2, 1), (46, .invokestatic 164, 3), (49, .iadd, 1), (50, .istore_n 1, 1), (51, .iinc 2 1, 3), (54, .goto (-50), 3), (57, .iload_n 1, 1), (58, .ireturn, 1)]
def qa_mX1_sumOfCosts : qa_M := (yX1_sumOfCosts, cX1_sumOfCosts, 3, (some .int), 1, qa_iX1_sumOfCosts, 1, 2, 1, 21, [], 866, 864, 865)
def qa_iX1_sumOfWait : List (Nat × Instr × Nat) := [(0, .aload_n 0, 1), (1, .getfield 35, 3), (4, .getfield 90, 3), (7, .aload_n 0, 1), (8, .getfield 28, 3), (11, .getfield 83, 3), (14, .if_icmp .ne 11, 3), (17, .aload_n 0, 1), (18, .getfield 35, 3), (21, .getfield 204, 3), (24, .ireturn, 1), (25, .aload_n 0, 1), (26, .getfield 35, 3), (29, .getfield 204, 3), (32, .aload_n 0, 1), (33, .getfield 12, 3), (36, .aload_n 0, 1), (37, .getfield 28, 3), (40, .getfield 83, 3), (43, .aload_n 0, 1), (44, .getfield 35, 3), (47, .getfield 204, 3), (50, .invokevirtual 232, 3), (53, .iadd, 1), (54, .ireturn, 1)]
def qa_mX1_sumOfWait : qa_M := (yX1_sumOfWait, cX1_sumOfWait, 1, (some .int), 1, qa_iX1_sumOfWait, 1, 2, 2, 44, [], 834, 832, 833)
def qa_iX2_init : List (Nat × Instr × Nat) := [(0, .aload_n 0, 1), (1, .invokespecial 3, 3), (4, .aload_n 0, 1), (5, .iconst (-1), 1), (6, .putfield 9, 3), (9, .aload_n 0, 1), (10, .bipush 16, 2), (12, .newarray .int, 2), (14, .putfield 15, 3), (17, .return_, 1)]
def qa_mX2_init : qa_M := (yX2_init, cX2_init, 1, none, 2, qa_iX2_init, 1, 0, 1, 20, [], 135, 134, 0)
def qa_iX2_copyFrom : List (Nat × Instr × Nat) := [(0, .aload_n 0, 1), (1, .aload_n 1, 1), (2, .getfield 9, 3), (5, .putfield 9, 3), (8, .aload_n 0, 1), (9, .aload_n 1, 1), (10, .getfield 19, 3), (13, .putfield 19, 3), (16, .aload_n 0, 1), (17, .aload_n 1, 1), (18, .getfield 22, 3), (21, .putfield 22, 3), (24, .aload_n 1, 1), (25, .getfield 15, 3), (28, .aload_n 0, 1), (29, .getfield 15, 3), (32, .invokestatic 25, 3), (35, .aload_n 0, 1), (36, .aload_n 1, 1), (37, .getfield 29, 3), (40, .putfield 29, 3), (43, .return_, 1)]
def qa_mX2_copyFrom : qa_M := (yX2_copyFrom, cX2_copyFrom, 2, none, 2, qa_iX2_copyFrom, 2, 2, 1, 22, [], 456, 454, 455)
def qa_iX2_queuePlace : List (Nat × Instr × Nat) := [(0, .iconst 0, 1), (1, .istore_n 2, 1), (2, .iload_n 2, 1), (3, .aload_n 0, 1), (4, .getfield 22, 3), (7, .if_icmp .ge 23, 3), (10, .aload_n 0, 1), (11, .getfield 15, 3), (14, .iload_n 2, 1), (15, .invokestatic 32, 3), (18, .iload_n 1, 1), (19, .if_icmp .ne 5, 3), (22, .iload_n 2, 1), (23, .ireturn, 1), (24, .iinc 2 1, 3), (27, .goto (-25), 3), (30, .iconst (-1), 1), (31, .ireturn, 1)]
def qa_mX2_queuePlace : qa_M := (yX2_queuePlace, cX2_queuePlace, 3, (some .int), 2, qa_iX2_queuePlace, 2, 2, 1, 21, [], 673, 671, 672)
def qa_iX2_queue : List (Nat × Instr × Nat) := [(0, .aload_n 0, 1), (1, .getfield 15, 3), (4, .aload_n 0, 1), (5, .getfield 22, 3), (8, .iload_n 1, 1), (9, .invokestatic 36, 3), (12, .aload_n 0, 1), (13, .dup, 1), (14, .getfield 22, 3), (17, .iconst 1, 1), (18, .iadd, 1), (19, .putfield 22, 3), (22, .return_, 1)]
def qa_mX2_queue : qa_M := (yX2_queue, cX2_queue, 2, none, 2, qa_iX2_queue, 2, 2, 1, 22, [], 708, 706, 707)
def qa_iX2_unqueue : List (Nat × Instr × Nat) := [(0, .iload_n 1, 1), (1, .istore_n 2, 1), (2, .iload_n 2, 1), (3, .iconst 1, 1), (4, .iadd, 1), (5, .aload_n 0, 1), (6, .getfield 22, 3), (9, .if_icmp .ge 27, 3), (12, .aload_n 0, 1), (13, .getfield 15, 3), (16, .iload_n 2, 1), (17, .aload_n 0, 1), (18, .getfield 15, 3), (21, .iload_n 2, 1), (22, .iconst 1, 1), (23, .iadd, 1), (24, .invokestatic 32, 3), (27, .invokestatic 36, 3), (30, .iinc 2 1, 3), (33, .goto (-31), 3), (36, .aload_n 0, 1), (37, .dup, 1), (38, .getfield 22, 3), (41, .iconst 1, 1), (42, .isub, 1), (43, .putfield 22, 3), (46, .return_, 1)]
def qa_mX2_unqueue : qa_M := (yX2_unqueue, cX2_unqueue, 3, none, 2, qa_iX2_unqueue, 2, 2, 1, 22, [], 487, 485, 486)
def qa_iX3_init : List (Nat × Instr × Nat) := [(0, .aload_n 0, 1), (1, .invokespecial 3, 3), (4, .aload_n 0, 1), (5, .iconst (-1), 1), (6, .putfield 9, 3), (9, .aload_n 0, 1), (10, .bipush 24, 2), (12, .newarray .int, 2), (14, .putfield 15, 3), (17, .return_, 1)]
def qa_mX3_init : qa_M := (yX3_init, cX3_init, 1, none, 3, qa_iX3_init, 1, 0, 1, 20, [], 85, 84, 0)
def qa_iX3_copyFrom : List (Nat × Instr × Nat) := [(0, .aload_n 0, 1), (1, .aload_n 1, 1), (2, .getfield 19, 3), (5, .putfield 19, 3), (8, .aload_n 0, 1), (9, .aload_n 1, 1), (10, .getfield 9, 3), (13, .putfield 9, 3), (16, .aload_n 1, 1), (17, .getfield 15, 3), (20, .aload_n 0, 1), (21, .getfield 15, 3), (24, .invokestatic 22, 3), (27, .return_, 1)]
def qa_mX3_copyFrom : qa_M := (yX3_copyFrom, cX3_copyFrom, 2, none, 3, qa_iX3_copyFrom, 2, 2, 1, 22, [], 447, 445, 446)
def qa_iX3_has : List (Nat × Instr × Nat) := [(0, .iload_n 1, 1), (1, .ifCond .lt 15, 3), (4, .iload_n 1, 1), (5, .aload_n 0, 1), (6, .getfield 19, 3), (9, .if_icmp .ge 7, 3), (12, .iconst 1, 1), (13, .goto 4, 3), (16, .iconst 0, 1), (17, .ireturn, 1)]
def qa_mX3_has : qa_M := (yX3_has, cX3_has, 2, (some .boolean), 3, qa_iX3_has, 2, 2, 0, 0, [], 599, 597, 598)
def qa_iX3_put : List (Nat × Instr × Nat) := [(0, .aload_n 0, 1), (1, .getfield 19, 3), (4, .istore_n 3, 1), (5, .iload_n 3, 1), (6, .iload_n 1, 1), (7, .if_icmp .le 27, 3), (10, .aload_n 0, 1), (11, .getfield 15, 3), (14, .iload_n 3, 1), (15, .aload_n 0, 1), (16, .getfield 15, 3), (19, .iload_n 3, 1), (20, .iconst 1, 1), (21, .isub, 1), (22, .invokestatic 26, 3), (25, .invokestatic 30, 3), (28, .iinc 3 (-1), 3), (31, .goto (-26), 3), (34, .aload_n 0, 1), (35, .getfield 15, 3), (38, .iload_n 1, 1), (39, .iload_n 2, 1), (40, .invokestatic 30, 3), (43, .aload_n 0, 1), (44, .dup, 1), (45, .getfield 19, 3), (48, .iconst 1, 1), (49, .iadd, 1), (50, .putfield 19, 3), (53, .iload_n 1, 1), (54, .aload_n 0, 1), (55, .getfield 9, 3), (58, .if_icmp .gt 13, 3), (61, .aload_n 0, 1), (62, .dup, 1), (63, .getfield 9, 3), (66, .iconst 1, 1), (67, .iadd, 1), (68, .putfield 9, 3), (71, .return_, 1)]
def qa_mX3_put : qa_M := (yX3_put, cX3_put, 4, none, 3, qa_iX3_put, 3, 2, 1, 22, [], 589, 587, 588)
def qa_iX3_remove : List (Nat × Instr × Nat) := [(0, .aload_n 0, 1), (1, .getfield 15, 3), (4, .iload_n 1, 1), (5, .invokestatic 26, 3), (8, .istore_n 2, 1), (9, .iload_n 1, 1), (10, .istore_n 3, 1), (11, .iload_n 3, 1), (12, .iconst 1, 1), (13, .iadd, 1), (14, .aload_n 0, 1), (15, .getfield 19, 3), (18, .if_icmp .ge 27, 3), (21, .aload_n 0, 1), (22, .getfield 15, 3), (25, .iload_n 3, 1), (26, .aload_n 0, 1), (27, .getfield 15, 3), (30, .iload_n 3, 1), (31, .iconst 1, 1), (32, .iadd, 1), (33, .invokestatic 26, 3), (36, .invokestatic 30, 3), (39, .iinc 3 1, 3), (42, .goto (-31), 3), (45, .aload_n 0, 1), (46, .dup, 1), (47, .getfield 19, 3), (50, .iconst 1, 1), (51, .isub, 1), (52, .putfield 19, 3), (55, .iload_n 1, 1), (56, .aload_n 0, 1), (57, .getfield 9, 3), (60, .if_icmp .gt 13, 3), (63, .aload_n 0, 1), (64, .dup, 1), (65, .getfield 9, 3), (68, .iconst 1, 1), (69, .isub, 1), (70, .putfield 9, 3), (73, .iload_n 2, 1), (74, .ireturn, 1)]
def qa_mX3_remove : qa_M := (yX3_remove, cX3_remove, 4, (some .int), 3, qa_iX3_remove, 2, 2, 1, 22, [], 611, 609, 610)
def qa_iX3_advance : List (Nat × Instr × Nat) := [(0, .aload_n 0, 1), (1, .aload_n 0, 1), (2, .getfield 9, 3), (5, .iconst 1, 1), (6, .iadd, 1), (7, .aload_n 0, 1), (8, .getfield 19, 3), (11, .if_icmp .ge 12, 3), (14, .aload_n 0, 1), (15, .getfield 9, 3), (18, .iconst 1, 1), (19, .iadd, 1), (20, .goto 4, 3), (23, .iconst 0, 1), (24, .putfield 9, 3), (27, .aload_n 0, 1), (28, .getfield 15, 3), (31, .aload_n 0, 1), (32, .getfield 9, 3), (35, .invokestatic 26, 3), (38, .ireturn, 1)]
def qa_mX3_advance : qa_M := (yX3_advance, cX3_advance, 1, (some .int), 3, qa_iX3_advance, 1, 2, 1, 21, [], 657, 655, 656)
def qa_iX3_slideAhead : List (Nat × Instr × Nat) := [(0, .aload_n 0, 1), (1, .getfield 19, 3), (4, .ifCond .gt 5, 3), (7, .iconst (-1), 1), (8, .ireturn, 1), (9, .aload_n 0, 1), (10, .getfield 9, 3), (13, .iload_n 1, 1), (14, .iadd, 1), (15, .aload_n 0, 1), (16, .getfield 19, 3), (19, .irem, 1), (20, .istore_n 2, 1), (21, .iload_n 2, 1), (22, .ifCond .lt 21, 3), (25, .iload_n 2, 1), (26, .aload_n 0, 1), (27, .getfield 15, 3), (30, .arraylength, 1), (31, .if_icmp .ge 12, 3), (34, .aload_n 0, 1), (35, .getfield 15, 3), (38, .iload_n 2, 1), (39, .iaload, 1), (40, .goto 4, 3), (43, .iconst (-1), 1), (44, .ireturn, 1)]
def qa_mX3_slideAhead : qa_M := (yX3_slideAhead, cX3_slideAhead, 3, (some .int), 3, qa_iX3_slideAhead, 2, 2, 0, 0, [], 497, 495, 496)
def qa_iX3_placesUntil : List (Nat × Instr × Nat) := [(0, .iconst 1, 1), (1, .istore_n 2, 1), (2, .iload_n 2, 1), (3, .aload_n 0, 1), (4, .getfield 19, 3), (7, .if_icmp .gt 20, 3), (10, .aload_n 0, 1), (11, .iload_n 2, 1), (12, .invokevirtual 34, 3), (15, .iload_n 1, 1), (16, .if_icmp .ne 5, 3), (19, .iload_n 2, 1), (20, .ireturn, 1), (21, .iinc 2 1, 3), (24, .goto (-22), 3), (27, .iconst 0, 1), (28, .ireturn, 1)]
def qa_mX3_placesUntil : qa_M := (yX3_placesUntil, cX3_placesUntil, 3, (some .int), 3, qa_iX3_placesUntil, 2, 2, 1, 22, [], 900, 898, 899)
def qa_iX4_init : List (Nat × Instr × Nat) := [(0, .aload_n 0, 1), (1, .invokespecial 3, 3), (4, .aload_n 0, 1), (5, .sipush 150, 3), (8, .putfield 9, 3), (11, .aload_n 0, 1), (12, .iconst 1, 1), (13, .putfield 15, 3), (16, .aload_n 0, 1), (17, .iconst 5, 1), (18, .putfield 18, 3), (21, .return_, 1)]
def qa_mX4_init : qa_M := (yX4_init, cX4_init, 1, none, 4, qa_iX4_init, 1, 0, 1, 20, [], 167, 166, 0)
def qa_iX4_copyFrom : List (Nat × Instr × Nat) := [(0, .aload_n 0, 1), (1, .aload_n 1, 1), (2, .getfield 9, 3), (5, .putfield 9, 3), (8, .aload_n 0, 1), (9, .aload_n 1, 1), (10, .getfield 15, 3), (13, .putfield 15, 3), (16, .aload_n 0, 1), (17, .aload_n 1, 1), (18, .getfield 21, 3), (21, .putfield 21, 3), (24, .aload_n 0, 1), (25, .aload_n 1, 1), (26, .getfield 18, 3), (29, .putfield 18, 3), (32, .aload_n 0, 1), (33, .aload_n 1, 1), (34, .getfield 24, 3), (37, .putfield 24, 3), (40, .return_, 1)]
def qa_mX4_copyFrom : qa_M := (yX4_copyFrom, cX4_copyFrom, 2, none, 4, qa_iX4_copyFrom, 2, 2, 0, 0, [], 461, 459, 460)
def qa_iX5_init : List (Nat × Instr × Nat) := [(0, .aload_n 0, 1), (1, .invokespecial 3, 3), (4, .aload_n 0, 1), (5, .bipush 6, 2), (7, .anewarray 9, 3), (10, .putfield 11, 3), (13, .iconst 0, 1), (14, .istore_n 1, 1), (15, .iload_n 1, 1), (16, .aload_n 0, 1), (17, .getfield 11, 3), (20, .arraylength, 1), (21, .if_icmp .ge 22, 3), (24, .aload_n 0, 1), (25, .getfield 11, 3), (28, .iload_n 1, 1), (29, .new 9, 3), (32, .dup, 1), (33, .invokespecial 17, 3), (36, .aastore, 1), (37, .iinc 1 1, 3), (40, .goto (-25), 3), (43, .return_, 1)]
def qa_mX5_init : qa_M := (yX5_init, cX5_init, 2, none, 5, qa_iX5_init, 1, 0, 3, 60, [], 272, 271, 0)
def qa_iX5_push : List (Nat × Instr × Nat) := [(0, .aload_n 0, 1), (1, .getfield 18, 3), (4, .aload_n 0, 1), (5, .getfield 22, 3), (8, .iadd, 1), (9, .bipush 6, 2), (11, .irem, 1), (12, .istore_n 2, 1), (13, .iload_n 2, 1), (14, .ifCond .lt 31, 3), (17, .iload_n 2, 1), (18, .aload_n 0, 1), (19, .getfield 11, 3), (22, .arraylength, 1), (23, .if_icmp .ge 22, 3), (26, .aload_n 0, 1), (27, .getfield 11, 3), (30, .iload_n 2, 1), (31, .aaload, 1), (32, .ifnull 13, 3), (35, .aload_n 0, 1), (36, .getfield 11, 3), (39, .iload_n 2, 1), (40, .aaload, 1), (41, .aload_n 1, 1), (42, .invokevirtual 25, 3), (45, .aload_n 0, 1), (46, .getfield 22, 3), (49, .bipush 6, 2), (51, .if_icmp .ge 16, 3), (54, .aload_n 0, 1), (55, .dup, 1), (56, .getfield 22, 3), (59, .iconst 1, 1), (60, .iadd, 1), (61, .putfield 22, 3), (64, .goto 16, 3), (67, .aload_n 0, 1), (68, .aload_n 0, 1), (69, .getfield 18, 3), (72, .iconst 1, 1), (73, .iadd, 1), (74, .bipush 6, 2), (76, .irem, 1), (77, .putfield 18, 3), (80, .return_, 1)]
def qa_mX5_push : qa_M := (yX5_push, cX5_push, 3, none, 5, qa_iX5_push, 2, 2, 3, 65, [], 432, 430, 431)
def qa_iX6_init : List (Nat × Instr × Nat) := [(0, .aload_n 0, 1), (1, .invokespecial 3, 3), (4, .aload_n 0, 1), (5, .bipush 16, 2), (7, .newarray .int, 2), (9, .putfield 9, 3), (12, .aload_n 0, 1), (13, .bipush 16, 2), (15, .newarray .int, 2), (17, .putfield 15, 3), (20, .aload_n 0, 1), (21, .bipush 16, 2), (23, .newarray .int, 2), (25, .putfield 18, 3), (28, .aload_n 0, 1), (29, .bipush 16, 2), (31, .newarray .boolean, 2), (33, .putfield 21, 3), (36, .aload_n 0, 1), (37, .bipush 16, 2), (39, .newarray .int, 2), (41, .putfield 25, 3), (44, .aload_n 0, 1), (45, .bipush 16, 2), (47, .newarray .int, 2), (49, .putfield 28, 3), (52, .aload_n 0, 1), (53, .bipush 16, 2), (55, .newarray .int, 2), (57, .putfield 31, 3), (60, .return_, 1)]
def qa_mX6_init : qa_M := (yX6_init, cX6_init, 1, none, 6, qa_iX6_init, 1, 0, 1, 20, [], 38, 37, 0)
def qa_iX6_copyFrom : List (Nat × Instr × Nat) := [(0, .aload_n 0, 1), (1, .aload_n 1, 1), (2, .getfield 34, 3), (5, .putfield 34, 3), (8, .aload_n 1, 1), (9, .getfield 9, 3), (12, .aload_n 0, 1), (13, .getfield 9, 3), (16, .invokestatic 38, 3), (19, .aload_n 1, 1), (20, .getfield 15, 3), (23, .aload_n 0, 1), (24, .getfield 15, 3), (27, .invokestatic 38, 3), (30, .aload_n 1, 1), (31, .getfield 18, 3), (34, .aload_n 0, 1), (35, .getfield 18, 3), (38, .invokestatic 38, 3), (41, .aload_n 1, 1), (42, .getfield 25, 3), (45, .aload_n 0, 1), (46, .getfield 25, 3), (49, .invokestatic 38, 3), (52, .aload_n 1, 1), (53, .getfield 28, 3), (56, .aload_n 0, 1), (57, .getfield 28, 3), (60, .invokestatic 38, 3), (63, .aload_n 1, 1), (64, .getfield 31, 3), (67, .aload_n 0, 1), (68, .getfield 31, 3), (71, .invokestatic 38, 3), (74, .iconst 0, 1), (75, .istore_n 2, 1), (76, .iload_n 2, 1), (77, .aload_n 0, 1), (78, .getfield 21, 3), (81, .arraylength, 1), (82, .if_icmp .ge 30, 3), (85, .iload_n 2, 1), (86, .aload_n 1, 1), (87, .getfield 21, 3), (90, .arraylength, 1), (91, .if_icmp .ge 21, 3), (94, .aload_n 0, 1), (95, .getfield 21, 3), (98, .iload_n 2, 1), (99, .aload_n 1, 1), (100, .getfield 21, 3), (103, .iload_n 2, 1), (104, .baload, 1), (105, .bastore, 1), (106, .iinc 2 1, 3), (109, .goto (-33), 3), (112, .aload_n 0, 1), (113, .aload_n 1, 1), (114, .getfield 42, 3), (117, .putfield 42, 3), (120, .return_, 1)]
def qa_mX6_copyFrom : qa_M := (yX6_copyFrom, cX6_copyFrom, 3, none, 6, qa_iX6_copyFrom, 2, 2, 1, 22, [], 440, 438, 439)
def qa_iX6_has : List (Nat × Instr × Nat) := [(0, .iload_n 1, 1), (1, .ifCond .lt 15, 3), (4, .iload_n 1, 1), (5, .aload_n 0, 1), (6, .getfield 34, 3), (9, .if_icmp .ge 7, 3), (12, .iconst 1, 1), (13, .goto 4, 3), (16, .iconst 0, 1), (17, .ireturn, 1)]
def qa_mX6_has : qa_M := (yX6_has, cX6_has, 2, (some .boolean), 6, qa_iX6_has, 2, 2, 0, 0, [], 547, 545, 546)
def qa_iX6_isReady : List (Nat × Instr × Nat) := [(0, .iload_n 1, 1), (1, .ifCond .lt 25, 3), (4, .iload_n 1, 1), (5, .aload_n 0, 1), (6, .getfield 21, 3), (9, .arraylength, 1), (10, .if_icmp .ge 16, 3), (13, .aload_n 0, 1), (14, .getfield 21, 3), (17, .iload_n 1, 1), (18, .baload, 1), (19, .ifCond .eq 7, 3), (22, .iconst 1, 1), (23, .goto 4, 3), (26, .iconst 0, 1), (27, .ireturn, 1)]
def qa_mX6_isReady : qa_M := (yX6_isReady, cX6_isReady, 2, (some .boolean), 6, qa_iX6_isReady, 2, 2, 0, 0, [], 501, 499, 500)
def qa_iX6_setReady : List (Nat × Instr × Nat) := [(0, .iload_n 1, 1), (1, .ifCond .lt 19, 3), (4, .iload_n 1, 1), (5, .aload_n 0, 1), (6, .getfield 21, 3), (9, .arraylength, 1), (10, .if_icmp .ge 10, 3), (13, .aload_n 0, 1), (14, .getfield 21, 3), (17, .iload_n 1, 1), (18, .iload_n 2, 1), (19, .bastore, 1), (20, .return_, 1)]
def qa_mX6_setReady : qa_M := (yX6_setReady, cX6_setReady, 3, none, 6, qa_iX6_setReady, 3, 2, 0, 0, [], 534, 532, 533)
def qa_iX6_add : List (Nat × Instr × Nat) := [(0, .aload_n 0, 1), (1, .getfield 34, 3), (4, .istore 4, 2), (6, .aload_n 0, 1), (7, .getfield 9, 3), (10, .iload 4, 2), (12, .iload_n 1, 1), (13, .invokestatic 45, 3), (16, .aload_n 0, 1), (17, .getfield 15, 3), (20, .iload 4, 2), (22, .iload_n 2, 1), (23, .invokestatic 45, 3), (26, .aload_n 0, 1), (27, .getfield 18, 3), (30, .iload 4, 2), (32, .iload_n 3, 1), (33, .invokestatic 45, 3), (36, .aload_n 0, 1), (37, .dup, 1), (38, .getfield 34, 3), (41, .iconst 1, 1), (42, .iadd, 1), (43, .putfield 34, 3), (46, .iload 4, 2), (48, .ireturn, 1)]
def qa_mX6_add : qa_M := (yX6_add, cX6_add, 5, (some .int), 6, qa_iX6_add, 4, 2, 1, 22, [], 469, 467, 468)
def qa_iX6_ticksToLoad : List (Nat × Instr × Nat) := [(0, .aload_n 0, 1), (1, .getfield 15, 3), (4, .iload_n 1, 1), (5, .invokestatic 49, 3), (8, .istore_n 3, 1), (9, .aload_n 0, 1), (10, .getfield 25, 3), (13, .iload_n 1, 1), (14, .invokestatic 49, 3), (17, .iload_n 2, 1), (18, .if_icmp .le 11, 3), (21, .iload_n 3, 1), (22, .iconst 1, 1), (23, .iadd, 1), (24, .iconst 2, 1), (25, .idiv, 1), (26, .goto 4, 3), (29, .iload_n 3, 1), (30, .ireturn, 1)]
def qa_mX6_ticksToLoad : qa_M := (yX6_ticksToLoad, cX6_ticksToLoad, 4, (some .int), 6, qa_iX6_ticksToLoad, 3, 2, 1, 21, [], 538, 536, 537)
def qa_iX6_use : List (Nat × Instr × Nat) := [(0, .aload_n 0, 1), (1, .dup, 1), (2, .getfield 42, 3), (5, .iconst 1, 1), (6, .iadd, 1), (7, .putfield 42, 3), (10, .aload_n 0, 1), (11, .getfield 31, 3), (14, .iload_n 1, 1), (15, .aload_n 0, 1), (16, .getfield 42, 3), (19, .invokestatic 45, 3), (22, .return_, 1)]
def qa_mX6_use : qa_M := (yX6_use, cX6_use, 2, none, 6, qa_iX6_use, 2, 2, 1, 22, [], 669, 667, 668)
def qa_iX6_coolEmbers : List (Nat × Instr × Nat) := [(0, .iconst 0, 1), (1, .istore_n 1, 1), (2, .iload_n 1, 1), (3, .aload_n 0, 1), (4, .getfield 34, 3), (7, .if_icmp .ge 37, 3), (10, .iload_n 1, 1), (11, .aload_n 0, 1), (12, .getfield 25, 3), (15, .arraylength, 1), (16, .if_icmp .ge 28, 3), (19, .aload_n 0, 1), (20, .getfield 25, 3), (23, .iload_n 1, 1), (24, .iaload, 1), (25, .ifCond .le 13, 3), (28, .aload_n 0, 1), (29, .getfield 25, 3), (32, .iload_n 1, 1), (33, .dup2, 1), (34, .iaload, 1), (35, .iconst 1, 1), (36, .isub, 1), (37, .iastore, 1), (38, .iinc 1 1, 3), (41, .goto (-39), 3), (44, .return_, 1)]
def qa_mX6_coolEmbers : qa_M := (yX6_coolEmbers, cX6_coolEmbers, 2, none, 6, qa_iX6_coolEmbers, 1, 2, 0, 0, [], 794, 792, 793)
def qa_iX7_init : List (Nat × Instr × Nat) := [(0, .aload_n 0, 1), (1, .invokespecial 3, 3), (4, .aload_n 0, 1), (5, .iconst (-1), 1), (6, .putfield 9, 3), (9, .aload_n 0, 1), (10, .iconst (-1), 1), (11, .putfield 15, 3), (14, .aload_n 0, 1), (15, .iconst (-1), 1), (16, .putfield 18, 3), (19, .return_, 1)]
def qa_mX7_init : qa_M := (yX7_init, cX7_init, 1, none, 7, qa_iX7_init, 1, 0, 1, 20, [], 105, 104, 0)
def qa_iX7_copyFrom : List (Nat × Instr × Nat) := [(0, .aload_n 0, 1), (1, .aload_n 1, 1), (2, .getfield 9, 3), (5, .putfield 9, 3), (8, .aload_n 0, 1), (9, .aload_n 1, 1), (10, .getfield 21, 3), (13, .putfield 21, 3), (16, .aload_n 0, 1), (17, .aload_n 1, 1), (18, .getfield 15, 3), (21, .putfield 15, 3), (24, .aload_n 0, 1), (25, .aload_n 1, 1), (26, .getfield 24, 3), (29, .putfield 24, 3), (32, .aload_n 0, 1), (33, .aload_n 1, 1), (34, .getfield 18, 3), (37, .putfield 18, 3), (40, .return_, 1)]
def qa_mX7_copyFrom : qa_M := (yX7_copyFrom, cX7_copyFrom, 2, none, 7, qa_iX7_copyFrom, 2, 2, 0, 0, [], 452, 450, 451)
def qa_iX7_bears : List (Nat × Instr × Nat) := [(0, .iload_n 1, 1), (1, .aload_n 0, 1), (2, .getfield 9, 3), (5, .if_icmp .eq 11, 3), (8, .iload_n 1, 1), (9, .aload_n 0, 1), (10, .getfield 15, 3), (13, .if_icmp .ne 7, 3), (16, .iconst 1, 1), (17, .goto 4, 3), (20, .iconst 0, 1), (21, .ireturn, 1)]
def qa_mX7_bears : qa_M := (yX7_bears, cX7_bears, 2, (some .boolean), 7, qa_iX7_bears, 2, 2, 0, 0, [], 526, 524, 525)
def qa_iX7_bring : List (Nat × Instr × Nat) := [(0, .iload_n 1, 1), (1, .aload_n 0, 1), (2, .getfield 9, 3), (5, .if_icmp .eq 36, 3), (8, .aload_n 0, 1), (9, .iload_n 2, 1), (10, .ifCond .le 10, 3), (13, .aload_n 0, 1), (14, .getfield 9, 3), (17, .goto 4, 3), (20, .iconst (-1), 1), (21, .putfield 15, 3), (24, .aload_n 0, 1), (25, .aload_n 0, 1), (26, .getfield 15, 3), (29, .iconst (-1), 1), (30, .if_icmp .eq 7, 3), (33, .iload_n 2, 1), (34, .goto 4, 3), (37, .iconst 0, 1), (38, .putfield 24, 3), (41, .aload_n 0, 1), (42, .iload_n 1, 1), (43, .putfield 9, 3), (46, .aload_n 0, 1), (47, .iconst 0, 1), (48, .putfield 21, 3), (51, .aload_n 0, 1), (52, .iconst (-1), 1), (53, .putfield 18, 3), (56, .return_, 1)]
def qa_mX7_bring : qa_M := (yX7_bring, cX7_bring, 3, none, 7, qa_iX7_bring, 3, 2, 0, 0, [], 665, 663, 664)
def qa_iX7_fadeOnce : List (Nat × Instr × Nat) := [(0, .aload_n 0, 1), (1, .getfield 24, 3), (4, .ifCond .le 13, 3), (7, .aload_n 0, 1), (8, .dup, 1), (9, .getfield 24, 3), (12, .iconst 1, 1), (13, .isub, 1), (14, .putfield 24, 3), (17, .aload_n 0, 1), (18, .getfield 24, 3), (21, .ifCond .ne 8, 3), (24, .aload_n 0, 1), (25, .iconst (-1), 1), (26, .putfield 15, 3), (29, .return_, 1)]
def qa_mX7_fadeOnce : qa_M := (yX7_fadeOnce, cX7_fadeOnce, 1, none, 7, qa_iX7_fadeOnce, 1, 2, 0, 0, [], 798, 796, 797)
def qa_iX7_countShown : List (Nat × Instr × Nat) := [(0, .aload_n 0, 1), (1, .getfield 9, 3), (4, .iconst (-1), 1), (5, .if_icmp .eq 13, 3), (8, .aload_n 0, 1), (9, .dup, 1), (10, .getfield 21, 3), (13, .iconst 1, 1), (14, .iadd, 1), (15, .putfield 21, 3), (18, .return_, 1)]
def qa_mX7_countShown : qa_M := (yX7_countShown, cX7_countShown, 1, none, 7, qa_iX7_countShown, 1, 2, 0, 0, [], 802, 800, 801)
def qa_iX8_init : List (Nat × Instr × Nat) := [(0, .aload_n 0, 1), (1, .invokespecial 3, 3), (4, .aload_n 0, 1), (5, .bipush 60, 2), (7, .newarray .int, 2), (9, .putfield 9, 3), (12, .return_, 1)]
def qa_mX8_init : qa_M := (yX8_init, cX8_init, 1, none, 8, qa_iX8_init, 1, 0, 1, 20, [], 291, 290, 0)
def qa_iX9_init : List (Nat × Instr × Nat) := [(0, .aload_n 0, 1), (1, .invokespecial 1, 3), (4, .aload_n 0, 1), (5, .new 7, 3), (8, .dup, 1), (9, .invokespecial 9, 3), (12, .putfield 10, 3), (15, .aload_n 0, 1), (16, .new 7, 3), (19, .dup, 1), (20, .invokespecial 9, 3), (23, .putfield 16, 3), (26, .aload_n 0, 1), (27, .new 19, 3), (30, .dup, 1), (31, .invokespecial 21, 3), (34, .putfield 22, 3), (37, .aload_n 0, 1), (38, .iconst 2, 1), (39, .anewarray 7, 3), (42, .putfield 26, 3), (45, .iconst 0, 1), (46, .istore_n 1, 1), (47, .iload_n 1, 1), (48, .aload_n 0, 1), (49, .getfield 26, 3), (52, .arraylength, 1), (53, .if_icmp .ge 22, 3), (56, .aload_n 0, 1), (57, .getfield 26, 3), (60, .iload_n 1, 1), (61, .new 7, 3), (64, .dup, 1), (65, .invokespecial 9, 3), (68, .aastore, 1), (69, .iinc 1 1, 3), (72, .goto (-25), 3), (75, .aload_n 0, 1), (76, .iconst 2, 1), (77, .newarray .boolean, 2), (79, .putfield 30, 3), (82, .aload_n 0, 1), (83, .new 34, 3), (86, .dup, 1), (87, .invokespecial 36, 3), (90, .putfield 37, 3), (93, .return_, 1)]
def qa_mX9_init : qa_M := (yX9_init, cX9_init, 2, none, 9, qa_iX9_init, 1, 0, 4, 81, [], 24, 23, 0)
def qa_iX9_addSlide : List (Nat × Instr × Nat) := [(0, .iload_n 1, 1), (1, .iconst 1, 1), (2, .bipush 50, 2), (4, .invokestatic 41, 3), (7, .ifCond .eq 27, 3), (10, .iload_n 2, 1), (11, .iconst 1, 1), (12, .bipush 20, 2), (14, .invokestatic 41, 3), (17, .ifCond .eq 17, 3), (20, .iload_n 3, 1), (21, .iconst 0, 1), (22, .bipush 10, 2), (24, .invokestatic 41, 3), (27, .ifCond .eq 7, 3), (30, .iconst 1, 1), (31, .goto 4, 3), (34, .iconst 0, 1), (35, .invokestatic 45, 3), (38, .aload_n 0, 1), (39, .getfield 10, 3), (42, .getfield 49, 3), (45, .getfield 53, 3), (48, .bipush 16, 2), (50, .if_icmp .ge 7, 3), (53, .iconst 1, 1), (54, .goto 4, 3), (57, .iconst 0, 1), (58, .invokestatic 59, 3), (61, .aload_n 0, 1), (62, .getfield 22, 3), (65, .aload_n 0, 1), (66, .getfield 10, 3), (69, .invokevirtual 62, 3), (72, .aload_n 0, 1), (73, .getfield 10, 3), (76, .getfield 49, 3), (79, .iload_n 1, 1), (80, .iload_n 2, 1), (81, .iload_n 3, 1), (82, .invokevirtual 66, 3), (85, .istore 4, 2), (87, .aload_n 0, 1), (88, .getfield 10, 3), (91, .invokevirtual 70, 3), (94, .iload 4, 2), (96, .ireturn, 1)]
def qa_mX9_addSlide : qa_M := (yX9_addSlide, cX9_addSlide, 5, (some .int), 9, qa_iX9_addSlide, 4, 2, 7, 112, [], 341, 339, 340)
def qa_iX9_insert : List (Nat × Instr × Nat) := [(0, .iload_n 1, 1), (1, .iconst 0, 1), (2, .aload_n 0, 1), (3, .getfield 10, 3), (6, .getfield 73, 3), (9, .getfield 77, 3), (12, .invokestatic 41, 3), (15, .ifCond .eq 21, 3), (18, .aload_n 0, 1), (19, .getfield 10, 3), (22, .getfield 49, 3), (25, .iload_n 2, 1), (26, .invokevirtual 80, 3), (29, .ifCond .eq 7, 3), (32, .iconst 1, 1), (33, .goto 4, 3), (36, .iconst 0, 1), (37, .invokestatic 84, 3), (40, .aload_n 0, 1), (41, .getfield 10, 3), (44, .getfield 73, 3), (47, .getfield 77, 3), (50, .bipush 24, 2), (52, .if_icmp .ge 7, 3), (55, .iconst 1, 1), (56, .goto 4, 3), (59, .iconst 0, 1), (60, .invokestatic 59, 3), (63, .aload_n 0, 1), (64, .getfield 22, 3), (67, .aload_n 0, 1), (68, .getfield 10, 3), (71, .invokevirtual 62, 3), (74, .aload_n 0, 1), (75, .getfield 10, 3), (78, .getfield 73, 3), (81, .iload_n 1, 1), (82, .iload_n 2, 1), (83, .invokevirtual 87, 3), (86, .aload_n 0, 1), (87, .getfield 10, 3), (90, .invokevirtual 70, 3), (93, .aload_n 0, 1), (94, .getfield 10, 3), (97, .getfield 73, 3), (100, .getfield 77, 3), (103, .ireturn, 1)]
def qa_mX9_insert : qa_M := (yX9_insert, cX9_insert, 3, (some .int), 9, qa_iX9_insert, 3, 2, 7, 112, [], 585, 583, 584)
def qa_iX9_takeOut : List (Nat × Instr × Nat) := [(0, .aload_n 0, 1), (1, .getfield 10, 3), (4, .getfield 73, 3), (7, .iload_n 1, 1), (8, .invokevirtual 91, 3), (11, .invokestatic 84, 3), (14, .aload_n 0, 1), (15, .getfield 22, 3), (18, .aload_n 0, 1), (19, .getfield 10, 3), (22, .invokevirtual 62, 3), (25, .aload_n 0, 1), (26, .getfield 10, 3), (29, .getfield 73, 3), (32, .iload_n 1, 1), (33, .invokevirtual 92, 3), (36, .istore_n 2, 1), (37, .aload_n 0, 1), (38, .getfield 10, 3), (41, .invokevirtual 70, 3), (44, .iload_n 2, 1), (45, .ireturn, 1)]
def qa_mX9_takeOut : qa_M := (yX9_takeOut, cX9_takeOut, 3, (some .int), 9, qa_iX9_takeOut, 2, 2, 7, 112, [], 607, 605, 606)
def qa_iX9_goOn : List (Nat × Instr × Nat) := [(0, .aload_n 0, 1), (1, .getfield 10, 3), (4, .invokevirtual 96, 3), (7, .invokestatic 59, 3), (10, .aload_n 0, 1), (11, .getfield 22, 3), (14, .aload_n 0, 1), (15, .getfield 10, 3), (18, .invokevirtual 62, 3), (21, .aload_n 0, 1), (22, .getfield 10, 3), (25, .invokevirtual 100, 3), (28, .istore_n 1, 1), (29, .aload_n 0, 1), (30, .getfield 10, 3), (33, .invokevirtual 70, 3), (36, .iload_n 1, 1), (37, .ireturn, 1)]
def qa_mX9_goOn : qa_M := (yX9_goOn, cX9_goOn, 2, (some .boolean), 9, qa_iX9_goOn, 1, 2, 7, 112, [], 645, 643, 644)
def qa_iX9_ask : List (Nat × Instr × Nat) := [(0, .aload_n 0, 1), (1, .getfield 10, 3), (4, .getfield 49, 3), (7, .iload_n 1, 1), (8, .invokevirtual 80, 3), (11, .invokestatic 84, 3), (14, .aload_n 0, 1), (15, .getfield 10, 3), (18, .iload_n 1, 1), (19, .invokevirtual 103, 3), (22, .invokestatic 59, 3), (25, .aload_n 0, 1), (26, .getfield 22, 3), (29, .aload_n 0, 1), (30, .getfield 10, 3), (33, .invokevirtual 62, 3), (36, .aload_n 0, 1), (37, .getfield 10, 3), (40, .getfield 106, 3), (43, .iload_n 1, 1), (44, .invokevirtual 110, 3), (47, .aload_n 0, 1), (48, .getfield 10, 3), (51, .invokevirtual 70, 3), (54, .aload_n 0, 1), (55, .getfield 10, 3), (58, .getfield 106, 3), (61, .getfield 116, 3), (64, .ireturn, 1)]
def qa_mX9_ask : qa_M := (yX9_ask, cX9_ask, 2, (some .int), 9, qa_iX9_ask, 2, 2, 7, 112, [], 700, 698, 699)
def qa_iX9_burn : List (Nat × Instr × Nat) := [(0, .aload_n 0, 1), (1, .getfield 10, 3), (4, .getfield 49, 3), (7, .iload_n 1, 1), (8, .invokevirtual 80, 3), (11, .invokestatic 84, 3), (14, .aload_n 0, 1), (15, .getfield 10, 3), (18, .iload_n 1, 1), (19, .invokevirtual 119, 3), (22, .invokestatic 59, 3), (25, .aload_n 0, 1), (26, .getfield 22, 3), (29, .aload_n 0, 1), (30, .getfield 10, 3), (33, .invokevirtual 62, 3), (36, .aload_n 0, 1), (37, .getfield 10, 3), (40, .iload_n 1, 1), (41, .invokevirtual 122, 3), (44, .aload_n 0, 1), (45, .getfield 10, 3), (48, .invokevirtual 70, 3), (51, .aload_n 0, 1), (52, .getfield 10, 3), (55, .getfield 49, 3), (58, .getfield 125, 3), (61, .iload_n 1, 1), (62, .invokestatic 129, 3), (65, .ireturn, 1)]
def qa_mX9_burn : qa_M := (yX9_burn, cX9_burn, 2, (some .int), 9, qa_iX9_burn, 2, 2, 7, 112, [], 728, 726, 727)
def qa_iX9_tick : List (Nat × Instr × Nat) := [(0, .iload_n 1, 1), (1, .iconst 1, 1), (2, .bipush 100, 2), (4, .invokestatic 41, 3), (7, .invokestatic 45, 3), (10, .aload_n 0, 1), (11, .getfield 22, 3), (14, .aload_n 0, 1), (15, .getfield 10, 3), (18, .invokevirtual 62, 3), (21, .aload_n 0, 1), (22, .getfield 10, 3), (25, .iload_n 1, 1), (26, .invokevirtual 133, 3), (29, .ireturn, 1)]
def qa_mX9_tick : qa_M := (yX9_tick, cX9_tick, 2, (some .int), 9, qa_iX9_tick, 2, 2, 7, 156, [], 782, 780, 781)
def qa_iX9_changeMemory : List (Nat × Instr × Nat) := [(0, .iload_n 1, 1), (1, .sipush 150, 3), (4, .sipush 400, 3), (7, .invokestatic 41, 3), (10, .invokestatic 45, 3), (13, .aload_n 0, 1), (14, .getfield 22, 3), (17, .aload_n 0, 1), (18, .getfield 10, 3), (21, .invokevirtual 62, 3), (24, .aload_n 0, 1), (25, .getfield 10, 3), (28, .getfield 136, 3), (31, .getfield 140, 3), (34, .istore_n 2, 1), (35, .aload_n 0, 1), (36, .getfield 10, 3), (39, .getfield 136, 3), (42, .iload_n 1, 1), (43, .putfield 140, 3), (46, .aload_n 0, 1), (47, .getfield 10, 3), (50, .iload_n 1, 1), (51, .invokevirtual 145, 3), (54, .aload_n 0, 1), (55, .getfield 10, 3), (58, .invokevirtual 70, 3), (61, .iload_n 2, 1), (62, .ireturn, 1)]
def qa_mX9_changeMemory : qa_M := (yX9_changeMemory, cX9_changeMemory, 3, (some .int), 9, qa_iX9_changeMemory, 2, 2, 7, 112, [], 766, 764, 765)
def qa_iX9_changeAhead : List (Nat × Instr × Nat) := [(0, .iload_n 1, 1), (1, .iconst 0, 1), (2, .iconst 4, 1), (3, .invokestatic 41, 3), (6, .invokestatic 45, 3), (9, .aload_n 0, 1), (10, .getfield 22, 3), (13, .aload_n 0, 1), (14, .getfield 10, 3), (17, .invokevirtual 62, 3), (20, .aload_n 0, 1), (21, .getfield 10, 3), (24, .getfield 136, 3), (27, .getfield 148, 3), (30, .istore_n 2, 1), (31, .aload_n 0, 1), (32, .getfield 10, 3), (35, .getfield 136, 3), (38, .iload_n 1, 1), (39, .putfield 148, 3), (42, .aload_n 0, 1), (43, .getfield 10, 3), (46, .invokevirtual 70, 3), (49, .iload_n 2, 1), (50, .ireturn, 1)]
def qa_mX9_changeAhead : qa_M := (yX9_changeAhead, cX9_changeAhead, 3, (some .int), 9, qa_iX9_changeAhead, 2, 2, 7, 112, [], 754, 752, 753)
def qa_iX9_changeOrder : List (Nat × Instr × Nat) := [(0, .iload_n 1, 1), (1, .iconst 0, 1), (2, .iconst 2, 1), (3, .invokestatic 41, 3), (6, .invokestatic 45, 3), (9, .aload_n 0, 1), (10, .getfield 22, 3), (13, .aload_n 0, 1), (14, .getfield 10, 3), (17, .invokevirtual 62, 3), (20, .aload_n 0, 1), (21, .getfield 10, 3), (24, .getfield 136, 3), (27, .getfield 151, 3), (30, .istore_n 2, 1), (31, .aload_n 0, 1), (32, .getfield 10, 3), (35, .getfield 136, 3), (38, .iload_n 1, 1), (39, .putfield 151, 3), (42, .aload_n 0, 1), (43, .getfield 10, 3), (46, .invokevirtual 70, 3), (49, .iload_n 2, 1), (50, .ireturn, 1)]
def qa_mX9_changeOrder : qa_M := (yX9_changeOrder, cX9_changeOrder, 3, (some .int), 9, qa_iX9_changeOrder, 2, 2, 7, 112, [], 746, 744, 745)
def qa_iX9_changeGlow : List (Nat × Instr × Nat) := [(0, .iload_n 1, 1), (1, .iconst 0, 1), (2, .bipush 20, 2), (4, .invokestatic 41, 3), (7, .invokestatic 45, 3), (10, .aload_n 0, 1), (11, .getfield 22, 3), (14, .aload_n 0, 1), (15, .getfield 10, 3), (18, .invokevirtual 62, 3), (21, .aload_n 0, 1), (22, .getfield 10, 3), (25, .getfield 136, 3), (28, .getfield 154, 3), (31, .istore_n 2, 1), (32, .aload_n 0, 1), (33, .getfield 10, 3), (36, .getfield 136, 3), (39, .iload_n 1, 1), (40, .putfield 154, 3), (43, .aload_n 0, 1), (44, .getfield 10, 3), (47, .invokevirtual 70, 3), (50, .iload_n 2, 1), (51, .ireturn, 1)]
def qa_mX9_changeGlow : qa_M := (yX9_changeGlow, cX9_changeGlow, 3, (some .int), 9, qa_iX9_changeGlow, 2, 2, 7, 112, [], 758, 756, 757)
def qa_iX9_changePace : List (Nat × Instr × Nat) := [(0, .iload_n 1, 1), (1, .iconst 0, 1), (2, .bipush 50, 2), (4, .invokestatic 41, 3), (7, .invokestatic 45, 3), (10, .aload_n 0, 1), (11, .getfield 22, 3), (14, .aload_n 0, 1), (15, .getfield 10, 3), (18, .invokevirtual 62, 3), (21, .aload_n 0, 1), (22, .getfield 10, 3), (25, .getfield 136, 3), (28, .getfield 157, 3), (31, .istore_n 2, 1), (32, .aload_n 0, 1), (33, .getfield 10, 3), (36, .getfield 136, 3), (39, .iload_n 1, 1), (40, .putfield 157, 3), (43, .aload_n 0, 1), (44, .getfield 10, 3), (47, .invokevirtual 70, 3), (50, .iload_n 2, 1), (51, .ireturn, 1)]
def qa_mX9_changePace : qa_M := (yX9_changePace, cX9_changePace, 3, (some .int), 9, qa_iX9_changePace, 2, 2, 7, 112, [], 762, 760, 761)
def qa_iX9_slides : List (Nat × Instr × Nat) := [(0, .aload_n 0, 1), (1, .getfield 10, 3), (4, .getfield 49, 3), (7, .getfield 53, 3), (10, .ireturn, 1)]
def qa_mX9_slides : qa_M := (yX9_slides, cX9_slides, 1, (some .int), 9, qa_iX9_slides, 1, 2, 0, 0, [], 333, 331, 332)
def qa_iX9_costOf : List (Nat × Instr × Nat) := [(0, .aload_n 0, 1), (1, .getfield 10, 3), (4, .getfield 49, 3), (7, .iload_n 1, 1), (8, .invokevirtual 80, 3), (11, .invokestatic 84, 3), (14, .aload_n 0, 1), (15, .getfield 10, 3), (18, .getfield 49, 3), (21, .getfield 125, 3), (24, .iload_n 1, 1), (25, .invokestatic 129, 3), (28, .ireturn, 1)]
def qa_mX9_costOf : qa_M := (yX9_costOf, cX9_costOf, 2, (some .int), 9, qa_iX9_costOf, 2, 2, 7, 110, [], 734, 732, 733)
def qa_iX9_loadOf : List (Nat × Instr × Nat) := [(0, .aload_n 0, 1), (1, .getfield 10, 3), (4, .getfield 49, 3), (7, .iload_n 1, 1), (8, .invokevirtual 80, 3), (11, .invokestatic 84, 3), (14, .aload_n 0, 1), (15, .getfield 10, 3), (18, .getfield 49, 3), (21, .iload_n 1, 1), (22, .iconst 0, 1), (23, .invokevirtual 198, 3), (26, .ireturn, 1)]
def qa_mX9_loadOf : qa_M := (yX9_loadOf, cX9_loadOf, 2, (some .int), 9, qa_iX9_loadOf, 2, 2, 7, 110, [], 841, 839, 840)
def qa_iX9_fadeOf : List (Nat × Instr × Nat) := [(0, .aload_n 0, 1), (1, .getfield 10, 3), (4, .getfield 49, 3), (7, .iload_n 1, 1), (8, .invokevirtual 80, 3), (11, .invokestatic 84, 3), (14, .aload_n 0, 1), (15, .getfield 10, 3), (18, .getfield 49, 3), (21, .getfield 202, 3), (24, .iload_n 1, 1), (25, .invokestatic 129, 3), (28, .ireturn, 1)]
def qa_mX9_fadeOf : qa_M := (yX9_fadeOf, cX9_fadeOf, 2, (some .int), 9, qa_iX9_fadeOf, 2, 2, 7, 110, [], 681, 679, 680)
def qa_iX9_isLoaded : List (Nat × Instr × Nat) := [(0, .aload_n 0, 1), (1, .getfield 10, 3), (4, .getfield 49, 3), (7, .iload_n 1, 1), (8, .invokevirtual 80, 3), (11, .invokestatic 84, 3), (14, .aload_n 0, 1), (15, .getfield 10, 3), (18, .getfield 49, 3), (21, .iload_n 1, 1), (22, .invokevirtual 205, 3), (25, .ireturn, 1)]
def qa_mX9_isLoaded : qa_M := (yX9_isLoaded, cX9_isLoaded, 2, (some .boolean), 9, qa_iX9_isLoaded, 2, 2, 7, 110, [], 543, 541, 542)
def qa_iX9_isOnShow : List (Nat × Instr × Nat) := [(0, .aload_n 0, 1), (1, .getfield 10, 3), (4, .getfield 49, 3), (7, .iload_n 1, 1), (8, .invokevirtual 80, 3), (11, .invokestatic 84, 3), (14, .aload_n 0, 1), (15, .getfield 10, 3), (18, .getfield 208, 3), (21, .iload_n 1, 1), (22, .invokevirtual 212, 3), (25, .ireturn, 1)]
def qa_mX9_isOnShow : qa_M := (yX9_isOnShow, cX9_isOnShow, 2, (some .boolean), 9, qa_iX9_isOnShow, 2, 2, 7, 110, [], 712, 710, 711)
def qa_iX9_glowOf : List (Nat × Instr × Nat) := [(0, .aload_n 0, 1), (1, .getfield 10, 3), (4, .getfield 49, 3), (7, .iload_n 1, 1), (8, .invokevirtual 80, 3), (11, .invokestatic 84, 3), (14, .aload_n 0, 1), (15, .getfield 10, 3), (18, .getfield 49, 3), (21, .getfield 217, 3), (24, .iload_n 1, 1), (25, .invokestatic 129, 3), (28, .ireturn, 1)]
def qa_mX9_glowOf : qa_M := (yX9_glowOf, cX9_glowOf, 2, (some .int), 9, qa_iX9_glowOf, 2, 2, 7, 110, [], 738, 736, 737)
def qa_iX9_burntTimes : List (Nat × Instr × Nat) := [(0, .aload_n 0, 1), (1, .getfield 10, 3), (4, .getfield 49, 3), (7, .iload_n 1, 1), (8, .invokevirtual 80, 3), (11, .invokestatic 84, 3), (14, .aload_n 0, 1), (15, .getfield 10, 3), (18, .getfield 49, 3), (21, .getfield 220, 3), (24, .iload_n 1, 1), (25, .invokestatic 129, 3), (28, .ireturn, 1)]
def qa_mX9_burntTimes : qa_M := (yX9_burntTimes, cX9_burntTimes, 2, (some .int), 9, qa_iX9_burntTimes, 2, 2, 7, 110, [], 720, 718, 719)
def qa_iX9_nextUse : List (Nat × Instr × Nat) := [(0, .aload_n 0, 1), (1, .getfield 10, 3), (4, .getfield 49, 3), (7, .iload_n 1, 1), (8, .invokevirtual 80, 3), (11, .invokestatic 84, 3), (14, .aload_n 0, 1), (15, .getfield 10, 3), (18, .getfield 73, 3), (21, .iload_n 1, 1), (22, .invokevirtual 223, 3), (25, .istore_n 2, 1), (26, .iload_n 2, 1), (27, .ifCond .le 7, 3), (30, .iconst 1, 1), (31, .goto 4, 3), (34, .iconst 0, 1), (35, .invokestatic 59, 3), (38, .iload_n 2, 1), (39, .ireturn, 1)]
def qa_mX9_nextUse : qa_M := (yX9_nextUse, cX9_nextUse, 3, (some .int), 9, qa_iX9_nextUse, 2, 2, 7, 110, [], 896, 894, 895)
def qa_iX9_burnPlace : List (Nat × Instr × Nat) := [(0, .aload_n 0, 1), (1, .getfield 10, 3), (4, .getfield 49, 3), (7, .iload_n 1, 1), (8, .invokevirtual 80, 3), (11, .invokestatic 84, 3), (14, .aload_n 0, 1), (15, .getfield 10, 3), (18, .iload_n 1, 1), (19, .invokevirtual 226, 3), (22, .istore_n 2, 1), (23, .iload_n 2, 1), (24, .iconst (-1), 1), (25, .if_icmp .eq 7, 3), (28, .iconst 1, 1), (29, .goto 4, 3), (32, .iconst 0, 1), (33, .invokestatic 59, 3), (36, .iload_n 2, 1), (37, .ireturn, 1)]
def qa_mX9_burnPlace : qa_M := (yX9_burnPlace, cX9_burnPlace, 3, (some .int), 9, qa_iX9_burnPlace, 2, 2, 7, 110, [], 854, 852, 853)
def qa_iX9_places : List (Nat × Instr × Nat) := [(0, .aload_n 0, 1), (1, .getfield 10, 3), (4, .getfield 73, 3), (7, .getfield 77, 3), (10, .ireturn, 1)]
def qa_mX9_places : qa_M := (yX9_places, cX9_places, 1, (some .int), 9, qa_iX9_places, 1, 2, 0, 0, [], 570, 568, 569)
def qa_iX9_slideAt : List (Nat × Instr × Nat) := [(0, .aload_n 0, 1), (1, .getfield 10, 3), (4, .getfield 73, 3), (7, .iload_n 1, 1), (8, .invokevirtual 91, 3), (11, .invokestatic 84, 3), (14, .aload_n 0, 1), (15, .getfield 10, 3), (18, .getfield 73, 3), (21, .getfield 229, 3), (24, .iload_n 1, 1), (25, .invokestatic 129, 3), (28, .ireturn, 1)]
def qa_mX9_slideAt : qa_M := (yX9_slideAt, cX9_slideAt, 2, (some .int), 9, qa_iX9_slideAt, 2, 2, 7, 110, [], 595, 593, 594)
def qa_iX9_showPlace : List (Nat × Instr × Nat) := [(0, .aload_n 0, 1), (1, .getfield 10, 3), (4, .getfield 73, 3), (7, .getfield 232, 3), (10, .iconst (-1), 1), (11, .if_icmp .eq 7, 3), (14, .iconst 1, 1), (15, .goto 4, 3), (18, .iconst 0, 1), (19, .invokestatic 59, 3), (22, .aload_n 0, 1), (23, .getfield 10, 3), (26, .getfield 73, 3), (29, .getfield 232, 3), (32, .ireturn, 1)]
def qa_mX9_showPlace : qa_M := (yX9_showPlace, cX9_showPlace, 1, (some .int), 9, qa_iX9_showPlace, 1, 2, 7, 110, [], 581, 579, 580)
def qa_iX9_shown : List (Nat × Instr × Nat) := [(0, .aload_n 0, 1), (1, .getfield 10, 3), (4, .getfield 208, 3), (7, .getfield 235, 3), (10, .iconst (-1), 1), (11, .if_icmp .eq 7, 3), (14, .iconst 1, 1), (15, .goto 4, 3), (18, .iconst 0, 1), (19, .invokestatic 59, 3), (22, .aload_n 0, 1), (23, .getfield 10, 3), (26, .getfield 208, 3), (29, .getfield 235, 3), (32, .ireturn, 1)]
def qa_mX9_shown : qa_M := (yX9_shown, cX9_shown, 1, (some .int), 9, qa_iX9_shown, 1, 2, 7, 110, [], 622, 620, 621)
def qa_iX9_fading : List (Nat × Instr × Nat) := [(0, .aload_n 0, 1), (1, .getfield 10, 3), (4, .getfield 208, 3), (7, .getfield 238, 3), (10, .iconst (-1), 1), (11, .if_icmp .eq 7, 3), (14, .iconst 1, 1), (15, .goto 4, 3), (18, .iconst 0, 1), (19, .invokestatic 59, 3), (22, .aload_n 0, 1), (23, .getfield 10, 3), (26, .getfield 208, 3), (29, .getfield 238, 3), (32, .ireturn, 1)]
def qa_mX9_fading : qa_M := (yX9_fading, cX9_fading, 1, (some .int), 9, qa_iX9_fading, 1, 2, 7, 110, [], 626, 624, 625)
def qa_iX9_fadeLeft : List (Nat × Instr × Nat) := [(0, .aload_n 0, 1), (1, .getfield 10, 3), (4, .getfield 208, 3), (7, .getfield 241, 3), (10, .ireturn, 1)]
def qa_mX9_fadeLeft : qa_M := (yX9_fadeLeft, cX9_fadeLeft, 1, (some .int), 9, qa_iX9_fadeLeft, 1, 2, 0, 0, [], 685, 683, 684)
def qa_iX9_awaited : List (Nat × Instr × Nat) := [(0, .aload_n 0, 1), (1, .getfield 10, 3), (4, .getfield 208, 3), (7, .getfield 244, 3), (10, .iconst (-1), 1), (11, .if_icmp .eq 7, 3), (14, .iconst 1, 1), (15, .goto 4, 3), (18, .iconst 0, 1), (19, .invokestatic 59, 3), (22, .aload_n 0, 1), (23, .getfield 10, 3), (26, .getfield 208, 3), (29, .getfield 244, 3), (32, .ireturn, 1)]
def qa_mX9_awaited : qa_M := (yX9_awaited, cX9_awaited, 1, (some .int), 9, qa_iX9_awaited, 1, 2, 7, 110, [], 618, 616, 617)
def qa_iX9_shownFor : List (Nat × Instr × Nat) := [(0, .aload_n 0, 1), (1, .getfield 10, 3), (4, .getfield 208, 3), (7, .getfield 235, 3), (10, .iconst (-1), 1), (11, .if_icmp .eq 7, 3), (14, .iconst 1, 1), (15, .goto 4, 3), (18, .iconst 0, 1), (19, .invokestatic 59, 3), (22, .aload_n 0, 1), (23, .getfield 10, 3), (26, .getfield 208, 3), (29, .getfield 247, 3), (32, .ireturn, 1)]
def qa_mX9_shownFor : qa_M := (yX9_shownFor, cX9_shownFor, 1, (some .int), 9, qa_iX9_shownFor, 1, 2, 7, 110, [], 677, 675, 676)
def qa_iX9_loading : List (Nat × Instr × Nat) := [(0, .aload_n 0, 1), (1, .getfield 10, 3), (4, .getfield 106, 3), (7, .getfield 250, 3), (10, .iconst (-1), 1), (11, .if_icmp .eq 7, 3), (14, .iconst 1, 1), (15, .goto 4, 3), (18, .iconst 0, 1), (19, .invokestatic 59, 3), (22, .aload_n 0, 1), (23, .getfield 10, 3), (26, .getfield 106, 3), (29, .getfield 250, 3), (32, .ireturn, 1)]
def qa_mX9_loading : qa_M := (yX9_loading, cX9_loading, 1, (some .int), 9, qa_iX9_loading, 1, 2, 7, 110, [], 630, 628, 629)
def qa_iX9_loadLeft : List (Nat × Instr × Nat) := [(0, .aload_n 0, 1), (1, .getfield 10, 3), (4, .getfield 106, 3), (7, .getfield 253, 3), (10, .ireturn, 1)]
def qa_mX9_loadLeft : qa_M := (yX9_loadLeft, cX9_loadLeft, 1, (some .int), 9, qa_iX9_loadLeft, 1, 2, 0, 0, [], 886, 884, 885)
def qa_iX9_asked : List (Nat × Instr × Nat) := [(0, .aload_n 0, 1), (1, .getfield 10, 3), (4, .getfield 106, 3), (7, .getfield 116, 3), (10, .ireturn, 1)]
def qa_mX9_asked : qa_M := (yX9_asked, cX9_asked, 1, (some .int), 9, qa_iX9_asked, 1, 2, 0, 0, [], 692, 690, 691)
def qa_iX9_askedAt : List (Nat × Instr × Nat) := [(0, .iload_n 1, 1), (1, .iconst 0, 1), (2, .aload_n 0, 1), (3, .getfield 10, 3), (6, .getfield 106, 3), (9, .getfield 116, 3), (12, .iconst 1, 1), (13, .isub, 1), (14, .invokestatic 41, 3), (17, .invokestatic 84, 3), (20, .aload_n 0, 1), (21, .getfield 10, 3), (24, .getfield 106, 3), (27, .getfield 256, 3), (30, .iload_n 1, 1), (31, .invokestatic 129, 3), (34, .ireturn, 1)]
def qa_mX9_askedAt : qa_M := (yX9_askedAt, cX9_askedAt, 2, (some .int), 9, qa_iX9_askedAt, 2, 2, 7, 110, [], 696, 694, 695)
def qa_iX9_takenBySlides : List (Nat × Instr × Nat) := [(0, .aload_n 0, 1), (1, .getfield 10, 3), (4, .invokevirtual 257, 3), (7, .ireturn, 1)]
def qa_mX9_takenBySlides : qa_M := (yX9_takenBySlides, cX9_takenBySlides, 1, (some .int), 9, qa_iX9_takenBySlides, 1, 2, 2, 43, [], 862, 860, 861)
def qa_iX9_takenByAccount : List (Nat × Instr × Nat) := [(0, .aload_n 0, 1), (1, .getfield 10, 3), (4, .getfield 106, 3), (7, .getfield 260, 3), (10, .ireturn, 1)]
def qa_mX9_takenByAccount : qa_M := (yX9_takenByAccount, cX9_takenByAccount, 1, (some .int), 9, qa_iX9_takenByAccount, 1, 2, 0, 0, [], 870, 868, 869)
def qa_iX9_memory : List (Nat × Instr × Nat) := [(0, .aload_n 0, 1), (1, .getfield 10, 3), (4, .getfield 136, 3), (7, .getfield 140, 3), (10, .ireturn, 1)]
def qa_mX9_memory : qa_M := (yX9_memory, cX9_memory, 1, (some .int), 9, qa_iX9_memory, 1, 2, 0, 0, [], 874, 872, 873)
def qa_iX9_order : List (Nat × Instr × Nat) := [(0, .aload_n 0, 1), (1, .getfield 10, 3), (4, .getfield 136, 3), (7, .getfield 151, 3), (10, .ireturn, 1)]
def qa_mX9_order : qa_M := (yX9_order, cX9_order, 1, (some .int), 9, qa_iX9_order, 1, 2, 0, 0, [], 750, 748, 749)
def qa_iX9_glow : List (Nat × Instr × Nat) := [(0, .aload_n 0, 1), (1, .getfield 10, 3), (4, .getfield 136, 3), (7, .getfield 154, 3), (10, .ireturn, 1)]
def qa_mX9_glow : qa_M := (yX9_glow, cX9_glow, 1, (some .int), 9, qa_iX9_glow, 1, 2, 0, 0, [], 742, 740, 741)
def qa_iX9_ticksToShowByTicks : List (Nat × Instr × Nat) := [(0, .aload_n 0, 1), (1, .getfield 10, 3), (4, .getfield 208, 3), (7, .getfield 244, 3), (10, .iconst (-1), 1), (11, .if_icmp .eq 7, 3), (14, .iconst 1, 1), (15, .goto 4, 3), (18, .iconst 0, 1), (19, .invokestatic 59, 3), (22, .aload_n 0, 1), (23, .invokevirtual 263, 3), (26, .ireturn, 1)]
def qa_mX9_ticksToShowByTicks : qa_M := (yX9_ticksToShowByTicks, cX9_ticksToShowByTicks, 1, (some .int), 9, qa_iX9_ticksToShowByTicks, 1, 2, 7, 154, [], 820, 818, 819)
def qa_iX9_ticksToShowBySums : List (Nat × Instr × Nat) := [(0, .aload_n 0, 1), (1, .getfield 10, 3), (4, .getfield 208, 3), (7, .getfield 244, 3), (10, .iconst (-1), 1), (11, .if_icmp .eq 7, 3), (14, .iconst 1, 1), (15, .goto 4, 3), (18, .iconst 0, 1), (19, .invokestatic 59, 3), (22, .aload_n 0, 1), (23, .getfield 10, 3), (26, .invokevirtual 266, 3), (29, .ireturn, 1)]
def qa_mX9_ticksToShowBySums : qa_M := (yX9_ticksToShowBySums, cX9_ticksToShowBySums, 1, (some .int), 9, qa_iX9_ticksToShowBySums, 1, 2, 7, 110, [], 830, 828, 829)
def qa_iX9_burningsFor : List (Nat × Instr × Nat) := [(0, .aload_n 0, 1), (1, .getfield 10, 3), (4, .getfield 49, 3), (7, .iload_n 1, 1), (8, .invokevirtual 80, 3), (11, .invokestatic 84, 3), (14, .aload_n 0, 1), (15, .getfield 10, 3), (18, .iload_n 1, 1), (19, .invokevirtual 269, 3), (22, .ireturn, 1)]
def qa_mX9_burningsFor : qa_M := (yX9_burningsFor, cX9_burningsFor, 2, (some .int), 9, qa_iX9_burningsFor, 2, 2, 7, 110, [], 846, 844, 845)
def qa_iX9_missesWith : List (Nat × Instr × Nat) := [(0, .iload_n 1, 1), (1, .iconst 0, 1), (2, .iconst 2, 1), (3, .invokestatic 41, 3), (6, .invokestatic 45, 3), (9, .aload_n 0, 1), (10, .getfield 10, 3), (13, .invokevirtual 96, 3), (16, .invokestatic 59, 3), (19, .aload_n 0, 1), (20, .iload_n 1, 1), (21, .invokevirtual 272, 3), (24, .ireturn, 1)]
def qa_mX9_missesWith : qa_M := (yX9_missesWith, cX9_missesWith, 2, (some .int), 9, qa_iX9_missesWith, 2, 2, 7, 157, [], 921, 919, 920)
def qa_iX9_bestOrder : List (Nat × Instr × Nat) := [(0, .aload_n 0, 1), (1, .getfield 10, 3), (4, .invokevirtual 96, 3), (7, .invokestatic 59, 3), (10, .iconst 0, 1), (11, .istore_n 1, 1), (12, .aload_n 0, 1), (13, .iload_n 1, 1), (14, .invokevirtual 272, 3), (17, .istore_n 2, 1), (18, .iconst 1, 1), (19, .istore_n 3, 1), (20, .iload_n 3, 1), (21, .iconst 3, 1), (22, .if_icmp .ge 27, 3), (25, .aload_n 0, 1), (26, .iload_n 3, 1), (27, .invokevirtual 272, 3), (30, .istore 4, 2), (32, .iload 4, 2), (34, .iload_n 2, 1), (35, .if_icmp .ge 8, 3), (38, .iload_n 3, 1), (39, .istore_n 1, 1), (40, .iload 4, 2), (42, .istore_n 2, 1), (43, .iinc 3 1, 3), (46, .goto (-26), 3), (49, .iload_n 1, 1), (50, .ireturn, 1)]
def qa_mX9_bestOrder : qa_M := (yX9_bestOrder, cX9_bestOrder, 5, (some .int), 9, qa_iX9_bestOrder, 1, 2, 7, 157, [], 913, 911, 912)
def qa_iX9_time : List (Nat × Instr × Nat) := [(0, .aload_n 0, 1), (1, .getfield 10, 3), (4, .getfield 275, 3), (7, .getfield 279, 3), (10, .ireturn, 1)]
def qa_mX9_time : qa_M := (yX9_time, cX9_time, 1, (some .int), 9, qa_iX9_time, 1, 2, 0, 0, [], 774, 772, 773)
def qa_iX9_hits : List (Nat × Instr × Nat) := [(0, .aload_n 0, 1), (1, .getfield 10, 3), (4, .getfield 275, 3), (7, .getfield 284, 3), (10, .ireturn, 1)]
def qa_mX9_hits : qa_M := (yX9_hits, cX9_hits, 1, (some .int), 9, qa_iX9_hits, 1, 2, 0, 0, [], 637, 635, 636)
def qa_iX9_misses : List (Nat × Instr × Nat) := [(0, .aload_n 0, 1), (1, .getfield 10, 3), (4, .getfield 275, 3), (7, .getfield 287, 3), (10, .ireturn, 1)]
def qa_mX9_misses : qa_M := (yX9_misses, cX9_misses, 1, (some .int), 9, qa_iX9_misses, 1, 2, 0, 0, [], 641, 639, 640)
def qa_iX9_loads : List (Nat × Instr × Nat) := [(0, .aload_n 0, 1), (1, .getfield 10, 3), (4, .getfield 275, 3), (7, .getfield 290, 3), (10, .ireturn, 1)]
def qa_mX9_loads : qa_M := (yX9_loads, cX9_loads, 1, (some .int), 9, qa_iX9_loads, 1, 2, 0, 0, [], 878, 876, 877)
def qa_iX9_warmLoads : List (Nat × Instr × Nat) := [(0, .aload_n 0, 1), (1, .getfield 10, 3), (4, .getfield 275, 3), (7, .getfield 293, 3), (10, .ireturn, 1)]
def qa_mX9_warmLoads : qa_M := (yX9_warmLoads, cX9_warmLoads, 1, (some .int), 9, qa_iX9_warmLoads, 1, 2, 0, 0, [], 882, 880, 881)
def qa_iX9_burnings : List (Nat × Instr × Nat) := [(0, .aload_n 0, 1), (1, .getfield 10, 3), (4, .getfield 275, 3), (7, .getfield 296, 3), (10, .ireturn, 1)]
def qa_mX9_burnings : qa_M := (yX9_burnings, cX9_burnings, 1, (some .int), 9, qa_iX9_burnings, 1, 2, 0, 0, [], 724, 722, 723)
def qa_iX9_waited : List (Nat × Instr × Nat) := [(0, .aload_n 0, 1), (1, .getfield 10, 3), (4, .getfield 275, 3), (7, .getfield 299, 3), (10, .ireturn, 1)]
def qa_mX9_waited : qa_M := (yX9_waited, cX9_waited, 1, (some .int), 9, qa_iX9_waited, 1, 2, 0, 0, [], 778, 776, 777)
def qa_iX9_hitShare : List (Nat × Instr × Nat) := [(0, .aload_n 0, 1), (1, .getfield 10, 3), (4, .getfield 275, 3), (7, .invokevirtual 302, 3), (10, .dreturn, 1)]
def qa_mX9_hitShare : qa_M := (yX9_hitShare, cX9_hitShare, 1, (some .double), 9, qa_iX9_hitShare, 1, 2, 1, 21, [], 905, 903, 904)
def qa_iX9_waitOnTrial : List (Nat × Instr × Nat) := [(0, .aload_n 0, 1), (1, .getfield 16, 3), (4, .aload_n 0, 1), (5, .getfield 10, 3), (8, .invokevirtual 172, 3), (11, .iconst 1, 1), (12, .istore_n 1, 1), (13, .iload_n 1, 1), (14, .sipush 1000, 3), (17, .if_icmp .ge 21, 3), (20, .aload_n 0, 1), (21, .getfield 16, 3), (24, .invokevirtual 339, 3), (27, .ifCond .le 5, 3), (30, .iload_n 1, 1), (31, .ireturn, 1), (32, .iinc 1 1, 3), (35, .goto (-22), 3), (38, .sipush 1000, 3), (41, .ireturn, 1)]
def qa_mX9_waitOnTrial : qa_M := (yX9_waitOnTrial, cX9_waitOnTrial, 2, (some .int), 9, qa_iX9_waitOnTrial, 1, 2, 6, 133, [], 824, 823, 1)
def qa_iX9_missesOnTrial : List (Nat × Instr × Nat) := [(0, .aload_n 0, 1), (1, .getfield 16, 3), (4, .aload_n 0, 1), (5, .getfield 10, 3), (8, .invokevirtual 172, 3), (11, .aload_n 0, 1), (12, .getfield 16, 3), (15, .getfield 136, 3), (18, .iload_n 1, 1), (19, .putfield 151, 3), (22, .aload_n 0, 1), (23, .getfield 16, 3), (26, .getfield 136, 3), (29, .iconst 0, 1), (30, .putfield 157, 3), (33, .iconst 0, 1), (34, .istore_n 2, 1), (35, .iconst 0, 1), (36, .istore_n 3, 1), (37, .iload_n 3, 1), (38, .aload_n 0, 1), (39, .getfield 10, 3), (42, .getfield 73, 3), (45, .getfield 77, 3), (48, .if_icmp .ge 92, 3), (51, .aload_n 0, 1), (52, .getfield 16, 3), (55, .invokevirtual 100, 3), (58, .ifCond .ne 6, 3), (61, .iinc 2 1, 3), (64, .aload_n 0, 1), (65, .getfield 16, 3), (68, .invokevirtual 70, 3), (71, .iconst 0, 1), (72, .istore 4, 2), (74, .aload_n 0, 1), (75, .getfield 16, 3), (78, .getfield 208, 3), (81, .getfield 244, 3), (84, .iconst (-1), 1), (85, .if_icmp .eq 25, 3), (88, .iload 4, 2), (90, .sipush 1000, 3), (93, .if_icmp .ge 17, 3), (96, .aload_n 0, 1), (97, .getfield 16, 3), (100, .invokevirtual 339, 3), (103, .pop, 1), (104, .iinc 4 1, 3), (107, .goto (-33), 3), (110, .iconst 0, 1), (111, .istore 4, 2), (113, .iload 4, 2), (115, .bipush 10, 2), (117, .if_icmp .ge 17, 3), (120, .aload_n 0, 1), (121, .getfield 16, 3), (124, .invokevirtual 339, 3), (127, .pop, 1), (128, .iinc 4 1, 3), (131, .goto (-18), 3), (134, .iinc 3 1, 3), (137, .goto (-100), 3), (140, .iload_n 2, 1), (141, .ireturn, 1)]
def qa_mX9_missesOnTrial : qa_M := (yX9_missesOnTrial, cX9_missesOnTrial, 5, (some .int), 9, qa_iX9_missesOnTrial, 2, 2, 6, 133, [], 917, 916, 2)
def qa_iX9_needArgument : List (Nat × Instr × Nat) := [(0, .iload_n 0, 1), (1, .ifCond .ne 11, 3), (4, .new 342, 3), (7, .dup, 1), (8, .invokespecial 344, 3), (11, .athrow, 1), (12, .return_, 1)]
def qa_mX9_needArgument : qa_M := (yX9_needArgument, cX9_needArgument, 1, none, 9, qa_iX9_needArgument, 1, 1, 6, 90, [], 347, 346, 0)
def qa_iX9_needIndex : List (Nat × Instr × Nat) := [(0, .iload_n 0, 1), (1, .ifCond .ne 11, 3), (4, .new 345, 3), (7, .dup, 1), (8, .invokespecial 347, 3), (11, .athrow, 1), (12, .return_, 1)]
def qa_mX9_needIndex : qa_M := (yX9_needIndex, cX9_needIndex, 1, none, 9, qa_iX9_needIndex, 1, 1, 6, 90, [], 550, 549, 0)
def qa_iX9_needState : List (Nat × Instr × Nat) := [(0, .iload_n 0, 1), (1, .ifCond .ne 11, 3), (4, .new 348, 3), (7, .dup, 1), (8, .invokespecial 350, 3), (11, .athrow, 1), (12, .return_, 1)]
def qa_mX9_needState : qa_M := (yX9_needState, cX9_needState, 1, none, 9, qa_iX9_needState, 1, 1, 6, 90, [], 413, 412, 0)
def qa_iX9_isWithin : List (Nat × Instr × Nat) := [(0, .iload_n 0, 1), (1, .iload_n 1, 1), (2, .if_icmp .lt 12, 3), (5, .iload_n 0, 1), (6, .iload_n 2, 1), (7, .if_icmp .gt 7, 3), (10, .iconst 1, 1), (11, .goto 4, 3), (14, .iconst 0, 1), (15, .ireturn, 1)]
def qa_mX9_isWithin : qa_M := (yX9_isWithin, cX9_isWithin, 3, (some .boolean), 9, qa_iX9_isWithin, 3, 1, 0, 0, [], 344, 343, 0)
def qa_iX9_at : List (Nat × Instr × Nat) := [(0, .iload_n 1, 1), (1, .ifCond .lt 15, 3), (4, .iload_n 1, 1), (5, .aload_n 0, 1), (6, .arraylength, 1), (7, .if_icmp .ge 9, 3), (10, .aload_n 0, 1), (11, .iload_n 1, 1), (12, .iaload, 1), (13, .goto 4, 3), (16, .iconst 0, 1), (17, .ireturn, 1)]
def qa_mX9_at : qa_M := (yX9_at, cX9_at, 2, (some .int), 9, qa_iX9_at, 2, 1, 0, 0, [], 483, 482, 0)
def qa_iX9_set : List (Nat × Instr × Nat) := [(0, .iload_n 1, 1), (1, .ifCond .lt 13, 3), (4, .iload_n 1, 1), (5, .aload_n 0, 1), (6, .arraylength, 1), (7, .if_icmp .ge 7, 3), (10, .aload_n 0, 1), (11, .iload_n 1, 1), (12, .iload_n 2, 1), (13, .iastore, 1), (14, .return_, 1)]
def qa_mX9_set : qa_M := (yX9_set, cX9_set, 3, none, 9, qa_iX9_set, 3, 1, 0, 0, [], 472, 471, 0)
def qa_iX9_copyRow : List (Nat × Instr × Nat) := [(0, .iconst 0, 1), (1, .istore_n 2, 1), (2, .iload_n 2, 1), (3, .aload_n 0, 1), (4, .arraylength, 1), (5, .if_icmp .ge 21, 3), (8, .iload_n 2, 1), (9, .aload_n 1, 1), (10, .arraylength, 1), (11, .if_icmp .ge 15, 3), (14, .aload_n 1, 1), (15, .iload_n 2, 1), (16, .aload_n 0, 1), (17, .iload_n 2, 1), (18, .iaload, 1), (19, .iastore, 1), (20, .iinc 2 1, 3), (23, .goto (-21), 3), (26, .return_, 1)]
def qa_mX9_copyRow : qa_M := (yX9_copyRow, cX9_copyRow, 3, none, 9, qa_iX9_copyRow, 2, 1, 0, 0, [], 443, 442, 0)
def qa_iL_cell : List (Nat × Instr × Nat) := [(0, .iload_n 1, 1), (1, .aload_n 0, 1), (2, .arraylength, 1), (3, .if_icmp .ge 9, 3), (6, .aload_n 0, 1), (7, .iload_n 1, 1), (8, .iaload, 1), (9, .goto 15, 3), (12, .sipush 7919, 3), (15, .iload_n 1, 1), (16, .iconst 3, 1), (17, .iadd, 1), (18, .imul, 1), (19, .iload_n 1, 1), (20, .bipush 11, 2), (22, .iadd, 1), (23, .imul, 1), (24, .ireturn, 1)]
def qa_mL_cell : qa_M := (yL_cell, cL_cell, 2, (some .int), 11, qa_iL_cell, 2, 1, 0, 0, [], 326, 325, 0)
def qa_iL_low : List (Nat × Instr × Nat) := [(0, .iload_n 0, 1), (1, .ldc 7, 2), (3, .iand, 1), (4, .iload_n 1, 1), (5, .irem, 1), (6, .ireturn, 1)]
def qa_mL_low : qa_M := (yL_low, cL_low, 2, (some .int), 11, qa_iL_low, 2, 1, 0, 0, [], 336, 335, 0)
def qa_iL_told : List (Nat × Instr × Nat) := [(0, .iload_n 1, 1), (1, .ifCond .ne 10, 3), (4, .aload_n 0, 1), (5, .invokevirtual 8, 3), (8, .goto 31, 3), (11, .iload_n 1, 1), (12, .iconst 1, 1), (13, .if_icmp .ne 10, 3), (16, .aload_n 0, 1), (17, .invokevirtual 14, 3), (20, .goto 19, 3), (23, .iload_n 1, 1), (24, .iconst 2, 1), (25, .if_icmp .ne 10, 3), (28, .aload_n 0, 1), (29, .invokevirtual 17, 3), (32, .goto 7, 3), (35, .aload_n 0, 1), (36, .invokevirtual 20, 3), (39, .ireturn, 1), (40, .astore_n 2, 1), (41, .iconst (-1), 1), (42, .ireturn, 1)]
def qa_mL_told : qa_M := (yL_told, cL_told, 3, (some .int), 11, qa_iL_told, 2, 1, 8, 130, [(0, 39, 40, 23)], 614, 613, 0)
def qa_iL_showPlace : List (Nat × Instr × Nat) := [(0, .aload_n 0, 1), (1, .invokevirtual 25, 3), (4, .ireturn, 1), (5, .astore_n 1, 1), (6, .iconst (-1), 1), (7, .ireturn, 1)]
def qa_mL_showPlace : qa_M := (yL_showPlace, cL_showPlace, 2, (some .int), 11, qa_iL_showPlace, 1, 1, 8, 130, [(0, 4, 5, 23)], 576, 575, 0)
def qa_iL_isAsked : List (Nat × Instr × Nat) := [(0, .iconst 0, 1), (1, .istore_n 2, 1), (2, .iconst 0, 1), (3, .istore_n 3, 1), (4, .iload_n 3, 1), (5, .aload_n 0, 1), (6, .invokevirtual 28, 3), (9, .if_icmp .ge 28, 3), (12, .iload_n 2, 1), (13, .ifCond .ne 12, 3), (16, .aload_n 0, 1), (17, .iload_n 3, 1), (18, .invokevirtual 31, 3), (21, .iload_n 1, 1), (22, .if_icmp .ne 7, 3), (25, .iconst 1, 1), (26, .goto 4, 3), (29, .iconst 0, 1), (30, .istore_n 2, 1), (31, .iinc 3 1, 3), (34, .goto (-30), 3), (37, .iload_n 2, 1), (38, .ireturn, 1)]
def qa_mL_isAsked : qa_M := (yL_isAsked, cL_isAsked, 4, (some .boolean), 11, qa_iL_isAsked, 2, 1, 8, 131, [], 688, 687, 0)
def qa_iL_does : List (Nat × Instr × Nat) := [(0, .aload_n 0, 1), (1, .invokevirtual 35, 3), (4, .istore_n 3, 1), (5, .iload_n 3, 1), (6, .iconst 4, 1), (7, .if_icmp .lt 16, 3), (10, .iload_n 1, 1), (11, .bipush 31, 2), (13, .iand, 1), (14, .ifCond .ne 66, 3), (17, .iload_n 3, 1), (18, .bipush 16, 2), (20, .if_icmp .ge 60, 3), (23, .aload_n 0, 1), (24, .iconst 1, 1), (25, .iload_n 2, 1), (26, .bipush 50, 2), (28, .invokestatic 38, 3), (31, .iadd, 1), (32, .iconst 1, 1), (33, .iload_n 1, 1), (34, .iconst 3, 1), (35, .ishr, 1), (36, .bipush 8, 2), (38, .invokestatic 38, 3), (41, .iadd, 1), (42, .iload_n 2, 1), (43, .iconst 3, 1), (44, .ishr, 1), (45, .iconst 5, 1), (46, .invokestatic 38, 3), (49, .invokevirtual 44, 3), (52, .iload_n 3, 1), (53, .if_icmp .ne 25, 3), (56, .aload_n 0, 1), (57, .invokevirtual 35, 3), (60, .iload_n 3, 1), (61, .iconst 1, 1), (62, .iadd, 1), (63, .if_icmp .ne 15, 3), (66, .aload_n 0, 1), (67, .iload_n 3, 1), (68, .invokevirtual 48, 3), (71, .ifCond .ne 7, 3), (74, .iconst 1, 1), (75, .goto 4, 3), (78, .iconst 0, 1), (79, .ireturn, 1), (80, .iload_n 1, 1), (81, .iconst 4, 1), (82, .ishr, 1), (83, .iload_n 3, 1), (84, .invokestatic 38, 3), (87, .istore 4, 2), (89, .aload_n 0, 1), (90, .invokevirtual 52, 3), (93, .istore 5, 2), (95, .iload_n 1, 1), (96, .bipush 15, 2), (98, .iand, 1), (99, .tableswitch 368 0 12 #[65, 65, 65, 95, 120, 120, 120, 120, 146, 203, 236, 267, 316], 65), (164, .iload 5, 2), (166, .bipush 24, 2), (168, .if_icmp .eq 20, 3), (171, .aload_n 0, 1), (172, .iload_n 2, 1), (173, .iload 5, 2), (175, .iconst 1, 1), (176, .iadd, 1), (177, .invokestatic 38, 3), (180, .iload 4, 2), (182, .invokestatic 55, 3), (185, .ifCond .eq 7, 3), (188, .iconst 1, 1), (189, .goto 4, 3), (192, .iconst 0, 1), (193, .ireturn, 1), (194, .iload 5, 2), (196, .iconst 3, 1), (197, .if_icmp .lt 16, 3), (200, .aload_n 0, 1), (201, .iload_n 2, 1), (202, .iload 5, 2), (204, .invokestatic 38, 3), (207, .invokestatic 59, 3), (210, .ifCond .eq 7, 3), (213, .iconst 1, 1), (214, .goto 4, 3), (217, .iconst 0, 1), (218, .ireturn, 1), (219, .iload 5, 2), (221, .ifCond .eq 18, 3), (224, .aload_n 0, 1), (225, .iconst 0, 1), (226, .invokestatic 63, 3), (229, .ifCond .ge 10, 3), (232, .aload_n 0, 1), (233, .invokestatic 67, 3), (236, .ifCond .eq 7, 3), (239, .iconst 1, 1), (240, .goto 4, 3), (243, .iconst 0, 1), (244, .ireturn, 1), (245, .aload_n 0, 1), (246, .iload 4, 2), (248, .invokevirtual 48, 3), (251, .ifCond .ne 45, 3), (254, .aload_n 0, 1), (255, .iconst 0, 1), (256, .invokestatic 63, 3), (259, .iload 4, 2), (261, .if_icmp .eq 35, 3), (264, .aload_n 0, 1), (265, .iconst 3, 1), (266, .invokestatic 63, 3), (269, .iload 4, 2), (271, .if_icmp .eq 25, 3), (274, .aload_n 0, 1), (275, .iload 4, 2), (277, .invokestatic 71, 3), (280, .ifCond .ne 16, 3), (283, .aload_n 0, 1), (284, .iload 4, 2), (286, .invokevirtual 74, 3), (289, .aload_n 0, 1), (290, .invokevirtual 28, 3), (293, .if_icmp .ne 7, 3), (296, .iconst 1, 1), (297, .goto 4, 3), (300, .iconst 0, 1), (301, .ireturn, 1), (302, .aload_n 0, 1), (303, .iload 4, 2), (305, .invokevirtual 48, 3), (308, .ifCond .eq 21, 3), (311, .aload_n 0, 1), (312, .iload 4, 2), (314, .invokevirtual 77, 3), (317, .ifCond .ne 12, 3), (320, .aload_n 0, 1), (321, .iload 4, 2), (323, .invokestatic 80, 3), (326, .ifCond .eq 7, 3), (329, .iconst 1, 1), (330, .goto 4, 3), (333, .iconst 0, 1), (334, .ireturn, 1), (335, .aload_n 0, 1), (336, .iload_n 2, 1), (337, .iconst 3, 1), (338, .invokestatic 38, 3), (341, .invokevirtual 83, 3), (344, .iconst 3, 1), (345, .if_icmp .ge 19, 3), (348, .aload_n 0, 1), (349, .invokevirtual 86, 3), (352, .iload_n 2, 1), (353, .iconst 3, 1), (354, .invokestatic 38, 3), (357, .if_icmp .ne 7, 3), (360, .iconst 1, 1), (361, .goto 4, 3), (364, .iconst 0, 1), (365, .ireturn, 1), (366, .iload_n 2, 1), (367, .iconst 1, 1), (368, .iand, 1), (369, .ifCond .ne 25, 3), (372, .aload_n 0, 1), (373, .iload_n 2, 1), (374, .iconst 1, 1), (375, .ishr, 1), (376, .iconst 5, 1), (377, .invokestatic 38, 3), (380, .invokevirtual 89, 3), (383, .ifCond .lt 7, 3), (386, .iconst 1, 1), (387, .goto 27, 3), (390, .iconst 0, 1), (391, .goto 23, 3), (394, .aload_n 0, 1), (395, .iload_n 2, 1), (396, .iconst 1, 1), (397, .ishr, 1), (398, .bipush 21, 2), (400, .invokestatic 38, 3), (403, .invokevirtual 92, 3), (406, .ifCond .lt 7, 3), (409, .iconst 1, 1), (410, .goto 4, 3), (413, .iconst 0, 1), (414, .ireturn, 1), (415, .iload_n 2, 1), (416, .iconst 3, 1), (417, .iand, 1), (418, .ifCond .ne 26, 3), (421, .aload_n 0, 1), (422, .iload_n 2, 1), (423, .iconst 2, 1), (424, .ishr, 1), (425, .bipush 9, 2), (427, .invokestatic 38, 3), (430, .invokevirtual 95, 3), (433, .ifCond .lt 7, 3), (436, .iconst 1, 1), (437, .goto 29, 3), (440, .iconst 0, 1), (441, .goto 25, 3), (444, .aload_n 0, 1), (445, .sipush 150, 3), (448, .iload_n 2, 1), (449, .bipush 100, 2), (451, .invokestatic 38, 3), (454, .iadd, 1), (455, .invokevirtual 98, 3), (458, .ifCond .le 7, 3), (461, .iconst 1, 1), (462, .goto 4, 3), (465, .iconst 0, 1), (466, .ireturn, 1), (467, .aload_n 0, 1), (468, .iconst 0, 1), (469, .invokestatic 63, 3), (472, .ifCond .lt 9, 3), (475, .iload_n 2, 1), (476, .iconst 1, 1), (477, .iand, 1), (478, .ifCond .ne 20, 3), (481, .aload_n 0, 1), (482, .iconst 1, 1), (483, .iload_n 2, 1), (484, .iconst 1, 1), (485, .ishr, 1), (486, .bipush 6, 2), (488, .invokestatic 38, 3), (491, .iadd, 1), (492, .invokestatic 101, 3), (495, .goto 7, 3), (498, .aload_n 0, 1), (499, .invokestatic 104, 3), (502, .ireturn, 1)]
def qa_mL_does : qa_M := (yL_does, cL_does, 6, (some .boolean), 11, qa_iL_does, 3, 1, 10, 200, [], 329, 328, 0)
def qa_iL_isInserted : List (Nat × Instr × Nat) := [(0, .aload_n 0, 1), (1, .invokestatic 107, 3), (4, .istore_n 3, 1), (5, .aload_n 0, 1), (6, .invokevirtual 52, 3), (9, .istore 4, 2), (11, .aload_n 0, 1), (12, .iload_n 1, 1), (13, .iload_n 2, 1), (14, .invokevirtual 110, 3), (17, .iload 4, 2), (19, .iconst 1, 1), (20, .iadd, 1), (21, .if_icmp .ne 46, 3), (24, .aload_n 0, 1), (25, .invokevirtual 52, 3), (28, .iload 4, 2), (30, .iconst 1, 1), (31, .iadd, 1), (32, .if_icmp .ne 35, 3), (35, .aload_n 0, 1), (36, .iload_n 1, 1), (37, .invokevirtual 113, 3), (40, .iload_n 2, 1), (41, .if_icmp .ne 26, 3), (44, .aload_n 0, 1), (45, .invokestatic 107, 3), (48, .iload_n 3, 1), (49, .iload_n 1, 1), (50, .if_icmp .lt 9, 3), (53, .iload_n 3, 1), (54, .iconst 1, 1), (55, .iadd, 1), (56, .goto 4, 3), (59, .iload_n 3, 1), (60, .if_icmp .ne 7, 3), (63, .iconst 1, 1), (64, .goto 4, 3), (67, .iconst 0, 1), (68, .ireturn, 1)]
def qa_mL_isInserted : qa_M := (yL_isInserted, cL_isInserted, 5, (some .boolean), 11, qa_iL_isInserted, 3, 1, 9, 151, [], 573, 572, 0)
def qa_iL_isTaken : List (Nat × Instr × Nat) := [(0, .aload_n 0, 1), (1, .invokestatic 107, 3), (4, .istore_n 2, 1), (5, .aload_n 0, 1), (6, .invokevirtual 52, 3), (9, .istore_n 3, 1), (10, .aload_n 0, 1), (11, .iload_n 1, 1), (12, .invokevirtual 113, 3), (15, .istore 4, 2), (17, .aload_n 0, 1), (18, .iload_n 1, 1), (19, .invokevirtual 116, 3), (22, .iload 4, 2), (24, .if_icmp .ne 36, 3), (27, .aload_n 0, 1), (28, .invokevirtual 52, 3), (31, .iload_n 3, 1), (32, .iconst 1, 1), (33, .isub, 1), (34, .if_icmp .ne 26, 3), (37, .aload_n 0, 1), (38, .invokestatic 107, 3), (41, .iload_n 2, 1), (42, .iload_n 1, 1), (43, .if_icmp .lt 9, 3), (46, .iload_n 2, 1), (47, .iconst 1, 1), (48, .isub, 1), (49, .goto 4, 3), (52, .iload_n 2, 1), (53, .if_icmp .ne 7, 3), (56, .iconst 1, 1), (57, .goto 4, 3), (60, .iconst 0, 1), (61, .ireturn, 1)]
def qa_mL_isTaken : qa_M := (yL_isTaken, cL_isTaken, 5, (some .boolean), 11, qa_iL_isTaken, 2, 1, 9, 151, [], 603, 602, 0)
def qa_iL_isGone : List (Nat × Instr × Nat) := [(0, .aload_n 0, 1), (1, .invokestatic 107, 3), (4, .iconst 1, 1), (5, .iadd, 1), (6, .aload_n 0, 1), (7, .invokevirtual 52, 3), (10, .irem, 1), (11, .istore_n 1, 1), (12, .aload_n 0, 1), (13, .iload_n 1, 1), (14, .invokevirtual 113, 3), (17, .istore_n 2, 1), (18, .aload_n 0, 1), (19, .iload_n 2, 1), (20, .invokevirtual 48, 3), (23, .istore_n 3, 1), (24, .aload_n 0, 1), (25, .iconst 1, 1), (26, .invokestatic 63, 3), (29, .istore 4, 2), (31, .aload_n 0, 1), (32, .invokevirtual 119, 3), (35, .istore 5, 2), (37, .aload_n 0, 1), (38, .invokevirtual 122, 3), (41, .istore 6, 2), (43, .aload_n 0, 1), (44, .invokevirtual 125, 3), (47, .iload_n 3, 1), (48, .if_icmp .ne 53, 3), (51, .aload_n 0, 1), (52, .invokevirtual 119, 3), (55, .iload 5, 2), (57, .iload_n 3, 1), (58, .ifCond .eq 7, 3), (61, .iconst 1, 1), (62, .goto 4, 3), (65, .iconst 0, 1), (66, .iadd, 1), (67, .if_icmp .ne 34, 3), (70, .aload_n 0, 1), (71, .invokevirtual 122, 3), (74, .iload 6, 2), (76, .iload_n 3, 1), (77, .ifCond .eq 7, 3), (80, .iconst 0, 1), (81, .goto 4, 3), (84, .iconst 1, 1), (85, .iadd, 1), (86, .if_icmp .ne 15, 3), (89, .aload_n 0, 1), (90, .invokestatic 107, 3), (93, .iload_n 1, 1), (94, .if_icmp .ne 7, 3), (97, .iconst 1, 1), (98, .goto 4, 3), (101, .iconst 0, 1), (102, .istore 7, 2), (104, .iload 7, 2), (106, .ifCond .eq 101, 3), (109, .iload_n 3, 1), (110, .ifCond .eq 74, 3), (113, .aload_n 0, 1), (114, .iconst 1, 1), (115, .invokestatic 63, 3), (118, .iload_n 2, 1), (119, .if_icmp .ne 88, 3), (122, .aload_n 0, 1), (123, .invokevirtual 129, 3), (126, .ifCond .ne 81, 3), (129, .iload 4, 2), (131, .ifCond .lt 72, 3), (134, .iload 4, 2), (136, .iload_n 2, 1), (137, .if_icmp .eq 66, 3), (140, .aload_n 0, 1), (141, .iload_n 2, 1), (142, .invokevirtual 132, 3), (145, .ifCond .ne 14, 3), (148, .aload_n 0, 1), (149, .iconst 2, 1), (150, .invokestatic 63, 3), (153, .ifCond .ge 54, 3), (156, .goto 47, 3), (159, .aload_n 0, 1), (160, .iconst 2, 1), (161, .invokestatic 63, 3), (164, .iload 4, 2), (166, .if_icmp .ne 41, 3), (169, .aload_n 0, 1), (170, .invokevirtual 135, 3), (173, .aload_n 0, 1), (174, .iload_n 2, 1), (175, .invokevirtual 132, 3), (178, .if_icmp .ne 29, 3), (181, .goto 22, 3), (184, .aload_n 0, 1), (185, .iconst 0, 1), (186, .invokestatic 63, 3), (189, .iload_n 2, 1), (190, .if_icmp .ne 17, 3), (193, .aload_n 0, 1), (194, .iconst 1, 1), (195, .invokestatic 63, 3), (198, .iload 4, 2), (200, .if_icmp .ne 7, 3), (203, .iconst 1, 1), (204, .goto 4, 3), (207, .iconst 0, 1), (208, .ireturn, 1)]
def qa_mL_isGone : qa_M := (yL_isGone, cL_isGone, 8, (some .boolean), 11, qa_iL_isGone, 1, 1, 9, 152, [], 633, 632, 0)
def qa_iL_isBurnt : List (Nat × Instr × Nat) := [(0, .aload_n 0, 1), (1, .iload_n 1, 1), (2, .invokevirtual 138, 3), (5, .istore_n 2, 1), (6, .aload_n 0, 1), (7, .invokevirtual 141, 3), (10, .istore_n 3, 1), (11, .aload_n 0, 1), (12, .iload_n 1, 1), (13, .invokevirtual 144, 3), (16, .aload_n 0, 1), (17, .iload_n 1, 1), (18, .invokevirtual 147, 3), (21, .if_icmp .ne 55, 3), (24, .aload_n 0, 1), (25, .iload_n 1, 1), (26, .invokevirtual 138, 3), (29, .iload_n 2, 1), (30, .iconst 1, 1), (31, .iadd, 1), (32, .if_icmp .ne 44, 3), (35, .aload_n 0, 1), (36, .invokevirtual 141, 3), (39, .iload_n 3, 1), (40, .if_icmp .le 36, 3), (43, .aload_n 0, 1), (44, .iload_n 1, 1), (45, .invokevirtual 48, 3), (48, .ifCond .ne 28, 3), (51, .aload_n 0, 1), (52, .iconst 3, 1), (53, .invokestatic 63, 3), (56, .iload_n 1, 1), (57, .if_icmp .eq 15, 3), (60, .aload_n 0, 1), (61, .iload_n 1, 1), (62, .invokevirtual 150, 3), (65, .aload_n 0, 1), (66, .invokevirtual 153, 3), (69, .if_icmp .ne 7, 3), (72, .iconst 1, 1), (73, .goto 4, 3), (76, .iconst 0, 1), (77, .ireturn, 1)]
def qa_mL_isBurnt : qa_M := (yL_isBurnt, cL_isBurnt, 4, (some .boolean), 11, qa_iL_isBurnt, 2, 1, 9, 152, [], 716, 715, 0)
def qa_iL_isTicked : List (Nat × Instr × Nat) := [(0, .aload_n 0, 1), (1, .invokevirtual 156, 3), (4, .istore_n 2, 1), (5, .aload_n 0, 1), (6, .invokevirtual 159, 3), (9, .istore_n 3, 1), (10, .aload_n 0, 1), (11, .iload_n 1, 1), (12, .invokevirtual 162, 3), (15, .ifCond .lt 35, 3), (18, .aload_n 0, 1), (19, .invokevirtual 156, 3), (22, .iload_n 2, 1), (23, .iload_n 1, 1), (24, .iadd, 1), (25, .if_icmp .ne 25, 3), (28, .aload_n 0, 1), (29, .invokevirtual 159, 3), (32, .iload_n 3, 1), (33, .if_icmp .lt 17, 3), (36, .aload_n 0, 1), (37, .invokevirtual 159, 3), (40, .iload_n 3, 1), (41, .iload_n 1, 1), (42, .iadd, 1), (43, .if_icmp .gt 7, 3), (46, .iconst 1, 1), (47, .goto 4, 3), (50, .iconst 0, 1), (51, .ireturn, 1)]
def qa_mL_isTicked : qa_M := (yL_isTicked, cL_isTicked, 4, (some .boolean), 11, qa_iL_isTicked, 2, 1, 8, 177, [], 770, 769, 0)
def qa_iL_isAwaited : List (Nat × Instr × Nat) := [(0, .aload_n 0, 1), (1, .iconst 0, 1), (2, .invokestatic 63, 3), (5, .istore_n 1, 1), (6, .aload_n 0, 1), (7, .invokevirtual 165, 3), (10, .istore_n 2, 1), (11, .aload_n 0, 1), (12, .invokevirtual 168, 3), (15, .iload_n 2, 1), (16, .if_icmp .ne 17, 3), (19, .iload_n 2, 1), (20, .ifCond .le 13, 3), (23, .iload_n 2, 1), (24, .bipush 41, 2), (26, .if_icmp .ge 7, 3), (29, .iconst 1, 1), (30, .goto 4, 3), (33, .iconst 0, 1), (34, .istore_n 3, 1), (35, .iload_n 2, 1), (36, .iconst 1, 1), (37, .if_icmp .le 40, 3), (40, .iload_n 3, 1), (41, .ifCond .eq 34, 3), (44, .aload_n 0, 1), (45, .iload_n 2, 1), (46, .iconst 1, 1), (47, .isub, 1), (48, .invokevirtual 162, 3), (51, .ifCond .ne 24, 3), (54, .aload_n 0, 1), (55, .iconst 0, 1), (56, .invokestatic 63, 3), (59, .iload_n 1, 1), (60, .if_icmp .ne 15, 3), (63, .aload_n 0, 1), (64, .invokevirtual 168, 3), (67, .iconst 1, 1), (68, .if_icmp .ne 7, 3), (71, .iconst 1, 1), (72, .goto 4, 3), (75, .iconst 0, 1), (76, .istore_n 3, 1), (77, .iload_n 3, 1), (78, .ifCond .eq 40, 3), (81, .aload_n 0, 1), (82, .iconst 1, 1), (83, .invokevirtual 162, 3), (86, .iconst 1, 1), (87, .if_icmp .ne 31, 3), (90, .aload_n 0, 1), (91, .iconst 0, 1), (92, .invokestatic 63, 3), (95, .ifCond .ge 23, 3), (98, .aload_n 0, 1), (99, .iconst 1, 1), (100, .invokestatic 63, 3), (103, .iload_n 1, 1), (104, .if_icmp .ne 14, 3), (107, .aload_n 0, 1), (108, .invokevirtual 129, 3), (111, .ifCond .ne 7, 3), (114, .iconst 1, 1), (115, .goto 4, 3), (118, .iconst 0, 1), (119, .ireturn, 1)]
def qa_mL_isAwaited : qa_M := (yL_isAwaited, cL_isAwaited, 4, (some .boolean), 11, qa_iL_isAwaited, 1, 1, 9, 177, [], 816, 815, 0)
def qa_iL_isMemorySo : List (Nat × Instr × Nat) := [(0, .iconst 0, 1), (1, .istore_n 1, 1), (2, .iconst 0, 1), (3, .istore_n 2, 1), (4, .iconst 0, 1), (5, .istore_n 3, 1), (6, .iconst 0, 1), (7, .istore 4, 2), (9, .iconst 1, 1), (10, .istore 5, 2), (12, .iconst 0, 1), (13, .istore 6, 2), (15, .iload 6, 2), (17, .aload_n 0, 1), (18, .invokevirtual 35, 3), (21, .if_icmp .ge 231, 3), (24, .aload_n 0, 1), (25, .iload 6, 2), (27, .invokevirtual 48, 3), (30, .istore 7, 2), (32, .iload_n 1, 1), (33, .iload 7, 2), (35, .ifCond .ne 13, 3), (38, .aload_n 0, 1), (39, .iconst 3, 1), (40, .invokestatic 63, 3), (43, .iload 6, 2), (45, .if_icmp .ne 12, 3), (48, .aload_n 0, 1), (49, .iload 6, 2), (51, .invokevirtual 147, 3), (54, .goto 4, 3), (57, .iconst 0, 1), (58, .iadd, 1), (59, .istore_n 1, 1), (60, .iload_n 2, 1), (61, .iload 7, 2), (63, .ifCond .ne 13, 3), (66, .aload_n 0, 1), (67, .iconst 3, 1), (68, .invokestatic 63, 3), (71, .iload 6, 2), (73, .if_icmp .ne 7, 3), (76, .iconst 1, 1), (77, .goto 4, 3), (80, .iconst 0, 1), (81, .iadd, 1), (82, .istore_n 2, 1), (83, .iload_n 3, 1), (84, .aload_n 0, 1), (85, .iload 6, 2), (87, .invokevirtual 138, 3), (90, .iadd, 1), (91, .istore_n 3, 1), (92, .aload_n 0, 1), (93, .iconst 1, 1), (94, .invokestatic 63, 3), (97, .iload 6, 2), (99, .if_icmp .eq 13, 3), (102, .aload_n 0, 1), (103, .iconst 2, 1), (104, .invokestatic 63, 3), (107, .iload 6, 2), (109, .if_icmp .ne 7, 3), (112, .iconst 1, 1), (113, .goto 4, 3), (116, .iconst 0, 1), (117, .istore 8, 2), (119, .iload 5, 2), (121, .ifCond .eq 95, 3), (124, .aload_n 0, 1), (125, .iload 6, 2), (127, .invokevirtual 77, 3), (130, .iload 8, 2), (132, .if_icmp .ne 84, 3), (135, .iload 8, 2), (137, .ifCond .eq 8, 3), (140, .iload 7, 2), (142, .ifCond .eq 74, 3), (145, .aload_n 0, 1), (146, .iload 6, 2), (148, .invokevirtual 150, 3), (151, .ifCond .eq 18, 3), (154, .iload 7, 2), (156, .ifCond .ne 60, 3), (159, .aload_n 0, 1), (160, .iconst 3, 1), (161, .invokestatic 63, 3), (164, .iload 6, 2), (166, .if_icmp .eq 50, 3), (169, .aload_n 0, 1), (170, .iload 6, 2), (172, .invokevirtual 171, 3), (175, .ifCond .le 41, 3), (178, .aload_n 0, 1), (179, .iload 6, 2), (181, .invokevirtual 171, 3), (184, .bipush 21, 2), (186, .if_icmp .ge 30, 3), (189, .aload_n 0, 1), (190, .iload 6, 2), (192, .invokevirtual 174, 3), (195, .ifCond .lt 21, 3), (198, .iload 7, 2), (200, .ifCond .eq 12, 3), (203, .aload_n 0, 1), (204, .iload 6, 2), (206, .invokevirtual 174, 3), (209, .ifCond .ne 7, 3), (212, .iconst 1, 1), (213, .goto 4, 3), (216, .iconst 0, 1), (217, .istore 5, 2), (219, .iload 4, 2), (221, .iload 7, 2), (223, .ifCond .eq 19, 3), (226, .iload 8, 2), (228, .ifCond .ne 14, 3), (231, .iconst 1, 1), (232, .aload_n 0, 1), (233, .iload 6, 2), (235, .invokevirtual 177, 3), (238, .ishl, 1), (239, .goto 4, 3), (242, .iconst 0, 1), (243, .iadd, 1), (244, .istore 4, 2), (246, .iinc 6 1, 3), (249, .goto (-234), 3), (252, .iload 5, 2), (254, .ifCond .eq 70, 3), (257, .iload 4, 2), (259, .iload 4, 2), (261, .iconst 1, 1), (262, .iadd, 1), (263, .iand, 1), (264, .ifCond .ne 60, 3), (267, .aload_n 0, 1), (268, .invokevirtual 180, 3), (271, .iload_n 1, 1), (272, .if_icmp .ne 52, 3), (275, .aload_n 0, 1), (276, .invokevirtual 183, 3), (279, .iload_n 1, 1), (280, .if_icmp .ne 44, 3), (283, .iload_n 1, 1), (284, .aload_n 0, 1), (285, .invokevirtual 186, 3), (288, .if_icmp .gt 36, 3), (291, .aload_n 0, 1), (292, .invokevirtual 141, 3), (295, .iload_n 3, 1), (296, .if_icmp .ne 28, 3), (299, .aload_n 0, 1), (300, .invokevirtual 189, 3), (303, .iload_n 3, 1), (304, .isub, 1), (305, .iload_n 2, 1), (306, .if_icmp .ne 18, 3), (309, .aload_n 0, 1), (310, .invokevirtual 192, 3), (313, .aload_n 0, 1), (314, .invokevirtual 189, 3), (317, .if_icmp .gt 7, 3), (320, .iconst 1, 1), (321, .goto 4, 3), (324, .iconst 0, 1), (325, .istore 5, 2), (327, .iload 5, 2), (329, .ifCond .eq 111, 3), (332, .aload_n 0, 1), (333, .invokevirtual 135, 3), (336, .ifCond .ne 7, 3), (339, .iconst 1, 1), (340, .goto 4, 3), (343, .iconst 0, 1), (344, .aload_n 0, 1), (345, .iconst 2, 1), (346, .invokestatic 63, 3), (349, .ifCond .ge 7, 3), (352, .iconst 1, 1), (353, .goto 4, 3), (356, .iconst 0, 1), (357, .if_icmp .ne 83, 3), (360, .aload_n 0, 1), (361, .invokevirtual 195, 3), (364, .ifCond .ne 7, 3), (367, .iconst 1, 1), (368, .goto 4, 3), (371, .iconst 0, 1), (372, .aload_n 0, 1), (373, .iconst 3, 1), (374, .invokestatic 63, 3), (377, .ifCond .ge 7, 3), (380, .iconst 1, 1), (381, .goto 4, 3), (384, .iconst 0, 1), (385, .if_icmp .ne 55, 3), (388, .aload_n 0, 1), (389, .iconst 0, 1), (390, .invokestatic 63, 3), (393, .ifCond .lt 23, 3), (396, .aload_n 0, 1), (397, .aload_n 0, 1), (398, .iconst 0, 1), (399, .invokestatic 63, 3), (402, .invokevirtual 48, 3), (405, .ifCond .ne 35, 3), (408, .aload_n 0, 1), (409, .iconst 3, 1), (410, .invokestatic 63, 3), (413, .ifCond .lt 27, 3), (416, .aload_n 0, 1), (417, .iconst 3, 1), (418, .invokestatic 63, 3), (421, .ifCond .lt 15, 3), (424, .aload_n 0, 1), (425, .aload_n 0, 1), (426, .iconst 3, 1), (427, .invokestatic 63, 3), (430, .invokevirtual 48, 3), (433, .ifCond .ne 7, 3), (436, .iconst 1, 1), (437, .goto 4, 3), (440, .iconst 0, 1), (441, .ireturn, 1)]
def qa_mL_isMemorySo : qa_M := (yL_isMemorySo, cL_isMemorySo, 9, (some .boolean), 11, qa_iL_isMemorySo, 1, 1, 9, 152, [], 837, 836, 0)
def qa_iL_isAskedSo : List (Nat × Instr × Nat) := [(0, .iconst 0, 1), (1, .istore_n 1, 1), (2, .aload_n 0, 1), (3, .invokevirtual 28, 3), (6, .ifCond .eq 11, 3), (9, .aload_n 0, 1), (10, .iconst 3, 1), (11, .invokestatic 63, 3), (14, .ifCond .lt 7, 3), (17, .iconst 1, 1), (18, .goto 4, 3), (21, .iconst 0, 1), (22, .istore_n 2, 1), (23, .iconst 0, 1), (24, .istore_n 3, 1), (25, .iload_n 3, 1), (26, .aload_n 0, 1), (27, .invokevirtual 28, 3), (30, .if_icmp .ge 71, 3), (33, .aload_n 0, 1), (34, .iload_n 3, 1), (35, .invokevirtual 31, 3), (38, .istore 4, 2), (40, .iload_n 2, 1), (41, .ifCond .eq 45, 3), (44, .iload_n 1, 1), (45, .iload 4, 2), (47, .ishr, 1), (48, .iconst 1, 1), (49, .iand, 1), (50, .ifCond .ne 36, 3), (53, .aload_n 0, 1), (54, .iload 4, 2), (56, .invokevirtual 48, 3), (59, .ifCond .ne 27, 3), (62, .aload_n 0, 1), (63, .iconst 3, 1), (64, .invokestatic 63, 3), (67, .iload 4, 2), (69, .if_icmp .eq 17, 3), (72, .aload_n 0, 1), (73, .iconst 0, 1), (74, .invokestatic 63, 3), (77, .iload 4, 2), (79, .if_icmp .eq 7, 3), (82, .iconst 1, 1), (83, .goto 4, 3), (86, .iconst 0, 1), (87, .istore_n 2, 1), (88, .iload_n 1, 1), (89, .iconst 1, 1), (90, .iload 4, 2), (92, .ishl, 1), (93, .ior, 1), (94, .istore_n 1, 1), (95, .iinc 3 1, 3), (98, .goto (-73), 3), (101, .iload_n 2, 1), (102, .ireturn, 1)]
def qa_mL_isAskedSo : qa_M := (yL_isAskedSo, cL_isAskedSo, 5, (some .boolean), 11, qa_iL_isAskedSo, 1, 1, 9, 152, [], 889, 888, 0)
def qa_iL_isRoundSo : List (Nat × Instr × Nat) := [(0, .aload_n 0, 1), (1, .invokevirtual 52, 3), (4, .istore_n 2, 1), (5, .iload_n 2, 1), (6, .ifCond .ne 5, 3), (9, .iconst 1, 1), (10, .ireturn, 1), (11, .aload_n 0, 1), (12, .iload_n 1, 1), (13, .iload_n 2, 1), (14, .invokestatic 38, 3), (17, .invokevirtual 113, 3), (20, .istore_n 3, 1), (21, .aload_n 0, 1), (22, .iload_n 3, 1), (23, .invokevirtual 198, 3), (26, .istore 4, 2), (28, .iload 4, 2), (30, .ifCond .le 30, 3), (33, .iload 4, 2), (35, .iload_n 2, 1), (36, .if_icmp .gt 24, 3), (39, .aload_n 0, 1), (40, .aload_n 0, 1), (41, .invokestatic 107, 3), (44, .iload 4, 2), (46, .iadd, 1), (47, .iload_n 2, 1), (48, .irem, 1), (49, .invokevirtual 113, 3), (52, .iload_n 3, 1), (53, .if_icmp .ne 7, 3), (56, .iconst 1, 1), (57, .goto 4, 3), (60, .iconst 0, 1), (61, .istore 5, 2), (63, .iconst 1, 1), (64, .istore 6, 2), (66, .iload 6, 2), (68, .iload 4, 2), (70, .if_icmp .ge 38, 3), (73, .iload 5, 2), (75, .ifCond .eq 24, 3), (78, .aload_n 0, 1), (79, .aload_n 0, 1), (80, .invokestatic 107, 3), (83, .iload 6, 2), (85, .iadd, 1), (86, .iload_n 2, 1), (87, .irem, 1), (88, .invokevirtual 113, 3), (91, .iload_n 3, 1), (92, .if_icmp .eq 7, 3), (95, .iconst 1, 1), (96, .goto 4, 3), (99, .iconst 0, 1), (100, .istore 5, 2), (102, .iinc 6 1, 3), (105, .goto (-39), 3), (108, .aload_n 0, 1), (109, .invokevirtual 119, 3), (112, .aload_n 0, 1), (113, .invokevirtual 122, 3), (116, .iadd, 1), (117, .istore 6, 2), (119, .iload 5, 2), (121, .ifCond .eq 62, 3), (124, .iload 6, 2), (126, .ifCond .ne 15, 3), (129, .aload_n 0, 1), (130, .invokevirtual 201, 3), (133, .dconst 0, 1), (134, .dcmp .l, 1), (135, .ifCond .ne 48, 3), (138, .goto 41, 3), (141, .aload_n 0, 1), (142, .invokevirtual 201, 3), (145, .iload 6, 2), (147, .i2d, 1), (148, .dmul, 1), (149, .aload_n 0, 1), (150, .invokevirtual 119, 3), (153, .iconst 1, 1), (154, .isub, 1), (155, .i2d, 1), (156, .dcmp .l, 1), (157, .ifCond .le 26, 3), (160, .aload_n 0, 1), (161, .invokevirtual 201, 3), (164, .iload 6, 2), (166, .i2d, 1), (167, .dmul, 1), (168, .aload_n 0, 1), (169, .invokevirtual 119, 3), (172, .iconst 1, 1), (173, .iadd, 1), (174, .i2d, 1), (175, .dcmp .g, 1), (176, .ifCond .ge 7, 3), (179, .iconst 1, 1), (180, .goto 4, 3), (183, .iconst 0, 1), (184, .istore 5, 2), (186, .aload_n 0, 1), (187, .iconst 0, 1), (188, .invokestatic 63, 3), (191, .ifCond .ge 84, 3), (194, .aload_n 0, 1), (195, .invokevirtual 205, 3), (198, .istore 7, 2), (200, .iconst 0, 1), (201, .istore 8, 2), (203, .iload 8, 2), (205, .iconst 3, 1), (206, .if_icmp .ge 69, 3), (209, .aload_n 0, 1), (210, .iload 8, 2), (212, .invokevirtual 208, 3), (215, .istore 9, 2), (217, .iload 5, 2), (219, .ifCond .eq 47, 3), (222, .iload 9, 2), (224, .ifCond .lt 42, 3), (227, .iload 9, 2), (229, .iload_n 2, 1), (230, .if_icmp .gt 36, 3), (233, .iload 9, 2), (235, .aload_n 0, 1), (236, .iload 7, 2), (238, .invokevirtual 208, 3), (241, .if_icmp .gt 21, 3), (244, .iload 9, 2), (246, .aload_n 0, 1), (247, .iload 7, 2), (249, .invokevirtual 208, 3), (252, .if_icmp .ne 14, 3), (255, .iload 8, 2), (257, .iload 7, 2), (259, .if_icmp .lt 7, 3), (262, .iconst 1, 1), (263, .goto 4, 3), (266, .iconst 0, 1), (267, .istore 5, 2), (269, .iinc 8 1, 3), (272, .goto (-69), 3), (275, .iload 5, 2), (277, .ireturn, 1)]
def qa_mL_isRoundSo : qa_M := (yL_isRoundSo, cL_isRoundSo, 10, (some .boolean), 11, qa_iL_isRoundSo, 2, 1, 9, 181, [], 892, 891, 0)
def qa_iL_law : List (Nat × Instr × Nat) := [(0, .new 9, 3), (3, .dup, 1), (4, .invokespecial 211, 3), (7, .astore_n 1, 1), (8, .iconst 0, 1), (9, .istore_n 2, 1), (10, .iload_n 2, 1), (11, .bipush 50, 2), (13, .if_icmp .ge 68, 3), (16, .aload_n 0, 1), (17, .iload_n 2, 1), (18, .invokestatic 212, 3), (21, .istore_n 3, 1), (22, .aload_n 0, 1), (23, .iload_n 2, 1), (24, .bipush 14, 2), (26, .iadd, 1), (27, .invokestatic 212, 3), (30, .istore 4, 2), (32, .aload_n 1, 1), (33, .iload_n 3, 1), (34, .iload 4, 2), (36, .invokestatic 216, 3), (39, .ifCond .eq 34, 3), (42, .aload_n 1, 1), (43, .invokestatic 219, 3), (46, .ifCond .eq 27, 3), (49, .aload_n 1, 1), (50, .invokestatic 222, 3), (53, .ifCond .eq 20, 3), (56, .iload_n 2, 1), (57, .bipush 8, 2), (59, .irem, 1), (60, .iconst 3, 1), (61, .if_icmp .ne 14, 3), (64, .aload_n 1, 1), (65, .iload 4, 2), (67, .invokestatic 225, 3), (70, .ifCond .ne 5, 3), (73, .iconst 0, 1), (74, .ireturn, 1), (75, .iinc 2 1, 3), (78, .goto (-68), 3), (81, .iconst 1, 1), (82, .ireturn, 1)]
def qa_mL_law : qa_M := (yL_law, cL_law, 5, (some .boolean), 11, qa_iL_law, 1, 1, 11, 225, [], 0, 0, 0)
def qa_ca0 : List (Nat × (qa_M × Bool × Nat)) := []
def qa_ca1 : List (Nat × (qa_M × Bool × Nat)) := [(11, (qa_mX6_init, true, 36)), (20, (qa_mX3_init, true, 83)), (27, (qa_mX7_init, true, 103)), (34, (qa_mX2_init, true, 133)), (41, (qa_mX4_init, true, 165)), (48, (qa_mX0_init, true, 197)), (60, (qa_mX6_copyFrom, false, 437)), (64, (qa_mX3_copyFrom, false, 444)), (67, (qa_mX7_copyFrom, false, 449)), (70, (qa_mX2_copyFrom, false, 453)), (73, (qa_mX4_copyFrom, false, 458)), (76, (qa_mX0_copyFrom, false, 462)), (86, (qa_mX6_isReady, false, 498)), (93, (qa_mX2_queuePlace, false, 670)), (97, (qa_mX7_bears, false, 523)), (113, (qa_mX1_passTick, false, 787)), (117, (qa_mX1_mayGoOn, false, 811)), (120, (qa_mX1_proceed, false, 812)), (123, (qa_mX1_beginLoading, false, 813)), (136, (qa_mX1_mayBurn, false, 519)), (139, (qa_mX1_putOnFire, false, 527)), (146, (qa_mX3_advance, false, 654)), (152, (qa_mX1_bringOn, false, 658)), (158, (qa_mX2_unqueue, false, 484)), (164, (qa_mX9_at, true, 481)), (168, (qa_mX7_bring, false, 662)), (171, (qa_mX6_use, false, 666)), (180, (qa_mX6_coolEmbers, false, 791)), (183, (qa_mX7_fadeOnce, false, 795)), (186, (qa_mX7_countShown, false, 799)), (189, (qa_mX1_loadOnce, false, 803)), (192, (qa_mX1_paceIsReached, false, 807)), (207, (qa_mX6_setReady, false, 531)), (211, (qa_mX1_nextToLoad, false, 477)), (220, (qa_mX1_burnDownTo, false, 502)), (232, (qa_mX6_ticksToLoad, false, 535)), (239, (qa_mX9_set, true, 514)), (249, (qa_mX1_nextInGoodTime, false, 490)), (255, (qa_mX3_slideAhead, false, 494)), (267, (qa_mX1_lineUp, false, 506)), (273, (qa_mX1_weighByNextUse, false, 510)), (276, (qa_mX1_weighByUseOrCost, false, 515))]
def qa_ca2 : List (Nat × (qa_M × Bool × Nat)) := [(25, (qa_mX9_copyRow, true, 457)), (32, (qa_mX9_at, true, 488)), (36, (qa_mX9_set, true, 489))]
def qa_ca3 : List (Nat × (qa_M × Bool × Nat)) := [(22, (qa_mX9_copyRow, true, 448)), (26, (qa_mX9_at, true, 590)), (30, (qa_mX9_set, true, 591)), (34, (qa_mX3_slideAhead, false, 901))]
def qa_ca4 : List (Nat × (qa_M × Bool × Nat)) := []
def qa_ca5 : List (Nat × (qa_M × Bool × Nat)) := [(17, (qa_mX1_init, true, 276)), (25, (qa_mX1_copyFrom, false, 433))]
def qa_ca6 : List (Nat × (qa_M × Bool × Nat)) := [(38, (qa_mX9_copyRow, true, 441)), (45, (qa_mX9_set, true, 470)), (49, (qa_mX9_at, true, 539))]
def qa_ca7 : List (Nat × (qa_M × Bool × Nat)) := []
def qa_ca8 : List (Nat × (qa_M × Bool × Nat)) := []
def qa_ca9 : List (Nat × (qa_M × Bool × Nat)) := [(9, (qa_mX1_init, true, 30)), (21, (qa_mX5_init, false, 270)), (36, (qa_mX8_init, true, 289)), (41, (qa_mX9_isWithin, false, 342)), (45, (qa_mX9_needArgument, false, 345)), (59, (qa_mX9_needState, false, 411)), (62, (qa_mX5_push, false, 429)), (66, (qa_mX6_add, false, 466)), (70, (qa_mX1_beginLoading, false, 473)), (80, (qa_mX6_has, false, 544)), (84, (qa_mX9_needIndex, false, 548)), (87, (qa_mX3_put, false, 586)), (91, (qa_mX3_has, false, 596)), (92, (qa_mX3_remove, false, 608)), (96, (qa_mX1_mayGoOn, false, 646)), (100, (qa_mX1_proceed, false, 650)), (103, (qa_mX1_mayAsk, false, 701)), (110, (qa_mX2_queue, false, 705)), (119, (qa_mX1_mayBurn, false, 729)), (122, (qa_mX1_putOnFire, false, 730)), (129, (qa_mX9_at, false, 600)), (133, (qa_mX1_passTicks, false, 783)), (145, (qa_mX1_burnDownTo, false, 767)), (172, (qa_mX1_copyFrom, false, 825)), (198, (qa_mX6_ticksToLoad, false, 842)), (205, (qa_mX6_isReady, false, 566)), (212, (qa_mX7_bears, false, 713)), (223, (qa_mX3_placesUntil, false, 897)), (226, (qa_mX1_placeInLine, false, 855)), (257, (qa_mX1_sumOfCosts, false, 863)), (263, (qa_mX9_waitOnTrial, false, 821)), (266, (qa_mX1_sumOfWait, false, 831)), (269, (qa_mX1_burningsToLoad, false, 847)), (272, (qa_mX9_missesOnTrial, false, 914)), (302, (qa_mX0_shareOfHits, false, 906)), (339, (qa_mX1_passTick, false, 826))]
def qa_ca10 : List (Nat × (qa_M × Bool × Nat)) := []
def qa_ca11 : List (Nat × (qa_M × Bool × Nat)) := [(8, (qa_mX9_awaited, false, 615)), (14, (qa_mX9_shown, false, 619)), (17, (qa_mX9_fading, false, 623)), (20, (qa_mX9_loading, false, 627)), (25, (qa_mX9_showPlace, false, 578)), (28, (qa_mX9_asked, false, 689)), (31, (qa_mX9_askedAt, false, 693)), (35, (qa_mX9_slides, false, 330)), (38, (qa_mL_low, false, 334)), (44, (qa_mX9_addSlide, false, 338)), (48, (qa_mX9_isLoaded, false, 540)), (52, (qa_mX9_places, false, 567)), (55, (qa_mL_isInserted, false, 571)), (59, (qa_mL_isTaken, false, 601)), (63, (qa_mL_told, false, 612)), (67, (qa_mL_isGone, false, 631)), (71, (qa_mL_isAsked, false, 686)), (74, (qa_mX9_ask, false, 697)), (77, (qa_mX9_isOnShow, false, 709)), (80, (qa_mL_isBurnt, false, 714)), (83, (qa_mX9_changeOrder, false, 743)), (86, (qa_mX9_order, false, 747)), (89, (qa_mX9_changeAhead, false, 751)), (92, (qa_mX9_changeGlow, false, 755)), (95, (qa_mX9_changePace, false, 759)), (98, (qa_mX9_changeMemory, false, 763)), (101, (qa_mL_isTicked, false, 768)), (104, (qa_mL_isAwaited, false, 814)), (107, (qa_mL_showPlace, false, 574)), (110, (qa_mX9_insert, false, 582)), (113, (qa_mX9_slideAt, false, 592)), (116, (qa_mX9_takeOut, false, 604)), (119, (qa_mX9_hits, false, 634)), (122, (qa_mX9_misses, false, 638)), (125, (qa_mX9_goOn, false, 642)), (129, (qa_mX9_shownFor, false, 674)), (132, (qa_mX9_fadeOf, false, 678)), (135, (qa_mX9_fadeLeft, false, 682)), (138, (qa_mX9_burntTimes, false, 717)), (141, (qa_mX9_burnings, false, 721)), (144, (qa_mX9_burn, false, 725)), (147, (qa_mX9_costOf, false, 731)), (150, (qa_mX9_glowOf, false, 735)), (153, (qa_mX9_glow, false, 739)), (156, (qa_mX9_time, false, 771)), (159, (qa_mX9_waited, false, 775)), (162, (qa_mX9_tick, false, 779)), (165, (qa_mX9_ticksToShowByTicks, false, 817)), (168, (qa_mX9_ticksToShowBySums, false, 827)), (171, (qa_mX9_loadOf, false, 838)), (174, (qa_mX9_burningsFor, false, 843)), (177, (qa_mX9_burnPlace, false, 851)), (180, (qa_mX9_takenBySlides, false, 859)), (183, (qa_mX9_takenByAccount, false, 867)), (186, (qa_mX9_memory, false, 871)), (189, (qa_mX9_loads, false, 875)), (192, (qa_mX9_warmLoads, false, 879)), (195, (qa_mX9_loadLeft, false, 883)), (198, (qa_mX9_nextUse, false, 893)), (201, (qa_mX9_hitShare, false, 902)), (205, (qa_mX9_bestOrder, false, 910)), (208, (qa_mX9_missesWith, false, 918)), (211, (qa_mX9_init, false, 22)), (212, (qa_mL_cell, false, 324)), (216, (qa_mL_does, false, 327)), (219, (qa_mL_isMemorySo, false, 835)), (222, (qa_mL_isAskedSo, false, 887)), (225, (qa_mL_isRoundSo, false, 890))]
def qa_ca : Nat → List (Nat × (qa_M × Bool × Nat)) := fun k => match k with
  | 0 => qa_ca0
  | 1 => qa_ca1
  | 2 => qa_ca2
  | 3 => qa_ca3
  | 4 => qa_ca4
  | 5 => qa_ca5
  | 6 => qa_ca6
  | 7 => qa_ca7
  | 8 => qa_ca8
  | 9 => qa_ca9
  | 10 => qa_ca10
  | _ => qa_ca11
def qa_oi : List (Nat × Nat × Nat) := [(0, 1, 200), (1, 3, 33), (2, 3, 136), (3, 3, 86), (4, 3, 168), (5, 3, 273), (6, 3, 39), (7, 3, 106), (8, 3, 292), (9, 1, 25)]
def qa_an : List (Nat × Nat × Nat) := [(5, 9, 274), (9, 7, 28)]
/-- an exception: its number is its place; the pool numbers of its class and of its constructor in class 9 -/
def qa_xl : List (Nat × String × Nat × Nat) := [(342, "java/lang/IllegalArgumentException", 342, 344), (345, "java/lang/IndexOutOfBoundsException", 345, 347), (348, "java/lang/IllegalStateException", 348, 350)]
/-- a word stands at its place of lw_tbl, and is a good one -/
def qa_wk (w : Cond) (i : Nat) : Bool := decide (lw_tbl[i]? = some w) && goodWord w
def qa_fk (k : Nat) (e : Nat × Nat × Nat × Nat) : Bool := match vwCl[e.2.1]? with
  | some q => decide (e.2.2.1 < q.2.2) && qa_wk (.fieldLink (qa_cn k) e.1 (q.2.1 e.2.2.1).1 (q.2.1 e.2.2.1).2.1 (q.2.1 e.2.2.1).2.2.1) e.2.2.2
  | none => false
def qa_nk (k : Nat) (e : Nat × Nat × Nat) : Bool := match vwCl[e.2.1]? with
  | some q => qa_wk (.classLink (qa_cn k) e.1 q.1) e.2.2
  | none => false
def qa_kk (k : Nat) (e : Nat × Value × Nat) : Bool := match e.2.1 with
  | .long v => qa_wk (.constantLong (qa_cn k) e.1 v) e.2.2
  | .double v => qa_wk (.constantDouble (qa_cn k) e.1 v) e.2.2
  | _ => false
def qa_kzk (k : Nat) (e : Nat × Int32 × Nat) : Bool := qa_wk (.constant (qa_cn k) e.1 e.2.1) e.2.2
def qa_ck (k : Nat) (e : Nat × qa_M × Bool × Nat) : Bool := if e.2.2.1 then decide (lw_tbl[e.2.2.2]? = some (.methodLinkNest (qa_cn k) e.1 (qa_nm e.2.1) RX9)) else qa_wk (.methodLink (qa_cn k) e.1 (qa_nm e.2.1)) e.2.2.2
def qa_mk (M : qa_M) : Bool := decide ((qa_nm M).cls = qa_cn (qa_cl M)) && decide ((qa_nm M).cls ≠ "java/lang/invoke/MethodHandle" ∧ (qa_nm M).cls ≠ "java/lang/invoke/VarHandle") && plainName (qa_nm M).cls && decide ((parseMethodDescriptor (qa_nm M).desc).map (fun d => d.parameters.length) = some (if qa_sk M = 1 then qa_na M else qa_na M - 1)) && decide (qa_sk M = 1 ∨ 0 < qa_na M) && decide (qa_sk M = 0 ↔ (qa_nm M).name = "<init>") && decide (qa_sk M < 3)
  && qa_wk (if (qa_hh M).isEmpty then .code (qa_nm M) (qa_by M) (qa_ml M) (qa_rt M) else .codeWith (qa_nm M) (qa_by M) (qa_ml M) (qa_rt M) (qa_hh M)) (qa_wp M).1
  && qa_wk (if qa_sk M = 1 then .static (qa_nm M) else .instanceMethod (qa_nm M)) (qa_wp M).2.1
  && (decide (qa_sk M ≠ 2) || qa_wk (.selects (qa_cn (qa_cl M)) (qa_nm M) (qa_nm M)) (qa_wp M).2.2)
  && decide (qa_sk M = 0 → qa_rt M = none)
theorem qa_fl_k0 : (qa_fl 0).all (qa_fk 0) = true := by decide +kernel
theorem qa_fl_k1 : (qa_fl 1).all (qa_fk 1) = true := by decide +kernel
theorem qa_fl_k2 : (qa_fl 2).all (qa_fk 2) = true := by decide +kernel
theorem qa_fl_k3 : (qa_fl 3).all (qa_fk 3) = true := by decide +kernel
theorem qa_fl_k4 : (qa_fl 4).all (qa_fk 4) = true := by decide +kernel
theorem qa_fl_k5 : (qa_fl 5).all (qa_fk 5) = true := by decide +kernel
theorem qa_fl_k6 : (qa_fl 6).all (qa_fk 6) = true := by decide +kernel
theorem qa_fl_k7 : (qa_fl 7).all (qa_fk 7) = true := by decide +kernel
theorem qa_fl_k8 : (qa_fl 8).all (qa_fk 8) = true := by decide +kernel
theorem qa_fl_k9 : (qa_fl 9).all (qa_fk 9) = true := by decide +kernel
theorem qa_fl_k10 : (qa_fl 10).all (qa_fk 10) = true := by decide +kernel
theorem qa_fl_k11 : (qa_fl 11).all (qa_fk 11) = true := by decide +kernel
theorem qa_nw_k0 : (qa_nw 0).all (qa_nk 0) = true := by decide +kernel
theorem qa_nw_k1 : (qa_nw 1).all (qa_nk 1) = true := by decide +kernel
theorem qa_nw_k2 : (qa_nw 2).all (qa_nk 2) = true := by decide +kernel
theorem qa_nw_k3 : (qa_nw 3).all (qa_nk 3) = true := by decide +kernel
theorem qa_nw_k4 : (qa_nw 4).all (qa_nk 4) = true := by decide +kernel
theorem qa_nw_k5 : (qa_nw 5).all (qa_nk 5) = true := by decide +kernel
theorem qa_nw_k6 : (qa_nw 6).all (qa_nk 6) = true := by decide +kernel
theorem qa_nw_k7 : (qa_nw 7).all (qa_nk 7) = true := by decide +kernel
theorem qa_nw_k8 : (qa_nw 8).all (qa_nk 8) = true := by decide +kernel
theorem qa_nw_k9 : (qa_nw 9).all (qa_nk 9) = true := by decide +kernel
theorem qa_nw_k10 : (qa_nw 10).all (qa_nk 10) = true := by decide +kernel
theorem qa_nw_k11 : (qa_nw 11).all (qa_nk 11) = true := by decide +kernel
theorem qa_kl_k0 : (qa_kl 0).all (qa_kk 0) = true := by decide +kernel
theorem qa_kl_k1 : (qa_kl 1).all (qa_kk 1) = true := by decide +kernel
theorem qa_kl_k2 : (qa_kl 2).all (qa_kk 2) = true := by decide +kernel
theorem qa_kl_k3 : (qa_kl 3).all (qa_kk 3) = true := by decide +kernel
theorem qa_kl_k4 : (qa_kl 4).all (qa_kk 4) = true := by decide +kernel
theorem qa_kl_k5 : (qa_kl 5).all (qa_kk 5) = true := by decide +kernel
theorem qa_kl_k6 : (qa_kl 6).all (qa_kk 6) = true := by decide +kernel
theorem qa_kl_k7 : (qa_kl 7).all (qa_kk 7) = true := by decide +kernel
theorem qa_kl_k8 : (qa_kl 8).all (qa_kk 8) = true := by decide +kernel
theorem qa_kl_k9 : (qa_kl 9).all (qa_kk 9) = true := by decide +kernel
theorem qa_kl_k10 : (qa_kl 10).all (qa_kk 10) = true := by decide +kernel
theorem qa_kl_k11 : (qa_kl 11).all (qa_kk 11) = true := by decide +kernel
theorem qa_kz_k0 : (qa_kz 0).all (qa_kzk 0) = true := by decide +kernel
theorem qa_kz_k1 : (qa_kz 1).all (qa_kzk 1) = true := by decide +kernel
theorem qa_kz_k2 : (qa_kz 2).all (qa_kzk 2) = true := by decide +kernel
theorem qa_kz_k3 : (qa_kz 3).all (qa_kzk 3) = true := by decide +kernel
theorem qa_kz_k4 : (qa_kz 4).all (qa_kzk 4) = true := by decide +kernel
theorem qa_kz_k5 : (qa_kz 5).all (qa_kzk 5) = true := by decide +kernel
theorem qa_kz_k6 : (qa_kz 6).all (qa_kzk 6) = true := by decide +kernel
theorem qa_kz_k7 : (qa_kz 7).all (qa_kzk 7) = true := by decide +kernel
theorem qa_kz_k8 : (qa_kz 8).all (qa_kzk 8) = true := by decide +kernel
theorem qa_kz_k9 : (qa_kz 9).all (qa_kzk 9) = true := by decide +kernel
theorem qa_kz_k10 : (qa_kz 10).all (qa_kzk 10) = true := by decide +kernel
theorem qa_kz_k11 : (qa_kz 11).all (qa_kzk 11) = true := by decide +kernel
theorem qa_ca_k0 : (qa_ca 0).all (qa_ck 0) = true := by decide +kernel
theorem qa_ca_k1 : (qa_ca 1).all (qa_ck 1) = true := by decide +kernel
theorem qa_ca_k2 : (qa_ca 2).all (qa_ck 2) = true := by decide +kernel
theorem qa_ca_k3 : (qa_ca 3).all (qa_ck 3) = true := by decide +kernel
theorem qa_ca_k4 : (qa_ca 4).all (qa_ck 4) = true := by decide +kernel
theorem qa_ca_k5 : (qa_ca 5).all (qa_ck 5) = true := by decide +kernel
theorem qa_ca_k6 : (qa_ca 6).all (qa_ck 6) = true := by decide +kernel
theorem qa_ca_k7 : (qa_ca 7).all (qa_ck 7) = true := by decide +kernel
theorem qa_ca_k8 : (qa_ca 8).all (qa_ck 8) = true := by decide +kernel
theorem qa_ca_k9 : (qa_ca 9).all (qa_ck 9) = true := by decide +kernel
theorem qa_ca_k10 : (qa_ca 10).all (qa_ck 10) = true := by decide +kernel
theorem qa_ca_k11 : (qa_ca 11).all (qa_ck 11) = true := by decide +kernel
def qa_xn (E : Nat) : String := match E with
  | 342 => "java/lang/IllegalArgumentException"
  | 345 => "java/lang/IndexOutOfBoundsException"
  | _ => "java/lang/IllegalStateException"
/-- the rows of the exception tables: number of the class in the pool, which exception, the place of its word -/
def qa_hq : List (Nat × Nat × Nat) := [(23, 348, 577)]
def qa_ht : List (Nat × Nat) := [(23, 348)]
theorem qa_hq_k : qa_hq.all (fun q => qa_wk (.classLink RL q.1 (qa_xn q.2.1)) q.2.2) = true := by decide +kernel
theorem qa_ht_k : ∀ q ∈ qa_ht, ∃ z ∈ qa_hq, z.1 = q.1 ∧ z.2.1 = q.2 := by decide +kernel
def qa_in_tbl (w : Cond) : Bool := decide (w ∈ lw_tbl) && goodWord w
theorem qa_oi_k : qa_oi.all (fun q => qa_wk (.methodLink (qa_cn q.1) q.2.1 Lib.objectInit) q.2.2) = true := by decide +kernel
theorem qa_oi_w : ([.instanceMethod Lib.objectInit, .code Lib.objectInit ⟨#[0xb1]⟩ 1 none] : List Cond).all qa_in_tbl = true := by decide +kernel
theorem qa_an_k : qa_an.all (fun q => qa_wk (.classLink (qa_cn q.1) q.2.1 RX1) q.2.2) = true := by decide +kernel
theorem qa_ar_w : ([.arrayClass .int, .arrayClass .boolean] : List Cond).all qa_in_tbl = true := by decide +kernel
theorem qa_cw_0 : (Cond.initialized RX0 :: Cond.instantiable RX0 7 :: u_ws RX0 TX0 7).all qa_in_tbl = true := by decide +kernel
theorem qa_cw_1 : (Cond.initialized RX1 :: Cond.instantiable RX1 8 :: u_ws RX1 TX1 8).all qa_in_tbl = true := by decide +kernel
theorem qa_cw_2 : (Cond.initialized RX2 :: Cond.instantiable RX2 5 :: u_ws RX2 TX2 5).all qa_in_tbl = true := by decide +kernel
theorem qa_cw_3 : (Cond.initialized RX3 :: Cond.instantiable RX3 3 :: u_ws RX3 TX3 3).all qa_in_tbl = true := by decide +kernel
theorem qa_cw_4 : (Cond.initialized RX4 :: Cond.instantiable RX4 5 :: u_ws RX4 TX4 5).all qa_in_tbl = true := by decide +kernel
theorem qa_cw_5 : (Cond.initialized RX5 :: Cond.instantiable RX5 3 :: u_ws RX5 TX5 3).all qa_in_tbl = true := by decide +kernel
theorem qa_cw_6 : (Cond.initialized RX6 :: Cond.instantiable RX6 9 :: u_ws RX6 TX6 9).all qa_in_tbl = true := by decide +kernel
theorem qa_cw_7 : (Cond.initialized RX7 :: Cond.instantiable RX7 5 :: u_ws RX7 TX7 5).all qa_in_tbl = true := by decide +kernel
theorem qa_cw_8 : (Cond.initialized RX8 :: Cond.instantiable RX8 5 :: u_ws RX8 TX8 5).all qa_in_tbl = true := by decide +kernel
theorem qa_cw_9 : (Cond.initialized RX9 :: Cond.instantiable RX9 6 :: u_ws RX9 TX9 6).all qa_in_tbl = true := by decide +kernel
theorem qa_ini_l : qa_in_tbl (Cond.initialized RL) = true ∨ True := Or.inr trivial
end
section
def qa_Ok (M : qa_M) : Prop := qa_de M = true ∧ qa_mk M = true
theorem qa_fl_k (k : Nat) (hk : k < 12) : (qa_fl k).all (qa_fk k) = true := by
  match k, hk with
  | 0, _ => exact qa_fl_k0
  | 1, _ => exact qa_fl_k1
  | 2, _ => exact qa_fl_k2
  | 3, _ => exact qa_fl_k3
  | 4, _ => exact qa_fl_k4
  | 5, _ => exact qa_fl_k5
  | 6, _ => exact qa_fl_k6
  | 7, _ => exact qa_fl_k7
  | 8, _ => exact qa_fl_k8
  | 9, _ => exact qa_fl_k9
  | 10, _ => exact qa_fl_k10
  | 11, _ => exact qa_fl_k11
  | _ + 12, h => exact absurd h (by omega)
theorem qa_nw_k (k : Nat) (hk : k < 12) : (qa_nw k).all (qa_nk k) = true := by
  match k, hk with
  | 0, _ => exact qa_nw_k0
  | 1, _ => exact qa_nw_k1
  | 2, _ => exact qa_nw_k2
  | 3, _ => exact qa_nw_k3
  | 4, _ => exact qa_nw_k4
  | 5, _ => exact qa_nw_k5
  | 6, _ => exact qa_nw_k6
  | 7, _ => exact qa_nw_k7
  | 8, _ => exact qa_nw_k8
  | 9, _ => exact qa_nw_k9
  | 10, _ => exact qa_nw_k10
  | 11, _ => exact qa_nw_k11
  | _ + 12, h => exact absurd h (by omega)
theorem qa_kl_k (k : Nat) (hk : k < 12) : (qa_kl k).all (qa_kk k) = true := by
  match k, hk with
  | 0, _ => exact qa_kl_k0
  | 1, _ => exact qa_kl_k1
  | 2, _ => exact qa_kl_k2
  | 3, _ => exact qa_kl_k3
  | 4, _ => exact qa_kl_k4
  | 5, _ => exact qa_kl_k5
  | 6, _ => exact qa_kl_k6
  | 7, _ => exact qa_kl_k7
  | 8, _ => exact qa_kl_k8
  | 9, _ => exact qa_kl_k9
  | 10, _ => exact qa_kl_k10
  | 11, _ => exact qa_kl_k11
  | _ + 12, h => exact absurd h (by omega)
theorem qa_kz_k (k : Nat) (hk : k < 12) : (qa_kz k).all (qa_kzk k) = true := by
  match k, hk with
  | 0, _ => exact qa_kz_k0
  | 1, _ => exact qa_kz_k1
  | 2, _ => exact qa_kz_k2
  | 3, _ => exact qa_kz_k3
  | 4, _ => exact qa_kz_k4
  | 5, _ => exact qa_kz_k5
  | 6, _ => exact qa_kz_k6
  | 7, _ => exact qa_kz_k7
  | 8, _ => exact qa_kz_k8
  | 9, _ => exact qa_kz_k9
  | 10, _ => exact qa_kz_k10
  | 11, _ => exact qa_kz_k11
  | _ + 12, h => exact absurd h (by omega)
theorem qa_ca_k (k : Nat) (hk : k < 12) : (qa_ca k).all (qa_ck k) = true := by
  match k, hk with
  | 0, _ => exact qa_ca_k0
  | 1, _ => exact qa_ca_k1
  | 2, _ => exact qa_ca_k2
  | 3, _ => exact qa_ca_k3
  | 4, _ => exact qa_ca_k4
  | 5, _ => exact qa_ca_k5
  | 6, _ => exact qa_ca_k6
  | 7, _ => exact qa_ca_k7
  | 8, _ => exact qa_ca_k8
  | 9, _ => exact qa_ca_k9
  | 10, _ => exact qa_ca_k10
  | 11, _ => exact qa_ca_k11
  | _ + 12, h => exact absurd h (by omega)
end
section
/-! the methods, checked one by one: each instruction, the words of its code and of its calls (written by wip/tools/mk_tab.py) -/
theorem qa_dX0_init : qa_de qa_mX0_init = true := by decide +kernel
theorem qa_oX0_init : qa_Ok qa_mX0_init := ⟨qa_dX0_init, by decide +kernel⟩
theorem qa_dX0_copyFrom : qa_de qa_mX0_copyFrom = true := by decide +kernel
theorem qa_oX0_copyFrom : qa_Ok qa_mX0_copyFrom := ⟨qa_dX0_copyFrom, by decide +kernel⟩
theorem qa_dX0_shareOfHits : qa_de qa_mX0_shareOfHits = true := by decide +kernel
theorem qa_oX0_shareOfHits : qa_Ok qa_mX0_shareOfHits := ⟨qa_dX0_shareOfHits, by decide +kernel⟩
theorem qa_dX1_init : qa_de qa_mX1_init = true := by decide +kernel
theorem qa_oX1_init : qa_Ok qa_mX1_init := ⟨qa_dX1_init, by decide +kernel⟩
theorem qa_dX1_copyFrom : qa_de qa_mX1_copyFrom = true := by decide +kernel
theorem qa_oX1_copyFrom : qa_Ok qa_mX1_copyFrom := ⟨qa_dX1_copyFrom, by decide +kernel⟩
theorem qa_dX1_mayGoOn : qa_de qa_mX1_mayGoOn = true := by decide +kernel
theorem qa_oX1_mayGoOn : qa_Ok qa_mX1_mayGoOn := ⟨qa_dX1_mayGoOn, by decide +kernel⟩
theorem qa_dX1_mayAsk : qa_de qa_mX1_mayAsk = true := by decide +kernel
theorem qa_oX1_mayAsk : qa_Ok qa_mX1_mayAsk := ⟨qa_dX1_mayAsk, by decide +kernel⟩
theorem qa_dX1_mayBurn : qa_de qa_mX1_mayBurn = true := by decide +kernel
theorem qa_oX1_mayBurn : qa_Ok qa_mX1_mayBurn := ⟨qa_dX1_mayBurn, by decide +kernel⟩
theorem qa_dX1_proceed : qa_de qa_mX1_proceed = true := by decide +kernel
theorem qa_oX1_proceed : qa_Ok qa_mX1_proceed := ⟨qa_dX1_proceed, by decide +kernel⟩
theorem qa_dX1_bringOn : qa_de qa_mX1_bringOn = true := by decide +kernel
theorem qa_oX1_bringOn : qa_Ok qa_mX1_bringOn := ⟨qa_dX1_bringOn, by decide +kernel⟩
theorem qa_dX1_passTicks : qa_de qa_mX1_passTicks = true := by decide +kernel
theorem qa_oX1_passTicks : qa_Ok qa_mX1_passTicks := ⟨qa_dX1_passTicks, by decide +kernel⟩
theorem qa_dX1_passTick : qa_de qa_mX1_passTick = true := by decide +kernel
theorem qa_oX1_passTick : qa_Ok qa_mX1_passTick := ⟨qa_dX1_passTick, by decide +kernel⟩
theorem qa_dX1_paceIsReached : qa_de qa_mX1_paceIsReached = true := by decide +kernel
theorem qa_oX1_paceIsReached : qa_Ok qa_mX1_paceIsReached := ⟨qa_dX1_paceIsReached, by decide +kernel⟩
theorem qa_dX1_loadOnce : qa_de qa_mX1_loadOnce = true := by decide +kernel
theorem qa_oX1_loadOnce : qa_Ok qa_mX1_loadOnce := ⟨qa_dX1_loadOnce, by decide +kernel⟩
theorem qa_dX1_beginLoading : qa_de qa_mX1_beginLoading = true := by decide +kernel
theorem qa_oX1_beginLoading : qa_Ok qa_mX1_beginLoading := ⟨qa_dX1_beginLoading, by decide +kernel⟩
theorem qa_dX1_nextToLoad : qa_de qa_mX1_nextToLoad = true := by decide +kernel
theorem qa_oX1_nextToLoad : qa_Ok qa_mX1_nextToLoad := ⟨qa_dX1_nextToLoad, by decide +kernel⟩
theorem qa_dX1_nextInGoodTime : qa_de qa_mX1_nextInGoodTime = true := by decide +kernel
theorem qa_oX1_nextInGoodTime : qa_Ok qa_mX1_nextInGoodTime := ⟨qa_dX1_nextInGoodTime, by decide +kernel⟩
theorem qa_dX1_putOnFire : qa_de qa_mX1_putOnFire = true := by decide +kernel
theorem qa_oX1_putOnFire : qa_Ok qa_mX1_putOnFire := ⟨qa_dX1_putOnFire, by decide +kernel⟩
theorem qa_dX1_burnDownTo : qa_de qa_mX1_burnDownTo = true := by decide +kernel
theorem qa_oX1_burnDownTo : qa_Ok qa_mX1_burnDownTo := ⟨qa_dX1_burnDownTo, by decide +kernel⟩
theorem qa_dX1_lineUp : qa_de qa_mX1_lineUp = true := by decide +kernel
theorem qa_oX1_lineUp : qa_Ok qa_mX1_lineUp := ⟨qa_dX1_lineUp, by decide +kernel⟩
theorem qa_dX1_weighByUseOrCost : qa_de qa_mX1_weighByUseOrCost = true := by decide +kernel
theorem qa_oX1_weighByUseOrCost : qa_Ok qa_mX1_weighByUseOrCost := ⟨qa_dX1_weighByUseOrCost, by decide +kernel⟩
theorem qa_dX1_weighByNextUse : qa_de qa_mX1_weighByNextUse = true := by decide +kernel
theorem qa_oX1_weighByNextUse : qa_Ok qa_mX1_weighByNextUse := ⟨qa_dX1_weighByNextUse, by decide +kernel⟩
theorem qa_dX1_placeInLine : qa_de qa_mX1_placeInLine = true := by decide +kernel
theorem qa_oX1_placeInLine : qa_Ok qa_mX1_placeInLine := ⟨qa_dX1_placeInLine, by decide +kernel⟩
theorem qa_dX1_burningsToLoad : qa_de qa_mX1_burningsToLoad = true := by decide +kernel
theorem qa_oX1_burningsToLoad : qa_Ok qa_mX1_burningsToLoad := ⟨qa_dX1_burningsToLoad, by decide +kernel⟩
theorem qa_dX1_sumOfCosts : qa_de qa_mX1_sumOfCosts = true := by decide +kernel
theorem qa_oX1_sumOfCosts : qa_Ok qa_mX1_sumOfCosts := ⟨qa_dX1_sumOfCosts, by decide +kernel⟩
theorem qa_dX1_sumOfWait : qa_de qa_mX1_sumOfWait = true := by decide +kernel
theorem qa_oX1_sumOfWait : qa_Ok qa_mX1_sumOfWait := ⟨qa_dX1_sumOfWait, by decide +kernel⟩
theorem qa_dX2_init : qa_de qa_mX2_init = true := by decide +kernel
theorem qa_oX2_init : qa_Ok qa_mX2_init := ⟨qa_dX2_init, by decide +kernel⟩
theorem qa_dX2_copyFrom : qa_de qa_mX2_copyFrom = true := by decide +kernel
theorem qa_oX2_copyFrom : qa_Ok qa_mX2_copyFrom := ⟨qa_dX2_copyFrom, by decide +kernel⟩
theorem qa_dX2_queuePlace : qa_de qa_mX2_queuePlace = true := by decide +kernel
theorem qa_oX2_queuePlace : qa_Ok qa_mX2_queuePlace := ⟨qa_dX2_queuePlace, by decide +kernel⟩
theorem qa_dX2_queue : qa_de qa_mX2_queue = true := by decide +kernel
theorem qa_oX2_queue : qa_Ok qa_mX2_queue := ⟨qa_dX2_queue, by decide +kernel⟩
theorem qa_dX2_unqueue : qa_de qa_mX2_unqueue = true := by decide +kernel
theorem qa_oX2_unqueue : qa_Ok qa_mX2_unqueue := ⟨qa_dX2_unqueue, by decide +kernel⟩
theorem qa_dX3_init : qa_de qa_mX3_init = true := by decide +kernel
theorem qa_oX3_init : qa_Ok qa_mX3_init := ⟨qa_dX3_init, by decide +kernel⟩
theorem qa_dX3_copyFrom : qa_de qa_mX3_copyFrom = true := by decide +kernel
theorem qa_oX3_copyFrom : qa_Ok qa_mX3_copyFrom := ⟨qa_dX3_copyFrom, by decide +kernel⟩
theorem qa_dX3_has : qa_de qa_mX3_has = true := by decide +kernel
theorem qa_oX3_has : qa_Ok qa_mX3_has := ⟨qa_dX3_has, by decide +kernel⟩
theorem qa_dX3_put : qa_de qa_mX3_put = true := by decide +kernel
theorem qa_oX3_put : qa_Ok qa_mX3_put := ⟨qa_dX3_put, by decide +kernel⟩
theorem qa_dX3_remove : qa_de qa_mX3_remove = true := by decide +kernel
theorem qa_oX3_remove : qa_Ok qa_mX3_remove := ⟨qa_dX3_remove, by decide +kernel⟩
theorem qa_dX3_advance : qa_de qa_mX3_advance = true := by decide +kernel
theorem qa_oX3_advance : qa_Ok qa_mX3_advance := ⟨qa_dX3_advance, by decide +kernel⟩
theorem qa_dX3_slideAhead : qa_de qa_mX3_slideAhead = true := by decide +kernel
theorem qa_oX3_slideAhead : qa_Ok qa_mX3_slideAhead := ⟨qa_dX3_slideAhead, by decide +kernel⟩
theorem qa_dX3_placesUntil : qa_de qa_mX3_placesUntil = true := by decide +kernel
theorem qa_oX3_placesUntil : qa_Ok qa_mX3_placesUntil := ⟨qa_dX3_placesUntil, by decide +kernel⟩
theorem qa_dX4_init : qa_de qa_mX4_init = true := by decide +kernel
theorem qa_oX4_init : qa_Ok qa_mX4_init := ⟨qa_dX4_init, by decide +kernel⟩
theorem qa_dX4_copyFrom : qa_de qa_mX4_copyFrom = true := by decide +kernel
theorem qa_oX4_copyFrom : qa_Ok qa_mX4_copyFrom := ⟨qa_dX4_copyFrom, by decide +kernel⟩
theorem qa_dX5_init : qa_de qa_mX5_init = true := by decide +kernel
theorem qa_oX5_init : qa_Ok qa_mX5_init := ⟨qa_dX5_init, by decide +kernel⟩
theorem qa_dX5_push : qa_de qa_mX5_push = true := by decide +kernel
theorem qa_oX5_push : qa_Ok qa_mX5_push := ⟨qa_dX5_push, by decide +kernel⟩
theorem qa_dX6_init : qa_de qa_mX6_init = true := by decide +kernel
theorem qa_oX6_init : qa_Ok qa_mX6_init := ⟨qa_dX6_init, by decide +kernel⟩
theorem qa_dX6_copyFrom : qa_de qa_mX6_copyFrom = true := by decide +kernel
theorem qa_oX6_copyFrom : qa_Ok qa_mX6_copyFrom := ⟨qa_dX6_copyFrom, by decide +kernel⟩
theorem qa_dX6_has : qa_de qa_mX6_has = true := by decide +kernel
theorem qa_oX6_has : qa_Ok qa_mX6_has := ⟨qa_dX6_has, by decide +kernel⟩
theorem qa_dX6_isReady : qa_de qa_mX6_isReady = true := by decide +kernel
theorem qa_oX6_isReady : qa_Ok qa_mX6_isReady := ⟨qa_dX6_isReady, by decide +kernel⟩
theorem qa_dX6_setReady : qa_de qa_mX6_setReady = true := by decide +kernel
theorem qa_oX6_setReady : qa_Ok qa_mX6_setReady := ⟨qa_dX6_setReady, by decide +kernel⟩
theorem qa_dX6_add : qa_de qa_mX6_add = true := by decide +kernel
theorem qa_oX6_add : qa_Ok qa_mX6_add := ⟨qa_dX6_add, by decide +kernel⟩
theorem qa_dX6_ticksToLoad : qa_de qa_mX6_ticksToLoad = true := by decide +kernel
theorem qa_oX6_ticksToLoad : qa_Ok qa_mX6_ticksToLoad := ⟨qa_dX6_ticksToLoad, by decide +kernel⟩
theorem qa_dX6_use : qa_de qa_mX6_use = true := by decide +kernel
theorem qa_oX6_use : qa_Ok qa_mX6_use := ⟨qa_dX6_use, by decide +kernel⟩
theorem qa_dX6_coolEmbers : qa_de qa_mX6_coolEmbers = true := by decide +kernel
theorem qa_oX6_coolEmbers : qa_Ok qa_mX6_coolEmbers := ⟨qa_dX6_coolEmbers, by decide +kernel⟩
theorem qa_dX7_init : qa_de qa_mX7_init = true := by decide +kernel
theorem qa_oX7_init : qa_Ok qa_mX7_init := ⟨qa_dX7_init, by decide +kernel⟩
theorem qa_dX7_copyFrom : qa_de qa_mX7_copyFrom = true := by decide +kernel
theorem qa_oX7_copyFrom : qa_Ok qa_mX7_copyFrom := ⟨qa_dX7_copyFrom, by decide +kernel⟩
theorem qa_dX7_bears : qa_de qa_mX7_bears = true := by decide +kernel
theorem qa_oX7_bears : qa_Ok qa_mX7_bears := ⟨qa_dX7_bears, by decide +kernel⟩
theorem qa_dX7_bring : qa_de qa_mX7_bring = true := by decide +kernel
theorem qa_oX7_bring : qa_Ok qa_mX7_bring := ⟨qa_dX7_bring, by decide +kernel⟩
theorem qa_dX7_fadeOnce : qa_de qa_mX7_fadeOnce = true := by decide +kernel
theorem qa_oX7_fadeOnce : qa_Ok qa_mX7_fadeOnce := ⟨qa_dX7_fadeOnce, by decide +kernel⟩
theorem qa_dX7_countShown : qa_de qa_mX7_countShown = true := by decide +kernel
theorem qa_oX7_countShown : qa_Ok qa_mX7_countShown := ⟨qa_dX7_countShown, by decide +kernel⟩
theorem qa_dX8_init : qa_de qa_mX8_init = true := by decide +kernel
theorem qa_oX8_init : qa_Ok qa_mX8_init := ⟨qa_dX8_init, by decide +kernel⟩
theorem qa_dX9_init : qa_de qa_mX9_init = true := by decide +kernel
theorem qa_oX9_init : qa_Ok qa_mX9_init := ⟨qa_dX9_init, by decide +kernel⟩
theorem qa_dX9_addSlide : qa_de qa_mX9_addSlide = true := by decide +kernel
theorem qa_oX9_addSlide : qa_Ok qa_mX9_addSlide := ⟨qa_dX9_addSlide, by decide +kernel⟩
theorem qa_dX9_insert : qa_de qa_mX9_insert = true := by decide +kernel
theorem qa_oX9_insert : qa_Ok qa_mX9_insert := ⟨qa_dX9_insert, by decide +kernel⟩
theorem qa_dX9_takeOut : qa_de qa_mX9_takeOut = true := by decide +kernel
theorem qa_oX9_takeOut : qa_Ok qa_mX9_takeOut := ⟨qa_dX9_takeOut, by decide +kernel⟩
theorem qa_dX9_goOn : qa_de qa_mX9_goOn = true := by decide +kernel
theorem qa_oX9_goOn : qa_Ok qa_mX9_goOn := ⟨qa_dX9_goOn, by decide +kernel⟩
theorem qa_dX9_ask : qa_de qa_mX9_ask = true := by decide +kernel
theorem qa_oX9_ask : qa_Ok qa_mX9_ask := ⟨qa_dX9_ask, by decide +kernel⟩
theorem qa_dX9_burn : qa_de qa_mX9_burn = true := by decide +kernel
theorem qa_oX9_burn : qa_Ok qa_mX9_burn := ⟨qa_dX9_burn, by decide +kernel⟩
theorem qa_dX9_tick : qa_de qa_mX9_tick = true := by decide +kernel
theorem qa_oX9_tick : qa_Ok qa_mX9_tick := ⟨qa_dX9_tick, by decide +kernel⟩
theorem qa_dX9_changeMemory : qa_de qa_mX9_changeMemory = true := by decide +kernel
theorem qa_oX9_changeMemory : qa_Ok qa_mX9_changeMemory := ⟨qa_dX9_changeMemory, by decide +kernel⟩
theorem qa_dX9_changeAhead : qa_de qa_mX9_changeAhead = true := by decide +kernel
theorem qa_oX9_changeAhead : qa_Ok qa_mX9_changeAhead := ⟨qa_dX9_changeAhead, by decide +kernel⟩
theorem qa_dX9_changeOrder : qa_de qa_mX9_changeOrder = true := by decide +kernel
theorem qa_oX9_changeOrder : qa_Ok qa_mX9_changeOrder := ⟨qa_dX9_changeOrder, by decide +kernel⟩
theorem qa_dX9_changeGlow : qa_de qa_mX9_changeGlow = true := by decide +kernel
theorem qa_oX9_changeGlow : qa_Ok qa_mX9_changeGlow := ⟨qa_dX9_changeGlow, by decide +kernel⟩
theorem qa_dX9_changePace : qa_de qa_mX9_changePace = true := by decide +kernel
theorem qa_oX9_changePace : qa_Ok qa_mX9_changePace := ⟨qa_dX9_changePace, by decide +kernel⟩
theorem qa_dX9_slides : qa_de qa_mX9_slides = true := by decide +kernel
theorem qa_oX9_slides : qa_Ok qa_mX9_slides := ⟨qa_dX9_slides, by decide +kernel⟩
theorem qa_dX9_costOf : qa_de qa_mX9_costOf = true := by decide +kernel
theorem qa_oX9_costOf : qa_Ok qa_mX9_costOf := ⟨qa_dX9_costOf, by decide +kernel⟩
theorem qa_dX9_loadOf : qa_de qa_mX9_loadOf = true := by decide +kernel
theorem qa_oX9_loadOf : qa_Ok qa_mX9_loadOf := ⟨qa_dX9_loadOf, by decide +kernel⟩
theorem qa_dX9_fadeOf : qa_de qa_mX9_fadeOf = true := by decide +kernel
theorem qa_oX9_fadeOf : qa_Ok qa_mX9_fadeOf := ⟨qa_dX9_fadeOf, by decide +kernel⟩
theorem qa_dX9_isLoaded : qa_de qa_mX9_isLoaded = true := by decide +kernel
theorem qa_oX9_isLoaded : qa_Ok qa_mX9_isLoaded := ⟨qa_dX9_isLoaded, by decide +kernel⟩
theorem qa_dX9_isOnShow : qa_de qa_mX9_isOnShow = true := by decide +kernel
theorem qa_oX9_isOnShow : qa_Ok qa_mX9_isOnShow := ⟨qa_dX9_isOnShow, by decide +kernel⟩
theorem qa_dX9_glowOf : qa_de qa_mX9_glowOf = true := by decide +kernel
theorem qa_oX9_glowOf : qa_Ok qa_mX9_glowOf := ⟨qa_dX9_glowOf, by decide +kernel⟩
theorem qa_dX9_burntTimes : qa_de qa_mX9_burntTimes = true := by decide +kernel
theorem qa_oX9_burntTimes : qa_Ok qa_mX9_burntTimes := ⟨qa_dX9_burntTimes, by decide +kernel⟩
theorem qa_dX9_nextUse : qa_de qa_mX9_nextUse = true := by decide +kernel
theorem qa_oX9_nextUse : qa_Ok qa_mX9_nextUse := ⟨qa_dX9_nextUse, by decide +kernel⟩
theorem qa_dX9_burnPlace : qa_de qa_mX9_burnPlace = true := by decide +kernel
theorem qa_oX9_burnPlace : qa_Ok qa_mX9_burnPlace := ⟨qa_dX9_burnPlace, by decide +kernel⟩
theorem qa_dX9_places : qa_de qa_mX9_places = true := by decide +kernel
theorem qa_oX9_places : qa_Ok qa_mX9_places := ⟨qa_dX9_places, by decide +kernel⟩
theorem qa_dX9_slideAt : qa_de qa_mX9_slideAt = true := by decide +kernel
theorem qa_oX9_slideAt : qa_Ok qa_mX9_slideAt := ⟨qa_dX9_slideAt, by decide +kernel⟩
theorem qa_dX9_showPlace : qa_de qa_mX9_showPlace = true := by decide +kernel
theorem qa_oX9_showPlace : qa_Ok qa_mX9_showPlace := ⟨qa_dX9_showPlace, by decide +kernel⟩
theorem qa_dX9_shown : qa_de qa_mX9_shown = true := by decide +kernel
theorem qa_oX9_shown : qa_Ok qa_mX9_shown := ⟨qa_dX9_shown, by decide +kernel⟩
theorem qa_dX9_fading : qa_de qa_mX9_fading = true := by decide +kernel
theorem qa_oX9_fading : qa_Ok qa_mX9_fading := ⟨qa_dX9_fading, by decide +kernel⟩
theorem qa_dX9_fadeLeft : qa_de qa_mX9_fadeLeft = true := by decide +kernel
theorem qa_oX9_fadeLeft : qa_Ok qa_mX9_fadeLeft := ⟨qa_dX9_fadeLeft, by decide +kernel⟩
theorem qa_dX9_awaited : qa_de qa_mX9_awaited = true := by decide +kernel
theorem qa_oX9_awaited : qa_Ok qa_mX9_awaited := ⟨qa_dX9_awaited, by decide +kernel⟩
theorem qa_dX9_shownFor : qa_de qa_mX9_shownFor = true := by decide +kernel
theorem qa_oX9_shownFor : qa_Ok qa_mX9_shownFor := ⟨qa_dX9_shownFor, by decide +kernel⟩
theorem qa_dX9_loading : qa_de qa_mX9_loading = true := by decide +kernel
theorem qa_oX9_loading : qa_Ok qa_mX9_loading := ⟨qa_dX9_loading, by decide +kernel⟩
theorem qa_dX9_loadLeft : qa_de qa_mX9_loadLeft = true := by decide +kernel
theorem qa_oX9_loadLeft : qa_Ok qa_mX9_loadLeft := ⟨qa_dX9_loadLeft, by decide +kernel⟩
theorem qa_dX9_asked : qa_de qa_mX9_asked = true := by decide +kernel
theorem qa_oX9_asked : qa_Ok qa_mX9_asked := ⟨qa_dX9_asked, by decide +kernel⟩
theorem qa_dX9_askedAt : qa_de qa_mX9_askedAt = true := by decide +kernel
theorem qa_oX9_askedAt : qa_Ok qa_mX9_askedAt := ⟨qa_dX9_askedAt, by decide +kernel⟩
theorem qa_dX9_takenBySlides : qa_de qa_mX9_takenBySlides = true := by decide +kernel
theorem qa_oX9_takenBySlides : qa_Ok qa_mX9_takenBySlides := ⟨qa_dX9_takenBySlides, by decide +kernel⟩
theorem qa_dX9_takenByAccount : qa_de qa_mX9_takenByAccount = true := by decide +kernel
theorem qa_oX9_takenByAccount : qa_Ok qa_mX9_takenByAccount := ⟨qa_dX9_takenByAccount, by decide +kernel⟩
theorem qa_dX9_memory : qa_de qa_mX9_memory = true := by decide +kernel
theorem qa_oX9_memory : qa_Ok qa_mX9_memory := ⟨qa_dX9_memory, by decide +kernel⟩
theorem qa_dX9_order : qa_de qa_mX9_order = true := by decide +kernel
theorem qa_oX9_order : qa_Ok qa_mX9_order := ⟨qa_dX9_order, by decide +kernel⟩
theorem qa_dX9_glow : qa_de qa_mX9_glow = true := by decide +kernel
theorem qa_oX9_glow : qa_Ok qa_mX9_glow := ⟨qa_dX9_glow, by decide +kernel⟩
theorem qa_dX9_ticksToShowByTicks : qa_de qa_mX9_ticksToShowByTicks = true := by decide +kernel
theorem qa_oX9_ticksToShowByTicks : qa_Ok qa_mX9_ticksToShowByTicks := ⟨qa_dX9_ticksToShowByTicks, by decide +kernel⟩
theorem qa_dX9_ticksToShowBySums : qa_de qa_mX9_ticksToShowBySums = true := by decide +kernel
theorem qa_oX9_ticksToShowBySums : qa_Ok qa_mX9_ticksToShowBySums := ⟨qa_dX9_ticksToShowBySums, by decide +kernel⟩
theorem qa_dX9_burningsFor : qa_de qa_mX9_burningsFor = true := by decide +kernel
theorem qa_oX9_burningsFor : qa_Ok qa_mX9_burningsFor := ⟨qa_dX9_burningsFor, by decide +kernel⟩
theorem qa_dX9_missesWith : qa_de qa_mX9_missesWith = true := by decide +kernel
theorem qa_oX9_missesWith : qa_Ok qa_mX9_missesWith := ⟨qa_dX9_missesWith, by decide +kernel⟩
theorem qa_dX9_bestOrder : qa_de qa_mX9_bestOrder = true := by decide +kernel
theorem qa_oX9_bestOrder : qa_Ok qa_mX9_bestOrder := ⟨qa_dX9_bestOrder, by decide +kernel⟩
theorem qa_dX9_time : qa_de qa_mX9_time = true := by decide +kernel
theorem qa_oX9_time : qa_Ok qa_mX9_time := ⟨qa_dX9_time, by decide +kernel⟩
theorem qa_dX9_hits : qa_de qa_mX9_hits = true := by decide +kernel
theorem qa_oX9_hits : qa_Ok qa_mX9_hits := ⟨qa_dX9_hits, by decide +kernel⟩
theorem qa_dX9_misses : qa_de qa_mX9_misses = true := by decide +kernel
theorem qa_oX9_misses : qa_Ok qa_mX9_misses := ⟨qa_dX9_misses, by decide +kernel⟩
theorem qa_dX9_loads : qa_de qa_mX9_loads = true := by decide +kernel
theorem qa_oX9_loads : qa_Ok qa_mX9_loads := ⟨qa_dX9_loads, by decide +kernel⟩
theorem qa_dX9_warmLoads : qa_de qa_mX9_warmLoads = true := by decide +kernel
theorem qa_oX9_warmLoads : qa_Ok qa_mX9_warmLoads := ⟨qa_dX9_warmLoads, by decide +kernel⟩
theorem qa_dX9_burnings : qa_de qa_mX9_burnings = true := by decide +kernel
theorem qa_oX9_burnings : qa_Ok qa_mX9_burnings := ⟨qa_dX9_burnings, by decide +kernel⟩
theorem qa_dX9_waited : qa_de qa_mX9_waited = true := by decide +kernel
theorem qa_oX9_waited : qa_Ok qa_mX9_waited := ⟨qa_dX9_waited, by decide +kernel⟩
theorem qa_dX9_hitShare : qa_de qa_mX9_hitShare = true := by decide +kernel
theorem qa_oX9_hitShare : qa_Ok qa_mX9_hitShare := ⟨qa_dX9_hitShare, by decide +kernel⟩
theorem qa_dX9_waitOnTrial : qa_de qa_mX9_waitOnTrial = true := by decide +kernel
theorem qa_oX9_waitOnTrial : qa_Ok qa_mX9_waitOnTrial := ⟨qa_dX9_waitOnTrial, by decide +kernel⟩
theorem qa_dX9_missesOnTrial : qa_de qa_mX9_missesOnTrial = true := by decide +kernel
theorem qa_oX9_missesOnTrial : qa_Ok qa_mX9_missesOnTrial := ⟨qa_dX9_missesOnTrial, by decide +kernel⟩
theorem qa_dX9_needArgument : qa_de qa_mX9_needArgument = true := by decide +kernel
theorem qa_oX9_needArgument : qa_Ok qa_mX9_needArgument := ⟨qa_dX9_needArgument, by decide +kernel⟩
theorem qa_dX9_needIndex : qa_de qa_mX9_needIndex = true := by decide +kernel
theorem qa_oX9_needIndex : qa_Ok qa_mX9_needIndex := ⟨qa_dX9_needIndex, by decide +kernel⟩
theorem qa_dX9_needState : qa_de qa_mX9_needState = true := by decide +kernel
theorem qa_oX9_needState : qa_Ok qa_mX9_needState := ⟨qa_dX9_needState, by decide +kernel⟩
theorem qa_dX9_isWithin : qa_de qa_mX9_isWithin = true := by decide +kernel
theorem qa_oX9_isWithin : qa_Ok qa_mX9_isWithin := ⟨qa_dX9_isWithin, by decide +kernel⟩
theorem qa_dX9_at : qa_de qa_mX9_at = true := by decide +kernel
theorem qa_oX9_at : qa_Ok qa_mX9_at := ⟨qa_dX9_at, by decide +kernel⟩
theorem qa_dX9_set : qa_de qa_mX9_set = true := by decide +kernel
theorem qa_oX9_set : qa_Ok qa_mX9_set := ⟨qa_dX9_set, by decide +kernel⟩
theorem qa_dX9_copyRow : qa_de qa_mX9_copyRow = true := by decide +kernel
theorem qa_oX9_copyRow : qa_Ok qa_mX9_copyRow := ⟨qa_dX9_copyRow, by decide +kernel⟩
theorem qa_dL_cell : qa_de qa_mL_cell = true := by decide +kernel
theorem qa_oL_cell : qa_Ok qa_mL_cell := ⟨qa_dL_cell, by decide +kernel⟩
theorem qa_dL_low : qa_de qa_mL_low = true := by decide +kernel
theorem qa_oL_low : qa_Ok qa_mL_low := ⟨qa_dL_low, by decide +kernel⟩
theorem qa_dL_told : qa_de qa_mL_told = true := by decide +kernel
theorem qa_oL_told : qa_Ok qa_mL_told := ⟨qa_dL_told, by decide +kernel⟩
theorem qa_dL_showPlace : qa_de qa_mL_showPlace = true := by decide +kernel
theorem qa_oL_showPlace : qa_Ok qa_mL_showPlace := ⟨qa_dL_showPlace, by decide +kernel⟩
theorem qa_dL_isAsked : qa_de qa_mL_isAsked = true := by decide +kernel
theorem qa_oL_isAsked : qa_Ok qa_mL_isAsked := ⟨qa_dL_isAsked, by decide +kernel⟩
theorem qa_dL_does : qa_de qa_mL_does = true := by decide +kernel
theorem qa_oL_does : qa_Ok qa_mL_does := ⟨qa_dL_does, by decide +kernel⟩
theorem qa_dL_isInserted : qa_de qa_mL_isInserted = true := by decide +kernel
theorem qa_oL_isInserted : qa_Ok qa_mL_isInserted := ⟨qa_dL_isInserted, by decide +kernel⟩
theorem qa_dL_isTaken : qa_de qa_mL_isTaken = true := by decide +kernel
theorem qa_oL_isTaken : qa_Ok qa_mL_isTaken := ⟨qa_dL_isTaken, by decide +kernel⟩
theorem qa_dL_isGone : qa_de qa_mL_isGone = true := by decide +kernel
theorem qa_oL_isGone : qa_Ok qa_mL_isGone := ⟨qa_dL_isGone, by decide +kernel⟩
theorem qa_dL_isBurnt : qa_de qa_mL_isBurnt = true := by decide +kernel
theorem qa_oL_isBurnt : qa_Ok qa_mL_isBurnt := ⟨qa_dL_isBurnt, by decide +kernel⟩
theorem qa_dL_isTicked : qa_de qa_mL_isTicked = true := by decide +kernel
theorem qa_oL_isTicked : qa_Ok qa_mL_isTicked := ⟨qa_dL_isTicked, by decide +kernel⟩
theorem qa_dL_isAwaited : qa_de qa_mL_isAwaited = true := by decide +kernel
theorem qa_oL_isAwaited : qa_Ok qa_mL_isAwaited := ⟨qa_dL_isAwaited, by decide +kernel⟩
theorem qa_dL_isMemorySo : qa_de qa_mL_isMemorySo = true := by decide +kernel
theorem qa_oL_isMemorySo : qa_Ok qa_mL_isMemorySo := ⟨qa_dL_isMemorySo, by decide +kernel⟩
theorem qa_dL_isAskedSo : qa_de qa_mL_isAskedSo = true := by decide +kernel
theorem qa_oL_isAskedSo : qa_Ok qa_mL_isAskedSo := ⟨qa_dL_isAskedSo, by decide +kernel⟩
theorem qa_dL_isRoundSo : qa_de qa_mL_isRoundSo = true := by decide +kernel
theorem qa_oL_isRoundSo : qa_Ok qa_mL_isRoundSo := ⟨qa_dL_isRoundSo, by decide +kernel⟩
theorem qa_dL_law : qa_de qa_mL_law = true := by decide +kernel
theorem qa_oL_law : qa_Ok qa_mL_law := ⟨qa_dL_law, by decide +kernel⟩
end
section
/-! the methods that are called are checked -/
set_option maxRecDepth 1000000 in
theorem qa_co0 : ∀ e ∈ qa_ca0, qa_Ok e.2.1 := by
  unfold qa_ca0
  exact (fun _ h => nomatch h)
set_option maxRecDepth 1000000 in
theorem qa_co1 : ∀ e ∈ qa_ca1, qa_Ok e.2.1 := by
  unfold qa_ca1
  exact List.forall_mem_cons.mpr ⟨qa_oX6_init, List.forall_mem_cons.mpr ⟨qa_oX3_init, List.forall_mem_cons.mpr ⟨qa_oX7_init, List.forall_mem_cons.mpr ⟨qa_oX2_init, List.forall_mem_cons.mpr ⟨qa_oX4_init, List.forall_mem_cons.mpr ⟨qa_oX0_init, List.forall_mem_cons.mpr ⟨qa_oX6_copyFrom, List.forall_mem_cons.mpr ⟨qa_oX3_copyFrom, List.forall_mem_cons.mpr ⟨qa_oX7_copyFrom, List.forall_mem_cons.mpr ⟨qa_oX2_copyFrom, List.forall_mem_cons.mpr ⟨qa_oX4_copyFrom, List.forall_mem_cons.mpr ⟨qa_oX0_copyFrom, List.forall_mem_cons.mpr ⟨qa_oX6_isReady, List.forall_mem_cons.mpr ⟨qa_oX2_queuePlace, List.forall_mem_cons.mpr ⟨qa_oX7_bears, List.forall_mem_cons.mpr ⟨qa_oX1_passTick, List.forall_mem_cons.mpr ⟨qa_oX1_mayGoOn, List.forall_mem_cons.mpr ⟨qa_oX1_proceed, List.forall_mem_cons.mpr ⟨qa_oX1_beginLoading, List.forall_mem_cons.mpr ⟨qa_oX1_mayBurn, List.forall_mem_cons.mpr ⟨qa_oX1_putOnFire, List.forall_mem_cons.mpr ⟨qa_oX3_advance, List.forall_mem_cons.mpr ⟨qa_oX1_bringOn, List.forall_mem_cons.mpr ⟨qa_oX2_unqueue, List.forall_mem_cons.mpr ⟨qa_oX9_at, List.forall_mem_cons.mpr ⟨qa_oX7_bring, List.forall_mem_cons.mpr ⟨qa_oX6_use, List.forall_mem_cons.mpr ⟨qa_oX6_coolEmbers, List.forall_mem_cons.mpr ⟨qa_oX7_fadeOnce, List.forall_mem_cons.mpr ⟨qa_oX7_countShown, List.forall_mem_cons.mpr ⟨qa_oX1_loadOnce, List.forall_mem_cons.mpr ⟨qa_oX1_paceIsReached, List.forall_mem_cons.mpr ⟨qa_oX6_setReady, List.forall_mem_cons.mpr ⟨qa_oX1_nextToLoad, List.forall_mem_cons.mpr ⟨qa_oX1_burnDownTo, List.forall_mem_cons.mpr ⟨qa_oX6_ticksToLoad, List.forall_mem_cons.mpr ⟨qa_oX9_set, List.forall_mem_cons.mpr ⟨qa_oX1_nextInGoodTime, List.forall_mem_cons.mpr ⟨qa_oX3_slideAhead, List.forall_mem_cons.mpr ⟨qa_oX1_lineUp, List.forall_mem_cons.mpr ⟨qa_oX1_weighByNextUse, List.forall_mem_cons.mpr ⟨qa_oX1_weighByUseOrCost, (fun _ h => nomatch h)⟩⟩⟩⟩⟩⟩⟩⟩⟩⟩⟩⟩⟩⟩⟩⟩⟩⟩⟩⟩⟩⟩⟩⟩⟩⟩⟩⟩⟩⟩⟩⟩⟩⟩⟩⟩⟩⟩⟩⟩⟩⟩
set_option maxRecDepth 1000000 in
theorem qa_co2 : ∀ e ∈ qa_ca2, qa_Ok e.2.1 := by
  unfold qa_ca2
  exact List.forall_mem_cons.mpr ⟨qa_oX9_copyRow, List.forall_mem_cons.mpr ⟨qa_oX9_at, List.forall_mem_cons.mpr ⟨qa_oX9_set, (fun _ h => nomatch h)⟩⟩⟩
set_option maxRecDepth 1000000 in
theorem qa_co3 : ∀ e ∈ qa_ca3, qa_Ok e.2.1 := by
  unfold qa_ca3
  exact List.forall_mem_cons.mpr ⟨qa_oX9_copyRow, List.forall_mem_cons.mpr ⟨qa_oX9_at, List.forall_mem_cons.mpr ⟨qa_oX9_set, List.forall_mem_cons.mpr ⟨qa_oX3_slideAhead, (fun _ h => nomatch h)⟩⟩⟩⟩
set_option maxRecDepth 1000000 in
theorem qa_co4 : ∀ e ∈ qa_ca4, qa_Ok e.2.1 := by
  unfold qa_ca4
  exact (fun _ h => nomatch h)
set_option maxRecDepth 1000000 in
theorem qa_co5 : ∀ e ∈ qa_ca5, qa_Ok e.2.1 := by
  unfold qa_ca5
  exact List.forall_mem_cons.mpr ⟨qa_oX1_init, List.forall_mem_cons.mpr ⟨qa_oX1_copyFrom, (fun _ h => nomatch h)⟩⟩
set_option maxRecDepth 1000000 in
theorem qa_co6 : ∀ e ∈ qa_ca6, qa_Ok e.2.1 := by
  unfold qa_ca6
  exact List.forall_mem_cons.mpr ⟨qa_oX9_copyRow, List.forall_mem_cons.mpr ⟨qa_oX9_set, List.forall_mem_cons.mpr ⟨qa_oX9_at, (fun _ h => nomatch h)⟩⟩⟩
set_option maxRecDepth 1000000 in
theorem qa_co7 : ∀ e ∈ qa_ca7, qa_Ok e.2.1 := by
  unfold qa_ca7
  exact (fun _ h => nomatch h)
set_option maxRecDepth 1000000 in
theorem qa_co8 : ∀ e ∈ qa_ca8, qa_Ok e.2.1 := by
  unfold qa_ca8
  exact (fun _ h => nomatch h)
set_option maxRecDepth 1000000 in
theorem qa_co9 : ∀ e ∈ qa_ca9, qa_Ok e.2.1 := by
  unfold qa_ca9
  exact List.forall_mem_cons.mpr ⟨qa_oX1_init, List.forall_mem_cons.mpr ⟨qa_oX5_init, List.forall_mem_cons.mpr ⟨qa_oX8_init, List.forall_mem_cons.mpr ⟨qa_oX9_isWithin, List.forall_mem_cons.mpr ⟨qa_oX9_needArgument, List.forall_mem_cons.mpr ⟨qa_oX9_needState, List.forall_mem_cons.mpr ⟨qa_oX5_push, List.forall_mem_cons.mpr ⟨qa_oX6_add, List.forall_mem_cons.mpr ⟨qa_oX1_beginLoading, List.forall_mem_cons.mpr ⟨qa_oX6_has, List.forall_mem_cons.mpr ⟨qa_oX9_needIndex, List.forall_mem_cons.mpr ⟨qa_oX3_put, List.forall_mem_cons.mpr ⟨qa_oX3_has, List.forall_mem_cons.mpr ⟨qa_oX3_remove, List.forall_mem_cons.mpr ⟨qa_oX1_mayGoOn, List.forall_mem_cons.mpr ⟨qa_oX1_proceed, List.forall_mem_cons.mpr ⟨qa_oX1_mayAsk, List.forall_mem_cons.mpr ⟨qa_oX2_queue, List.forall_mem_cons.mpr ⟨qa_oX1_mayBurn, List.forall_mem_cons.mpr ⟨qa_oX1_putOnFire, List.forall_mem_cons.mpr ⟨qa_oX9_at, List.forall_mem_cons.mpr ⟨qa_oX1_passTicks, List.forall_mem_cons.mpr ⟨qa_oX1_burnDownTo, List.forall_mem_cons.mpr ⟨qa_oX1_copyFrom, List.forall_mem_cons.mpr ⟨qa_oX6_ticksToLoad, List.forall_mem_cons.mpr ⟨qa_oX6_isReady, List.forall_mem_cons.mpr ⟨qa_oX7_bears, List.forall_mem_cons.mpr ⟨qa_oX3_placesUntil, List.forall_mem_cons.mpr ⟨qa_oX1_placeInLine, List.forall_mem_cons.mpr ⟨qa_oX1_sumOfCosts, List.forall_mem_cons.mpr ⟨qa_oX9_waitOnTrial, List.forall_mem_cons.mpr ⟨qa_oX1_sumOfWait, List.forall_mem_cons.mpr ⟨qa_oX1_burningsToLoad, List.forall_mem_cons.mpr ⟨qa_oX9_missesOnTrial, List.forall_mem_cons.mpr ⟨qa_oX0_shareOfHits, List.forall_mem_cons.mpr ⟨qa_oX1_passTick, (fun _ h => nomatch h)⟩⟩⟩⟩⟩⟩⟩⟩⟩⟩⟩⟩⟩⟩⟩⟩⟩⟩⟩⟩⟩⟩⟩⟩⟩⟩⟩⟩⟩⟩⟩⟩⟩⟩⟩⟩
set_option maxRecDepth 1000000 in
theorem qa_co10 : ∀ e ∈ qa_ca10, qa_Ok e.2.1 := by
  unfold qa_ca10
  exact (fun _ h => nomatch h)
set_option maxRecDepth 1000000 in
theorem qa_co11 : ∀ e ∈ qa_ca11, qa_Ok e.2.1 := by
  unfold qa_ca11
  exact List.forall_mem_cons.mpr ⟨qa_oX9_awaited, List.forall_mem_cons.mpr ⟨qa_oX9_shown, List.forall_mem_cons.mpr ⟨qa_oX9_fading, List.forall_mem_cons.mpr ⟨qa_oX9_loading, List.forall_mem_cons.mpr ⟨qa_oX9_showPlace, List.forall_mem_cons.mpr ⟨qa_oX9_asked, List.forall_mem_cons.mpr ⟨qa_oX9_askedAt, List.forall_mem_cons.mpr ⟨qa_oX9_slides, List.forall_mem_cons.mpr ⟨qa_oL_low, List.forall_mem_cons.mpr ⟨qa_oX9_addSlide, List.forall_mem_cons.mpr ⟨qa_oX9_isLoaded, List.forall_mem_cons.mpr ⟨qa_oX9_places, List.forall_mem_cons.mpr ⟨qa_oL_isInserted, List.forall_mem_cons.mpr ⟨qa_oL_isTaken, List.forall_mem_cons.mpr ⟨qa_oL_told, List.forall_mem_cons.mpr ⟨qa_oL_isGone, List.forall_mem_cons.mpr ⟨qa_oL_isAsked, List.forall_mem_cons.mpr ⟨qa_oX9_ask, List.forall_mem_cons.mpr ⟨qa_oX9_isOnShow, List.forall_mem_cons.mpr ⟨qa_oL_isBurnt, List.forall_mem_cons.mpr ⟨qa_oX9_changeOrder, List.forall_mem_cons.mpr ⟨qa_oX9_order, List.forall_mem_cons.mpr ⟨qa_oX9_changeAhead, List.forall_mem_cons.mpr ⟨qa_oX9_changeGlow, List.forall_mem_cons.mpr ⟨qa_oX9_changePace, List.forall_mem_cons.mpr ⟨qa_oX9_changeMemory, List.forall_mem_cons.mpr ⟨qa_oL_isTicked, List.forall_mem_cons.mpr ⟨qa_oL_isAwaited, List.forall_mem_cons.mpr ⟨qa_oL_showPlace, List.forall_mem_cons.mpr ⟨qa_oX9_insert, List.forall_mem_cons.mpr ⟨qa_oX9_slideAt, List.forall_mem_cons.mpr ⟨qa_oX9_takeOut, List.forall_mem_cons.mpr ⟨qa_oX9_hits, List.forall_mem_cons.mpr ⟨qa_oX9_misses, List.forall_mem_cons.mpr ⟨qa_oX9_goOn, List.forall_mem_cons.mpr ⟨qa_oX9_shownFor, List.forall_mem_cons.mpr ⟨qa_oX9_fadeOf, List.forall_mem_cons.mpr ⟨qa_oX9_fadeLeft, List.forall_mem_cons.mpr ⟨qa_oX9_burntTimes, List.forall_mem_cons.mpr ⟨qa_oX9_burnings, List.forall_mem_cons.mpr ⟨qa_oX9_burn, List.forall_mem_cons.mpr ⟨qa_oX9_costOf, List.forall_mem_cons.mpr ⟨qa_oX9_glowOf, List.forall_mem_cons.mpr ⟨qa_oX9_glow, List.forall_mem_cons.mpr ⟨qa_oX9_time, List.forall_mem_cons.mpr ⟨qa_oX9_waited, List.forall_mem_cons.mpr ⟨qa_oX9_tick, List.forall_mem_cons.mpr ⟨qa_oX9_ticksToShowByTicks, List.forall_mem_cons.mpr ⟨qa_oX9_ticksToShowBySums, List.forall_mem_cons.mpr ⟨qa_oX9_loadOf, List.forall_mem_cons.mpr ⟨qa_oX9_burningsFor, List.forall_mem_cons.mpr ⟨qa_oX9_burnPlace, List.forall_mem_cons.mpr ⟨qa_oX9_takenBySlides, List.forall_mem_cons.mpr ⟨qa_oX9_takenByAccount, List.forall_mem_cons.mpr ⟨qa_oX9_memory, List.forall_mem_cons.mpr ⟨qa_oX9_loads, List.forall_mem_cons.mpr ⟨qa_oX9_warmLoads, List.forall_mem_cons.mpr ⟨qa_oX9_loadLeft, List.forall_mem_cons.mpr ⟨qa_oX9_nextUse, List.forall_mem_cons.mpr ⟨qa_oX9_hitShare, List.forall_mem_cons.mpr ⟨qa_oX9_bestOrder, List.forall_mem_cons.mpr ⟨qa_oX9_missesWith, List.forall_mem_cons.mpr ⟨qa_oX9_init, List.forall_mem_cons.mpr ⟨qa_oL_cell, List.forall_mem_cons.mpr ⟨qa_oL_does, List.forall_mem_cons.mpr ⟨qa_oL_isMemorySo, List.forall_mem_cons.mpr ⟨qa_oL_isAskedSo, List.forall_mem_cons.mpr ⟨qa_oL_isRoundSo, (fun _ h => nomatch h)⟩⟩⟩⟩⟩⟩⟩⟩⟩⟩⟩⟩⟩⟩⟩⟩⟩⟩⟩⟩⟩⟩⟩⟩⟩⟩⟩⟩⟩⟩⟩⟩⟩⟩⟩⟩⟩⟩⟩⟩⟩⟩⟩⟩⟩⟩⟩⟩⟩⟩⟩⟩⟩⟩⟩⟩⟩⟩⟩⟩⟩⟩⟩⟩⟩⟩⟩⟩
theorem qa_co (k : Nat) : ∀ e ∈ qa_ca k, qa_Ok e.2.1 := by
  unfold qa_ca
  split
  · exact qa_co0
  · exact qa_co1
  · exact qa_co2
  · exact qa_co3
  · exact qa_co4
  · exact qa_co5
  · exact qa_co6
  · exact qa_co7
  · exact qa_co8
  · exact qa_co9
  · exact qa_co10
  · exact qa_co11
end
section
/-! the small machine: what its steps do -/
def qa_cv (φ : qa_P → Nat) (v : qa_V) : Value := match v with
  | .inl p => .ref (φ p)
  | .inr v => v
def qa_cat (v : qa_V) : Nat := match v with
  | .inl _ => 1
  | .inr v => v.category
def qa_lm (φ : qa_P → Nat) (lv : qa_L) : List (Nat × Value) := lv.map (fun q => (q.1, qa_cv φ q.2))
abbrev qa_F : Type := Nat × qa_L × List qa_V
def qa_S (len n pc : Nat) (lv : qa_L) (o : Option (List qa_V)) : Option qa_F := if len = n then o.map (fun st => (pc + n, lv, st)) else none
def qa_ii (f : Int32 → Int32 → Option Value) (st : List qa_V) : Option (List qa_V) := match st with
  | .inr (.int y) :: .inr (.int x) :: r => (f x y).map (fun v => .inr v :: r)
  | _ => none
def qa_jj (f : Int64 → Int64 → Option Value) (st : List qa_V) : Option (List qa_V) := match st with
  | .inr (.long y) :: .inr (.long x) :: r => (f x y).map (fun v => .inr v :: r)
  | _ => none
def qa_dd (f : UInt64 → UInt64 → Option Value) (st : List qa_V) : Option (List qa_V) := match st with
  | .inr (.double y) :: .inr (.double x) :: r => (f x y).map (fun v => .inr v :: r)
  | _ => none
def qa_ui (f : Int32 → Value) (st : List qa_V) : Option (List qa_V) := match st with
  | .inr (.int x) :: r => some (.inr (f x) :: r)
  | _ => none
def qa_uj (f : Int64 → Value) (st : List qa_V) : Option (List qa_V) := match st with
  | .inr (.long x) :: r => some (.inr (f x) :: r)
  | _ => none
def qa_ud (f : UInt64 → Value) (st : List qa_V) : Option (List qa_V) := match st with
  | .inr (.double x) :: r => some (.inr (f x) :: r)
  | _ => none
def qa_ji (f : Int64 → Int32 → Value) (st : List qa_V) : Option (List qa_V) := match st with
  | .inr (.int y) :: .inr (.long x) :: r => some (.inr (f x y) :: r)
  | _ => none
def qa_li (lv : qa_L) (i : Nat) (st : List qa_V) : Option (List qa_V) := match qa_lk lv i with
  | some (.inr (.int x)) => some (.inr (.int x) :: st)
  | _ => none
def qa_ll (lv : qa_L) (i : Nat) (st : List qa_V) : Option (List qa_V) := match qa_lk lv i with
  | some (.inr (.long x)) => some (.inr (.long x) :: st)
  | _ => none
def qa_ld (lv : qa_L) (i : Nat) (st : List qa_V) : Option (List qa_V) := match qa_lk lv i with
  | some (.inr (.double x)) => some (.inr (.double x) :: st)
  | _ => none
def qa_la (lv : qa_L) (i : Nat) (st : List qa_V) : Option (List qa_V) := match qa_lk lv i with
  | some (.inl x) => some (.inl x :: st)
  | _ => none
/-- the locals behind a store of one slot, of two slots -/
def qa_s1 (i : Nat) (v : qa_V) (lv : qa_L) : qa_L := (i, v) :: lv.filter (fun q => !(q.1 == i) && !(q.1 + 1 == i && qa_cat q.2 == 2))
def qa_s2 (i : Nat) (v : qa_V) (lv : qa_L) : qa_L := (i, v) :: lv.filter (fun q => !(q.1 == i) && (!(q.1 == i + 1) && !(q.1 + 1 == i && qa_cat q.2 == 2)))
def qa_si (nL len n pc i : Nat) (lv : qa_L) (st : List qa_V) : Option qa_F := match st with
  | .inr (.int x) :: r => if len = n ∧ i < nL then some (pc + n, qa_s1 i (.inr (.int x)) lv, r) else none
  | _ => none
def qa_sa (nL len n pc i : Nat) (lv : qa_L) (st : List qa_V) : Option qa_F := match st with
  | .inl x :: r => if len = n ∧ i < nL then some (pc + n, qa_s1 i (.inl x) lv, r) else none
  | _ => none
def qa_sl (nL len n pc i : Nat) (lv : qa_L) (st : List qa_V) : Option qa_F := match st with
  | .inr (.long x) :: r => if len = n ∧ i + 1 < nL then some (pc + n, qa_s2 i (.inr (.long x)) lv, r) else none
  | _ => none
def qa_sd (nL len n pc i : Nat) (lv : qa_L) (st : List qa_V) : Option qa_F := match st with
  | .inr (.double x) :: r => if len = n ∧ i + 1 < nL then some (pc + n, qa_s2 i (.inr (.double x)) lv, r) else none
  | _ => none
def qa_to (pc : Nat) (off : Int) : Nat := ((pc : Int) + off).toNat
def qa_b1 (len pc : Nat) (off : Int) (lv : qa_L) (st : List qa_V) (t : Int32 → Bool) : Option qa_F := match st with
  | .inr (.int x) :: r => if len = 3 ∧ 0 ≤ (pc : Int) + off then some (if t x = true then qa_to pc off else pc + 3, lv, r) else none
  | _ => none
def qa_b2 (len pc : Nat) (off : Int) (lv : qa_L) (st : List qa_V) (t : Int32 → Int32 → Bool) : Option qa_F := match st with
  | .inr (.int y) :: .inr (.int x) :: r => if len = 3 ∧ 0 ≤ (pc : Int) + off then some (if t x y = true then qa_to pc off else pc + 3, lv, r) else none
  | _ => none
def qa_bn (len pc : Nat) (off : Int) (lv : qa_L) (st : List qa_V) : Option qa_F := match st with
  | .inl _ :: r => if len = 3 then some (pc + 3, lv, r) else none
  | .inr .null :: r => if len = 3 ∧ 0 ≤ (pc : Int) + off then some (qa_to pc off, lv, r) else none
  | _ => none
def qa_dp (st : List qa_V) : Option (List qa_V) := match st with
  | x :: r => if qa_cat x = 1 then some (x :: x :: r) else none
  | _ => none
def qa_pp (st : List qa_V) : Option (List qa_V) := match st with
  | x :: r => if qa_cat x = 1 then some r else none
  | _ => none
def qa_d2 (st : List qa_V) : Option (List qa_V) := match st with
  | x :: y :: r => if qa_cat x = 1 ∧ qa_cat y = 1 then some (x :: y :: x :: y :: r) else none
  | _ => none
/-- is the index within -/
def qa_in (i : Int32) (n : Nat) : Bool := decide (¬ (i < 0 ∨ n ≤ i.toNatClampNeg))
def qa_gf (k idx : Nat) (h : qa_P → qa_C) (st : List qa_V) : Option (List qa_V) := match st with
  | .inl p :: r => match qa_lk (qa_fl k) idx, h p with
    | some (ci, sl, _), .inl (cj, f) => if cj = ci then some (f sl :: r) else none
    | _, _ => none
  | _ => none
def qa_an_ (h : qa_P → qa_C) (st : List qa_V) : Option (List qa_V) := match st with
  | .inl p :: r => match h p with
    | .inr (τ, n, _) => if τ < 4 ∨ τ = 9 then some (.inr (.int (Int32.ofNat n)) :: r) else none
    | _ => none
  | _ => none
def qa_ia (h : qa_P → qa_C) (st : List qa_V) : Option (List qa_V) := match st with
  | .inr (.int i) :: .inl p :: r => match h p with
    | .inr (τ, n, .inl f) => if (τ = 0 ∨ τ = 9) ∧ qa_in i n = true then some (.inr (.int (f i.toNatClampNeg)) :: r) else none
    | _ => none
  | _ => none
def qa_ba (h : qa_P → qa_C) (st : List qa_V) : Option (List qa_V) := match st with
  | .inr (.int i) :: .inl p :: r => match h p with
    | .inr (τ, n, .inl f) => if τ = 1 ∧ qa_in i n = true then some (.inr (.int (f i.toNatClampNeg)) :: r) else none
    | _ => none
  | _ => none
def qa_ja (h : qa_P → qa_C) (st : List qa_V) : Option (List qa_V) := match st with
  | .inr (.int i) :: .inl p :: r => match h p with
    | .inr (τ, n, .inr (.inl f)) => if τ = 2 ∧ qa_in i n = true then some (.inr (.long (f i.toNatClampNeg)) :: r) else none
    | _ => none
  | _ => none
def qa_rv (o : Option qa_P) : qa_V := match o with
  | some p => .inl p
  | none => .inr .null
def qa_aa (h : qa_P → qa_C) (st : List qa_V) : Option (List qa_V) := match st with
  | .inr (.int i) :: .inl p :: r => match h p with
    | .inr (τ, n, .inr (.inr f)) => if τ = 3 ∧ qa_in i n = true then some (qa_rv (f i.toNatClampNeg) :: r) else none
    | _ => none
  | _ => none
def qa_lc (k idx : Nat) (st : List qa_V) : Option (List qa_V) := match qa_lk (qa_kl k) idx with
  | some (v, _) => some (.inr v :: st)
  | _ => none
def qa_lz (k idx : Nat) (st : List qa_V) : Option (List qa_V) := match qa_lk (qa_kz k) idx with
  | some (v, _) => some (.inr (.int v) :: st)
  | _ => none
def qa_ls (pc : Nat) (dflt : Int) (ps : Array (Int × Int)) (lv : qa_L) (st : List qa_V) : Option qa_F := match st with
  | .inr (.int x) :: r => if (ps.toList.zip (ps.toList.drop 1)).all (fun q => decide (q.1.1 < q.2.1)) = true ∧ 0 ≤ (pc : Int) + Op.lookupswitch.offset ps.toList dflt x.toInt then some (qa_to pc (Op.lookupswitch.offset ps.toList dflt x.toInt), lv, r) else none
  | _ => none
def qa_ts (pc : Nat) (dflt lo hi : Int) (offs : Array Int) (lv : qa_L) (st : List qa_V) : Option qa_F := match st with
  | .inr (.int x) :: r =>
    if x.toInt < lo ∨ hi < x.toInt then (if 0 ≤ (pc : Int) + dflt then some (qa_to pc dflt, lv, r) else none)
    else match offs[(x.toInt - lo).toNat]? with
      | some off => if 0 ≤ (pc : Int) + off then some (qa_to pc off, lv, r) else none
      | none => none
  | _ => none
/-- Object's constructor -/
def qa_ob (M : qa_M) (idx : Nat) (st : List qa_V) : Option (List qa_V) := match st with
  | .inl _ :: r => if (qa_oi.any (fun q => q.1 == qa_cl M && q.2.1 == idx)) = true ∧ (r.map qa_cat).sum ≤ 8 ∧ 1 ≤ qa_fr M ∧ 20 ≤ qa_lo M then some r else none
  | _ => none
/-- a step that writes no cell -/
def qa_do (M : qa_M) (h : qa_P → qa_C) (ins : Instr) (len pc : Nat) (lv : qa_L) (st : List qa_V) : Option qa_F := match ins with
  | .iconst n => qa_S len 1 pc lv (some (.inr (.int (Int32.ofInt n)) :: st))
  | .bipush n => qa_S len 2 pc lv (some (.inr (.int (Int8.ofInt n).toInt32) :: st))
  | .sipush n => qa_S len 3 pc lv (some (.inr (.int (Int16.ofInt n).toInt32) :: st))
  | .lconst n => qa_S len 1 pc lv (some (.inr (.long (Int64.ofNat (n : Nat))) :: st))
  | .dconst d => qa_S len 1 pc lv (some (.inr (.double (if (d : Nat) = 0 then FP.dconst0 else FP.dconst1)) :: st))
  | .ldc2_w i => qa_S len 3 pc lv (qa_lc (qa_cl M) i st)
  | .ldc i => qa_S len 2 pc lv (qa_lz (qa_cl M) i st)
  | .iload_n i => qa_S len 1 pc lv (qa_li lv (i : Nat) st)
  | .iload i => qa_S len 2 pc lv (qa_li lv i st)
  | .lload_n i => qa_S len 1 pc lv (qa_ll lv (i : Nat) st)
  | .lload i => qa_S len 2 pc lv (qa_ll lv i st)
  | .dload_n i => qa_S len 1 pc lv (qa_ld lv (i : Nat) st)
  | .dload i => qa_S len 2 pc lv (qa_ld lv i st)
  | .aload_n i => qa_S len 1 pc lv (qa_la lv (i : Nat) st)
  | .aload i => qa_S len 2 pc lv (qa_la lv i st)
  | .istore_n i => qa_si (qa_ml M) len 1 pc (i : Nat) lv st
  | .istore i => qa_si (qa_ml M) len 2 pc i lv st
  | .lstore_n i => qa_sl (qa_ml M) len 1 pc (i : Nat) lv st
  | .lstore i => qa_sl (qa_ml M) len 2 pc i lv st
  | .dstore_n i => qa_sd (qa_ml M) len 1 pc (i : Nat) lv st
  | .dstore i => qa_sd (qa_ml M) len 2 pc i lv st
  | .astore_n i => qa_sa (qa_ml M) len 1 pc (i : Nat) lv st
  | .astore i => qa_sa (qa_ml M) len 2 pc i lv st
  | .iinc i n => match qa_lk lv i with
    | some (.inr (.int x)) => if len = 3 ∧ i < qa_ml M then some (pc + 3, qa_s1 i (.inr (.int (x + Int32.ofInt n))) lv, st) else none
    | _ => none
  | .iadd => qa_S len 1 pc lv (qa_ii (fun x y => some (.int (x + y))) st)
  | .isub => qa_S len 1 pc lv (qa_ii (fun x y => some (.int (x - y))) st)
  | .imul => qa_S len 1 pc lv (qa_ii (fun x y => some (.int (x * y))) st)
  | .iand => qa_S len 1 pc lv (qa_ii (fun x y => some (.int (x &&& y))) st)
  | .ior => qa_S len 1 pc lv (qa_ii (fun x y => some (.int (x ||| y))) st)
  | .ishl => qa_S len 1 pc lv (qa_ii (fun x y => some (.int (x <<< (y &&& 31)))) st)
  | .ishr => qa_S len 1 pc lv (qa_ii (fun x y => some (.int (x >>> (y &&& 31)))) st)
  | .idiv => qa_S len 1 pc lv (qa_ii (fun x y => if y = 0 then none else some (.int (x / y))) st)
  | .irem => qa_S len 1 pc lv (qa_ii (fun x y => if y = 0 then none else some (.int (x - x / y * y))) st)
  | .ineg => qa_S len 1 pc lv (qa_ui (fun x => .int (-x)) st)
  | .i2l => qa_S len 1 pc lv (qa_ui (fun x => .long x.toInt64) st)
  | .i2d => qa_S len 1 pc lv (qa_ui (fun x => .double (FP.i2d x)) st)
  | .l2d => qa_S len 1 pc lv (qa_uj (fun x => .double (FP.l2d x)) st)
  | .d2l => qa_S len 1 pc lv (qa_ud (fun x => .long (FP.d2l x)) st)
  | .ladd => qa_S len 1 pc lv (qa_jj (fun x y => some (.long (x + y))) st)
  | .lmul => qa_S len 1 pc lv (qa_jj (fun x y => some (.long (x * y))) st)
  | .lcmp => qa_S len 1 pc lv (qa_jj (fun x y => some (.int (lg_cmp x y))) st)
  | .lshl => qa_S len 1 pc lv (qa_ji (fun x y => .long (x <<< (y.toInt64 &&& 63))) st)
  | .ddiv => qa_S len 1 pc lv (qa_dd (fun x y => if FP.ddiv x y &&& 0x7fffffffffffffff ≤ 0x7ff0000000000000 then some (.double (FP.ddiv x y)) else none) st)
  | .dmul => qa_S len 1 pc lv (qa_dd (fun x y => if FP.dmul x y &&& 0x7fffffffffffffff ≤ 0x7ff0000000000000 then some (.double (FP.dmul x y)) else none) st)
  | .dsub => qa_S len 1 pc lv (qa_dd (fun x y => if FP.dsub x y &&& 0x7fffffffffffffff ≤ 0x7ff0000000000000 then some (.double (FP.dsub x y)) else none) st)
  | .dcmp op => qa_S len 1 pc lv (qa_dd (fun x y => some (.int (Op.cmpValue (FP.dcmp x y) op))) st)
  | .dup => qa_S len 1 pc lv (qa_dp st)
  | .pop => qa_S len 1 pc lv (qa_pp st)
  | .dup2 => qa_S len 1 pc lv (qa_d2 st)
  | .goto off => if len = 3 ∧ 0 ≤ (pc : Int) + off then some (qa_to pc off, lv, st) else none
  | .ifCond .eq off => qa_b1 len pc off lv st (fun x => decide (x = 0))
  | .ifCond .ne off => qa_b1 len pc off lv st (fun x => decide (¬ x = 0))
  | .ifCond .lt off => qa_b1 len pc off lv st (fun x => decide (x < 0))
  | .ifCond .ge off => qa_b1 len pc off lv st (fun x => decide (0 ≤ x))
  | .ifCond .gt off => qa_b1 len pc off lv st (fun x => decide (0 < x))
  | .ifCond .le off => qa_b1 len pc off lv st (fun x => decide (x ≤ 0))
  | .if_icmp .eq off => qa_b2 len pc off lv st (fun x y => decide (x = y))
  | .if_icmp .ne off => qa_b2 len pc off lv st (fun x y => decide (¬ x = y))
  | .if_icmp .lt off => qa_b2 len pc off lv st (fun x y => decide (x < y))
  | .if_icmp .ge off => qa_b2 len pc off lv st (fun x y => decide (y ≤ x))
  | .if_icmp .gt off => qa_b2 len pc off lv st (fun x y => decide (y < x))
  | .if_icmp .le off => qa_b2 len pc off lv st (fun x y => decide (x ≤ y))
  | .ifnull off => qa_bn len pc off lv st
  | .lookupswitch dflt ps => qa_ls pc dflt ps lv st
  | .tableswitch dflt lo hi offs => qa_ts pc dflt lo hi offs lv st
  | .getfield i => qa_S len 3 pc lv (qa_gf (qa_cl M) i h st)
  | .arraylength => qa_S len 1 pc lv (qa_an_ h st)
  | .iaload => qa_S len 1 pc lv (qa_ia h st)
  | .baload => qa_S len 1 pc lv (qa_ba h st)
  | .aaload => qa_S len 1 pc lv (qa_aa h st)
  | .invokespecial i => qa_S len 3 pc lv (qa_ob M i st)
  | _ => none
/-- the type of a field, is it final, and does a value fit -/
def qa_ft (ci : Nat) : Nat → FieldType := match ci with
  | 0 => tyX0
  | 1 => tyX1
  | 2 => tyX2
  | 3 => tyX3
  | 4 => tyX4
  | 5 => tyX5
  | 6 => tyX6
  | 7 => tyX7
  | 8 => tyX8
  | 9 => tyX9
  | _ => tyX10
def qa_fn (ci sl : Nat) : Bool := match vwCl[ci]? with
  | some q => (q.2.1 sl).2.2.2
  | none => false
def qa_fz (ci : Nat) : Nat := match vwCl[ci]? with
  | some q => q.2.2
  | none => 0
def qa_fit (ty : FieldType) (v : qa_V) : Bool := match v with
  | .inl _ => (match ty with
    | .object _ | .array _ => true
    | _ => false)
  | .inr v => decide (narrow ty v = v) && fits ty v
def qa_up (h : qa_P → qa_C) (p : qa_P) (c : qa_C) : qa_P → qa_C := fun q => if q = p then c else h q
/-- a step that writes one cell: the next place, the stack, the cell's position and what it holds then -/
def qa_wr (M : qa_M) (ins : Instr) (len pc : Nat) (st : List qa_V) (h : qa_P → qa_C) : Option (Nat × List qa_V × qa_P × qa_C) := match ins with
  | .putfield i => match st with
    | v :: .inl p :: r => match qa_lk (qa_fl (qa_cl M)) i, h p with
      | some (ci, sl, _), .inl (cj, f) => if len = 3 ∧ cj = ci ∧ qa_fit (qa_ft ci sl) v = true ∧ (qa_fn ci sl = true → qa_sk M = 0 ∧ ci = qa_cl M) then some (pc + 3, r, p, .inl (ci, fun j => if j = sl then v else f j)) else none
      | _, _ => none
    | _ => none
  | .iastore => match st with
    | .inr (.int x) :: .inr (.int i) :: .inl p :: r => match h p with
      | .inr (τ, n, .inl f) => if len = 1 ∧ τ = 0 ∧ qa_in i n = true then some (pc + 1, r, p, .inr (0, n, .inl (upd f i.toNatClampNeg x))) else none
      | _ => none
    | _ => none
  | .bastore => match st with
    | .inr (.int x) :: .inr (.int i) :: .inl p :: r => match h p with
      | .inr (τ, n, .inl f) => if len = 1 ∧ τ = 1 ∧ qa_in i n = true ∧ (x = 0 ∨ x = 1) then some (pc + 1, r, p, .inr (1, n, .inl (upd f i.toNatClampNeg x))) else none
      | _ => none
    | _ => none
  | .aastore => match st with
    | .inl v :: .inr (.int i) :: .inl p :: r => match h p, h v with
      | .inr (τ, n, .inr (.inr f)), .inl (cj, _) => if len = 1 ∧ τ = 3 ∧ cj = 1 ∧ qa_in i n = true then some (pc + 1, r, p, .inr (3, n, .inr (.inr (va_up f i.toNatClampNeg (some v))))) else none
      | _, _ => none
    | _ => none
  | _ => none
/-- a step that makes a cell: the next place, the stack under the reference, the cell, its elements -/
def qa_mkc (M : qa_M) (ins : Instr) (len pc : Nat) (st : List qa_V) : Option (Nat × List qa_V × qa_C × Nat) := match ins with
  | .new i => match qa_lk (qa_nw (qa_cl M)) i with
    | some (ci, _) => if len = 3 then some (pc + 3, st, .inl (ci, fun j => .inr (defaultValue (qa_ft ci j))), qa_fz ci) else none
    | _ => none
  | .newarray t => match st with
    | .inr (.int n) :: r => if len = 2 ∧ ¬ n < 0 ∧ n.toNatClampNeg ≤ 60000000 then (match t with
      | .int => some (pc + 2, r, .inr (0, n.toNatClampNeg, .inl (fun _ => 0)), n.toNatClampNeg)
      | .boolean => some (pc + 2, r, .inr (1, n.toNatClampNeg, .inl (fun _ => 0)), n.toNatClampNeg)
      | _ => none) else none
    | _ => none
  | .anewarray i => match st with
    | .inr (.int n) :: r => if len = 3 ∧ ¬ n < 0 ∧ n.toNatClampNeg ≤ 60000000 ∧ (qa_an.any (fun q => q.1 == qa_cl M && q.2.1 == i)) = true then some (pc + 3, r, .inr (3, n.toNatClampNeg, .inr (.inr (fun _ => none))), n.toNatClampNeg) else none
    | _ => none
  | _ => none
/-- where a new cell goes: a Bonfire begins a region of its own -/
def qa_at (nx : qa_P) (c : qa_C) : qa_P := match c with
  | .inl (1, _) => (nx.1 + 1, 0)
  | _ => nx
def qa_nxt (p : qa_P) : qa_P := (p.1, p.2 + 1)
/-- a return -/
def qa_re (ret : Option FieldType) (ins : Instr) (len : Nat) (st : List qa_V) : Option (Option qa_V) := match ins with
  | .ireturn => match st with
    | [.inr (.int x)] => (match ret with
      | some ty => if len = 1 ∧ narrow ty (.int x) = .int x then some (some (.inr (.int x))) else none
      | none => none)
    | _ => none
  | .lreturn => match st with
    | [.inr (.long x)] => if len = 1 ∧ ret = some .long then some (some (.inr (.long x))) else none
    | _ => none
  | .dreturn => match st with
    | [.inr (.double x)] => if len = 1 ∧ ret = some .double then some (some (.inr (.double x))) else none
    | _ => none
  | .return_ => match st with
    | [] => if len = 1 ∧ ret = none then some none else none
    | _ => none
  | _ => none
/-- a throw made here: new, dup, invokespecial, athrow -/
def qa_th (M : qa_M) (ins : Instr) (len pc : Nat) (st : List qa_V) : Option Nat := match ins with
  | .new i => match qa_lk qa_xl i with
    | some (_, ik, ic) => if len = 3 ∧ ik = i ∧ qa_cl M = 9 ∧ (qa_hh M).isEmpty = true ∧ 6 ≤ qa_fr M ∧ 90 ≤ qa_lo M ∧ (st.map qa_cat).sum ≤ 8 ∧ qa_lk (qa_is M) (pc + 3) = some (.dup, 1) ∧ qa_lk (qa_is M) (pc + 4) = some (.invokespecial ic, 3) ∧ qa_lk (qa_is M) (pc + 7) = some (.athrow, 1) then some i else none
    | _ => none
  | _ => none
/-- the locals of a method's start -/
def qa_ag : Nat → List qa_V → qa_L
  | _, [] => []
  | i, v :: vs => (i, v) :: qa_ag (if qa_cat v = 2 then i + 2 else i + 1) vs
/-- is the receiver an object of the class -/
def qa_rc (h : qa_P → qa_C) (ci : Nat) (o : Option qa_V) : Bool := match o with
  | some (.inl p) => (match h p with
    | .inl (cj, _) => decide (cj = ci)
    | _ => false)
  | _ => false
/-- a call: the callee, is it by a nest, its arguments in their order, the stack under them -/
def qa_inv (M : qa_M) (h : qa_P → qa_C) (ins : Instr) (len : Nat) (st : List qa_V) : Option (qa_M × Bool × List qa_V × List qa_V) :=
  let go := fun (i sk : Nat) => match qa_lk (qa_ca (qa_cl M)) i with
    | some (M', nest, _) =>
      if len = 3 ∧ qa_sk M' = sk ∧ qa_na M' ≤ st.length ∧ ((st.drop (qa_na M')).map qa_cat).sum ≤ 8 ∧ ((st.take (qa_na M')).map qa_cat).sum ≤ qa_ml M' ∧ qa_fr M' + 1 ≤ qa_fr M ∧ 19 + qa_ml M' + qa_lo M' ≤ qa_lo M ∧ ((qa_hh M').isEmpty = true ∨ (sk = 1 ∧ nest = false))
        ∧ (sk = 1 ∨ qa_rc h (qa_cl M') (st.take (qa_na M')).getLast? = true)
      then some (M', nest, (st.take (qa_na M')).reverse, st.drop (qa_na M')) else none
    | none => none
  match ins with
  | .invokevirtual i => go i 2
  | .invokespecial i => go i 0
  | .invokestatic i => go i 1
  | _ => none
/-- the handler that takes an exception -/
def qa_hd : List (Nat × Nat × Nat × Nat) → Nat → Nat → Option Nat
  | [], _, _ => none
  | (a, b, t, ct) :: l, pc, E => if a ≤ pc ∧ pc < b then (match qa_lk qa_ht ct with
    | some E' => if E' = E then some t else qa_hd l pc E
    | none => none) else qa_hd l pc E
abbrev qa_Z : Type := (Option qa_V ⊕ Nat) × qa_H × Nat × Nat
def qa_pl (k sl : Nat) (z : qa_Z) : qa_Z := (z.1, z.2.1, k + z.2.2.1, sl + z.2.2.2)
/-- the run of a method from a place on, with so many steps at most: how it ends, the heap, the cells and elements that it made -/
def qa_ex : Nat → qa_M → Nat → qa_L → List qa_V → qa_H → Option qa_Z
  | 0, _, _, _, _, _ => none
  | n + 1, M, pc, lv, st, h => match qa_lk (qa_is M) pc with
    | none => none
    | some (ins, len) => match qa_do M h.2 ins len pc lv st with
      | some F => qa_ex n M F.1 F.2.1 F.2.2 h
      | none => match qa_re (qa_rt M) ins len st with
        | some v => some (.inl v, h, 0, 0)
        | none => match qa_wr M ins len pc st h.2 with
          | some w => qa_ex n M w.1 lv w.2.1 (h.1, qa_up h.2 w.2.2.1 w.2.2.2)
          | none => match qa_mkc M ins len pc st with
            | some w => (qa_ex n M w.1 lv (.inl (qa_at h.1 w.2.2.1) :: w.2.1) (qa_nxt (qa_at h.1 w.2.2.1), qa_up h.2 (qa_at h.1 w.2.2.1) w.2.2.1)).map (qa_pl 1 w.2.2.2)
            | none => match qa_th M ins len pc st with
              | some E => some (.inr E, h, 1, 6)
              | none => match qa_inv M h.2 ins len st with
                | none => none
                | some w => match qa_ex n w.1 0 (qa_ag 0 w.2.2.1) [] h with
                  | none => none
                  | some (.inl v, h1, k, sl) => (qa_ex n M (pc + 3) lv (v.toList ++ w.2.2.2) h1).map (qa_pl k sl)
                  | some (.inr E, h1, k, sl) => if w.2.1 = true ∨ qa_sk w.1 = 0 then none else if (qa_hh M).isEmpty = true then some (.inr E, h1, k, sl) else match qa_hd (qa_hh M) pc E with
                    | none => none
                    | some t => (qa_ex n M t lv [.inl h1.1] (qa_nxt h1.1, qa_up h1.2 h1.1 (.inl (99, fun _ => .inr .null)))).map (qa_pl k sl)
end
section
/-! the small machine's heap against the machine's -/
theorem qa_S_inv {len n pc : Nat} {lv : qa_L} {o : Option (List qa_V)} {F : qa_F} (h : qa_S len n pc lv o = some F) : len = n ∧ ∃ st, o = some st ∧ F = (pc + n, lv, st) := by
  unfold qa_S at h
  split at h
  · next e =>
    cases o with
    | none => cases h
    | some st => exact ⟨e, st, rfl, (Option.some.inj h).symm⟩
  · cases h
theorem qa_ii_inv {f : Int32 → Int32 → Option Value} {st st' : List qa_V} (h : qa_ii f st = some st') : ∃ x y r v, st = .inr (.int y) :: .inr (.int x) :: r ∧ f x y = some v ∧ st' = .inr v :: r := by
  unfold qa_ii at h
  split at h
  · next y x r =>
    cases hf : f x y with
    | none => rw [hf] at h; cases h
    | some v => rw [hf] at h; exact ⟨x, y, r, v, rfl, hf, (Option.some.inj h).symm⟩
  · cases h
theorem qa_jj_inv {f : Int64 → Int64 → Option Value} {st st' : List qa_V} (h : qa_jj f st = some st') : ∃ x y r v, st = .inr (.long y) :: .inr (.long x) :: r ∧ f x y = some v ∧ st' = .inr v :: r := by
  unfold qa_jj at h
  split at h
  · next y x r =>
    cases hf : f x y with
    | none => rw [hf] at h; cases h
    | some v => rw [hf] at h; exact ⟨x, y, r, v, rfl, hf, (Option.some.inj h).symm⟩
  · cases h
theorem qa_dd_inv {f : UInt64 → UInt64 → Option Value} {st st' : List qa_V} (h : qa_dd f st = some st') : ∃ x y r v, st = .inr (.double y) :: .inr (.double x) :: r ∧ f x y = some v ∧ st' = .inr v :: r := by
  unfold qa_dd at h
  split at h
  · next y x r =>
    cases hf : f x y with
    | none => rw [hf] at h; cases h
    | some v => rw [hf] at h; exact ⟨x, y, r, v, rfl, hf, (Option.some.inj h).symm⟩
  · cases h
theorem qa_ui_inv {f : Int32 → Value} {st st' : List qa_V} (h : qa_ui f st = some st') : ∃ x r, st = .inr (.int x) :: r ∧ st' = .inr (f x) :: r := by
  unfold qa_ui at h
  split at h
  · exact ⟨_, _, rfl, (Option.some.inj h).symm⟩
  · cases h
theorem qa_uj_inv {f : Int64 → Value} {st st' : List qa_V} (h : qa_uj f st = some st') : ∃ x r, st = .inr (.long x) :: r ∧ st' = .inr (f x) :: r := by
  unfold qa_uj at h
  split at h
  · exact ⟨_, _, rfl, (Option.some.inj h).symm⟩
  · cases h
theorem qa_ud_inv {f : UInt64 → Value} {st st' : List qa_V} (h : qa_ud f st = some st') : ∃ x r, st = .inr (.double x) :: r ∧ st' = .inr (f x) :: r := by
  unfold qa_ud at h
  split at h
  · exact ⟨_, _, rfl, (Option.some.inj h).symm⟩
  · cases h
theorem qa_ji_inv {f : Int64 → Int32 → Value} {st st' : List qa_V} (h : qa_ji f st = some st') : ∃ x y r, st = .inr (.int y) :: .inr (.long x) :: r ∧ st' = .inr (f x y) :: r := by
  unfold qa_ji at h
  split at h
  · exact ⟨_, _, _, rfl, (Option.some.inj h).symm⟩
  · cases h
theorem qa_li_inv {lv : qa_L} {i : Nat} {st st' : List qa_V} (h : qa_li lv i st = some st') : ∃ x, qa_lk lv i = some (.inr (.int x)) ∧ st' = .inr (.int x) :: st := by
  unfold qa_li at h
  split at h
  · next x e => exact ⟨_, e, (Option.some.inj h).symm⟩
  · cases h
theorem qa_ll_inv {lv : qa_L} {i : Nat} {st st' : List qa_V} (h : qa_ll lv i st = some st') : ∃ x, qa_lk lv i = some (.inr (.long x)) ∧ st' = .inr (.long x) :: st := by
  unfold qa_ll at h
  split at h
  · next x e => exact ⟨_, e, (Option.some.inj h).symm⟩
  · cases h
theorem qa_ld_inv {lv : qa_L} {i : Nat} {st st' : List qa_V} (h : qa_ld lv i st = some st') : ∃ x, qa_lk lv i = some (.inr (.double x)) ∧ st' = .inr (.double x) :: st := by
  unfold qa_ld at h
  split at h
  · next x e => exact ⟨_, e, (Option.some.inj h).symm⟩
  · cases h
theorem qa_la_inv {lv : qa_L} {i : Nat} {st st' : List qa_V} (h : qa_la lv i st = some st') : ∃ x, qa_lk lv i = some (.inl x) ∧ st' = .inl x :: st := by
  unfold qa_la at h
  split at h
  · next x e => exact ⟨_, e, (Option.some.inj h).symm⟩
  · cases h
theorem qa_si_inv {nL len n pc i : Nat} {lv : qa_L} {st : List qa_V} {F : qa_F} (h : qa_si nL len n pc i lv st = some F) : ∃ x r, st = .inr (.int x) :: r ∧ len = n ∧ i < nL ∧ F = (pc + n, qa_s1 i (.inr (.int x)) lv, r) := by
  unfold qa_si at h
  split at h
  · split at h
    · next e => exact ⟨_, _, rfl, e.1, e.2, (Option.some.inj h).symm⟩
    · cases h
  · cases h
theorem qa_sa_inv {nL len n pc i : Nat} {lv : qa_L} {st : List qa_V} {F : qa_F} (h : qa_sa nL len n pc i lv st = some F) : ∃ x r, st = .inl x :: r ∧ len = n ∧ i < nL ∧ F = (pc + n, qa_s1 i (.inl x) lv, r) := by
  unfold qa_sa at h
  split at h
  · split at h
    · next e => exact ⟨_, _, rfl, e.1, e.2, (Option.some.inj h).symm⟩
    · cases h
  · cases h
theorem qa_sl_inv {nL len n pc i : Nat} {lv : qa_L} {st : List qa_V} {F : qa_F} (h : qa_sl nL len n pc i lv st = some F) : ∃ x r, st = .inr (.long x) :: r ∧ len = n ∧ i + 1 < nL ∧ F = (pc + n, qa_s2 i (.inr (.long x)) lv, r) := by
  unfold qa_sl at h
  split at h
  · split at h
    · next e => exact ⟨_, _, rfl, e.1, e.2, (Option.some.inj h).symm⟩
    · cases h
  · cases h
theorem qa_sd_inv {nL len n pc i : Nat} {lv : qa_L} {st : List qa_V} {F : qa_F} (h : qa_sd nL len n pc i lv st = some F) : ∃ x r, st = .inr (.double x) :: r ∧ len = n ∧ i + 1 < nL ∧ F = (pc + n, qa_s2 i (.inr (.double x)) lv, r) := by
  unfold qa_sd at h
  split at h
  · split at h
    · next e => exact ⟨_, _, rfl, e.1, e.2, (Option.some.inj h).symm⟩
    · cases h
  · cases h
theorem qa_to_eq {pc : Nat} {off : Int} (h : 0 ≤ (pc : Int) + off) : (pc : Int) + off = (qa_to pc off : Int) := (Int.toNat_of_nonneg h).symm
theorem qa_b1_inv {len pc : Nat} {off : Int} {lv : qa_L} {st : List qa_V} {t : Int32 → Bool} {F : qa_F} (h : qa_b1 len pc off lv st t = some F) : ∃ x r, st = .inr (.int x) :: r ∧ len = 3 ∧ 0 ≤ (pc : Int) + off ∧ F = (if t x = true then qa_to pc off else pc + 3, lv, r) := by
  unfold qa_b1 at h
  split at h
  · split at h
    · next e => exact ⟨_, _, rfl, e.1, e.2, (Option.some.inj h).symm⟩
    · cases h
  · cases h
theorem qa_b2_inv {len pc : Nat} {off : Int} {lv : qa_L} {st : List qa_V} {t : Int32 → Int32 → Bool} {F : qa_F} (h : qa_b2 len pc off lv st t = some F) : ∃ x y r, st = .inr (.int y) :: .inr (.int x) :: r ∧ len = 3 ∧ 0 ≤ (pc : Int) + off ∧ F = (if t x y = true then qa_to pc off else pc + 3, lv, r) := by
  unfold qa_b2 at h
  split at h
  · split at h
    · next e => exact ⟨_, _, _, rfl, e.1, e.2, (Option.some.inj h).symm⟩
    · cases h
  · cases h
theorem qa_gf_inv {k idx : Nat} {h : qa_P → qa_C} {st st' : List qa_V} (e : qa_gf k idx h st = some st') : ∃ p r ci sl pl f, st = .inl p :: r ∧ qa_lk (qa_fl k) idx = some (ci, sl, pl) ∧ h p = .inl (ci, f) ∧ st' = f sl :: r := by
  unfold qa_gf at e
  split at e
  · split at e
    · next h1 h2 =>
      split at e
      · next h3 => subst h3; exact ⟨_, _, _, _, _, _, rfl, h1, h2, (Option.some.inj e).symm⟩
      · cases e
    · cases e
  · cases e
theorem qa_an_inv {h : qa_P → qa_C} {st st' : List qa_V} (e : qa_an_ h st = some st') : ∃ p r τ n f, st = .inl p :: r ∧ h p = .inr (τ, n, f) ∧ (τ < 4 ∨ τ = 9) ∧ st' = .inr (.int (Int32.ofNat n)) :: r := by
  unfold qa_an_ at e
  split at e
  · split at e
    · next h1 =>
      split at e
      · next h3 => exact ⟨_, _, _, _, _, rfl, h1, h3, (Option.some.inj e).symm⟩
      · cases e
    · cases e
  · cases e
theorem qa_in_ok {i : Int32} {n : Nat} (h : qa_in i n = true) : vp_in i n := by
  unfold qa_in at h
  simpa [vp_in] using h
theorem qa_ia_inv {h : qa_P → qa_C} {st st' : List qa_V} (e : qa_ia h st = some st') : ∃ p r τ n f i, st = .inr (.int i) :: .inl p :: r ∧ h p = .inr (τ, n, .inl f) ∧ (τ = 0 ∨ τ = 9) ∧ vp_in i n ∧ st' = .inr (.int (f i.toNatClampNeg)) :: r := by
  unfold qa_ia at e
  split at e
  · split at e
    · next h1 =>
      split at e
      · next h3 => exact ⟨_, _, _, _, _, _, rfl, h1, h3.1, qa_in_ok h3.2, (Option.some.inj e).symm⟩
      · cases e
    · cases e
  · cases e
theorem qa_ba_inv {h : qa_P → qa_C} {st st' : List qa_V} (e : qa_ba h st = some st') : ∃ p r n f i, st = .inr (.int i) :: .inl p :: r ∧ h p = .inr (1, n, .inl f) ∧ vp_in i n ∧ st' = .inr (.int (f i.toNatClampNeg)) :: r := by
  unfold qa_ba at e
  split at e
  · split at e
    · next h1 =>
      split at e
      · next h3 => obtain ⟨rfl, h4⟩ := h3; exact ⟨_, _, _, _, _, rfl, h1, qa_in_ok h4, (Option.some.inj e).symm⟩
      · cases e
    · cases e
  · cases e
theorem qa_ja_inv {h : qa_P → qa_C} {st st' : List qa_V} (e : qa_ja h st = some st') : ∃ p r n f i, st = .inr (.int i) :: .inl p :: r ∧ h p = .inr (2, n, .inr (.inl f)) ∧ vp_in i n ∧ st' = .inr (.long (f i.toNatClampNeg)) :: r := by
  unfold qa_ja at e
  split at e
  · split at e
    · next h1 =>
      split at e
      · next h3 => obtain ⟨rfl, h4⟩ := h3; exact ⟨_, _, _, _, _, rfl, h1, qa_in_ok h4, (Option.some.inj e).symm⟩
      · cases e
    · cases e
  · cases e
theorem qa_aa_inv {h : qa_P → qa_C} {st st' : List qa_V} (e : qa_aa h st = some st') : ∃ p r n f i, st = .inr (.int i) :: .inl p :: r ∧ h p = .inr (3, n, .inr (.inr f)) ∧ vp_in i n ∧ st' = qa_rv (f i.toNatClampNeg) :: r := by
  unfold qa_aa at e
  split at e
  · split at e
    · next h1 =>
      split at e
      · next h3 => obtain ⟨rfl, h4⟩ := h3; exact ⟨_, _, _, _, _, rfl, h1, qa_in_ok h4, (Option.some.inj e).symm⟩
      · cases e
    · cases e
  · cases e
theorem qa_cv_cat (φ : qa_P → Nat) (v : qa_V) : (qa_cv φ v).category = qa_cat v := by cases v <;> rfl
theorem qa_cats (φ : qa_P → Nat) (st : List qa_V) : ((st.map (qa_cv φ)).map fun v => v.category).sum = (st.map qa_cat).sum := by
  rw [List.map_map]
  congr 1
  exact List.map_congr_left fun v _ => qa_cv_cat φ v
theorem qa_s1_map (φ : qa_P → Nat) (i : Nat) (v : qa_V) (lv : qa_L) : (i, qa_cv φ v) :: (qa_lm φ lv).filter (fun q => !(q.1 == i) && !(q.1 + 1 == i && q.2.category == 2)) = qa_lm φ (qa_s1 i v lv) := by
  unfold qa_lm qa_s1
  rw [List.map_cons, List.filter_map]
  congr 3
  funext q
  show (!(q.1 == i) && !(q.1 + 1 == i && (qa_cv φ q.2).category == 2)) = _
  rw [qa_cv_cat]
theorem qa_s2_map (φ : qa_P → Nat) (i : Nat) (v : qa_V) (lv : qa_L) : (i, qa_cv φ v) :: (qa_lm φ lv).filter (fun q => !(q.1 == i) && (!(q.1 == i + 1) && !(q.1 + 1 == i && q.2.category == 2))) = qa_lm φ (qa_s2 i v lv) := by
  unfold qa_lm qa_s2
  rw [List.map_cons, List.filter_map]
  congr 3
  funext q
  show (!(q.1 == i) && (!(q.1 == i + 1) && !(q.1 + 1 == i && (qa_cv φ q.2).category == 2))) = _
  rw [qa_cv_cat]
theorem qa_has {φ : qa_P → Nat} {lv : qa_L} {i nL : Nat} {v : qa_V} {ls : Array Slot} (h : lv_has ls nL (qa_lm φ lv)) (e : qa_lk lv i = some v) : ls[i]? = some (.val (qa_cv φ v)) :=
  h.2.2 (i, qa_cv φ v) (List.mem_map.mpr ⟨(i, v), qa_lk_mem e, rfl⟩)
/-- positions that are ahead of the next free one -/
def qa_lt (p q : qa_P) : Prop := p.1 < q.1 ∨ (p.1 = q.1 ∧ p.2 < q.2)
def qa_ov (nx : qa_P) (v : qa_V) : Prop := match v with
  | .inl p => qa_lt p nx
  | .inr _ => True
def qa_oS (nx : qa_P) (st : List qa_V) : Prop := ∀ v ∈ st, qa_ov nx v
def qa_oL (nx : qa_P) (lv : qa_L) : Prop := ∀ q ∈ lv, qa_ov nx q.2
def qa_oC (nx : qa_P) (c : qa_C) : Prop := match c with
  | .inl (_, f) => ∀ k, qa_ov nx (f k)
  | .inr (_, _, .inr (.inr f)) => ∀ i p, f i = some p → qa_lt p nx
  | .inr (_, _, .inl _) => True
  | .inr (_, _, .inr (.inl _)) => True
theorem qa_oS_cons {nx : qa_P} {v : qa_V} {st : List qa_V} (h1 : qa_ov nx v) (h2 : qa_oS nx st) : qa_oS nx (v :: st) := List.forall_mem_cons.mpr ⟨h1, h2⟩
theorem qa_oS_tl {nx : qa_P} {v : qa_V} {st : List qa_V} (h : qa_oS nx (v :: st)) : qa_oS nx st := (List.forall_mem_cons.mp h).2
theorem qa_oS_hd {nx : qa_P} {v : qa_V} {st : List qa_V} (h : qa_oS nx (v :: st)) : qa_ov nx v := (List.forall_mem_cons.mp h).1
theorem qa_oL_s1 {nx : qa_P} {i : Nat} {v : qa_V} {lv : qa_L} (h1 : qa_ov nx v) (h2 : qa_oL nx lv) : qa_oL nx (qa_s1 i v lv) := List.forall_mem_cons.mpr ⟨h1, fun q hq => h2 q (List.mem_filter.mp hq).1⟩
theorem qa_oL_s2 {nx : qa_P} {i : Nat} {v : qa_V} {lv : qa_L} (h1 : qa_ov nx v) (h2 : qa_oL nx lv) : qa_oL nx (qa_s2 i v lv) := List.forall_mem_cons.mpr ⟨h1, fun q hq => h2 q (List.mem_filter.mp hq).1⟩
theorem qa_oL_lk {nx : qa_P} {i : Nat} {v : qa_V} {lv : qa_L} (h : qa_oL nx lv) (e : qa_lk lv i = some v) : qa_ov nx v := h (i, v) (qa_lk_mem e)
def qa_live (c : qa_C) : Bool := match c with
  | .inl (ci, _) => decide (ci < 11)
  | .inr (τ, _, _) => decide (τ < 4)
def qa_ty (τ : Nat) : FieldType := match τ with
  | 0 => .int
  | 1 => .boolean
  | 2 => .int
  | _ => .object RX1
def qa_tys (ca : Nat → ClassId) : List (ClassId × FieldType) := [(ca 0, .int), (ca 1, .boolean), (ca 2, .int), (ca 3, .object RX1)]
def qa_r (φ : qa_P → Nat) (r : qa_R) : (Nat → Int32) ⊕ (Nat → Int64) ⊕ (Nat → UInt32) ⊕ (Nat → UInt64) ⊕ (Nat → Option Nat) := match r with
  | .inl f => .inl f
  | .inr (.inl f) => .inr (.inl f)
  | .inr (.inr f) => .inr (.inr (.inr (.inr (fun i => (f i).map φ))))
def qa_fs (φ : qa_P → Nat) (ci : Nat) (f : Nat → qa_V) : List Value := (List.range (qa_fz ci)).map (fun k => qa_cv φ (f k))
def qa_e (φ : qa_P → Nat) (ca : Nat → ClassId) (c : qa_C) : va_E := match c with
  | .inl (ci, f) => .inr (ci, qa_fs φ ci f)
  | .inr (τ, n, r) => .inl (ca τ, n, qa_r φ r)
def qa_w (φ : qa_P → Nat) (ca : Nat → ClassId) (al : List qa_P) (h : qa_P → qa_C) : va_W := al.map (fun p => (φ p, qa_e φ ca (h p)))
def qa_A (z : Nat) : Nat → Prop := fun q => z ≤ q
/-- the machine's heap holds the small machine's cells -/
def qa_Hp (D : va_G) (ca : Nat → ClassId) (b L z : Nat) (xs : Nat → Int32) (φ : qa_P → Nat) (al : List qa_P) (h : qa_H) (H : Heap) : Prop :=
  va_P D vwCl (qa_w φ ca al h.2) H ∧ va_D (qa_A z) (qa_w φ ca al h.2) ∧ (∀ p, qa_live (h.2 p) = true → p ∈ al) ∧ (∀ p ∈ al, qa_lt p h.1) ∧
  (∀ p n r, h.2 p = .inr (9, n, r) → n = L ∧ r = .inl xs ∧ φ p = b) ∧ (∀ p ∈ al, qa_oC h.1 (h.2 p))
def qa_gw : List Cond := lw_tbl.filter goodWord
/-- the other words that are asked for: links to nest mates, casts, declarations -/
def qa_nwo (w : Cond) : Bool := match w with
  | .methodLinkNest .. => true
  | .castable .. => true
  | .declares _ => true
  | _ => false
def qa_nwl : List Cond := lw_tbl.filter qa_nwo
def qa_ncl : List (String × String) := (List.range 3).flatMap (fun i => (List.range 3).filterMap (fun j => if i = j then none else some (qa_xn (342 + 3 * i), qa_xn (342 + 3 * j))))
/-- what the tables and the cells that nobody writes say, at a method's start -/
def qa_En (D : va_G) (ca : Nat → ClassId) (b L z : Nat) (xs : Nat → Int32) (U : State) : Prop :=
  va_K D vwCl (qa_tys ca) U ∧ (∀ w ∈ qa_nwl, va_Nw w U) ∧ va_AO RX1 U ∧ (∀ q ∈ qa_ncl, va_Nc q.1 q.2 U) ∧ va_X b L xs U U.heap ∧
  vx_Zq Bundle.tN "UNASSIGNED_STACK" Bundle.steD (qa_A z) U U.heap ∧ vx_Zq Bundle.tN "SUPPRESSED_SENTINEL" Bundle.listD (qa_A z) U U.heap ∧ b < z ∧ z ≤ U.heap.size
theorem qa_gw_in {w : Cond} (h : qa_in_tbl w = true) : w ∈ qa_gw := by
  unfold qa_in_tbl at h
  simp only [Bool.and_eq_true] at h
  exact List.mem_filter.mpr ⟨of_decide_eq_true h.1, h.2⟩
theorem qa_gw_at {w : Cond} {i : Nat} (h : qa_wk w i = true) : w ∈ qa_gw := by
  unfold qa_wk at h
  simp only [Bool.and_eq_true] at h
  exact List.mem_filter.mpr ⟨List.mem_of_getElem? (of_decide_eq_true h.1), h.2⟩
theorem qa_cw_all {k : Nat} {q : vw_C} (h : vwCl[k]? = some q) : (Cond.initialized q.1 :: Cond.instantiable q.1 q.2.2 :: u_ws q.1 q.2.1 q.2.2).all qa_in_tbl = true := by
  match k, h with
  | 0, h => cases h; exact qa_cw_0
  | 1, h => cases h; exact qa_cw_1
  | 2, h => cases h; exact qa_cw_2
  | 3, h => cases h; exact qa_cw_3
  | 4, h => cases h; exact qa_cw_4
  | 5, h => cases h; exact qa_cw_5
  | 6, h => cases h; exact qa_cw_6
  | 7, h => cases h; exact qa_cw_7
  | 8, h => cases h; exact qa_cw_8
  | 9, h => cases h; exact qa_cw_9
  | k + 10, h => cases h
theorem qa_cws {k : Nat} {q : vw_C} (h : vwCl[k]? = some q) : Cond.initialized q.1 ∈ qa_gw ∧ Cond.instantiable q.1 q.2.2 ∈ qa_gw ∧ ∀ w ∈ u_ws q.1 q.2.1 q.2.2, w ∈ qa_gw := by
  have h1 := List.all_eq_true.mp (qa_cw_all h)
  exact ⟨qa_gw_in (h1 _ List.mem_cons_self), qa_gw_in (h1 _ (List.mem_cons_of_mem _ List.mem_cons_self)), fun w hw => qa_gw_in (h1 w (List.mem_cons_of_mem _ (List.mem_cons_of_mem _ hw)))⟩
theorem qa_ft_ok {k : Nat} {q : vw_C} (h : vwCl[k]? = some q) : (∀ j, j < q.2.2 → parseFieldDescriptor (q.2.1 j).2.2.1 = some (qa_ft k j)) ∧ (∀ a, a < q.2.2 → ∀ b, b < q.2.2 → a ≠ b → (q.2.1 a).2.1 ≠ (q.2.1 b).2.1) ∧ k < 11 ∧ q.1 = qa_cn k := by
  match k, h with
  | 0, h => cases h; exact ⟨tyX0_ok, nmX0, by decide, rfl⟩
  | 1, h => cases h; exact ⟨tyX1_ok, nmX1, by decide, rfl⟩
  | 2, h => cases h; exact ⟨tyX2_ok, nmX2, by decide, rfl⟩
  | 3, h => cases h; exact ⟨tyX3_ok, nmX3, by decide, rfl⟩
  | 4, h => cases h; exact ⟨tyX4_ok, nmX4, by decide, rfl⟩
  | 5, h => cases h; exact ⟨tyX5_ok, nmX5, by decide, rfl⟩
  | 6, h => cases h; exact ⟨tyX6_ok, nmX6, by decide, rfl⟩
  | 7, h => cases h; exact ⟨tyX7_ok, nmX7, by decide, rfl⟩
  | 8, h => cases h; exact ⟨tyX8_ok, nmX8, by decide, rfl⟩
  | 9, h => cases h; exact ⟨tyX9_ok, nmX9, by decide, rfl⟩
  | k + 10, h => cases h
theorem qa_w_at {φ : qa_P → Nat} {ca : Nat → ClassId} {al : List qa_P} {h : qa_P → qa_C} {p : qa_P} (hp : p ∈ al) : ∃ q0 : Nat, al[q0]? = some p ∧ (qa_w φ ca al h)[q0]? = some (φ p, qa_e φ ca (h p)) := by
  obtain ⟨q0, hq⟩ := List.getElem?_of_mem hp
  exact ⟨q0, hq, by unfold qa_w; rw [List.getElem?_map, hq]; rfl⟩
theorem qa_fz_eq {k : Nat} {q : vw_C} (h : vwCl[k]? = some q) : qa_fz k = q.2.2 := by unfold qa_fz; rw [h]
theorem qa_fs_at {φ : qa_P → Nat} {k sl : Nat} {q : vw_C} {f : Nat → qa_V} (h : vwCl[k]? = some q) (hs : sl < q.2.2) : (qa_fs φ k f)[sl]? = some (qa_cv φ (f sl)) := by
  unfold qa_fs
  rw [qa_fz_eq h, List.getElem?_map, List.getElem?_range hs]
  rfl
theorem qa_fl_at {k i ci sl pl : Nat} (hk : k < 12) (h : qa_lk (qa_fl k) i = some (ci, sl, pl)) : ∃ q, vwCl[ci]? = some q ∧ sl < q.2.2 ∧ Cond.fieldLink (qa_cn k) i (q.2.1 sl).1 (q.2.1 sl).2.1 (q.2.1 sl).2.2.1 ∈ qa_gw := by
  have h1 := List.all_eq_true.mp (qa_fl_k k hk) _ (qa_lk_mem h)
  unfold qa_fk at h1
  dsimp only at h1
  split at h1
  · next q e =>
    simp only [Bool.and_eq_true] at h1
    exact ⟨q, e, of_decide_eq_true h1.1, qa_gw_at h1.2⟩
  · cases h1
end
section
/-! one step that writes no cell -/
section QDO
variable {p : Program} {l : Launch} {e : Env} {R : Room} {s : State} {m : MethodId} {args : Array Value} {below : List Frame} {meth : Method} {c : Code} {H : Heap} {locs : List Loc} {cells slots : Nat} {Q : State → Prop}
variable {M : qa_M} {D : va_G} {ca : Nat → ClassId} {b L z : Nat} {xs : Nat → Int32} {φ : qa_P → Nat} {al : List qa_P} {h : qa_H} {pc len : Nat} {ls : Array Slot} {lv : qa_L} {st : List qa_V} {F : qa_F}
/-- what stands of a frame: the code, the class, the words, the room for calls -/
def qa_Fr (M : qa_M) (p : Program) (R : Room) (s : State) (m : MethodId) (args : Array Value) (c : Code) : Prop :=
  p.tables.exec = Jvm.exec ∧ c.code = qa_by M ∧ c.maxLocals = qa_ml M ∧ s.vm.findClass (qa_cn (qa_cl M)) = some m.cls ∧ (∀ w ∈ qa_gw, w.before args s = true) ∧ qa_cl M < 12 ∧ qa_fr M ≤ R.frames ∧ qa_lo M ≤ R.locals
theorem qa_tys_0 (ca : Nat → ClassId) : (qa_tys ca)[0]? = some (ca 0, .int) := rfl
theorem qa_tys_1 (ca : Nat → ClassId) : (qa_tys ca)[1]? = some (ca 1, .boolean) := rfl
theorem qa_tys_2 (ca : Nat → ClassId) : (qa_tys ca)[2]? = some (ca 2, .int) := rfl
theorem qa_tys_3 (ca : Nat → ClassId) : (qa_tys ca)[3]? = some (ca 3, .object RX1) := rfl
theorem qa_tys_at (ca : Nat → ClassId) {τ : Nat} (h : τ < 4) : (qa_tys ca)[τ]? = some (ca τ, qa_ty τ) := by
  match τ, h with
  | 0, _ => rfl
  | 1, _ => rfl
  | 2, _ => rfl
  | 3, _ => rfl
theorem qa_rv_cv (φ : qa_P → Nat) (o : Option qa_P) : va_rf (o.map φ) = qa_cv φ (qa_rv o) := by cases o <;> rfl
theorem qa_lc_inv {k idx : Nat} {st st' : List qa_V} (e : qa_lc k idx st = some st') : ∃ v pl, qa_lk (qa_kl k) idx = some (v, pl) ∧ st' = .inr v :: st := by
  unfold qa_lc at e
  split at e
  · next h1 => exact ⟨_, _, h1, (Option.some.inj e).symm⟩
  · cases e
theorem qa_bn_inv {len pc : Nat} {off : Int} {lv : qa_L} {st : List qa_V} {F : qa_F} (e : qa_bn len pc off lv st = some F) : (∃ x r, st = .inl x :: r ∧ len = 3 ∧ F = (pc + 3, lv, r)) ∨ (∃ r, st = .inr .null :: r ∧ len = 3 ∧ 0 ≤ (pc : Int) + off ∧ F = (qa_to pc off, lv, r)) := by
  unfold qa_bn at e
  split at e
  · split at e
    · next h1 => exact Or.inl ⟨_, _, rfl, h1, (Option.some.inj e).symm⟩
    · cases e
  · split at e
    · next h1 => exact Or.inr ⟨_, rfl, h1.1, h1.2, (Option.some.inj e).symm⟩
    · cases e
  · cases e
theorem qa_dp_inv {st st' : List qa_V} (e : qa_dp st = some st') : ∃ x r, st = x :: r ∧ qa_cat x = 1 ∧ st' = x :: x :: r := by
  unfold qa_dp at e
  split at e
  · split at e
    · next h1 => exact ⟨_, _, rfl, h1, (Option.some.inj e).symm⟩
    · cases e
  · cases e
theorem qa_pp_inv {st st' : List qa_V} (e : qa_pp st = some st') : ∃ x, st = x :: st' ∧ qa_cat x = 1 := by
  unfold qa_pp at e
  split at e
  · split at e
    · next h1 => cases e; exact ⟨_, rfl, h1⟩
    · cases e
  · cases e
theorem qa_d2_inv {st st' : List qa_V} (e : qa_d2 st = some st') : ∃ x y r, st = x :: y :: r ∧ qa_cat x = 1 ∧ qa_cat y = 1 ∧ st' = x :: y :: x :: y :: r := by
  unfold qa_d2 at e
  split at e
  · split at e
    · next h1 => exact ⟨_, _, _, rfl, h1.1, h1.2, (Option.some.inj e).symm⟩
    · cases e
  · cases e
theorem qa_ob_inv {M : qa_M} {idx : Nat} {st st' : List qa_V} (e : qa_ob M idx st = some st') : ∃ x, st = .inl x :: st' ∧ (Cond.methodLink (qa_cn (qa_cl M)) idx Lib.objectInit ∈ qa_gw) ∧ (st'.map qa_cat).sum ≤ 8 ∧ 1 ≤ qa_fr M ∧ 20 ≤ qa_lo M := by
  unfold qa_ob at e
  split at e
  · split at e
    · next h1 =>
      cases e
      obtain ⟨h1, h2, h3, h4⟩ := h1
      obtain ⟨q, hq, h5⟩ := List.any_eq_true.mp h1
      simp only [Bool.and_eq_true, beq_iff_eq] at h5
      have h6 := List.all_eq_true.mp qa_oi_k q hq
      rw [h5.1, h5.2] at h6
      exact ⟨_, rfl, qa_gw_at h6, h2, h3, h4⟩
    · cases e
  · cases e
theorem qa_ls_inv {pc : Nat} {dflt : Int} {ps : Array (Int × Int)} {lv : qa_L} {st : List qa_V} {F : qa_F} (e : qa_ls pc dflt ps lv st = some F) : ∃ x r, st = .inr (.int x) :: r ∧ (ps.toList.zip (ps.toList.drop 1)).all (fun (a, next) => a.1 < next.1) = true ∧ 0 ≤ (pc : Int) + Op.lookupswitch.offset ps.toList dflt x.toInt ∧ F = (qa_to pc (Op.lookupswitch.offset ps.toList dflt x.toInt), lv, r) := by
  unfold qa_ls at e
  split at e
  · split at e
    · next h1 => exact ⟨_, _, rfl, h1.1, h1.2, (Option.some.inj e).symm⟩
    · cases e
  · cases e
theorem qa_ts_inv {pc : Nat} {dflt lo hi : Int} {offs : Array Int} {lv : qa_L} {st : List qa_V} {F : qa_F} (e : qa_ts pc dflt lo hi offs lv st = some F) : ∃ x r, st = .inr (.int x) :: r ∧ (((x.toInt < lo ∨ hi < x.toInt) ∧ 0 ≤ (pc : Int) + dflt ∧ F = (qa_to pc dflt, lv, r)) ∨ ∃ off, ¬ (x.toInt < lo ∨ hi < x.toInt) ∧ offs[(x.toInt - lo).toNat]? = some off ∧ 0 ≤ (pc : Int) + off ∧ F = (qa_to pc off, lv, r)) := by
  unfold qa_ts at e
  split at e
  · split at e
    · next h1 =>
      split at e
      · next h2 => exact ⟨_, _, rfl, Or.inl ⟨h1, h2, (Option.some.inj e).symm⟩⟩
      · cases e
    · next h1 =>
      split at e
      · next off h2 =>
        split at e
        · next h3 => exact ⟨_, _, rfl, Or.inr ⟨off, h1, h2, h3, (Option.some.inj e).symm⟩⟩
        · cases e
      · cases e
  · cases e
theorem qa_kl_at {k i pl : Nat} {v : Value} (hk : k < 12) (h : qa_lk (qa_kl k) i = some (v, pl)) : (∃ x, v = .long x ∧ Cond.constantLong (qa_cn k) i x ∈ qa_gw) ∨ (∃ x, v = .double x ∧ Cond.constantDouble (qa_cn k) i x ∈ qa_gw) := by
  have h1 := List.all_eq_true.mp (qa_kl_k k hk) _ (qa_lk_mem h)
  unfold qa_kk at h1
  dsimp only at h1
  split at h1
  · exact Or.inl ⟨_, rfl, qa_gw_at h1⟩
  · exact Or.inr ⟨_, rfl, qa_gw_at h1⟩
  · cases h1
theorem qa_kz_at {k i pl : Nat} {v : Int32} (hk : k < 12) (h : qa_lk (qa_kz k) i = some (v, pl)) : Cond.constant (qa_cn k) i v ∈ qa_gw := qa_gw_at (List.all_eq_true.mp (qa_kz_k k hk) _ (qa_lk_mem h))
theorem qa_lz_inv {k idx : Nat} {st st' : List qa_V} (e : qa_lz k idx st = some st') : ∃ v pl, qa_lk (qa_kz k) idx = some (v, pl) ∧ st' = .inr (.int v) :: st := by
  unfold qa_lz at e
  split at e
  · next h1 => exact ⟨_, _, h1, (Option.some.inj e).symm⟩
  · cases e
set_option maxHeartbeats 1000000 in
theorem qa_doW (hF : qa_Fr M p R s m args c) (hE : qa_En D ca b L z xs s) (hI : qa_Hp D ca b L z xs φ al h H) (hS : va_S (qa_A z) s.heap H locs) (hl : lv_has ls (qa_ml M) (qa_lm φ lv)) (hoL : qa_oL h.1 lv) (hoS : qa_oS h.1 st)
    {ins : Instr} (hd : decode (qa_by M) pc = .ok (ins, len)) (hdo : qa_do M h.2 ins len pc lv st = some F)
    (kk : ∀ (ls' : Array Slot) (pc' : Nat), pc' = F.1 → lv_has ls' (qa_ml M) (qa_lm φ F.2.1) → qa_oL h.1 F.2.1 → qa_oS h.1 F.2.2 → W p l e R s m args below meth c H locs cells slots Q (F0 m pc' ls' (F.2.2.map (qa_cv φ)))) :
    W p l e R s m args below meth c H locs cells slots Q (F0 m pc ls (st.map (qa_cv φ))) := by
  obtain ⟨hx, hb, hml, hown, hts, hk, hfr, hlo⟩ := hF
  cases ins with
  | iconst n =>
    obtain ⟨rfl, st1, h1, rfl⟩ := qa_S_inv hdo
    cases h1
    exact lv_iconst hx hb hd rfl (kk ls _ rfl hl hoL (qa_oS_cons trivial hoS))
  | bipush n =>
    obtain ⟨rfl, st1, h1, rfl⟩ := qa_S_inv hdo
    cases h1
    exact lv_bipush hx hb hd rfl (kk ls _ rfl hl hoL (qa_oS_cons trivial hoS))
  | sipush n =>
    obtain ⟨rfl, st1, h1, rfl⟩ := qa_S_inv hdo
    cases h1
    exact lv_sipush hx hb hd rfl (kk ls _ rfl hl hoL (qa_oS_cons trivial hoS))
  | lconst n =>
    obtain ⟨rfl, st1, h1, rfl⟩ := qa_S_inv hdo
    cases h1
    exact lv_lconst hx hb hd rfl (kk ls _ rfl hl hoL (qa_oS_cons trivial hoS))
  | dconst d =>
    obtain ⟨rfl, st1, h1, rfl⟩ := qa_S_inv hdo
    cases h1
    match d, hd, kk with
    | ⟨0, _⟩, hd, kk => exact lv_dconst0 hx hb hd (kk ls _ rfl hl hoL (qa_oS_cons trivial hoS))
    | ⟨1, _⟩, hd, kk => exact lv_dconst1 hx hb hd (kk ls _ rfl hl hoL (qa_oS_cons trivial hoS))
  | ldc2_w i =>
    obtain ⟨rfl, st1, h1, rfl⟩ := qa_S_inv hdo
    obtain ⟨v, pl, h2, rfl⟩ := qa_lc_inv h1
    rcases qa_kl_at hk h2 with ⟨x, rfl, hw⟩ | ⟨x, rfl, hw⟩
    · exact lv_ldc2 hx hb hown (hts _ hw) hd (kk ls _ rfl hl hoL (qa_oS_cons trivial hoS))
    · exact lv_ldc2d hx hb hown (hts _ hw) hd (kk ls _ rfl hl hoL (qa_oS_cons trivial hoS))
  | ldc i =>
    obtain ⟨rfl, st1, h1, rfl⟩ := qa_S_inv hdo
    obtain ⟨v, pl, h2, rfl⟩ := qa_lz_inv h1
    exact lv_ldc hx hb hown (hts _ (qa_kz_at hk h2)) hd (kk ls _ rfl hl hoL (qa_oS_cons trivial hoS))
  | iload_n i =>
    obtain ⟨rfl, st1, h1, rfl⟩ := qa_S_inv hdo
    obtain ⟨x, h2, rfl⟩ := qa_li_inv h1
    exact lv_iload_n hx hb hd rfl (qa_has hl h2) (kk ls _ rfl hl hoL (qa_oS_cons trivial hoS))
  | iload i =>
    obtain ⟨rfl, st1, h1, rfl⟩ := qa_S_inv hdo
    obtain ⟨x, h2, rfl⟩ := qa_li_inv h1
    exact lv_iload hx hb hd (qa_has hl h2) (kk ls _ rfl hl hoL (qa_oS_cons trivial hoS))
  | lload_n i =>
    obtain ⟨rfl, st1, h1, rfl⟩ := qa_S_inv hdo
    obtain ⟨x, h2, rfl⟩ := qa_ll_inv h1
    exact lv_lload_n hx hb hd rfl (qa_has hl h2) (kk ls _ rfl hl hoL (qa_oS_cons trivial hoS))
  | lload i =>
    obtain ⟨rfl, st1, h1, rfl⟩ := qa_S_inv hdo
    obtain ⟨x, h2, rfl⟩ := qa_ll_inv h1
    exact lv_lload hx hb hd (qa_has hl h2) (kk ls _ rfl hl hoL (qa_oS_cons trivial hoS))
  | dload_n i =>
    obtain ⟨rfl, st1, h1, rfl⟩ := qa_S_inv hdo
    obtain ⟨x, h2, rfl⟩ := qa_ld_inv h1
    exact lv_dload_n hx hb hd rfl (qa_has hl h2) (kk ls _ rfl hl hoL (qa_oS_cons trivial hoS))
  | dload i =>
    obtain ⟨rfl, st1, h1, rfl⟩ := qa_S_inv hdo
    obtain ⟨x, h2, rfl⟩ := qa_ld_inv h1
    exact lv_dload hx hb hd (qa_has hl h2) (kk ls _ rfl hl hoL (qa_oS_cons trivial hoS))
  | aload_n i =>
    obtain ⟨rfl, st1, h1, rfl⟩ := qa_S_inv hdo
    obtain ⟨x, h2, rfl⟩ := qa_la_inv h1
    exact lv_aload_n hx hb hd rfl (qa_has hl h2) (kk ls _ rfl hl hoL (qa_oS_cons (show qa_ov h.1 (.inl x) from qa_oL_lk hoL h2) hoS))
  | aload i =>
    obtain ⟨rfl, st1, h1, rfl⟩ := qa_S_inv hdo
    obtain ⟨x, h2, rfl⟩ := qa_la_inv h1
    exact lv_aload hx hb hd (qa_has hl h2) (kk ls _ rfl hl hoL (qa_oS_cons (show qa_ov h.1 (.inl x) from qa_oL_lk hoL h2) hoS))
  | istore_n i =>
    obtain ⟨x, r, rfl, rfl, hi, rfl⟩ := qa_si_inv hdo
    exact lv_istore_n hx hb hd rfl hl hi (qa_s1_map φ _ (.inr (.int x)) lv) (fun ls1 hl1 => kk ls1 _ rfl hl1 (qa_oL_s1 trivial hoL) (qa_oS_tl hoS))
  | istore i =>
    obtain ⟨x, r, rfl, rfl, hi, rfl⟩ := qa_si_inv hdo
    exact lv_istore hx hb hd hl hi (qa_s1_map φ _ (.inr (.int x)) lv) (fun ls1 hl1 => kk ls1 _ rfl hl1 (qa_oL_s1 trivial hoL) (qa_oS_tl hoS))
  | lstore_n i =>
    obtain ⟨x, r, rfl, rfl, hi, rfl⟩ := qa_sl_inv hdo
    exact lv_lstore_n hx hb hd rfl hl hi (qa_s2_map φ _ (.inr (.long x)) lv) (fun ls1 hl1 => kk ls1 _ rfl hl1 (qa_oL_s2 trivial hoL) (qa_oS_tl hoS))
  | lstore i =>
    obtain ⟨x, r, rfl, rfl, hi, rfl⟩ := qa_sl_inv hdo
    exact lv_lstore hx hb hd hl hi (qa_s2_map φ _ (.inr (.long x)) lv) (fun ls1 hl1 => kk ls1 _ rfl hl1 (qa_oL_s2 trivial hoL) (qa_oS_tl hoS))
  | dstore_n i =>
    obtain ⟨x, r, rfl, rfl, hi, rfl⟩ := qa_sd_inv hdo
    exact lv_dstore_n hx hb hd rfl hl hi (qa_s2_map φ _ (.inr (.double x)) lv) (fun ls1 hl1 => kk ls1 _ rfl hl1 (qa_oL_s2 trivial hoL) (qa_oS_tl hoS))
  | dstore i =>
    obtain ⟨x, r, rfl, rfl, hi, rfl⟩ := qa_sd_inv hdo
    exact lv_dstore hx hb hd hl hi (qa_s2_map φ _ (.inr (.double x)) lv) (fun ls1 hl1 => kk ls1 _ rfl hl1 (qa_oL_s2 trivial hoL) (qa_oS_tl hoS))
  | astore_n i =>
    obtain ⟨x, r, rfl, rfl, hi, rfl⟩ := qa_sa_inv hdo
    exact lv_astore_n hx hb hd rfl hl hi (qa_s1_map φ _ (.inl x) lv) (fun ls1 hl1 => kk ls1 _ rfl hl1 (qa_oL_s1 (qa_oS_hd hoS) hoL) (qa_oS_tl hoS))
  | astore i =>
    obtain ⟨x, r, rfl, rfl, hi, rfl⟩ := qa_sa_inv hdo
    exact lv_astore hx hb hd hl hi (qa_s1_map φ _ (.inl x) lv) (fun ls1 hl1 => kk ls1 _ rfl hl1 (qa_oL_s1 (qa_oS_hd hoS) hoL) (qa_oS_tl hoS))
  | iinc i n =>
    unfold qa_do at hdo
    dsimp only at hdo
    split at hdo
    · next x h2 =>
      split at hdo
      · next h3 =>
        obtain ⟨rfl, hi⟩ := h3
        cases hdo
        obtain ⟨k, hk2⟩ := List.getElem?_of_mem (List.mem_map.mpr ⟨(i, .inr (.int x)), qa_lk_mem h2, rfl⟩ : (i, qa_cv φ (.inr (.int x))) ∈ qa_lm φ lv)
        exact lv_iinc hx hb hd hl hk2 rfl hi (qa_s1_map φ _ (.inr (.int (x + Int32.ofInt n))) lv) (fun ls1 hl1 => kk ls1 _ rfl hl1 (qa_oL_s1 trivial hoL) hoS)
      · cases hdo
    · cases hdo
  | iadd =>
    obtain ⟨rfl, st1, h1, rfl⟩ := qa_S_inv hdo
    obtain ⟨x, y, r, v, rfl, h2, rfl⟩ := qa_ii_inv h1
    cases h2
    exact lv_iadd hx hb hd (kk ls _ rfl hl hoL (qa_oS_cons trivial (qa_oS_tl (qa_oS_tl hoS))))
  | isub =>
    obtain ⟨rfl, st1, h1, rfl⟩ := qa_S_inv hdo
    obtain ⟨x, y, r, v, rfl, h2, rfl⟩ := qa_ii_inv h1
    cases h2
    exact lv_isub hx hb hd (kk ls _ rfl hl hoL (qa_oS_cons trivial (qa_oS_tl (qa_oS_tl hoS))))
  | imul =>
    obtain ⟨rfl, st1, h1, rfl⟩ := qa_S_inv hdo
    obtain ⟨x, y, r, v, rfl, h2, rfl⟩ := qa_ii_inv h1
    cases h2
    exact lv_imul hx hb hd (kk ls _ rfl hl hoL (qa_oS_cons trivial (qa_oS_tl (qa_oS_tl hoS))))
  | iand =>
    obtain ⟨rfl, st1, h1, rfl⟩ := qa_S_inv hdo
    obtain ⟨x, y, r, v, rfl, h2, rfl⟩ := qa_ii_inv h1
    cases h2
    exact lv_iand hx hb hd (kk ls _ rfl hl hoL (qa_oS_cons trivial (qa_oS_tl (qa_oS_tl hoS))))
  | ior =>
    obtain ⟨rfl, st1, h1, rfl⟩ := qa_S_inv hdo
    obtain ⟨x, y, r, v, rfl, h2, rfl⟩ := qa_ii_inv h1
    cases h2
    exact lv_ior hx hb hd (kk ls _ rfl hl hoL (qa_oS_cons trivial (qa_oS_tl (qa_oS_tl hoS))))
  | ishl =>
    obtain ⟨rfl, st1, h1, rfl⟩ := qa_S_inv hdo
    obtain ⟨x, y, r, v, rfl, h2, rfl⟩ := qa_ii_inv h1
    cases h2
    exact lv_ishl hx hb hd (kk ls _ rfl hl hoL (qa_oS_cons trivial (qa_oS_tl (qa_oS_tl hoS))))
  | ishr =>
    obtain ⟨rfl, st1, h1, rfl⟩ := qa_S_inv hdo
    obtain ⟨x, y, r, v, rfl, h2, rfl⟩ := qa_ii_inv h1
    cases h2
    exact lv_ishr hx hb hd (kk ls _ rfl hl hoL (qa_oS_cons trivial (qa_oS_tl (qa_oS_tl hoS))))
  | idiv =>
    obtain ⟨rfl, st1, h1, rfl⟩ := qa_S_inv hdo
    obtain ⟨x, y, r, v, rfl, h2, rfl⟩ := qa_ii_inv h1
    split at h2
    · cases h2
    · next hne =>
      cases h2
      exact lv_idiv hx hb hd hne (kk ls _ rfl hl hoL (qa_oS_cons trivial (qa_oS_tl (qa_oS_tl hoS))))
  | irem =>
    obtain ⟨rfl, st1, h1, rfl⟩ := qa_S_inv hdo
    obtain ⟨x, y, r, v, rfl, h2, rfl⟩ := qa_ii_inv h1
    split at h2
    · cases h2
    · next hne =>
      cases h2
      exact lv_irem hx hb hd hne (kk ls _ rfl hl hoL (qa_oS_cons trivial (qa_oS_tl (qa_oS_tl hoS))))
  | ineg =>
    obtain ⟨rfl, st1, h1, rfl⟩ := qa_S_inv hdo
    obtain ⟨x, r, rfl, rfl⟩ := qa_ui_inv h1
    exact lv_ineg hx hb hd (kk ls _ rfl hl hoL (qa_oS_cons trivial (qa_oS_tl hoS)))
  | i2l =>
    obtain ⟨rfl, st1, h1, rfl⟩ := qa_S_inv hdo
    obtain ⟨x, r, rfl, rfl⟩ := qa_ui_inv h1
    exact lv_i2l hx hb hd rfl (kk ls _ rfl hl hoL (qa_oS_cons trivial (qa_oS_tl hoS)))
  | i2d =>
    obtain ⟨rfl, st1, h1, rfl⟩ := qa_S_inv hdo
    obtain ⟨x, r, rfl, rfl⟩ := qa_ui_inv h1
    exact lv_i2d hx hb hd (kk ls _ rfl hl hoL (qa_oS_cons trivial (qa_oS_tl hoS)))
  | l2d =>
    obtain ⟨rfl, st1, h1, rfl⟩ := qa_S_inv hdo
    obtain ⟨x, r, rfl, rfl⟩ := qa_uj_inv h1
    exact lv_l2d hx hb hd (kk ls _ rfl hl hoL (qa_oS_cons trivial (qa_oS_tl hoS)))
  | d2l =>
    obtain ⟨rfl, st1, h1, rfl⟩ := qa_S_inv hdo
    obtain ⟨x, r, rfl, rfl⟩ := qa_ud_inv h1
    exact lv_d2l hx hb hd (kk ls _ rfl hl hoL (qa_oS_cons trivial (qa_oS_tl hoS)))
  | ladd =>
    obtain ⟨rfl, st1, h1, rfl⟩ := qa_S_inv hdo
    obtain ⟨x, y, r, v, rfl, h2, rfl⟩ := qa_jj_inv h1
    cases h2
    exact lv_ladd hx hb hd (kk ls _ rfl hl hoL (qa_oS_cons trivial (qa_oS_tl (qa_oS_tl hoS))))
  | lmul =>
    obtain ⟨rfl, st1, h1, rfl⟩ := qa_S_inv hdo
    obtain ⟨x, y, r, v, rfl, h2, rfl⟩ := qa_jj_inv h1
    cases h2
    exact lv_lmul hx hb hd (kk ls _ rfl hl hoL (qa_oS_cons trivial (qa_oS_tl (qa_oS_tl hoS))))
  | lcmp =>
    obtain ⟨rfl, st1, h1, rfl⟩ := qa_S_inv hdo
    obtain ⟨x, y, r, v, rfl, h2, rfl⟩ := qa_jj_inv h1
    cases h2
    exact W.lcmp hx hb hd (kk ls _ rfl hl hoL (qa_oS_cons trivial (qa_oS_tl (qa_oS_tl hoS))))
  | lshl =>
    obtain ⟨rfl, st1, h1, rfl⟩ := qa_S_inv hdo
    obtain ⟨x, y, r, rfl, rfl⟩ := qa_ji_inv h1
    exact lv_lshl hx hb hd rfl (kk ls _ rfl hl hoL (qa_oS_cons trivial (qa_oS_tl (qa_oS_tl hoS))))
  | ddiv =>
    obtain ⟨rfl, st1, h1, rfl⟩ := qa_S_inv hdo
    obtain ⟨x, y, r, v, rfl, h2, rfl⟩ := qa_dd_inv h1
    split at h2
    · next hne =>
      cases h2
      exact lv_ddiv hx hb hd hne (kk ls _ rfl hl hoL (qa_oS_cons trivial (qa_oS_tl (qa_oS_tl hoS))))
    · cases h2
  | dmul =>
    obtain ⟨rfl, st1, h1, rfl⟩ := qa_S_inv hdo
    obtain ⟨x, y, r, v, rfl, h2, rfl⟩ := qa_dd_inv h1
    split at h2
    · next hne =>
      cases h2
      exact lv_dmul hx hb hd hne (kk ls _ rfl hl hoL (qa_oS_cons trivial (qa_oS_tl (qa_oS_tl hoS))))
    · cases h2
  | dsub =>
    obtain ⟨rfl, st1, h1, rfl⟩ := qa_S_inv hdo
    obtain ⟨x, y, r, v, rfl, h2, rfl⟩ := qa_dd_inv h1
    split at h2
    · next hne =>
      cases h2
      exact lv_dsub hx hb hd hne (kk ls _ rfl hl hoL (qa_oS_cons trivial (qa_oS_tl (qa_oS_tl hoS))))
    · cases h2
  | dcmp op =>
    obtain ⟨rfl, st1, h1, rfl⟩ := qa_S_inv hdo
    obtain ⟨x, y, r, v, rfl, h2, rfl⟩ := qa_dd_inv h1
    cases h2
    exact lv_dcmp hx hb hd (kk ls _ rfl hl hoL (qa_oS_cons trivial (qa_oS_tl (qa_oS_tl hoS))))
  | dup =>
    obtain ⟨rfl, st1, h1, rfl⟩ := qa_S_inv hdo
    obtain ⟨x, r, rfl, hc, rfl⟩ := qa_dp_inv h1
    exact lv_dup hx hb hd ((qa_cv_cat φ x).trans hc) (kk ls _ rfl hl hoL (qa_oS_cons (qa_oS_hd hoS) hoS))
  | pop =>
    obtain ⟨rfl, st1, h1, rfl⟩ := qa_S_inv hdo
    obtain ⟨x, rfl, hc⟩ := qa_pp_inv h1
    exact lv_pop hx hb hd ((qa_cv_cat φ x).trans hc) (kk ls _ rfl hl hoL (qa_oS_tl hoS))
  | dup2 =>
    obtain ⟨rfl, st1, h1, rfl⟩ := qa_S_inv hdo
    obtain ⟨x, y, r, rfl, hc, hc2, rfl⟩ := qa_d2_inv h1
    exact lv_dup2_11 hx hb hd ((qa_cv_cat φ x).trans hc) ((qa_cv_cat φ y).trans hc2) (kk ls _ rfl hl hoL (qa_oS_cons (qa_oS_hd hoS) (qa_oS_cons (qa_oS_hd (qa_oS_tl hoS)) hoS)))
  | goto off =>
    unfold qa_do at hdo
    dsimp only at hdo
    split at hdo
    · next h3 =>
      obtain ⟨rfl, h0⟩ := h3
      cases hdo
      exact lv_goto hx hb hd (qa_to_eq h0) (kk ls _ rfl hl hoL hoS)
    · cases hdo
  | ifCond cnd off =>
    cases cnd with
    | eq =>
      obtain ⟨x, r, rfl, rfl, h0, rfl⟩ := qa_b1_inv hdo
      exact lv_if_eq hx hb hd (qa_to_eq h0) (fun ee => kk ls _ (if_pos (decide_eq_true ee)).symm hl hoL (qa_oS_tl hoS)) (fun ee => kk ls _ (if_neg (fun t => ee (of_decide_eq_true t))).symm hl hoL (qa_oS_tl hoS))
    | ne =>
      obtain ⟨x, r, rfl, rfl, h0, rfl⟩ := qa_b1_inv hdo
      exact lv_if_ne hx hb hd (qa_to_eq h0) (fun ee => kk ls _ (if_pos (decide_eq_true ee)).symm hl hoL (qa_oS_tl hoS)) (fun ee => kk ls _ (if_neg (fun t => absurd ee (of_decide_eq_true t))).symm hl hoL (qa_oS_tl hoS))
    | lt =>
      obtain ⟨x, r, rfl, rfl, h0, rfl⟩ := qa_b1_inv hdo
      exact lv_if_lt hx hb hd (qa_to_eq h0) (fun ee => kk ls _ (if_pos (decide_eq_true ee)).symm hl hoL (qa_oS_tl hoS)) (fun ee => kk ls _ (if_neg (fun t => ee (of_decide_eq_true t))).symm hl hoL (qa_oS_tl hoS))
    | ge =>
      obtain ⟨x, r, rfl, rfl, h0, rfl⟩ := qa_b1_inv hdo
      exact lv_if_ge hx hb hd (qa_to_eq h0) (fun ee => kk ls _ (if_pos (decide_eq_true ee)).symm hl hoL (qa_oS_tl hoS)) (fun ee => kk ls _ (if_neg (fun t => ee (of_decide_eq_true t))).symm hl hoL (qa_oS_tl hoS))
    | gt =>
      obtain ⟨x, r, rfl, rfl, h0, rfl⟩ := qa_b1_inv hdo
      exact lv_if_gt hx hb hd (qa_to_eq h0) (fun ee => kk ls _ (if_pos (decide_eq_true ee)).symm hl hoL (qa_oS_tl hoS)) (fun ee => kk ls _ (if_neg (fun t => ee (of_decide_eq_true t))).symm hl hoL (qa_oS_tl hoS))
    | le =>
      obtain ⟨x, r, rfl, rfl, h0, rfl⟩ := qa_b1_inv hdo
      exact lv_if_le hx hb hd (qa_to_eq h0) (fun ee => kk ls _ (if_pos (decide_eq_true ee)).symm hl hoL (qa_oS_tl hoS)) (fun ee => kk ls _ (if_neg (fun t => ee (of_decide_eq_true t))).symm hl hoL (qa_oS_tl hoS))
  | if_icmp cnd off =>
    cases cnd with
    | eq =>
      obtain ⟨x, y, r, rfl, rfl, h0, rfl⟩ := qa_b2_inv hdo
      exact lv_icmp_eq hx hb hd (qa_to_eq h0) (fun ee => kk ls _ (if_pos (decide_eq_true ee)).symm hl hoL (qa_oS_tl (qa_oS_tl hoS))) (fun ee => kk ls _ (if_neg (fun t => ee (of_decide_eq_true t))).symm hl hoL (qa_oS_tl (qa_oS_tl hoS)))
    | ne =>
      obtain ⟨x, y, r, rfl, rfl, h0, rfl⟩ := qa_b2_inv hdo
      exact lv_icmp_ne hx hb hd (qa_to_eq h0) (fun ee => kk ls _ (if_pos (decide_eq_true ee)).symm hl hoL (qa_oS_tl (qa_oS_tl hoS))) (fun ee => kk ls _ (if_neg (fun t => absurd ee (of_decide_eq_true t))).symm hl hoL (qa_oS_tl (qa_oS_tl hoS)))
    | lt =>
      obtain ⟨x, y, r, rfl, rfl, h0, rfl⟩ := qa_b2_inv hdo
      exact lv_icmp_lt hx hb hd (qa_to_eq h0) (fun ee => kk ls _ (if_pos (decide_eq_true ee)).symm hl hoL (qa_oS_tl (qa_oS_tl hoS))) (fun ee => kk ls _ (if_neg (fun t => ee (of_decide_eq_true t))).symm hl hoL (qa_oS_tl (qa_oS_tl hoS)))
    | ge =>
      obtain ⟨x, y, r, rfl, rfl, h0, rfl⟩ := qa_b2_inv hdo
      exact lv_icmp_ge hx hb hd (qa_to_eq h0) (fun ee => kk ls _ (if_pos (decide_eq_true ee)).symm hl hoL (qa_oS_tl (qa_oS_tl hoS))) (fun ee => kk ls _ (if_neg (fun t => ee (of_decide_eq_true t))).symm hl hoL (qa_oS_tl (qa_oS_tl hoS)))
    | gt =>
      obtain ⟨x, y, r, rfl, rfl, h0, rfl⟩ := qa_b2_inv hdo
      exact lv_icmp_gt hx hb hd (qa_to_eq h0) (fun ee => kk ls _ (if_pos (decide_eq_true ee)).symm hl hoL (qa_oS_tl (qa_oS_tl hoS))) (fun ee => kk ls _ (if_neg (fun t => ee (of_decide_eq_true t))).symm hl hoL (qa_oS_tl (qa_oS_tl hoS)))
    | le =>
      obtain ⟨x, y, r, rfl, rfl, h0, rfl⟩ := qa_b2_inv hdo
      exact lv_icmp_le hx hb hd (qa_to_eq h0) (fun ee => kk ls _ (if_pos (decide_eq_true ee)).symm hl hoL (qa_oS_tl (qa_oS_tl hoS))) (fun ee => kk ls _ (if_neg (fun t => ee (of_decide_eq_true t))).symm hl hoL (qa_oS_tl (qa_oS_tl hoS)))
  | ifnull off =>
    rcases qa_bn_inv hdo with ⟨x, r, rfl, rfl, rfl⟩ | ⟨r, rfl, rfl, h0, rfl⟩
    · exact lv_ifnull hx hb hd (kk ls _ rfl hl hoL (qa_oS_tl hoS))
    · exact lv_ifnullN hx hb hd (qa_to_eq h0) (kk ls _ rfl hl hoL (qa_oS_tl hoS))
  | lookupswitch dflt ps =>
    obtain ⟨x, r, rfl, h1, h0, rfl⟩ := qa_ls_inv hdo
    exact lv_lookup hx hb hd h1 rfl (qa_to_eq h0) (kk ls _ rfl hl hoL (qa_oS_tl hoS))
  | tableswitch dflt lo hi offs =>
    obtain ⟨x, r, rfl, h1⟩ := qa_ts_inv hdo
    rcases h1 with ⟨h1, h0, rfl⟩ | ⟨off, h1, h2, h0, rfl⟩
    · exact lv_tableOut hx hb hd h1 (qa_to_eq h0) (kk ls _ rfl hl hoL (qa_oS_tl hoS))
    · exact lv_tableIn hx hb hd (fun t => h1 (Or.inl t)) (fun t => h1 (Or.inr t)) h2 (qa_to_eq h0) (kk ls _ rfl hl hoL (qa_oS_tl hoS))
  | getfield i =>
    obtain ⟨rfl, st1, h1, rfl⟩ := qa_S_inv hdo
    obtain ⟨x, r, ci, sl, pl, f, rfl, h2, h3, rfl⟩ := qa_gf_inv h1
    obtain ⟨q, hq, hsl, hw⟩ := qa_fl_at hk h2
    have hal : x ∈ al := hI.2.2.1 x (by rw [h3]; exact decide_eq_true (qa_ft_ok hq).2.2.1)
    obtain ⟨q0, -, hq0⟩ := qa_w_at (φ := φ) (ca := ca) (h := h.2) hal
    rw [h3] at hq0
    have hov : qa_ov h.1 (f sl) := by
      have := hI.2.2.2.2.2 x hal
      rw [h3] at this
      exact this sl
    exact va_get hx hb hts (qa_cws hq).2.2 hown hE.1 hI.1 q0 hq0 hq sl hsl (hts _ hw) (fun _ t => t) (qa_fs_at hq hsl) hd (kk ls _ rfl hl hoL (qa_oS_cons hov (qa_oS_tl hoS)))
  | arraylength =>
    obtain ⟨rfl, st1, h1, rfl⟩ := qa_S_inv hdo
    obtain ⟨x, r, τ, n, f, rfl, h2, h3, rfl⟩ := qa_an_inv h1
    by_cases h9 : τ = 9
    · subst h9
      obtain ⟨rfl, rfl, h5⟩ := hI.2.2.2.2.1 x _ _ h2
      show W p l e R s m args below meth c H locs cells slots Q (F0 m pc ls (.ref (φ x) :: r.map (qa_cv φ)))
      rw [h5]
      exact va_slen hx hb hE.2.2.2.2.1 (Nat.lt_of_lt_of_le hE.2.2.2.2.2.2.2.1 hE.2.2.2.2.2.2.2.2) (Nat.not_le.mpr hE.2.2.2.2.2.2.2.1) hS hd (kk ls _ rfl hl hoL (qa_oS_cons trivial (qa_oS_tl hoS)))
    · have h4 : τ < 4 := h3.resolve_right h9
      have hal : x ∈ al := hI.2.2.1 x (by rw [h2]; exact decide_eq_true h4)
      obtain ⟨q0, -, hq0⟩ := qa_w_at (φ := φ) (ca := ca) (h := h.2) hal
      rw [h2] at hq0
      have ht := qa_tys_at ca h4
      exact va_alen hx hb hE.1 hI.1 q0 τ hq0 ht rfl hd (kk ls _ rfl hl hoL (qa_oS_cons trivial (qa_oS_tl hoS)))
  | iaload =>
    obtain ⟨rfl, st1, h1, rfl⟩ := qa_S_inv hdo
    obtain ⟨x, r, τ, n, f, i, rfl, h2, h3, hin, rfl⟩ := qa_ia_inv h1
    rcases h3 with rfl | rfl
    · have hal : x ∈ al := hI.2.2.1 x (by rw [h2]; rfl)
      obtain ⟨q0, -, hq0⟩ := qa_w_at (φ := φ) (ca := ca) (h := h.2) hal
      rw [h2] at hq0
      exact va_iald hx hb hE.1 hI.1 q0 0 hq0 (qa_tys_0 ca) hin hd (kk ls _ rfl hl hoL (qa_oS_cons trivial (qa_oS_tl (qa_oS_tl hoS))))
    · obtain ⟨rfl, h4, h5⟩ := hI.2.2.2.2.1 x _ _ h2
      cases h4
      show W p l e R s m args below meth c H locs cells slots Q (F0 m pc ls (.int i :: .ref (φ x) :: r.map (qa_cv φ)))
      rw [h5]
      exact va_sld hx hb hE.2.2.2.2.1 (Nat.lt_of_lt_of_le hE.2.2.2.2.2.2.2.1 hE.2.2.2.2.2.2.2.2) (Nat.not_le.mpr hE.2.2.2.2.2.2.2.1) hS hin hd (kk ls _ rfl hl hoL (qa_oS_cons trivial (qa_oS_tl (qa_oS_tl hoS))))
  | baload =>
    obtain ⟨rfl, st1, h1, rfl⟩ := qa_S_inv hdo
    obtain ⟨x, r, n, f, i, rfl, h2, hin, rfl⟩ := qa_ba_inv h1
    have hal : x ∈ al := hI.2.2.1 x (by rw [h2]; rfl)
    obtain ⟨q0, -, hq0⟩ := qa_w_at (φ := φ) (ca := ca) (h := h.2) hal
    rw [h2] at hq0
    exact va_zald hx hb hE.1 hI.1 q0 1 hq0 (qa_tys_1 ca) hin hd (kk ls _ rfl hl hoL (qa_oS_cons trivial (qa_oS_tl (qa_oS_tl hoS))))
  | aaload =>
    obtain ⟨rfl, st1, h1, rfl⟩ := qa_S_inv hdo
    obtain ⟨x, r, n, f, i, rfl, h2, hin, rfl⟩ := qa_aa_inv h1
    have hal : x ∈ al := hI.2.2.1 x (by rw [h2]; rfl)
    obtain ⟨q0, -, hq0⟩ := qa_w_at (φ := φ) (ca := ca) (h := h.2) hal
    rw [h2] at hq0
    have hov : qa_ov h.1 (qa_rv (f i.toNatClampNeg)) := by
      have h6 := hI.2.2.2.2.2 x hal
      rw [h2] at h6
      cases h7 : f i.toNatClampNeg with
      | none => trivial
      | some y => exact h6 _ y h7
    have K := kk ls _ rfl hl hoL (qa_oS_cons hov (qa_oS_tl (qa_oS_tl hoS)))
    rw [List.map_cons, ← qa_rv_cv φ] at K
    exact va_aldq hx hb hE.1 hI.1 q0 3 hq0 (qa_tys_3 ca) hin hd K
  | invokespecial i =>
    obtain ⟨rfl, st1, h1, rfl⟩ := qa_S_inv hdo
    obtain ⟨x, rfl, hw, hc, hf1, hl1⟩ := qa_ob_inv h1
    have hwo := List.all_eq_true.mp qa_oi_w
    refine W.objInit (g := F0 m pc ls (.ref (φ x) :: st1.map (qa_cv φ))) hx hb hown (hts _ hw) (hts _ (qa_gw_in (hwo _ List.mem_cons_self))) (hts _ (qa_gw_in (hwo _ (List.mem_cons_of_mem _ List.mem_cons_self)))) rfl (hl.1.trans hml.symm) rfl hd (Nat.le_trans hf1 hfr) ?_ (kk ls _ rfl hl hoL (qa_oS_tl hoS))
    have h8 := lv_room (m := m) (pc := pc) (ls := ls) (rest := st1.map (qa_cv φ)) (st := st1.map (qa_cv φ)) (by rw [qa_cats]; exact hc)
    exact Nat.le_trans (Nat.add_le_add_right h8 12) (Nat.le_trans hl1 hlo)
  | _ =>
    cases hdo
end QDO
end
section
/-! a step that writes a cell, or makes one -/
section QWR
variable {p : Program} {l : Launch} {e : Env} {R : Room} {s : State} {m : MethodId} {args : Array Value} {below : List Frame} {meth : Method} {c : Code} {H : Heap} {locs : List Loc} {cells slots : Nat} {Q : State → Prop}
variable {M : qa_M} {D : va_G} {ca : Nat → ClassId} {b L z : Nat} {xs : Nat → Int32} {φ : qa_P → Nat} {al : List qa_P} {h : qa_H} {pc len : Nat} {ls : Array Slot} {st : List qa_V}
theorem qa_up_self (h : qa_P → qa_C) (x : qa_P) (v : qa_C) : qa_up h x v x = v := if_pos rfl
theorem qa_up_ne {h : qa_P → qa_C} {x y : qa_P} {v : qa_C} (e : y ≠ x) : qa_up h x v y = h y := if_neg e
theorem qa_w_set {h : qa_P → qa_C} {x : qa_P} {v : qa_C} {q0 : Nat} {A : Nat → Prop} (hD : va_D A (qa_w φ ca al h)) (hq : al[q0]? = some x) : (qa_w φ ca al h).set q0 (φ x, qa_e φ ca v) = qa_w φ ca al (qa_up h x v) := by
  have hw : ∀ (i : Nat) (y : qa_P), al[i]? = some y → (qa_w φ ca al h)[i]? = some (φ y, qa_e φ ca (h y)) := fun i y hi => by unfold qa_w; rw [List.getElem?_map, hi]; rfl
  have hlen : q0 < (qa_w φ ca al h).length := (List.getElem?_eq_some_iff.mp (hw q0 x hq)).1
  refine List.ext_getElem? fun i => ?_
  by_cases hi : i = q0
  · subst hi
    rw [List.getElem?_set_self hlen]
    unfold qa_w
    rw [List.getElem?_map, hq]
    show some _ = some (φ x, qa_e φ ca (qa_up h x v x))
    rw [qa_up_self]
  · rw [List.getElem?_set_ne (Ne.symm hi)]
    unfold qa_w
    rw [List.getElem?_map, List.getElem?_map]
    cases hy : al[i]? with
    | none => rfl
    | some y =>
      have hne : y ≠ x := fun t => hi (hD.1 i q0 _ _ (hw i y hy) (hw q0 x hq) (by rw [t]))
      show some (φ y, qa_e φ ca (h y)) = some (φ y, qa_e φ ca (qa_up h x v y))
      rw [qa_up_ne hne]
theorem qa_Hp_up {x : qa_P} {v : qa_C} {q0 : Nat} {H1 : Heap} (hI : qa_Hp D ca b L z xs φ al h H) (hq : al[q0]? = some x) (h9 : ∀ n r, v ≠ .inr (9, n, r)) (ho : qa_oC h.1 v)
    (hP : va_P D vwCl ((qa_w φ ca al h.2).set q0 (φ x, qa_e φ ca v)) H1) (hD : va_D (qa_A z) ((qa_w φ ca al h.2).set q0 (φ x, qa_e φ ca v))) : qa_Hp D ca b L z xs φ al (h.1, qa_up h.2 x v) H1 := by
  rw [qa_w_set hI.2.1 hq] at hP hD
  have hx : x ∈ al := List.mem_of_getElem? hq
  refine ⟨hP, hD, fun y hy => ?_, hI.2.2.2.1, fun y n r hy => ?_, fun y hy => ?_⟩
  · by_cases e1 : y = x
    · rw [e1]; exact hx
    · exact hI.2.2.1 y (by rw [← qa_up_ne (h := h.2) (v := v) e1]; exact hy)
  · by_cases e1 : y = x
    · rw [e1] at hy
      exact absurd ((qa_up_self h.2 x v).symm.trans hy) (h9 n r)
    · exact hI.2.2.2.2.1 y n r (by rw [← qa_up_ne (h := h.2) (v := v) e1]; exact hy)
  · show qa_oC h.1 (qa_up h.2 x v y)
    by_cases e1 : y = x
    · rw [e1, qa_up_self]; exact ho
    · rw [qa_up_ne e1]; exact hI.2.2.2.2.2 y hy
theorem qa_fit_ok {ty : FieldType} {v : qa_V} (h : qa_fit ty v = true) (φ : qa_P → Nat) : narrow ty (qa_cv φ v) = qa_cv φ v ∧ fits ty (qa_cv φ v) = true := by
  cases v with
  | inl y =>
    cases ty with
    | object n => exact ⟨rfl, rfl⟩
    | array n => exact ⟨rfl, rfl⟩
    | _ => cases h
  | inr w =>
    unfold qa_fit at h
    simp only [Bool.and_eq_true] at h
    exact ⟨of_decide_eq_true h.1, h.2⟩
theorem qa_dc {k sl : Nat} {q : vw_C} (h : vwCl[k]? = some q) (hs : sl < q.2.2) : (q.2.1 sl).1 = qa_cn k := by
  revert hs
  match k, h with
  | 0, h => cases h; exact fun hs => (show ∀ j, j < 7 → (TX0 j).1 = RX0 by decide +kernel) sl hs
  | 1, h => cases h; exact fun hs => (show ∀ j, j < 8 → (TX1 j).1 = RX1 by decide +kernel) sl hs
  | 2, h => cases h; exact fun hs => (show ∀ j, j < 5 → (TX2 j).1 = RX2 by decide +kernel) sl hs
  | 3, h => cases h; exact fun hs => (show ∀ j, j < 3 → (TX3 j).1 = RX3 by decide +kernel) sl hs
  | 4, h => cases h; exact fun hs => (show ∀ j, j < 5 → (TX4 j).1 = RX4 by decide +kernel) sl hs
  | 5, h => cases h; exact fun hs => (show ∀ j, j < 3 → (TX5 j).1 = RX5 by decide +kernel) sl hs
  | 6, h => cases h; exact fun hs => (show ∀ j, j < 9 → (TX6 j).1 = RX6 by decide +kernel) sl hs
  | 7, h => cases h; exact fun hs => (show ∀ j, j < 5 → (TX7 j).1 = RX7 by decide +kernel) sl hs
  | 8, h => cases h; exact fun hs => (show ∀ j, j < 5 → (TX8 j).1 = RX8 by decide +kernel) sl hs
  | 9, h => cases h; exact fun hs => (show ∀ j, j < 6 → (TX9 j).1 = RX9 by decide +kernel) sl hs
  | k + 10, h => cases h
theorem qa_fs_set {k sl : Nat} {f : Nat → qa_V} (v : qa_V) : (qa_fs φ k f).set sl (qa_cv φ v) = qa_fs φ k (fun j => if j = sl then v else f j) := by
  refine List.ext_getElem? fun i => ?_
  unfold qa_fs
  by_cases hi : i = sl
  · subst hi
    by_cases hl : i < qa_fz k
    · rw [List.getElem?_set_self (by simpa using hl), List.getElem?_map, List.getElem?_range hl]
      show some _ = some (qa_cv φ (if i = i then v else f i))
      rw [if_pos rfl]
    · rw [List.getElem?_eq_none (by simpa using Nat.not_lt.mp hl), List.getElem?_eq_none (by simpa using Nat.not_lt.mp hl)]
  · rw [List.getElem?_set_ne (Ne.symm hi), List.getElem?_map, List.getElem?_map]
    by_cases hl : i < qa_fz k
    · rw [List.getElem?_range hl]
      show some _ = some (qa_cv φ (if i = sl then v else f i))
      rw [if_neg hi]
    · rw [List.getElem?_eq_none (by simpa using Nat.not_lt.mp hl)]
      rfl
theorem qa_up_map (f : Nat → Option qa_P) (k : Nat) (v : qa_P) : (fun i => (va_up f k (some v) i).map φ) = va_up (fun i => (f i).map φ) k (some (φ v)) := by
  funext i
  unfold va_up
  by_cases hi : i = k
  · rw [if_pos hi, if_pos hi]; rfl
  · rw [if_neg hi, if_neg hi]
theorem qa_wr_put {i : Nat} {w : Nat × List qa_V × qa_P × qa_C} {hh : qa_P → qa_C} (e : qa_wr M (.putfield i) len pc st hh = some w) : ∃ v x r ci sl pl f, st = v :: .inl x :: r ∧ qa_lk (qa_fl (qa_cl M)) i = some (ci, sl, pl) ∧ hh x = .inl (ci, f) ∧ len = 3 ∧ qa_fit (qa_ft ci sl) v = true ∧ (qa_fn ci sl = true → qa_sk M = 0 ∧ ci = qa_cl M) ∧ w = (pc + 3, r, x, .inl (ci, fun j => if j = sl then v else f j)) := by
  unfold qa_wr at e
  dsimp only at e
  split at e
  · split at e
    · next h1 h2 =>
      split at e
      · next h3 => obtain ⟨h3, rfl, h4, h5⟩ := h3; exact ⟨_, _, _, _, _, _, _, rfl, h1, h2, h3, h4, h5, (Option.some.inj e).symm⟩
      · cases e
    · cases e
  · cases e
theorem qa_wr_iast {w : Nat × List qa_V × qa_P × qa_C} {hh : qa_P → qa_C} (e : qa_wr M .iastore len pc st hh = some w) : ∃ x i y r n f, st = .inr (.int x) :: .inr (.int i) :: .inl y :: r ∧ hh y = .inr (0, n, .inl f) ∧ len = 1 ∧ vp_in i n ∧ w = (pc + 1, r, y, .inr (0, n, .inl (upd f i.toNatClampNeg x))) := by
  unfold qa_wr at e
  dsimp only at e
  split at e
  · split at e
    · next h1 =>
      split at e
      · next h3 => obtain ⟨h3, rfl, h4⟩ := h3; exact ⟨_, _, _, _, _, _, rfl, h1, h3, qa_in_ok h4, (Option.some.inj e).symm⟩
      · cases e
    · cases e
  · cases e
theorem qa_wr_bast {w : Nat × List qa_V × qa_P × qa_C} {hh : qa_P → qa_C} (e : qa_wr M .bastore len pc st hh = some w) : ∃ x i y r n f, st = .inr (.int x) :: .inr (.int i) :: .inl y :: r ∧ hh y = .inr (1, n, .inl f) ∧ len = 1 ∧ vp_in i n ∧ (x = 0 ∨ x = 1) ∧ w = (pc + 1, r, y, .inr (1, n, .inl (upd f i.toNatClampNeg x))) := by
  unfold qa_wr at e
  dsimp only at e
  split at e
  · split at e
    · next h1 =>
      split at e
      · next h3 => obtain ⟨h3, rfl, h4, h5⟩ := h3; exact ⟨_, _, _, _, _, _, rfl, h1, h3, qa_in_ok h4, h5, (Option.some.inj e).symm⟩
      · cases e
    · cases e
  · cases e
theorem qa_wr_aast {w : Nat × List qa_V × qa_P × qa_C} {hh : qa_P → qa_C} (e : qa_wr M .aastore len pc st hh = some w) : ∃ x i y r n f g, st = .inl x :: .inr (.int i) :: .inl y :: r ∧ hh y = .inr (3, n, .inr (.inr f)) ∧ hh x = .inl (1, g) ∧ len = 1 ∧ vp_in i n ∧ w = (pc + 1, r, y, .inr (3, n, .inr (.inr (va_up f i.toNatClampNeg (some x))))) := by
  unfold qa_wr at e
  dsimp only at e
  split at e
  · split at e
    · next h1 h2 =>
      split at e
      · next h3 => obtain ⟨h3, rfl, rfl, h4⟩ := h3; exact ⟨_, _, _, _, _, _, _, rfl, h1, h2, h3, qa_in_ok h4, (Option.some.inj e).symm⟩
      · cases e
    · cases e
  · cases e
set_option maxHeartbeats 1000000 in
theorem qa_wrW (hF : qa_Fr M p R s m args c) (hE : qa_En D ca b L z xs s) (hI : qa_Hp D ca b L z xs φ al h H) (hS : va_S (qa_A z) s.heap H locs) (hini : qa_sk M = 0 → meth.name = "<init>") (hoS : qa_oS h.1 st)
    {ins : Instr} (hd : decode (qa_by M) pc = .ok (ins, len)) {w : Nat × List qa_V × qa_P × qa_C} (hw : qa_wr M ins len pc st h.2 = some w)
    (kk : ∀ (H1 : Heap) (locs1 : List Loc), qa_Hp D ca b L z xs φ al (h.1, qa_up h.2 w.2.2.1 w.2.2.2) H1 → va_S (qa_A z) s.heap H1 locs1 → qa_oS h.1 w.2.1 → W p l e R s m args below meth c H1 locs1 cells slots Q (F0 m w.1 ls (w.2.1.map (qa_cv φ)))) :
    W p l e R s m args below meth c H locs cells slots Q (F0 m pc ls (st.map (qa_cv φ))) := by
  obtain ⟨hx, hb, hml, hown, hts, hk, hfr, hlo⟩ := hF
  cases ins with
  | putfield i =>
    obtain ⟨v, x, r, ci, sl, pl, f, rfl, h2, h3, rfl, hfit, hfin, rfl⟩ := qa_wr_put hw
    obtain ⟨q, hq, hsl, hlk⟩ := qa_fl_at hk h2
    have hal : x ∈ al := hI.2.2.1 x (by rw [h3]; exact decide_eq_true (qa_ft_ok hq).2.2.1)
    obtain ⟨q0, hal0, hq0⟩ := qa_w_at (φ := φ) (ca := ca) (h := h.2) hal
    rw [h3] at hq0
    have hlen : sl < (qa_fs φ ci f).length := by unfold qa_fs; rw [List.length_map, List.length_range, qa_fz_eq hq]; exact hsl
    have hoc := hI.2.2.2.2.2 x hal
    rw [h3] at hoc
    have ho : qa_oC h.1 (.inl (ci, fun j => if j = sl then v else f j)) := fun j => by
      show qa_ov h.1 (if j = sl then v else f j)
      by_cases hj : j = sl
      · rw [if_pos hj]; exact qa_oS_hd hoS
      · rw [if_neg hj]; exact hoc j
    have hft := qa_fit_ok hfit φ
    by_cases hf9 : (q.2.1 sl).2.2.2 = true
    · have hf2 := hfin (by unfold qa_fn; rw [hq]; exact hf9)
      refine va_putF hx hb hts (qa_cws hq).2.2 (qa_ft ci) (qa_ft_ok hq).1 (qa_ft_ok hq).2.1 hown hE.1 hI.1 hI.2.1 hS q0 hq0 hq sl hsl (hts _ hlk) (fun _ t => t) hf9 (hini hf2.1) ((qa_dc hq hsl).trans (by rw [hf2.2])) ((qa_ft_ok hq).1 sl hsl) hft.1 hft.2 hlen hd (fun H1 locs1 hP1 hD1 hS1 => kk H1 locs1 ?_ hS1 (qa_oS_tl (qa_oS_tl hoS)))
      rw [qa_fs_set] at hP1 hD1
      exact qa_Hp_up (v := .inl (ci, fun j => if j = sl then v else f j)) hI hal0 (fun n r t => by cases t) ho hP1 hD1
    · refine va_put hx hb hts (qa_cws hq).2.2 (qa_ft ci) (qa_ft_ok hq).1 (qa_ft_ok hq).2.1 hown hE.1 hI.1 hI.2.1 hS q0 hq0 hq sl hsl (hts _ hlk) (fun _ t => t) (Bool.eq_false_iff.mpr hf9) ((qa_ft_ok hq).1 sl hsl) hft.1 hft.2 hlen hd (fun H1 locs1 hP1 hD1 hS1 => kk H1 locs1 ?_ hS1 (qa_oS_tl (qa_oS_tl hoS)))
      rw [qa_fs_set] at hP1 hD1
      exact qa_Hp_up (v := .inl (ci, fun j => if j = sl then v else f j)) hI hal0 (fun n r t => by cases t) ho hP1 hD1
  | iastore =>
    obtain ⟨x, i, y, r, n, f, rfl, h2, rfl, hin, rfl⟩ := qa_wr_iast hw
    have hal : y ∈ al := hI.2.2.1 y (by rw [h2]; rfl)
    obtain ⟨q0, hal0, hq0⟩ := qa_w_at (φ := φ) (ca := ca) (h := h.2) hal
    rw [h2] at hq0
    exact va_iast hx hb hE.1 hI.1 hI.2.1 hS q0 0 hq0 (qa_tys_0 ca) hin hd (fun H1 locs1 hP1 hD1 hS1 => kk H1 locs1 (qa_Hp_up (v := .inr (0, n, .inl (upd f i.toNatClampNeg x))) hI hal0 (fun n r t => by cases t) trivial hP1 hD1) hS1 (qa_oS_tl (qa_oS_tl (qa_oS_tl hoS))))
  | bastore =>
    obtain ⟨x, i, y, r, n, f, rfl, h2, rfl, hin, hx01, rfl⟩ := qa_wr_bast hw
    have hal : y ∈ al := hI.2.2.1 y (by rw [h2]; rfl)
    obtain ⟨q0, hal0, hq0⟩ := qa_w_at (φ := φ) (ca := ca) (h := h.2) hal
    rw [h2] at hq0
    have hnx : vp_nar .boolean x = x := by rcases hx01 with rfl | rfl <;> rfl
    refine va_zast hx hb hE.1 hI.1 hI.2.1 hS q0 1 hq0 (qa_tys_1 ca) hin hd (fun H1 locs1 hP1 hD1 hS1 => kk H1 locs1 ?_ hS1 (qa_oS_tl (qa_oS_tl (qa_oS_tl hoS))))
    rw [hnx] at hP1 hD1
    exact qa_Hp_up (v := .inr (1, n, .inl (upd f i.toNatClampNeg x))) hI hal0 (fun n r t => by cases t) trivial hP1 hD1
  | aastore =>
    obtain ⟨x, i, y, r, n, f, g, rfl, h2, h3, rfl, hin, rfl⟩ := qa_wr_aast hw
    have hal : y ∈ al := hI.2.2.1 y (by rw [h2]; rfl)
    obtain ⟨q0, hal0, hq0⟩ := qa_w_at (φ := φ) (ca := ca) (h := h.2) hal
    rw [h2] at hq0
    have hal2 : x ∈ al := hI.2.2.1 x (by rw [h3]; rfl)
    obtain ⟨q1, -, hq1⟩ := qa_w_at (φ := φ) (ca := ca) (h := h.2) hal2
    rw [h3] at hq1
    have hoc := hI.2.2.2.2.2 y hal
    rw [h2] at hoc
    have ho : qa_oC h.1 (.inr (3, n, .inr (.inr (va_up f i.toNatClampNeg (some x))))) := fun j y1 hy1 => by
      unfold va_up at hy1
      by_cases hj : j = i.toNatClampNeg
      · rw [if_pos hj] at hy1; cases hy1; exact qa_oS_hd hoS
      · rw [if_neg hj] at hy1; exact hoc j y1 hy1
    have he : qa_e φ ca (.inr (3, n, .inr (.inr (va_up f i.toNatClampNeg (some x))))) = .inl (ca 3, n, .inr (.inr (.inr (.inr (va_up (fun i => (f i).map φ) i.toNatClampNeg (some (φ x))))))) := by
      rw [← qa_up_map]; rfl
    refine va_astq hx hb hE.1 hI.1 hI.2.1 hS q0 3 q1 1 (r := (RX1, TX1, 8)) hq0 (qa_tys_3 ca) hq1 rfl hin hd (fun H1 locs1 hP1 hD1 hS1 => kk H1 locs1 ?_ hS1 (qa_oS_tl (qa_oS_tl (qa_oS_tl hoS))))
    rw [← he] at hP1 hD1
    exact qa_Hp_up (v := .inr (3, n, .inr (.inr (va_up f i.toNatClampNeg (some x))))) hI hal0 (fun n r t => by cases t) ho hP1 hD1
  | _ => cases hw
end QWR
end
section
/-! a step that makes a cell -/
section QMK
variable {p : Program} {l : Launch} {e : Env} {R : Room} {s : State} {m : MethodId} {args : Array Value} {below : List Frame} {meth : Method} {c : Code} {H : Heap} {locs : List Loc} {cells slots : Nat} {Q : State → Prop}
variable {M : qa_M} {D : va_G} {ca : Nat → ClassId} {b L z : Nat} {xs : Nat → Int32} {φ ψ : qa_P → Nat} {al : List qa_P} {h : qa_H} {pc len : Nat} {ls : Array Slot} {st : List qa_V}
/-- two maps that agree on what is ahead of nx -/
def qa_ag2 (nx : qa_P) (φ ψ : qa_P → Nat) : Prop := ∀ q, qa_lt q nx → ψ q = φ q
theorem qa_ag2_refl (nx : qa_P) (φ : qa_P → Nat) : qa_ag2 nx φ φ := fun _ _ => rfl
theorem qa_cv_ag {nx : qa_P} (h : qa_ag2 nx φ ψ) {v : qa_V} (hv : qa_ov nx v) : qa_cv ψ v = qa_cv φ v := by
  cases v with
  | inl y => show Value.ref _ = Value.ref _; rw [h y hv]
  | inr w => rfl
theorem qa_st_ag {nx : qa_P} (h : qa_ag2 nx φ ψ) {st : List qa_V} (hv : qa_oS nx st) : st.map (qa_cv ψ) = st.map (qa_cv φ) := List.map_congr_left fun v hm => qa_cv_ag h (hv v hm)
theorem qa_lm_ag {nx : qa_P} (h : qa_ag2 nx φ ψ) {lv : qa_L} (hv : qa_oL nx lv) : qa_lm ψ lv = qa_lm φ lv := List.map_congr_left fun q hm => by show (q.1, qa_cv ψ q.2) = (q.1, qa_cv φ q.2); rw [qa_cv_ag h (hv q hm)]
theorem qa_e_ag {nx : qa_P} (h : qa_ag2 nx φ ψ) {v : qa_C} (hv : qa_oC nx v) : qa_e ψ ca v = qa_e φ ca v := by
  obtain ⟨ci, f⟩ | ⟨τ, n, f | f | f⟩ := v
  · show (.inr (ci, qa_fs ψ ci f) : va_E) = .inr (ci, qa_fs φ ci f)
    unfold qa_fs
    rw [List.map_congr_left fun k _ => qa_cv_ag h (hv k)]
  · rfl
  · rfl
  · show (.inl (ca τ, n, .inr (.inr (.inr (.inr (fun i => (f i).map ψ))))) : va_E) = .inl (ca τ, n, .inr (.inr (.inr (.inr (fun i => (f i).map φ)))))
    rw [show (fun i => (f i).map ψ) = (fun i => (f i).map φ) from funext fun i => by
      cases hi : f i with
      | none => rfl
      | some y => show some (ψ y) = some (φ y); rw [h y (hv i y hi)]]
theorem qa_lt_trans {a d k : qa_P} (h1 : qa_lt a d) (h2 : qa_lt d k) : qa_lt a k := by
  unfold qa_lt at *
  omega
theorem qa_lt_nxt {a d : qa_P} (h1 : qa_lt a d) : qa_lt a (qa_nxt d) := by
  unfold qa_lt qa_nxt at *
  dsimp only
  omega
theorem qa_lt_self (d : qa_P) : qa_lt d (qa_nxt d) := by
  unfold qa_lt qa_nxt
  dsimp only
  omega
/-- a position from which on nothing stands, and what stands is ahead of it -/
def qa_fresh (nx y : qa_P) : Prop := ¬ qa_lt y nx ∧ ∀ q, qa_lt q nx → qa_lt q y
theorem qa_fresh_self (nx : qa_P) : qa_fresh nx nx := ⟨by unfold qa_lt; omega, fun _ h => h⟩
theorem qa_fresh_at (nx : qa_P) (v : qa_C) : qa_fresh nx (qa_at nx v) := by
  unfold qa_at
  split
  · refine ⟨?_, fun q hq => ?_⟩
    · unfold qa_lt; dsimp only; omega
    · unfold qa_lt at *; dsimp only; omega
  · exact qa_fresh_self nx
theorem qa_ov_mono {nx ny : qa_P} (h : ∀ q, qa_lt q nx → qa_lt q ny) {v : qa_V} (hv : qa_ov nx v) : qa_ov ny v := by
  cases v with
  | inl y => exact h y hv
  | inr w => trivial
theorem qa_oS_mono {nx ny : qa_P} (h : ∀ q, qa_lt q nx → qa_lt q ny) {st : List qa_V} (hv : qa_oS nx st) : qa_oS ny st := fun v hm => qa_ov_mono h (hv v hm)
theorem qa_oL_mono {nx ny : qa_P} (h : ∀ q, qa_lt q nx → qa_lt q ny) {lv : qa_L} (hv : qa_oL nx lv) : qa_oL ny lv := fun v hm => qa_ov_mono h (hv v hm)
theorem qa_oC_mono {nx ny : qa_P} (h : ∀ q, qa_lt q nx → qa_lt q ny) {v : qa_C} (hv : qa_oC nx v) : qa_oC ny v := by
  obtain ⟨ci, f⟩ | ⟨τ, n, f | f | f⟩ := v
  · exact fun k => qa_ov_mono h (hv k)
  · trivial
  · trivial
  · exact fun i y hi => h y (hv i y hi)
theorem qa_w_push {nx y : qa_P} {a : Nat} {v : qa_C} {hh : qa_P → qa_C} (hf : qa_fresh nx y) (hal : ∀ x ∈ al, qa_lt x nx) (hoc : ∀ x ∈ al, qa_oC nx (hh x)) :
    qa_w (fun q => if q = y then a else φ q) ca (al ++ [y]) (qa_up hh y v) = qa_w φ ca al hh ++ [(a, qa_e (fun q => if q = y then a else φ q) ca v)] := by
  have hag : qa_ag2 nx φ (fun q => if q = y then a else φ q) := fun q hq => if_neg (fun t => hf.1 (by rw [← t]; exact hq))
  unfold qa_w
  rw [List.map_append]
  congr 1
  · refine List.map_congr_left fun x hx => ?_
    have hne : x ≠ y := fun t => hf.1 (by rw [← t]; exact hal x hx)
    show (_, _) = (_, _)
    rw [qa_up_ne hne, qa_e_ag hag (hoc x hx), hag x (hal x hx)]
  · show [((if y = y then a else φ y), qa_e _ ca (qa_up hh y v y))] = _
    rw [if_pos rfl, qa_up_self]
theorem qa_Hp_push {y : qa_P} {a : Nat} {v : qa_C} {H1 : Heap} (hI : qa_Hp D ca b L z xs φ al h H) (hf : qa_fresh h.1 y) (h9 : ∀ n r, v ≠ .inr (9, n, r)) (ho : qa_oC (qa_nxt y) v) (hlive : qa_live v = true)
    (hP : va_P D vwCl (qa_w φ ca al h.2 ++ [(a, qa_e (fun q => if q = y then a else φ q) ca v)]) H1) (hD : va_D (qa_A z) (qa_w φ ca al h.2 ++ [(a, qa_e (fun q => if q = y then a else φ q) ca v)])) :
    qa_Hp D ca b L z xs (fun q => if q = y then a else φ q) (al ++ [y]) (qa_nxt y, qa_up h.2 y v) H1 := by
  rw [← qa_w_push hf hI.2.2.2.1 hI.2.2.2.2.2] at hP hD
  have hm : ∀ q, qa_lt q h.1 → qa_lt q (qa_nxt y) := fun q hq => qa_lt_nxt (hf.2 q hq)
  refine ⟨hP, hD, fun x hx => ?_, fun x hx => ?_, fun x n r hx => ?_, fun x hx => ?_⟩
  · by_cases e1 : x = y
    · rw [e1]; exact List.mem_append_right _ List.mem_cons_self
    · exact List.mem_append_left _ (hI.2.2.1 x (by rw [← qa_up_ne (h := h.2) (v := v) e1]; exact hx))
  · rcases List.mem_append.mp hx with h1 | h1
    · exact hm x (hI.2.2.2.1 x h1)
    · rw [List.mem_singleton.mp h1]; exact qa_lt_self y
  · by_cases e1 : x = y
    · rw [e1] at hx
      exact absurd ((qa_up_self h.2 y v).symm.trans hx) (h9 n r)
    · have h2 : h.2 x = .inr (9, n, r) := by rw [← qa_up_ne (h := h.2) (v := v) e1]; exact hx
      refine ⟨(hI.2.2.2.2.1 x n r h2).1, (hI.2.2.2.2.1 x n r h2).2.1, ?_⟩
      show (if x = y then a else φ x) = b
      rw [if_neg e1]
      exact (hI.2.2.2.2.1 x n r h2).2.2
  · show qa_oC (qa_nxt y) (qa_up h.2 y v x)
    by_cases e1 : x = y
    · rw [e1, qa_up_self]; exact ho
    · rw [qa_up_ne e1]
      rcases List.mem_append.mp hx with h1 | h1
      · exact qa_oC_mono hm (hI.2.2.2.2.2 x h1)
      · exact absurd (List.mem_singleton.mp h1) e1
theorem qa_nw_at {k i ci pl : Nat} (hk : k < 12) (h : qa_lk (qa_nw k) i = some (ci, pl)) : ∃ q, vwCl[ci]? = some q ∧ Cond.classLink (qa_cn k) i q.1 ∈ qa_gw := by
  have h1 := List.all_eq_true.mp (qa_nw_k k hk) _ (qa_lk_mem h)
  unfold qa_nk at h1
  dsimp only at h1
  split at h1
  · next q e => exact ⟨q, e, qa_gw_at h1⟩
  · cases h1
theorem qa_mk_new {i : Nat} {w : Nat × List qa_V × qa_C × Nat} (e : qa_mkc M (.new i) len pc st = some w) : ∃ ci pl, qa_lk (qa_nw (qa_cl M)) i = some (ci, pl) ∧ len = 3 ∧ w = (pc + 3, st, .inl (ci, fun j => .inr (defaultValue (qa_ft ci j))), qa_fz ci) := by
  unfold qa_mkc at e
  dsimp only at e
  split at e
  · next h1 =>
    split at e
    · next h3 => exact ⟨_, _, h1, h3, (Option.some.inj e).symm⟩
    · cases e
  · cases e
theorem qa_mk_arr {t : ArrayType} {w : Nat × List qa_V × qa_C × Nat} (e : qa_mkc M (.newarray t) len pc st = some w) : ∃ n r, st = .inr (.int n) :: r ∧ len = 2 ∧ ¬ n < 0 ∧ n.toNatClampNeg ≤ 60000000 ∧ ((t = .int ∧ w = (pc + 2, r, .inr (0, n.toNatClampNeg, .inl (fun _ => 0)), n.toNatClampNeg)) ∨ (t = .boolean ∧ w = (pc + 2, r, .inr (1, n.toNatClampNeg, .inl (fun _ => 0)), n.toNatClampNeg))) := by
  unfold qa_mkc at e
  dsimp only at e
  split at e
  · split at e
    · next h3 =>
      obtain ⟨h3, h4, h5⟩ := h3
      split at e
      · exact ⟨_, _, rfl, h3, h4, h5, Or.inl ⟨rfl, (Option.some.inj e).symm⟩⟩
      · exact ⟨_, _, rfl, h3, h4, h5, Or.inr ⟨rfl, (Option.some.inj e).symm⟩⟩
      · cases e
    · cases e
  · cases e
theorem qa_mk_arq {i : Nat} {w : Nat × List qa_V × qa_C × Nat} (e : qa_mkc M (.anewarray i) len pc st = some w) : ∃ n r, st = .inr (.int n) :: r ∧ len = 3 ∧ ¬ n < 0 ∧ n.toNatClampNeg ≤ 60000000 ∧ Cond.classLink (qa_cn (qa_cl M)) i RX1 ∈ qa_gw ∧ w = (pc + 3, r, .inr (3, n.toNatClampNeg, .inr (.inr (fun _ => none))), n.toNatClampNeg) := by
  unfold qa_mkc at e
  dsimp only at e
  split at e
  · split at e
    · next h3 =>
      obtain ⟨h3, h4, h5, h6⟩ := h3
      obtain ⟨q, hq, h7⟩ := List.any_eq_true.mp h6
      simp only [Bool.and_eq_true, beq_iff_eq] at h7
      have h8 := List.all_eq_true.mp qa_an_k q hq
      rw [h7.1, h7.2] at h8
      exact ⟨_, _, rfl, h3, h4, h5, qa_gw_at h8, (Option.some.inj e).symm⟩
    · cases e
  · cases e
theorem qa_ca_eq {cA : ClassId} {τ : Nat} {ty : FieldType} (hK : va_K D vwCl (qa_tys ca) s) (ht : (qa_tys ca)[τ]? = some (ca τ, ty)) (h4 : va_K D vwCl (qa_tys ca ++ [(cA, ty)]) s) : cA = ca τ := by
  have h1 := (hK.2 τ _ ht).2
  have h2 := (h4.2 4 (cA, ty) rfl).2
  cases ty with
  | object n =>
    obtain ⟨_, _, -, -, -, e1⟩ := h1
    obtain ⟨_, _, -, -, -, e2⟩ := h2
    exact Option.some.inj (e2.symm.trans e1)
  | _ => exact Option.some.inj (h2.symm.trans h1)
set_option maxHeartbeats 1000000 in
theorem qa_mkW (hF : qa_Fr M p R s m args c) (hE : qa_En D ca b L z xs s) (hI : qa_Hp D ca b L z xs φ al h H) (hS : va_S (qa_A z) s.heap H locs) (hoS : qa_oS h.1 st)
    {ins : Instr} (hd : decode (qa_by M) pc = .ok (ins, len)) {w : Nat × List qa_V × qa_C × Nat} (hw : qa_mkc M ins len pc st = some w) (hcells : cells + 1 ≤ R.cells) (hslots : slots + w.2.2.2 ≤ R.slots)
    (kk : ∀ (ψ : qa_P → Nat) (al1 : List qa_P) (H1 : Heap), qa_ag2 h.1 φ ψ → qa_Hp D ca b L z xs ψ al1 (qa_nxt (qa_at h.1 w.2.2.1), qa_up h.2 (qa_at h.1 w.2.2.1) w.2.2.1) H1 → va_S (qa_A z) s.heap H1 locs → qa_oS h.1 w.2.1 → W p l e R s m args below meth c H1 locs (cells + 1) (slots + w.2.2.2) Q (F0 m w.1 ls ((.inl (qa_at h.1 w.2.2.1) :: w.2.1).map (qa_cv ψ)))) :
    W p l e R s m args below meth c H locs cells slots Q (F0 m pc ls (st.map (qa_cv φ))) := by
  obtain ⟨hx, hb, hml, hown, hts, hk, hfr, hlo⟩ := hF
  have hA : ∀ q, s.heap.size ≤ q → qa_A z q := fun q hq => Nat.le_trans hE.2.2.2.2.2.2.2.2 hq
  have fin : ∀ (y : qa_P) (a : Nat) (r : List qa_V), qa_fresh h.1 y → qa_oS h.1 r → ((.inl y :: r : List qa_V)).map (qa_cv (fun q => if q = y then a else φ q)) = .ref a :: r.map (qa_cv φ) := fun y a r hf hr => by
    have hag : qa_ag2 h.1 φ (fun q => if q = y then a else φ q) := fun q hq => if_neg (fun t => hf.1 (by rw [← t]; exact hq))
    rw [List.map_cons, qa_st_ag hag hr]
    show Value.ref (if y = y then a else φ y) :: _ = _
    rw [if_pos rfl]
  have agr : ∀ (y : qa_P) (a : Nat), qa_fresh h.1 y → qa_ag2 h.1 φ (fun q => if q = y then a else φ q) := fun y a hf q hq => if_neg (fun t => hf.1 (by rw [← t]; exact hq))
  cases ins with
  | new i =>
    obtain ⟨ci, pl, h2, rfl, rfl⟩ := qa_mk_new hw
    obtain ⟨q, hq, hlk⟩ := qa_nw_at hk h2
    have hfz := qa_fz_eq hq
    have hf := qa_fresh_at h.1 (.inl (ci, fun j => .inr (defaultValue (qa_ft ci j))))
    refine va_new (fs := qa_fs φ ci (fun j => .inr (defaultValue (qa_ft ci j)))) hx hb hts (qa_cws hq).2.2 (qa_ft ci) (qa_ft_ok hq).1 hown (hts _ hlk) (hts _ (qa_cws hq).2.1) (hts _ (qa_cws hq).1) hE.1 hI.1 hI.2.1 hS hA hq (fun j hj => ?_) hcells (by rw [← hfz]; exact hslots) hd (fun a H1 hP1 hD1 hS1 => ?_)
    · unfold vp_V
      rw [List.getD_eq_getElem?_getD, qa_fs_at hq hj]
      rfl
    · have K := kk _ _ H1 (agr _ a hf) (qa_Hp_push (a := a) (v := .inl (ci, fun j => .inr (defaultValue (qa_ft ci j)))) hI hf (fun n r t => by cases t) (fun _ => trivial) (decide_eq_true (qa_ft_ok hq).2.2.1) hP1 hD1) hS1 hoS
      rw [fin _ a _ hf hoS] at K
      rw [← hfz]
      exact K
  | newarray t =>
    obtain ⟨n, r, rfl, rfl, hn, hn2, hc⟩ := qa_mk_arr hw
    have hwa := List.all_eq_true.mp qa_ar_w
    rcases hc with ⟨rfl, rfl⟩ | ⟨rfl, rfl⟩
    · have hf := qa_fresh_at h.1 (.inr (0, n.toNatClampNeg, .inl (fun _ => 0)))
      refine va_newa (atype := .int) (ty := .int) (a0 := (n.toNatClampNeg, .inl (fun _ => 0))) hx hb (hts _ (qa_gw_in (hwa _ List.mem_cons_self))) rfl hE.1 hI.1 hI.2.1 hS hA (fun cA => rfl) hn rfl (show n.toNatClampNeg * 4 ≤ 536870912 by omega) hcells hslots hd (fun a cA H1 hK1 hP1 hD1 hS1 => ?_)
      cases qa_ca_eq hE.1 (qa_tys_0 ca) hK1
      have K := kk _ _ H1 (agr _ a hf) (qa_Hp_push (a := a) (v := .inr (0, n.toNatClampNeg, .inl (fun _ => 0))) hI hf (fun n r t => by cases t) trivial rfl hP1 hD1) hS1 (qa_oS_tl hoS)
      rw [fin _ a _ hf (qa_oS_tl hoS)] at K
      exact K
    · have hf := qa_fresh_at h.1 (.inr (1, n.toNatClampNeg, .inl (fun _ => 0)))
      refine va_newa (atype := .boolean) (ty := .boolean) (a0 := (n.toNatClampNeg, .inl (fun _ => 0))) hx hb (hts _ (qa_gw_in (hwa _ (List.mem_cons_of_mem _ List.mem_cons_self)))) rfl hE.1 hI.1 hI.2.1 hS hA (fun cA => rfl) hn rfl (show n.toNatClampNeg * 1 ≤ 536870912 by omega) hcells hslots hd (fun a cA H1 hK1 hP1 hD1 hS1 => ?_)
      cases qa_ca_eq hE.1 (qa_tys_1 ca) hK1
      have K := kk _ _ H1 (agr _ a hf) (qa_Hp_push (a := a) (v := .inr (1, n.toNatClampNeg, .inl (fun _ => 0))) hI hf (fun n r t => by cases t) trivial rfl hP1 hD1) hS1 (qa_oS_tl hoS)
      rw [fin _ a _ hf (qa_oS_tl hoS)] at K
      exact K
  | anewarray i =>
    obtain ⟨n, r, rfl, rfl, hn, hn2, hlk, rfl⟩ := qa_mk_arq hw
    have hf := qa_fresh_at h.1 (.inr (3, n.toNatClampNeg, .inr (.inr (fun _ => none))))
    refine va_newq hx hb hown (hts _ hlk) hE.2.2.1 hE.1 hI.1 hI.2.1 hS hA hn rfl (show n.toNatClampNeg * 4 ≤ 536870912 by omega) hcells hslots hd (fun a cA H1 hK1 hP1 hD1 hS1 => ?_)
    cases qa_ca_eq hE.1 (qa_tys_3 ca) hK1
    have K := kk _ _ H1 (agr _ a hf) (qa_Hp_push (a := a) (v := .inr (3, n.toNatClampNeg, .inr (.inr (fun _ => none)))) hI hf (fun n r t => by cases t) (fun i y hy => by cases hy) rfl hP1 hD1) hS1 (qa_oS_tl hoS)
    rw [fin _ a _ hf (qa_oS_tl hoS)] at K
    exact K
  | _ => cases hw
end QMK
end
section
/-! contracts: what a run of the small machine says of the method -/
section QCO
variable {p : Program} {l : Launch} {e : Env} {R : Room} {s : State} {m : MethodId} {args : Array Value} {below : List Frame} {meth : Method} {c : Code} {H : Heap} {locs : List Loc} {cells slots : Nat} {Q : State → Prop}
variable {M : qa_M} {D : va_G} {ca : Nat → ClassId} {b L z : Nat} {xs : Nat → Int32} {φ ψ : qa_P → Nat} {al : List qa_P} {h : qa_H} {pc len : Nat} {ls : Array Slot} {st : List qa_V}
theorem qa_ini_RL : qa_in_tbl (Cond.initialized RL) = true := by decide +kernel
theorem qa_ini (k : Nat) : Cond.initialized (qa_cn k) ∈ qa_gw := by
  match k with
  | 0 => exact (qa_cws (k := 0) rfl).1
  | 1 => exact (qa_cws (k := 1) rfl).1
  | 2 => exact (qa_cws (k := 2) rfl).1
  | 3 => exact (qa_cws (k := 3) rfl).1
  | 4 => exact (qa_cws (k := 4) rfl).1
  | 5 => exact (qa_cws (k := 5) rfl).1
  | 6 => exact (qa_cws (k := 6) rfl).1
  | 7 => exact (qa_cws (k := 7) rfl).1
  | 8 => exact (qa_cws (k := 8) rfl).1
  | 9 => exact (qa_cws (k := 9) rfl).1
  | k + 10 => exact qa_gw_in qa_ini_RL
/-- the word of a method's code -/
def qa_cw (M : qa_M) : Cond := if (qa_hh M).isEmpty then .code (qa_nm M) (qa_by M) (qa_ml M) (qa_rt M) else .codeWith (qa_nm M) (qa_by M) (qa_ml M) (qa_rt M) (qa_hh M)
def qa_mw (M : qa_M) : List Cond := qa_cw M :: qa_gw
def qa_rm (M : qa_M) (k sl : Nat) : Room := { frames := qa_fr M, cells := k, slots := sl, locals := qa_lo M }
theorem qa_mk_sp (h : qa_mk M = true) : (qa_nm M).cls = qa_cn (qa_cl M) ∧ ((qa_nm M).cls ≠ "java/lang/invoke/MethodHandle" ∧ (qa_nm M).cls ≠ "java/lang/invoke/VarHandle") ∧ plainName (qa_nm M).cls = true ∧
    (parseMethodDescriptor (qa_nm M).desc).map (fun d => d.parameters.length) = some (if qa_sk M = 1 then qa_na M else qa_na M - 1) ∧ (qa_sk M = 1 ∨ 0 < qa_na M) ∧ (qa_sk M = 0 ↔ (qa_nm M).name = "<init>") ∧ qa_sk M < 3 ∧
    qa_cw M ∈ qa_gw ∧ (if qa_sk M = 1 then Cond.static (qa_nm M) else .instanceMethod (qa_nm M)) ∈ qa_gw ∧ (qa_sk M = 2 → Cond.selects (qa_cn (qa_cl M)) (qa_nm M) (qa_nm M) ∈ qa_gw) ∧ (qa_sk M = 0 → qa_rt M = none) := by
  unfold qa_mk at h
  simp only [Bool.and_eq_true] at h
  obtain ⟨⟨⟨⟨⟨⟨⟨⟨⟨⟨h1, h2⟩, h3⟩, h4⟩, h5⟩, h6⟩, h7⟩, h8⟩, h9⟩, h10⟩, h11⟩ := h
  refine ⟨of_decide_eq_true h1, of_decide_eq_true h2, h3, of_decide_eq_true h4, of_decide_eq_true h5, of_decide_eq_true h6, of_decide_eq_true h7, qa_gw_at h8, qa_gw_at h9, fun h2 => ?_, of_decide_eq_true h11⟩
  rw [Bool.or_eq_true] at h10
  rcases h10 with h10 | h10
  · exact absurd h2 (of_decide_eq_true h10)
  · exact qa_gw_at h10
theorem qa_gw_good {w : Cond} (h : w ∈ qa_gw) : w ∈ qa_gw ∧ ((w.onTables && w.keeps) = true ∨ ∃ ty, w = .arrayClass ty) := ⟨h, good_of_word (List.mem_filter.mp h).2⟩
theorem qa_mw_sub (hc : qa_cw M ∈ qa_gw) : ∀ w ∈ qa_mw M, w ∈ qa_gw := List.forall_mem_cons.mpr ⟨hc, fun _ h => h⟩
theorem qa_pay (hts : ∀ w ∈ qa_gw, w.before args s = true) (hc : qa_cw M ∈ qa_gw) : ∀ w ∈ qa_mw M, ∀ (a' : Array Value) (U : State), s.WarmedH U.vm → w.before a' U = true := pay_in hts fun w hw => qa_gw_good (qa_mw_sub hc w hw)
/-- how a run ends, over the machine -/
def qa_Qc (D : va_G) (ca : Nat → ClassId) (b L z : Nat) (xs : Nat → Int32) (φ : qa_P → Nat) (nx : qa_P) (res : Option qa_V ⊕ Nat) (h1 : qa_H) : Array Value → State → Outcome → State → Prop := fun _ st o t =>
  ∃ (v : Option qa_V) (ψ : qa_P → Nat) (al1 : List qa_P), res = .inl v ∧ o = .returned (v.map (qa_cv ψ)) ∧ qa_ag2 nx φ ψ ∧ (∀ q, qa_lt q nx → qa_lt q h1.1) ∧ qa_Hp D ca b L z xs ψ al1 h1 t.heap ∧ (∀ w, v = some w → qa_ov h1.1 w) ∧ va_F (qa_A z) st t
def qa_is3 (k : Nat) : Prop := k = 342 ∨ k = 345 ∨ k = 348
def qa_Xc (D : va_G) (ca : Nat → ClassId) (b L z : Nat) (xs : Nat → Int32) (φ : qa_P → Nat) (nx : qa_P) (res : Option qa_V ⊕ Nat) (h1 : qa_H) : String → State → State → Prop := fun E st t =>
  ∃ (k : Nat) (ψ : qa_P → Nat) (al1 : List qa_P), res = .inr k ∧ E = qa_xn k ∧ qa_is3 k ∧ qa_ag2 nx φ ψ ∧ (∀ q, qa_lt q nx → qa_lt q h1.1) ∧ qa_Hp D ca b L z xs ψ al1 h1 t.heap ∧ va_F (qa_A z) st t
def qa_Pc (D : va_G) (ca : Nat → ClassId) (b L z : Nat) (xs : Nat → Int32) (φ : qa_P → Nat) (al : List qa_P) (h : qa_H) (avs : List qa_V) : Array Value → State → Prop :=
  va_Pc (avs.map (qa_cv φ)) (fun U => qa_En D ca b L z xs U ∧ qa_Hp D ca b L z xs φ al h U.heap)
/-- the contract of a method, for one start and one end of the small machine -/
def qa_Ct (l : Launch) (D : va_G) (ca : Nat → ClassId) (b L z : Nat) (xs : Nat → Int32) (M : qa_M) (φ : qa_P → Nat) (al : List qa_P) (h : qa_H) (avs : List qa_V) (r : qa_Z) : Prop :=
  vx_Met l (qa_nm M) (qa_mw M) (qa_rm M r.2.2.1 r.2.2.2) (qa_Pc D ca b L z xs φ al h avs) (qa_Qc D ca b L z xs φ h.1 r.1 r.2.1) (qa_Xc D ca b L z xs φ h.1 r.1 r.2.1) r.2.2.1 r.2.2.2 (qa_A z)
theorem qa_nwo_tab {w : Cond} (h : qa_nwo w = true) : w.onTables = true := by
  cases w <;> first | rfl | cases h
theorem qa_nwo_warm {w : Cond} {U : State} (h : qa_nwo w = true) (hW : s.WarmedH U.vm) (hw : va_Nw w s) : va_Nw w U := by
  cases w <;> first | exact va_Nw.warmM hW hw | exact va_Nw.warmC hW hw | exact va_Nw.warmD hW hw | cases h
theorem qa_En_same {u U : State} (hv : u.vm = U.vm) (hh : U.heap = u.heap) (hE : qa_En D ca b L z xs u) : qa_En D ca b L z xs U := by
  have hal : u.vm.Alike U.vm := by rw [← hv]; exact Vm.Alike.refl u.vm
  obtain ⟨h1, h2, h3, h4, h5, h6, h7, h8, h9⟩ := hE
  refine ⟨h1.moved hal, fun w hw => va_Nw.same (qa_nwo_tab (List.mem_filter.mp hw).2) hv (h2 w hw), va_AO.moved hal h3, fun q hq => (h4 q hq).moved hal, ?_, ?_, ?_, h8, by rw [hh]; exact h9⟩
  · rw [hh]; exact h5.moved hal
  · rw [hh]; exact vx_Zq.moved hal h6
  · rw [hh]; exact vx_Zq.moved hal h7
theorem qa_En_warm {U : State} (hW : s.WarmedH U.vm) (hh : U.heap = H) (hS : va_S (qa_A z) s.heap H locs) (hE : qa_En D ca b L z xs s) : qa_En D ca b L z xs U := by
  subst hh
  have hal : s.vm.Alike U.vm := hW.alike
  obtain ⟨h1, h2, h3, h4, h5, h6, h7, h8, h9⟩ := hE
  have hb : U.heap[b]? = s.heap[b]? := hS.2.1 b (Nat.lt_of_lt_of_le h8 h9) (Nat.not_le.mpr h8)
  exact ⟨h1.moved hal, fun w hw => qa_nwo_warm (List.mem_filter.mp hw).2 hW (h2 w hw), va_AO.moved hal h3, fun q hq => (h4 q hq).moved hal, (h5.kept hb).moved hal, vx_Zq.moved hal (h6.kept hS.2.1), vx_Zq.moved hal (h7.kept hS.2.1), h8, Nat.le_trans h9 hS.1⟩
theorem qa_Pc_blind {avs : List qa_V} : FrameBlind (qa_Pc D ca b L z xs φ al h avs) := by
  intro a U g mk hq
  obtain ⟨q0, q1, q2⟩ := hq
  exact ⟨q0, qa_En_same (u := U) (U := U.calling g mk a) rfl rfl q1, q2⟩
theorem qa_Met {mc ms : Nat} {res : Option qa_V ⊕ Nat} {v : Option qa_V} {h1 : qa_H} {nx : qa_P} {y : MethodName} {ws : List Cond} {rm : Room} {Pc : Array Value → State → Prop} (hr : res = .inl v)
    (hM : vx_Met l y ws rm Pc (qa_Qc D ca b L z xs φ nx res h1) (qa_Xc D ca b L z xs φ nx res h1) mc ms (qa_A z)) : Met l y ws rm Pc (qa_Qc D ca b L z xs φ nx res h1) mc ms (qa_A z) := by
  intro p e ha hc hk s m args below hf happ hP hK
  obtain ⟨n, o, a1, a2, a3, a4⟩ := hM p e ha hc hk s m args below hf happ hP hK
  refine ⟨n, o, a1, a2, a3, ?_⟩
  rcases a4 with a4 | ⟨q, -, E, ce, LL, ⟨k, ψ, al1, h9, -⟩, -⟩
  · exact a4
  · rw [hr] at h9; cases h9
theorem qa_run {mc ms : Nat} {g : JFrame} {rest : List Value} {Qa : State → Outcome → State → Prop} {XC : String → State → State → Prop} {free : Addr → Prop} (hr : va_Run p l e R s m args below meth c H locs cells slots mc ms g rest Qa free) : vx_Run p l e R s m args below meth c H locs cells slots mc ms g rest Qa XC free :=
  fun T hT X => Or.inl (hr T hT X)
/-- behind a call -/
theorem qa_callW {mc ms : Nat} {st0 rest : List Value} {a : Array Value} {res : Option qa_V ⊕ Nat} {h1 : qa_H} {nx : qa_P} (hr : vx_Run p l e R s m args below meth c H locs cells slots mc ms (F0 m pc ls st0) rest (qa_Qc D ca b L z xs φ nx res h1 a) (qa_Xc D ca b L z xs φ nx res h1) (qa_A z)) (hS : va_S (qa_A z) s.heap H locs)
    (kx : ∀ (k : Nat) (ψ : qa_P → Nat) (al1 : List qa_P) (ce : Cell) (q9 : Addr) (H1 : Heap) (locs1 : List Loc), res = .inr k → qa_is3 k → qa_ag2 nx φ ψ → (∀ q, qa_lt q nx → qa_lt q h1.1) → qa_Hp D ca b L z xs ψ al1 h1 H1 → va_S (qa_A z) s.heap H1 locs1 → H1[q9]? = some ce → ce.vm = .none → s.vm.findClass (qa_xn k) = some ce.cls → vx_W p l e R s m args below meth c H1 locs1 (cells + mc) (slots + ms) Q (F0 m pc ls rest) q9)
    (kk : ∀ (v : Option qa_V) (ψ : qa_P → Nat) (al1 : List qa_P) (H1 : Heap) (locs1 : List Loc), res = .inl v → qa_ag2 nx φ ψ → (∀ q, qa_lt q nx → qa_lt q h1.1) → qa_Hp D ca b L z xs ψ al1 h1 H1 → (∀ w, v = some w → qa_ov h1.1 w) → va_S (qa_A z) s.heap H1 locs1 → W p l e R s m args below meth c H1 locs1 (cells + mc) (slots + ms) Q (F0 m (pc + 3) ls ((v.map (qa_cv ψ)).toList ++ rest))) : W p l e R s m args below meth c H locs cells slots Q (F0 m pc ls st0) := by
  intro T hT X
  rcases hr T hT X with ⟨v, st₀, t, T', LL, h0, X', hL, e1, e2, ⟨v1, ψ, al1, hv, ho, hag, hmo, hp, hov, hF⟩, st⟩ | ⟨q, st₀, t, T', LL, E, ce, h0, X', hL, e1, e2, ⟨k, ψ, al1, hv, hE, h3, hag, hmo, hp, hF⟩, hce, hcv, hcl, st⟩
  · cases ho
    obtain ⟨k1, k2, k3⟩ := vx_keep h0 e1 hS (fun _ _ h => h) (fun _ h => h) hL hF
    obtain ⟨t2, a1, b1⟩ := kk v1 ψ al1 T'.heap (locs ++ LL) hv hag hmo (by rw [e1]; exact hp) hov k3 T' rfl X'
    exact ⟨t2, st t2 a1, b1⟩
  · obtain ⟨k1, k2, k3⟩ := vx_keep h0 e1 hS (fun _ _ h => h) (fun _ h => h) hL hF
    subst hE
    obtain ⟨t2, a1, b1⟩ := kx k ψ al1 ce q T'.heap (locs ++ LL) hv h3 hag hmo (by rw [e1]; exact hp) k3 (by rw [e1]; exact hce) hcv hcl T' rfl X'
    exact ⟨t2, st.trans a1, b1⟩
/-- what a call asks for -/
theorem qa_inv_sp {h : qa_P → qa_C} {ins : Instr} {M1 : qa_M} {nest : Bool} {avs rest : List qa_V} (e : qa_inv M h ins len st = some (M1, nest, avs, rest)) : ∃ i pl, ((ins = .invokevirtual i ∧ qa_sk M1 = 2) ∨ (ins = .invokespecial i ∧ qa_sk M1 = 0) ∨ (ins = .invokestatic i ∧ qa_sk M1 = 1)) ∧ qa_lk (qa_ca (qa_cl M)) i = some (M1, nest, pl) ∧
    len = 3 ∧ avs.length = qa_na M1 ∧ st = avs.reverse ++ rest ∧ (rest.map qa_cat).sum ≤ 8 ∧ (avs.map qa_cat).sum ≤ qa_ml M1 ∧ qa_fr M1 + 1 ≤ qa_fr M ∧ 19 + qa_ml M1 + qa_lo M1 ≤ qa_lo M ∧ ((qa_hh M1).isEmpty = true ∨ (qa_sk M1 = 1 ∧ nest = false)) ∧ (qa_sk M1 = 1 ∨ ∃ x as f, avs = .inl x :: as ∧ h x = .inl (qa_cl M1, f)) := by
  have key : ∀ (i sk : Nat), (match qa_lk (qa_ca (qa_cl M)) i with
    | some (M', nest, _) =>
      if len = 3 ∧ qa_sk M' = sk ∧ qa_na M' ≤ st.length ∧ ((st.drop (qa_na M')).map qa_cat).sum ≤ 8 ∧ ((st.take (qa_na M')).map qa_cat).sum ≤ qa_ml M' ∧ qa_fr M' + 1 ≤ qa_fr M ∧ 19 + qa_ml M' + qa_lo M' ≤ qa_lo M ∧ ((qa_hh M').isEmpty = true ∨ (sk = 1 ∧ nest = false))
        ∧ (sk = 1 ∨ qa_rc h (qa_cl M') (st.take (qa_na M')).getLast? = true)
      then some (M', nest, (st.take (qa_na M')).reverse, st.drop (qa_na M')) else none
    | none => none) = some (M1, nest, avs, rest) → ∃ pl, qa_sk M1 = sk ∧ qa_lk (qa_ca (qa_cl M)) i = some (M1, nest, pl) ∧
      len = 3 ∧ avs.length = qa_na M1 ∧ st = avs.reverse ++ rest ∧ (rest.map qa_cat).sum ≤ 8 ∧ (avs.map qa_cat).sum ≤ qa_ml M1 ∧ qa_fr M1 + 1 ≤ qa_fr M ∧ 19 + qa_ml M1 + qa_lo M1 ≤ qa_lo M ∧ ((qa_hh M1).isEmpty = true ∨ (sk = 1 ∧ nest = false)) ∧ (sk = 1 ∨ ∃ x as f, avs = .inl x :: as ∧ h x = .inl (qa_cl M1, f)) := by
    intro i sk e
    split at e
    · next M' nest' pl hlk =>
      split at e
      · next hc =>
        cases e
        obtain ⟨c1, c2, c3, c4, c5, c6, c7, c8, c9⟩ := hc
        refine ⟨pl, c2, hlk, c1, ?_, ?_, c4, ?_, c6, c7, c8, ?_⟩
        · rw [List.length_reverse, List.length_take, Nat.min_eq_left c3]
        · rw [List.reverse_reverse, List.take_append_drop]
        · rw [List.map_reverse, List.sum_reverse]; exact c5
        · rcases c9 with c9 | c9
          · exact Or.inl c9
          · refine Or.inr ?_
            unfold qa_rc at c9
            split at c9
            · next x hx =>
              split at c9
              · next cj f hf =>
                have h9 : cj = qa_cl M1 := of_decide_eq_true c9
                subst h9
                obtain ⟨ys, hys⟩ := List.getLast?_eq_some_iff.mp hx
                exact ⟨x, ys.reverse, f, by rw [hys, List.reverse_append]; rfl, hf⟩
              · cases c9
            · cases c9
      · cases e
    · cases e
  unfold qa_inv at e
  dsimp only at e
  split at e
  · obtain ⟨pl, e0, e1⟩ := key _ _ e
    exact ⟨_, pl, Or.inl ⟨rfl, e0⟩, by rw [e0]; exact e1⟩
  · obtain ⟨pl, e0, e1⟩ := key _ _ e
    exact ⟨_, pl, Or.inr (Or.inl ⟨rfl, e0⟩), by rw [e0]; exact e1⟩
  · obtain ⟨pl, e0, e1⟩ := key _ _ e
    exact ⟨_, pl, Or.inr (Or.inr ⟨rfl, e0⟩), by rw [e0]; exact e1⟩
  · cases e
theorem qa_ca_at {k i pl : Nat} {M1 : qa_M} {nest : Bool} (hk : k < 12) (h : qa_lk (qa_ca k) i = some (M1, nest, pl)) : qa_Ok M1 ∧ (nest = false → Cond.methodLink (qa_cn k) i (qa_nm M1) ∈ qa_gw) ∧ (nest = true → Cond.methodLinkNest (qa_cn k) i (qa_nm M1) RX9 ∈ qa_nwl) := by
  have h0 := qa_lk_mem h
  have h1 := List.all_eq_true.mp (qa_ca_k k hk) _ h0
  refine ⟨qa_co k _ h0, fun e1 => ?_, fun e1 => ?_⟩
  · subst e1
    unfold qa_ck at h1
    rw [if_neg (fun t => by cases t)] at h1
    exact qa_gw_at h1
  · subst e1
    unfold qa_ck at h1
    rw [if_pos rfl] at h1
    exact List.mem_filter.mpr ⟨List.mem_of_getElem? (of_decide_eq_true h1), rfl⟩
def qa_cqb (e : Nat × qa_M × Bool × Nat) : Bool := decide ((qa_sk e.2.1 = 1 ∨ qa_cl e.2.1 < 11) ∧ qa_cl e.2.1 < 12 ∧ ((qa_hh e.2.1).isEmpty = true ∨ qa_cl e.2.1 = 11))
theorem qa_cq_0 : (qa_ca 0).all qa_cqb = true := by decide +kernel
theorem qa_cq_1 : (qa_ca 1).all qa_cqb = true := by decide +kernel
theorem qa_cq_2 : (qa_ca 2).all qa_cqb = true := by decide +kernel
theorem qa_cq_3 : (qa_ca 3).all qa_cqb = true := by decide +kernel
theorem qa_cq_4 : (qa_ca 4).all qa_cqb = true := by decide +kernel
theorem qa_cq_5 : (qa_ca 5).all qa_cqb = true := by decide +kernel
theorem qa_cq_6 : (qa_ca 6).all qa_cqb = true := by decide +kernel
theorem qa_cq_7 : (qa_ca 7).all qa_cqb = true := by decide +kernel
theorem qa_cq_8 : (qa_ca 8).all qa_cqb = true := by decide +kernel
theorem qa_cq_9 : (qa_ca 9).all qa_cqb = true := by decide +kernel
theorem qa_cq_10 : (qa_ca 10).all qa_cqb = true := by decide +kernel
theorem qa_cq_11 : (qa_ca 11).all qa_cqb = true := by decide +kernel
theorem qa_cq (k : Nat) (hk : k < 12) : (qa_ca k).all qa_cqb = true := by
  match k, hk with
  | 0, _ => exact qa_cq_0
  | 1, _ => exact qa_cq_1
  | 2, _ => exact qa_cq_2
  | 3, _ => exact qa_cq_3
  | 4, _ => exact qa_cq_4
  | 5, _ => exact qa_cq_5
  | 6, _ => exact qa_cq_6
  | 7, _ => exact qa_cq_7
  | 8, _ => exact qa_cq_8
  | 9, _ => exact qa_cq_9
  | 10, _ => exact qa_cq_10
  | 11, _ => exact qa_cq_11
  | _ + 12, h => exact absurd h (by omega)
theorem qa_cq_at {k i pl : Nat} {M1 : qa_M} {nest : Bool} (hk : k < 12) (h : qa_lk (qa_ca k) i = some (M1, nest, pl)) : (qa_sk M1 = 1 ∨ qa_cl M1 < 11) ∧ qa_cl M1 < 12 ∧ ((qa_hh M1).isEmpty = true ∨ qa_cl M1 = 11) := of_decide_eq_true (List.all_eq_true.mp (qa_cq k hk) _ (qa_lk_mem h))
theorem qa_parse {n : Nat} {d : String} (h : (parseMethodDescriptor d).map (fun d => d.parameters.length) = some n) : ∀ sig, parseMethodDescriptor d = some sig → n = sig.parameters.length := by
  intro sig hs
  rw [hs] at h
  exact (Option.some.inj h).symm
set_option maxHeartbeats 1000000 in
/-- the call itself: the callee's contract stands -/
theorem qa_invW {M1 : qa_M} {nest : Bool} {avs rest : List qa_V} {ins : Instr} {r : qa_Z} (hF : qa_Fr M p R s m args c) (hE : qa_En D ca b L z xs s) (hI : qa_Hp D ca b L z xs φ al h H) (hS : va_S (qa_A z) s.heap H locs) (hsz : ls.size = qa_ml M)
    (hd : decode (qa_by M) pc = .ok (ins, len)) (hinv : qa_inv M h.2 ins len st = some (M1, nest, avs, rest)) (hC : qa_Ok M1 → qa_Ct l D ca b L z xs M1 φ al h avs r) (hthr : (nest = true ∨ qa_sk M1 = 0) → ∃ v, r.1 = .inl v) (hcells : cells + r.2.2.1 ≤ R.cells) (hslots : slots + r.2.2.2 ≤ R.slots) :
    ∃ a, vx_Run p l e R s m args below meth c H locs cells slots r.2.2.1 r.2.2.2 (F0 m pc ls (st.map (qa_cv φ))) (rest.map (qa_cv φ)) (qa_Qc D ca b L z xs φ h.1 r.1 r.2.1 a) (qa_Xc D ca b L z xs φ h.1 r.1 r.2.1) (qa_A z) := by
  obtain ⟨hx, hb, hml, hown, hts, hk, hfr, hlo⟩ := hF
  obtain ⟨i, pl, hins, hlk, rfl, hna, rfl, hc8, hcl, hf1, hl1, hhh, hrc⟩ := qa_inv_sp hinv
  obtain ⟨hok, hw1, hw2⟩ := qa_ca_at hk hlk
  obtain ⟨g1, g2, g3, g4, g5, g6, g7, g8, g9, g10, g11⟩ := qa_mk_sp hok.2
  have hC := hC hok
  have hR1 : (qa_rm M1 r.2.2.1 r.2.2.2).frames + 1 ≤ R.frames := Nat.le_trans hf1 hfr
  have hR2 : 8 + (qa_ml M1 + 11) + (qa_rm M1 r.2.2.1 r.2.2.2).locals ≤ R.locals := by
    show 8 + (qa_ml M1 + 11) + qa_lo M1 ≤ R.locals
    omega
  have hini : (Cond.initialized (qa_nm M1).cls).before args s = true := hts _ (by rw [g1]; exact qa_ini _)
  have hfix : CallFix p m c (qa_by M) (qa_ml M) s args qa_gw (qa_cn (qa_cl M)) := ⟨hx, hb, hml, hown, hts⟩
  have hPU : ∀ U : State, U.heap = H → s.WarmedH U.vm → qa_Pc D ca b L z xs φ al h avs (avs.map (qa_cv φ)).toArray U := fun U hU hW => ⟨rfl, qa_En_warm hW hU hS hE, by rw [hU]; exact hI⟩
  have hpay := qa_pay (M := M1) hts g8
  have hst : ∀ av : List qa_V, (av.reverse ++ rest).map (qa_cv φ) = (av.map (qa_cv φ)).reverse ++ rest.map (qa_cv φ) := fun av => by rw [List.map_append, List.map_reverse]
  have hroom : 2 * (F0 m pc ls ((avs.reverse ++ rest).map (qa_cv φ))).monitorRoom + ((rest.map (qa_cv φ)).map fun v => v.category).sum ≤ 8 := lv_room (by rw [qa_cats]; exact hc8)
  by_cases hem : (qa_hh M1).isEmpty = true
  · have hcw : qa_cw M1 = .code (qa_nm M1) (qa_by M1) (qa_ml M1) (qa_rt M1) := by unfold qa_cw; rw [if_pos hem]
    have hcin : Cond.code (qa_nm M1) (qa_by M1) (qa_ml M1) (qa_rt M1) ∈ qa_mw M1 := by unfold qa_mw; rw [hcw]; exact List.mem_cons_self
    have hcb : (Cond.code (qa_nm M1) (qa_by M1) (qa_ml M1) (qa_rt M1)).before args s = true := hts _ (by rw [← hcw]; exact g8)
    rcases hins with ⟨rfl, hsk⟩ | ⟨rfl, hsk⟩ | ⟨rfl, hsk⟩
    · rcases hrc with hrc | ⟨x, as, f, rfl, hxf⟩
      · omega
      · rw [if_neg (by omega)] at g4 g9
        have hal : x ∈ al := hI.2.2.1 x (by rw [hxf]; exact decide_eq_true ((qa_cq_at hk hlk).1.resolve_left (by omega)))
        obtain ⟨q0, -, hq0⟩ := qa_w_at (φ := φ) (ca := ca) (h := h.2) hal
        rw [hxf] at hq0
        obtain ⟨q, hq⟩ : ∃ q, vwCl[qa_cl M1]? = some q := by
          obtain ⟨r9, h9, -⟩ := hI.1 q0 _ hq0
          exact ⟨r9, h9⟩
        have hrecv := va_recv hE.1 hI.1 hq hq0
        rw [(qa_ft_ok hq).2.2.2, ← g1] at hrecv
        have hsel := hts _ (g10 hsk)
        rw [← g1] at hsel
        have hlen : (as.map (qa_cv φ)).length = qa_na M1 - 1 := by rw [List.length_map, ← hna]; rfl
        refine ⟨(Value.ref (φ x) :: as.map (qa_cv φ)).toArray, ?_⟩
        have hpre : PreV s H (qa_nm M1).cls (φ x) (qa_Pc D ca b L z xs φ al h (.inl x :: as)) (as.map (qa_cv φ)) := ⟨qa_Pc_blind, hrecv, hPU⟩
        have hstk : (F0 m pc ls (((.inl x :: as : List qa_V).reverse ++ rest).map (qa_cv φ))).stack = (as.map (qa_cv φ)).reverse ++ .ref (φ x) :: rest.map (qa_cv φ) := by
          show ((.inl x :: as : List qa_V).reverse ++ rest).map (qa_cv φ) = _
          rw [hst, List.map_cons, List.reverse_cons, List.append_assoc]
          rfl
        by_cases hn : nest = true
        · obtain ⟨v, hv⟩ := hthr (Or.inl hn)
          exact qa_run (va_runVN hfix (qa_Met hv hC) ⟨⟨⟨rfl, rfl, hR1, hR2, hpay, hcin⟩, hcb, hini, g2, qa_parse g4, (hE.2.1 _ (hw2 hn)).use rfl⟩, hts _ g9, hsel⟩ hpre rfl hlen hsz hstk hroom hd ⟨hcells, hslots⟩)
        · exact vx_runV hfix hC ⟨⟨rfl, rfl, hR1, hR2, hpay, hcin, hcb, hini, g2, qa_parse g4, hts _ (hw1 (Bool.eq_false_iff.mpr hn))⟩, hts _ g9, hsel⟩ hpre rfl hlen hsz hstk hroom hd ⟨hcells, hslots⟩
    · rcases hrc with hrc | ⟨x, as, f, rfl, hxf⟩
      · omega
      · rw [if_neg (by omega)] at g4 g9
        obtain ⟨v, hv⟩ := hthr (Or.inr hsk)
        have hlen : (as.map (qa_cv φ)).length = qa_na M1 - 1 := by rw [List.length_map, ← hna]; rfl
        refine ⟨(Value.ref (φ x) :: as.map (qa_cv φ)).toArray, ?_⟩
        have hpre : PreS s H (qa_Pc D ca b L z xs φ al h (.inl x :: as)) (.ref (φ x) :: as.map (qa_cv φ)) := ⟨qa_Pc_blind, hPU⟩
        have hstk : (F0 m pc ls (((.inl x :: as : List qa_V).reverse ++ rest).map (qa_cv φ))).stack = (as.map (qa_cv φ)).reverse ++ .ref (φ x) :: rest.map (qa_cv φ) := by
          show ((.inl x :: as : List qa_V).reverse ++ rest).map (qa_cv φ) = _
          rw [hst, List.map_cons, List.reverse_cons, List.append_assoc]
          rfl
        rw [g11 hsk] at hcin hcb
        by_cases hn : nest = true
        · exact qa_run (va_runIN hfix (qa_Met hv hC) ⟨⟨⟨rfl, rfl, hR1, hR2, hpay, hcin⟩, hcb, hini, g2, qa_parse g4, (hE.2.1 _ (hw2 hn)).use rfl⟩, g6.mp hsk, hts _ g9⟩ hpre rfl hlen hsz hstk hroom hd ⟨hcells, hslots⟩)
        · exact qa_run (va_runI hfix (qa_Met hv hC) ⟨⟨rfl, rfl, hR1, hR2, hpay, hcin, hcb, hini, g2, qa_parse g4, hts _ (hw1 (Bool.eq_false_iff.mpr hn))⟩, g6.mp hsk, hts _ g9⟩ hpre rfl hlen hsz hstk hroom hd ⟨hcells, hslots⟩)
    · rw [if_pos hsk] at g4 g9
      have hlen : (avs.map (qa_cv φ)).length = qa_na M1 := by rw [List.length_map, hna]
      refine ⟨(avs.map (qa_cv φ)).toArray, ?_⟩
      have hpre : PreS s H (qa_Pc D ca b L z xs φ al h avs) (avs.map (qa_cv φ)) := ⟨qa_Pc_blind, hPU⟩
      by_cases hn : nest = true
      · obtain ⟨v, hv⟩ := hthr (Or.inl hn)
        exact qa_run (va_runSN hfix (qa_Met hv hC) ⟨⟨⟨rfl, rfl, hR1, hR2, hpay, hcin⟩, hcb, hini, g2, qa_parse g4, (hE.2.1 _ (hw2 hn)).use rfl⟩, hts _ g9, trivial⟩ hpre rfl hlen hsz (hst avs) hroom hd ⟨hcells, hslots⟩)
      · exact vx_runS hfix hC ⟨⟨rfl, rfl, hR1, hR2, hpay, hcin, hcb, hini, g2, qa_parse g4, hts _ (hw1 (Bool.eq_false_iff.mpr hn))⟩, hts _ g9⟩ hpre rfl hlen hsz (hst avs) hroom hd ⟨hcells, hslots⟩
  · obtain ⟨hsk, hn⟩ := hhh.resolve_left hem
    have hcw : qa_cw M1 = .codeWith (qa_nm M1) (qa_by M1) (qa_ml M1) (qa_rt M1) (qa_hh M1) := by unfold qa_cw; rw [if_neg hem]
    have hcin : Cond.codeWith (qa_nm M1) (qa_by M1) (qa_ml M1) (qa_rt M1) (qa_hh M1) ∈ qa_mw M1 := by unfold qa_mw; rw [hcw]; exact List.mem_cons_self
    have hcb : (Cond.codeWith (qa_nm M1) (qa_by M1) (qa_ml M1) (qa_rt M1) (qa_hh M1)).before args s = true := hts _ (by rw [← hcw]; exact g8)
    rw [if_pos hsk] at g4 g9
    rcases hins with ⟨rfl, hsk2⟩ | ⟨rfl, hsk2⟩ | ⟨rfl, -⟩
    · omega
    · omega
    · have hlen : (avs.map (qa_cv φ)).length = qa_na M1 := by rw [List.length_map, hna]
      refine ⟨(avs.map (qa_cv φ)).toArray, ?_⟩
      have hpre : PreS s H (qa_Pc D ca b L z xs φ al h avs) (avs.map (qa_cv φ)) := ⟨qa_Pc_blind, hPU⟩
      exact vx_runSX hfix hC ⟨⟨rfl, rfl, hR1, hR2, hpay, hcin⟩, hcb, hini, g2, qa_parse g4, hts _ (hw1 hn), hts _ g9⟩ hpre rfl hlen hsz (hst avs) hroom hd ⟨hcells, hslots⟩
end QCO
end
section
/-! a run of the small machine is a run of the machine -/
section QMA
theorem qa_xw_342 : (Cond.classLink RX9 342 (qa_xn 342) :: Cond.initialized (qa_xn 342) :: (vx_at0 RX9 344 (qa_xn 342) ["java/lang/RuntimeException", "java/lang/Exception"]).filter goodWord).all qa_in_tbl = true := by decide +kernel
theorem qa_xw_345 : (Cond.classLink RX9 345 (qa_xn 345) :: Cond.initialized (qa_xn 345) :: (vx_at0 RX9 347 (qa_xn 345) ["java/lang/RuntimeException", "java/lang/Exception"]).filter goodWord).all qa_in_tbl = true := by decide +kernel
theorem qa_xw_348 : (Cond.classLink RX9 348 (qa_xn 348) :: Cond.initialized (qa_xn 348) :: (vx_at0 RX9 350 (qa_xn 348) ["java/lang/RuntimeException", "java/lang/Exception"]).filter goodWord).all qa_in_tbl = true := by decide +kernel
def qa_nw_tbl (w : Cond) : Bool := decide (w ∈ lw_tbl) && qa_nwo w
theorem qa_yw_342 : ((vx_at0 RX9 344 (qa_xn 342) ["java/lang/RuntimeException", "java/lang/Exception"]).filter (fun w => !goodWord w)).all qa_nw_tbl = true := by decide +kernel
theorem qa_yw_345 : ((vx_at0 RX9 347 (qa_xn 345) ["java/lang/RuntimeException", "java/lang/Exception"]).filter (fun w => !goodWord w)).all qa_nw_tbl = true := by decide +kernel
theorem qa_yw_348 : ((vx_at0 RX9 350 (qa_xn 348) ["java/lang/RuntimeException", "java/lang/Exception"]).filter (fun w => !goodWord w)).all qa_nw_tbl = true := by decide +kernel
theorem qa_zw_342 : (Cond.classLink RX9 342 (qa_xn 342) :: Cond.initialized (qa_xn 342) :: vx_at0 RX9 344 (qa_xn 342) ["java/lang/RuntimeException", "java/lang/Exception"]).all vx_ot = true := by decide +kernel
theorem qa_zw_345 : (Cond.classLink RX9 345 (qa_xn 345) :: Cond.initialized (qa_xn 345) :: vx_at0 RX9 347 (qa_xn 345) ["java/lang/RuntimeException", "java/lang/Exception"]).all vx_ot = true := by decide +kernel
theorem qa_zw_348 : (Cond.classLink RX9 348 (qa_xn 348) :: Cond.initialized (qa_xn 348) :: vx_at0 RX9 350 (qa_xn 348) ["java/lang/RuntimeException", "java/lang/Exception"]).all vx_ot = true := by decide +kernel
theorem qa_cs_342 : ([Cond.castable (qa_xn 342) (qa_xn 342), .castable (qa_xn 345) (qa_xn 345), .castable (qa_xn 348) (qa_xn 348)] : List Cond).all qa_nw_tbl = true := by decide +kernel
theorem qa_nw_in {w : Cond} (h : qa_nw_tbl w = true) : w ∈ qa_nwl := by
  unfold qa_nw_tbl at h
  simp only [Bool.and_eq_true] at h
  exact List.mem_filter.mpr ⟨of_decide_eq_true h.1, h.2⟩
theorem qa_xs {i ik ic : Nat} {nm : String} (h : qa_lk qa_xl i = some (nm, ik, ic)) : qa_is3 i ∧ nm = qa_xn i ∧ ik = i ∧ Bundle.fit (qa_xn i) = true ∧ (Cond.classLink RX9 i (qa_xn i) :: Cond.initialized (qa_xn i) :: (vx_at0 RX9 ic (qa_xn i) ["java/lang/RuntimeException", "java/lang/Exception"]).filter goodWord).all qa_in_tbl = true ∧
    ((vx_at0 RX9 ic (qa_xn i) ["java/lang/RuntimeException", "java/lang/Exception"]).filter (fun w => !goodWord w)).all qa_nw_tbl = true ∧ (Cond.classLink RX9 i (qa_xn i) :: Cond.initialized (qa_xn i) :: vx_at0 RX9 ic (qa_xn i) ["java/lang/RuntimeException", "java/lang/Exception"]).all vx_ot = true := by
  have h1 := qa_lk_mem h
  simp only [qa_xl, List.mem_cons, List.not_mem_nil, or_false, Prod.mk.injEq] at h1
  rcases h1 with ⟨rfl, rfl, rfl, rfl⟩ | ⟨rfl, rfl, rfl, rfl⟩ | ⟨rfl, rfl, rfl, rfl⟩
  · exact ⟨Or.inl rfl, rfl, rfl, by decide +kernel, qa_xw_342, qa_yw_342, qa_zw_342⟩
  · exact ⟨Or.inr (Or.inl rfl), rfl, rfl, by decide +kernel, qa_xw_345, qa_yw_345, qa_zw_345⟩
  · exact ⟨Or.inr (Or.inr rfl), rfl, rfl, by decide +kernel, qa_xw_348, qa_yw_348, qa_zw_348⟩
theorem qa_cast3 {k : Nat} (h : qa_is3 k) : Cond.castable (qa_xn k) (qa_xn k) ∈ qa_nwl := by
  have h1 := List.all_eq_true.mp qa_cs_342
  rcases h with rfl | rfl | rfl
  · exact qa_nw_in (h1 _ List.mem_cons_self)
  · exact qa_nw_in (h1 _ (List.mem_cons_of_mem _ List.mem_cons_self))
  · exact qa_nw_in (h1 _ (List.mem_cons_of_mem _ (List.mem_cons_of_mem _ List.mem_cons_self)))
theorem qa_ncl3 {k j : Nat} (h : qa_is3 k) (h2 : qa_is3 j) (hne : j ≠ k) : (qa_xn k, qa_xn j) ∈ qa_ncl := by
  rcases h with rfl | rfl | rfl <;> rcases h2 with rfl | rfl | rfl <;> first | exact absurd rfl hne | decide +kernel
theorem qa_ht3 {ct k : Nat} (h : qa_lk qa_ht ct = some k) : qa_is3 k ∧ ct ≠ 0 ∧ Cond.classLink RL ct (qa_xn k) ∈ qa_gw := by
  obtain ⟨q, hq, e1, e2⟩ := qa_ht_k _ (qa_lk_mem h)
  have h1 := List.all_eq_true.mp qa_hq_k q hq
  dsimp only at e1 e2
  rw [e1, e2] at h1
  refine ⟨?_, ?_, qa_gw_at h1⟩
  · have h2 := qa_lk_mem h
    simp only [qa_ht, List.mem_cons, List.not_mem_nil, or_false, Prod.mk.injEq] at h2
    rcases h2 with ⟨-, rfl⟩ | ⟨-, rfl⟩ | ⟨-, rfl⟩
    · exact Or.inl rfl
    · exact Or.inr (Or.inr rfl)
    · exact Or.inr (Or.inl rfl)
  · have h2 := qa_lk_mem h
    simp only [qa_ht, List.mem_cons, List.not_mem_nil, or_false, Prod.mk.injEq] at h2
    omega
/-- the handler that the small machine finds is the one that takes the exception -/
theorem qa_hd_sp : ∀ (hh : List (Nat × Nat × Nat × Nat)) (pc E t : Nat), qa_hd hh pc E = some t → ∃ (pre : List ExceptionTableEntry) (x : ExceptionTableEntry) (suf : List ExceptionTableEntry), tableOf hh = pre ++ x :: suf ∧
    (∀ y ∈ pre, covers y pc = false ∨ ∃ j, qa_lk qa_ht y.catchType = some j ∧ j ≠ E) ∧ covers x pc = true ∧ qa_lk qa_ht x.catchType = some E ∧ x.handlerPc = t
  | [], pc, E, t, h => by cases h
  | (a, d, tg, ct) :: l, pc, E, t, h => by
    unfold qa_hd at h
    split at h
    · next hc =>
      split at h
      · next j hj =>
        split at h
        · next he =>
          cases h
          subst he
          exact ⟨[], ⟨a, d, tg, ct⟩, tableOf l, rfl, fun y hy => absurd hy List.not_mem_nil, by show (decide (a ≤ pc) && decide (pc < d)) = true; rw [decide_eq_true hc.1, decide_eq_true hc.2]; rfl, hj, rfl⟩
        · next he =>
          obtain ⟨pre, x, suf, h1, h2, h3, h4, h5⟩ := qa_hd_sp l pc E t h
          refine ⟨⟨a, d, tg, ct⟩ :: pre, x, suf, by show (⟨a, d, tg, ct⟩ : ExceptionTableEntry) :: tableOf l = _; rw [h1]; rfl, ?_, h3, h4, h5⟩
          exact List.forall_mem_cons.mpr ⟨Or.inr ⟨j, hj, he⟩, h2⟩
      · cases h
    · next hc =>
      obtain ⟨pre, x, suf, h1, h2, h3, h4, h5⟩ := qa_hd_sp l pc E t h
      refine ⟨⟨a, d, tg, ct⟩ :: pre, x, suf, by show (⟨a, d, tg, ct⟩ : ExceptionTableEntry) :: tableOf l = _; rw [h1]; rfl, ?_, h3, h4, h5⟩
      refine List.forall_mem_cons.mpr ⟨Or.inl ?_, h2⟩
      show (decide (a ≤ pc) && decide (pc < d)) = false
      by_cases h6 : a ≤ pc
      · rw [decide_eq_false (fun h7 : pc < d => hc ⟨h6, h7⟩), Bool.and_false]
      · rw [decide_eq_false h6, Bool.false_and]
variable {p : Program} {l : Launch} {e : Env} {R : Room} {s : State} {m : MethodId} {args : Array Value} {below : List Frame} {meth : Method} {c : Code} {H : Heap} {locs : List Loc} {cells slots : Nat} {Q : State → Prop}
variable {M : qa_M} {D : va_G} {ca : Nat → ClassId} {b L z : Nat} {xs : Nat → Int32} {φ ψ : qa_P → Nat} {al : List qa_P} {h : qa_H} {pc len : Nat} {ls : Array Slot} {st : List qa_V}
theorem qa_de_at {ins : Instr} (h : qa_de M = true) (e : qa_lk (qa_is M) pc = some (ins, len)) : decode (qa_by M) pc = .ok (ins, len) := by
  have h1 : (qa_is M).all (fun q => decide (decode (qa_by M) q.1 = .ok (q.2.1, q.2.2))) = true := h
  have h2 := List.all_eq_true.mp h1 _ (qa_lk_mem e)
  dsimp only at h2
  exact of_decide_eq_true h2
theorem qa_re_inv {ret : Option FieldType} {ins : Instr} {v : Option qa_V} (e : qa_re ret ins len st = some v) : len = 1 ∧ st = v.toList := by
  unfold qa_re at e
  split at e
  · split at e
    · split at e
      · split at e
        · next hc => cases e; exact ⟨hc.1, rfl⟩
        · cases e
      · cases e
    · cases e
  · split at e
    · split at e
      · next hc => cases e; exact ⟨hc.1, rfl⟩
      · cases e
    · cases e
  · split at e
    · split at e
      · next hc => cases e; exact ⟨hc.1, rfl⟩
      · cases e
    · cases e
  · split at e
    · split at e
      · next hc => cases e; exact ⟨hc.1, rfl⟩
      · cases e
    · cases e
  · cases e
theorem qa_reW {ins : Instr} {v : Option qa_V} {Qc : Array Value → State → Outcome → State → Prop} {XC : String → State → State → Prop} {free : Addr → Prop} (hx : p.tables.exec = Jvm.exec) (hb : c.code = qa_by M) (hr : meth.sig.returnType = qa_rt M) (hlocks : meth.locks = false) (hd : decode (qa_by M) pc = .ok (ins, 1)) (hre : qa_re (qa_rt M) ins 1 v.toList = some v)
    (hq : ∀ t : State, t.heap = H → Qc args s (.returned (v.map (qa_cv ψ))) t) (hf : ∀ q ∈ locs, free q.base) : W p l e R s m args below meth c H locs cells slots (vx_MQ below Qc XC args s cells slots free) (F0 m pc ls (v.toList.map (qa_cv ψ))) := by
  cases ins with
  | ireturn =>
    obtain _ | ⟨y | w⟩ := v
    · cases hre
    · cases hre
    · cases w with
      | int x =>
        unfold qa_re at hre
        dsimp only [Option.toList] at hre
        split at hre
        · next ty hty =>
          split at hre
          · next hc => exact vx_ret (W.zret hx hb (hr.trans hty) hc.2 (fun t ht _ => hq t ht) hf hd hlocks)
          · cases hre
        · cases hre
      | _ => cases hre
  | lreturn =>
    obtain _ | ⟨y | w⟩ := v
    · cases hre
    · cases hre
    · cases w with
      | long x =>
        unfold qa_re at hre
        dsimp only [Option.toList] at hre
        split at hre
        · next hc => exact vx_ret (W.lret hx hb (hr.trans hc.2) (fun t ht _ => hq t ht) hf hd hlocks)
        · cases hre
      | _ => cases hre
  | dreturn =>
    obtain _ | ⟨y | w⟩ := v
    · cases hre
    · cases hre
    · cases w with
      | double x =>
        unfold qa_re at hre
        dsimp only [Option.toList] at hre
        split at hre
        · next hc => exact vx_ret (W.dret hx hb (hr.trans hc.2) (fun t ht _ => hq t ht) hf hd hlocks)
        · cases hre
      | _ => cases hre
  | return_ =>
    obtain _ | w := v
    · unfold qa_re at hre
      dsimp only [Option.toList] at hre
      split at hre
      · next hc => exact vx_ret (W.vret hx hb (hr.trans hc.2) (fun t ht _ => hq t ht) hf hd hlocks)
      · cases hre
    · cases hre
  | _ => cases hre
/-- what is owed where the run returns, where it throws, and where a callee's exception leaves it -/
def qa_kR (p : Program) (l : Launch) (e : Env) (R : Room) (s : State) (m : MethodId) (args : Array Value) (below : List Frame) (meth : Method) (c : Code) (Q : State → Prop) (M : qa_M) (D : va_G) (ca : Nat → ClassId) (b L z : Nat) (xs : Nat → Int32) (φ : qa_P → Nat) (nx : qa_P) (res : Option qa_V ⊕ Nat) (h1 : qa_H) (K S : Nat) : Prop :=
  ∀ (v : Option qa_V) (ψ : qa_P → Nat) (al1 : List qa_P) (H1 : Heap) (locs1 : List Loc) (pc1 : Nat) (ls1 : Array Slot) (ins : Instr), res = .inl v → qa_ag2 nx φ ψ → (∀ q, qa_lt q nx → qa_lt q h1.1) → qa_Hp D ca b L z xs ψ al1 h1 H1 → va_S (qa_A z) s.heap H1 locs1 → (∀ w, v = some w → qa_ov h1.1 w) →
    decode (qa_by M) pc1 = .ok (ins, 1) → qa_re (qa_rt M) ins 1 v.toList = some v → W p l e R s m args below meth c H1 locs1 K S Q (F0 m pc1 ls1 (v.toList.map (qa_cv ψ)))
def qa_k1 (p : Program) (l : Launch) (e : Env) (R : Room) (s : State) (m : MethodId) (args : Array Value) (below : List Frame) (meth : Method) (c : Code) (Q : State → Prop) (M : qa_M) (D : va_G) (ca : Nat → ClassId) (b L z : Nat) (xs : Nat → Int32) (φ : qa_P → Nat) (nx : qa_P) (res : Option qa_V ⊕ Nat) (h1 : qa_H) (K S : Nat) : Prop :=
  ∀ (E : Nat) (ψ : qa_P → Nat) (al1 : List qa_P) (H1 : Heap) (locs1 : List Loc) (pc1 : Nat) (ls1 : Array Slot) (st1 : List qa_V) (ins : Instr) (len1 cells1 slots1 : Nat), res = .inr E → qa_ag2 nx φ ψ → (∀ q, qa_lt q nx → qa_lt q h1.1) → qa_Hp D ca b L z xs ψ al1 h1 H1 → va_S (qa_A z) s.heap H1 locs1 → ls1.size = qa_ml M →
    decode (qa_by M) pc1 = .ok (ins, len1) → qa_th M ins len1 pc1 st1 = some E → cells1 + 1 = K → slots1 + 6 = S → W p l e R s m args below meth c H1 locs1 cells1 slots1 Q (F0 m pc1 ls1 (st1.map (qa_cv ψ)))
def qa_k2 (p : Program) (l : Launch) (e : Env) (R : Room) (s : State) (m : MethodId) (args : Array Value) (below : List Frame) (meth : Method) (c : Code) (Q : State → Prop) (M : qa_M) (D : va_G) (ca : Nat → ClassId) (b L z : Nat) (xs : Nat → Int32) (φ : qa_P → Nat) (nx : qa_P) (res : Option qa_V ⊕ Nat) (h1 : qa_H) (K S : Nat) : Prop :=
  ∀ (E : Nat) (ψ : qa_P → Nat) (al1 : List qa_P) (H1 : Heap) (locs1 : List Loc) (pc1 : Nat) (ls1 : Array Slot) (rest : List Value) (ce : Cell) (q : Addr), res = .inr E → qa_is3 E → qa_ag2 nx φ ψ → (∀ q, qa_lt q nx → qa_lt q h1.1) → qa_Hp D ca b L z xs ψ al1 h1 H1 → va_S (qa_A z) s.heap H1 locs1 → (qa_hh M).isEmpty = true →
    H1[q]? = some ce → ce.vm = .none → s.vm.findClass (qa_xn E) = some ce.cls → vx_W p l e R s m args below meth c H1 locs1 K S Q (F0 m pc1 ls1 rest) q
def qa_Ks (p : Program) (l : Launch) (e : Env) (R : Room) (s : State) (m : MethodId) (args : Array Value) (below : List Frame) (meth : Method) (c : Code) (Q : State → Prop) (M : qa_M) (D : va_G) (ca : Nat → ClassId) (b L z : Nat) (xs : Nat → Int32) (φ : qa_P → Nat) (nx : qa_P) (res : Option qa_V ⊕ Nat) (h1 : qa_H) (K S : Nat) : Prop :=
  qa_kR p l e R s m args below meth c Q M D ca b L z xs φ nx res h1 K S ∧ qa_k1 p l e R s m args below meth c Q M D ca b L z xs φ nx res h1 K S ∧ qa_k2 p l e R s m args below meth c Q M D ca b L z xs φ nx res h1 K S
theorem qa_ag2_tr {nx ny : qa_P} {χ : qa_P → Nat} (h1 : qa_ag2 nx φ ψ) (hm : ∀ q, qa_lt q nx → qa_lt q ny) (h2 : qa_ag2 ny ψ χ) : qa_ag2 nx φ χ := fun q hq => (h2 q (hm q hq)).trans (h1 q hq)
theorem qa_Ks_on {nx ny : qa_P} {res : Option qa_V ⊕ Nat} {h1 : qa_H} {K S : Nat} (h1' : qa_ag2 nx φ ψ) (hm : ∀ q, qa_lt q nx → qa_lt q ny) (hk : qa_Ks p l e R s m args below meth c Q M D ca b L z xs φ nx res h1 K S) : qa_Ks p l e R s m args below meth c Q M D ca b L z xs ψ ny res h1 K S := by
  obtain ⟨k0, k1, k2⟩ := hk
  refine ⟨?_, ?_, ?_⟩
  · intro v χ al1 H1 locs1 pc1 ls1 ins a1 a2 a3
    exact k0 v χ al1 H1 locs1 pc1 ls1 ins a1 (qa_ag2_tr h1' hm a2) (fun q hq => a3 q (hm q hq))
  · intro E χ al1 H1 locs1 pc1 ls1 st1 ins len1 cells1 slots1 a1 a2 a3
    exact k1 E χ al1 H1 locs1 pc1 ls1 st1 ins len1 cells1 slots1 a1 (qa_ag2_tr h1' hm a2) (fun q hq => a3 q (hm q hq))
  · intro E χ al1 H1 locs1 pc1 ls1 rest ce q a1 a2 a3 a4
    exact k2 E χ al1 H1 locs1 pc1 ls1 rest ce q a1 a2 (qa_ag2_tr h1' hm a3) (fun q hq => a4 q (hm q hq))
/-- a run from a frame on -/
def qa_FL (l : Launch) (D : va_G) (ca : Nat → ClassId) (b L z : Nat) (xs : Nat → Int32) (n : Nat) : Prop :=
  ∀ (M : qa_M) (pc : Nat) (lv : qa_L) (st : List qa_V) (h : qa_H) (r : qa_Z), qa_de M = true → qa_ex n M pc lv st h = some r →
  ∀ (p : Program) (e : Env) (R : Room) (s : State) (m : MethodId) (args : Array Value) (below : List Frame) (meth : Method) (c : Code) (H : Heap) (locs : List Loc) (cells slots : Nat) (Q : State → Prop) (φ : qa_P → Nat) (al : List qa_P) (ls : Array Slot) (K S : Nat),
    qa_Fr M p R s m args c → (qa_sk M = 0 → meth.name = "<init>") → qa_En D ca b L z xs s → ((qa_hh M).isEmpty = true ∨ (c.exceptionTable.toList = tableOf (qa_hh M) ∧ qa_cl M = 11)) → cells + r.2.2.1 = K → slots + r.2.2.2 = S → K ≤ R.cells → S ≤ R.slots →
    qa_Hp D ca b L z xs φ al h H → va_S (qa_A z) s.heap H locs → lv_has ls (qa_ml M) (qa_lm φ lv) → qa_oL h.1 lv → qa_oS h.1 st → qa_Ks p l e R s m args below meth c Q M D ca b L z xs φ h.1 r.1 r.2.1 K S →
    W p l e R s m args below meth c H locs cells slots Q (F0 m pc ls (st.map (qa_cv φ)))
theorem qa_cats_ag : ∀ (i : Nat) (vs : List qa_V), lv_args i (vs.map (qa_cv φ)) = qa_lm φ (qa_ag i vs)
  | _, [] => rfl
  | i, v :: vs => by
    show (i, qa_cv φ v) :: lv_args (if (qa_cv φ v).category = 2 then i + 2 else i + 1) (vs.map (qa_cv φ)) = (i, qa_cv φ v) :: qa_lm φ (qa_ag (if qa_cat v = 2 then i + 2 else i + 1) vs)
    rw [qa_cv_cat, qa_cats_ag]
theorem qa_oL_ag {nx : qa_P} : ∀ (i : Nat) (vs : List qa_V), qa_oS nx vs → qa_oL nx (qa_ag i vs)
  | _, [], _ => fun _ h => nomatch h
  | i, v :: vs, h => List.forall_mem_cons.mpr ⟨qa_oS_hd h, qa_oL_ag _ vs (qa_oS_tl h)⟩
theorem qa_sl_len (vs : List qa_V) : (lg_sl (vs.map (qa_cv φ))).length = (vs.map qa_cat).sum := by
  induction vs with
  | nil => rfl
  | cons v vs ih =>
    have h1 : lg_sl ((v :: vs).map (qa_cv φ)) = (if (qa_cv φ v).category = 2 then [.val (qa_cv φ v), .second] else [.val (qa_cv φ v)]) ++ lg_sl (vs.map (qa_cv φ)) := rfl
    rw [h1, List.length_append, ih, List.map_cons, List.sum_cons, qa_cv_cat]
    congr 1
    rcases lv_cat (qa_cv φ v) with h2 | h2
    · rw [qa_cv_cat] at h2
      rw [h2]; rfl
    · rw [qa_cv_cat] at h2
      rw [h2]; rfl
theorem qa_th_sp {ins : Instr} {E : Nat} (e : qa_th M ins len pc st = some E) : ∃ ic, ins = .new E ∧ len = 3 ∧ qa_lk qa_xl E = some (qa_xn E, E, ic) ∧ qa_cl M = 9 ∧ (qa_hh M).isEmpty = true ∧ 6 ≤ qa_fr M ∧ 90 ≤ qa_lo M ∧ (st.map qa_cat).sum ≤ 8 ∧ qa_lk (qa_is M) (pc + 3) = some (.dup, 1) ∧ qa_lk (qa_is M) (pc + 4) = some (.invokespecial ic, 3) ∧ qa_lk (qa_is M) (pc + 7) = some (.athrow, 1) := by
  unfold qa_th at e
  split at e
  · split at e
    · next nm ik ic hlk =>
      split at e
      · next hc =>
        obtain ⟨c1, rfl, c3, c4, c5, c6, c7, c8, c9, c10⟩ := hc
        cases e
        have h2 := (qa_xs hlk).2.1
        subst h2
        exact ⟨ic, rfl, c1, hlk, c3, c4, c5, c6, c7, c8, c9, c10⟩
      · cases e
    · cases e
  · cases e
theorem qa_Hp_kept {H1 : Heap} (hI : qa_Hp D ca b L z xs φ al h H) (hk : ∀ q : Nat, q < H.size → H1[q]? = H[q]?) : qa_Hp D ca b L z xs φ al h H1 :=
  ⟨hI.1.kept (fun k q hq => hk q.1 (hI.1 k q hq).lt), hI.2⟩
/-- a caught exception takes a position of its own -/
theorem qa_Hp_junk {a : Nat} {f : Nat → qa_V} (hI : qa_Hp D ca b L z xs φ al h H) : qa_Hp D ca b L z xs (fun q => if q = h.1 then a else φ q) al (qa_nxt h.1, qa_up h.2 h.1 (.inl (99, f))) H := by
  have hf := qa_fresh_self h.1
  have hag : qa_ag2 h.1 φ (fun q => if q = h.1 then a else φ q) := fun q hq => if_neg (fun t => hf.1 (by have hq2 := hq; rw [t] at hq2; exact hq2))
  have hne : ∀ x ∈ al, x ≠ h.1 := fun x hx t => hf.1 (by have := hI.2.2.2.1 x hx; rw [t] at this; exact this)
  have hw : qa_w (fun q => if q = h.1 then a else φ q) ca al (qa_up h.2 h.1 (.inl (99, f))) = qa_w φ ca al h.2 := by
    unfold qa_w
    refine List.map_congr_left fun x hx => ?_
    show (_, _) = (_, _)
    rw [qa_up_ne (hne x hx), qa_e_ag hag (hI.2.2.2.2.2 x hx), hag x (hI.2.2.2.1 x hx)]
  refine ⟨?_, ?_, fun x hx => ?_, fun x hx => qa_lt_nxt (hI.2.2.2.1 x hx), fun x n r hx => ?_, fun x hx => ?_⟩
  · show va_P D vwCl (qa_w _ ca al (qa_up h.2 h.1 (.inl (99, f)))) H
    rw [hw]; exact hI.1
  · show va_D (qa_A z) (qa_w _ ca al (qa_up h.2 h.1 (.inl (99, f))))
    rw [hw]; exact hI.2.1
  · by_cases e1 : x = h.1
    · rw [e1] at hx
      rw [show (qa_nxt h.1, qa_up h.2 h.1 (.inl (99, f))).2 h.1 = .inl (99, f) from qa_up_self _ _ _] at hx
      cases hx
    · exact hI.2.2.1 x (by rw [← qa_up_ne (h := h.2) (v := .inl (99, f)) e1]; exact hx)
  · by_cases e1 : x = h.1
    · rw [e1] at hx
      rw [show (qa_nxt h.1, qa_up h.2 h.1 (.inl (99, f))).2 h.1 = .inl (99, f) from qa_up_self _ _ _] at hx
      cases hx
    · have h2 : h.2 x = .inr (9, n, r) := by rw [← qa_up_ne (h := h.2) (v := .inl (99, f)) e1]; exact hx
      refine ⟨(hI.2.2.2.2.1 x n r h2).1, (hI.2.2.2.2.1 x n r h2).2.1, ?_⟩
      show (if x = h.1 then a else φ x) = b
      rw [if_neg e1]
      exact (hI.2.2.2.2.1 x n r h2).2.2
  · show qa_oC (qa_nxt h.1) (qa_up h.2 h.1 (.inl (99, f)) x)
    rw [qa_up_ne (hne x hx)]
    exact qa_oC_mono (fun q hq => qa_lt_nxt hq) (hI.2.2.2.2.2 x hx)
/-- the contract of a method out of its run -/
theorem qa_body {y : MethodName} {ws : List Cond} {rm : Room} {n : Nat} {avs : List qa_V} {r : qa_Z} {s₁ : State} (hlst : l.stackTraces = false) (hfl : qa_FL l D ca b L z xs n) (hok : qa_Ok M) (hk : qa_cl M < 12) (hh11 : (qa_hh M).isEmpty = true ∨ qa_cl M = 11) (hav : qa_oS h.1 avs) (hsl : (avs.map qa_cat).sum ≤ qa_ml M)
    (hex : qa_ex n M 0 (qa_ag 0 avs) [] h = some r) (hy : y = qa_nm M) (hrm : rm = qa_rm M r.2.2.1 r.2.2.2)
    (B : BodyLoose p l y (headSpec ws rm) (qa_by M) (qa_ml M) (qa_rt M) e s m args below meth c s₁) (hml : c.maxLocals = qa_ml M) (hws : ∀ w ∈ qa_gw, w ∈ ws) (htab : c.exceptionTable.toList = tableOf (qa_hh M)) (hP : qa_Pc D ca b L z xs φ al h avs args s) :
    W p l e (headSpec ws rm).room s m args below meth c s.heap [] 0 0 (vx_MQ below (qa_Qc D ca b L z xs φ h.1 r.1 r.2.1) (qa_Xc D ca b L z xs φ h.1 r.1 r.2.1) args s r.2.2.1 r.2.2.2 (qa_A z)) (entryFrame m args (qa_ml M)) := by
  obtain ⟨rfl, hE, hI⟩ := hP
  subst hrm
  subst hy
  obtain ⟨g1, g2, g3, g4, g5, g6, g7, g8, g9, g10, g11⟩ := qa_mk_sp hok.2
  have hts : ∀ w ∈ qa_gw, w.before (avs.map (qa_cv φ)).toArray s = true := fun w hw => atoms_spec (ws := ws) B.pre w (hws w hw)
  have hown : s.vm.findClass (qa_cn (qa_cl M)) = some m.cls := by rw [← g1]; exact findClass_of_methodNamed B.named
  have hFr : qa_Fr M p (headSpec ws (qa_rm M r.2.2.1 r.2.2.2)).room s m (avs.map (qa_cv φ)).toArray c := ⟨B.exec, B.bytes, hml, hown, hts, hk, Nat.le_refl _, Nat.le_refl _⟩
  have hini : qa_sk M = 0 → meth.name = "<init>" := fun h0 => (name_of_methodNamed B.named B.method).1.trans (g6.mp h0)
  rw [lg_entry_eq]
  have hl := lv_entry (avs.map (qa_cv φ)) (n := qa_ml M) (by rw [qa_sl_len]; exact hsl)
  rw [qa_cats_ag] at hl
  refine hfl M 0 (qa_ag 0 avs) [] h r hok.1 hex p e _ s m _ below meth c s.heap [] 0 0 _ φ al _ r.2.2.1 r.2.2.2 hFr hini hE (hh11.imp id (fun t => ⟨htab, t⟩)) (Nat.zero_add _) (Nat.zero_add _) (Nat.le_refl _) (Nat.le_refl _) hI va_S.rf hl (qa_oL_ag 0 avs hav) (fun _ h => nomatch h) ⟨?_, ?_, ?_⟩
  · intro v ψ al1 H1 locs1 pc1 ls1 ins a1 a2 a3 a4 a5 a6 a7 a8
    exact qa_reW B.exec B.bytes B.returns B.notSynchronized a7 a8 (fun t ht => ⟨v, ψ, al1, a1, rfl, a2, a3, by rw [ht]; exact a4, a6, a5.F ht⟩) a5.2.2
  · intro E ψ al1 H1 locs1 pc1 ls1 st1 ins len1 cells1 slots1 a1 a2 a3 a4 a5 a6 a7 a8 a9 a10
    obtain ⟨ic, rfl, rfl, t3, t4, t5, t6, t7, t8, t9, t10, t11⟩ := qa_th_sp a8
    obtain ⟨x1, -, -, x4, x5, x6, x7⟩ := qa_xs t3
    rw [t4] at hown
    have hw5 := List.all_eq_true.mp x5
    have hemp : c.exceptionTable.toList = [] := by rw [htab, List.isEmpty_iff.mp t5]; rfl
    refine vx_throw0 (names := ["java/lang/RuntimeException", "java/lang/Exception"]) (A := qa_A z) B.exec B.bytes hlst hown x4 (by decide +kernel) (hts _ (qa_gw_in (hw5 _ List.mem_cons_self))) (hts _ (qa_gw_in (hw5 _ (List.mem_cons_of_mem _ List.mem_cons_self))))
      (vx_hat (B := qa_nwl) (fun w hw => hts _ (qa_gw_in (hw5 _ (List.mem_cons_of_mem _ (List.mem_cons_of_mem _ hw))))) (fun w hw => qa_nw_in (List.all_eq_true.mp x6 w hw)) (fun w hw => (hE.2.1 w hw).use (qa_nwo_tab (List.mem_filter.mp hw).2)))
      (List.all_eq_true.mp x7) hE.2.2.2.2.2.1 hE.2.2.2.2.2.2.1 a5 (a6.trans hml.symm) a7 (qa_de_at hok.1 t9) (qa_de_at hok.1 t10) (qa_de_at hok.1 t11) (by rw [hemp]; exact fun x hx => nomatch hx) ?_ ?_ (Nat.le_of_eq a9) (Nat.le_of_eq a10) B.notSynchronized ?_ a5.2.2 (Nat.le_of_eq a9) (Nat.le_of_eq a10)
    · show 2 + 3 < qa_fr M
      omega
    · show ((st1.map (qa_cv ψ)).map fun v => v.category).sum + (13 * (2 + 1) + 42) ≤ qa_lo M
      rw [qa_cats]
      omega
    · intro t hal hz hk1
      refine ⟨E, ψ, al1, a1, rfl, x1, a2, a3, qa_Hp_kept a4 hk1, Nat.le_trans a5.1 hz, fun q h1 h2 => ?_⟩
      rw [hk1 q (Nat.lt_of_lt_of_le h1 a5.1)]
      exact a5.2.1 q h1 h2
  · intro E ψ al1 H1 locs1 pc1 ls1 rest ce q a1 a2 a3 a4 a5 a6 a7 a8 a9 a10
    have hemp : c.exceptionTable.toList = [] := by rw [htab, List.isEmpty_iff.mp a7]; rfl
    exact vx_out (by rw [hemp]; exact fun x hx => nomatch hx) B.notSynchronized a8 a9 a10 (fun t ht _ => ⟨E, ψ, al1, a1, rfl, a2, a3, a4, by rw [ht]; exact a5, a6.F ht⟩) a6.2.2 (Nat.le_refl _) (Nat.le_refl _)
theorem qa_ct_of {n : Nat} {avs : List qa_V} {r : qa_Z} (hlst : l.stackTraces = false) (hfl : qa_FL l D ca b L z xs n) (hok : qa_Ok M) (hk : qa_cl M < 12) (hh11 : (qa_hh M).isEmpty = true ∨ qa_cl M = 11) (hav : qa_oS h.1 avs) (hsl : (avs.map qa_cat).sum ≤ qa_ml M)
    (hex : qa_ex n M 0 (qa_ag 0 avs) [] h = some r) : qa_Ct l D ca b L z xs M φ al h avs r := by
  obtain ⟨g1, g2, g3, g4, g5, g6, g7, g8, g9, g10, g11⟩ := qa_mk_sp hok.2
  unfold qa_Ct
  by_cases hem : (qa_hh M).isEmpty = true
  · have hcw : qa_mw M = .code (qa_nm M) (qa_by M) (qa_ml M) (qa_rt M) :: qa_gw := by unfold qa_mw qa_cw; rw [if_pos hem]
    refine vx_ofW (cc := qa_by M) (maxL := qa_ml M) (ret := qa_rt M) g3 hcw fun p e s m args below meth c s₁ B hml ht hP => ?_
    refine qa_body hlst hfl hok hk hh11 hav hsl hex rfl rfl B hml (fun w hw => List.mem_cons_of_mem _ hw) ?_ hP
    rw [List.isEmpty_iff.mp hem]
    exact List.eq_nil_iff_forall_not_mem.mpr ht
  · have hcw : qa_mw M = .codeWith (qa_nm M) (qa_by M) (qa_ml M) (qa_rt M) (qa_hh M) :: qa_gw := by unfold qa_mw qa_cw; rw [if_neg hem]
    refine vx_ofWH (cc := qa_by M) (maxL := qa_ml M) (ret := qa_rt M) (hh := qa_hh M) g3 hcw fun p e s m args below meth c s₁ B hml hP => ?_
    refine qa_body hlst hfl hok hk hh11 hav hsl hex rfl rfl B hml (fun w hw => List.mem_cons_of_mem _ hw) ?_ hP
    exact vx_table (x := qa_nm M) B (atoms_spec (ws := qa_mw M) B.pre _ (by rw [hcw]; exact List.mem_cons_self))
theorem qa_map_some {n : Nat} {pc1 : Nat} {lv : qa_L} {st1 : List qa_V} {h1 : qa_H} {k sl : Nat} {r : qa_Z} (e : (qa_ex n M pc1 lv st1 h1).map (qa_pl k sl) = some r) : ∃ r1, qa_ex n M pc1 lv st1 h1 = some r1 ∧ r.1 = r1.1 ∧ r.2.1 = r1.2.1 ∧ r.2.2.1 = k + r1.2.2.1 ∧ r.2.2.2 = sl + r1.2.2.2 := by
  obtain ⟨r1, h2, h3⟩ := Option.map_eq_some_iff.mp e
  subst h3
  exact ⟨r1, h2, rfl, rfl, rfl, rfl⟩
set_option maxHeartbeats 2000000 in
theorem qa_main (hlst : l.stackTraces = false) : ∀ n : Nat, qa_FL l D ca b L z xs n := by
  intro n
  induction n with
  | zero =>
    intro M pc lv st h r hde hex
    cases hex
  | succ n ih =>
    intro M pc lv st h r hde hex p e R s m args below meth c H locs cells slots Q φ al ls K S hFr hini hE hh11 hK hSl hKR hSR hI hS hl hoL hoS hks
    have hFr0 := hFr
    unfold qa_ex at hex
    split at hex
    · cases hex
    · next ins len hlk =>
      have hd := qa_de_at hde hlk
      split at hex
      · next F hdo =>
        exact qa_doW hFr hE hI hS hl hoL hoS hd hdo (fun ls1 pc1 e1 hl1 hoL1 hoS1 => by
          subst e1
          exact ih M F.1 F.2.1 F.2.2 h r hde hex p e R s m args below meth c H locs cells slots Q φ al ls1 K S hFr hini hE hh11 hK hSl hKR hSR hI hS hl1 hoL1 hoS1 hks)
      · split at hex
        · next v hre =>
          cases hex
          obtain ⟨rfl, hst⟩ := qa_re_inv hre
          subst hst
          have K0 := hks.1 v φ al H locs pc ls ins rfl (qa_ag2_refl _ _) (fun _ h => h) hI hS (fun w hw => by subst hw; exact hoS w List.mem_cons_self) hd hre
          rw [← hK, ← hSl] at K0
          exact K0
        · split at hex
          · next w hw =>
            exact qa_wrW hFr hE hI hS hini hoS hd hw (fun H1 locs1 hI1 hS1 hoS1 => ih M w.1 lv w.2.1 (h.1, qa_up h.2 w.2.2.1 w.2.2.2) r hde hex p e R s m args below meth c H1 locs1 cells slots Q φ al ls K S hFr hini hE hh11 hK hSl hKR hSR hI1 hS1 hl hoL hoS1 hks)
          · split at hex
            · next w hw =>
              obtain ⟨r1, hex1, e1, e2, e3, e4⟩ := qa_map_some hex
              have hmo : ∀ q, qa_lt q h.1 → qa_lt q (qa_nxt (qa_at h.1 w.2.2.1)) := fun q hq => qa_lt_nxt ((qa_fresh_at h.1 w.2.2.1).2 q hq)
              refine qa_mkW hFr hE hI hS hoS hd hw (by omega) (by omega) (fun ψ al1 H1 hag hI1 hS1 hoS1 => ?_)
              have hks1 := qa_Ks_on hag hmo hks
              rw [e1, e2] at hks1
              exact ih M w.1 lv (.inl (qa_at h.1 w.2.2.1) :: w.2.1) _ r1 hde hex1 p e R s m args below meth c H1 locs (cells + 1) (slots + w.2.2.2) Q ψ al1 ls K S hFr hini hE hh11 (by omega) (by omega) hKR hSR hI1 hS1 (by rw [qa_lm_ag hag hoL]; exact hl) (qa_oL_mono hmo hoL) (qa_oS_cons (qa_lt_self _) (qa_oS_mono hmo hoS1)) hks1
            · split at hex
              · next E hth =>
                cases hex
                exact hks.2.1 E φ al H locs pc ls st ins len cells slots rfl (qa_ag2_refl _ _) (fun _ h => h) hI hS hl.1 hd hth hK hSl
              · split at hex
                · cases hex
                · next w hinv =>
                  obtain ⟨M1, nest, avs, rest⟩ := w
                  obtain ⟨i, pl, hins, hlk1, rfl, hna, hst, hc8, hcl, hf1, hl1, hhh, hrc⟩ := qa_inv_sp hinv
                  have hcq := qa_cq_at hFr.2.2.2.2.2.1 hlk1
                  have hoa : qa_oS h.1 avs := fun v hv => hoS v (by rw [hst]; exact List.mem_append_left _ (List.mem_reverse.mpr hv))
                  have hor : qa_oS h.1 rest := fun v hv => hoS v (by rw [hst]; exact List.mem_append_right _ hv)
                  split at hex
                  · cases hex
                  · next v h1 k sl hex1 =>
                    obtain ⟨r1, hex2, e1, e2, e3, e4⟩ := qa_map_some hex
                    have hC : qa_Ok M1 → qa_Ct l D ca b L z xs M1 φ al h avs (.inl v, h1, k, sl) := fun hok => qa_ct_of hlst ih hok hcq.2.1 hcq.2.2 hoa hcl hex1
                    obtain ⟨a, hrun⟩ := qa_invW (e := e) (below := below) (meth := meth) (cells := cells) (slots := slots) (r := (.inl v, h1, k, sl)) hFr hE hI hS hl.1 hd hinv hC (fun _ => ⟨v, rfl⟩) (by dsimp only; omega) (by dsimp only; omega)
                    refine qa_callW hrun hS (fun k9 ψ al1 ce q9 H1 locs1 a1 => by dsimp only at a1; cases a1) (fun v1 ψ al1 H1 locs1 a1 hag hmo hI1 hov hS1 => ?_)
                    dsimp only at a1
                    cases a1
                    have hks1 := qa_Ks_on hag hmo hks
                    rw [e1, e2] at hks1
                    have K0 := ih M (pc + 3) lv (v.toList ++ rest) h1 r1 hde hex2 p e R s m args below meth c H1 locs1 (cells + k) (slots + sl) Q ψ al1 ls K S hFr hini hE hh11 (by omega) (by omega) hKR hSR hI1 hS1 (by rw [qa_lm_ag hag hoL]; exact hl) (qa_oL_mono hmo hoL) (fun w hw => by
                      rcases List.mem_append.mp hw with h2 | h2
                      · exact hov w (Option.mem_toList.mp h2)
                      · exact qa_ov_mono hmo (hor w h2)) hks1
                    rw [List.map_append, qa_st_ag hag hor] at K0
                    rw [show (v.map (qa_cv ψ)).toList = v.toList.map (qa_cv ψ) by cases v <;> rfl]
                    exact K0
                  · next E h1 k sl hex1 =>
                    split at hex
                    · cases hex
                    · next hno =>
                      have hC : qa_Ok M1 → qa_Ct l D ca b L z xs M1 φ al h avs (.inr E, h1, k, sl) := fun hok => qa_ct_of hlst ih hok hcq.2.1 hcq.2.2 hoa hcl hex1
                      split at hex
                      · next hem =>
                        cases hex
                        obtain ⟨a, hrun⟩ := qa_invW (e := e) (below := below) (meth := meth) (cells := cells) (slots := slots) (r := (.inr E, h1, k, sl)) hFr hE hI hS hl.1 hd hinv hC (fun h9 => absurd h9 hno) (by dsimp only at hK ⊢; omega) (by dsimp only at hSl ⊢; omega)
                        refine qa_callW hrun hS (fun k9 ψ al1 ce q9 H1 locs1 a1 a2 a3 a4 a5 a6 a7 a8 a9 => ?_) (fun v1 ψ al1 H1 locs1 a1 => by dsimp only at a1; cases a1)
                        have K0 := hks.2.2 k9 ψ al1 H1 locs1 pc ls (rest.map (qa_cv φ)) ce q9 a1 a2 a3 a4 a5 a6 hem a7 a8 a9
                        dsimp only at hK hSl
                        rw [← hK, ← hSl] at K0
                        exact K0
                      · next hem =>
                        split at hex
                        · cases hex
                        · next t hhd =>
                          obtain ⟨r1, hex2, e1, e2, e3, e4⟩ := qa_map_some hex
                          obtain ⟨a, hrun⟩ := qa_invW (e := e) (below := below) (meth := meth) (cells := cells) (slots := slots) (r := (.inr E, h1, k, sl)) hFr hE hI hS hl.1 hd hinv hC (fun h9 => absurd h9 hno) (by dsimp only; omega) (by dsimp only; omega)
                          refine qa_callW hrun hS (fun k9 ψ al1 ce q9 H1 locs1 a1 a2 hag hmo hI1 hS1 a7 a8 a9 => ?_) (fun v1 ψ al1 H1 locs1 a1 => by dsimp only at a1; cases a1)
                          dsimp only at a1
                          cases a1
                          obtain ⟨htab, h11⟩ := hh11.resolve_left hem
                          obtain ⟨hx, hb, hml, hown, hts, -⟩ := hFr
                          rw [h11] at hown
                          obtain ⟨pre, x, suf, t1, t2, t3, t4, t5⟩ := qa_hd_sp _ _ _ _ hhd
                          obtain ⟨-, u2, u3⟩ := qa_ht3 t4
                          refine vx_catch (own := RL) (name := qa_xn E) hown pre x suf (htab.trans t1) (fun y hy => ?_) t3 u2 (hts _ u3) ((hE.2.1 _ (qa_cast3 a2)).use rfl) a7 a8 a9 ?_
                          · rcases t2 y hy with g1 | ⟨j, g1, g2⟩
                            · exact Or.inl g1
                            · obtain ⟨w1, w2, w3⟩ := qa_ht3 g1
                              exact Or.inr ⟨w2, qa_xn j, hts _ w3, hE.2.2.2.1 _ (qa_ncl3 a2 w1 g2)⟩
                          · subst t5
                            have hmo2 : ∀ q, qa_lt q h.1 → qa_lt q (qa_nxt h1.1) := fun q hq => qa_lt_nxt (hmo q hq)
                            have hag2 : qa_ag2 h1.1 ψ (fun q => if q = h1.1 then q9 else ψ q) := fun q hq => if_neg (fun t => (qa_fresh_self h1.1).1 (by have hq2 := hq; rw [t] at hq2; exact hq2))
                            have hag3 := qa_ag2_tr hag hmo hag2
                            have hks1 := qa_Ks_on hag3 hmo2 hks
                            rw [e1, e2] at hks1
                            have K0 := ih M x.handlerPc lv [.inl h1.1] _ r1 hde hex2 p e R s m args below meth c H1 locs1 (cells + k) (slots + sl) Q (fun q => if q = h1.1 then q9 else ψ q) al1 ls K S hFr0 hini hE hh11 (by omega) (by omega) hKR hSR (qa_Hp_junk hI1) hS1 (by rw [qa_lm_ag hag3 hoL]; exact hl) (qa_oL_mono hmo2 hoL) (qa_oS_cons (qa_lt_self _) (fun _ h => nomatch h)) hks1
                            have e9 : ([.inl h1.1] : List qa_V).map (qa_cv (fun q => if q = h1.1 then q9 else ψ q)) = [.ref q9] := by
                              show [Value.ref (if h1.1 = h1.1 then q9 else ψ h1.1)] = _
                              rw [if_pos rfl]
                            rw [e9] at K0
                            exact K0
end QMA
end
