/-! the small machine: what its steps do -/
def qa_cv (φ : qa_P → Nat) (v : qa_V) : Value := match v with
  | .inl p => .ref (φ p)
  | .inr v => v
def qa_cat (v : qa_V) : Nat := match v with
  | .inl _ => 1
  | .inr v => v.category
def qa_lm (φ : qa_P → Nat) (lv : qa_L) : List (Nat × Value) := lv.map (fun q => (q.1, qa_cv φ q.2))
abbrev qa_F : Type := Nat × qa_L × List qa_V
def qa_S (len n pc : Nat) (lv : qa_L) (o : Option (List qa_V)) : Option qa_F := if len = n then o.map (fun st => (pc + n, lv, st)) else none
def qa_ii (f : Int32 → Int32 → Option Value) (st : List qa_V) : Option (List qa_V) := match st with
  | .inr (.int y) :: .inr (.int x) :: r => (f x y).map (fun v => .inr v :: r)
  | _ => none
def qa_jj (f : Int64 → Int64 → Option Value) (st : List qa_V) : Option (List qa_V) := match st with
  | .inr (.long y) :: .inr (.long x) :: r => (f x y).map (fun v => .inr v :: r)
  | _ => none
def qa_dd (f : UInt64 → UInt64 → Option Value) (st : List qa_V) : Option (List qa_V) := match st with
  | .inr (.double y) :: .inr (.double x) :: r => (f x y).map (fun v => .inr v :: r)
  | _ => none
def qa_ui (f : Int32 → Value) (st : List qa_V) : Option (List qa_V) := match st with
  | .inr (.int x) :: r => some (.inr (f x) :: r)
  | _ => none
def qa_uj (f : Int64 → Value) (st : List qa_V) : Option (List qa_V) := match st with
  | .inr (.long x) :: r => some (.inr (f x) :: r)
  | _ => none
def qa_ud (f : UInt64 → Value) (st : List qa_V) : Option (List qa_V) := match st with
  | .inr (.double x) :: r => some (.inr (f x) :: r)
  | _ => none
def qa_ji (f : Int64 → Int32 → Value) (st : List qa_V) : Option (List qa_V) := match st with
  | .inr (.int y) :: .inr (.long x) :: r => some (.inr (f x y) :: r)
  | _ => none
def qa_li (lv : qa_L) (i : Nat) (st : List qa_V) : Option (List qa_V) := match qa_lk lv i with
  | some (.inr (.int x)) => some (.inr (.int x) :: st)
  | _ => none
def qa_ll (lv : qa_L) (i : Nat) (st : List qa_V) : Option (List qa_V) := match qa_lk lv i with
  | some (.inr (.long x)) => some (.inr (.long x) :: st)
  | _ => none
def qa_ld (lv : qa_L) (i : Nat) (st : List qa_V) : Option (List qa_V) := match qa_lk lv i with
  | some (.inr (.double x)) => some (.inr (.double x) :: st)
  | _ => none
def qa_la (lv : qa_L) (i : Nat) (st : List qa_V) : Option (List qa_V) := match qa_lk lv i with
  | some (.inl x) => some (.inl x :: st)
  | _ => none
/-- the locals behind a store of one slot, of two slots -/
def qa_s1 (i : Nat) (v : qa_V) (lv : qa_L) : qa_L := (i, v) :: lv.filter (fun q => !(q.1 == i) && !(q.1 + 1 == i && qa_cat q.2 == 2))
def qa_s2 (i : Nat) (v : qa_V) (lv : qa_L) : qa_L := (i, v) :: lv.filter (fun q => !(q.1 == i) && (!(q.1 == i + 1) && !(q.1 + 1 == i && qa_cat q.2 == 2)))
def qa_si (nL len n pc i : Nat) (lv : qa_L) (st : List qa_V) : Option qa_F := match st with
  | .inr (.int x) :: r => if len = n ∧ i < nL then some (pc + n, qa_s1 i (.inr (.int x)) lv, r) else none
  | _ => none
def qa_sa (nL len n pc i : Nat) (lv : qa_L) (st : List qa_V) : Option qa_F := match st with
  | .inl x :: r => if len = n ∧ i < nL then some (pc + n, qa_s1 i (.inl x) lv, r) else none
  | _ => none
def qa_sl (nL len n pc i : Nat) (lv : qa_L) (st : List qa_V) : Option qa_F := match st with
  | .inr (.long x) :: r => if len = n ∧ i + 1 < nL then some (pc + n, qa_s2 i (.inr (.long x)) lv, r) else none
  | _ => none
def qa_sd (nL len n pc i : Nat) (lv : qa_L) (st : List qa_V) : Option qa_F := match st with
  | .inr (.double x) :: r => if len = n ∧ i + 1 < nL then some (pc + n, qa_s2 i (.inr (.double x)) lv, r) else none
  | _ => none
def qa_to (pc : Nat) (off : Int) : Nat := ((pc : Int) + off).toNat
def qa_b1 (len pc : Nat) (off : Int) (lv : qa_L) (st : List qa_V) (t : Int32 → Bool) : Option qa_F := match st with
  | .inr (.int x) :: r => if len = 3 ∧ 0 ≤ (pc : Int) + off then some (if t x = true then qa_to pc off else pc + 3, lv, r) else none
  | _ => none
def qa_b2 (len pc : Nat) (off : Int) (lv : qa_L) (st : List qa_V) (t : Int32 → Int32 → Bool) : Option qa_F := match st with
  | .inr (.int y) :: .inr (.int x) :: r => if len = 3 ∧ 0 ≤ (pc : Int) + off then some (if t x y = true then qa_to pc off else pc + 3, lv, r) else none
  | _ => none
def qa_bn (len pc : Nat) (off : Int) (lv : qa_L) (st : List qa_V) : Option qa_F := match st with
  | .inl _ :: r => if len = 3 then some (pc + 3, lv, r) else none
  | .inr .null :: r => if len = 3 ∧ 0 ≤ (pc : Int) + off then some (qa_to pc off, lv, r) else none
  | _ => none
def qa_dp (st : List qa_V) : Option (List qa_V) := match st with
  | x :: r => if qa_cat x = 1 then some (x :: x :: r) else none
  | _ => none
def qa_pp (st : List qa_V) : Option (List qa_V) := match st with
  | x :: r => if qa_cat x = 1 then some r else none
  | _ => none
def qa_d2 (st : List qa_V) : Option (List qa_V) := match st with
  | x :: y :: r => if qa_cat x = 1 ∧ qa_cat y = 1 then some (x :: y :: x :: y :: r) else none
  | _ => none
/-- is the index within -/
def qa_in (i : Int32) (n : Nat) : Bool := decide (¬ (i < 0 ∨ n ≤ i.toNatClampNeg))
def qa_gf (k idx : Nat) (h : qa_P → qa_C) (st : List qa_V) : Option (List qa_V) := match st with
  | .inl p :: r => match qa_lk (qa_fl k) idx, h p with
    | some (ci, sl, _), .inl (cj, f) => if cj = ci then some (f sl :: r) else none
    | _, _ => none
  | _ => none
def qa_an_ (h : qa_P → qa_C) (st : List qa_V) : Option (List qa_V) := match st with
  | .inl p :: r => match h p with
    | .inr (τ, n, _) => if τ < 4 ∨ τ = 9 then some (.inr (.int (Int32.ofNat n)) :: r) else none
    | _ => none
  | _ => none
def qa_ia (h : qa_P → qa_C) (st : List qa_V) : Option (List qa_V) := match st with
  | .inr (.int i) :: .inl p :: r => match h p with
    | .inr (τ, n, .inl f) => if (τ = 0 ∨ τ = 9) ∧ qa_in i n = true then some (.inr (.int (f i.toNatClampNeg)) :: r) else none
    | _ => none
  | _ => none
def qa_ba (h : qa_P → qa_C) (st : List qa_V) : Option (List qa_V) := match st with
  | .inr (.int i) :: .inl p :: r => match h p with
    | .inr (τ, n, .inl f) => if τ = 1 ∧ qa_in i n = true then some (.inr (.int (f i.toNatClampNeg)) :: r) else none
    | _ => none
  | _ => none
def qa_ja (h : qa_P → qa_C) (st : List qa_V) : Option (List qa_V) := match st with
  | .inr (.int i) :: .inl p :: r => match h p with
    | .inr (τ, n, .inr (.inl f)) => if τ = 2 ∧ qa_in i n = true then some (.inr (.long (f i.toNatClampNeg)) :: r) else none
    | _ => none
  | _ => none
def qa_rv (o : Option qa_P) : qa_V := match o with
  | some p => .inl p
  | none => .inr .null
def qa_aa (h : qa_P → qa_C) (st : List qa_V) : Option (List qa_V) := match st with
  | .inr (.int i) :: .inl p :: r => match h p with
    | .inr (τ, n, .inr (.inr f)) => if τ = 3 ∧ qa_in i n = true then some (qa_rv (f i.toNatClampNeg) :: r) else none
    | _ => none
  | _ => none
def qa_lc (k idx : Nat) (st : List qa_V) : Option (List qa_V) := match qa_lk (qa_kl k) idx with
  | some (v, _) => some (.inr v :: st)
  | _ => none
def qa_lz (k idx : Nat) (st : List qa_V) : Option (List qa_V) := match qa_lk (qa_kz k) idx with
  | some (v, _) => some (.inr (.int v) :: st)
  | _ => none
def qa_ls (pc : Nat) (dflt : Int) (ps : Array (Int × Int)) (lv : qa_L) (st : List qa_V) : Option qa_F := match st with
  | .inr (.int x) :: r => if (ps.toList.zip (ps.toList.drop 1)).all (fun q => decide (q.1.1 < q.2.1)) = true ∧ 0 ≤ (pc : Int) + Op.lookupswitch.offset ps.toList dflt x.toInt then some (qa_to pc (Op.lookupswitch.offset ps.toList dflt x.toInt), lv, r) else none
  | _ => none
def qa_ts (pc : Nat) (dflt lo hi : Int) (offs : Array Int) (lv : qa_L) (st : List qa_V) : Option qa_F := match st with
  | .inr (.int x) :: r =>
    if x.toInt < lo ∨ hi < x.toInt then (if 0 ≤ (pc : Int) + dflt then some (qa_to pc dflt, lv, r) else none)
    else match offs[(x.toInt - lo).toNat]? with
      | some off => if 0 ≤ (pc : Int) + off then some (qa_to pc off, lv, r) else none
      | none => none
  | _ => none
/-- Object's constructor -/
def qa_ob (M : qa_M) (idx : Nat) (st : List qa_V) : Option (List qa_V) := match st with
  | .inl _ :: r => if (qa_oi.any (fun q => q.1 == qa_cl M && q.2.1 == idx)) = true ∧ (r.map qa_cat).sum ≤ 8 ∧ 1 ≤ qa_fr M ∧ 20 ≤ qa_lo M then some r else none
  | _ => none
/-- a step that writes no cell -/
def qa_do (M : qa_M) (h : qa_P → qa_C) (ins : Instr) (len pc : Nat) (lv : qa_L) (st : List qa_V) : Option qa_F := match ins with
  | .iconst n => qa_S len 1 pc lv (some (.inr (.int (Int32.ofInt n)) :: st))
  | .bipush n => qa_S len 2 pc lv (some (.inr (.int (Int8.ofInt n).toInt32) :: st))
  | .sipush n => qa_S len 3 pc lv (some (.inr (.int (Int16.ofInt n).toInt32) :: st))
  | .lconst n => qa_S len 1 pc lv (some (.inr (.long (Int64.ofNat (n : Nat))) :: st))
  | .dconst d => qa_S len 1 pc lv (some (.inr (.double (if (d : Nat) = 0 then FP.dconst0 else FP.dconst1)) :: st))
  | .ldc2_w i => qa_S len 3 pc lv (qa_lc (qa_cl M) i st)
  | .ldc i => qa_S len 2 pc lv (qa_lz (qa_cl M) i st)
  | .iload_n i => qa_S len 1 pc lv (qa_li lv (i : Nat) st)
  | .iload i => qa_S len 2 pc lv (qa_li lv i st)
  | .lload_n i => qa_S len 1 pc lv (qa_ll lv (i : Nat) st)
  | .lload i => qa_S len 2 pc lv (qa_ll lv i st)
  | .dload_n i => qa_S len 1 pc lv (qa_ld lv (i : Nat) st)
  | .dload i => qa_S len 2 pc lv (qa_ld lv i st)
  | .aload_n i => qa_S len 1 pc lv (qa_la lv (i : Nat) st)
  | .aload i => qa_S len 2 pc lv (qa_la lv i st)
  | .istore_n i => qa_si (qa_ml M) len 1 pc (i : Nat) lv st
  | .istore i => qa_si (qa_ml M) len 2 pc i lv st
  | .lstore_n i => qa_sl (qa_ml M) len 1 pc (i : Nat) lv st
  | .lstore i => qa_sl (qa_ml M) len 2 pc i lv st
  | .dstore_n i => qa_sd (qa_ml M) len 1 pc (i : Nat) lv st
  | .dstore i => qa_sd (qa_ml M) len 2 pc i lv st
  | .astore_n i => qa_sa (qa_ml M) len 1 pc (i : Nat) lv st
  | .astore i => qa_sa (qa_ml M) len 2 pc i lv st
  | .iinc i n => match qa_lk lv i with
    | some (.inr (.int x)) => if len = 3 ∧ i < qa_ml M then some (pc + 3, qa_s1 i (.inr (.int (x + Int32.ofInt n))) lv, st) else none
    | _ => none
  | .iadd => qa_S len 1 pc lv (qa_ii (fun x y => some (.int (x + y))) st)
  | .isub => qa_S len 1 pc lv (qa_ii (fun x y => some (.int (x - y))) st)
  | .imul => qa_S len 1 pc lv (qa_ii (fun x y => some (.int (x * y))) st)
  | .iand => qa_S len 1 pc lv (qa_ii (fun x y => some (.int (x &&& y))) st)
  | .ior => qa_S len 1 pc lv (qa_ii (fun x y => some (.int (x ||| y))) st)
  | .ishl => qa_S len 1 pc lv (qa_ii (fun x y => some (.int (x <<< (y &&& 31)))) st)
  | .ishr => qa_S len 1 pc lv (qa_ii (fun x y => some (.int (x >>> (y &&& 31)))) st)
  | .idiv => qa_S len 1 pc lv (qa_ii (fun x y => if y = 0 then none else some (.int (x / y))) st)
  | .irem => qa_S len 1 pc lv (qa_ii (fun x y => if y = 0 then none else some (.int (x - x / y * y))) st)
  | .ineg => qa_S len 1 pc lv (qa_ui (fun x => .int (-x)) st)
  | .i2l => qa_S len 1 pc lv (qa_ui (fun x => .long x.toInt64) st)
  | .i2d => qa_S len 1 pc lv (qa_ui (fun x => .double (FP.i2d x)) st)
  | .l2d => qa_S len 1 pc lv (qa_uj (fun x => .double (FP.l2d x)) st)
  | .d2l => qa_S len 1 pc lv (qa_ud (fun x => .long (FP.d2l x)) st)
  | .ladd => qa_S len 1 pc lv (qa_jj (fun x y => some (.long (x + y))) st)
  | .lmul => qa_S len 1 pc lv (qa_jj (fun x y => some (.long (x * y))) st)
  | .lcmp => qa_S len 1 pc lv (qa_jj (fun x y => some (.int (lg_cmp x y))) st)
  | .lshl => qa_S len 1 pc lv (qa_ji (fun x y => .long (x <<< (y.toInt64 &&& 63))) st)
  | .ddiv => qa_S len 1 pc lv (qa_dd (fun x y => if FP.ddiv x y &&& 0x7fffffffffffffff ≤ 0x7ff0000000000000 then some (.double (FP.ddiv x y)) else none) st)
  | .dmul => qa_S len 1 pc lv (qa_dd (fun x y => if FP.dmul x y &&& 0x7fffffffffffffff ≤ 0x7ff0000000000000 then some (.double (FP.dmul x y)) else none) st)
  | .dsub => qa_S len 1 pc lv (qa_dd (fun x y => if FP.dsub x y &&& 0x7fffffffffffffff ≤ 0x7ff0000000000000 then some (.double (FP.dsub x y)) else none) st)
  | .dcmp op => qa_S len 1 pc lv (qa_dd (fun x y => some (.int (Op.cmpValue (FP.dcmp x y) op))) st)
  | .dup => qa_S len 1 pc lv (qa_dp st)
  | .pop => qa_S len 1 pc lv (qa_pp st)
  | .dup2 => qa_S len 1 pc lv (qa_d2 st)
  | .goto off => if len = 3 ∧ 0 ≤ (pc : Int) + off then some (qa_to pc off, lv, st) else none
  | .ifCond .eq off => qa_b1 len pc off lv st (fun x => decide (x = 0))
  | .ifCond .ne off => qa_b1 len pc off lv st (fun x => decide (¬ x = 0))
  | .ifCond .lt off => qa_b1 len pc off lv st (fun x => decide (x < 0))
  | .ifCond .ge off => qa_b1 len pc off lv st (fun x => decide (0 ≤ x))
  | .ifCond .gt off => qa_b1 len pc off lv st (fun x => decide (0 < x))
  | .ifCond .le off => qa_b1 len pc off lv st (fun x => decide (x ≤ 0))
  | .if_icmp .eq off => qa_b2 len pc off lv st (fun x y => decide (x = y))
  | .if_icmp .ne off => qa_b2 len pc off lv st (fun x y => decide (¬ x = y))
  | .if_icmp .lt off => qa_b2 len pc off lv st (fun x y => decide (x < y))
  | .if_icmp .ge off => qa_b2 len pc off lv st (fun x y => decide (y ≤ x))
  | .if_icmp .gt off => qa_b2 len pc off lv st (fun x y => decide (y < x))
  | .if_icmp .le off => qa_b2 len pc off lv st (fun x y => decide (x ≤ y))
  | .ifnull off => qa_bn len pc off lv st
  | .lookupswitch dflt ps => qa_ls pc dflt ps lv st
  | .tableswitch dflt lo hi offs => qa_ts pc dflt lo hi offs lv st
  | .getfield i => qa_S len 3 pc lv (qa_gf (qa_cl M) i h st)
  | .arraylength => qa_S len 1 pc lv (qa_an_ h st)
  | .iaload => qa_S len 1 pc lv (qa_ia h st)
  | .baload => qa_S len 1 pc lv (qa_ba h st)
  | .aaload => qa_S len 1 pc lv (qa_aa h st)
  | .invokespecial i => qa_S len 3 pc lv (qa_ob M i st)
  | _ => none
/-- the type of a field, is it final, and does a value fit -/
def qa_ft (ci : Nat) : Nat → FieldType := match ci with
  | 0 => tyX0
  | 1 => tyX1
  | 2 => tyX2
  | 3 => tyX3
  | 4 => tyX4
  | 5 => tyX5
  | 6 => tyX6
  | 7 => tyX7
  | 8 => tyX8
  | 9 => tyX9
  | _ => tyX10
def qa_fn (ci sl : Nat) : Bool := match vwCl[ci]? with
  | some q => (q.2.1 sl).2.2.2
  | none => false
def qa_fz (ci : Nat) : Nat := match vwCl[ci]? with
  | some q => q.2.2
  | none => 0
def qa_fit (ty : FieldType) (v : qa_V) : Bool := match v with
  | .inl _ => (match ty with
    | .object _ | .array _ => true
    | _ => false)
  | .inr v => decide (narrow ty v = v) && fits ty v
def qa_up (h : qa_P → qa_C) (p : qa_P) (c : qa_C) : qa_P → qa_C := fun q => if q = p then c else h q
/-- a step that writes one cell: the next place, the stack, the cell's position and what it holds then -/
def qa_wr (M : qa_M) (ins : Instr) (len pc : Nat) (st : List qa_V) (h : qa_P → qa_C) : Option (Nat × List qa_V × qa_P × qa_C) := match ins with
  | .putfield i => match st with
    | v :: .inl p :: r => match qa_lk (qa_fl (qa_cl M)) i, h p with
      | some (ci, sl, _), .inl (cj, f) => if len = 3 ∧ cj = ci ∧ qa_fit (qa_ft ci sl) v = true ∧ (qa_fn ci sl = true → qa_sk M = 0 ∧ ci = qa_cl M) then some (pc + 3, r, p, .inl (ci, fun j => if j = sl then v else f j)) else none
      | _, _ => none
    | _ => none
  | .iastore => match st with
    | .inr (.int x) :: .inr (.int i) :: .inl p :: r => match h p with
      | .inr (τ, n, .inl f) => if len = 1 ∧ τ = 0 ∧ qa_in i n = true then some (pc + 1, r, p, .inr (0, n, .inl (upd f i.toNatClampNeg x))) else none
      | _ => none
    | _ => none
  | .bastore => match st with
    | .inr (.int x) :: .inr (.int i) :: .inl p :: r => match h p with
      | .inr (τ, n, .inl f) => if len = 1 ∧ τ = 1 ∧ qa_in i n = true ∧ (x = 0 ∨ x = 1) then some (pc + 1, r, p, .inr (1, n, .inl (upd f i.toNatClampNeg x))) else none
      | _ => none
    | _ => none
  | .aastore => match st with
    | .inl v :: .inr (.int i) :: .inl p :: r => match h p, h v with
      | .inr (τ, n, .inr (.inr f)), .inl (cj, _) => if len = 1 ∧ τ = 3 ∧ cj = 1 ∧ qa_in i n = true then some (pc + 1, r, p, .inr (3, n, .inr (.inr (va_up f i.toNatClampNeg (some v))))) else none
      | _, _ => none
    | _ => none
  | _ => none
/-- a step that makes a cell: the next place, the stack under the reference, the cell, its elements -/
def qa_mkc (M : qa_M) (ins : Instr) (len pc : Nat) (st : List qa_V) : Option (Nat × List qa_V × qa_C × Nat) := match ins with
  | .new i => match qa_lk (qa_nw (qa_cl M)) i with
    | some (ci, _) => if len = 3 then some (pc + 3, st, .inl (ci, fun j => .inr (defaultValue (qa_ft ci j))), qa_fz ci) else none
    | _ => none
  | .newarray t => match st with
    | .inr (.int n) :: r => if len = 2 ∧ ¬ n < 0 ∧ n.toNatClampNeg ≤ 60000000 then (match t with
      | .int => some (pc + 2, r, .inr (0, n.toNatClampNeg, .inl (fun _ => 0)), n.toNatClampNeg)
      | .boolean => some (pc + 2, r, .inr (1, n.toNatClampNeg, .inl (fun _ => 0)), n.toNatClampNeg)
      | _ => none) else none
    | _ => none
  | .anewarray i => match st with
    | .inr (.int n) :: r => if len = 3 ∧ ¬ n < 0 ∧ n.toNatClampNeg ≤ 60000000 ∧ (qa_an.any (fun q => q.1 == qa_cl M && q.2.1 == i)) = true then some (pc + 3, r, .inr (3, n.toNatClampNeg, .inr (.inr (fun _ => none))), n.toNatClampNeg) else none
    | _ => none
  | _ => none
/-- where a new cell goes: a Bonfire begins a region of its own -/
def qa_at (nx : qa_P) (c : qa_C) : qa_P := match c with
  | .inl (1, _) => (nx.1 + 1, 0)
  | _ => nx
def qa_nxt (p : qa_P) : qa_P := (p.1, p.2 + 1)
/-- a return -/
def qa_re (ret : Option FieldType) (ins : Instr) (len : Nat) (st : List qa_V) : Option (Option qa_V) := match ins with
  | .ireturn => match st with
    | [.inr (.int x)] => (match ret with
      | some ty => if len = 1 ∧ narrow ty (.int x) = .int x then some (some (.inr (.int x))) else none
      | none => none)
    | _ => none
  | .lreturn => match st with
    | [.inr (.long x)] => if len = 1 ∧ ret = some .long then some (some (.inr (.long x))) else none
    | _ => none
  | .dreturn => match st with
    | [.inr (.double x)] => if len = 1 ∧ ret = some .double then some (some (.inr (.double x))) else none
    | _ => none
  | .return_ => match st with
    | [] => if len = 1 ∧ ret = none then some none else none
    | _ => none
  | _ => none
/-- a throw made here: new, dup, invokespecial, athrow -/
def qa_th (M : qa_M) (ins : Instr) (len pc : Nat) (st : List qa_V) : Option Nat := match ins with
  | .new i => match qa_lk qa_xl i with
    | some (_, ik, ic) => if len = 3 ∧ ik = i ∧ qa_cl M = 9 ∧ (qa_hh M).isEmpty = true ∧ 6 ≤ qa_fr M ∧ 90 ≤ qa_lo M ∧ (st.map qa_cat).sum ≤ 8 ∧ qa_lk (qa_is M) (pc + 3) = some (.dup, 1) ∧ qa_lk (qa_is M) (pc + 4) = some (.invokespecial ic, 3) ∧ qa_lk (qa_is M) (pc + 7) = some (.athrow, 1) then some i else none
    | _ => none
  | _ => none
/-- the locals of a method's start -/
def qa_ag : Nat → List qa_V → qa_L
  | _, [] => []
  | i, v :: vs => (i, v) :: qa_ag (if qa_cat v = 2 then i + 2 else i + 1) vs
/-- is the receiver an object of the class -/
def qa_rc (h : qa_P → qa_C) (ci : Nat) (o : Option qa_V) : Bool := match o with
  | some (.inl p) => (match h p with
    | .inl (cj, _) => decide (cj = ci)
    | _ => false)
  | _ => false
/-- a call: the callee, is it by a nest, its arguments in their order, the stack under them -/
def qa_inv (M : qa_M) (h : qa_P → qa_C) (ins : Instr) (len : Nat) (st : List qa_V) : Option (qa_M × Bool × List qa_V × List qa_V) :=
  let go := fun (i sk : Nat) => match qa_lk (qa_ca (qa_cl M)) i with
    | some (M', nest, _) =>
      if len = 3 ∧ qa_sk M' = sk ∧ qa_na M' ≤ st.length ∧ ((st.drop (qa_na M')).map qa_cat).sum ≤ 8 ∧ ((st.take (qa_na M')).map qa_cat).sum ≤ qa_ml M' ∧ qa_fr M' + 1 ≤ qa_fr M ∧ 19 + qa_ml M' + qa_lo M' ≤ qa_lo M ∧ ((qa_hh M').isEmpty = true ∨ (sk = 1 ∧ nest = false))
        ∧ (sk = 1 ∨ qa_rc h (qa_cl M') (st.take (qa_na M')).getLast? = true)
      then some (M', nest, (st.take (qa_na M')).reverse, st.drop (qa_na M')) else none
    | none => none
  match ins with
  | .invokevirtual i => go i 2
  | .invokespecial i => go i 0
  | .invokestatic i => go i 1
  | _ => none
/-- the handler that takes an exception -/
def qa_hd : List (Nat × Nat × Nat × Nat) → Nat → Nat → Option Nat
  | [], _, _ => none
  | (a, b, t, ct) :: l, pc, E => if a ≤ pc ∧ pc < b then (match qa_lk qa_ht ct with
    | some E' => if E' = E then some t else qa_hd l pc E
    | none => none) else qa_hd l pc E
abbrev qa_Z : Type := (Option qa_V ⊕ Nat) × qa_H × Nat × Nat
def qa_pl (k sl : Nat) (z : qa_Z) : qa_Z := (z.1, z.2.1, k + z.2.2.1, sl + z.2.2.2)
/-- the run of a method from a place on, with so many steps at most: how it ends, the heap, the cells and elements that it made -/
def qa_ex : Nat → qa_M → Nat → qa_L → List qa_V → qa_H → Option qa_Z
  | 0, _, _, _, _, _ => none
  | n + 1, M, pc, lv, st, h => match qa_lk (qa_is M) pc with
    | none => none
    | some (ins, len) => match qa_do M h.2 ins len pc lv st with
      | some F => qa_ex n M F.1 F.2.1 F.2.2 h
      | none => match qa_re (qa_rt M) ins len st with
        | some v => some (.inl v, h, 0, 0)
        | none => match qa_wr M ins len pc st h.2 with
          | some w => qa_ex n M w.1 lv w.2.1 (h.1, qa_up h.2 w.2.2.1 w.2.2.2)
          | none => match qa_mkc M ins len pc st with
            | some w => (qa_ex n M w.1 lv (.inl (qa_at h.1 w.2.2.1) :: w.2.1) (qa_nxt (qa_at h.1 w.2.2.1), qa_up h.2 (qa_at h.1 w.2.2.1) w.2.2.1)).map (qa_pl 1 w.2.2.2)
            | none => match qa_th M ins len pc st with
              | some E => some (.inr E, h, 1, 6)
              | none => match qa_inv M h.2 ins len st with
                | none => none
                | some w => match qa_ex n w.1 0 (qa_ag 0 w.2.2.1) [] h with
                  | none => none
                  | some (.inl v, h1, k, sl) => (qa_ex n M (pc + 3) lv (v.toList ++ w.2.2.2) h1).map (qa_pl k sl)
                  | some (.inr E, h1, k, sl) => if w.2.1 = true ∨ qa_sk w.1 = 0 then none else if (qa_hh M).isEmpty = true then some (.inr E, h1, k, sl) else match qa_hd (qa_hh M) pc E with
                    | none => none
                    | some t => (qa_ex n M t lv [.inl h1.1] (qa_nxt h1.1, qa_up h1.2 h1.1 (.inl (99, fun _ => .inr .null)))).map (qa_pl k sl)
