/-! A small machine of my own for the program's bytecode (qa_): its words. Positions of cells are pairs (region, place). -/
abbrev qa_P : Type := Nat × Nat
/-- a value: a reference by its position, or a value of the machine that is none -/
abbrev qa_V : Type := qa_P ⊕ Value
abbrev qa_R : Type := (Nat → Int32) ⊕ (Nat → Int64) ⊕ (Nat → Option qa_P)
/-- a cell: an object (class, fields by slot) or an array (kind of its elements, length, elements) -/
abbrev qa_C : Type := (Nat × (Nat → qa_V)) ⊕ (Nat × Nat × qa_R)
/-- the heap: the next free position, the cells -/
abbrev qa_H : Type := qa_P × (qa_P → qa_C)
abbrev qa_L : Type := List (Nat × qa_V)
/-- a method: name, bytes, locals, return type, class, instructions, arguments with the receiver, kind (0 constructor, 1 static, 2 of an object), frames, locals' room, handlers, places of its words in lw_tbl -/
abbrev qa_M : Type := MethodName × ByteArray × Nat × Option FieldType × Nat × List (Nat × Instr × Nat) × Nat × Nat × Nat × Nat × List (Nat × Nat × Nat × Nat) × Nat × Nat × Nat
def qa_nm (M : qa_M) : MethodName := M.1
def qa_by (M : qa_M) : ByteArray := M.2.1
def qa_ml (M : qa_M) : Nat := M.2.2.1
def qa_rt (M : qa_M) : Option FieldType := M.2.2.2.1
def qa_cl (M : qa_M) : Nat := M.2.2.2.2.1
def qa_is (M : qa_M) : List (Nat × Instr × Nat) := M.2.2.2.2.2.1
def qa_na (M : qa_M) : Nat := M.2.2.2.2.2.2.1
def qa_sk (M : qa_M) : Nat := M.2.2.2.2.2.2.2.1
def qa_fr (M : qa_M) : Nat := M.2.2.2.2.2.2.2.2.1
def qa_lo (M : qa_M) : Nat := M.2.2.2.2.2.2.2.2.2.1
def qa_hh (M : qa_M) : List (Nat × Nat × Nat × Nat) := M.2.2.2.2.2.2.2.2.2.2.1
def qa_wp (M : qa_M) : Nat × Nat × Nat := M.2.2.2.2.2.2.2.2.2.2.2
def qa_lk {α : Type} : List (Nat × α) → Nat → Option α
  | [], _ => none
  | (k, a) :: l, n => if k = n then some a else qa_lk l n
theorem qa_lk_mem {α : Type} {l : List (Nat × α)} {n : Nat} {a : α} (h : qa_lk l n = some a) : (n, a) ∈ l := by
  induction l with
  | nil => cases h
  | cons q l ih =>
    obtain ⟨k, b⟩ := q
    unfold qa_lk at h
    split at h
    · next e => cases h; rw [e]; exact List.mem_cons_self
    · exact List.mem_cons_of_mem _ (ih h)
/-- each instruction stands where the listing says -/
def qa_de (M : qa_M) : Bool := (qa_is M).all (fun q => decide (decode (qa_by M) q.1 = .ok (q.2.1, q.2.2)))
