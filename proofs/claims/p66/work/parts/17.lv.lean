/-! more locals, or in another order: the run stays -/
section QLV
variable {M : qa_M} {h : qa_P → qa_C} {ins : Instr} {len pc : Nat} {lv lw : qa_L} {st : List qa_V}
/-- does the instruction look at the locals -/
def qa_loc (ins : Instr) : Bool := match ins with
  | .iload_n _ => true
  | .iload _ => true
  | .lload_n _ => true
  | .lload _ => true
  | .dload_n _ => true
  | .dload _ => true
  | .aload_n _ => true
  | .aload _ => true
  | .istore_n _ => true
  | .istore _ => true
  | .lstore_n _ => true
  | .lstore _ => true
  | .dstore_n _ => true
  | .dstore _ => true
  | .astore_n _ => true
  | .astore _ => true
  | .iinc _ _ => true
  | _ => false
def qa_ml2 (lv : qa_L) (F : qa_F) : qa_F := (F.1, lv, F.2.2)
theorem qa_nl_S {n : Nat} {o : Option (List qa_V)} : qa_S len n pc lv o = (qa_S len n pc [] o).map (qa_ml2 lv) := by
  unfold qa_S
  split
  · cases o <;> rfl
  · rfl
theorem qa_nl_b1 {off : Int} {t : Int32 → Bool} : qa_b1 len pc off lv st t = (qa_b1 len pc off [] st t).map (qa_ml2 lv) := by
  unfold qa_b1
  split
  · split <;> rfl
  · rfl
theorem qa_nl_b2 {off : Int} {t : Int32 → Int32 → Bool} : qa_b2 len pc off lv st t = (qa_b2 len pc off [] st t).map (qa_ml2 lv) := by
  unfold qa_b2
  split
  · split <;> rfl
  · rfl
theorem qa_nl_bn {off : Int} : qa_bn len pc off lv st = (qa_bn len pc off [] st).map (qa_ml2 lv) := by
  unfold qa_bn
  split
  · split <;> rfl
  · split <;> rfl
  · rfl
theorem qa_nl_ls {dflt : Int} {ps : Array (Int × Int)} : qa_ls pc dflt ps lv st = (qa_ls pc dflt ps [] st).map (qa_ml2 lv) := by
  unfold qa_ls
  split
  · split <;> rfl
  · rfl
theorem qa_nl_ts {dflt lo hi : Int} {offs : Array Int} : qa_ts pc dflt lo hi offs lv st = (qa_ts pc dflt lo hi offs [] st).map (qa_ml2 lv) := by
  unfold qa_ts
  split
  · split
    · split <;> rfl
    · split
      · split <;> rfl
      · rfl
  · rfl
theorem qa_do_nl (hn : qa_loc ins = false) : qa_do M h ins len pc lv st = (qa_do M h ins len pc [] st).map (qa_ml2 lv) := by
  cases ins with
  | goto off => unfold qa_do; dsimp only; split <;> rfl
  | ifCond cnd off => cases cnd <;> exact qa_nl_b1
  | if_icmp cnd off => cases cnd <;> exact qa_nl_b2
  | ifnull off => exact qa_nl_bn
  | lookupswitch d ps => exact qa_nl_ls
  | tableswitch d lo hi offs => exact qa_nl_ts
  | _ => first | exact qa_nl_S | rfl | cases hn
theorem qa_le_refl (l : qa_L) : qa_le l l := fun _ _ h => h
/-- the same for the instructions that look at them -/
theorem qa_do_lc (hn : qa_loc ins = true) (hle : qa_le lw lv) (h1 : qa_nd lw = true) (h2 : qa_nd lv = true) {F : qa_F} (e : qa_do M h ins len pc lw st = some F) : ∃ lv', qa_do M h ins len pc lv st = some (F.1, lv', F.2.2) ∧ qa_le F.2.1 lv' ∧ qa_nd F.2.1 = true ∧ qa_nd lv' = true := by
  have hP1 : ∀ (i : Nat) (w : qa_V), (fun q : Nat × qa_V => !(q.1 == i) && !(q.1 + 1 == i && qa_cat q.2 == 2)) (i, w) = false := fun i w => by simp
  have hP2 : ∀ (i : Nat) (w : qa_V), (fun q : Nat × qa_V => !(q.1 == i) && (!(q.1 == i + 1) && !(q.1 + 1 == i && qa_cat q.2 == 2))) (i, w) = false := fun i w => by simp
  have ld : ∀ {n : Nat} {o o' : Option (List qa_V)}, (∀ s, o = some s → o' = some s) → qa_S len n pc lw o = some F → ∃ lv', qa_S len n pc lv o' = some (F.1, lv', F.2.2) ∧ qa_le F.2.1 lv' ∧ qa_nd F.2.1 = true ∧ qa_nd lv' = true := by
    intro n o o' ho e
    obtain ⟨rfl, s, hs, rfl⟩ := qa_S_inv e
    refine ⟨lv, ?_, hle, h1, h2⟩
    rw [ho s hs]
    unfold qa_S
    rw [if_pos rfl]
    rfl
  have li : ∀ (i : Nat) (s : List qa_V), qa_li lw i st = some s → qa_li lv i st = some s := fun i s e => by
    obtain ⟨x, h3, rfl⟩ := qa_li_inv e
    unfold qa_li
    rw [hle _ _ h3]
  have ll : ∀ (i : Nat) (s : List qa_V), qa_ll lw i st = some s → qa_ll lv i st = some s := fun i s e => by
    obtain ⟨x, h3, rfl⟩ := qa_ll_inv e
    unfold qa_ll
    rw [hle _ _ h3]
  have lD : ∀ (i : Nat) (s : List qa_V), qa_ld lw i st = some s → qa_ld lv i st = some s := fun i s e => by
    obtain ⟨x, h3, rfl⟩ := qa_ld_inv e
    unfold qa_ld
    rw [hle _ _ h3]
  have la : ∀ (i : Nat) (s : List qa_V), qa_la lw i st = some s → qa_la lv i st = some s := fun i s e => by
    obtain ⟨x, h3, rfl⟩ := qa_la_inv e
    unfold qa_la
    rw [hle _ _ h3]
  have si : ∀ {nL n i : Nat}, qa_si nL len n pc i lw st = some F → ∃ lv', qa_si nL len n pc i lv st = some (F.1, lv', F.2.2) ∧ qa_le F.2.1 lv' ∧ qa_nd F.2.1 = true ∧ qa_nd lv' = true := fun {nL n i} e => by
    obtain ⟨x, r, rfl, rfl, hi, rfl⟩ := qa_si_inv e
    refine ⟨qa_s1 i (.inr (.int x)) lv, by unfold qa_si; dsimp only; rw [if_pos ⟨rfl, hi⟩], qa_le_st _ h1 h2 hle, qa_nd_st _ (hP1 i) h1, qa_nd_st _ (hP1 i) h2⟩
  have sa : ∀ {nL n i : Nat}, qa_sa nL len n pc i lw st = some F → ∃ lv', qa_sa nL len n pc i lv st = some (F.1, lv', F.2.2) ∧ qa_le F.2.1 lv' ∧ qa_nd F.2.1 = true ∧ qa_nd lv' = true := fun {nL n i} e => by
    obtain ⟨x, r, rfl, rfl, hi, rfl⟩ := qa_sa_inv e
    refine ⟨qa_s1 i (.inl x) lv, by unfold qa_sa; dsimp only; rw [if_pos ⟨rfl, hi⟩], qa_le_st _ h1 h2 hle, qa_nd_st _ (hP1 i) h1, qa_nd_st _ (hP1 i) h2⟩
  have sl : ∀ {nL n i : Nat}, qa_sl nL len n pc i lw st = some F → ∃ lv', qa_sl nL len n pc i lv st = some (F.1, lv', F.2.2) ∧ qa_le F.2.1 lv' ∧ qa_nd F.2.1 = true ∧ qa_nd lv' = true := fun {nL n i} e => by
    obtain ⟨x, r, rfl, rfl, hi, rfl⟩ := qa_sl_inv e
    refine ⟨qa_s2 i (.inr (.long x)) lv, by unfold qa_sl; dsimp only; rw [if_pos ⟨rfl, hi⟩], qa_le_st _ h1 h2 hle, qa_nd_st _ (hP2 i) h1, qa_nd_st _ (hP2 i) h2⟩
  have sd : ∀ {nL n i : Nat}, qa_sd nL len n pc i lw st = some F → ∃ lv', qa_sd nL len n pc i lv st = some (F.1, lv', F.2.2) ∧ qa_le F.2.1 lv' ∧ qa_nd F.2.1 = true ∧ qa_nd lv' = true := fun {nL n i} e => by
    obtain ⟨x, r, rfl, rfl, hi, rfl⟩ := qa_sd_inv e
    refine ⟨qa_s2 i (.inr (.double x)) lv, by unfold qa_sd; dsimp only; rw [if_pos ⟨rfl, hi⟩], qa_le_st _ h1 h2 hle, qa_nd_st _ (hP2 i) h1, qa_nd_st _ (hP2 i) h2⟩
  cases ins with
  | iload_n i => exact ld (li _) e
  | iload i => exact ld (li _) e
  | lload_n i => exact ld (ll _) e
  | lload i => exact ld (ll _) e
  | dload_n i => exact ld (lD _) e
  | dload i => exact ld (lD _) e
  | aload_n i => exact ld (la _) e
  | aload i => exact ld (la _) e
  | istore_n i => exact si e
  | istore i => exact si e
  | lstore_n i => exact sl e
  | lstore i => exact sl e
  | dstore_n i => exact sd e
  | dstore i => exact sd e
  | astore_n i => exact sa e
  | astore i => exact sa e
  | iinc i n =>
    unfold qa_do at e ⊢
    dsimp only at e ⊢
    split at e
    · next x hx =>
      split at e
      · next hc =>
        cases e
        rw [hle _ _ hx]
        dsimp only
        rw [if_pos hc]
        exact ⟨_, rfl, qa_le_st _ h1 h2 hle, qa_nd_st _ (hP1 i) h1, qa_nd_st _ (hP1 i) h2⟩
      · cases e
    · cases e
  | _ => cases hn
theorem qa_do_le (hle : qa_le lw lv) (h1 : qa_nd lw = true) (h2 : qa_nd lv = true) {F : qa_F} (e : qa_do M h ins len pc lw st = some F) : ∃ lv', qa_do M h ins len pc lv st = some (F.1, lv', F.2.2) ∧ qa_le F.2.1 lv' ∧ qa_nd F.2.1 = true ∧ qa_nd lv' = true := by
  cases hn : qa_loc ins with
  | true => exact qa_do_lc hn hle h1 h2 e
  | false =>
    rw [qa_do_nl hn] at e
    obtain ⟨G, hG, rfl⟩ := Option.map_eq_some_iff.mp e
    refine ⟨lv, ?_, hle, h1, h2⟩
    rw [qa_do_nl hn, hG]
    rfl
theorem qa_do_no (e : qa_do M h ins len pc lw st = none) : qa_do M h ins len pc lv st = none ∨ qa_loc ins = true := by
  cases hn : qa_loc ins with
  | true => exact Or.inr rfl
  | false =>
    refine Or.inl ?_
    rw [qa_do_nl hn] at e ⊢
    rw [Option.map_eq_none_iff] at e
    rw [e]
    rfl
theorem qa_loc_no {ret : Option FieldType} (hn : qa_loc ins = true) : qa_re ret ins len st = none ∧ qa_wr M ins len pc st h = none ∧ qa_mkc M ins len pc st = none ∧ qa_th M ins len pc st = none ∧ qa_inv M h ins len st = none := by
  cases ins <;> first | exact ⟨rfl, rfl, rfl, rfl, rfl⟩ | cases hn
theorem qa_ex_le : ∀ (n : Nat) (pc : Nat) (lw lv : qa_L) (st : List qa_V) (h : qa_H) (r : qa_Z), qa_le lw lv → qa_nd lw = true → qa_nd lv = true → qa_ex n M pc lw st h = some r → qa_ex n M pc lv st h = some r := by
  intro n
  induction n with
  | zero => intro pc lw lv st h r _ _ _ e; cases e
  | succ n ih =>
    intro pc lw lv st h r hle n1 n2 e
    rw [qa_ex] at e
    rw [qa_ex]
    cases h1 : qa_lk (qa_is M) pc with
    | none => rw [h1] at e; cases e
    | some q =>
      obtain ⟨ins, len⟩ := q
      rw [h1] at e
      dsimp only at e ⊢
      cases h2 : qa_do M h.2 ins len pc lw st with
      | some F =>
        rw [h2] at e
        obtain ⟨lv', e1, e2, e3, e4⟩ := qa_do_le hle n1 n2 h2
        rw [e1]
        exact ih _ _ _ _ _ _ e2 e3 e4 e
      | none =>
        rw [h2] at e
        dsimp only at e
        rcases qa_do_no (lv := lv) h2 with h3 | h3
        · rw [h3]
          dsimp only
          cases h4 : qa_re (qa_rt M) ins len st with
          | some v => rw [h4] at e; exact e
          | none =>
            rw [h4] at e
            dsimp only at e ⊢
            cases h5 : qa_wr M ins len pc st h.2 with
            | some w => rw [h5] at e; exact ih _ _ _ _ _ _ hle n1 n2 e
            | none =>
              rw [h5] at e
              dsimp only at e ⊢
              cases h6 : qa_mkc M ins len pc st with
              | some w =>
                rw [h6] at e
                dsimp only at e ⊢
                obtain ⟨r1, e1, e2⟩ := Option.map_eq_some_iff.mp e
                rw [ih _ _ _ _ _ _ hle n1 n2 e1]
                exact congrArg some e2
              | none =>
                rw [h6] at e
                dsimp only at e ⊢
                cases h7 : qa_th M ins len pc st with
                | some E => rw [h7] at e; exact e
                | none =>
                  rw [h7] at e
                  dsimp only at e ⊢
                  cases h8 : qa_inv M h.2 ins len st with
                  | none => rw [h8] at e; exact e
                  | some w =>
                    rw [h8] at e
                    dsimp only at e ⊢
                    cases h9 : qa_ex n w.1 0 (qa_ag 0 w.2.2.1) [] h with
                    | none => rw [h9] at e; cases e
                    | some z =>
                      obtain ⟨z1, hz, k, sl⟩ := z
                      rw [h9] at e
                      cases z1 with
                      | inl v =>
                        dsimp only at e ⊢
                        obtain ⟨r1, e1, e2⟩ := Option.map_eq_some_iff.mp e
                        rw [ih _ _ _ _ _ _ hle n1 n2 e1]
                        exact congrArg some e2
                      | inr E =>
                        dsimp only at e ⊢
                        split at e
                        · cases e
                        · next g1 =>
                          rw [if_neg g1]
                          split at e
                          · next g2 => rw [if_pos g2]; exact e
                          · next g2 =>
                            rw [if_neg g2]
                            cases g3 : qa_hd (qa_hh M) pc E with
                            | none => rw [g3] at e; cases e
                            | some t =>
                              rw [g3] at e
                              dsimp only at e ⊢
                              obtain ⟨r1, e1, e2⟩ := Option.map_eq_some_iff.mp e
                              rw [ih _ _ _ _ _ _ hle n1 n2 e1]
                              exact congrArg some e2
        · obtain ⟨g1, g2, g3, g4, g5⟩ := qa_loc_no (M := M) (h := h.2) (len := len) (pc := pc) (st := st) (ret := qa_rt M) h3
          rw [g1, g2, g3, g4, g5] at e
          cases e
variable {ds : qa_P → qa_D} {σ σ' : qa_T} {res : Option qa_V ⊕ Nat}
theorem qa_bk_lv (h1 : qa_nd lw = true) (h2 : qa_nd lv = true) (hs : qa_sb lw lv) (k : qa_Bk ds M pc lw st σ res σ') : qa_Bk ds M pc lv st σ res σ' := by
  obtain ⟨n, hn⟩ := k
  exact ⟨n, fun nx => qa_ex_le n pc lw lv st _ _ (qa_sb_le lw lv hs) h1 h2 (hn nx)⟩
end QLV
