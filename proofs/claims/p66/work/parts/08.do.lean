/-! one step that writes no cell -/
section QDO
variable {p : Program} {l : Launch} {e : Env} {R : Room} {s : State} {m : MethodId} {args : Array Value} {below : List Frame} {meth : Method} {c : Code} {H : Heap} {locs : List Loc} {cells slots : Nat} {Q : State → Prop}
variable {M : qa_M} {D : va_G} {ca : Nat → ClassId} {b L z : Nat} {xs : Nat → Int32} {φ : qa_P → Nat} {al : List qa_P} {h : qa_H} {pc len : Nat} {ls : Array Slot} {lv : qa_L} {st : List qa_V} {F : qa_F}
/-- what stands of a frame: the code, the class, the words, the room for calls -/
def qa_Fr (M : qa_M) (p : Program) (R : Room) (s : State) (m : MethodId) (args : Array Value) (c : Code) : Prop :=
  p.tables.exec = Jvm.exec ∧ c.code = qa_by M ∧ c.maxLocals = qa_ml M ∧ s.vm.findClass (qa_cn (qa_cl M)) = some m.cls ∧ (∀ w ∈ qa_gw, w.before args s = true) ∧ qa_cl M < 12 ∧ qa_fr M ≤ R.frames ∧ qa_lo M ≤ R.locals
theorem qa_tys_0 (ca : Nat → ClassId) : (qa_tys ca)[0]? = some (ca 0, .int) := rfl
theorem qa_tys_1 (ca : Nat → ClassId) : (qa_tys ca)[1]? = some (ca 1, .boolean) := rfl
theorem qa_tys_2 (ca : Nat → ClassId) : (qa_tys ca)[2]? = some (ca 2, .int) := rfl
theorem qa_tys_3 (ca : Nat → ClassId) : (qa_tys ca)[3]? = some (ca 3, .object RX1) := rfl
theorem qa_tys_at (ca : Nat → ClassId) {τ : Nat} (h : τ < 4) : (qa_tys ca)[τ]? = some (ca τ, qa_ty τ) := by
  match τ, h with
  | 0, _ => rfl
  | 1, _ => rfl
  | 2, _ => rfl
  | 3, _ => rfl
theorem qa_rv_cv (φ : qa_P → Nat) (o : Option qa_P) : va_rf (o.map φ) = qa_cv φ (qa_rv o) := by cases o <;> rfl
theorem qa_lc_inv {k idx : Nat} {st st' : List qa_V} (e : qa_lc k idx st = some st') : ∃ v pl, qa_lk (qa_kl k) idx = some (v, pl) ∧ st' = .inr v :: st := by
  unfold qa_lc at e
  split at e
  · next h1 => exact ⟨_, _, h1, (Option.some.inj e).symm⟩
  · cases e
theorem qa_bn_inv {len pc : Nat} {off : Int} {lv : qa_L} {st : List qa_V} {F : qa_F} (e : qa_bn len pc off lv st = some F) : (∃ x r, st = .inl x :: r ∧ len = 3 ∧ F = (pc + 3, lv, r)) ∨ (∃ r, st = .inr .null :: r ∧ len = 3 ∧ 0 ≤ (pc : Int) + off ∧ F = (qa_to pc off, lv, r)) := by
  unfold qa_bn at e
  split at e
  · split at e
    · next h1 => exact Or.inl ⟨_, _, rfl, h1, (Option.some.inj e).symm⟩
    · cases e
  · split at e
    · next h1 => exact Or.inr ⟨_, rfl, h1.1, h1.2, (Option.some.inj e).symm⟩
    · cases e
  · cases e
theorem qa_dp_inv {st st' : List qa_V} (e : qa_dp st = some st') : ∃ x r, st = x :: r ∧ qa_cat x = 1 ∧ st' = x :: x :: r := by
  unfold qa_dp at e
  split at e
  · split at e
    · next h1 => exact ⟨_, _, rfl, h1, (Option.some.inj e).symm⟩
    · cases e
  · cases e
theorem qa_pp_inv {st st' : List qa_V} (e : qa_pp st = some st') : ∃ x, st = x :: st' ∧ qa_cat x = 1 := by
  unfold qa_pp at e
  split at e
  · split at e
    · next h1 => cases e; exact ⟨_, rfl, h1⟩
    · cases e
  · cases e
theorem qa_d2_inv {st st' : List qa_V} (e : qa_d2 st = some st') : ∃ x y r, st = x :: y :: r ∧ qa_cat x = 1 ∧ qa_cat y = 1 ∧ st' = x :: y :: x :: y :: r := by
  unfold qa_d2 at e
  split at e
  · split at e
    · next h1 => exact ⟨_, _, _, rfl, h1.1, h1.2, (Option.some.inj e).symm⟩
    · cases e
  · cases e
theorem qa_ob_inv {M : qa_M} {idx : Nat} {st st' : List qa_V} (e : qa_ob M idx st = some st') : ∃ x, st = .inl x :: st' ∧ (Cond.methodLink (qa_cn (qa_cl M)) idx Lib.objectInit ∈ qa_gw) ∧ (st'.map qa_cat).sum ≤ 8 ∧ 1 ≤ qa_fr M ∧ 20 ≤ qa_lo M := by
  unfold qa_ob at e
  split at e
  · split at e
    · next h1 =>
      cases e
      obtain ⟨h1, h2, h3, h4⟩ := h1
      obtain ⟨q, hq, h5⟩ := List.any_eq_true.mp h1
      simp only [Bool.and_eq_true, beq_iff_eq] at h5
      have h6 := List.all_eq_true.mp qa_oi_k q hq
      rw [h5.1, h5.2] at h6
      exact ⟨_, rfl, qa_gw_at h6, h2, h3, h4⟩
    · cases e
  · cases e
theorem qa_ls_inv {pc : Nat} {dflt : Int} {ps : Array (Int × Int)} {lv : qa_L} {st : List qa_V} {F : qa_F} (e : qa_ls pc dflt ps lv st = some F) : ∃ x r, st = .inr (.int x) :: r ∧ (ps.toList.zip (ps.toList.drop 1)).all (fun (a, next) => a.1 < next.1) = true ∧ 0 ≤ (pc : Int) + Op.lookupswitch.offset ps.toList dflt x.toInt ∧ F = (qa_to pc (Op.lookupswitch.offset ps.toList dflt x.toInt), lv, r) := by
  unfold qa_ls at e
  split at e
  · split at e
    · next h1 => exact ⟨_, _, rfl, h1.1, h1.2, (Option.some.inj e).symm⟩
    · cases e
  · cases e
theorem qa_ts_inv {pc : Nat} {dflt lo hi : Int} {offs : Array Int} {lv : qa_L} {st : List qa_V} {F : qa_F} (e : qa_ts pc dflt lo hi offs lv st = some F) : ∃ x r, st = .inr (.int x) :: r ∧ (((x.toInt < lo ∨ hi < x.toInt) ∧ 0 ≤ (pc : Int) + dflt ∧ F = (qa_to pc dflt, lv, r)) ∨ ∃ off, ¬ (x.toInt < lo ∨ hi < x.toInt) ∧ offs[(x.toInt - lo).toNat]? = some off ∧ 0 ≤ (pc : Int) + off ∧ F = (qa_to pc off, lv, r)) := by
  unfold qa_ts at e
  split at e
  · split at e
    · next h1 =>
      split at e
      · next h2 => exact ⟨_, _, rfl, Or.inl ⟨h1, h2, (Option.some.inj e).symm⟩⟩
      · cases e
    · next h1 =>
      split at e
      · next off h2 =>
        split at e
        · next h3 => exact ⟨_, _, rfl, Or.inr ⟨off, h1, h2, h3, (Option.some.inj e).symm⟩⟩
        · cases e
      · cases e
  · cases e
theorem qa_kl_at {k i pl : Nat} {v : Value} (hk : k < 12) (h : qa_lk (qa_kl k) i = some (v, pl)) : (∃ x, v = .long x ∧ Cond.constantLong (qa_cn k) i x ∈ qa_gw) ∨ (∃ x, v = .double x ∧ Cond.constantDouble (qa_cn k) i x ∈ qa_gw) := by
  have h1 := List.all_eq_true.mp (qa_kl_k k hk) _ (qa_lk_mem h)
  unfold qa_kk at h1
  dsimp only at h1
  split at h1
  · exact Or.inl ⟨_, rfl, qa_gw_at h1⟩
  · exact Or.inr ⟨_, rfl, qa_gw_at h1⟩
  · cases h1
theorem qa_kz_at {k i pl : Nat} {v : Int32} (hk : k < 12) (h : qa_lk (qa_kz k) i = some (v, pl)) : Cond.constant (qa_cn k) i v ∈ qa_gw := qa_gw_at (List.all_eq_true.mp (qa_kz_k k hk) _ (qa_lk_mem h))
theorem qa_lz_inv {k idx : Nat} {st st' : List qa_V} (e : qa_lz k idx st = some st') : ∃ v pl, qa_lk (qa_kz k) idx = some (v, pl) ∧ st' = .inr (.int v) :: st := by
  unfold qa_lz at e
  split at e
  · next h1 => exact ⟨_, _, h1, (Option.some.inj e).symm⟩
  · cases e
set_option maxHeartbeats 1000000 in
theorem qa_doW (hF : qa_Fr M p R s m args c) (hE : qa_En D ca b L z xs s) (hI : qa_Hp D ca b L z xs φ al h H) (hS : va_S (qa_A z) s.heap H locs) (hl : lv_has ls (qa_ml M) (qa_lm φ lv)) (hoL : qa_oL h.1 lv) (hoS : qa_oS h.1 st)
    {ins : Instr} (hd : decode (qa_by M) pc = .ok (ins, len)) (hdo : qa_do M h.2 ins len pc lv st = some F)
    (kk : ∀ (ls' : Array Slot) (pc' : Nat), pc' = F.1 → lv_has ls' (qa_ml M) (qa_lm φ F.2.1) → qa_oL h.1 F.2.1 → qa_oS h.1 F.2.2 → W p l e R s m args below meth c H locs cells slots Q (F0 m pc' ls' (F.2.2.map (qa_cv φ)))) :
    W p l e R s m args below meth c H locs cells slots Q (F0 m pc ls (st.map (qa_cv φ))) := by
  obtain ⟨hx, hb, hml, hown, hts, hk, hfr, hlo⟩ := hF
  cases ins with
  | iconst n =>
    obtain ⟨rfl, st1, h1, rfl⟩ := qa_S_inv hdo
    cases h1
    exact lv_iconst hx hb hd rfl (kk ls _ rfl hl hoL (qa_oS_cons trivial hoS))
  | bipush n =>
    obtain ⟨rfl, st1, h1, rfl⟩ := qa_S_inv hdo
    cases h1
    exact lv_bipush hx hb hd rfl (kk ls _ rfl hl hoL (qa_oS_cons trivial hoS))
  | sipush n =>
    obtain ⟨rfl, st1, h1, rfl⟩ := qa_S_inv hdo
    cases h1
    exact lv_sipush hx hb hd rfl (kk ls _ rfl hl hoL (qa_oS_cons trivial hoS))
  | lconst n =>
    obtain ⟨rfl, st1, h1, rfl⟩ := qa_S_inv hdo
    cases h1
    exact lv_lconst hx hb hd rfl (kk ls _ rfl hl hoL (qa_oS_cons trivial hoS))
  | dconst d =>
    obtain ⟨rfl, st1, h1, rfl⟩ := qa_S_inv hdo
    cases h1
    match d, hd, kk with
    | ⟨0, _⟩, hd, kk => exact lv_dconst0 hx hb hd (kk ls _ rfl hl hoL (qa_oS_cons trivial hoS))
    | ⟨1, _⟩, hd, kk => exact lv_dconst1 hx hb hd (kk ls _ rfl hl hoL (qa_oS_cons trivial hoS))
  | ldc2_w i =>
    obtain ⟨rfl, st1, h1, rfl⟩ := qa_S_inv hdo
    obtain ⟨v, pl, h2, rfl⟩ := qa_lc_inv h1
    rcases qa_kl_at hk h2 with ⟨x, rfl, hw⟩ | ⟨x, rfl, hw⟩
    · exact lv_ldc2 hx hb hown (hts _ hw) hd (kk ls _ rfl hl hoL (qa_oS_cons trivial hoS))
    · exact lv_ldc2d hx hb hown (hts _ hw) hd (kk ls _ rfl hl hoL (qa_oS_cons trivial hoS))
  | ldc i =>
    obtain ⟨rfl, st1, h1, rfl⟩ := qa_S_inv hdo
    obtain ⟨v, pl, h2, rfl⟩ := qa_lz_inv h1
    exact lv_ldc hx hb hown (hts _ (qa_kz_at hk h2)) hd (kk ls _ rfl hl hoL (qa_oS_cons trivial hoS))
  | iload_n i =>
    obtain ⟨rfl, st1, h1, rfl⟩ := qa_S_inv hdo
    obtain ⟨x, h2, rfl⟩ := qa_li_inv h1
    exact lv_iload_n hx hb hd rfl (qa_has hl h2) (kk ls _ rfl hl hoL (qa_oS_cons trivial hoS))
  | iload i =>
    obtain ⟨rfl, st1, h1, rfl⟩ := qa_S_inv hdo
    obtain ⟨x, h2, rfl⟩ := qa_li_inv h1
    exact lv_iload hx hb hd (qa_has hl h2) (kk ls _ rfl hl hoL (qa_oS_cons trivial hoS))
  | lload_n i =>
    obtain ⟨rfl, st1, h1, rfl⟩ := qa_S_inv hdo
    obtain ⟨x, h2, rfl⟩ := qa_ll_inv h1
    exact lv_lload_n hx hb hd rfl (qa_has hl h2) (kk ls _ rfl hl hoL (qa_oS_cons trivial hoS))
  | lload i =>
    obtain ⟨rfl, st1, h1, rfl⟩ := qa_S_inv hdo
    obtain ⟨x, h2, rfl⟩ := qa_ll_inv h1
    exact lv_lload hx hb hd (qa_has hl h2) (kk ls _ rfl hl hoL (qa_oS_cons trivial hoS))
  | dload_n i =>
    obtain ⟨rfl, st1, h1, rfl⟩ := qa_S_inv hdo
    obtain ⟨x, h2, rfl⟩ := qa_ld_inv h1
    exact lv_dload_n hx hb hd rfl (qa_has hl h2) (kk ls _ rfl hl hoL (qa_oS_cons trivial hoS))
  | dload i =>
    obtain ⟨rfl, st1, h1, rfl⟩ := qa_S_inv hdo
    obtain ⟨x, h2, rfl⟩ := qa_ld_inv h1
    exact lv_dload hx hb hd (qa_has hl h2) (kk ls _ rfl hl hoL (qa_oS_cons trivial hoS))
  | aload_n i =>
    obtain ⟨rfl, st1, h1, rfl⟩ := qa_S_inv hdo
    obtain ⟨x, h2, rfl⟩ := qa_la_inv h1
    exact lv_aload_n hx hb hd rfl (qa_has hl h2) (kk ls _ rfl hl hoL (qa_oS_cons (show qa_ov h.1 (.inl x) from qa_oL_lk hoL h2) hoS))
  | aload i =>
    obtain ⟨rfl, st1, h1, rfl⟩ := qa_S_inv hdo
    obtain ⟨x, h2, rfl⟩ := qa_la_inv h1
    exact lv_aload hx hb hd (qa_has hl h2) (kk ls _ rfl hl hoL (qa_oS_cons (show qa_ov h.1 (.inl x) from qa_oL_lk hoL h2) hoS))
  | istore_n i =>
    obtain ⟨x, r, rfl, rfl, hi, rfl⟩ := qa_si_inv hdo
    exact lv_istore_n hx hb hd rfl hl hi (qa_s1_map φ _ (.inr (.int x)) lv) (fun ls1 hl1 => kk ls1 _ rfl hl1 (qa_oL_s1 trivial hoL) (qa_oS_tl hoS))
  | istore i =>
    obtain ⟨x, r, rfl, rfl, hi, rfl⟩ := qa_si_inv hdo
    exact lv_istore hx hb hd hl hi (qa_s1_map φ _ (.inr (.int x)) lv) (fun ls1 hl1 => kk ls1 _ rfl hl1 (qa_oL_s1 trivial hoL) (qa_oS_tl hoS))
  | lstore_n i =>
    obtain ⟨x, r, rfl, rfl, hi, rfl⟩ := qa_sl_inv hdo
    exact lv_lstore_n hx hb hd rfl hl hi (qa_s2_map φ _ (.inr (.long x)) lv) (fun ls1 hl1 => kk ls1 _ rfl hl1 (qa_oL_s2 trivial hoL) (qa_oS_tl hoS))
  | lstore i =>
    obtain ⟨x, r, rfl, rfl, hi, rfl⟩ := qa_sl_inv hdo
    exact lv_lstore hx hb hd hl hi (qa_s2_map φ _ (.inr (.long x)) lv) (fun ls1 hl1 => kk ls1 _ rfl hl1 (qa_oL_s2 trivial hoL) (qa_oS_tl hoS))
  | dstore_n i =>
    obtain ⟨x, r, rfl, rfl, hi, rfl⟩ := qa_sd_inv hdo
    exact lv_dstore_n hx hb hd rfl hl hi (qa_s2_map φ _ (.inr (.double x)) lv) (fun ls1 hl1 => kk ls1 _ rfl hl1 (qa_oL_s2 trivial hoL) (qa_oS_tl hoS))
  | dstore i =>
    obtain ⟨x, r, rfl, rfl, hi, rfl⟩ := qa_sd_inv hdo
    exact lv_dstore hx hb hd hl hi (qa_s2_map φ _ (.inr (.double x)) lv) (fun ls1 hl1 => kk ls1 _ rfl hl1 (qa_oL_s2 trivial hoL) (qa_oS_tl hoS))
  | astore_n i =>
    obtain ⟨x, r, rfl, rfl, hi, rfl⟩ := qa_sa_inv hdo
    exact lv_astore_n hx hb hd rfl hl hi (qa_s1_map φ _ (.inl x) lv) (fun ls1 hl1 => kk ls1 _ rfl hl1 (qa_oL_s1 (qa_oS_hd hoS) hoL) (qa_oS_tl hoS))
  | astore i =>
    obtain ⟨x, r, rfl, rfl, hi, rfl⟩ := qa_sa_inv hdo
    exact lv_astore hx hb hd hl hi (qa_s1_map φ _ (.inl x) lv) (fun ls1 hl1 => kk ls1 _ rfl hl1 (qa_oL_s1 (qa_oS_hd hoS) hoL) (qa_oS_tl hoS))
  | iinc i n =>
    unfold qa_do at hdo
    dsimp only at hdo
    split at hdo
    · next x h2 =>
      split at hdo
      · next h3 =>
        obtain ⟨rfl, hi⟩ := h3
        cases hdo
        obtain ⟨k, hk2⟩ := List.getElem?_of_mem (List.mem_map.mpr ⟨(i, .inr (.int x)), qa_lk_mem h2, rfl⟩ : (i, qa_cv φ (.inr (.int x))) ∈ qa_lm φ lv)
        exact lv_iinc hx hb hd hl hk2 rfl hi (qa_s1_map φ _ (.inr (.int (x + Int32.ofInt n))) lv) (fun ls1 hl1 => kk ls1 _ rfl hl1 (qa_oL_s1 trivial hoL) hoS)
      · cases hdo
    · cases hdo
  | iadd =>
    obtain ⟨rfl, st1, h1, rfl⟩ := qa_S_inv hdo
    obtain ⟨x, y, r, v, rfl, h2, rfl⟩ := qa_ii_inv h1
    cases h2
    exact lv_iadd hx hb hd (kk ls _ rfl hl hoL (qa_oS_cons trivial (qa_oS_tl (qa_oS_tl hoS))))
  | isub =>
    obtain ⟨rfl, st1, h1, rfl⟩ := qa_S_inv hdo
    obtain ⟨x, y, r, v, rfl, h2, rfl⟩ := qa_ii_inv h1
    cases h2
    exact lv_isub hx hb hd (kk ls _ rfl hl hoL (qa_oS_cons trivial (qa_oS_tl (qa_oS_tl hoS))))
  | imul =>
    obtain ⟨rfl, st1, h1, rfl⟩ := qa_S_inv hdo
    obtain ⟨x, y, r, v, rfl, h2, rfl⟩ := qa_ii_inv h1
    cases h2
    exact lv_imul hx hb hd (kk ls _ rfl hl hoL (qa_oS_cons trivial (qa_oS_tl (qa_oS_tl hoS))))
  | iand =>
    obtain ⟨rfl, st1, h1, rfl⟩ := qa_S_inv hdo
    obtain ⟨x, y, r, v, rfl, h2, rfl⟩ := qa_ii_inv h1
    cases h2
    exact lv_iand hx hb hd (kk ls _ rfl hl hoL (qa_oS_cons trivial (qa_oS_tl (qa_oS_tl hoS))))
  | ior =>
    obtain ⟨rfl, st1, h1, rfl⟩ := qa_S_inv hdo
    obtain ⟨x, y, r, v, rfl, h2, rfl⟩ := qa_ii_inv h1
    cases h2
    exact lv_ior hx hb hd (kk ls _ rfl hl hoL (qa_oS_cons trivial (qa_oS_tl (qa_oS_tl hoS))))
  | ishl =>
    obtain ⟨rfl, st1, h1, rfl⟩ := qa_S_inv hdo
    obtain ⟨x, y, r, v, rfl, h2, rfl⟩ := qa_ii_inv h1
    cases h2
    exact lv_ishl hx hb hd (kk ls _ rfl hl hoL (qa_oS_cons trivial (qa_oS_tl (qa_oS_tl hoS))))
  | ishr =>
    obtain ⟨rfl, st1, h1, rfl⟩ := qa_S_inv hdo
    obtain ⟨x, y, r, v, rfl, h2, rfl⟩ := qa_ii_inv h1
    cases h2
    exact lv_ishr hx hb hd (kk ls _ rfl hl hoL (qa_oS_cons trivial (qa_oS_tl (qa_oS_tl hoS))))
  | idiv =>
    obtain ⟨rfl, st1, h1, rfl⟩ := qa_S_inv hdo
    obtain ⟨x, y, r, v, rfl, h2, rfl⟩ := qa_ii_inv h1
    split at h2
    · cases h2
    · next hne =>
      cases h2
      exact lv_idiv hx hb hd hne (kk ls _ rfl hl hoL (qa_oS_cons trivial (qa_oS_tl (qa_oS_tl hoS))))
  | irem =>
    obtain ⟨rfl, st1, h1, rfl⟩ := qa_S_inv hdo
    obtain ⟨x, y, r, v, rfl, h2, rfl⟩ := qa_ii_inv h1
    split at h2
    · cases h2
    · next hne =>
      cases h2
      exact lv_irem hx hb hd hne (kk ls _ rfl hl hoL (qa_oS_cons trivial (qa_oS_tl (qa_oS_tl hoS))))
  | ineg =>
    obtain ⟨rfl, st1, h1, rfl⟩ := qa_S_inv hdo
    obtain ⟨x, r, rfl, rfl⟩ := qa_ui_inv h1
    exact lv_ineg hx hb hd (kk ls _ rfl hl hoL (qa_oS_cons trivial (qa_oS_tl hoS)))
  | i2l =>
    obtain ⟨rfl, st1, h1, rfl⟩ := qa_S_inv hdo
    obtain ⟨x, r, rfl, rfl⟩ := qa_ui_inv h1
    exact lv_i2l hx hb hd rfl (kk ls _ rfl hl hoL (qa_oS_cons trivial (qa_oS_tl hoS)))
  | i2d =>
    obtain ⟨rfl, st1, h1, rfl⟩ := qa_S_inv hdo
    obtain ⟨x, r, rfl, rfl⟩ := qa_ui_inv h1
    exact lv_i2d hx hb hd (kk ls _ rfl hl hoL (qa_oS_cons trivial (qa_oS_tl hoS)))
  | l2d =>
    obtain ⟨rfl, st1, h1, rfl⟩ := qa_S_inv hdo
    obtain ⟨x, r, rfl, rfl⟩ := qa_uj_inv h1
    exact lv_l2d hx hb hd (kk ls _ rfl hl hoL (qa_oS_cons trivial (qa_oS_tl hoS)))
  | d2l =>
    obtain ⟨rfl, st1, h1, rfl⟩ := qa_S_inv hdo
    obtain ⟨x, r, rfl, rfl⟩ := qa_ud_inv h1
    exact lv_d2l hx hb hd (kk ls _ rfl hl hoL (qa_oS_cons trivial (qa_oS_tl hoS)))
  | ladd =>
    obtain ⟨rfl, st1, h1, rfl⟩ := qa_S_inv hdo
    obtain ⟨x, y, r, v, rfl, h2, rfl⟩ := qa_jj_inv h1
    cases h2
    exact lv_ladd hx hb hd (kk ls _ rfl hl hoL (qa_oS_cons trivial (qa_oS_tl (qa_oS_tl hoS))))
  | lmul =>
    obtain ⟨rfl, st1, h1, rfl⟩ := qa_S_inv hdo
    obtain ⟨x, y, r, v, rfl, h2, rfl⟩ := qa_jj_inv h1
    cases h2
    exact lv_lmul hx hb hd (kk ls _ rfl hl hoL (qa_oS_cons trivial (qa_oS_tl (qa_oS_tl hoS))))
  | lcmp =>
    obtain ⟨rfl, st1, h1, rfl⟩ := qa_S_inv hdo
    obtain ⟨x, y, r, v, rfl, h2, rfl⟩ := qa_jj_inv h1
    cases h2
    exact W.lcmp hx hb hd (kk ls _ rfl hl hoL (qa_oS_cons trivial (qa_oS_tl (qa_oS_tl hoS))))
  | lshl =>
    obtain ⟨rfl, st1, h1, rfl⟩ := qa_S_inv hdo
    obtain ⟨x, y, r, rfl, rfl⟩ := qa_ji_inv h1
    exact lv_lshl hx hb hd rfl (kk ls _ rfl hl hoL (qa_oS_cons trivial (qa_oS_tl (qa_oS_tl hoS))))
  | ddiv =>
    obtain ⟨rfl, st1, h1, rfl⟩ := qa_S_inv hdo
    obtain ⟨x, y, r, v, rfl, h2, rfl⟩ := qa_dd_inv h1
    split at h2
    · next hne =>
      cases h2
      exact lv_ddiv hx hb hd hne (kk ls _ rfl hl hoL (qa_oS_cons trivial (qa_oS_tl (qa_oS_tl hoS))))
    · cases h2
  | dmul =>
    obtain ⟨rfl, st1, h1, rfl⟩ := qa_S_inv hdo
    obtain ⟨x, y, r, v, rfl, h2, rfl⟩ := qa_dd_inv h1
    split at h2
    · next hne =>
      cases h2
      exact lv_dmul hx hb hd hne (kk ls _ rfl hl hoL (qa_oS_cons trivial (qa_oS_tl (qa_oS_tl hoS))))
    · cases h2
  | dsub =>
    obtain ⟨rfl, st1, h1, rfl⟩ := qa_S_inv hdo
    obtain ⟨x, y, r, v, rfl, h2, rfl⟩ := qa_dd_inv h1
    split at h2
    · next hne =>
      cases h2
      exact lv_dsub hx hb hd hne (kk ls _ rfl hl hoL (qa_oS_cons trivial (qa_oS_tl (qa_oS_tl hoS))))
    · cases h2
  | dcmp op =>
    obtain ⟨rfl, st1, h1, rfl⟩ := qa_S_inv hdo
    obtain ⟨x, y, r, v, rfl, h2, rfl⟩ := qa_dd_inv h1
    cases h2
    exact lv_dcmp hx hb hd (kk ls _ rfl hl hoL (qa_oS_cons trivial (qa_oS_tl (qa_oS_tl hoS))))
  | dup =>
    obtain ⟨rfl, st1, h1, rfl⟩ := qa_S_inv hdo
    obtain ⟨x, r, rfl, hc, rfl⟩ := qa_dp_inv h1
    exact lv_dup hx hb hd ((qa_cv_cat φ x).trans hc) (kk ls _ rfl hl hoL (qa_oS_cons (qa_oS_hd hoS) hoS))
  | pop =>
    obtain ⟨rfl, st1, h1, rfl⟩ := qa_S_inv hdo
    obtain ⟨x, rfl, hc⟩ := qa_pp_inv h1
    exact lv_pop hx hb hd ((qa_cv_cat φ x).trans hc) (kk ls _ rfl hl hoL (qa_oS_tl hoS))
  | dup2 =>
    obtain ⟨rfl, st1, h1, rfl⟩ := qa_S_inv hdo
    obtain ⟨x, y, r, rfl, hc, hc2, rfl⟩ := qa_d2_inv h1
    exact lv_dup2_11 hx hb hd ((qa_cv_cat φ x).trans hc) ((qa_cv_cat φ y).trans hc2) (kk ls _ rfl hl hoL (qa_oS_cons (qa_oS_hd hoS) (qa_oS_cons (qa_oS_hd (qa_oS_tl hoS)) hoS)))
  | goto off =>
    unfold qa_do at hdo
    dsimp only at hdo
    split at hdo
    · next h3 =>
      obtain ⟨rfl, h0⟩ := h3
      cases hdo
      exact lv_goto hx hb hd (qa_to_eq h0) (kk ls _ rfl hl hoL hoS)
    · cases hdo
  | ifCond cnd off =>
    cases cnd with
    | eq =>
      obtain ⟨x, r, rfl, rfl, h0, rfl⟩ := qa_b1_inv hdo
      exact lv_if_eq hx hb hd (qa_to_eq h0) (fun ee => kk ls _ (if_pos (decide_eq_true ee)).symm hl hoL (qa_oS_tl hoS)) (fun ee => kk ls _ (if_neg (fun t => ee (of_decide_eq_true t))).symm hl hoL (qa_oS_tl hoS))
    | ne =>
      obtain ⟨x, r, rfl, rfl, h0, rfl⟩ := qa_b1_inv hdo
      exact lv_if_ne hx hb hd (qa_to_eq h0) (fun ee => kk ls _ (if_pos (decide_eq_true ee)).symm hl hoL (qa_oS_tl hoS)) (fun ee => kk ls _ (if_neg (fun t => absurd ee (of_decide_eq_true t))).symm hl hoL (qa_oS_tl hoS))
    | lt =>
      obtain ⟨x, r, rfl, rfl, h0, rfl⟩ := qa_b1_inv hdo
      exact lv_if_lt hx hb hd (qa_to_eq h0) (fun ee => kk ls _ (if_pos (decide_eq_true ee)).symm hl hoL (qa_oS_tl hoS)) (fun ee => kk ls _ (if_neg (fun t => ee (of_decide_eq_true t))).symm hl hoL (qa_oS_tl hoS))
    | ge =>
      obtain ⟨x, r, rfl, rfl, h0, rfl⟩ := qa_b1_inv hdo
      exact lv_if_ge hx hb hd (qa_to_eq h0) (fun ee => kk ls _ (if_pos (decide_eq_true ee)).symm hl hoL (qa_oS_tl hoS)) (fun ee => kk ls _ (if_neg (fun t => ee (of_decide_eq_true t))).symm hl hoL (qa_oS_tl hoS))
    | gt =>
      obtain ⟨x, r, rfl, rfl, h0, rfl⟩ := qa_b1_inv hdo
      exact lv_if_gt hx hb hd (qa_to_eq h0) (fun ee => kk ls _ (if_pos (decide_eq_true ee)).symm hl hoL (qa_oS_tl hoS)) (fun ee => kk ls _ (if_neg (fun t => ee (of_decide_eq_true t))).symm hl hoL (qa_oS_tl hoS))
    | le =>
      obtain ⟨x, r, rfl, rfl, h0, rfl⟩ := qa_b1_inv hdo
      exact lv_if_le hx hb hd (qa_to_eq h0) (fun ee => kk ls _ (if_pos (decide_eq_true ee)).symm hl hoL (qa_oS_tl hoS)) (fun ee => kk ls _ (if_neg (fun t => ee (of_decide_eq_true t))).symm hl hoL (qa_oS_tl hoS))
  | if_icmp cnd off =>
    cases cnd with
    | eq =>
      obtain ⟨x, y, r, rfl, rfl, h0, rfl⟩ := qa_b2_inv hdo
      exact lv_icmp_eq hx hb hd (qa_to_eq h0) (fun ee => kk ls _ (if_pos (decide_eq_true ee)).symm hl hoL (qa_oS_tl (qa_oS_tl hoS))) (fun ee => kk ls _ (if_neg (fun t => ee (of_decide_eq_true t))).symm hl hoL (qa_oS_tl (qa_oS_tl hoS)))
    | ne =>
      obtain ⟨x, y, r, rfl, rfl, h0, rfl⟩ := qa_b2_inv hdo
      exact lv_icmp_ne hx hb hd (qa_to_eq h0) (fun ee => kk ls _ (if_pos (decide_eq_true ee)).symm hl hoL (qa_oS_tl (qa_oS_tl hoS))) (fun ee => kk ls _ (if_neg (fun t => absurd ee (of_decide_eq_true t))).symm hl hoL (qa_oS_tl (qa_oS_tl hoS)))
    | lt =>
      obtain ⟨x, y, r, rfl, rfl, h0, rfl⟩ := qa_b2_inv hdo
      exact lv_icmp_lt hx hb hd (qa_to_eq h0) (fun ee => kk ls _ (if_pos (decide_eq_true ee)).symm hl hoL (qa_oS_tl (qa_oS_tl hoS))) (fun ee => kk ls _ (if_neg (fun t => ee (of_decide_eq_true t))).symm hl hoL (qa_oS_tl (qa_oS_tl hoS)))
    | ge =>
      obtain ⟨x, y, r, rfl, rfl, h0, rfl⟩ := qa_b2_inv hdo
      exact lv_icmp_ge hx hb hd (qa_to_eq h0) (fun ee => kk ls _ (if_pos (decide_eq_true ee)).symm hl hoL (qa_oS_tl (qa_oS_tl hoS))) (fun ee => kk ls _ (if_neg (fun t => ee (of_decide_eq_true t))).symm hl hoL (qa_oS_tl (qa_oS_tl hoS)))
    | gt =>
      obtain ⟨x, y, r, rfl, rfl, h0, rfl⟩ := qa_b2_inv hdo
      exact lv_icmp_gt hx hb hd (qa_to_eq h0) (fun ee => kk ls _ (if_pos (decide_eq_true ee)).symm hl hoL (qa_oS_tl (qa_oS_tl hoS))) (fun ee => kk ls _ (if_neg (fun t => ee (of_decide_eq_true t))).symm hl hoL (qa_oS_tl (qa_oS_tl hoS)))
    | le =>
      obtain ⟨x, y, r, rfl, rfl, h0, rfl⟩ := qa_b2_inv hdo
      exact lv_icmp_le hx hb hd (qa_to_eq h0) (fun ee => kk ls _ (if_pos (decide_eq_true ee)).symm hl hoL (qa_oS_tl (qa_oS_tl hoS))) (fun ee => kk ls _ (if_neg (fun t => ee (of_decide_eq_true t))).symm hl hoL (qa_oS_tl (qa_oS_tl hoS)))
  | ifnull off =>
    rcases qa_bn_inv hdo with ⟨x, r, rfl, rfl, rfl⟩ | ⟨r, rfl, rfl, h0, rfl⟩
    · exact lv_ifnull hx hb hd (kk ls _ rfl hl hoL (qa_oS_tl hoS))
    · exact lv_ifnullN hx hb hd (qa_to_eq h0) (kk ls _ rfl hl hoL (qa_oS_tl hoS))
  | lookupswitch dflt ps =>
    obtain ⟨x, r, rfl, h1, h0, rfl⟩ := qa_ls_inv hdo
    exact lv_lookup hx hb hd h1 rfl (qa_to_eq h0) (kk ls _ rfl hl hoL (qa_oS_tl hoS))
  | tableswitch dflt lo hi offs =>
    obtain ⟨x, r, rfl, h1⟩ := qa_ts_inv hdo
    rcases h1 with ⟨h1, h0, rfl⟩ | ⟨off, h1, h2, h0, rfl⟩
    · exact lv_tableOut hx hb hd h1 (qa_to_eq h0) (kk ls _ rfl hl hoL (qa_oS_tl hoS))
    · exact lv_tableIn hx hb hd (fun t => h1 (Or.inl t)) (fun t => h1 (Or.inr t)) h2 (qa_to_eq h0) (kk ls _ rfl hl hoL (qa_oS_tl hoS))
  | getfield i =>
    obtain ⟨rfl, st1, h1, rfl⟩ := qa_S_inv hdo
    obtain ⟨x, r, ci, sl, pl, f, rfl, h2, h3, rfl⟩ := qa_gf_inv h1
    obtain ⟨q, hq, hsl, hw⟩ := qa_fl_at hk h2
    have hal : x ∈ al := hI.2.2.1 x (by rw [h3]; exact decide_eq_true (qa_ft_ok hq).2.2.1)
    obtain ⟨q0, -, hq0⟩ := qa_w_at (φ := φ) (ca := ca) (h := h.2) hal
    rw [h3] at hq0
    have hov : qa_ov h.1 (f sl) := by
      have := hI.2.2.2.2.2 x hal
      rw [h3] at this
      exact this sl
    exact va_get hx hb hts (qa_cws hq).2.2 hown hE.1 hI.1 q0 hq0 hq sl hsl (hts _ hw) (fun _ t => t) (qa_fs_at hq hsl) hd (kk ls _ rfl hl hoL (qa_oS_cons hov (qa_oS_tl hoS)))
  | arraylength =>
    obtain ⟨rfl, st1, h1, rfl⟩ := qa_S_inv hdo
    obtain ⟨x, r, τ, n, f, rfl, h2, h3, rfl⟩ := qa_an_inv h1
    by_cases h9 : τ = 9
    · subst h9
      obtain ⟨rfl, rfl, h5⟩ := hI.2.2.2.2.1 x _ _ h2
      show W p l e R s m args below meth c H locs cells slots Q (F0 m pc ls (.ref (φ x) :: r.map (qa_cv φ)))
      rw [h5]
      exact va_slen hx hb hE.2.2.2.2.1 (Nat.lt_of_lt_of_le hE.2.2.2.2.2.2.2.1 hE.2.2.2.2.2.2.2.2) (Nat.not_le.mpr hE.2.2.2.2.2.2.2.1) hS hd (kk ls _ rfl hl hoL (qa_oS_cons trivial (qa_oS_tl hoS)))
    · have h4 : τ < 4 := h3.resolve_right h9
      have hal : x ∈ al := hI.2.2.1 x (by rw [h2]; exact decide_eq_true h4)
      obtain ⟨q0, -, hq0⟩ := qa_w_at (φ := φ) (ca := ca) (h := h.2) hal
      rw [h2] at hq0
      have ht := qa_tys_at ca h4
      exact va_alen hx hb hE.1 hI.1 q0 τ hq0 ht rfl hd (kk ls _ rfl hl hoL (qa_oS_cons trivial (qa_oS_tl hoS)))
  | iaload =>
    obtain ⟨rfl, st1, h1, rfl⟩ := qa_S_inv hdo
    obtain ⟨x, r, τ, n, f, i, rfl, h2, h3, hin, rfl⟩ := qa_ia_inv h1
    rcases h3 with rfl | rfl
    · have hal : x ∈ al := hI.2.2.1 x (by rw [h2]; rfl)
      obtain ⟨q0, -, hq0⟩ := qa_w_at (φ := φ) (ca := ca) (h := h.2) hal
      rw [h2] at hq0
      exact va_iald hx hb hE.1 hI.1 q0 0 hq0 (qa_tys_0 ca) hin hd (kk ls _ rfl hl hoL (qa_oS_cons trivial (qa_oS_tl (qa_oS_tl hoS))))
    · obtain ⟨rfl, h4, h5⟩ := hI.2.2.2.2.1 x _ _ h2
      cases h4
      show W p l e R s m args below meth c H locs cells slots Q (F0 m pc ls (.int i :: .ref (φ x) :: r.map (qa_cv φ)))
      rw [h5]
      exact va_sld hx hb hE.2.2.2.2.1 (Nat.lt_of_lt_of_le hE.2.2.2.2.2.2.2.1 hE.2.2.2.2.2.2.2.2) (Nat.not_le.mpr hE.2.2.2.2.2.2.2.1) hS hin hd (kk ls _ rfl hl hoL (qa_oS_cons trivial (qa_oS_tl (qa_oS_tl hoS))))
  | baload =>
    obtain ⟨rfl, st1, h1, rfl⟩ := qa_S_inv hdo
    obtain ⟨x, r, n, f, i, rfl, h2, hin, rfl⟩ := qa_ba_inv h1
    have hal : x ∈ al := hI.2.2.1 x (by rw [h2]; rfl)
    obtain ⟨q0, -, hq0⟩ := qa_w_at (φ := φ) (ca := ca) (h := h.2) hal
    rw [h2] at hq0
    exact va_zald hx hb hE.1 hI.1 q0 1 hq0 (qa_tys_1 ca) hin hd (kk ls _ rfl hl hoL (qa_oS_cons trivial (qa_oS_tl (qa_oS_tl hoS))))
  | aaload =>
    obtain ⟨rfl, st1, h1, rfl⟩ := qa_S_inv hdo
    obtain ⟨x, r, n, f, i, rfl, h2, hin, rfl⟩ := qa_aa_inv h1
    have hal : x ∈ al := hI.2.2.1 x (by rw [h2]; rfl)
    obtain ⟨q0, -, hq0⟩ := qa_w_at (φ := φ) (ca := ca) (h := h.2) hal
    rw [h2] at hq0
    have hov : qa_ov h.1 (qa_rv (f i.toNatClampNeg)) := by
      have h6 := hI.2.2.2.2.2 x hal
      rw [h2] at h6
      cases h7 : f i.toNatClampNeg with
      | none => trivial
      | some y => exact h6 _ y h7
    have K := kk ls _ rfl hl hoL (qa_oS_cons hov (qa_oS_tl (qa_oS_tl hoS)))
    rw [List.map_cons, ← qa_rv_cv φ] at K
    exact va_aldq hx hb hE.1 hI.1 q0 3 hq0 (qa_tys_3 ca) hin hd K
  | invokespecial i =>
    obtain ⟨rfl, st1, h1, rfl⟩ := qa_S_inv hdo
    obtain ⟨x, rfl, hw, hc, hf1, hl1⟩ := qa_ob_inv h1
    have hwo := List.all_eq_true.mp qa_oi_w
    refine W.objInit (g := F0 m pc ls (.ref (φ x) :: st1.map (qa_cv φ))) hx hb hown (hts _ hw) (hts _ (qa_gw_in (hwo _ List.mem_cons_self))) (hts _ (qa_gw_in (hwo _ (List.mem_cons_of_mem _ List.mem_cons_self)))) rfl (hl.1.trans hml.symm) rfl hd (Nat.le_trans hf1 hfr) ?_ (kk ls _ rfl hl hoL (qa_oS_tl hoS))
    have h8 := lv_room (m := m) (pc := pc) (ls := ls) (rest := st1.map (qa_cv φ)) (st := st1.map (qa_cv φ)) (by rw [qa_cats]; exact hc)
    exact Nat.le_trans (Nat.add_le_add_right h8 12) (Nat.le_trans hl1 hlo)
  | _ =>
    cases hdo
end QDO
