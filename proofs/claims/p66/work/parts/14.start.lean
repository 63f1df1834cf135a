/-! the law's start: what is left is a statement about the small machine alone -/
section QST
def qa_h0 (L : Nat) (xs : Nat → Int32) : qa_H := ((0, 1), fun q => if q = (0, 0) then .inr (9, L, .inl xs) else .inl (99, fun _ => .inr .null))
/-- the claim about the small machine -/
def qa_Goal : Prop := ∀ (L : Nat) (xs : Nat → Int32), L ≤ 260 → ∃ (n : Nat) (r : qa_Z), qa_ex n qa_mL_law 0 [(0, .inl (0, 0))] [] (qa_h0 L xs) = some r ∧ r.1 = .inl (some (.inr (.int 1))) ∧ r.2.2.1 ≤ 720722 ∧ r.2.2.2 ≤ 6939302
variable {p : Program} {e : Env} {s : State} {m : MethodId} {below : List Frame} {meth : Method} {c : Code} {args : Array Value}
theorem qa_ca_ex (hts : ∀ w ∈ qa_gw, w.before args s = true) (hq : va_AO RX1 s) : ∃ ca : Nat → ClassId, ∀ (k : Nat) (q : ClassId × FieldType), (qa_tys ca)[k]? = some q → ArrOfT s q.1 q.2 ∧ va_RA s q.1 q.2 := by
  have hwa := List.all_eq_true.mp qa_ar_w
  obtain ⟨c0, k0, d0, a0, b0, e0⟩ := Cond.arrayClass_spec (hts _ (qa_gw_in (hwa (.arrayClass .int) List.mem_cons_self)))
  obtain ⟨c1, k1, d1, a1, b1, e1⟩ := Cond.arrayClass_spec (hts _ (qa_gw_in (hwa (.arrayClass .boolean) (List.mem_cons_of_mem _ List.mem_cons_self))))
  obtain ⟨c2, k2, d2, a2, b2, e2⟩ := Cond.arrayClass_spec (hts _ (qa_gw_in (hwa (.arrayClass .int) List.mem_cons_self)))
  obtain ⟨d3, c3, k3, f3, i3, b3, e3, a3⟩ := Cond.arrayOver_spec (args := #[]) (va_AO.use (A := #[]) hq)
  refine ⟨fun k => match k with
    | 0 => c0
    | 1 => c1
    | 2 => c2
    | _ => c3, fun k q hk => ?_⟩
  match k, hk with
  | 0, hk => cases hk; exact ⟨fun n z => ⟨fun k h => (by cases h), k0, b0, d0, e0⟩, a0⟩
  | 1, hk => cases hk; exact ⟨fun n z => ⟨fun k h => (by cases h), k1, b1, d1, e1⟩, a1⟩
  | 2, hk => cases hk; exact ⟨fun n z => ⟨fun k h => (by cases h), k2, b2, d2, e2⟩, a2⟩
  | 3, hk => cases hk; exact ⟨fun n z => ⟨fun k h => (by cases h), k3, b3, d3, e3⟩, ⟨k3, d3, b3, e3, f3, a3⟩⟩
  | k + 4, hk => cases hk
theorem qa_D_ex (hts : ∀ w ∈ qa_gw, w.before args s = true) : ∃ D : va_G, ∀ (k : Nat) (q : vw_C), vwCl[k]? = some q → u_Kn s q.1 q.2.1 q.2.2 (D.1 k) (D.2 k) := by
  have h0 : ∀ k : Nat, ∃ r : ClassId × (Nat → Nat), ∀ q : vw_C, vwCl[k]? = some q → u_Kn s q.1 q.2.1 q.2.2 r.1 r.2 := by
    intro k
    cases hq : vwCl[k]? with
    | none =>
      obtain ⟨cC, iS, h1⟩ := u_known hts (qa_cws (k := 0) rfl).2.2 (hts _ (qa_cws (k := 0) rfl).2.1)
      exact ⟨(cC, iS), fun q h => by cases h⟩
    | some q =>
      obtain ⟨cC, iS, h1⟩ := u_known hts (qa_cws hq).2.2 (hts _ (qa_cws hq).2.1)
      exact ⟨(cC, iS), fun q' h => by cases h; exact h1⟩
  obtain ⟨f, hf⟩ := Classical.axiomOfChoice h0
  exact ⟨(fun k => (f k).1, fun k => (f k).2), fun k q h => hf k q h⟩
theorem qa_ao_w : decide (Cond.arrayOver (.object RX1) ∈ lw_tbl) = true := by decide +kernel
theorem qa_ls_w : decide (Cond.laysStatic Bundle.tN "UNASSIGNED_STACK" Bundle.steD ∈ lw_tbl) = true ∧ decide (Cond.laysStatic Bundle.tN "SUPPRESSED_SENTINEL" Bundle.listD ∈ lw_tbl) = true ∧ decide (Cond.initialized Bundle.tN ∈ lw_tbl) = true := by decide +kernel
theorem qa_nc_w : ∀ q ∈ qa_ncl, Cond.not (.castable q.1 q.2) ∈ flatC (Jvm.Cond.and given_1 narrow_1) := by decide +kernel
theorem qa_ir_w : Cond.isRef (.static Bundle.tN "UNASSIGNED_STACK" Bundle.steD) ∈ flatC (Jvm.Cond.and given_1 narrow_1) ∧ Cond.isRef (.static Bundle.tN "SUPPRESSED_SENTINEL" Bundle.listD) ∈ flatC (Jvm.Cond.and given_1 narrow_1) := by decide +kernel
theorem qa_gw_tbl {w : Cond} (h : w ∈ qa_gw) : w ∈ lw_tbl := (List.mem_filter.mp h).1
theorem qa_En0 {b L : Nat} {xs : Nat → Int32} (hts : ∀ w ∈ lw_tbl, w.before args s = true) (hX : va_X b L xs s s.heap) (hbl : b < s.heap.size) (hgv : (Jvm.Cond.and given_1 narrow_1).before args s = true) : ∃ (D : va_G) (ca : Nat → ClassId), qa_En D ca b L s.heap.size xs s := by
  have hg : ∀ w ∈ qa_gw, w.before args s = true := fun w hw => hts w (qa_gw_tbl hw)
  have hao : va_AO RX1 s := va_AO.of (hts _ (of_decide_eq_true qa_ao_w))
  have hfl := flat_of_before _ hgv
  obtain ⟨ca, hca⟩ := qa_ca_ex hg hao
  obtain ⟨D, hD⟩ := qa_D_ex hg
  have hA : ∀ a : Nat, a < s.heap.size → ¬ qa_A s.heap.size a := fun a h => Nat.not_le.mpr h
  exact ⟨D, ca, ⟨hD, hca⟩, fun w hw => va_Nw.of (qa_nwo_tab (List.mem_filter.mp hw).2) (hts w (List.mem_filter.mp hw).1), hao, fun q hq => va_Nc.of (hfl _ (qa_nc_w q hq)), hX,
    vx_Zqof (hts _ (of_decide_eq_true qa_ls_w.1)) (hts _ (of_decide_eq_true qa_ls_w.2.2)) (hfl _ qa_ir_w.1) hA, vx_Zqof (hts _ (of_decide_eq_true qa_ls_w.2.1)) (hts _ (of_decide_eq_true qa_ls_w.2.2)) (hfl _ qa_ir_w.2) hA, hbl, Nat.le_refl _⟩
theorem qa_lst (l : Launch) (hflags : l.flags = flags0) : l.stackTraces = false := by
  unfold Launch.stackTraces
  rw [hflags]
  decide +kernel
set_option maxHeartbeats 1000000 in
theorem qa_whole (hgoal : qa_Goal) (l : Launch) (hflags : l.flags = flags0) {b L : Nat} {xs : Nat → Int32} (hL : L ≤ 260) (C0 : lw_At p s m meth c b L xs) : W p l e room_1 s m #[Value.ref b] below meth c s.heap [] 0 0 (lw_Z below #[Value.ref b] s) (entryFrame m ([Value.ref b] : List Value).toArray 5) := by
  obtain ⟨hx, hb, hr, hml, hown, hts, hX, hbl, hlocks, hgv⟩ := C0
  obtain ⟨n, r, hex, hr1, hk, hsl⟩ := hgoal L xs hL
  refine W.base ?_
  have hd0 := Drawn.sameBut.refl s.drawn lw_cs
  obtain ⟨D, ca, hE⟩ := qa_En0 hts hX hbl hgv
  have hE2 : qa_En D ca b L s.heap.size xs (s.setDrawn s.drawn) := qa_En_same rfl rfl hE
  have hg : ∀ w ∈ qa_gw, w.before #[Value.ref b] (s.setDrawn s.drawn) = true := dr_words (fun w hw => hts w (qa_gw_tbl hw)) s.drawn
  have hFr : qa_Fr qa_mL_law p room_1 (s.setDrawn s.drawn) m #[Value.ref b] c := ⟨hx, hb, hml, hown, hg, by decide +kernel, by decide +kernel, by decide +kernel⟩
  have hI : qa_Hp D ca b L s.heap.size xs (fun _ => b) [] (qa_h0 L xs) s.heap := by
    refine ⟨fun k q h => (by cases h), ⟨fun i j p q h => (by cases h), fun k q h => (by cases h)⟩, fun q hq => ?_, fun q hq => absurd hq List.not_mem_nil, fun q n r hq => ?_, fun q hq => absurd hq List.not_mem_nil⟩
    · exfalso
      unfold qa_h0 at hq
      dsimp only at hq
      split at hq
      · cases hq
      · cases hq
    · unfold qa_h0 at hq
      dsimp only at hq
      split at hq
      · cases hq; exact ⟨rfl, rfl, rfl⟩
      · cases hq
  rw [lg_entry_eq]
  have hl := lv_entry ([.ref b]) (n := 5) (Nat.le_of_ble_eq_true rfl)
  refine qa_main (l := l) (qa_lst l hflags) n qa_mL_law 0 [(0, .inl (0, 0))] [] (qa_h0 L xs) r qa_dL_law hex p e room_1 (s.setDrawn s.drawn) m #[Value.ref b] below meth c s.heap [] 0 0 _ (fun _ => b) [] _ (0 + r.2.2.1) (0 + r.2.2.2) hFr (fun h0 => absurd h0 (by decide +kernel)) hE2 (Or.inl rfl) rfl rfl ?_ ?_ hI va_S.rf hl (fun q hq => ?_) (fun _ h => nomatch h) ⟨?_, ?_, ?_⟩
  · show 0 + r.2.2.1 ≤ room_1.cells
    exact Nat.le_trans (by omega) (show 720722 ≤ room_1.cells from Nat.le_of_ble_eq_true rfl)
  · show 0 + r.2.2.2 ≤ room_1.slots
    exact Nat.le_trans (by omega) (show 6939302 ≤ room_1.slots from Nat.le_of_ble_eq_true rfl)
  · rw [List.mem_singleton.mp hq]
    exact Or.inr ⟨rfl, Nat.zero_lt_one⟩
  · intro v ψ al1 H1 locs1 pc1 ls1 ins a1 a2 a3 a4 a5 a6 a7 a8
    rw [hr1] at a1
    cases a1
    have hins : ins = .ireturn := by
      cases ins <;> first | rfl | cases a8
    subst hins
    refine va_forget (fun q hq => a5.2.2 q hq) (W.widen (k := 720722) (n := 6939302) (by omega) (by omega) ?_)
    exact lw_ret hd0 hx hb hr hlocks a7
  · intro E ψ al1 H1 locs1 pc1 ls1 st1 ins len1 cells1 slots1 a1
    rw [hr1] at a1
    cases a1
  · intro E ψ al1 H1 locs1 pc1 ls1 rest ce q a1
    rw [hr1] at a1
    cases a1
end QST
