/-! the state that the constructors leave (rows of whole) -/
section QZE
variable {σ : qa_T} {X : Nat → Int32}
def qg_0 (j : Nat) : Nat → Int32 := match j with
  | 9 => fun i => if i = 1 then Int32.ofInt (-1) else 0
  | 11 => fun i => if i = 0 then Int32.ofInt (-1) else if i = 2 then Int32.ofInt (-1) else if i = 4 then Int32.ofInt (-1) else 0
  | 12 => fun i => if i = 0 then Int32.ofInt (-1) else 0
  | 14 => fun i => if i = 0 then (Int16.ofInt 150).toInt32 else if i = 1 then Int32.ofInt 1 else if i = 3 then Int32.ofInt 5 else 0
  | _ => fun _ => 0
def qi_0 : qs := fun i => if i = 138 ∨ i = 139 ∨ i = 140 ∨ i = 142 ∨ i = 144 then -1 else if i = 163 then 150 else if i = 164 then 1 else if i = 166 then 5 else 0
theorem z_0 {i : Nat} (h : i < 138) : qi_0 i = 0 := by
  unfold qi_0
  rw [if_neg (by omega), if_neg (by omega), if_neg (by omega), if_neg (by omega)]
theorem z_9 {i : Nat} (h : 176 ≤ i) : qi_0 i = 0 := by
  unfold qi_0
  rw [if_neg (by omega), if_neg (by omega), if_neg (by omega), if_neg (by omega)]
theorem z_sl : qi_sl qi_0 := by
  unfold qi_sl
  rw [z_0 (by omega), qk_t0]
  refine ⟨by omega, by omega, fun k hk => ?_⟩
  rw [z_0 (by omega), z_0 (by omega), z_0 (by omega), qk_t0]
  exact ⟨Or.inl rfl, by omega, by omega, by omega, fun t => by omega, fun _ => rfl⟩
theorem z_I : qi_I 0 qi_0 := by
  refine ⟨⟨z_sl, ?_, ?_, ?_, ?_, ?_, ?_⟩, ?_⟩
  · unfold qi_pr
    rw [z_0 (i := 113) (by omega), z_0 (i := 0) (by omega), qk_t0, show (qi_0 138).toInt = -1 from rfl]
    exact ⟨by omega, by omega, by omega, by omega, fun k hk => by omega⟩
  · unfold qi_sw
    rw [z_0 (i := 0) (by omega), qk_t0, show (qi_0 139).toInt = -1 from rfl, show (qi_0 140).toInt = -1 from rfl, show (qi_0 141).toInt = 0 from rfl]
    exact ⟨by omega, by omega, by omega, by omega, by omega, by omega, by omega, fun _ => ⟨rfl, rfl⟩⟩
  · unfold qi_lo qi_lx
    rw [z_0 (i := 0) (by omega), qk_t0, show (qi_0 142).toInt = -1 from rfl, show (qi_0 144).toInt = -1 from rfl]
    exact ⟨by omega, by omega, by omega, by omega, fun t => by omega, fun k hk t => by rw [z_0 (by omega)]⟩
  · unfold qi_qu
    rw [show (qi_0 146).toInt = 0 from rfl]
    exact ⟨by omega, by omega, fun k hk => by omega, fun j k _ hk => by omega⟩
  · unfold qi_se
    rw [show (qi_0 163).toInt = 150 from rfl, show (qi_0 164).toInt = 1 from rfl, show (qi_0 165).toInt = 0 from rfl, show (qi_0 166).toInt = 5 from rfl, show (qi_0 167).toInt = 0 from rfl]
    omega
  · unfold qi_ct
    rw [show (qi_0 169).toInt = 0 from rfl, show (qi_0 170).toInt = 0 from rfl, show (qi_0 175).toInt = 0 from rfl]
    omega
  · unfold qi_tm
    have e : qr_ta qi_0 = 0 := rfl
    rw [e, qk_t0, show (qi_0 163).toInt = 150 from rfl]
    omega
theorem z_P : qi_P 0 qi_0 := by
  refine ⟨z_I, fun _ => ⟨rfl, rfl, ?_⟩, fun j hj => z_9 hj⟩
  unfold qr_b3
  have e : qr_gd qi_0 = none := by
    unfold qr_gd
    rw [if_pos (show qn (qi_0 113) = 0 from rfl)]
  rw [e]
theorem z_x : ∀ i : Fin 176, qg_0 (qx i.val).1 (qx i.val).2 = qi_0 i.val := by decide +kernel
end QZE
