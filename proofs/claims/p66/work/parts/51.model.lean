/-! the show as one row of numbers: what each step does to it -/
section QRM
abbrev qs : Type := Nat → Int32
def qr_ld (s : qs) (k : Nat) : Bool := decide (s (1 + 7 * k + 3) = 1)
def qr_os (s : qs) (k : Nat) : Bool := decide (nI k = s 139) || decide (nI k = s 140)
def qr_cb (s : qs) (k : Nat) : Bool := qr_ld s k && !qr_os s k
def qr_tf (s : qs) (k : Nat) : Int32 := if qr_ld s k = true ∨ s 144 = nI k then s (1 + 7 * k) else 0
def qr_tk (s : qs) : Nat → Int32
  | 0 => 0
  | k + 1 => qr_tk s k + qr_tf s k
def qr_ta (s : qs) : Int32 := qr_tk s (qn (s 0))
/-- the place so many ahead, and the slide there -/
def qr_ix (s : qs) (k : Nat) : Nat := (((s 138).toInt + (k : Int)) % (s 113).toInt).toNat
def qr_sa (s : qs) (k : Nat) : Int32 := s (114 + qr_ix s k)
def qr_nf (s : qs) (a : Nat) : Nat → Nat → Nat
  | 0, _ => 25
  | m + 1, k => if qr_sa s k = nI a then k else qr_nf s a m (k + 1)
def qr_nx (s : qs) (a : Nat) : Nat := qr_nf s a (qn (s 113)) 1
/-- the weight of a slide: the greater one burns sooner -/
def qr_w (s : qs) (k : Nat) : Int := if s 165 = 0 then -(s (1 + 7 * k + 6)).toInt else if s 165 = 1 then (s (1 + 7 * k)).toInt else (qr_nx s k : Int)
def qr_fb (s : qs) (a b : Nat) : Bool := decide (qr_w s b < qr_w s a) || (decide (qr_w s a = qr_w s b) && decide (a < b))
def qr_in (s : qs) (a : Nat) : List Nat → List Nat
  | [] => [a]
  | b :: l => if qr_w s b < qr_w s a then a :: b :: l else b :: qr_in s a l
def qr_lf (s : qs) : Nat → List Nat
  | 0 => []
  | k + 1 => if qr_cb s k = true then qr_in s k (qr_lf s k) else qr_lf s k
def qr_ln (s : qs) : List Nat := qr_lf s (qn (s 0))
def qr_bu (s : qs) (a : Nat) : qs := upd (upd (upd (upd s (1 + 7 * a + 3) 0) (1 + 7 * a + 4) (s 166)) (1 + 7 * a + 5) (s (1 + 7 * a + 5) + 1)) 173 (s 173 + 1)
def qr_ft (m : Int) (s : qs) : Bool := decide ((qr_ta s).toInt + m ≤ (s 163).toInt)
def qr_rm (m : Int) : List Nat → qs → Nat × qs
  | [], s => (0, s)
  | a :: l, s => if qr_ft m s = true then (0, s) else ((qr_rm m l (qr_bu s a)).1 + 1, (qr_rm m l (qr_bu s a)).2)
def qr_mr (m : Int) (s : qs) : Nat × qs := qr_rm m (qr_ln s) s
def qr_du (s : qs) (a : Nat) : Int32 := if s (1 + 7 * a + 4) ≤ 0 then s (1 + 7 * a + 1) else (s (1 + 7 * a + 1) + 1) / 2
/-- the loading begins, once there is room -/
def qr_s0 (t : qs) (a : Nat) : qs := upd (upd (upd (upd (upd t 144 (nI a)) 145 (qr_du t a)) 171 (t 171 + 1)) 172 (t 172 + (if t (1 + 7 * a + 4) ≤ 0 then 0 else 1))) (1 + 7 * a + 4) 0
def qr_st (s : qs) (a : Nat) : qs := qr_s0 (qr_mr (s (1 + 7 * a)).toInt s).2 a
def qr_qf (s : qs) (a : Nat) : Nat → Nat → Option Nat
  | 0, _ => none
  | m + 1, k => if s (147 + k) = nI a then some k else qr_qf s a m (k + 1)
def qr_qp (s : qs) (a : Nat) : Option Nat := qr_qf s a (qn (s 146)) 0
def qr_f0 (s : qs) (p : Nat) : qs := fun i => if i = 146 then nI (qn (s 146) - 1) else if 147 + p ≤ i ∧ i + 1 < 147 + qn (s 146) then s (i + 1) else if i + 1 = 147 + qn (s 146) then 0 else s i
def qr_fg (s : qs) (a : Nat) : qs := match qr_qp s a with
  | none => s
  | some p => qr_f0 s p
def qr_gf (s : qs) : Nat → Nat → Option Nat
  | 0, _ => none
  | m + 1, k => if qr_ld s (qn (qr_sa s k)) = true then qr_gf s m (k + 1) else some (qn (qr_sa s k))
def qr_gd (s : qs) : Option Nat := if qn (s 113) = 0 then none else qr_gf s (qn (s 164)) 1
def qr_b3 (s : qs) : qs := match qr_gd s with
  | none => s
  | some a => if qr_ft (s (1 + 7 * a)).toInt s = true then qr_st s a else s
def qr_bg (s : qs) : qs := if ¬ s 144 = -1 then s else if ¬ s 142 = -1 then qr_st s (qn (s 142)) else if qn (s 146) = 0 then qr_b3 s else qr_st (qr_fg s (qn (s 147))) (qn (s 147))
def qr_us (s : qs) (a : Nat) : qs := upd (upd s 175 (s 175 + 1)) (1 + 7 * a + 6) (s 175 + 1)
def qr_sf (s : qs) (a : Nat) : qs := if s 139 = -1 ∨ s 139 = nI a then s else upd (upd s 141 (s (1 + 7 * a + 2))) 140 (if s (1 + 7 * a + 2) ≤ 0 then -1 else s 139)
def qr_sh (s : qs) (a : Nat) : qs := qr_us (upd (upd (upd (qr_sf s a) 139 (nI a)) 143 0) 142 (-1)) a
def qr_g0 (s : qs) : qs := upd s 138 (nI (qr_ix s 1))
def qr_ga (s : qs) : Nat := qn (s (114 + qr_ix s 1))
def qr_go (s : qs) : Bool × qs := if qr_ld s (qr_ga s) = true then (true, qr_sh (upd (qr_g0 s) 169 (s 169 + 1)) (qr_ga s)) else (false, qr_fg (upd (upd (qr_g0 s) 170 (s 170 + 1)) 142 (nI (qr_ga s))) (qr_ga s))
def qr_em (s : qs) : Nat → qs
  | 0 => s
  | k + 1 => upd (qr_em s k) (1 + 7 * k + 4) (if s (1 + 7 * k + 4) ≤ 0 then 0 else s (1 + 7 * k + 4) - 1)
def qr_fd (s : qs) : qs := upd (upd s 141 (s 141 - (if s 141 ≤ 0 then 0 else 1))) 140 (if s 141 - (if s 141 ≤ 0 then 0 else 1) ≤ 0 then -1 else s 140)
def qr_t0 (s : qs) : qs := upd (upd (upd s 168 (s 168 + 1)) 174 (s 174 + (if s 142 = -1 then 0 else 1))) 143 (s 143 + (if s 139 = -1 then 0 else 1))
def qr_t1 (s : qs) : qs := qr_fd (qr_em (qr_t0 s) (qn (s 0)))
def qr_l0 (s : qs) (a : Nat) : qs := qr_us (upd (upd (upd s 145 (s 145 - 1)) 144 (-1)) (1 + 7 * a + 3) 1) a
def qr_t2 (s : qs) : Bool × qs := if s 144 = -1 then (false, s) else if ¬ s 145 - 1 = 0 then (false, upd s 145 (s 145 - 1)) else if ¬ s 142 = s 144 then (false, qr_l0 s (qn (s 144))) else (true, qr_sh (qr_l0 s (qn (s 144))) (qn (s 144)))
def qr_t3 (s : qs) : Bool × qs := if s 142 = -1 ∧ ¬ s 139 = -1 ∧ ¬ s 167 ≤ 0 ∧ ¬ s 143 < s 167 ∧ ¬ s 113 ≤ 0 then qr_go s else (false, s)
def qr_bt (b : Bool) : Nat := match b with
  | true => 1
  | false => 0
def qr_tc (s : qs) : Nat × qs := (qr_bt (qr_t2 (qr_t1 s)).1 + qr_bt (qr_t3 (qr_t2 (qr_t1 s)).2).1, qr_bg (qr_t3 (qr_t2 (qr_t1 s)).2).2)
def qr_ti : Nat → qs → Nat × qs
  | 0, s => (0, s)
  | m + 1, s => ((qr_tc s).1 + (qr_ti m (qr_tc s).2).1, (qr_ti m (qr_tc s).2).2)
def qr_ip (s : qs) (p a : Nat) : qs := upd (upd (fun i => if i = 114 + p then nI a else if 114 + p < i ∧ i ≤ 114 + qn (s 113) then s (i - 1) else s i) 113 (s 113 + 1)) 138 (s 138 + (if s 138 = -1 ∨ (s 138).toInt < (p : Int) then 0 else 1))
def qr_rp (s : qs) (p : Nat) : qs := upd (upd (fun i => if 114 + p ≤ i ∧ i + 1 < 114 + qn (s 113) then s (i + 1) else if i + 1 = 114 + qn (s 113) then 0 else s i) 113 (s 113 - 1)) 138 (s 138 - (if s 138 = -1 ∨ (s 138).toInt < (p : Int) then 0 else 1))
def qr_cg (s : qs) : Bool := decide (¬ s 113 ≤ 0) && decide (s 142 = -1)
def qr_ca (s : qs) (a : Nat) : Bool := !qr_ld s a && !decide (s 144 = nI a) && !decide (s 142 = nI a) && (qr_qp s a).isNone
def qr_aq (s : qs) (a : Nat) : qs := upd (upd s (147 + qn (s 146)) (nI a)) 146 (s 146 + 1)
def qr_as (s : qs) (c l f : Int32) : qs := upd (upd (upd (upd s 0 (s 0 + 1)) (1 + 7 * qn (s 0)) c) (1 + 7 * qn (s 0) + 1) l) (1 + 7 * qn (s 0) + 2) f
theorem em_s (s : qs) (k : Nat) : qr_em s (k + 1) = upd (qr_em s k) (1 + 7 * k + 4) (if s (1 + 7 * k + 4) ≤ 0 then 0 else s (1 + 7 * k + 4) - 1) := rfl
theorem ti_0 (s : qs) : qr_ti 0 s = (0, s) := rfl
theorem ti_s (m : Nat) (s : qs) : qr_ti (m + 1) s = ((qr_tc s).1 + (qr_ti m (qr_tc s).2).1, (qr_ti m (qr_tc s).2).2) := rfl
def qo_i (x : Option Nat) : Int32 := match x with
  | none => -1
  | some a => nI a
end QRM
