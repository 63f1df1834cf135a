/-! development only: the definitions of parts 15 to 33 -/
abbrev qa_T : Type := (qa_P → Nat → Int32) × (qa_P → Nat → Int64)
def qa_wi (σ : qa_T) (p : qa_P) (i : Nat) (v : Int32) : qa_T := (fun q => if q = p then upd (σ.1 q) i v else σ.1 q, σ.2)
def qa_wl (σ : qa_T) (p : qa_P) (i : Nat) (v : Int64) : qa_T := (σ.1, fun q => if q = p then vp_updL (σ.2 q) i v else σ.2 q)
abbrev qa_nn (x : UInt64) : Prop := x &&& 0x7fffffffffffffff ≤ 0x7ff0000000000000
def qa_bi (b : Bool) : Int32 := match b with
  | true => 1
  | false => 0
def qa_fu : Nat := 3000
noncomputable def qa_fX0_copyFrom (R : Nat) (S : Nat) (σ : qa_T) : qa_T :=
    let σ1 := qa_wi σ (R, 15) 0 (σ.1 (S, 15) 0)
    let σ2 := qa_wi σ1 (R, 15) 1 (σ1.1 (S, 15) 1)
    let σ3 := qa_wi σ2 (R, 15) 2 (σ2.1 (S, 15) 2)
    let σ4 := qa_wi σ3 (R, 15) 3 (σ3.1 (S, 15) 3)
    let σ5 := qa_wi σ4 (R, 15) 4 (σ4.1 (S, 15) 4)
    let σ6 := qa_wi σ5 (R, 15) 5 (σ5.1 (S, 15) 5)
    let σ7 := qa_wi σ6 (R, 15) 6 (σ6.1 (S, 15) 6)
    σ7
noncomputable def qa_fX0_shareOfHits_26 (R : Nat) (y0 : UInt64) (σ : qa_T) : Option UInt64 :=
    some y0
noncomputable def qa_fX0_shareOfHits (R : Nat) (σ : qa_T) : Option UInt64 :=
    let v1 : Int32 := ((σ.1 (R, 15) 1) + (σ.1 (R, 15) 2))
    if v1 ≤ 0 then
      qa_fX0_shareOfHits_26 R FP.dconst0 σ
    else
      if ¬ qa_nn (FP.ddiv (FP.i2d (σ.1 (R, 15) 1)) (FP.i2d v1)) then none else
      qa_fX0_shareOfHits_26 R (FP.ddiv (FP.i2d (σ.1 (R, 15) 1)) (FP.i2d v1)) σ
noncomputable def qa_fX9_copyRow_26 (p1 : qa_P) (n1 : Nat) (p2 : qa_P) (n2 : Nat) (σ : qa_T) : Option qa_T :=
    some σ
noncomputable def qa_fX9_copyRow_2 (p1 : qa_P) (n1 : Nat) (p2 : qa_P) (n2 : Nat) : Nat → Int32 → qa_T → Option qa_T
  | 0, _, _ => none
  | n + 1, x2, σ =>
    if Int32.ofNat n1 ≤ x2 then
      qa_fX9_copyRow_26 p1 n1 p2 n2 σ
    else
      if Int32.ofNat n2 ≤ x2 then
        qa_fX9_copyRow_26 p1 n1 p2 n2 σ
      else
        if ¬ qa_in x2 n1 = true then none else
        if ¬ qa_in x2 n2 = true then none else
        let σ5 := qa_wi σ p2 (x2).toNatClampNeg (σ.1 p1 (x2).toNatClampNeg)
        let v6 : Int32 := x2 + Int32.ofInt 1
        qa_fX9_copyRow_2 p1 n1 p2 n2 n v6 σ5
noncomputable def qa_fX9_copyRow (p1 : qa_P) (n1 : Nat) (p2 : qa_P) (n2 : Nat) (σ : qa_T) : Option qa_T :=
    qa_fX9_copyRow_2 p1 n1 p2 n2 qa_fu (Int32.ofInt 0) σ
noncomputable def qa_fX6_copyFrom_112 (R : Nat) (S : Nat) (σ : qa_T) : Option qa_T :=
    let σ15 := qa_wi σ (R, 1) 8 (σ.1 (S, 1) 8)
    some σ15
noncomputable def qa_fX6_copyFrom_76 (R : Nat) (S : Nat) : Nat → Int32 → qa_T → Option qa_T
  | 0, _, _ => none
  | n + 1, x2, σ =>
    if Int32.ofNat 16 ≤ x2 then
      qa_fX6_copyFrom_112 R S σ
    else
      if Int32.ofNat 16 ≤ x2 then
        qa_fX6_copyFrom_112 R S σ
      else
        if ¬ qa_in x2 16 = true then none else
        if ¬ qa_in x2 16 = true then none else
        if ¬ ((σ.1 (S, 5) (x2).toNatClampNeg) = 0 ∨ (σ.1 (S, 5) (x2).toNatClampNeg) = 1) then none else
        let σ20 := qa_wi σ (R, 5) (x2).toNatClampNeg (σ.1 (S, 5) (x2).toNatClampNeg)
        let v21 : Int32 := x2 + Int32.ofInt 1
        qa_fX6_copyFrom_76 R S n v21 σ20
noncomputable def qa_fX6_copyFrom (R : Nat) (S : Nat) (σ : qa_T) : Option qa_T :=
    let σ1 := qa_wi σ (R, 1) 0 (σ.1 (S, 1) 0)
    (qa_fX9_copyRow (S, 2) 16 (R, 2) 16 σ1).bind fun c2 =>
    (qa_fX9_copyRow (S, 3) 16 (R, 3) 16 c2).bind fun c4 =>
    (qa_fX9_copyRow (S, 4) 16 (R, 4) 16 c4).bind fun c6 =>
    (qa_fX9_copyRow (S, 6) 16 (R, 6) 16 c6).bind fun c8 =>
    (qa_fX9_copyRow (S, 7) 16 (R, 7) 16 c8).bind fun c10 =>
    (qa_fX9_copyRow (S, 8) 16 (R, 8) 16 c10).bind fun c12 =>
    qa_fX6_copyFrom_76 R S qa_fu (Int32.ofInt 0) c12
noncomputable def qa_fX3_copyFrom (R : Nat) (S : Nat) (σ : qa_T) : Option qa_T :=
    let σ1 := qa_wi σ (R, 9) 0 (σ.1 (S, 9) 0)
    let σ2 := qa_wi σ1 (R, 9) 1 (σ1.1 (S, 9) 1)
    (qa_fX9_copyRow (S, 10) 24 (R, 10) 24 σ2).bind fun c3 =>
    some c3
noncomputable def qa_fX7_copyFrom (R : Nat) (S : Nat) (σ : qa_T) : qa_T :=
    let σ1 := qa_wi σ (R, 11) 0 (σ.1 (S, 11) 0)
    let σ2 := qa_wi σ1 (R, 11) 1 (σ1.1 (S, 11) 1)
    let σ3 := qa_wi σ2 (R, 11) 2 (σ2.1 (S, 11) 2)
    let σ4 := qa_wi σ3 (R, 11) 3 (σ3.1 (S, 11) 3)
    let σ5 := qa_wi σ4 (R, 11) 4 (σ4.1 (S, 11) 4)
    σ5
noncomputable def qa_fX2_copyFrom (R : Nat) (S : Nat) (σ : qa_T) : Option qa_T :=
    let σ1 := qa_wi σ (R, 12) 0 (σ.1 (S, 12) 0)
    let σ2 := qa_wi σ1 (R, 12) 1 (σ1.1 (S, 12) 1)
    let σ3 := qa_wi σ2 (R, 12) 2 (σ2.1 (S, 12) 2)
    (qa_fX9_copyRow (S, 13) 16 (R, 13) 16 σ3).bind fun c4 =>
    let σ6 := qa_wi c4 (R, 12) 4 (c4.1 (S, 12) 4)
    some σ6
noncomputable def qa_fX4_copyFrom (R : Nat) (S : Nat) (σ : qa_T) : qa_T :=
    let σ1 := qa_wi σ (R, 14) 0 (σ.1 (S, 14) 0)
    let σ2 := qa_wi σ1 (R, 14) 1 (σ1.1 (S, 14) 1)
    let σ3 := qa_wi σ2 (R, 14) 2 (σ2.1 (S, 14) 2)
    let σ4 := qa_wi σ3 (R, 14) 3 (σ3.1 (S, 14) 3)
    let σ5 := qa_wi σ4 (R, 14) 4 (σ4.1 (S, 14) 4)
    σ5
noncomputable def qa_fX1_copyFrom (R : Nat) (S : Nat) (σ : qa_T) : Option qa_T :=
    (qa_fX6_copyFrom R S σ).bind fun c1 =>
    (qa_fX3_copyFrom R S c1).bind fun c3 =>
    let σ5 := qa_fX7_copyFrom R S c3
    (qa_fX2_copyFrom R S σ5).bind fun c6 =>
    let σ8 := qa_fX4_copyFrom R S c6
    let σ9 := qa_fX0_copyFrom R S σ8
    some σ9
noncomputable def qa_fX1_mayGoOn_25 (R : Nat) (σ : qa_T) : Bool :=
    false
noncomputable def qa_fX1_mayGoOn (R : Nat) (σ : qa_T) : Bool :=
    if (σ.1 (R, 9) 0) ≤ 0 then
      qa_fX1_mayGoOn_25 R σ
    else
      if ¬ (σ.1 (R, 11) 4) = (Int32.ofInt (-1)) then
        qa_fX1_mayGoOn_25 R σ
      else
        true
noncomputable def qa_fX6_isReady_26 (R : Nat) (a1 : Int32) (σ : qa_T) : Bool :=
    false
noncomputable def qa_fX6_isReady (R : Nat) (a1 : Int32) (σ : qa_T) : Bool :=
    if a1 < 0 then
      qa_fX6_isReady_26 R a1 σ
    else
      if Int32.ofNat 16 ≤ a1 then
        qa_fX6_isReady_26 R a1 σ
      else
        if (σ.1 (R, 5) (a1).toNatClampNeg) = 0 then
          qa_fX6_isReady_26 R a1 σ
        else
          true
noncomputable def qa_fX9_at_17 (p1 : qa_P) (n1 : Nat) (a2 : Int32) (y0 : Int32) (σ : qa_T) : Int32 :=
    y0
noncomputable def qa_fX9_at_16 (p1 : qa_P) (n1 : Nat) (a2 : Int32) (σ : qa_T) : Int32 :=
    qa_fX9_at_17 p1 n1 a2 (Int32.ofInt 0) σ
noncomputable def qa_fX9_at (p1 : qa_P) (n1 : Nat) (a2 : Int32) (σ : qa_T) : Int32 :=
    if a2 < 0 then
      qa_fX9_at_16 p1 n1 a2 σ
    else
      if Int32.ofNat n1 ≤ a2 then
        qa_fX9_at_16 p1 n1 a2 σ
      else
        qa_fX9_at_17 p1 n1 a2 (σ.1 p1 (a2).toNatClampNeg) σ
noncomputable def qa_fX2_queuePlace_2 (R : Nat) (a1 : Int32) : Nat → Int32 → qa_T → Option Int32
  | 0, _, _ => none
  | n + 1, x2, σ =>
    if (σ.1 (R, 12) 2) ≤ x2 then
      some (Int32.ofInt (-1))
    else
      if ¬ (qa_fX9_at (R, 13) 16 x2 σ) = a1 then
        let v3 : Int32 := x2 + Int32.ofInt 1
        qa_fX2_queuePlace_2 R a1 n v3 σ
      else
        some x2
noncomputable def qa_fX2_queuePlace (R : Nat) (a1 : Int32) (σ : qa_T) : Option Int32 :=
    qa_fX2_queuePlace_2 R a1 qa_fu (Int32.ofInt 0) σ
noncomputable def qa_fX1_mayAsk_49 (R : Nat) (a1 : Int32) (σ : qa_T) : Option Bool :=
    some false
noncomputable def qa_fX1_mayAsk (R : Nat) (a1 : Int32) (σ : qa_T) : Option Bool :=
    if ¬ (qa_bi (qa_fX6_isReady R a1 σ)) = 0 then
      qa_fX1_mayAsk_49 R a1 σ
    else
      if a1 = (σ.1 (R, 12) 0) then
        qa_fX1_mayAsk_49 R a1 σ
      else
        if a1 = (σ.1 (R, 11) 4) then
          qa_fX1_mayAsk_49 R a1 σ
        else
          (qa_fX2_queuePlace R a1 σ).bind fun c4 =>
          if ¬ c4 = (Int32.ofInt (-1)) then
            qa_fX1_mayAsk_49 R a1 σ
          else
            some true
noncomputable def qa_fX7_bears_16 (R : Nat) (a1 : Int32) (σ : qa_T) : Bool :=
    true
noncomputable def qa_fX7_bears (R : Nat) (a1 : Int32) (σ : qa_T) : Bool :=
    if a1 = (σ.1 (R, 11) 0) then
      qa_fX7_bears_16 R a1 σ
    else
      if ¬ a1 = (σ.1 (R, 11) 2) then
        false
      else
        qa_fX7_bears_16 R a1 σ
noncomputable def qa_fX1_mayBurn_26 (R : Nat) (a1 : Int32) (σ : qa_T) : Bool :=
    false
noncomputable def qa_fX1_mayBurn (R : Nat) (a1 : Int32) (σ : qa_T) : Bool :=
    if (qa_bi (qa_fX6_isReady R a1 σ)) = 0 then
      qa_fX1_mayBurn_26 R a1 σ
    else
      if ¬ (qa_bi (qa_fX7_bears R a1 σ)) = 0 then
        qa_fX1_mayBurn_26 R a1 σ
      else
        true
noncomputable def qa_fX3_advance_24 (R : Nat) (y0 : Int32) (σ : qa_T) : (Int32 × qa_T) :=
    let σ2 := qa_wi σ (R, 9) 1 y0
    ((qa_fX9_at (R, 10) 24 (σ2.1 (R, 9) 1) σ2), σ2)
noncomputable def qa_fX3_advance (R : Nat) (σ : qa_T) : (Int32 × qa_T) :=
    if (σ.1 (R, 9) 0) ≤ ((σ.1 (R, 9) 1) + (Int32.ofInt 1)) then
      qa_fX3_advance_24 R (Int32.ofInt 0) σ
    else
      qa_fX3_advance_24 R ((σ.1 (R, 9) 1) + (Int32.ofInt 1)) σ
noncomputable def qa_fX7_bring_41 (R : Nat) (a1 : Int32) (a2 : Int32) (σ : qa_T) : qa_T :=
    let σ2 := qa_wi σ (R, 11) 0 a1
    let σ3 := qa_wi σ2 (R, 11) 1 (Int32.ofInt 0)
    let σ4 := qa_wi σ3 (R, 11) 4 (Int32.ofInt (-1))
    σ4
noncomputable def qa_fX7_bring_38 (R : Nat) (a1 : Int32) (a2 : Int32) (y0 : Int32) (σ : qa_T) : qa_T :=
    let σ8 := qa_wi σ (R, 11) 3 y0
    qa_fX7_bring_41 R a1 a2 σ8
noncomputable def qa_fX7_bring_21 (R : Nat) (a1 : Int32) (a2 : Int32) (y0 : Int32) (σ : qa_T) : qa_T :=
    let σ6 := qa_wi σ (R, 11) 2 y0
    if (σ6.1 (R, 11) 2) = (Int32.ofInt (-1)) then
      qa_fX7_bring_38 R a1 a2 (Int32.ofInt 0) σ6
    else
      qa_fX7_bring_38 R a1 a2 a2 σ6
noncomputable def qa_fX7_bring (R : Nat) (a1 : Int32) (a2 : Int32) (σ : qa_T) : qa_T :=
    if a1 = (σ.1 (R, 11) 0) then
      qa_fX7_bring_41 R a1 a2 σ
    else
      if a2 ≤ 0 then
        qa_fX7_bring_21 R a1 a2 (Int32.ofInt (-1)) σ
      else
        qa_fX7_bring_21 R a1 a2 (σ.1 (R, 11) 0) σ
noncomputable def qa_fX9_set_14 (p1 : qa_P) (n1 : Nat) (a2 : Int32) (a3 : Int32) (σ : qa_T) : qa_T :=
    σ
noncomputable def qa_fX9_set (p1 : qa_P) (n1 : Nat) (a2 : Int32) (a3 : Int32) (σ : qa_T) : qa_T :=
    if a2 < 0 then
      qa_fX9_set_14 p1 n1 a2 a3 σ
    else
      if Int32.ofNat n1 ≤ a2 then
        qa_fX9_set_14 p1 n1 a2 a3 σ
      else
        let σ3 := qa_wi σ p1 (a2).toNatClampNeg a3
        qa_fX9_set_14 p1 n1 a2 a3 σ3
noncomputable def qa_fX6_use (R : Nat) (a1 : Int32) (σ : qa_T) : qa_T :=
    let σ1 := qa_wi σ (R, 1) 8 ((σ.1 (R, 1) 8) + (Int32.ofInt 1))
    let σ2 := qa_fX9_set (R, 8) 16 a1 (σ1.1 (R, 1) 8) σ1
    σ2
noncomputable def qa_fX1_bringOn (R : Nat) (a1 : Int32) (σ : qa_T) : qa_T :=
    let σ1 := qa_fX7_bring R a1 (qa_fX9_at (R, 4) 16 a1 σ) σ
    let σ2 := qa_fX6_use R a1 σ1
    σ2
noncomputable def qa_fX2_unqueue_2 (R : Nat) (a1 : Int32) : Nat → Int32 → qa_T → Option qa_T
  | 0, _, _ => none
  | n + 1, x2, σ =>
    if (σ.1 (R, 12) 2) ≤ (x2 + (Int32.ofInt 1)) then
      let σ2 := qa_wi σ (R, 12) 2 ((σ.1 (R, 12) 2) - (Int32.ofInt 1))
      some σ2
    else
      let σ3 := qa_fX9_set (R, 13) 16 x2 (qa_fX9_at (R, 13) 16 (x2 + (Int32.ofInt 1)) σ) σ
      let v4 : Int32 := x2 + Int32.ofInt 1
      qa_fX2_unqueue_2 R a1 n v4 σ3
noncomputable def qa_fX2_unqueue (R : Nat) (a1 : Int32) (σ : qa_T) : Option qa_T :=
    qa_fX2_unqueue_2 R a1 qa_fu a1 σ
noncomputable def qa_fX1_proceed_82 (R : Nat) (σ : qa_T) : Option (Bool × qa_T) :=
    some (false, σ)
noncomputable def qa_fX1_proceed (R : Nat) (σ : qa_T) : Option (Bool × qa_T) :=
    let c1 := qa_fX3_advance R σ
    if (qa_bi (qa_fX6_isReady R c1.1 c1.2)) = 0 then
      let σ3 := qa_wi c1.2 (R, 15) 2 ((c1.2.1 (R, 15) 2) + (Int32.ofInt 1))
      let σ4 := qa_wi σ3 (R, 11) 4 c1.1
      (qa_fX2_queuePlace R c1.1 σ4).bind fun c5 =>
      if c5 = (Int32.ofInt (-1)) then
        qa_fX1_proceed_82 R σ4
      else
        (qa_fX2_unqueue R c5 σ4).bind fun c8 =>
        qa_fX1_proceed_82 R c8
    else
      let σ10 := qa_wi c1.2 (R, 15) 1 ((c1.2.1 (R, 15) 1) + (Int32.ofInt 1))
      let σ11 := qa_fX1_bringOn R c1.1 σ10
      some (true, σ11)
noncomputable def qa_fX3_slideAhead_44 (R : Nat) (a1 : Int32) (y0 : Int32) (σ : qa_T) : Option Int32 :=
    some y0
noncomputable def qa_fX3_slideAhead_43 (R : Nat) (a1 : Int32) (σ : qa_T) : Option Int32 :=
    qa_fX3_slideAhead_44 R a1 (Int32.ofInt (-1)) σ
noncomputable def qa_fX3_slideAhead (R : Nat) (a1 : Int32) (σ : qa_T) : Option Int32 :=
    if 0 < (σ.1 (R, 9) 0) then
      if (σ.1 (R, 9) 0) = 0 then none else
      let v3 : Int32 := (((σ.1 (R, 9) 1) + a1) - ((σ.1 (R, 9) 1) + a1) / (σ.1 (R, 9) 0) * (σ.1 (R, 9) 0))
      if v3 < 0 then
        qa_fX3_slideAhead_43 R a1 σ
      else
        if Int32.ofNat 24 ≤ v3 then
          qa_fX3_slideAhead_43 R a1 σ
        else
          qa_fX3_slideAhead_44 R a1 (σ.1 (R, 10) (v3).toNatClampNeg) σ
    else
      some (Int32.ofInt (-1))
noncomputable def qa_fX1_nextInGoodTime_73 (R : Nat) (k2 : Int32 → qa_T → Option Int32) (x1 : Int32) (σ : qa_T) : Option Int32 :=
    let v5 : Int32 := x1 + Int32.ofInt 1
    k2 v5 σ
noncomputable def qa_fX1_nextInGoodTime_72 (R : Nat) (y0 : Int32) (σ : qa_T) : Option Int32 :=
    some y0
noncomputable def qa_fX1_nextInGoodTime_2 (R : Nat) : Nat → Int32 → qa_T → Option Int32
  | 0, _, _ => none
  | n + 1, x1, σ =>
    if (σ.1 (R, 14) 1) < x1 then
      some (Int32.ofInt (-1))
    else
      (qa_fX3_slideAhead R x1 σ).bind fun c2 =>
      if c2 = (Int32.ofInt (-1)) then
        qa_fX1_nextInGoodTime_73 R (qa_fX1_nextInGoodTime_2 R n) x1 σ
      else
        if ¬ (qa_bi (qa_fX6_isReady R c2 σ)) = 0 then
          qa_fX1_nextInGoodTime_73 R (qa_fX1_nextInGoodTime_2 R n) x1 σ
        else
          if (σ.1 (R, 14) 0) < ((σ.1 (R, 12) 4) + (qa_fX9_at (R, 2) 16 c2 σ)) then
            qa_fX1_nextInGoodTime_72 R (Int32.ofInt (-1)) σ
          else
            qa_fX1_nextInGoodTime_72 R c2 σ
noncomputable def qa_fX1_nextInGoodTime (R : Nat) (σ : qa_T) : Option Int32 :=
    qa_fX1_nextInGoodTime_2 R qa_fu (Int32.ofInt 1) σ
noncomputable def qa_fX1_nextToLoad (R : Nat) (σ : qa_T) : Option (Int32 × qa_T) :=
    if (σ.1 (R, 11) 4) = (Int32.ofInt (-1)) then
      if (σ.1 (R, 12) 2) ≤ 0 then
        (qa_fX1_nextInGoodTime R σ).bind fun c3 =>
        some (c3, σ)
      else
        let v5 : Int32 := (qa_fX9_at (R, 13) 16 (Int32.ofInt 0) σ)
        (qa_fX2_unqueue R (Int32.ofInt 0) σ).bind fun c6 =>
        some (v5, c6)
    else
      some ((σ.1 (R, 11) 4), σ)
noncomputable def qa_fX1_weighByNextUse_37 (R : Nat) : Nat → Int32 → qa_T → Option qa_T
  | 0, _, _ => none
  | n + 1, x1, σ =>
    if x1 ≤ 0 then
      some σ
    else
      (qa_fX3_slideAhead R x1 σ).bind fun c4 =>
      let σ6 := qa_fX9_set (R, 16) 16 c4 x1 σ
      let v7 : Int32 := x1 + Int32.ofInt (-1)
      qa_fX1_weighByNextUse_37 R n v7 σ6
noncomputable def qa_fX1_weighByNextUse_2 (R : Nat) : Nat → Int32 → qa_T → Option qa_T
  | 0, _, _ => none
  | n + 1, x1, σ =>
    if (σ.1 (R, 1) 0) ≤ x1 then
      let v2 : Int32 := (σ.1 (R, 9) 0)
      qa_fX1_weighByNextUse_37 R qa_fu v2 σ
    else
      let σ8 := qa_fX9_set (R, 16) 16 x1 ((Int8.ofInt 25).toInt32) σ
      let v9 : Int32 := x1 + Int32.ofInt 1
      qa_fX1_weighByNextUse_2 R n v9 σ8
noncomputable def qa_fX1_weighByNextUse (R : Nat) (σ : qa_T) : Option qa_T :=
    qa_fX1_weighByNextUse_2 R qa_fu (Int32.ofInt 0) σ
noncomputable def qa_fX1_weighByUseOrCost_64 (R : Nat) (k2 : Int32 → qa_T → Option qa_T) (x1 : Int32) (y0 : Int32) (y1 : Int32) (σ : qa_T) : Option qa_T :=
    let σ4 := qa_fX9_set (R, 16) 16 y1 y0 σ
    let v5 : Int32 := x1 + Int32.ofInt 1
    k2 v5 σ4
noncomputable def qa_fX1_weighByUseOrCost_28 (R : Nat) (k2 : Int32 → qa_T → Option qa_T) (x1 : Int32) (y0 : Int32) (σ : qa_T) : Option qa_T :=
    if y0 = 0 then
      qa_fX1_weighByUseOrCost_64 R k2 x1 (qa_fX9_at (R, 2) 16 x1 σ) x1 σ
    else
      qa_fX1_weighByUseOrCost_64 R k2 x1 (-(qa_fX9_at (R, 8) 16 x1 σ)) x1 σ
noncomputable def qa_fX1_weighByUseOrCost_2 (R : Nat) : Nat → Int32 → qa_T → Option qa_T
  | 0, _, _ => none
  | n + 1, x1, σ =>
    if (σ.1 (R, 1) 0) ≤ x1 then
      some σ
    else
      if ¬ (σ.1 (R, 14) 2) = 0 then
        qa_fX1_weighByUseOrCost_28 R (qa_fX1_weighByUseOrCost_2 R n) x1 (Int32.ofInt 0) σ
      else
        qa_fX1_weighByUseOrCost_28 R (qa_fX1_weighByUseOrCost_2 R n) x1 (Int32.ofInt 1) σ
noncomputable def qa_fX1_weighByUseOrCost (R : Nat) (σ : qa_T) : Option qa_T :=
    qa_fX1_weighByUseOrCost_2 R qa_fu (Int32.ofInt 0) σ
noncomputable def qa_fX1_lineUp_115 (R : Nat) (k26 : Int32 → Int32 → qa_T → Option (Int32 × qa_T)) (x1 : Int32) (x2 : Int32) (σ : qa_T) : Option (Int32 × qa_T) :=
    let v6 : Int32 := x2 + Int32.ofInt 1
    k26 x1 v6 σ
noncomputable def qa_fX1_lineUp_103 (R : Nat) (k26 : Int32 → Int32 → qa_T → Option (Int32 × qa_T)) (x1 : Int32) (x2 : Int32) (x3 : Int32) (σ : qa_T) : Option (Int32 × qa_T) :=
    let σ8 := qa_fX9_set (R, 17) 16 x3 x2 σ
    let v9 : Int32 := x1 + Int32.ofInt 1
    qa_fX1_lineUp_115 R k26 v9 x2 σ8
noncomputable def qa_fX1_lineUp_47 (R : Nat) (k26 : Int32 → Int32 → qa_T → Option (Int32 × qa_T)) : Nat → Int32 → Int32 → Int32 → qa_T → Option (Int32 × qa_T)
  | 0, _, _, _, _ => none
  | n + 1, x1, x2, x3, σ =>
    if x3 ≤ 0 then
      qa_fX1_lineUp_103 R k26 x1 x2 x3 σ
    else
      if (qa_fX9_at (R, 16) 16 x2 σ) ≤ (qa_fX9_at (R, 16) 16 (qa_fX9_at (R, 17) 16 (x3 - (Int32.ofInt 1)) σ) σ) then
        qa_fX1_lineUp_103 R k26 x1 x2 x3 σ
      else
        let σ11 := qa_fX9_set (R, 17) 16 x3 (qa_fX9_at (R, 17) 16 (x3 - (Int32.ofInt 1)) σ) σ
        let v12 : Int32 := x3 + Int32.ofInt (-1)
        qa_fX1_lineUp_47 R k26 n x1 x2 v12 σ11
noncomputable def qa_fX1_lineUp_26 (R : Nat) : Nat → Int32 → Int32 → qa_T → Option (Int32 × qa_T)
  | 0, _, _, _ => none
  | n + 1, x1, x2, σ =>
    if (σ.1 (R, 1) 0) ≤ x2 then
      some (x1, σ)
    else
      if (qa_bi (qa_fX1_mayBurn R x2 σ)) = 0 then
        qa_fX1_lineUp_115 R (qa_fX1_lineUp_26 R n) x1 x2 σ
      else
        qa_fX1_lineUp_47 R (qa_fX1_lineUp_26 R n) qa_fu x1 x2 x1 σ
noncomputable def qa_fX1_lineUp_22 (R : Nat) (σ : qa_T) : Option (Int32 × qa_T) :=
    qa_fX1_lineUp_26 R qa_fu (Int32.ofInt 0) (Int32.ofInt 0) σ
noncomputable def qa_fX1_lineUp (R : Nat) (σ : qa_T) : Option (Int32 × qa_T) :=
    if ¬ (σ.1 (R, 14) 2) = (Int32.ofInt 2) then
      (qa_fX1_weighByUseOrCost R σ).bind fun c2 =>
      qa_fX1_lineUp_22 R c2
    else
      (qa_fX1_weighByNextUse R σ).bind fun c13 =>
      qa_fX1_lineUp_22 R c13
noncomputable def qa_fX6_setReady_20 (R : Nat) (a1 : Int32) (a2 : Bool) (σ : qa_T) : qa_T :=
    σ
noncomputable def qa_fX6_setReady (R : Nat) (a1 : Int32) (a2 : Bool) (σ : qa_T) : qa_T :=
    if a1 < 0 then
      qa_fX6_setReady_20 R a1 a2 σ
    else
      if Int32.ofNat 16 ≤ a1 then
        qa_fX6_setReady_20 R a1 a2 σ
      else
        let σ3 := qa_wi σ (R, 5) (a1).toNatClampNeg (qa_bi a2)
        qa_fX6_setReady_20 R a1 a2 σ3
noncomputable def qa_fX1_putOnFire (R : Nat) (a1 : Int32) (σ : qa_T) : qa_T :=
    let σ1 := qa_fX6_setReady R a1 false σ
    let σ2 := qa_fX9_set (R, 6) 16 a1 (σ1.1 (R, 14) 3) σ1
    let σ3 := qa_fX9_set (R, 7) 16 a1 ((qa_fX9_at (R, 7) 16 a1 σ2) + (Int32.ofInt 1)) σ2
    let σ4 := qa_wi σ3 (R, 12) 4 ((σ3.1 (R, 12) 4) - (qa_fX9_at (R, 2) 16 a1 σ3))
    let σ5 := qa_wi σ4 (R, 15) 5 ((σ4.1 (R, 15) 5) + (Int32.ofInt 1))
    σ5
noncomputable def qa_fX1_burnDownTo_53 (R : Nat) (a1 : Int32) (σ : qa_T) : Option qa_T :=
    some σ
noncomputable def qa_fX1_burnDownTo_19 (R : Nat) (a1 : Int32) : Nat → Int32 → Int32 → qa_T → Option qa_T
  | 0, _, _, _ => none
  | n + 1, x2, x3, σ =>
    if x2 ≤ x3 then
      qa_fX1_burnDownTo_53 R a1 σ
    else
      if (σ.1 (R, 12) 4) ≤ a1 then
        qa_fX1_burnDownTo_53 R a1 σ
      else
        let σ6 := qa_fX1_putOnFire R (qa_fX9_at (R, 17) 16 x3 σ) σ
        let v7 : Int32 := x3 + Int32.ofInt 1
        qa_fX1_burnDownTo_19 R a1 n x2 v7 σ6
noncomputable def qa_fX1_burnDownTo (R : Nat) (a1 : Int32) (σ : qa_T) : Option qa_T :=
    if a1 < (σ.1 (R, 12) 4) then
      (qa_fX1_lineUp R σ).bind fun c2 =>
      qa_fX1_burnDownTo_19 R a1 qa_fu c2.1 (Int32.ofInt 0) c2.2
    else
      some σ
noncomputable def qa_fX6_ticksToLoad_30 (R : Nat) (a1 : Int32) (a2 : Int32) (y0 : Int32) (σ : qa_T) : Int32 :=
    y0
noncomputable def qa_fX6_ticksToLoad (R : Nat) (a1 : Int32) (a2 : Int32) (σ : qa_T) : Int32 :=
    let v1 : Int32 := (qa_fX9_at (R, 3) 16 a1 σ)
    if (qa_fX9_at (R, 6) 16 a1 σ) ≤ a2 then
      qa_fX6_ticksToLoad_30 R a1 a2 v1 σ
    else
      qa_fX6_ticksToLoad_30 R a1 a2 ((v1 + (Int32.ofInt 1)) / (Int32.ofInt 2)) σ
noncomputable def qa_fX1_beginLoading_75 (R : Nat) (x1 : Int32) (x2 : Int32) (σ : qa_T) : Option qa_T :=
    let σ9 := qa_wi σ (R, 15) 3 ((σ.1 (R, 15) 3) + (Int32.ofInt 1))
    let σ10 := qa_wi σ9 (R, 12) 0 x1
    let σ11 := qa_wi σ10 (R, 12) 1 (qa_fX6_ticksToLoad R x1 (Int32.ofInt 0) σ10)
    let σ12 := qa_wi σ11 (R, 12) 4 ((σ11.1 (R, 12) 4) + x2)
    let σ13 := qa_fX9_set (R, 6) 16 x1 (Int32.ofInt 0) σ12
    some σ13
noncomputable def qa_fX1_beginLoading (R : Nat) (σ : qa_T) : Option qa_T :=
    if (σ.1 (R, 12) 0) = (Int32.ofInt (-1)) then
      (qa_fX1_nextToLoad R σ).bind fun c2 =>
      if ¬ c2.1 = (Int32.ofInt (-1)) then
        let v5 : Int32 := (qa_fX9_at (R, 2) 16 c2.1 c2.2)
        (qa_fX1_burnDownTo R ((c2.2.1 (R, 14) 0) - v5) c2.2).bind fun c6 =>
        if (qa_fX9_at (R, 6) 16 c2.1 c6) ≤ 0 then
          qa_fX1_beginLoading_75 R c2.1 v5 c6
        else
          let σ14 := qa_wi c6 (R, 15) 4 ((c6.1 (R, 15) 4) + (Int32.ofInt 1))
          qa_fX1_beginLoading_75 R c2.1 v5 σ14
      else
        some c2.2
    else
      some σ
noncomputable def qa_fX1_obeyGoOn (R : Nat) (σ : qa_T) : Option (Bool × qa_T) :=
    if ¬ (qa_bi (qa_fX1_mayGoOn R σ)) = 0 then
      (qa_fX1_proceed R σ).bind fun c2 =>
      (qa_fX1_beginLoading R c2.2).bind fun c4 =>
      some (true, c4)
    else
      some (false, σ)
noncomputable def qa_fX6_has_16 (R : Nat) (a1 : Int32) (σ : qa_T) : Bool :=
    false
noncomputable def qa_fX6_has (R : Nat) (a1 : Int32) (σ : qa_T) : Bool :=
    if a1 < 0 then
      qa_fX6_has_16 R a1 σ
    else
      if (σ.1 (R, 1) 0) ≤ a1 then
        qa_fX6_has_16 R a1 σ
      else
        true
noncomputable def qa_fX2_queue (R : Nat) (a1 : Int32) (σ : qa_T) : qa_T :=
    let σ1 := qa_fX9_set (R, 13) 16 (σ.1 (R, 12) 2) a1 σ
    let σ2 := qa_wi σ1 (R, 12) 2 ((σ1.1 (R, 12) 2) + (Int32.ofInt 1))
    σ2
noncomputable def qa_fX1_obeyAsk_19 (R : Nat) (a1 : Int32) (σ : qa_T) : Option (Bool × qa_T) :=
    some (false, σ)
noncomputable def qa_fX1_obeyAsk (R : Nat) (a1 : Int32) (σ : qa_T) : Option (Bool × qa_T) :=
    if (qa_bi (qa_fX6_has R a1 σ)) = 0 then
      qa_fX1_obeyAsk_19 R a1 σ
    else
      (qa_fX1_mayAsk R a1 σ).bind fun c2 =>
      if ¬ (qa_bi c2) = 0 then
        let σ5 := qa_fX2_queue R a1 σ
        (qa_fX1_beginLoading R σ5).bind fun c6 =>
        some (true, c6)
      else
        qa_fX1_obeyAsk_19 R a1 σ
noncomputable def qa_fX1_obeyBurn_19 (R : Nat) (a1 : Int32) (σ : qa_T) : Option (Bool × qa_T) :=
    some (false, σ)
noncomputable def qa_fX1_obeyBurn (R : Nat) (a1 : Int32) (σ : qa_T) : Option (Bool × qa_T) :=
    if (qa_bi (qa_fX6_has R a1 σ)) = 0 then
      qa_fX1_obeyBurn_19 R a1 σ
    else
      if ¬ (qa_bi (qa_fX1_mayBurn R a1 σ)) = 0 then
        let σ3 := qa_fX1_putOnFire R a1 σ
        (qa_fX1_beginLoading R σ3).bind fun c4 =>
        some (true, c4)
      else
        qa_fX1_obeyBurn_19 R a1 σ
noncomputable def qa_fX3_put_71 (R : Nat) (a1 : Int32) (a2 : Int32) (σ : qa_T) : Option qa_T :=
    some σ
noncomputable def qa_fX3_put_5 (R : Nat) (a1 : Int32) (a2 : Int32) : Nat → Int32 → qa_T → Option qa_T
  | 0, _, _ => none
  | n + 1, x3, σ =>
    if x3 ≤ a1 then
      let σ3 := qa_fX9_set (R, 10) 24 a1 a2 σ
      let σ4 := qa_wi σ3 (R, 9) 0 ((σ3.1 (R, 9) 0) + (Int32.ofInt 1))
      if (σ4.1 (R, 9) 1) < a1 then
        qa_fX3_put_71 R a1 a2 σ4
      else
        let σ6 := qa_wi σ4 (R, 9) 1 ((σ4.1 (R, 9) 1) + (Int32.ofInt 1))
        qa_fX3_put_71 R a1 a2 σ6
    else
      let σ7 := qa_fX9_set (R, 10) 24 x3 (qa_fX9_at (R, 10) 24 (x3 - (Int32.ofInt 1)) σ) σ
      let v8 : Int32 := x3 + Int32.ofInt (-1)
      qa_fX3_put_5 R a1 a2 n v8 σ7
noncomputable def qa_fX3_put (R : Nat) (a1 : Int32) (a2 : Int32) (σ : qa_T) : Option qa_T :=
    let v1 : Int32 := (σ.1 (R, 9) 0)
    qa_fX3_put_5 R a1 a2 qa_fu v1 σ
noncomputable def qa_fX1_obeyInsert_23 (R : Nat) (a1 : Int32) (σ : qa_T) : Option (Bool × qa_T) :=
    some (false, σ)
noncomputable def qa_fX1_obeyInsert (R : Nat) (a1 : Int32) (σ : qa_T) : Option (Bool × qa_T) :=
    if (qa_bi (qa_fX6_has R a1 σ)) = 0 then
      qa_fX1_obeyInsert_23 R a1 σ
    else
      if (σ.1 (R, 9) 0) < ((Int8.ofInt 24).toInt32) then
        (qa_fX3_put R (σ.1 (R, 9) 0) a1 σ).bind fun c3 =>
        (qa_fX1_beginLoading R c3).bind fun c5 =>
        some (true, c5)
      else
        qa_fX1_obeyInsert_23 R a1 σ
noncomputable def qa_fX6_coolEmbers_44 (R : Nat) (σ : qa_T) : Option qa_T :=
    some σ
noncomputable def qa_fX6_coolEmbers_38 (R : Nat) (k2 : Int32 → qa_T → Option qa_T) (x1 : Int32) (σ : qa_T) : Option qa_T :=
    let v5 : Int32 := x1 + Int32.ofInt 1
    k2 v5 σ
noncomputable def qa_fX6_coolEmbers_2 (R : Nat) : Nat → Int32 → qa_T → Option qa_T
  | 0, _, _ => none
  | n + 1, x1, σ =>
    if (σ.1 (R, 1) 0) ≤ x1 then
      qa_fX6_coolEmbers_44 R σ
    else
      if Int32.ofNat 16 ≤ x1 then
        qa_fX6_coolEmbers_44 R σ
      else
        if ¬ qa_in x1 16 = true then none else
        if (σ.1 (R, 6) (x1).toNatClampNeg) ≤ 0 then
          qa_fX6_coolEmbers_38 R (qa_fX6_coolEmbers_2 R n) x1 σ
        else
          if ¬ qa_in x1 16 = true then none else
          if ¬ qa_in x1 16 = true then none else
          let σ8 := qa_wi σ (R, 6) (x1).toNatClampNeg ((σ.1 (R, 6) (x1).toNatClampNeg) - (Int32.ofInt 1))
          qa_fX6_coolEmbers_38 R (qa_fX6_coolEmbers_2 R n) x1 σ8
noncomputable def qa_fX6_coolEmbers (R : Nat) (σ : qa_T) : Option qa_T :=
    qa_fX6_coolEmbers_2 R qa_fu (Int32.ofInt 0) σ
noncomputable def qa_fX7_fadeOnce_29 (R : Nat) (σ : qa_T) : qa_T :=
    σ
noncomputable def qa_fX7_fadeOnce_17 (R : Nat) (σ : qa_T) : qa_T :=
    if ¬ (σ.1 (R, 11) 3) = 0 then
      qa_fX7_fadeOnce_29 R σ
    else
      let σ3 := qa_wi σ (R, 11) 2 (Int32.ofInt (-1))
      qa_fX7_fadeOnce_29 R σ3
noncomputable def qa_fX7_fadeOnce (R : Nat) (σ : qa_T) : qa_T :=
    if (σ.1 (R, 11) 3) ≤ 0 then
      qa_fX7_fadeOnce_17 R σ
    else
      let σ4 := qa_wi σ (R, 11) 3 ((σ.1 (R, 11) 3) - (Int32.ofInt 1))
      qa_fX7_fadeOnce_17 R σ4
noncomputable def qa_fX7_countShown_18 (R : Nat) (σ : qa_T) : qa_T :=
    σ
noncomputable def qa_fX7_countShown (R : Nat) (σ : qa_T) : qa_T :=
    if (σ.1 (R, 11) 0) = (Int32.ofInt (-1)) then
      qa_fX7_countShown_18 R σ
    else
      let σ2 := qa_wi σ (R, 11) 1 ((σ.1 (R, 11) 1) + (Int32.ofInt 1))
      qa_fX7_countShown_18 R σ2
noncomputable def qa_fX1_loadOnce (R : Nat) (σ : qa_T) : (Bool × qa_T) :=
    let v1 : Int32 := (σ.1 (R, 12) 0)
    if ¬ v1 = (Int32.ofInt (-1)) then
      let σ3 := qa_wi σ (R, 12) 1 ((σ.1 (R, 12) 1) - (Int32.ofInt 1))
      if (σ3.1 (R, 12) 1) ≤ 0 then
        let σ5 := qa_wi σ3 (R, 12) 0 (Int32.ofInt (-1))
        let σ6 := qa_fX6_setReady R v1 true σ5
        let σ7 := qa_fX6_use R v1 σ6
        if (σ7.1 (R, 11) 4) = v1 then
          let σ9 := qa_fX1_bringOn R v1 σ7
          (true, σ9)
        else
          (false, σ7)
      else
        (false, σ3)
    else
      (false, σ)
noncomputable def qa_fX1_paceIsReached_49 (R : Nat) (σ : qa_T) : Bool :=
    false
noncomputable def qa_fX1_paceIsReached (R : Nat) (σ : qa_T) : Bool :=
    if (σ.1 (R, 14) 4) ≤ 0 then
      qa_fX1_paceIsReached_49 R σ
    else
      if (qa_bi (qa_fX1_mayGoOn R σ)) = 0 then
        qa_fX1_paceIsReached_49 R σ
      else
        if (σ.1 (R, 11) 0) = (Int32.ofInt (-1)) then
          qa_fX1_paceIsReached_49 R σ
        else
          if (σ.1 (R, 11) 1) < (σ.1 (R, 14) 4) then
            qa_fX1_paceIsReached_49 R σ
          else
            true
noncomputable def qa_fX1_passTick_87 (R : Nat) (x1 : Int32) (σ : qa_T) : Option (Int32 × qa_T) :=
    (qa_fX1_beginLoading R σ).bind fun c10 =>
    some (x1, c10)
noncomputable def qa_fX1_passTick_70 (R : Nat) (x1 : Int32) (σ : qa_T) : Option (Int32 × qa_T) :=
    if (qa_bi (qa_fX1_paceIsReached R σ)) = 0 then
      qa_fX1_passTick_87 R x1 σ
    else
      (qa_fX1_proceed R σ).bind fun c12 =>
      if (qa_bi c12.1) = 0 then
        qa_fX1_passTick_87 R x1 c12.2
      else
        let v15 : Int32 := x1 + Int32.ofInt 1
        qa_fX1_passTick_87 R v15 c12.2
noncomputable def qa_fX1_passTick_39 (R : Nat) (x1 : Int32) (σ : qa_T) : Option (Int32 × qa_T) :=
    (qa_fX6_coolEmbers R σ).bind fun c3 =>
    let σ5 := qa_fX7_fadeOnce R c3
    let σ6 := qa_fX7_countShown R σ5
    let c7 := qa_fX1_loadOnce R σ6
    if (qa_bi c7.1) = 0 then
      qa_fX1_passTick_70 R x1 c7.2
    else
      let v16 : Int32 := x1 + Int32.ofInt 1
      qa_fX1_passTick_70 R v16 c7.2
noncomputable def qa_fX1_passTick (R : Nat) (σ : qa_T) : Option (Int32 × qa_T) :=
    let σ1 := qa_wi σ (R, 15) 0 ((σ.1 (R, 15) 0) + (Int32.ofInt 1))
    if (σ1.1 (R, 11) 4) = (Int32.ofInt (-1)) then
      qa_fX1_passTick_39 R (Int32.ofInt 0) σ1
    else
      let σ17 := qa_wi σ1 (R, 15) 6 ((σ1.1 (R, 15) 6) + (Int32.ofInt 1))
      qa_fX1_passTick_39 R (Int32.ofInt 0) σ17
noncomputable def qa_fX1_obey_77 (R : Nat) (a1 : Int32) (a2 : Int32) : Nat → Int32 → qa_T → Option (Bool × qa_T)
  | 0, _, _ => none
  | n + 1, x3, σ =>
    if a2 ≤ x3 then
      some (true, σ)
    else
      (qa_fX1_passTick R σ).bind fun c15 =>
      let v17 : Int32 := x3 + Int32.ofInt 1
      qa_fX1_obey_77 R a1 a2 n v17 c15.2
noncomputable def qa_fX1_obey (R : Nat) (a1 : Int32) (a2 : Int32) (σ : qa_T) : Option (Bool × qa_T) :=
    if a1 = 97 then
      (qa_fX1_obeyAsk R a2 σ).bind fun c2 =>
      some (c2.1, c2.2)
    else
    if a1 = 98 then
      (qa_fX1_obeyBurn R a2 σ).bind fun c5 =>
      some (c5.1, c5.2)
    else
    if a1 = 110 then
      (qa_fX1_obeyGoOn R σ).bind fun c8 =>
      some (c8.1, c8.2)
    else
    if a1 = 112 then
      (qa_fX1_obeyInsert R a2 σ).bind fun c11 =>
      some (c11.1, c11.2)
    else
    if a1 = 116 then
      qa_fX1_obey_77 R a1 a2 qa_fu (Int32.ofInt 0) σ
    else
      some (false, σ)
noncomputable def qa_fX1_passTicks_4 (R : Nat) (a1 : Int32) : Nat → Int32 → Int32 → qa_T → Option (Int32 × qa_T)
  | 0, _, _, _ => none
  | n + 1, x2, x3, σ =>
    if a1 ≤ x3 then
      some (x2, σ)
    else
      (qa_fX1_passTick R σ).bind fun c2 =>
      let v4 : Int32 := (x2 + c2.1)
      let v5 : Int32 := x3 + Int32.ofInt 1
      qa_fX1_passTicks_4 R a1 n v4 v5 c2.2
noncomputable def qa_fX1_passTicks (R : Nat) (a1 : Int32) (σ : qa_T) : Option (Int32 × qa_T) :=
    qa_fX1_passTicks_4 R a1 qa_fu (Int32.ofInt 0) (Int32.ofInt 0) σ
noncomputable def qa_fX1_placeInLine_7 (R : Nat) (a1 : Int32) : Nat → Int32 → Int32 → qa_T → Option (Int32 × qa_T)
  | 0, _, _, _ => none
  | n + 1, x2, x3, σ =>
    if x2 ≤ x3 then
      some ((Int32.ofInt (-1)), σ)
    else
      if ¬ (qa_fX9_at (R, 17) 16 x3 σ) = a1 then
        let v5 : Int32 := x3 + Int32.ofInt 1
        qa_fX1_placeInLine_7 R a1 n x2 v5 σ
      else
        some (x3, σ)
noncomputable def qa_fX1_placeInLine (R : Nat) (a1 : Int32) (σ : qa_T) : Option (Int32 × qa_T) :=
    (qa_fX1_lineUp R σ).bind fun c1 =>
    qa_fX1_placeInLine_7 R a1 qa_fu c1.1 (Int32.ofInt 0) c1.2
noncomputable def qa_fX1_burningsToLoad_22 (R : Nat) (a1 : Int32) (σ : qa_T) : Option (Int32 × qa_T) :=
    some ((Int32.ofInt 0), σ)
noncomputable def qa_fX1_burningsToLoad_98 (R : Nat) (a1 : Int32) (x4 : Int32) (σ : qa_T) : Option (Int32 × qa_T) :=
    some (x4, σ)
noncomputable def qa_fX1_burningsToLoad_60 (R : Nat) (a1 : Int32) : Nat → Int32 → Int32 → Int32 → qa_T → Option (Int32 × qa_T)
  | 0, _, _, _, _ => none
  | n + 1, x2, x3, x4, σ =>
    if x3 ≤ x4 then
      qa_fX1_burningsToLoad_98 R a1 x4 σ
    else
      if x2 ≤ 0 then
        qa_fX1_burningsToLoad_98 R a1 x4 σ
      else
        let v8 : Int32 := (x2 - (qa_fX9_at (R, 2) 16 (qa_fX9_at (R, 17) 16 x4 σ) σ))
        let v9 : Int32 := x4 + Int32.ofInt 1
        qa_fX1_burningsToLoad_60 R a1 n v8 x3 v9 σ
noncomputable def qa_fX1_burningsToLoad (R : Nat) (a1 : Int32) (σ : qa_T) : Option (Int32 × qa_T) :=
    if ¬ (qa_bi (qa_fX6_isReady R a1 σ)) = 0 then
      qa_fX1_burningsToLoad_22 R a1 σ
    else
      if ¬ a1 = (σ.1 (R, 12) 0) then
        let v3 : Int32 := (((σ.1 (R, 12) 4) + (qa_fX9_at (R, 2) 16 a1 σ)) - (σ.1 (R, 14) 0))
        (qa_fX1_lineUp R σ).bind fun c4 =>
        qa_fX1_burningsToLoad_60 R a1 qa_fu v3 c4.1 (Int32.ofInt 0) c4.2
      else
        qa_fX1_burningsToLoad_22 R a1 σ
noncomputable def qa_fX1_sumOfCosts_51 (R : Nat) (k4 : Int32 → Int32 → qa_T → Option Int32) (x1 : Int32) (x2 : Int32) (σ : qa_T) : Option Int32 :=
    let v4 : Int32 := x2 + Int32.ofInt 1
    k4 x1 v4 σ
noncomputable def qa_fX1_sumOfCosts_37 (R : Nat) (k4 : Int32 → Int32 → qa_T → Option Int32) (x1 : Int32) (x2 : Int32) (σ : qa_T) : Option Int32 :=
    let v3 : Int32 := (x1 + (qa_fX9_at (R, 2) 16 x2 σ))
    qa_fX1_sumOfCosts_51 R k4 v3 x2 σ
noncomputable def qa_fX1_sumOfCosts_4 (R : Nat) : Nat → Int32 → Int32 → qa_T → Option Int32
  | 0, _, _, _ => none
  | n + 1, x1, x2, σ =>
    if (σ.1 (R, 1) 0) ≤ x2 then
      some x1
    else
      if ¬ (qa_bi (qa_fX6_isReady R x2 σ)) = 0 then
        qa_fX1_sumOfCosts_37 R (qa_fX1_sumOfCosts_4 R n) x1 x2 σ
      else
        if ¬ x2 = (σ.1 (R, 12) 0) then
          qa_fX1_sumOfCosts_51 R (qa_fX1_sumOfCosts_4 R n) x1 x2 σ
        else
          qa_fX1_sumOfCosts_37 R (qa_fX1_sumOfCosts_4 R n) x1 x2 σ
noncomputable def qa_fX1_sumOfCosts (R : Nat) (σ : qa_T) : Option Int32 :=
    qa_fX1_sumOfCosts_4 R qa_fu (Int32.ofInt 0) (Int32.ofInt 0) σ
noncomputable def qa_fX1_sumOfWait (R : Nat) (σ : qa_T) : Int32 :=
    if ¬ (σ.1 (R, 12) 0) = (σ.1 (R, 11) 4) then
      ((σ.1 (R, 12) 1) + (qa_fX6_ticksToLoad R (σ.1 (R, 11) 4) (σ.1 (R, 12) 1) σ))
    else
      (σ.1 (R, 12) 1)
noncomputable def qa_fX3_has_16 (R : Nat) (a1 : Int32) (σ : qa_T) : Bool :=
    false
noncomputable def qa_fX3_has (R : Nat) (a1 : Int32) (σ : qa_T) : Bool :=
    if a1 < 0 then
      qa_fX3_has_16 R a1 σ
    else
      if (σ.1 (R, 9) 0) ≤ a1 then
        qa_fX3_has_16 R a1 σ
      else
        true
noncomputable def qa_fX3_remove_73 (R : Nat) (a1 : Int32) (x2 : Int32) (σ : qa_T) : Option (Int32 × qa_T) :=
    some (x2, σ)
noncomputable def qa_fX3_remove_11 (R : Nat) (a1 : Int32) : Nat → Int32 → Int32 → qa_T → Option (Int32 × qa_T)
  | 0, _, _, _ => none
  | n + 1, x2, x3, σ =>
    if (σ.1 (R, 9) 0) ≤ (x3 + (Int32.ofInt 1)) then
      let σ3 := qa_wi σ (R, 9) 0 ((σ.1 (R, 9) 0) - (Int32.ofInt 1))
      if (σ3.1 (R, 9) 1) < a1 then
        qa_fX3_remove_73 R a1 x2 σ3
      else
        let σ5 := qa_wi σ3 (R, 9) 1 ((σ3.1 (R, 9) 1) - (Int32.ofInt 1))
        qa_fX3_remove_73 R a1 x2 σ5
    else
      let σ6 := qa_fX9_set (R, 10) 24 x3 (qa_fX9_at (R, 10) 24 (x3 + (Int32.ofInt 1)) σ) σ
      let v7 : Int32 := x3 + Int32.ofInt 1
      qa_fX3_remove_11 R a1 n x2 v7 σ6
noncomputable def qa_fX3_remove (R : Nat) (a1 : Int32) (σ : qa_T) : Option (Int32 × qa_T) :=
    let v1 : Int32 := (qa_fX9_at (R, 10) 24 a1 σ)
    qa_fX3_remove_11 R a1 qa_fu v1 a1 σ
noncomputable def qa_fX3_placesUntil_2 (R : Nat) (a1 : Int32) : Nat → Int32 → qa_T → Option Int32
  | 0, _, _ => none
  | n + 1, x2, σ =>
    if (σ.1 (R, 9) 0) < x2 then
      some (Int32.ofInt 0)
    else
      (qa_fX3_slideAhead R x2 σ).bind fun c2 =>
      if ¬ c2 = a1 then
        let v5 : Int32 := x2 + Int32.ofInt 1
        qa_fX3_placesUntil_2 R a1 n v5 σ
      else
        some x2
noncomputable def qa_fX3_placesUntil (R : Nat) (a1 : Int32) (σ : qa_T) : Option Int32 :=
    qa_fX3_placesUntil_2 R a1 qa_fu (Int32.ofInt 1) σ
noncomputable def qa_fX5_push_80 (S : Nat) (σ : qa_T) : Option qa_T :=
    some σ
noncomputable def qa_fX5_push_45 (S : Nat) (σ : qa_T) : Option qa_T :=
    if ((Int8.ofInt 6).toInt32) ≤ (σ.1 (2, 18) 1) then
      let σ4 := qa_wi σ (2, 18) 0 (((σ.1 (2, 18) 0) + (Int32.ofInt 1)) - ((σ.1 (2, 18) 0) + (Int32.ofInt 1)) / ((Int8.ofInt 6).toInt32) * ((Int8.ofInt 6).toInt32))
      qa_fX5_push_80 S σ4
    else
      let σ5 := qa_wi σ (2, 18) 1 ((σ.1 (2, 18) 1) + (Int32.ofInt 1))
      qa_fX5_push_80 S σ5
noncomputable def qa_fX5_push (S : Nat) (σ : qa_T) : Option qa_T :=
    let v1 : Int32 := (((σ.1 (2, 18) 0) + (σ.1 (2, 18) 1)) - ((σ.1 (2, 18) 0) + (σ.1 (2, 18) 1)) / ((Int8.ofInt 6).toInt32) * ((Int8.ofInt 6).toInt32))
    if v1 < 0 then
      qa_fX5_push_45 S σ
    else
      if Int32.ofNat 6 ≤ v1 then
        qa_fX5_push_45 S σ
      else
        (qa_fX1_copyFrom (3 + (v1).toNatClampNeg) S σ).bind fun c9 =>
        qa_fX5_push_45 S c9
noncomputable def qa_fX5_popInto_55 (S : Nat) (σ : qa_T) : Option qa_T :=
    some σ
noncomputable def qa_fX5_popInto (S : Nat) (σ : qa_T) : Option qa_T :=
    let σ1 := qa_wi σ (2, 18) 1 ((σ.1 (2, 18) 1) - (Int32.ofInt 1))
    let v2 : Int32 := (((σ1.1 (2, 18) 0) + (σ1.1 (2, 18) 1)) - ((σ1.1 (2, 18) 0) + (σ1.1 (2, 18) 1)) / ((Int8.ofInt 6).toInt32) * ((Int8.ofInt 6).toInt32))
    if v2 < 0 then
      qa_fX5_popInto_55 S σ1
    else
      if Int32.ofNat 6 ≤ v2 then
        qa_fX5_popInto_55 S σ1
      else
        (qa_fX1_copyFrom S (3 + (v2).toNatClampNeg) σ1).bind fun c7 =>
        qa_fX5_popInto_55 S c7
noncomputable def qa_fX6_add (R : Nat) (a1 : Int32) (a2 : Int32) (a3 : Int32) (σ : qa_T) : (Int32 × qa_T) :=
    let v1 : Int32 := (σ.1 (R, 1) 0)
    let σ2 := qa_fX9_set (R, 2) 16 v1 a1 σ
    let σ3 := qa_fX9_set (R, 3) 16 v1 a2 σ2
    let σ4 := qa_fX9_set (R, 4) 16 v1 a3 σ3
    let σ5 := qa_wi σ4 (R, 1) 0 ((σ4.1 (R, 1) 0) + (Int32.ofInt 1))
    (v1, σ5)
noncomputable def qa_fX8_add (a1 : Int32) (σ : qa_T) : qa_T :=
    let σ1 := qa_fX9_set (10, 20) 60 (σ.1 (10, 19) 0) a1 σ
    let σ2 := qa_wi σ1 (10, 19) 0 ((σ1.1 (10, 19) 0) + (Int32.ofInt 1))
    σ2
noncomputable def qa_fX8_startPart  (σ : qa_T) : qa_T :=
    let σ1 := qa_wi σ (10, 19) 2 (Int32.ofInt 0)
    let σ2 := qa_wi σ1 (10, 19) 3 (Int32.ofInt (-1))
    σ2
noncomputable def qa_fX8_startReading  (σ : qa_T) : qa_T :=
    let σ1 := qa_fX8_startPart σ
    let σ2 := qa_wi σ1 (10, 19) 4 (Int32.ofInt 0)
    σ2
noncomputable def qa_fX8_partMayEnd_17  (σ : qa_T) : Bool :=
    true
noncomputable def qa_fX8_partMayEnd  (σ : qa_T) : Bool :=
    if (σ.1 (10, 19) 2) = ((Int8.ofInt 110).toInt32) then
      qa_fX8_partMayEnd_17  σ
    else
      if (σ.1 (10, 19) 3) = (Int32.ofInt (-1)) then
        false
      else
        qa_fX8_partMayEnd_17  σ
noncomputable def qa_fX8_acceptDigit_28 (a1 : Int32) (σ : qa_T) : (Bool × qa_T) :=
    (false, σ)
noncomputable def qa_fX8_acceptDigit_100 (a1 : Int32) (y0 : Int32) (y1 : Int32) (σ : qa_T) : (Bool × qa_T) :=
    if y0 < y1 then
      (false, σ)
    else
      (true, σ)
noncomputable def qa_fX8_acceptDigit_61 (a1 : Int32) (σ : qa_T) : (Bool × qa_T) :=
    (true, σ)
noncomputable def qa_fX8_acceptDigit (a1 : Int32) (σ : qa_T) : (Bool × qa_T) :=
    if (σ.1 (10, 19) 2) = ((Int8.ofInt 110).toInt32) then
      qa_fX8_acceptDigit_28 a1 σ
    else
      if a1 < ((Int8.ofInt 48).toInt32) then
        qa_fX8_acceptDigit_28 a1 σ
      else
        if ((Int8.ofInt 57).toInt32) < a1 then
          qa_fX8_acceptDigit_28 a1 σ
        else
          if ¬ (σ.1 (10, 19) 3) = 0 then
            let v5 : Int32 := (a1 - ((Int8.ofInt 48).toInt32))
            if ¬ (σ.1 (10, 19) 3) = (Int32.ofInt (-1)) then
              let σ7 := qa_wi σ (10, 19) 3 ((((Int8.ofInt 10).toInt32) * (σ.1 (10, 19) 3)) + v5)
              if ¬ (σ7.1 (10, 19) 2) = ((Int8.ofInt 116).toInt32) then
                qa_fX8_acceptDigit_100 a1 ((Int8.ofInt 15).toInt32) (σ7.1 (10, 19) 3) σ7
              else
                qa_fX8_acceptDigit_100 a1 ((Int8.ofInt 100).toInt32) (σ7.1 (10, 19) 3) σ7
            else
              let σ10 := qa_wi σ (10, 19) 3 v5
              if 0 < v5 then
                qa_fX8_acceptDigit_61 a1 σ10
              else
                if (σ10.1 (10, 19) 2) = ((Int8.ofInt 116).toInt32) then
                  (false, σ10)
                else
                  qa_fX8_acceptDigit_61 a1 σ10
          else
            qa_fX8_acceptDigit_28 a1 σ
noncomputable def qa_fX8_accept_42 (a1 : Int32) (σ : qa_T) : (Bool × qa_T) :=
    (true, σ)
noncomputable def qa_fX8_accept (a1 : Int32) (σ : qa_T) : (Bool × qa_T) :=
    if ¬ (σ.1 (10, 19) 2) = 0 then
      if ¬ a1 = ((Int8.ofInt 59).toInt32) then
        let c3 := qa_fX8_acceptDigit a1 σ
        (c3.1, c3.2)
      else
        let v4 : Int32 := (qa_bi (qa_fX8_partMayEnd σ))
        let σ5 := qa_fX8_startPart σ
        ((qa_fX8_partMayEnd σ), σ5)
    else
      let σ6 := qa_wi σ (10, 19) 2 a1
      if a1 = ((Int8.ofInt 110).toInt32) then
        qa_fX8_accept_42 a1 σ6
      else
        if a1 = ((Int8.ofInt 97).toInt32) then
          qa_fX8_accept_42 a1 σ6
        else
          if a1 = ((Int8.ofInt 98).toInt32) then
            qa_fX8_accept_42 a1 σ6
          else
            if a1 = ((Int8.ofInt 112).toInt32) then
              qa_fX8_accept_42 a1 σ6
            else
              if ¬ a1 = ((Int8.ofInt 116).toInt32) then
                (false, σ6)
              else
                qa_fX8_accept_42 a1 σ6
noncomputable def qa_fX8_readPart_49  (x1 : Int32) (σ : qa_T) : Option (Bool × qa_T) :=
    let σ4 := qa_wi σ (10, 19) 4 (x1 + (Int32.ofInt 1))
    if (σ4.1 (10, 19) 2) = 0 then
      some (false, σ4)
    else
      some (true, σ4)
noncomputable def qa_fX8_readPart_9  : Nat → Int32 → qa_T → Option (Bool × qa_T)
  | 0, _, _ => none
  | n + 1, x1, σ =>
    if (σ.1 (10, 19) 0) ≤ x1 then
      qa_fX8_readPart_49  x1 σ
    else
      if (qa_fX9_at (10, 20) 60 x1 σ) = ((Int8.ofInt 59).toInt32) then
        qa_fX8_readPart_49  x1 σ
      else
        let c7 := qa_fX8_accept (qa_fX9_at (10, 20) 60 x1 σ) σ
        let v8 : Int32 := x1 + Int32.ofInt 1
        qa_fX8_readPart_9  n v8 c7.2
noncomputable def qa_fX8_readPart  (σ : qa_T) : Option (Bool × qa_T) :=
    let σ1 := qa_fX8_startPart σ
    let v2 : Int32 := (σ1.1 (10, 19) 4)
    qa_fX8_readPart_9  qa_fu v2 σ1
noncomputable def qa_fX8_readToError_6  : Nat → Int32 → qa_T → Option (Int32 × qa_T)
  | 0, _, _ => none
  | n + 1, x1, σ =>
    if (σ.1 (10, 19) 0) ≤ x1 then
      some ((σ.1 (10, 19) 0), σ)
    else
      let c3 := qa_fX8_accept (qa_fX9_at (10, 20) 60 x1 σ) σ
      if ¬ (qa_bi c3.1) = 0 then
        let v5 : Int32 := x1 + Int32.ofInt 1
        qa_fX8_readToError_6  n v5 c3.2
      else
        some (x1, c3.2)
noncomputable def qa_fX8_readToError  (σ : qa_T) : Option (Int32 × qa_T) :=
    let σ1 := qa_fX8_startPart σ
    qa_fX8_readToError_6  qa_fu (Int32.ofInt 0) σ1
noncomputable def qa_fX8_tellsOrders_22  (σ : qa_T) : Option (Bool × qa_T) :=
    some (false, σ)
noncomputable def qa_fX8_tellsOrders  (σ : qa_T) : Option (Bool × qa_T) :=
    (qa_fX8_readToError σ).bind fun c1 =>
    if ¬ c1.1 = (c1.2.1 (10, 19) 0) then
      qa_fX8_tellsOrders_22  c1.2
    else
      if (qa_bi (qa_fX8_partMayEnd c1.2)) = 0 then
        qa_fX8_tellsOrders_22  c1.2
      else
        some (true, c1.2)
noncomputable def qa_fX9_isWithin_14 (a1 : Int32) (a2 : Int32) (a3 : Int32) (σ : qa_T) : Bool :=
    false
noncomputable def qa_fX9_isWithin (a1 : Int32) (a2 : Int32) (a3 : Int32) (σ : qa_T) : Bool :=
    if a1 < a2 then
      qa_fX9_isWithin_14 a1 a2 a3 σ
    else
      if a3 < a1 then
        qa_fX9_isWithin_14 a1 a2 a3 σ
      else
        true
noncomputable def qa_fX9_addSlide_58 (a1 : Int32) (a2 : Int32) (a3 : Int32) (y0 : Int32) (σ : qa_T) : Option ((Int32 ⊕ Nat) × qa_T) :=
    if y0 = 0 then
      some (.inr 348, σ)
    else
    (qa_fX5_push 1 σ).bind fun c5 =>
    let c7 := qa_fX6_add 1 a1 a2 a3 c5
    (qa_fX1_beginLoading 1 c7.2).bind fun c8 =>
    some (.inl c7.1, c8)
noncomputable def qa_fX9_addSlide_35 (a1 : Int32) (a2 : Int32) (a3 : Int32) (y0 : Int32) (σ : qa_T) : Option ((Int32 ⊕ Nat) × qa_T) :=
    if y0 = 0 then
      some (.inr 342, σ)
    else
    if ((Int8.ofInt 16).toInt32) ≤ (σ.1 (1, 1) 0) then
      qa_fX9_addSlide_58 a1 a2 a3 (Int32.ofInt 0) σ
    else
      qa_fX9_addSlide_58 a1 a2 a3 (Int32.ofInt 1) σ
noncomputable def qa_fX9_addSlide_34 (a1 : Int32) (a2 : Int32) (a3 : Int32) (σ : qa_T) : Option ((Int32 ⊕ Nat) × qa_T) :=
    qa_fX9_addSlide_35 a1 a2 a3 (Int32.ofInt 0) σ
noncomputable def qa_fX9_addSlide (a1 : Int32) (a2 : Int32) (a3 : Int32) (σ : qa_T) : Option ((Int32 ⊕ Nat) × qa_T) :=
    if (qa_bi (qa_fX9_isWithin a1 (Int32.ofInt 1) ((Int8.ofInt 50).toInt32) σ)) = 0 then
      qa_fX9_addSlide_34 a1 a2 a3 σ
    else
      if (qa_bi (qa_fX9_isWithin a2 (Int32.ofInt 1) ((Int8.ofInt 20).toInt32) σ)) = 0 then
        qa_fX9_addSlide_34 a1 a2 a3 σ
      else
        if (qa_bi (qa_fX9_isWithin a3 (Int32.ofInt 0) ((Int8.ofInt 10).toInt32) σ)) = 0 then
          qa_fX9_addSlide_34 a1 a2 a3 σ
        else
          qa_fX9_addSlide_35 a1 a2 a3 (Int32.ofInt 1) σ
noncomputable def qa_fX9_insert_60 (a1 : Int32) (a2 : Int32) (y0 : Int32) (σ : qa_T) : Option ((Int32 ⊕ Nat) × qa_T) :=
    if y0 = 0 then
      some (.inr 348, σ)
    else
    (qa_fX5_push 1 σ).bind fun c5 =>
    (qa_fX3_put 1 a1 a2 c5).bind fun c7 =>
    (qa_fX1_beginLoading 1 c7).bind fun c9 =>
    some (.inl (c9.1 (1, 9) 0), c9)
noncomputable def qa_fX9_insert_37 (a1 : Int32) (a2 : Int32) (y0 : Int32) (σ : qa_T) : Option ((Int32 ⊕ Nat) × qa_T) :=
    if y0 = 0 then
      some (.inr 345, σ)
    else
    if ((Int8.ofInt 24).toInt32) ≤ (σ.1 (1, 9) 0) then
      qa_fX9_insert_60 a1 a2 (Int32.ofInt 0) σ
    else
      qa_fX9_insert_60 a1 a2 (Int32.ofInt 1) σ
noncomputable def qa_fX9_insert_36 (a1 : Int32) (a2 : Int32) (σ : qa_T) : Option ((Int32 ⊕ Nat) × qa_T) :=
    qa_fX9_insert_37 a1 a2 (Int32.ofInt 0) σ
noncomputable def qa_fX9_insert (a1 : Int32) (a2 : Int32) (σ : qa_T) : Option ((Int32 ⊕ Nat) × qa_T) :=
    if (qa_bi (qa_fX9_isWithin a1 (Int32.ofInt 0) (σ.1 (1, 9) 0) σ)) = 0 then
      qa_fX9_insert_36 a1 a2 σ
    else
      if (qa_bi (qa_fX6_has 1 a2 σ)) = 0 then
        qa_fX9_insert_36 a1 a2 σ
      else
        qa_fX9_insert_37 a1 a2 (Int32.ofInt 1) σ
noncomputable def qa_fX9_takeOut (a1 : Int32) (σ : qa_T) : Option ((Int32 ⊕ Nat) × qa_T) :=
    if (qa_bi (qa_fX3_has 1 a1 σ)) = 0 then
      some (.inr 345, σ)
    else
    (qa_fX5_push 1 σ).bind fun c2 =>
    (qa_fX3_remove 1 a1 c2).bind fun c4 =>
    (qa_fX1_beginLoading 1 c4.2).bind fun c6 =>
    some (.inl c4.1, c6)
noncomputable def qa_fX9_goOn  (σ : qa_T) : Option ((Bool ⊕ Nat) × qa_T) :=
    if (qa_bi (qa_fX1_mayGoOn 1 σ)) = 0 then
      some (.inr 348, σ)
    else
    (qa_fX5_push 1 σ).bind fun c2 =>
    (qa_fX1_proceed 1 c2).bind fun c4 =>
    let v6 : Int32 := (qa_bi c4.1)
    (qa_fX1_beginLoading 1 c4.2).bind fun c7 =>
    some (.inl c4.1, c7)
noncomputable def qa_fX9_ask (a1 : Int32) (σ : qa_T) : Option ((Int32 ⊕ Nat) × qa_T) :=
    if (qa_bi (qa_fX6_has 1 a1 σ)) = 0 then
      some (.inr 345, σ)
    else
    (qa_fX1_mayAsk 1 a1 σ).bind fun c2 =>
    if (qa_bi c2) = 0 then
      some (.inr 348, σ)
    else
    (qa_fX5_push 1 σ).bind fun c5 =>
    let σ7 := qa_fX2_queue 1 a1 c5
    (qa_fX1_beginLoading 1 σ7).bind fun c8 =>
    some (.inl (c8.1 (1, 12) 2), c8)
noncomputable def qa_fX9_burn (a1 : Int32) (σ : qa_T) : Option ((Int32 ⊕ Nat) × qa_T) :=
    if (qa_bi (qa_fX6_has 1 a1 σ)) = 0 then
      some (.inr 345, σ)
    else
    if (qa_bi (qa_fX1_mayBurn 1 a1 σ)) = 0 then
      some (.inr 348, σ)
    else
    (qa_fX5_push 1 σ).bind fun c3 =>
    let σ5 := qa_fX1_putOnFire 1 a1 c3
    (qa_fX1_beginLoading 1 σ5).bind fun c6 =>
    some (.inl (qa_fX9_at (1, 2) 16 a1 c6), c6)
noncomputable def qa_fX9_tick (a1 : Int32) (σ : qa_T) : Option ((Int32 ⊕ Nat) × qa_T) :=
    if (qa_bi (qa_fX9_isWithin a1 (Int32.ofInt 1) ((Int8.ofInt 100).toInt32) σ)) = 0 then
      some (.inr 342, σ)
    else
    (qa_fX5_push 1 σ).bind fun c2 =>
    (qa_fX1_passTicks 1 a1 c2).bind fun c4 =>
    some (.inl c4.1, c4.2)
noncomputable def qa_fX9_changeMemory (a1 : Int32) (σ : qa_T) : Option ((Int32 ⊕ Nat) × qa_T) :=
    if (qa_bi (qa_fX9_isWithin a1 ((Int16.ofInt 150).toInt32) ((Int16.ofInt 400).toInt32) σ)) = 0 then
      some (.inr 342, σ)
    else
    (qa_fX5_push 1 σ).bind fun c2 =>
    let v4 : Int32 := (c2.1 (1, 14) 0)
    let σ5 := qa_wi c2 (1, 14) 0 a1
    (qa_fX1_burnDownTo 1 a1 σ5).bind fun c6 =>
    (qa_fX1_beginLoading 1 c6).bind fun c8 =>
    some (.inl v4, c8)
noncomputable def qa_fX9_changeAhead (a1 : Int32) (σ : qa_T) : Option ((Int32 ⊕ Nat) × qa_T) :=
    if (qa_bi (qa_fX9_isWithin a1 (Int32.ofInt 0) (Int32.ofInt 4) σ)) = 0 then
      some (.inr 342, σ)
    else
    (qa_fX5_push 1 σ).bind fun c2 =>
    let v4 : Int32 := (c2.1 (1, 14) 1)
    let σ5 := qa_wi c2 (1, 14) 1 a1
    (qa_fX1_beginLoading 1 σ5).bind fun c6 =>
    some (.inl v4, c6)
noncomputable def qa_fX9_changeOrder (a1 : Int32) (σ : qa_T) : Option ((Int32 ⊕ Nat) × qa_T) :=
    if (qa_bi (qa_fX9_isWithin a1 (Int32.ofInt 0) (Int32.ofInt 2) σ)) = 0 then
      some (.inr 342, σ)
    else
    (qa_fX5_push 1 σ).bind fun c2 =>
    let v4 : Int32 := (c2.1 (1, 14) 2)
    let σ5 := qa_wi c2 (1, 14) 2 a1
    (qa_fX1_beginLoading 1 σ5).bind fun c6 =>
    some (.inl v4, c6)
noncomputable def qa_fX9_changeGlow (a1 : Int32) (σ : qa_T) : Option ((Int32 ⊕ Nat) × qa_T) :=
    if (qa_bi (qa_fX9_isWithin a1 (Int32.ofInt 0) ((Int8.ofInt 20).toInt32) σ)) = 0 then
      some (.inr 342, σ)
    else
    (qa_fX5_push 1 σ).bind fun c2 =>
    let v4 : Int32 := (c2.1 (1, 14) 3)
    let σ5 := qa_wi c2 (1, 14) 3 a1
    (qa_fX1_beginLoading 1 σ5).bind fun c6 =>
    some (.inl v4, c6)
noncomputable def qa_fX9_changePace (a1 : Int32) (σ : qa_T) : Option ((Int32 ⊕ Nat) × qa_T) :=
    if (qa_bi (qa_fX9_isWithin a1 (Int32.ofInt 0) ((Int8.ofInt 50).toInt32) σ)) = 0 then
      some (.inr 342, σ)
    else
    (qa_fX5_push 1 σ).bind fun c2 =>
    let v4 : Int32 := (c2.1 (1, 14) 4)
    let σ5 := qa_wi c2 (1, 14) 4 a1
    (qa_fX1_beginLoading 1 σ5).bind fun c6 =>
    some (.inl v4, c6)
noncomputable def qa_fX9_append_28 (a1 : Int32) (y0 : Int32) (σ : qa_T) : ((Int32 ⊕ Nat) × qa_T) :=
    if y0 = 0 then
      (.inr 348, σ)
    else
    let σ4 := qa_fX8_add a1 σ
    (.inl (σ4.1 (10, 19) 0), σ4)
noncomputable def qa_fX9_append (a1 : Int32) (σ : qa_T) : ((Int32 ⊕ Nat) × qa_T) :=
    if (qa_bi (qa_fX9_isWithin a1 ((Int8.ofInt 33).toInt32) ((Int8.ofInt 126).toInt32) σ)) = 0 then
      (.inr 342, σ)
    else
    if ((Int8.ofInt 60).toInt32) ≤ (σ.1 (10, 19) 0) then
      qa_fX9_append_28 a1 (Int32.ofInt 0) σ
    else
      qa_fX9_append_28 a1 (Int32.ofInt 1) σ
noncomputable def qa_fX9_clearBuffer  (σ : qa_T) : (Int32 × qa_T) :=
    let v1 : Int32 := (σ.1 (10, 19) 0)
    let σ2 := qa_wi σ (10, 19) 0 (Int32.ofInt 0)
    (v1, σ2)
noncomputable def qa_fX9_firstError  (σ : qa_T) : Option (Int32 × qa_T) :=
    (qa_fX8_readToError σ).bind fun c1 =>
    some (c1.1, c1.2)
noncomputable def qa_fX9_follow_76  (x1 : Int32) (σ : qa_T) : Option ((Int32 ⊕ Nat) × qa_T) :=
    (qa_fX5_push 1 σ).bind fun c8 =>
    (qa_fX1_copyFrom 1 2 c8).bind fun c10 =>
    let σ12 := qa_wi c10 (10, 19) 0 (Int32.ofInt 0)
    some (.inl x1, σ12)
noncomputable def qa_fX9_follow_30  : Nat → Int32 → qa_T → Option ((Int32 ⊕ Nat) × qa_T)
  | 0, _, _ => none
  | n + 1, x1, σ =>
    if ((Int8.ofInt 60).toInt32) ≤ x1 then
      qa_fX9_follow_76  x1 σ
    else
      (qa_fX8_readPart σ).bind fun c13 =>
      if (qa_bi c13.1) = 0 then
        qa_fX9_follow_76  x1 c13.2
      else
        (qa_fX1_obey 2 (c13.2.1 (10, 19) 2) (c13.2.1 (10, 19) 3) c13.2).bind fun c16 =>
        if (qa_bi c16.1) = 0 then
          some (.inr 348, c16.2)
        else
        let v19 : Int32 := x1 + Int32.ofInt 1
        qa_fX9_follow_30  n v19 c16.2
noncomputable def qa_fX9_follow  (σ : qa_T) : Option ((Int32 ⊕ Nat) × qa_T) :=
    (qa_fX8_tellsOrders σ).bind fun c1 =>
    if (qa_bi c1.1) = 0 then
      some (.inr 342, c1.2)
    else
    (qa_fX1_copyFrom 2 1 c1.2).bind fun c4 =>
    let σ6 := qa_fX8_startReading c4
    qa_fX9_follow_30  qa_fu (Int32.ofInt 0) σ6
noncomputable def qa_fX9_keep_60 (a1 : Int32) (σ : qa_T) : Option ((Unit ⊕ Nat) × qa_T) :=
    some (.inl (), σ)
noncomputable def qa_fX9_keep (a1 : Int32) (σ : qa_T) : Option ((Unit ⊕ Nat) × qa_T) :=
    if (qa_bi (qa_fX9_isWithin a1 (Int32.ofInt 0) (Int32.ofInt 1) σ)) = 0 then
      some (.inr 342, σ)
    else
    if a1 < 0 then
      qa_fX9_keep_60 a1 σ
    else
      if Int32.ofNat 2 ≤ a1 then
        qa_fX9_keep_60 a1 σ
      else
        if Int32.ofNat 2 ≤ a1 then
          qa_fX9_keep_60 a1 σ
        else
          (qa_fX1_copyFrom (9 + (a1).toNatClampNeg) 1 σ).bind fun c7 =>
          let σ9 := qa_wi c7 (10, 18) (a1).toNatClampNeg (qa_bi true)
          qa_fX9_keep_60 a1 σ9
noncomputable def qa_fX9_hasSnapshot_26 (a1 : Int32) (σ : qa_T) : Bool :=
    false
noncomputable def qa_fX9_hasSnapshot (a1 : Int32) (σ : qa_T) : Bool :=
    if a1 < 0 then
      qa_fX9_hasSnapshot_26 a1 σ
    else
      if Int32.ofNat 2 ≤ a1 then
        qa_fX9_hasSnapshot_26 a1 σ
      else
        if (σ.1 (10, 18) (a1).toNatClampNeg) = 0 then
          qa_fX9_hasSnapshot_26 a1 σ
        else
          true
noncomputable def qa_fX9_goBack_63 (a1 : Int32) (σ : qa_T) : Option ((Unit ⊕ Nat) × qa_T) :=
    some (.inl (), σ)
noncomputable def qa_fX9_goBack (a1 : Int32) (σ : qa_T) : Option ((Unit ⊕ Nat) × qa_T) :=
    if (qa_bi (qa_fX9_isWithin a1 (Int32.ofInt 0) (Int32.ofInt 1) σ)) = 0 then
      some (.inr 342, σ)
    else
    if (qa_bi (qa_fX9_hasSnapshot a1 σ)) = 0 then
      some (.inr 348, σ)
    else
    (qa_fX5_push 1 σ).bind fun c3 =>
    if a1 < 0 then
      qa_fX9_goBack_63 a1 c3
    else
      if Int32.ofNat 2 ≤ a1 then
        qa_fX9_goBack_63 a1 c3
      else
        (qa_fX1_copyFrom 1 (9 + (a1).toNatClampNeg) c3).bind fun c9 =>
        qa_fX9_goBack_63 a1 c9
noncomputable def qa_fX9_undo_15  (y0 : Int32) (σ : qa_T) : Option ((Unit ⊕ Nat) × qa_T) :=
    if y0 = 0 then
      some (.inr 348, σ)
    else
    (qa_fX5_popInto 1 σ).bind fun c3 =>
    some (.inl (), c3)
noncomputable def qa_fX9_undo  (σ : qa_T) : Option ((Unit ⊕ Nat) × qa_T) :=
    if (σ.1 (2, 18) 1) ≤ 0 then
      qa_fX9_undo_15  (Int32.ofInt 0) σ
    else
      qa_fX9_undo_15  (Int32.ofInt 1) σ
noncomputable def qa_fX9_savedStates  (σ : qa_T) : Int32 :=
    (σ.1 (2, 18) 1)
noncomputable def qa_fX9_slides  (σ : qa_T) : Int32 :=
    (σ.1 (1, 1) 0)
noncomputable def qa_fX9_costOf (a1 : Int32) (σ : qa_T) : ((Int32 ⊕ Nat) × qa_T) :=
    if (qa_bi (qa_fX6_has 1 a1 σ)) = 0 then
      (.inr 345, σ)
    else
    (.inl (qa_fX9_at (1, 2) 16 a1 σ), σ)
noncomputable def qa_fX9_loadOf (a1 : Int32) (σ : qa_T) : ((Int32 ⊕ Nat) × qa_T) :=
    if (qa_bi (qa_fX6_has 1 a1 σ)) = 0 then
      (.inr 345, σ)
    else
    (.inl (qa_fX6_ticksToLoad 1 a1 (Int32.ofInt 0) σ), σ)
noncomputable def qa_fX9_fadeOf (a1 : Int32) (σ : qa_T) : ((Int32 ⊕ Nat) × qa_T) :=
    if (qa_bi (qa_fX6_has 1 a1 σ)) = 0 then
      (.inr 345, σ)
    else
    (.inl (qa_fX9_at (1, 4) 16 a1 σ), σ)
noncomputable def qa_fX9_isLoaded (a1 : Int32) (σ : qa_T) : ((Bool ⊕ Nat) × qa_T) :=
    if (qa_bi (qa_fX6_has 1 a1 σ)) = 0 then
      (.inr 345, σ)
    else
    (.inl (qa_fX6_isReady 1 a1 σ), σ)
noncomputable def qa_fX9_isOnShow (a1 : Int32) (σ : qa_T) : ((Bool ⊕ Nat) × qa_T) :=
    if (qa_bi (qa_fX6_has 1 a1 σ)) = 0 then
      (.inr 345, σ)
    else
    (.inl (qa_fX7_bears 1 a1 σ), σ)
noncomputable def qa_fX9_glowOf (a1 : Int32) (σ : qa_T) : ((Int32 ⊕ Nat) × qa_T) :=
    if (qa_bi (qa_fX6_has 1 a1 σ)) = 0 then
      (.inr 345, σ)
    else
    (.inl (qa_fX9_at (1, 6) 16 a1 σ), σ)
noncomputable def qa_fX9_burntTimes (a1 : Int32) (σ : qa_T) : ((Int32 ⊕ Nat) × qa_T) :=
    if (qa_bi (qa_fX6_has 1 a1 σ)) = 0 then
      (.inr 345, σ)
    else
    (.inl (qa_fX9_at (1, 7) 16 a1 σ), σ)
noncomputable def qa_fX9_nextUse_35 (a1 : Int32) (x2 : Int32) (y0 : Int32) (σ : qa_T) : Option ((Int32 ⊕ Nat) × qa_T) :=
    if y0 = 0 then
      some (.inr 348, σ)
    else
    some (.inl x2, σ)
noncomputable def qa_fX9_nextUse (a1 : Int32) (σ : qa_T) : Option ((Int32 ⊕ Nat) × qa_T) :=
    if (qa_bi (qa_fX6_has 1 a1 σ)) = 0 then
      some (.inr 345, σ)
    else
    (qa_fX3_placesUntil 1 a1 σ).bind fun c2 =>
    if c2 ≤ 0 then
      qa_fX9_nextUse_35 a1 c2 (Int32.ofInt 0) σ
    else
      qa_fX9_nextUse_35 a1 c2 (Int32.ofInt 1) σ
noncomputable def qa_fX9_burnPlace_33 (a1 : Int32) (x2 : Int32) (y0 : Int32) (σ : qa_T) : Option ((Int32 ⊕ Nat) × qa_T) :=
    if y0 = 0 then
      some (.inr 348, σ)
    else
    some (.inl x2, σ)
noncomputable def qa_fX9_burnPlace (a1 : Int32) (σ : qa_T) : Option ((Int32 ⊕ Nat) × qa_T) :=
    if (qa_bi (qa_fX6_has 1 a1 σ)) = 0 then
      some (.inr 345, σ)
    else
    (qa_fX1_placeInLine 1 a1 σ).bind fun c2 =>
    if c2.1 = (Int32.ofInt (-1)) then
      qa_fX9_burnPlace_33 a1 c2.1 (Int32.ofInt 0) c2.2
    else
      qa_fX9_burnPlace_33 a1 c2.1 (Int32.ofInt 1) c2.2
noncomputable def qa_fX9_places  (σ : qa_T) : Int32 :=
    (σ.1 (1, 9) 0)
noncomputable def qa_fX9_slideAt (a1 : Int32) (σ : qa_T) : ((Int32 ⊕ Nat) × qa_T) :=
    if (qa_bi (qa_fX3_has 1 a1 σ)) = 0 then
      (.inr 345, σ)
    else
    (.inl (qa_fX9_at (1, 10) 24 a1 σ), σ)
noncomputable def qa_fX9_showPlace_19  (y0 : Int32) (σ : qa_T) : ((Int32 ⊕ Nat) × qa_T) :=
    if y0 = 0 then
      (.inr 348, σ)
    else
    (.inl (σ.1 (1, 9) 1), σ)
noncomputable def qa_fX9_showPlace  (σ : qa_T) : ((Int32 ⊕ Nat) × qa_T) :=
    if (σ.1 (1, 9) 1) = (Int32.ofInt (-1)) then
      qa_fX9_showPlace_19  (Int32.ofInt 0) σ
    else
      qa_fX9_showPlace_19  (Int32.ofInt 1) σ
noncomputable def qa_fX9_shown_19  (y0 : Int32) (σ : qa_T) : ((Int32 ⊕ Nat) × qa_T) :=
    if y0 = 0 then
      (.inr 348, σ)
    else
    (.inl (σ.1 (1, 11) 0), σ)
noncomputable def qa_fX9_shown  (σ : qa_T) : ((Int32 ⊕ Nat) × qa_T) :=
    if (σ.1 (1, 11) 0) = (Int32.ofInt (-1)) then
      qa_fX9_shown_19  (Int32.ofInt 0) σ
    else
      qa_fX9_shown_19  (Int32.ofInt 1) σ
noncomputable def qa_fX9_fading_19  (y0 : Int32) (σ : qa_T) : ((Int32 ⊕ Nat) × qa_T) :=
    if y0 = 0 then
      (.inr 348, σ)
    else
    (.inl (σ.1 (1, 11) 2), σ)
noncomputable def qa_fX9_fading  (σ : qa_T) : ((Int32 ⊕ Nat) × qa_T) :=
    if (σ.1 (1, 11) 2) = (Int32.ofInt (-1)) then
      qa_fX9_fading_19  (Int32.ofInt 0) σ
    else
      qa_fX9_fading_19  (Int32.ofInt 1) σ
noncomputable def qa_fX9_fadeLeft  (σ : qa_T) : Int32 :=
    (σ.1 (1, 11) 3)
noncomputable def qa_fX9_awaited_19  (y0 : Int32) (σ : qa_T) : ((Int32 ⊕ Nat) × qa_T) :=
    if y0 = 0 then
      (.inr 348, σ)
    else
    (.inl (σ.1 (1, 11) 4), σ)
noncomputable def qa_fX9_awaited  (σ : qa_T) : ((Int32 ⊕ Nat) × qa_T) :=
    if (σ.1 (1, 11) 4) = (Int32.ofInt (-1)) then
      qa_fX9_awaited_19  (Int32.ofInt 0) σ
    else
      qa_fX9_awaited_19  (Int32.ofInt 1) σ
noncomputable def qa_fX9_shownFor_19  (y0 : Int32) (σ : qa_T) : ((Int32 ⊕ Nat) × qa_T) :=
    if y0 = 0 then
      (.inr 348, σ)
    else
    (.inl (σ.1 (1, 11) 1), σ)
noncomputable def qa_fX9_shownFor  (σ : qa_T) : ((Int32 ⊕ Nat) × qa_T) :=
    if (σ.1 (1, 11) 0) = (Int32.ofInt (-1)) then
      qa_fX9_shownFor_19  (Int32.ofInt 0) σ
    else
      qa_fX9_shownFor_19  (Int32.ofInt 1) σ
noncomputable def qa_fX9_loading_19  (y0 : Int32) (σ : qa_T) : ((Int32 ⊕ Nat) × qa_T) :=
    if y0 = 0 then
      (.inr 348, σ)
    else
    (.inl (σ.1 (1, 12) 0), σ)
noncomputable def qa_fX9_loading  (σ : qa_T) : ((Int32 ⊕ Nat) × qa_T) :=
    if (σ.1 (1, 12) 0) = (Int32.ofInt (-1)) then
      qa_fX9_loading_19  (Int32.ofInt 0) σ
    else
      qa_fX9_loading_19  (Int32.ofInt 1) σ
noncomputable def qa_fX9_loadLeft  (σ : qa_T) : Int32 :=
    (σ.1 (1, 12) 1)
noncomputable def qa_fX9_asked  (σ : qa_T) : Int32 :=
    (σ.1 (1, 12) 2)
noncomputable def qa_fX9_askedAt (a1 : Int32) (σ : qa_T) : ((Int32 ⊕ Nat) × qa_T) :=
    if (qa_bi (qa_fX9_isWithin a1 (Int32.ofInt 0) ((σ.1 (1, 12) 2) - (Int32.ofInt 1)) σ)) = 0 then
      (.inr 345, σ)
    else
    (.inl (qa_fX9_at (1, 13) 16 a1 σ), σ)
noncomputable def qa_fX9_takenBySlides  (σ : qa_T) : Option Int32 :=
    (qa_fX1_sumOfCosts 1 σ).bind fun c1 =>
    some c1
noncomputable def qa_fX9_takenByAccount  (σ : qa_T) : Int32 :=
    (σ.1 (1, 12) 4)
noncomputable def qa_fX9_memory  (σ : qa_T) : Int32 :=
    (σ.1 (1, 14) 0)
noncomputable def qa_fX9_ahead  (σ : qa_T) : Int32 :=
    (σ.1 (1, 14) 1)
noncomputable def qa_fX9_order  (σ : qa_T) : Int32 :=
    (σ.1 (1, 14) 2)
noncomputable def qa_fX9_glow  (σ : qa_T) : Int32 :=
    (σ.1 (1, 14) 3)
noncomputable def qa_fX9_pace  (σ : qa_T) : Int32 :=
    (σ.1 (1, 14) 4)
noncomputable def qa_fX9_waitOnTrial_13  : Nat → Int32 → qa_T → Option (Int32 × qa_T)
  | 0, _, _ => none
  | n + 1, x1, σ =>
    if ((Int16.ofInt 1000).toInt32) ≤ x1 then
      some (((Int16.ofInt 1000).toInt32), σ)
    else
      (qa_fX1_passTick 2 σ).bind fun c4 =>
      if c4.1 ≤ 0 then
        let v7 : Int32 := x1 + Int32.ofInt 1
        qa_fX9_waitOnTrial_13  n v7 c4.2
      else
        some (x1, c4.2)
noncomputable def qa_fX9_waitOnTrial  (σ : qa_T) : Option (Int32 × qa_T) :=
    (qa_fX1_copyFrom 2 1 σ).bind fun c1 =>
    qa_fX9_waitOnTrial_13  qa_fu (Int32.ofInt 1) c1
noncomputable def qa_fX9_ticksToShowByTicks_19  (y0 : Int32) (σ : qa_T) : Option ((Int32 ⊕ Nat) × qa_T) :=
    if y0 = 0 then
      some (.inr 348, σ)
    else
    (qa_fX9_waitOnTrial σ).bind fun c3 =>
    some (.inl c3.1, c3.2)
noncomputable def qa_fX9_ticksToShowByTicks  (σ : qa_T) : Option ((Int32 ⊕ Nat) × qa_T) :=
    if (σ.1 (1, 11) 4) = (Int32.ofInt (-1)) then
      qa_fX9_ticksToShowByTicks_19  (Int32.ofInt 0) σ
    else
      qa_fX9_ticksToShowByTicks_19  (Int32.ofInt 1) σ
noncomputable def qa_fX9_ticksToShowBySums_19  (y0 : Int32) (σ : qa_T) : ((Int32 ⊕ Nat) × qa_T) :=
    if y0 = 0 then
      (.inr 348, σ)
    else
    (.inl (qa_fX1_sumOfWait 1 σ), σ)
noncomputable def qa_fX9_ticksToShowBySums  (σ : qa_T) : ((Int32 ⊕ Nat) × qa_T) :=
    if (σ.1 (1, 11) 4) = (Int32.ofInt (-1)) then
      qa_fX9_ticksToShowBySums_19  (Int32.ofInt 0) σ
    else
      qa_fX9_ticksToShowBySums_19  (Int32.ofInt 1) σ
noncomputable def qa_fX9_burningsFor (a1 : Int32) (σ : qa_T) : Option ((Int32 ⊕ Nat) × qa_T) :=
    if (qa_bi (qa_fX6_has 1 a1 σ)) = 0 then
      some (.inr 345, σ)
    else
    (qa_fX1_burningsToLoad 1 a1 σ).bind fun c2 =>
    some (.inl c2.1, c2.2)
noncomputable def qa_fX9_missesOnTrial_113 (a1 : Int32) (k37 : Int32 → Int32 → qa_T → Option (Int32 × qa_T)) : Nat → Int32 → Int32 → Int32 → qa_T → Option (Int32 × qa_T)
  | 0, _, _, _, _ => none
  | n + 1, x2, x3, x4, σ =>
    if ((Int8.ofInt 10).toInt32) ≤ x4 then
      let v13 : Int32 := x3 + Int32.ofInt 1
      k37 x2 v13 σ
    else
      (qa_fX1_passTick 2 σ).bind fun c14 =>
      let v16 : Int32 := x4 + Int32.ofInt 1
      qa_fX9_missesOnTrial_113 a1 k37 n x2 x3 v16 c14.2
noncomputable def qa_fX9_missesOnTrial_110 (a1 : Int32) (k37 : Int32 → Int32 → qa_T → Option (Int32 × qa_T)) (x2 : Int32) (x3 : Int32) (σ : qa_T) : Option (Int32 × qa_T) :=
    qa_fX9_missesOnTrial_113 a1 k37 qa_fu x2 x3 (Int32.ofInt 0) σ
noncomputable def qa_fX9_missesOnTrial_74 (a1 : Int32) (k37 : Int32 → Int32 → qa_T → Option (Int32 × qa_T)) : Nat → Int32 → Int32 → Int32 → qa_T → Option (Int32 × qa_T)
  | 0, _, _, _, _ => none
  | n + 1, x2, x3, x4, σ =>
    if (σ.1 (2, 11) 4) = (Int32.ofInt (-1)) then
      qa_fX9_missesOnTrial_110 a1 k37 x2 x3 σ
    else
      if ((Int16.ofInt 1000).toInt32) ≤ x4 then
        qa_fX9_missesOnTrial_110 a1 k37 x2 x3 σ
      else
        (qa_fX1_passTick 2 σ).bind fun c18 =>
        let v20 : Int32 := x4 + Int32.ofInt 1
        qa_fX9_missesOnTrial_74 a1 k37 n x2 x3 v20 c18.2
noncomputable def qa_fX9_missesOnTrial_64 (a1 : Int32) (k37 : Int32 → Int32 → qa_T → Option (Int32 × qa_T)) (x2 : Int32) (x3 : Int32) (σ : qa_T) : Option (Int32 × qa_T) :=
    (qa_fX1_beginLoading 2 σ).bind fun c9 =>
    qa_fX9_missesOnTrial_74 a1 k37 qa_fu x2 x3 (Int32.ofInt 0) c9
noncomputable def qa_fX9_missesOnTrial_37 (a1 : Int32) : Nat → Int32 → Int32 → qa_T → Option (Int32 × qa_T)
  | 0, _, _, _ => none
  | n + 1, x2, x3, σ =>
    if (σ.1 (1, 9) 0) ≤ x3 then
      some (x2, σ)
    else
      (qa_fX1_proceed 2 σ).bind fun c6 =>
      if ¬ (qa_bi c6.1) = 0 then
        qa_fX9_missesOnTrial_64 a1 (qa_fX9_missesOnTrial_37 a1 n) x2 x3 c6.2
      else
        let v21 : Int32 := x2 + Int32.ofInt 1
        qa_fX9_missesOnTrial_64 a1 (qa_fX9_missesOnTrial_37 a1 n) v21 x3 c6.2
noncomputable def qa_fX9_missesOnTrial (a1 : Int32) (σ : qa_T) : Option (Int32 × qa_T) :=
    (qa_fX1_copyFrom 2 1 σ).bind fun c1 =>
    let σ3 := qa_wi c1 (2, 14) 2 a1
    let σ4 := qa_wi σ3 (2, 14) 4 (Int32.ofInt 0)
    qa_fX9_missesOnTrial_37 a1 qa_fu (Int32.ofInt 0) (Int32.ofInt 0) σ4
noncomputable def qa_fX9_missesWith (a1 : Int32) (σ : qa_T) : Option ((Int32 ⊕ Nat) × qa_T) :=
    if (qa_bi (qa_fX9_isWithin a1 (Int32.ofInt 0) (Int32.ofInt 2) σ)) = 0 then
      some (.inr 342, σ)
    else
    if (qa_bi (qa_fX1_mayGoOn 1 σ)) = 0 then
      some (.inr 348, σ)
    else
    (qa_fX9_missesOnTrial a1 σ).bind fun c3 =>
    some (.inl c3.1, c3.2)
noncomputable def qa_fX9_bestOrder_43  (k20 : Int32 → Int32 → Int32 → qa_T → Option ((Int32 ⊕ Nat) × qa_T)) (x1 : Int32) (x2 : Int32) (x3 : Int32) (σ : qa_T) : Option ((Int32 ⊕ Nat) × qa_T) :=
    let v8 : Int32 := x3 + Int32.ofInt 1
    k20 x1 x2 v8 σ
noncomputable def qa_fX9_bestOrder_20  : Nat → Int32 → Int32 → Int32 → qa_T → Option ((Int32 ⊕ Nat) × qa_T)
  | 0, _, _, _, _ => none
  | n + 1, x1, x2, x3, σ =>
    if (Int32.ofInt 3) ≤ x3 then
      some (.inl x1, σ)
    else
      (qa_fX9_missesOnTrial x3 σ).bind fun c5 =>
      if x2 ≤ c5.1 then
        qa_fX9_bestOrder_43  (qa_fX9_bestOrder_20  n) x1 x2 x3 c5.2
      else
        qa_fX9_bestOrder_43  (qa_fX9_bestOrder_20  n) x3 c5.1 x3 c5.2
noncomputable def qa_fX9_bestOrder  (σ : qa_T) : Option ((Int32 ⊕ Nat) × qa_T) :=
    if (qa_bi (qa_fX1_mayGoOn 1 σ)) = 0 then
      some (.inr 348, σ)
    else
    (qa_fX9_missesOnTrial (Int32.ofInt 0) σ).bind fun c2 =>
    qa_fX9_bestOrder_20  qa_fu (Int32.ofInt 0) c2.1 (Int32.ofInt 1) c2.2
noncomputable def qa_fX9_time  (σ : qa_T) : Int32 :=
    (σ.1 (1, 15) 0)
noncomputable def qa_fX9_hits  (σ : qa_T) : Int32 :=
    (σ.1 (1, 15) 1)
noncomputable def qa_fX9_misses  (σ : qa_T) : Int32 :=
    (σ.1 (1, 15) 2)
noncomputable def qa_fX9_loads  (σ : qa_T) : Int32 :=
    (σ.1 (1, 15) 3)
noncomputable def qa_fX9_warmLoads  (σ : qa_T) : Int32 :=
    (σ.1 (1, 15) 4)
noncomputable def qa_fX9_burnings  (σ : qa_T) : Int32 :=
    (σ.1 (1, 15) 5)
noncomputable def qa_fX9_waited  (σ : qa_T) : Int32 :=
    (σ.1 (1, 15) 6)
noncomputable def qa_fX9_hitShare  (σ : qa_T) : Option UInt64 :=
    (qa_fX0_shareOfHits 1 σ).bind fun c1 =>
    some c1
noncomputable def qa_fX9_mix (a1 : Int64) (a2 : Int64) (σ : qa_T) : Int64 :=
    (((31 : Int64) * a1) + a2)
noncomputable def qa_fX9_mixSlide_110 (a1 : Int64) (a2 : Int32) (y0 : Int64) (y1 : Int64) (σ : qa_T) : Option (Int64 × qa_T) :=
    let v7 : Int64 := (qa_fX9_mix y1 y0 σ)
    let v8 : Int64 := (qa_fX9_mix v7 (((qa_fX9_at (1, 6) 16 a2 σ)).toInt64) σ)
    let v9 : Int64 := (qa_fX9_mix v8 (((qa_fX9_at (1, 7) 16 a2 σ)).toInt64) σ)
    (qa_fX3_placesUntil 1 a2 σ).bind fun c10 =>
    let v12 : Int64 := (qa_fX9_mix v9 ((c10).toInt64) σ)
    (qa_fX1_placeInLine 1 a2 σ).bind fun c13 =>
    let v15 : Int64 := (qa_fX9_mix v12 (((c13.1 + (Int32.ofInt 1))).toInt64) c13.2)
    (qa_fX1_burningsToLoad 1 a2 c13.2).bind fun c16 =>
    some ((qa_fX9_mix v15 ((c16.1).toInt64) c16.2), c16.2)
noncomputable def qa_fX9_mixSlide_84 (a1 : Int64) (a2 : Int32) (y0 : Int64) (y1 : Int64) (σ : qa_T) : Option (Int64 × qa_T) :=
    let v5 : Int64 := (qa_fX9_mix y1 y0 σ)
    if (qa_bi (qa_fX7_bears 1 a2 σ)) = 0 then
      qa_fX9_mixSlide_110 a1 a2 (Int64.ofNat ((0 : Fin 2) : Nat)) v5 σ
    else
      qa_fX9_mixSlide_110 a1 a2 (Int64.ofNat ((1 : Fin 2) : Nat)) v5 σ
noncomputable def qa_fX9_mixSlide (a1 : Int64) (a2 : Int32) (σ : qa_T) : Option (Int64 × qa_T) :=
    let v1 : Int64 := (qa_fX9_mix a1 (((qa_fX9_at (1, 2) 16 a2 σ)).toInt64) σ)
    let v2 : Int64 := (qa_fX9_mix v1 (((qa_fX6_ticksToLoad 1 a2 (Int32.ofInt 0) σ)).toInt64) σ)
    let v3 : Int64 := (qa_fX9_mix v2 (((qa_fX9_at (1, 4) 16 a2 σ)).toInt64) σ)
    if (qa_bi (qa_fX6_isReady 1 a2 σ)) = 0 then
      qa_fX9_mixSlide_84 a1 a2 (Int64.ofNat ((0 : Fin 2) : Nat)) v3 σ
    else
      qa_fX9_mixSlide_84 a1 a2 (Int64.ofNat ((1 : Fin 2) : Nat)) v3 σ
noncomputable def qa_fX9_mixProgramme_19 (a1 : Int64) : Nat → Int64 → Int32 → qa_T → Option Int64
  | 0, _, _, _ => none
  | n + 1, x3, x5, σ =>
    if (σ.1 (1, 9) 0) ≤ x5 then
      let v3 : Int64 := (qa_fX9_mix x3 ((((σ.1 (1, 9) 1) + (Int32.ofInt 1))).toInt64) σ)
      let v4 : Int64 := (qa_fX9_mix v3 ((((σ.1 (1, 11) 0) + (Int32.ofInt 1))).toInt64) σ)
      let v5 : Int64 := (qa_fX9_mix v4 ((((σ.1 (1, 11) 2) + (Int32.ofInt 1))).toInt64) σ)
      let v6 : Int64 := (qa_fX9_mix v5 (((σ.1 (1, 11) 3)).toInt64) σ)
      let v7 : Int64 := (qa_fX9_mix v6 ((((σ.1 (1, 11) 4) + (Int32.ofInt 1))).toInt64) σ)
      some (qa_fX9_mix v7 (((σ.1 (1, 11) 1)).toInt64) σ)
    else
      let v8 : Int64 := (qa_fX9_mix x3 (((qa_fX9_at (1, 10) 24 x5 σ)).toInt64) σ)
      let v9 : Int32 := x5 + Int32.ofInt 1
      qa_fX9_mixProgramme_19 a1 n v8 v9 σ
noncomputable def qa_fX9_mixProgramme (a1 : Int64) (σ : qa_T) : Option Int64 :=
    let v1 : Int64 := (qa_fX9_mix a1 (((σ.1 (1, 9) 0)).toInt64) σ)
    qa_fX9_mixProgramme_19 a1 qa_fu v1 (Int32.ofInt 0) σ
noncomputable def qa_fX9_mixLoading_53 (a1 : Int64) : Nat → Int64 → Int32 → qa_T → Option Int64
  | 0, _, _, _ => none
  | n + 1, x3, x5, σ =>
    if (σ.1 (1, 12) 2) ≤ x5 then
      (qa_fX1_sumOfCosts 1 σ).bind fun c5 =>
      let v7 : Int64 := (qa_fX9_mix x3 ((c5).toInt64) σ)
      let v8 : Int64 := (qa_fX9_mix v7 (((σ.1 (1, 12) 4)).toInt64) σ)
      let v9 : Int64 := (qa_fX9_mix v8 (((σ.1 (1, 14) 0)).toInt64) σ)
      let v10 : Int64 := (qa_fX9_mix v9 (((σ.1 (1, 14) 1)).toInt64) σ)
      let v11 : Int64 := (qa_fX9_mix v10 (((σ.1 (1, 14) 2)).toInt64) σ)
      let v12 : Int64 := (qa_fX9_mix v11 (((σ.1 (1, 14) 3)).toInt64) σ)
      some (qa_fX9_mix v12 (((σ.1 (1, 14) 4)).toInt64) σ)
    else
      let v13 : Int64 := (qa_fX9_mix x3 (((qa_fX9_at (1, 13) 16 x5 σ)).toInt64) σ)
      let v14 : Int32 := x5 + Int32.ofInt 1
      qa_fX9_mixLoading_53 a1 n v13 v14 σ
noncomputable def qa_fX9_mixLoading (a1 : Int64) (σ : qa_T) : Option Int64 :=
    let v1 : Int64 := (qa_fX9_mix a1 ((((σ.1 (1, 12) 0) + (Int32.ofInt 1))).toInt64) σ)
    let v2 : Int64 := (qa_fX9_mix v1 (((σ.1 (1, 12) 1)).toInt64) σ)
    let v3 : Int64 := (qa_fX9_mix v2 (((σ.1 (1, 12) 2)).toInt64) σ)
    qa_fX9_mixLoading_53 a1 qa_fu v3 (Int32.ofInt 0) σ
noncomputable def qa_fX9_bitsOfShare_39 (a1 : UInt64) (x2 : UInt64) (x4 : Int32) (σ : qa_T) : Option Int64 :=
    if ¬ qa_nn (FP.dsub x2 FP.dconst1) then none else
    if ¬ qa_nn (FP.dmul (FP.dsub x2 FP.dconst1) (4841369599423283200 : UInt64)) then none else
    let v5 : Int64 := (FP.d2l (FP.dmul (FP.dsub x2 FP.dconst1) (4841369599423283200 : UInt64)))
    some ((((x4).toInt64) <<< ((((Int8.ofInt 52).toInt32)).toInt64 &&& 63)) + v5)
noncomputable def qa_fX9_bitsOfShare_15 (a1 : UInt64) : Nat → UInt64 → Int32 → qa_T → Option Int64
  | 0, _, _, _ => none
  | n + 1, x2, x4, σ =>
    if 0 ≤ (Op.cmpValue (FP.dcmp x2 FP.dconst1) .g) then
      qa_fX9_bitsOfShare_39 a1 x2 x4 σ
    else
      if x4 ≤ (Int32.ofInt 1) then
        qa_fX9_bitsOfShare_39 a1 x2 x4 σ
      else
        if ¬ qa_nn (FP.dmul x2 (4611686018427387904 : UInt64)) then none else
        let v8 : UInt64 := (FP.dmul x2 (4611686018427387904 : UInt64))
        let v9 : Int32 := x4 + Int32.ofInt (-1)
        qa_fX9_bitsOfShare_15 a1 n v8 v9 σ
noncomputable def qa_fX9_bitsOfShare (a1 : UInt64) (σ : qa_T) : Option Int64 :=
    if 0 < (Op.cmpValue (FP.dcmp a1 FP.dconst0) .l) then
      qa_fX9_bitsOfShare_15 a1 qa_fu a1 ((Int16.ofInt 1023).toInt32) σ
    else
      some (Int64.ofNat ((0 : Fin 2) : Nat))
noncomputable def qa_fX9_mixAccounts (a1 : Int64) (σ : qa_T) : Option Int64 :=
    let v1 : Int64 := (qa_fX9_mix a1 (((σ.1 (1, 15) 0)).toInt64) σ)
    let v2 : Int64 := (qa_fX9_mix v1 (((σ.1 (1, 15) 1)).toInt64) σ)
    let v3 : Int64 := (qa_fX9_mix v2 (((σ.1 (1, 15) 2)).toInt64) σ)
    let v4 : Int64 := (qa_fX9_mix v3 (((σ.1 (1, 15) 3)).toInt64) σ)
    let v5 : Int64 := (qa_fX9_mix v4 (((σ.1 (1, 15) 4)).toInt64) σ)
    let v6 : Int64 := (qa_fX9_mix v5 (((σ.1 (1, 15) 5)).toInt64) σ)
    let v7 : Int64 := (qa_fX9_mix v6 (((σ.1 (1, 15) 6)).toInt64) σ)
    let v8 : Int64 := (qa_fX9_mix v7 (((σ.1 (2, 18) 1)).toInt64) σ)
    (qa_fX0_shareOfHits 1 σ).bind fun c9 =>
    (qa_fX9_bitsOfShare c9 σ).bind fun c11 =>
    some (qa_fX9_mix v8 c11 σ)
noncomputable def qa_fX9_digest_174  : Nat → Int64 → Int32 → qa_T → Option (Int64 × qa_T)
  | 0, _, _, _ => none
  | n + 1, x1, x4, σ =>
    if (σ.1 (10, 19) 0) ≤ x4 then
      some (x1, σ)
    else
      let v17 : Int64 := (qa_fX9_mix x1 (((qa_fX9_at (10, 20) 60 x4 σ)).toInt64) σ)
      let v18 : Int32 := x4 + Int32.ofInt 1
      qa_fX9_digest_174  n v17 v18 σ
noncomputable def qa_fX9_digest_148  (k127 : Int64 → Int32 → qa_T → Option (Int64 × qa_T)) (x4 : Int32) (y0 : Int64) (y1 : Int64) (σ : qa_T) : Option (Int64 × qa_T) :=
    let v20 : Int64 := (qa_fX9_mix y1 y0 σ)
    let v21 : Int32 := x4 + Int32.ofInt 1
    k127 v20 v21 σ
noncomputable def qa_fX9_digest_127  : Nat → Int64 → Int32 → qa_T → Option (Int64 × qa_T)
  | 0, _, _, _ => none
  | n + 1, x1, x4, σ =>
    if (Int32.ofInt 2) ≤ x4 then
      let v15 : Int64 := (qa_fX9_mix x1 (((σ.1 (10, 19) 0)).toInt64) σ)
      qa_fX9_digest_174  qa_fu v15 (Int32.ofInt 0) σ
    else
      if (qa_bi (qa_fX9_hasSnapshot x4 σ)) = 0 then
        qa_fX9_digest_148  (qa_fX9_digest_127  n) x4 (Int64.ofNat ((0 : Fin 2) : Nat)) x1 σ
      else
        qa_fX9_digest_148  (qa_fX9_digest_127  n) x4 (Int64.ofNat ((1 : Fin 2) : Nat)) x1 σ
noncomputable def qa_fX9_digest_114  (y0 : Int64) (y1 : Int64) (σ : qa_T) : Option (Int64 × qa_T) :=
    let v11 : Int64 := (qa_fX9_mix y1 y0 σ)
    (qa_fX9_mixAccounts v11 σ).bind fun c12 =>
    qa_fX9_digest_127  qa_fu c12 (Int32.ofInt 0) σ
noncomputable def qa_fX9_digest_93  (x3 : Int32) (y0 : Int64) (y1 : Int64) (σ : qa_T) : Option (Int64 × qa_T) :=
    let v9 : Int64 := (qa_fX9_mix y1 y0 σ)
    if x3 = 0 then
      qa_fX9_digest_114  (Int64.ofNat ((0 : Fin 2) : Nat)) v9 σ
    else
      qa_fX9_digest_114  (((qa_fX1_sumOfWait 1 σ)).toInt64) v9 σ
noncomputable def qa_fX9_digest_78  (x1 : Int64) (y0 : Int32) (σ : qa_T) : Option (Int64 × qa_T) :=
    if y0 = 0 then
      qa_fX9_digest_93  y0 (Int64.ofNat ((0 : Fin 2) : Nat)) x1 σ
    else
      (qa_fX9_waitOnTrial σ).bind fun c22 =>
      qa_fX9_digest_93  y0 ((c22.1).toInt64) x1 c22.2
noncomputable def qa_fX9_digest_20  : Nat → Int64 → Int32 → qa_T → Option (Int64 × qa_T)
  | 0, _, _, _ => none
  | n + 1, x1, x3, σ =>
    if (σ.1 (1, 1) 0) ≤ x3 then
      (qa_fX9_mixProgramme x1 σ).bind fun c3 =>
      (qa_fX9_mixLoading c3 σ).bind fun c5 =>
      if (σ.1 (1, 11) 4) = (Int32.ofInt (-1)) then
        qa_fX9_digest_78  c5 (Int32.ofInt 0) σ
      else
        qa_fX9_digest_78  c5 (Int32.ofInt 1) σ
    else
      (qa_fX9_mixSlide x1 x3 σ).bind fun c24 =>
      let v26 : Int32 := x3 + Int32.ofInt 1
      qa_fX9_digest_20  n c24.1 v26 c24.2
noncomputable def qa_fX9_digest  (σ : qa_T) : Option (Int64 × qa_T) :=
    let v1 : Int64 := (qa_fX9_mix (4447 : Int64) (((σ.1 (1, 1) 0)).toInt64) σ)
    qa_fX9_digest_20  qa_fu v1 (Int32.ofInt 0) σ
noncomputable def qa_fX10_thrown  (σ : qa_T) : Int32 :=
    (σ.1 (10, 21) 9)
noncomputable def qa_fX10_throwing (a1 : Int32) (σ : qa_T) : (Int32 × qa_T) :=
    let σ1 := qa_wi σ (10, 21) 9 a1
    ((Int32.ofInt 0), σ1)
noncomputable def qa_fX10_in_14 (a1 : Int32) (a2 : Int32) (a3 : Int32) (σ : qa_T) : Bool :=
    false
noncomputable def qa_fX10_in (a1 : Int32) (a2 : Int32) (a3 : Int32) (σ : qa_T) : Bool :=
    if a1 < a2 then
      qa_fX10_in_14 a1 a2 a3 σ
    else
      if a3 < a1 then
        qa_fX10_in_14 a1 a2 a3 σ
      else
        true
noncomputable def qa_fX10_save_52  : Nat → Int32 → qa_T → Option qa_T
  | 0, _, _ => none
  | n + 1, x1, σ =>
    if ((Int16.ofInt 176).toInt32) ≤ x1 then
      let σ3 := qa_wi σ (10, 21) 2 ((σ.1 (10, 21) 2) + (Int32.ofInt 1))
      some σ3
    else
      if ¬ qa_in x1 176 = true then none else
      if ¬ qa_in ((((Int16.ofInt 176).toInt32) * (σ.1 (10, 21) 2)) + x1) 1056 = true then none else
      let σ6 := qa_wi σ (10, 23) (((((Int16.ofInt 176).toInt32) * (σ.1 (10, 21) 2)) + x1)).toNatClampNeg (σ.1 (10, 22) (x1).toNatClampNeg)
      let v7 : Int32 := x1 + Int32.ofInt 1
      qa_fX10_save_52  n v7 σ6
noncomputable def qa_fX10_save_50  (σ : qa_T) : Option qa_T :=
    qa_fX10_save_52  qa_fu (Int32.ofInt 0) σ
noncomputable def qa_fX10_save_11  : Nat → Int32 → qa_T → Option qa_T
  | 0, _, _ => none
  | n + 1, x1, σ =>
    if ((Int16.ofInt 880).toInt32) ≤ x1 then
      let σ9 := qa_wi σ (10, 21) 2 ((σ.1 (10, 21) 2) - (Int32.ofInt 1))
      qa_fX10_save_50  σ9
    else
      if ¬ qa_in (((Int16.ofInt 176).toInt32) + x1) 1056 = true then none else
      if ¬ qa_in x1 1056 = true then none else
      let σ12 := qa_wi σ (10, 23) (x1).toNatClampNeg (σ.1 (10, 23) ((((Int16.ofInt 176).toInt32) + x1)).toNatClampNeg)
      let v13 : Int32 := x1 + Int32.ofInt 1
      qa_fX10_save_11  n v13 σ12
noncomputable def qa_fX10_save  (σ : qa_T) : Option qa_T :=
    if ¬ (σ.1 (10, 21) 2) = ((Int8.ofInt 6).toInt32) then
      qa_fX10_save_50  σ
    else
      qa_fX10_save_11  qa_fu (Int32.ofInt 0) σ
noncomputable def qa_fX10_of (a1 : Int32) (a2 : Int32) (σ : qa_T) : Option Int32 :=
    if ¬ qa_in (((Int32.ofInt 1) + (((Int8.ofInt 7).toInt32) * a1)) + a2) 176 = true then none else
    some (σ.1 (10, 22) ((((Int32.ofInt 1) + (((Int8.ofInt 7).toInt32) * a1)) + a2)).toNatClampNeg)
noncomputable def qa_fX10_lay (a1 : Int32) (a2 : Int32) (a3 : Int32) (σ : qa_T) : Option qa_T :=
    if ¬ qa_in (((Int32.ofInt 1) + (((Int8.ofInt 7).toInt32) * a1)) + a2) 176 = true then none else
    let σ2 := qa_wi σ (10, 22) ((((Int32.ofInt 1) + (((Int8.ofInt 7).toInt32) * a1)) + a2)).toNatClampNeg a3
    some σ2
noncomputable def qa_fX10_isThere_22 (a1 : Int32) (y0 : Int32) (σ : qa_T) : (Bool × qa_T) :=
    let σ2 := qa_wi σ (10, 21) 9 y0
    if ¬ (σ2.1 (10, 21) 9) = 0 then
      (false, σ2)
    else
      (true, σ2)
noncomputable def qa_fX10_isThere (a1 : Int32) (σ : qa_T) : (Bool × qa_T) :=
    if (qa_bi (qa_fX10_in a1 (Int32.ofInt 0) ((σ.1 (10, 22) ((Int32.ofInt 0)).toNatClampNeg) - (Int32.ofInt 1)) σ)) = 0 then
      qa_fX10_isThere_22 a1 (Int32.ofInt 1) σ
    else
      qa_fX10_isThere_22 a1 (Int32.ofInt 0) σ
noncomputable def qa_fX10_loaded (a1 : Int32) (σ : qa_T) : Option Bool :=
    (qa_fX10_of a1 (Int32.ofInt 3) σ).bind fun c1 =>
    if ¬ c1 = (Int32.ofInt 1) then
      some false
    else
      some true
noncomputable def qa_fX10_onShow_24 (a1 : Int32) (σ : qa_T) : Bool :=
    true
noncomputable def qa_fX10_onShow (a1 : Int32) (σ : qa_T) : Bool :=
    if a1 = (σ.1 (10, 22) (((Int16.ofInt 139).toInt32)).toNatClampNeg) then
      qa_fX10_onShow_24 a1 σ
    else
      if ¬ a1 = (σ.1 (10, 22) (((Int16.ofInt 140).toInt32)).toNatClampNeg) then
        false
      else
        qa_fX10_onShow_24 a1 σ
noncomputable def qa_fX10_taken_45  (k4 : Int32 → Int32 → qa_T → Option Int32) (x2 : Int32) (y0 : Int32) (y1 : Int32) (σ : qa_T) : Option Int32 :=
    let v7 : Int32 := (y1 + y0)
    let v8 : Int32 := x2 + Int32.ofInt 1
    k4 v7 v8 σ
noncomputable def qa_fX10_taken_35  (k4 : Int32 → Int32 → qa_T → Option Int32) (x2 : Int32) (y0 : Int32) (σ : qa_T) : Option Int32 :=
    (qa_fX10_of x2 (Int32.ofInt 0) σ).bind fun c5 =>
    qa_fX10_taken_45  k4 x2 c5 y0 σ
noncomputable def qa_fX10_taken_4  : Nat → Int32 → Int32 → qa_T → Option Int32
  | 0, _, _, _ => none
  | n + 1, x1, x2, σ =>
    if (σ.1 (10, 22) ((Int32.ofInt 0)).toNatClampNeg) ≤ x2 then
      some x1
    else
      (qa_fX10_loaded x2 σ).bind fun c2 =>
      if ¬ (qa_bi c2) = 0 then
        qa_fX10_taken_35  (qa_fX10_taken_4  n) x2 x1 σ
      else
        if ¬ (σ.1 (10, 22) (((Int16.ofInt 144).toInt32)).toNatClampNeg) = x2 then
          qa_fX10_taken_45  (qa_fX10_taken_4  n) x2 (Int32.ofInt 0) x1 σ
        else
          qa_fX10_taken_35  (qa_fX10_taken_4  n) x2 x1 σ
noncomputable def qa_fX10_taken  (σ : qa_T) : Option Int32 :=
    qa_fX10_taken_4  qa_fu (Int32.ofInt 0) (Int32.ofInt 0) σ
noncomputable def qa_fX10_nextOf_2 (a1 : Int32) : Nat → Int32 → qa_T → Option Int32
  | 0, _, _ => none
  | n + 1, x2, σ =>
    if (σ.1 (10, 22) (((Int8.ofInt 113).toInt32)).toNatClampNeg) < x2 then
      some ((Int8.ofInt 25).toInt32)
    else
      if (σ.1 (10, 22) (((Int8.ofInt 113).toInt32)).toNatClampNeg) = 0 then none else
      if ¬ qa_in (((Int8.ofInt 114).toInt32) + (((σ.1 (10, 22) (((Int16.ofInt 138).toInt32)).toNatClampNeg) + x2) - ((σ.1 (10, 22) (((Int16.ofInt 138).toInt32)).toNatClampNeg) + x2) / (σ.1 (10, 22) (((Int8.ofInt 113).toInt32)).toNatClampNeg) * (σ.1 (10, 22) (((Int8.ofInt 113).toInt32)).toNatClampNeg))) 176 = true then none else
      if ¬ (σ.1 (10, 22) ((((Int8.ofInt 114).toInt32) + (((σ.1 (10, 22) (((Int16.ofInt 138).toInt32)).toNatClampNeg) + x2) - ((σ.1 (10, 22) (((Int16.ofInt 138).toInt32)).toNatClampNeg) + x2) / (σ.1 (10, 22) (((Int8.ofInt 113).toInt32)).toNatClampNeg) * (σ.1 (10, 22) (((Int8.ofInt 113).toInt32)).toNatClampNeg)))).toNatClampNeg) = a1 then
        let v5 : Int32 := x2 + Int32.ofInt 1
        qa_fX10_nextOf_2 a1 n v5 σ
      else
        some x2
noncomputable def qa_fX10_nextOf (a1 : Int32) (σ : qa_T) : Option Int32 :=
    qa_fX10_nextOf_2 a1 qa_fu (Int32.ofInt 1) σ
noncomputable def qa_fX10_isFirst_82 (a1 : Int32) (a2 : Int32) (σ : qa_T) : Option Bool :=
    some true
noncomputable def qa_fX10_isFirst_86 (a1 : Int32) (a2 : Int32) (σ : qa_T) : Option Bool :=
    some false
noncomputable def qa_fX10_isFirst_68 (a1 : Int32) (a2 : Int32) (y0 : Int32) (σ : qa_T) : Option Bool :=
    if 0 < y0 then
      qa_fX10_isFirst_82 a1 a2 σ
    else
      if ¬ y0 = 0 then
        qa_fX10_isFirst_86 a1 a2 σ
      else
        if a2 ≤ a1 then
          qa_fX10_isFirst_86 a1 a2 σ
        else
          qa_fX10_isFirst_82 a1 a2 σ
noncomputable def qa_fX10_isFirst (a1 : Int32) (a2 : Int32) (σ : qa_T) : Option Bool :=
    if ¬ (σ.1 (10, 22) (((Int16.ofInt 165).toInt32)).toNatClampNeg) = 0 then
      if ¬ (σ.1 (10, 22) (((Int16.ofInt 165).toInt32)).toNatClampNeg) = (Int32.ofInt 1) then
        (qa_fX10_nextOf a1 σ).bind fun c3 =>
        (qa_fX10_nextOf a2 σ).bind fun c5 =>
        qa_fX10_isFirst_68 a1 a2 (c3 - c5) σ
      else
        (qa_fX10_of a1 (Int32.ofInt 0) σ).bind fun c10 =>
        (qa_fX10_of a2 (Int32.ofInt 0) σ).bind fun c12 =>
        qa_fX10_isFirst_68 a1 a2 (c10 - c12) σ
    else
      (qa_fX10_of a2 ((Int8.ofInt 6).toInt32) σ).bind fun c14 =>
      (qa_fX10_of a1 ((Int8.ofInt 6).toInt32) σ).bind fun c16 =>
      qa_fX10_isFirst_68 a1 a2 (c14 - c16) σ
noncomputable def qa_fX10_canBurn_20 (a1 : Int32) (σ : qa_T) : Option Bool :=
    some false
noncomputable def qa_fX10_canBurn (a1 : Int32) (σ : qa_T) : Option Bool :=
    (qa_fX10_loaded a1 σ).bind fun c1 =>
    if (qa_bi c1) = 0 then
      qa_fX10_canBurn_20 a1 σ
    else
      if ¬ (qa_bi (qa_fX10_onShow a1 σ)) = 0 then
        qa_fX10_canBurn_20 a1 σ
      else
        some true
noncomputable def qa_fX10_nextToBurn_41  (k4 : Int32 → Int32 → qa_T → Option Int32) (x2 : Int32) (y0 : Int32) (σ : qa_T) : Option Int32 :=
    let v5 : Int32 := x2 + Int32.ofInt 1
    k4 y0 v5 σ
noncomputable def qa_fX10_nextToBurn_40  (k4 : Int32 → Int32 → qa_T → Option Int32) (x1 : Int32) (x2 : Int32) (σ : qa_T) : Option Int32 :=
    qa_fX10_nextToBurn_41  k4 x2 x1 σ
noncomputable def qa_fX10_nextToBurn_36  (k4 : Int32 → Int32 → qa_T → Option Int32) (x2 : Int32) (σ : qa_T) : Option Int32 :=
    qa_fX10_nextToBurn_41  k4 x2 x2 σ
noncomputable def qa_fX10_nextToBurn_4  : Nat → Int32 → Int32 → qa_T → Option Int32
  | 0, _, _, _ => none
  | n + 1, x1, x2, σ =>
    if (σ.1 (10, 22) ((Int32.ofInt 0)).toNatClampNeg) ≤ x2 then
      some x1
    else
      (qa_fX10_canBurn x2 σ).bind fun c2 =>
      if (qa_bi c2) = 0 then
        qa_fX10_nextToBurn_40  (qa_fX10_nextToBurn_4  n) x1 x2 σ
      else
        if x1 = (Int32.ofInt (-1)) then
          qa_fX10_nextToBurn_36  (qa_fX10_nextToBurn_4  n) x2 σ
        else
          (qa_fX10_isFirst x2 x1 σ).bind fun c7 =>
          if (qa_bi c7) = 0 then
            qa_fX10_nextToBurn_40  (qa_fX10_nextToBurn_4  n) x1 x2 σ
          else
            qa_fX10_nextToBurn_36  (qa_fX10_nextToBurn_4  n) x2 σ
noncomputable def qa_fX10_nextToBurn  (σ : qa_T) : Option Int32 :=
    qa_fX10_nextToBurn_4  qa_fu (Int32.ofInt (-1)) (Int32.ofInt 0) σ
noncomputable def qa_fX10_burns (a1 : Int32) (σ : qa_T) : Option (Int32 × qa_T) :=
    (qa_fX10_lay a1 (Int32.ofInt 3) (Int32.ofInt 0) σ).bind fun c1 =>
    (qa_fX10_lay a1 (Int32.ofInt 4) (c1.1 (10, 22) (((Int16.ofInt 166).toInt32)).toNatClampNeg) c1).bind fun c3 =>
    (qa_fX10_of a1 (Int32.ofInt 5) c3).bind fun c5 =>
    (qa_fX10_lay a1 (Int32.ofInt 5) (c5 + (Int32.ofInt 1)) c3).bind fun c7 =>
    let σ9 := qa_wi c7 (10, 22) (((Int16.ofInt 173).toInt32)).toNatClampNeg ((c7.1 (10, 22) (((Int16.ofInt 173).toInt32)).toNatClampNeg) + (Int32.ofInt 1))
    (qa_fX10_of a1 (Int32.ofInt 0) σ9).bind fun c10 =>
    some (c10, σ9)
noncomputable def qa_fX10_makesRoom_42 (a1 : Int32) (x2 : Int32) (σ : qa_T) : Option (Int32 × qa_T) :=
    some (x2, σ)
noncomputable def qa_fX10_makesRoom_2 (a1 : Int32) : Nat → Int32 → qa_T → Option (Int32 × qa_T)
  | 0, _, _ => none
  | n + 1, x2, σ =>
    (qa_fX10_taken σ).bind fun c1 =>
    if (c1 + a1) ≤ (σ.1 (10, 22) (((Int16.ofInt 163).toInt32)).toNatClampNeg) then
      qa_fX10_makesRoom_42 a1 x2 σ
    else
      (qa_fX10_nextToBurn σ).bind fun c4 =>
      if c4 = (Int32.ofInt (-1)) then
        qa_fX10_makesRoom_42 a1 x2 σ
      else
        (qa_fX10_nextToBurn σ).bind fun c7 =>
        (qa_fX10_burns c7 σ).bind fun c9 =>
        let v11 : Int32 := x2 + Int32.ofInt 1
        qa_fX10_makesRoom_2 a1 n v11 c9.2
noncomputable def qa_fX10_makesRoom (a1 : Int32) (σ : qa_T) : Option (Int32 × qa_T) :=
    qa_fX10_makesRoom_2 a1 qa_fu (Int32.ofInt 0) σ
noncomputable def qa_fX10_due_28 (a1 : Int32) (y0 : Int32) (σ : qa_T) : Option Int32 :=
    some y0
noncomputable def qa_fX10_due (a1 : Int32) (σ : qa_T) : Option Int32 :=
    (qa_fX10_of a1 (Int32.ofInt 4) σ).bind fun c1 =>
    if c1 ≤ 0 then
      (qa_fX10_of a1 (Int32.ofInt 1) σ).bind fun c4 =>
      qa_fX10_due_28 a1 c4 σ
    else
      (qa_fX10_of a1 (Int32.ofInt 1) σ).bind fun c6 =>
      qa_fX10_due_28 a1 ((c6 + (Int32.ofInt 1)) / (Int32.ofInt 2)) σ
noncomputable def qa_fX10_starts_68 (a1 : Int32) (y0 : Int32) (y1 : Int32) (y2 : Int32) (σ : qa_T) : Option qa_T :=
    if ¬ qa_in y2 176 = true then none else
    let σ14 := qa_wi σ (10, 22) (y2).toNatClampNeg (y1 + y0)
    (qa_fX10_lay a1 (Int32.ofInt 4) (Int32.ofInt 0) σ14).bind fun c15 =>
    some c15
noncomputable def qa_fX10_starts (a1 : Int32) (σ : qa_T) : Option qa_T :=
    (qa_fX10_of a1 (Int32.ofInt 0) σ).bind fun c1 =>
    (qa_fX10_makesRoom c1 σ).bind fun c3 =>
    let σ5 := qa_wi c3.2 (10, 22) (((Int16.ofInt 144).toInt32)).toNatClampNeg a1
    (qa_fX10_due a1 σ5).bind fun c6 =>
    let σ8 := qa_wi σ5 (10, 22) (((Int16.ofInt 145).toInt32)).toNatClampNeg c6
    let σ9 := qa_wi σ8 (10, 22) (((Int16.ofInt 171).toInt32)).toNatClampNeg ((σ8.1 (10, 22) (((Int16.ofInt 171).toInt32)).toNatClampNeg) + (Int32.ofInt 1))
    (qa_fX10_of a1 (Int32.ofInt 4) σ9).bind fun c10 =>
    if c10 ≤ 0 then
      qa_fX10_starts_68 a1 (Int32.ofInt 0) (σ9.1 (10, 22) (((Int16.ofInt 172).toInt32)).toNatClampNeg) ((Int16.ofInt 172).toInt32) σ9
    else
      qa_fX10_starts_68 a1 (Int32.ofInt 1) (σ9.1 (10, 22) (((Int16.ofInt 172).toInt32)).toNatClampNeg) ((Int16.ofInt 172).toInt32) σ9
noncomputable def qa_fX10_forgets_61 (a1 : Int32) : Nat → Int32 → Int32 → qa_T → Option qa_T
  | 0, _, _, _ => none
  | n + 1, x2, x3, σ =>
    if (σ.1 (10, 22) (((Int16.ofInt 146).toInt32)).toNatClampNeg) ≤ x3 then
      let σ3 := qa_wi σ (10, 22) (((Int16.ofInt 146).toInt32)).toNatClampNeg x2
      some σ3
    else
      if ¬ qa_in (((Int16.ofInt 147).toInt32) + x3) 176 = true then none else
      let σ5 := qa_wi σ (10, 22) ((((Int16.ofInt 147).toInt32) + x3)).toNatClampNeg (Int32.ofInt 0)
      let v6 : Int32 := x3 + Int32.ofInt 1
      qa_fX10_forgets_61 a1 n x2 v6 σ5
noncomputable def qa_fX10_forgets_53 (a1 : Int32) (k4 : Int32 → Int32 → qa_T → Option qa_T) (x2 : Int32) (x3 : Int32) (σ : qa_T) : Option qa_T :=
    let v9 : Int32 := x3 + Int32.ofInt 1
    k4 x2 v9 σ
noncomputable def qa_fX10_forgets_4 (a1 : Int32) : Nat → Int32 → Int32 → qa_T → Option qa_T
  | 0, _, _, _ => none
  | n + 1, x2, x3, σ =>
    if (σ.1 (10, 22) (((Int16.ofInt 146).toInt32)).toNatClampNeg) ≤ x3 then
      qa_fX10_forgets_61 a1 qa_fu x2 x2 σ
    else
      if ¬ qa_in (((Int16.ofInt 147).toInt32) + x3) 176 = true then none else
      if (σ.1 (10, 22) ((((Int16.ofInt 147).toInt32) + x3)).toNatClampNeg) = a1 then
        qa_fX10_forgets_53 a1 (qa_fX10_forgets_4 a1 n) x2 x3 σ
      else
        if ¬ qa_in (((Int16.ofInt 147).toInt32) + x3) 176 = true then none else
        if ¬ qa_in (((Int16.ofInt 147).toInt32) + x2) 176 = true then none else
        let σ12 := qa_wi σ (10, 22) ((((Int16.ofInt 147).toInt32) + x2)).toNatClampNeg (σ.1 (10, 22) ((((Int16.ofInt 147).toInt32) + x3)).toNatClampNeg)
        let v13 : Int32 := x2 + Int32.ofInt 1
        qa_fX10_forgets_53 a1 (qa_fX10_forgets_4 a1 n) v13 x3 σ12
noncomputable def qa_fX10_forgets (a1 : Int32) (σ : qa_T) : Option qa_T :=
    qa_fX10_forgets_4 a1 qa_fu (Int32.ofInt 0) (Int32.ofInt 0) σ
noncomputable def qa_fX10_begins_183  (σ : qa_T) : Option qa_T :=
    some σ
noncomputable def qa_fX10_begins_151  (x1 : Int32) (σ : qa_T) : Option qa_T :=
    if x1 = (Int32.ofInt (-1)) then
      qa_fX10_begins_183  σ
    else
      (qa_fX10_taken σ).bind fun c6 =>
      (qa_fX10_of x1 (Int32.ofInt 0) σ).bind fun c8 =>
      if (σ.1 (10, 22) (((Int16.ofInt 163).toInt32)).toNatClampNeg) < (c6 + c8) then
        qa_fX10_begins_183  σ
      else
        (qa_fX10_starts x1 σ).bind fun c11 =>
        qa_fX10_begins_183  c11
noncomputable def qa_fX10_begins_144  (k77 : Int32 → Int32 → qa_T → Option qa_T) (x2 : Int32) (y0 : Int32) (σ : qa_T) : Option qa_T :=
    let v20 : Int32 := x2 + Int32.ofInt 1
    k77 y0 v20 σ
noncomputable def qa_fX10_begins_77  : Nat → Int32 → Int32 → qa_T → Option qa_T
  | 0, _, _, _ => none
  | n + 1, x1, x2, σ =>
    if (σ.1 (10, 22) (((Int16.ofInt 164).toInt32)).toNatClampNeg) < x2 then
      qa_fX10_begins_151  x1 σ
    else
      if (σ.1 (10, 22) (((Int8.ofInt 113).toInt32)).toNatClampNeg) ≤ 0 then
        qa_fX10_begins_151  x1 σ
      else
        if ¬ x1 = (Int32.ofInt (-1)) then
          qa_fX10_begins_151  x1 σ
        else
          if ¬ qa_in (((Int8.ofInt 114).toInt32) + (((σ.1 (10, 22) (((Int16.ofInt 138).toInt32)).toNatClampNeg) + x2) - ((σ.1 (10, 22) (((Int16.ofInt 138).toInt32)).toNatClampNeg) + x2) / (σ.1 (10, 22) (((Int8.ofInt 113).toInt32)).toNatClampNeg) * (σ.1 (10, 22) (((Int8.ofInt 113).toInt32)).toNatClampNeg))) 176 = true then none else
          let v16 : Int32 := (σ.1 (10, 22) ((((Int8.ofInt 114).toInt32) + (((σ.1 (10, 22) (((Int16.ofInt 138).toInt32)).toNatClampNeg) + x2) - ((σ.1 (10, 22) (((Int16.ofInt 138).toInt32)).toNatClampNeg) + x2) / (σ.1 (10, 22) (((Int8.ofInt 113).toInt32)).toNatClampNeg) * (σ.1 (10, 22) (((Int8.ofInt 113).toInt32)).toNatClampNeg)))).toNatClampNeg)
          (qa_fX10_loaded v16 σ).bind fun c17 =>
          if (qa_bi c17) = 0 then
            qa_fX10_begins_144  (qa_fX10_begins_77  n) x2 v16 σ
          else
            qa_fX10_begins_144  (qa_fX10_begins_77  n) x2 (Int32.ofInt (-1)) σ
noncomputable def qa_fX10_begins  (σ : qa_T) : Option qa_T :=
    if (σ.1 (10, 22) (((Int16.ofInt 144).toInt32)).toNatClampNeg) = (Int32.ofInt (-1)) then
      if (σ.1 (10, 22) (((Int16.ofInt 142).toInt32)).toNatClampNeg) = (Int32.ofInt (-1)) then
        if (σ.1 (10, 22) (((Int16.ofInt 146).toInt32)).toNatClampNeg) ≤ 0 then
          qa_fX10_begins_77  qa_fu (Int32.ofInt (-1)) (Int32.ofInt 1) σ
        else
          let v21 : Int32 := (σ.1 (10, 22) (((Int16.ofInt 147).toInt32)).toNatClampNeg)
          (qa_fX10_forgets v21 σ).bind fun c22 =>
          (qa_fX10_starts v21 c22).bind fun c24 =>
          qa_fX10_begins_183  c24
      else
        (qa_fX10_starts (σ.1 (10, 22) (((Int16.ofInt 142).toInt32)).toNatClampNeg) σ).bind fun c26 =>
        qa_fX10_begins_183  c26
    else
      some σ
noncomputable def qa_fX10_uses (a1 : Int32) (σ : qa_T) : Option qa_T :=
    let σ1 := qa_wi σ (10, 22) (((Int16.ofInt 175).toInt32)).toNatClampNeg ((σ.1 (10, 22) (((Int16.ofInt 175).toInt32)).toNatClampNeg) + (Int32.ofInt 1))
    (qa_fX10_lay a1 ((Int8.ofInt 6).toInt32) (σ1.1 (10, 22) (((Int16.ofInt 175).toInt32)).toNatClampNeg) σ1).bind fun c2 =>
    some c2
noncomputable def qa_fX10_shows_69 (a1 : Int32) (σ : qa_T) : Option qa_T :=
    let σ2 := qa_wi σ (10, 22) (((Int16.ofInt 139).toInt32)).toNatClampNeg a1
    let σ3 := qa_wi σ2 (10, 22) (((Int16.ofInt 143).toInt32)).toNatClampNeg (Int32.ofInt 0)
    let σ4 := qa_wi σ3 (10, 22) (((Int16.ofInt 142).toInt32)).toNatClampNeg (Int32.ofInt (-1))
    (qa_fX10_uses a1 σ4).bind fun c5 =>
    let σ7 := qa_wi c5 (10, 21) 10 ((c5.1 (10, 21) 10) + (Int32.ofInt 1))
    some σ7
noncomputable def qa_fX10_shows_68 (a1 : Int32) (y0 : Int32) (y1 : Int32) (σ : qa_T) : Option qa_T :=
    if ¬ qa_in y1 176 = true then none else
    let σ14 := qa_wi σ (10, 22) (y1).toNatClampNeg y0
    qa_fX10_shows_69 a1 σ14
noncomputable def qa_fX10_shows (a1 : Int32) (σ : qa_T) : Option qa_T :=
    if (σ.1 (10, 22) (((Int16.ofInt 139).toInt32)).toNatClampNeg) = (Int32.ofInt (-1)) then
      qa_fX10_shows_69 a1 σ
    else
      if (σ.1 (10, 22) (((Int16.ofInt 139).toInt32)).toNatClampNeg) = a1 then
        qa_fX10_shows_69 a1 σ
      else
        (qa_fX10_of a1 (Int32.ofInt 2) σ).bind fun c9 =>
        let σ11 := qa_wi σ (10, 22) (((Int16.ofInt 141).toInt32)).toNatClampNeg c9
        if (σ11.1 (10, 22) (((Int16.ofInt 141).toInt32)).toNatClampNeg) ≤ 0 then
          qa_fX10_shows_68 a1 (Int32.ofInt (-1)) ((Int16.ofInt 140).toInt32) σ11
        else
          qa_fX10_shows_68 a1 (σ11.1 (10, 22) (((Int16.ofInt 139).toInt32)).toNatClampNeg) ((Int16.ofInt 140).toInt32) σ11
noncomputable def qa_fX10_goesOn_99  (x2 : Int32) (σ : qa_T) : Option (Bool × qa_T) :=
    if x2 = 0 then some (false, σ) else if x2 = 1 then some (true, σ) else none
noncomputable def qa_fX10_goesOn  (σ : qa_T) : Option (Bool × qa_T) :=
    if (σ.1 (10, 22) (((Int8.ofInt 113).toInt32)).toNatClampNeg) = 0 then none else
    let σ2 := qa_wi σ (10, 22) (((Int16.ofInt 138).toInt32)).toNatClampNeg (((σ.1 (10, 22) (((Int16.ofInt 138).toInt32)).toNatClampNeg) + (Int32.ofInt 1)) - ((σ.1 (10, 22) (((Int16.ofInt 138).toInt32)).toNatClampNeg) + (Int32.ofInt 1)) / (σ.1 (10, 22) (((Int8.ofInt 113).toInt32)).toNatClampNeg) * (σ.1 (10, 22) (((Int8.ofInt 113).toInt32)).toNatClampNeg))
    if ¬ qa_in (((Int8.ofInt 114).toInt32) + (σ2.1 (10, 22) (((Int16.ofInt 138).toInt32)).toNatClampNeg)) 176 = true then none else
    let v4 : Int32 := (σ2.1 (10, 22) ((((Int8.ofInt 114).toInt32) + (σ2.1 (10, 22) (((Int16.ofInt 138).toInt32)).toNatClampNeg))).toNatClampNeg)
    (qa_fX10_loaded v4 σ2).bind fun c5 =>
    let v7 : Int32 := (qa_bi c5)
    if v7 = 0 then
      let σ9 := qa_wi σ2 (10, 22) (((Int16.ofInt 170).toInt32)).toNatClampNeg ((σ2.1 (10, 22) (((Int16.ofInt 170).toInt32)).toNatClampNeg) + (Int32.ofInt 1))
      let σ10 := qa_wi σ9 (10, 22) (((Int16.ofInt 142).toInt32)).toNatClampNeg v4
      (qa_fX10_forgets v4 σ10).bind fun c11 =>
      qa_fX10_goesOn_99  v7 c11
    else
      let σ14 := qa_wi σ2 (10, 22) (((Int16.ofInt 169).toInt32)).toNatClampNeg ((σ2.1 (10, 22) (((Int16.ofInt 169).toInt32)).toNatClampNeg) + (Int32.ofInt 1))
      (qa_fX10_shows v4 σ14).bind fun c15 =>
      qa_fX10_goesOn_99  v7 c15
noncomputable def qa_fX10_ticks_322  (σ : qa_T) : Option qa_T :=
    (qa_fX10_begins σ).bind fun c17 =>
    some c17
noncomputable def qa_fX10_ticks_253  (σ : qa_T) : Option qa_T :=
    if ¬ (σ.1 (10, 22) (((Int16.ofInt 142).toInt32)).toNatClampNeg) = (Int32.ofInt (-1)) then
      qa_fX10_ticks_322  σ
    else
      if (σ.1 (10, 22) (((Int16.ofInt 139).toInt32)).toNatClampNeg) = (Int32.ofInt (-1)) then
        qa_fX10_ticks_322  σ
      else
        if (σ.1 (10, 22) (((Int16.ofInt 167).toInt32)).toNatClampNeg) ≤ 0 then
          qa_fX10_ticks_322  σ
        else
          if (σ.1 (10, 22) (((Int16.ofInt 143).toInt32)).toNatClampNeg) < (σ.1 (10, 22) (((Int16.ofInt 167).toInt32)).toNatClampNeg) then
            qa_fX10_ticks_322  σ
          else
            if (σ.1 (10, 22) (((Int8.ofInt 113).toInt32)).toNatClampNeg) ≤ 0 then
              qa_fX10_ticks_322  σ
            else
              (qa_fX10_goesOn σ).bind fun c23 =>
              let v25 : Int32 := (qa_bi c23.1)
              qa_fX10_ticks_322  c23.2
noncomputable def qa_fX10_ticks_170  (y0 : Int32) (y1 : Int32) (σ : qa_T) : Option qa_T :=
    if ¬ qa_in y1 176 = true then none else
    let σ14 := qa_wi σ (10, 22) (y1).toNatClampNeg y0
    if (σ14.1 (10, 22) (((Int16.ofInt 144).toInt32)).toNatClampNeg) = (Int32.ofInt (-1)) then
      qa_fX10_ticks_253  σ14
    else
      let σ26 := qa_wi σ14 (10, 22) (((Int16.ofInt 145).toInt32)).toNatClampNeg ((σ14.1 (10, 22) (((Int16.ofInt 145).toInt32)).toNatClampNeg) - (Int32.ofInt 1))
      if ¬ (σ26.1 (10, 22) (((Int16.ofInt 145).toInt32)).toNatClampNeg) = 0 then
        qa_fX10_ticks_253  σ26
      else
        let v28 : Int32 := (σ26.1 (10, 22) (((Int16.ofInt 144).toInt32)).toNatClampNeg)
        let σ29 := qa_wi σ26 (10, 22) (((Int16.ofInt 144).toInt32)).toNatClampNeg (Int32.ofInt (-1))
        (qa_fX10_lay v28 (Int32.ofInt 3) (Int32.ofInt 1) σ29).bind fun c30 =>
        (qa_fX10_uses v28 c30).bind fun c32 =>
        if ¬ (c32.1 (10, 22) (((Int16.ofInt 142).toInt32)).toNatClampNeg) = v28 then
          qa_fX10_ticks_253  c32
        else
          (qa_fX10_shows v28 c32).bind fun c35 =>
          qa_fX10_ticks_253  c35
noncomputable def qa_fX10_ticks_138  (y0 : Int32) (y1 : Int32) (y2 : Int32) (σ : qa_T) : Option qa_T :=
    if ¬ qa_in y2 176 = true then none else
    let σ11 := qa_wi σ (10, 22) (y2).toNatClampNeg (y1 - y0)
    if (σ11.1 (10, 22) (((Int16.ofInt 141).toInt32)).toNatClampNeg) ≤ 0 then
      qa_fX10_ticks_170  (Int32.ofInt (-1)) ((Int16.ofInt 140).toInt32) σ11
    else
      qa_fX10_ticks_170  (σ11.1 (10, 22) (((Int16.ofInt 140).toInt32)).toNatClampNeg) ((Int16.ofInt 140).toInt32) σ11
noncomputable def qa_fX10_ticks_104  (k70 : Int32 → qa_T → Option qa_T) (x1 : Int32) (y0 : Int32) (y1 : Int32) (y2 : Int32) (σ : qa_T) : Option qa_T :=
    (qa_fX10_lay y2 y1 y0 σ).bind fun c40 =>
    let v42 : Int32 := x1 + Int32.ofInt 1
    k70 v42 c40
noncomputable def qa_fX10_ticks_70  : Nat → Int32 → qa_T → Option qa_T
  | 0, _, _ => none
  | n + 1, x1, σ =>
    if (σ.1 (10, 22) ((Int32.ofInt 0)).toNatClampNeg) ≤ x1 then
      if (σ.1 (10, 22) (((Int16.ofInt 141).toInt32)).toNatClampNeg) ≤ 0 then
        qa_fX10_ticks_138  (Int32.ofInt 0) (σ.1 (10, 22) (((Int16.ofInt 141).toInt32)).toNatClampNeg) ((Int16.ofInt 141).toInt32) σ
      else
        qa_fX10_ticks_138  (Int32.ofInt 1) (σ.1 (10, 22) (((Int16.ofInt 141).toInt32)).toNatClampNeg) ((Int16.ofInt 141).toInt32) σ
    else
      (qa_fX10_of x1 (Int32.ofInt 4) σ).bind fun c37 =>
      if c37 ≤ 0 then
        qa_fX10_ticks_104  (qa_fX10_ticks_70  n) x1 (Int32.ofInt 0) (Int32.ofInt 4) x1 σ
      else
        (qa_fX10_of x1 (Int32.ofInt 4) σ).bind fun c43 =>
        qa_fX10_ticks_104  (qa_fX10_ticks_70  n) x1 (c43 - (Int32.ofInt 1)) (Int32.ofInt 4) x1 σ
noncomputable def qa_fX10_ticks_66  (y0 : Int32) (y1 : Int32) (y2 : Int32) (σ : qa_T) : Option qa_T :=
    if ¬ qa_in y2 176 = true then none else
    let σ7 := qa_wi σ (10, 22) (y2).toNatClampNeg (y1 + y0)
    qa_fX10_ticks_70  qa_fu (Int32.ofInt 0) σ7
noncomputable def qa_fX10_ticks_38  (y0 : Int32) (y1 : Int32) (y2 : Int32) (σ : qa_T) : Option qa_T :=
    if ¬ qa_in y2 176 = true then none else
    let σ4 := qa_wi σ (10, 22) (y2).toNatClampNeg (y1 + y0)
    if (σ4.1 (10, 22) (((Int16.ofInt 139).toInt32)).toNatClampNeg) = (Int32.ofInt (-1)) then
      qa_fX10_ticks_66  (Int32.ofInt 0) (σ4.1 (10, 22) (((Int16.ofInt 143).toInt32)).toNatClampNeg) ((Int16.ofInt 143).toInt32) σ4
    else
      qa_fX10_ticks_66  (Int32.ofInt 1) (σ4.1 (10, 22) (((Int16.ofInt 143).toInt32)).toNatClampNeg) ((Int16.ofInt 143).toInt32) σ4
noncomputable def qa_fX10_ticks  (σ : qa_T) : Option qa_T :=
    let σ1 := qa_wi σ (10, 22) (((Int16.ofInt 168).toInt32)).toNatClampNeg ((σ.1 (10, 22) (((Int16.ofInt 168).toInt32)).toNatClampNeg) + (Int32.ofInt 1))
    if (σ1.1 (10, 22) (((Int16.ofInt 142).toInt32)).toNatClampNeg) = (Int32.ofInt (-1)) then
      qa_fX10_ticks_38  (Int32.ofInt 0) (σ1.1 (10, 22) (((Int16.ofInt 174).toInt32)).toNatClampNeg) ((Int16.ofInt 174).toInt32) σ1
    else
      qa_fX10_ticks_38  (Int32.ofInt 1) (σ1.1 (10, 22) (((Int16.ofInt 174).toInt32)).toNatClampNeg) ((Int16.ofInt 174).toInt32) σ1
noncomputable def qa_fX10_inserts_98 (a1 : Int32) (a2 : Int32) (y0 : Int32) (y1 : Int32) (y2 : Int32) (σ : qa_T) : Option (Int32 × qa_T) :=
    if ¬ qa_in y2 176 = true then none else
    let σ8 := qa_wi σ (10, 22) (y2).toNatClampNeg (y1 + y0)
    (qa_fX10_begins σ8).bind fun c9 =>
    some ((c9.1 (10, 22) (((Int8.ofInt 113).toInt32)).toNatClampNeg), c9)
noncomputable def qa_fX10_inserts_97 (a1 : Int32) (a2 : Int32) (y0 : Int32) (y1 : Int32) (σ : qa_T) : Option (Int32 × qa_T) :=
    qa_fX10_inserts_98 a1 a2 (Int32.ofInt 0) y0 y1 σ
noncomputable def qa_fX10_inserts_8 (a1 : Int32) (a2 : Int32) : Nat → Int32 → qa_T → Option (Int32 × qa_T)
  | 0, _, _ => none
  | n + 1, x3, σ =>
    if x3 ≤ a1 then
      if ¬ qa_in (((Int8.ofInt 114).toInt32) + a1) 176 = true then none else
      let σ4 := qa_wi σ (10, 22) ((((Int8.ofInt 114).toInt32) + a1)).toNatClampNeg a2
      let σ5 := qa_wi σ4 (10, 22) (((Int8.ofInt 113).toInt32)).toNatClampNeg ((σ4.1 (10, 22) (((Int8.ofInt 113).toInt32)).toNatClampNeg) + (Int32.ofInt 1))
      if (σ5.1 (10, 22) (((Int16.ofInt 138).toInt32)).toNatClampNeg) = (Int32.ofInt (-1)) then
        qa_fX10_inserts_97 a1 a2 (σ5.1 (10, 22) (((Int16.ofInt 138).toInt32)).toNatClampNeg) ((Int16.ofInt 138).toInt32) σ5
      else
        if (σ5.1 (10, 22) (((Int16.ofInt 138).toInt32)).toNatClampNeg) < a1 then
          qa_fX10_inserts_97 a1 a2 (σ5.1 (10, 22) (((Int16.ofInt 138).toInt32)).toNatClampNeg) ((Int16.ofInt 138).toInt32) σ5
        else
          qa_fX10_inserts_98 a1 a2 (Int32.ofInt 1) (σ5.1 (10, 22) (((Int16.ofInt 138).toInt32)).toNatClampNeg) ((Int16.ofInt 138).toInt32) σ5
    else
      if ¬ qa_in ((((Int8.ofInt 114).toInt32) + x3) - (Int32.ofInt 1)) 176 = true then none else
      if ¬ qa_in (((Int8.ofInt 114).toInt32) + x3) 176 = true then none else
      let σ14 := qa_wi σ (10, 22) ((((Int8.ofInt 114).toInt32) + x3)).toNatClampNeg (σ.1 (10, 22) (((((Int8.ofInt 114).toInt32) + x3) - (Int32.ofInt 1))).toNatClampNeg)
      let v15 : Int32 := x3 + Int32.ofInt (-1)
      qa_fX10_inserts_8 a1 a2 n v15 σ14
noncomputable def qa_fX10_inserts (a1 : Int32) (a2 : Int32) (σ : qa_T) : Option (Int32 × qa_T) :=
    let v1 : Int32 := (σ.1 (10, 22) (((Int8.ofInt 113).toInt32)).toNatClampNeg)
    qa_fX10_inserts_8 a1 a2 qa_fu v1 σ
noncomputable def qa_fX10_canGoOn_26  (σ : qa_T) : Bool :=
    false
noncomputable def qa_fX10_canGoOn  (σ : qa_T) : Bool :=
    if (σ.1 (10, 22) (((Int8.ofInt 113).toInt32)).toNatClampNeg) ≤ 0 then
      qa_fX10_canGoOn_26  σ
    else
      if ¬ (σ.1 (10, 22) (((Int16.ofInt 142).toInt32)).toNatClampNeg) = (Int32.ofInt (-1)) then
        qa_fX10_canGoOn_26  σ
      else
        true
noncomputable def qa_fX10_isAsked_55 (a1 : Int32) (k20 : Int32 → Int32 → qa_T → Option Bool) (x3 : Int32) (y0 : Int32) (σ : qa_T) : Option Bool :=
    let v5 : Int32 := x3 + Int32.ofInt 1
    k20 y0 v5 σ
noncomputable def qa_fX10_isAsked_50 (a1 : Int32) (k20 : Int32 → Int32 → qa_T → Option Bool) (x3 : Int32) (σ : qa_T) : Option Bool :=
    qa_fX10_isAsked_55 a1 k20 x3 (Int32.ofInt 1) σ
noncomputable def qa_fX10_isAsked_20 (a1 : Int32) : Nat → Int32 → Int32 → qa_T → Option Bool
  | 0, _, _, _ => none
  | n + 1, x2, x3, σ =>
    if (σ.1 (10, 22) (((Int16.ofInt 146).toInt32)).toNatClampNeg) ≤ x3 then
      if x2 = 0 then some false else if x2 = 1 then some true else none
    else
      if ¬ x2 = 0 then
        qa_fX10_isAsked_50 a1 (qa_fX10_isAsked_20 a1 n) x3 σ
      else
        if ¬ qa_in (((Int16.ofInt 147).toInt32) + x3) 176 = true then none else
        if ¬ (σ.1 (10, 22) ((((Int16.ofInt 147).toInt32) + x3)).toNatClampNeg) = a1 then
          qa_fX10_isAsked_55 a1 (qa_fX10_isAsked_20 a1 n) x3 (Int32.ofInt 0) σ
        else
          qa_fX10_isAsked_50 a1 (qa_fX10_isAsked_20 a1 n) x3 σ
noncomputable def qa_fX10_isAsked_17 (a1 : Int32) (y0 : Int32) (σ : qa_T) : Option Bool :=
    qa_fX10_isAsked_20 a1 qa_fu y0 (Int32.ofInt 0) σ
noncomputable def qa_fX10_isAsked (a1 : Int32) (σ : qa_T) : Option Bool :=
    if ¬ a1 = (σ.1 (10, 22) (((Int16.ofInt 142).toInt32)).toNatClampNeg) then
      qa_fX10_isAsked_17 a1 (Int32.ofInt 0) σ
    else
      qa_fX10_isAsked_17 a1 (Int32.ofInt 1) σ
noncomputable def qa_fX10_canAsk_32 (a1 : Int32) (σ : qa_T) : Option Bool :=
    some false
noncomputable def qa_fX10_canAsk (a1 : Int32) (σ : qa_T) : Option Bool :=
    (qa_fX10_loaded a1 σ).bind fun c1 =>
    if ¬ (qa_bi c1) = 0 then
      qa_fX10_canAsk_32 a1 σ
    else
      if (σ.1 (10, 22) (((Int16.ofInt 144).toInt32)).toNatClampNeg) = a1 then
        qa_fX10_canAsk_32 a1 σ
      else
        (qa_fX10_isAsked a1 σ).bind fun c5 =>
        if ¬ (qa_bi c5) = 0 then
          qa_fX10_canAsk_32 a1 σ
        else
          some true
noncomputable def qa_fX10_asks (a1 : Int32) (σ : qa_T) : Option (Int32 × qa_T) :=
    if ¬ qa_in (((Int16.ofInt 147).toInt32) + (σ.1 (10, 22) (((Int16.ofInt 146).toInt32)).toNatClampNeg)) 176 = true then none else
    let σ2 := qa_wi σ (10, 22) ((((Int16.ofInt 147).toInt32) + (σ.1 (10, 22) (((Int16.ofInt 146).toInt32)).toNatClampNeg))).toNatClampNeg a1
    let σ3 := qa_wi σ2 (10, 22) (((Int16.ofInt 146).toInt32)).toNatClampNeg ((σ2.1 (10, 22) (((Int16.ofInt 146).toInt32)).toNatClampNeg) + (Int32.ofInt 1))
    (qa_fX10_begins σ3).bind fun c4 =>
    some ((c4.1 (10, 22) (((Int16.ofInt 146).toInt32)).toNatClampNeg), c4)
noncomputable def qa_fX10_passes_7 (a1 : Int32) : Nat → Int32 → qa_T → Option (Int32 × qa_T)
  | 0, _, _ => none
  | n + 1, x2, σ =>
    if a1 ≤ x2 then
      some ((σ.1 (10, 21) 10), σ)
    else
      (qa_fX10_ticks σ).bind fun c3 =>
      let v5 : Int32 := x2 + Int32.ofInt 1
      qa_fX10_passes_7 a1 n v5 c3
noncomputable def qa_fX10_passes (a1 : Int32) (σ : qa_T) : Option (Int32 × qa_T) :=
    let σ1 := qa_wi σ (10, 21) 10 (Int32.ofInt 0)
    qa_fX10_passes_7 a1 qa_fu (Int32.ofInt 0) σ1
noncomputable def qa_fX10_addSlide_35 (a1 : Int32) (a2 : Int32) (a3 : Int32) (σ : qa_T) : Option (Int32 × qa_T) :=
    let c3 := qa_fX10_throwing (Int32.ofInt 1) σ
    some (c3.1, c3.2)
noncomputable def qa_fX10_addSlide (a1 : Int32) (a2 : Int32) (a3 : Int32) (σ : qa_T) : Option (Int32 × qa_T) :=
    let σ1 := qa_wi σ (10, 21) 9 (Int32.ofInt 0)
    if (qa_bi (qa_fX10_in a1 (Int32.ofInt 1) ((Int8.ofInt 50).toInt32) σ1)) = 0 then
      qa_fX10_addSlide_35 a1 a2 a3 σ1
    else
      if (qa_bi (qa_fX10_in a2 (Int32.ofInt 1) ((Int8.ofInt 20).toInt32) σ1)) = 0 then
        qa_fX10_addSlide_35 a1 a2 a3 σ1
      else
        if ¬ (qa_bi (qa_fX10_in a3 (Int32.ofInt 0) ((Int8.ofInt 10).toInt32) σ1)) = 0 then
          if ¬ (σ1.1 (10, 22) ((Int32.ofInt 0)).toNatClampNeg) = ((Int8.ofInt 16).toInt32) then
            (qa_fX10_save σ1).bind fun c7 =>
            let v9 : Int32 := (c7.1 (10, 22) ((Int32.ofInt 0)).toNatClampNeg)
            let σ10 := qa_wi c7 (10, 22) ((Int32.ofInt 0)).toNatClampNeg ((c7.1 (10, 22) ((Int32.ofInt 0)).toNatClampNeg) + (Int32.ofInt 1))
            (qa_fX10_lay v9 (Int32.ofInt 0) a1 σ10).bind fun c11 =>
            (qa_fX10_lay v9 (Int32.ofInt 1) a2 c11).bind fun c13 =>
            (qa_fX10_lay v9 (Int32.ofInt 2) a3 c13).bind fun c15 =>
            some (v9, c15)
          else
            let c17 := qa_fX10_throwing (Int32.ofInt 2) σ1
            some (c17.1, c17.2)
        else
          qa_fX10_addSlide_35 a1 a2 a3 σ1
noncomputable def qa_fX10_insert_23 (a1 : Int32) (a2 : Int32) (σ : qa_T) : Option (Int32 × qa_T) :=
    let c3 := qa_fX10_throwing (Int32.ofInt 1) σ
    some (c3.1, c3.2)
noncomputable def qa_fX10_insert (a1 : Int32) (a2 : Int32) (σ : qa_T) : Option (Int32 × qa_T) :=
    let c1 := qa_fX10_isThere a2 σ
    if (qa_bi c1.1) = 0 then
      qa_fX10_insert_23 a1 a2 c1.2
    else
      if ¬ (qa_bi (qa_fX10_in a1 (Int32.ofInt 0) (c1.2.1 (10, 22) (((Int8.ofInt 113).toInt32)).toNatClampNeg) c1.2)) = 0 then
        if ¬ (c1.2.1 (10, 22) (((Int8.ofInt 113).toInt32)).toNatClampNeg) = ((Int8.ofInt 24).toInt32) then
          (qa_fX10_save c1.2).bind fun c6 =>
          (qa_fX10_inserts a1 a2 c6).bind fun c8 =>
          some (c8.1, c8.2)
        else
          let c10 := qa_fX10_throwing (Int32.ofInt 2) c1.2
          some (c10.1, c10.2)
      else
        qa_fX10_insert_23 a1 a2 c1.2
noncomputable def qa_fX10_takeOut_146 (a1 : Int32) (x2 : Int32) (y0 : Int32) (y1 : Int32) (y2 : Int32) (σ : qa_T) : Option (Int32 × qa_T) :=
    if ¬ qa_in y2 176 = true then none else
    let σ13 := qa_wi σ (10, 22) (y2).toNatClampNeg (y1 - y0)
    (qa_fX10_begins σ13).bind fun c14 =>
    some (x2, c14)
noncomputable def qa_fX10_takeOut_145 (a1 : Int32) (x2 : Int32) (y0 : Int32) (y1 : Int32) (σ : qa_T) : Option (Int32 × qa_T) :=
    qa_fX10_takeOut_146 a1 x2 (Int32.ofInt 0) y0 y1 σ
noncomputable def qa_fX10_takeOut_55 (a1 : Int32) : Nat → Int32 → Int32 → qa_T → Option (Int32 × qa_T)
  | 0, _, _, _ => none
  | n + 1, x2, x3, σ =>
    if (σ.1 (10, 22) (((Int8.ofInt 113).toInt32)).toNatClampNeg) ≤ x3 then
      if ¬ qa_in (((Int8.ofInt 114).toInt32) + (σ.1 (10, 22) (((Int8.ofInt 113).toInt32)).toNatClampNeg)) 176 = true then none else
      let σ10 := qa_wi σ (10, 22) ((((Int8.ofInt 114).toInt32) + (σ.1 (10, 22) (((Int8.ofInt 113).toInt32)).toNatClampNeg))).toNatClampNeg (Int32.ofInt 0)
      if (σ10.1 (10, 22) (((Int16.ofInt 138).toInt32)).toNatClampNeg) = (Int32.ofInt (-1)) then
        qa_fX10_takeOut_145 a1 x2 (σ10.1 (10, 22) (((Int16.ofInt 138).toInt32)).toNatClampNeg) ((Int16.ofInt 138).toInt32) σ10
      else
        if (σ10.1 (10, 22) (((Int16.ofInt 138).toInt32)).toNatClampNeg) < a1 then
          qa_fX10_takeOut_145 a1 x2 (σ10.1 (10, 22) (((Int16.ofInt 138).toInt32)).toNatClampNeg) ((Int16.ofInt 138).toInt32) σ10
        else
          qa_fX10_takeOut_146 a1 x2 (Int32.ofInt 1) (σ10.1 (10, 22) (((Int16.ofInt 138).toInt32)).toNatClampNeg) ((Int16.ofInt 138).toInt32) σ10
    else
      if ¬ qa_in ((((Int8.ofInt 114).toInt32) + x3) + (Int32.ofInt 1)) 176 = true then none else
      if ¬ qa_in (((Int8.ofInt 114).toInt32) + x3) 176 = true then none else
      let σ19 := qa_wi σ (10, 22) ((((Int8.ofInt 114).toInt32) + x3)).toNatClampNeg (σ.1 (10, 22) (((((Int8.ofInt 114).toInt32) + x3) + (Int32.ofInt 1))).toNatClampNeg)
      let v20 : Int32 := x3 + Int32.ofInt 1
      qa_fX10_takeOut_55 a1 n x2 v20 σ19
noncomputable def qa_fX10_takeOut (a1 : Int32) (σ : qa_T) : Option (Int32 × qa_T) :=
    let σ1 := qa_wi σ (10, 21) 9 (Int32.ofInt 0)
    if ¬ (qa_bi (qa_fX10_in a1 (Int32.ofInt 0) ((σ1.1 (10, 22) (((Int8.ofInt 113).toInt32)).toNatClampNeg) - (Int32.ofInt 1)) σ1)) = 0 then
      (qa_fX10_save σ1).bind fun c3 =>
      if ¬ qa_in (((Int8.ofInt 114).toInt32) + a1) 176 = true then none else
      let v6 : Int32 := (c3.1 (10, 22) ((((Int8.ofInt 114).toInt32) + a1)).toNatClampNeg)
      let σ7 := qa_wi c3 (10, 22) (((Int8.ofInt 113).toInt32)).toNatClampNeg ((c3.1 (10, 22) (((Int8.ofInt 113).toInt32)).toNatClampNeg) - (Int32.ofInt 1))
      qa_fX10_takeOut_55 a1 qa_fu v6 a1 σ7
    else
      let c21 := qa_fX10_throwing (Int32.ofInt 1) σ1
      some (c21.1, c21.2)
noncomputable def qa_fX10_goOn_13  (y0 : Int32) (σ : qa_T) : Option (Bool × qa_T) :=
    let σ2 := qa_wi σ (10, 21) 9 y0
    if (σ2.1 (10, 21) 9) ≤ 0 then
      (qa_fX10_save σ2).bind fun c4 =>
      (qa_fX10_goesOn c4).bind fun c6 =>
      let v8 : Int32 := (qa_bi c6.1)
      (qa_fX10_begins c6.2).bind fun c9 =>
      some (c6.1, c9)
    else
      some (false, σ2)
noncomputable def qa_fX10_goOn  (σ : qa_T) : Option (Bool × qa_T) :=
    if (qa_bi (qa_fX10_canGoOn σ)) = 0 then
      qa_fX10_goOn_13  (Int32.ofInt 1) σ
    else
      qa_fX10_goOn_13  (Int32.ofInt 0) σ
noncomputable def qa_fX10_ask (a1 : Int32) (σ : qa_T) : Option (Int32 × qa_T) :=
    let c1 := qa_fX10_isThere a1 σ
    if ¬ (qa_bi c1.1) = 0 then
      (qa_fX10_canAsk a1 c1.2).bind fun c3 =>
      if ¬ (qa_bi c3) = 0 then
        (qa_fX10_save c1.2).bind fun c6 =>
        (qa_fX10_asks a1 c6).bind fun c8 =>
        some (c8.1, c8.2)
      else
        let c10 := qa_fX10_throwing (Int32.ofInt 2) c1.2
        some (c10.1, c10.2)
    else
      some ((Int32.ofInt 0), c1.2)
noncomputable def qa_fX10_burn (a1 : Int32) (σ : qa_T) : Option (Int32 × qa_T) :=
    let c1 := qa_fX10_isThere a1 σ
    if ¬ (qa_bi c1.1) = 0 then
      (qa_fX10_canBurn a1 c1.2).bind fun c3 =>
      if ¬ (qa_bi c3) = 0 then
        (qa_fX10_save c1.2).bind fun c6 =>
        (qa_fX10_burns a1 c6).bind fun c8 =>
        (qa_fX10_begins c8.2).bind fun c10 =>
        some (c8.1, c10)
      else
        let c12 := qa_fX10_throwing (Int32.ofInt 2) c1.2
        some (c12.1, c12.2)
    else
      some ((Int32.ofInt 0), c1.2)
noncomputable def qa_fX10_tick (a1 : Int32) (σ : qa_T) : Option (Int32 × qa_T) :=
    let σ1 := qa_wi σ (10, 21) 9 (Int32.ofInt 0)
    if ¬ (qa_bi (qa_fX10_in a1 (Int32.ofInt 1) ((Int8.ofInt 100).toInt32) σ1)) = 0 then
      (qa_fX10_save σ1).bind fun c3 =>
      (qa_fX10_passes a1 c3).bind fun c5 =>
      some (c5.1, c5.2)
    else
      let c7 := qa_fX10_throwing (Int32.ofInt 1) σ1
      some (c7.1, c7.2)
noncomputable def qa_fX10_changes (a1 : Int32) (a2 : Int32) (a3 : Int32) (a4 : Int32) (σ : qa_T) : Option (Int32 × qa_T) :=
    let σ1 := qa_wi σ (10, 21) 9 (Int32.ofInt 0)
    if ¬ (qa_bi (qa_fX10_in a2 a3 a4 σ1)) = 0 then
      (qa_fX10_save σ1).bind fun c3 =>
      if ¬ qa_in a1 176 = true then none else
      let v6 : Int32 := (c3.1 (10, 22) (a1).toNatClampNeg)
      if ¬ qa_in a1 176 = true then none else
      let σ8 := qa_wi c3 (10, 22) (a1).toNatClampNeg a2
      (qa_fX10_makesRoom (Int32.ofInt 0) σ8).bind fun c9 =>
      (qa_fX10_begins c9.2).bind fun c11 =>
      some (v6, c11)
    else
      let c13 := qa_fX10_throwing (Int32.ofInt 1) σ1
      some (c13.1, c13.2)
noncomputable def qa_fX10_changeMemory (a1 : Int32) (σ : qa_T) : Option (Int32 × qa_T) :=
    (qa_fX10_changes ((Int16.ofInt 163).toInt32) a1 ((Int16.ofInt 150).toInt32) ((Int16.ofInt 400).toInt32) σ).bind fun c1 =>
    some (c1.1, c1.2)
noncomputable def qa_fX10_changeAhead (a1 : Int32) (σ : qa_T) : Option (Int32 × qa_T) :=
    (qa_fX10_changes ((Int16.ofInt 164).toInt32) a1 (Int32.ofInt 0) (Int32.ofInt 4) σ).bind fun c1 =>
    some (c1.1, c1.2)
noncomputable def qa_fX10_changeOrder (a1 : Int32) (σ : qa_T) : Option (Int32 × qa_T) :=
    (qa_fX10_changes ((Int16.ofInt 165).toInt32) a1 (Int32.ofInt 0) (Int32.ofInt 2) σ).bind fun c1 =>
    some (c1.1, c1.2)
noncomputable def qa_fX10_changeGlow (a1 : Int32) (σ : qa_T) : Option (Int32 × qa_T) :=
    (qa_fX10_changes ((Int16.ofInt 166).toInt32) a1 (Int32.ofInt 0) ((Int8.ofInt 20).toInt32) σ).bind fun c1 =>
    some (c1.1, c1.2)
noncomputable def qa_fX10_changePace (a1 : Int32) (σ : qa_T) : Option (Int32 × qa_T) :=
    (qa_fX10_changes ((Int16.ofInt 167).toInt32) a1 (Int32.ofInt 0) ((Int8.ofInt 50).toInt32) σ).bind fun c1 =>
    some (c1.1, c1.2)
noncomputable def qa_fX10_append (a1 : Int32) (σ : qa_T) : Option (Int32 × qa_T) :=
    let σ1 := qa_wi σ (10, 21) 9 (Int32.ofInt 0)
    if ¬ (qa_bi (qa_fX10_in a1 ((Int8.ofInt 33).toInt32) ((Int8.ofInt 126).toInt32) σ1)) = 0 then
      if ¬ (σ1.1 (10, 21) 8) = ((Int8.ofInt 60).toInt32) then
        if ¬ qa_in (σ1.1 (10, 21) 8) 60 = true then none else
        let σ5 := qa_wi σ1 (10, 28) ((σ1.1 (10, 21) 8)).toNatClampNeg a1
        let σ6 := qa_wi σ5 (10, 21) 8 ((σ5.1 (10, 21) 8) + (Int32.ofInt 1))
        some ((σ6.1 (10, 21) 8), σ6)
      else
        let c7 := qa_fX10_throwing (Int32.ofInt 2) σ1
        some (c7.1, c7.2)
    else
      let c8 := qa_fX10_throwing (Int32.ofInt 1) σ1
      some (c8.1, c8.2)
noncomputable def qa_fX10_clearBuffer  (σ : qa_T) : (Int32 × qa_T) :=
    let σ1 := qa_wi σ (10, 21) 9 (Int32.ofInt 0)
    let v2 : Int32 := (σ1.1 (10, 21) 8)
    let σ3 := qa_wi σ1 (10, 21) 8 (Int32.ofInt 0)
    (v2, σ3)
noncomputable def qa_fX10_sign_74 (a1 : Int32) (a2 : Int32) (x3 : Int32) (y0 : Int32) (y1 : Int32) (σ : qa_T) : Option (Int32 × qa_T) :=
    let σ5 := qa_wi σ (10, 21) 11 (y1 + y0)
    some (x3, σ5)
noncomputable def qa_fX10_sign_49 (a1 : Int32) (a2 : Int32) (x3 : Int32) (σ : qa_T) : Option (Int32 × qa_T) :=
    let σ3 := qa_wi σ (10, 21) 12 (qa_bi true)
    if (σ3.1 (10, 21) 12) = 0 then
      qa_fX10_sign_74 a1 a2 x3 (Int32.ofInt 1) (σ3.1 (10, 21) 11) σ3
    else
      qa_fX10_sign_74 a1 a2 x3 (Int32.ofInt 0) (σ3.1 (10, 21) 11) σ3
noncomputable def qa_fX10_sign_31 (a1 : Int32) (a2 : Int32) (y0 : Int32) (σ : qa_T) : Option (Int32 × qa_T) :=
    if ¬ (σ.1 (10, 21) 12) = 0 then
      qa_fX10_sign_49 a1 a2 y0 σ
    else
      if ¬ (qa_bi (qa_fX10_in y0 a1 a2 σ)) = 0 then
        let σ7 := qa_wi σ (10, 21) 12 (qa_bi false)
        if (σ7.1 (10, 21) 12) = 0 then
          qa_fX10_sign_74 a1 a2 y0 (Int32.ofInt 1) (σ7.1 (10, 21) 11) σ7
        else
          qa_fX10_sign_74 a1 a2 y0 (Int32.ofInt 0) (σ7.1 (10, 21) 11) σ7
      else
        qa_fX10_sign_49 a1 a2 y0 σ
noncomputable def qa_fX10_sign_30 (a1 : Int32) (a2 : Int32) (σ : qa_T) : Option (Int32 × qa_T) :=
    qa_fX10_sign_31 a1 a2 (Int32.ofInt 0) σ
noncomputable def qa_fX10_sign (a1 : Int32) (a2 : Int32) (σ : qa_T) : Option (Int32 × qa_T) :=
    if (σ.1 (10, 21) 8) ≤ (σ.1 (10, 21) 11) then
      qa_fX10_sign_30 a1 a2 σ
    else
      if ¬ (σ.1 (10, 21) 12) = 0 then
        qa_fX10_sign_30 a1 a2 σ
      else
        if ¬ qa_in (σ.1 (10, 21) 11) 60 = true then none else
        qa_fX10_sign_31 a1 a2 (σ.1 (10, 28) ((σ.1 (10, 21) 11)).toNatClampNeg) σ
noncomputable def qa_fX10_number_96 (a1 : Int32) (a2 : Int32) (x3 : Int32) (σ : qa_T) : Option (Int32 × qa_T) :=
    some (x3, σ)
noncomputable def qa_fX10_number_14 (a1 : Int32) (a2 : Int32) : Nat → Int32 → qa_T → Option (Int32 × qa_T)
  | 0, _, _ => none
  | n + 1, x3, σ =>
    if ¬ (σ.1 (10, 21) 12) = 0 then
      qa_fX10_number_96 a1 a2 x3 σ
    else
      if x3 ≤ 0 then
        qa_fX10_number_96 a1 a2 x3 σ
      else
        if (σ.1 (10, 21) 8) ≤ (σ.1 (10, 21) 11) then
          qa_fX10_number_96 a1 a2 x3 σ
        else
          if ¬ qa_in (σ.1 (10, 21) 11) 60 = true then none else
          if (qa_bi (qa_fX10_in (σ.1 (10, 28) ((σ.1 (10, 21) 11)).toNatClampNeg) ((Int8.ofInt 48).toInt32) ((Int8.ofInt 57).toInt32) σ)) = 0 then
            qa_fX10_number_96 a1 a2 x3 σ
          else
            if ¬ qa_in (σ.1 (10, 21) 11) 60 = true then none else
            if a2 < (((((Int8.ofInt 10).toInt32) * x3) + (σ.1 (10, 28) ((σ.1 (10, 21) 11)).toNatClampNeg)) - ((Int8.ofInt 48).toInt32)) then
              qa_fX10_number_96 a1 a2 x3 σ
            else
              (qa_fX10_sign ((Int8.ofInt 48).toInt32) ((Int8.ofInt 57).toInt32) σ).bind fun c11 =>
              let v13 : Int32 := (((((Int8.ofInt 10).toInt32) * x3) + c11.1) - ((Int8.ofInt 48).toInt32))
              qa_fX10_number_14 a1 a2 n v13 c11.2
noncomputable def qa_fX10_number (a1 : Int32) (a2 : Int32) (σ : qa_T) : Option (Int32 × qa_T) :=
    (qa_fX10_sign (((Int8.ofInt 48).toInt32) + a1) ((Int8.ofInt 57).toInt32) σ).bind fun c1 =>
    let v3 : Int32 := (c1.1 - ((Int8.ofInt 48).toInt32))
    qa_fX10_number_14 a1 a2 qa_fu v3 c1.2
noncomputable def qa_fX10_isFollowed_188 (a1 : Int32) (a2 : Int32) (x3 : Int32) (σ : qa_T) : Option (Bool × qa_T) :=
    if x3 = 0 then some (false, σ) else if x3 = 1 then some (true, σ) else none
noncomputable def qa_fX10_isFollowed_182 (a1 : Int32) (a2 : Int32) (x3 : Int32) (y0 : Int32) (σ : qa_T) : Option (Bool × qa_T) :=
    (qa_fX10_begins σ).bind fun c10 =>
    qa_fX10_isFollowed_188 a1 a2 x3 c10
noncomputable def qa_fX10_isFollowed_116 (a1 : Int32) (a2 : Int32) (x3 : Int32) (y0 : Int32) (σ : qa_T) : Option (Bool × qa_T) :=
    if ¬ a1 = ((Int8.ofInt 97).toInt32) then
      if ¬ a1 = ((Int8.ofInt 98).toInt32) then
        if ¬ a1 = ((Int8.ofInt 112).toInt32) then
          if ¬ a1 = ((Int8.ofInt 116).toInt32) then
            qa_fX10_isFollowed_182 a1 a2 x3 (Int32.ofInt 0) σ
          else
            (qa_fX10_passes a2 σ).bind fun c12 =>
            qa_fX10_isFollowed_182 a1 a2 x3 c12.1 c12.2
        else
          (qa_fX10_inserts (σ.1 (10, 22) (((Int8.ofInt 113).toInt32)).toNatClampNeg) a2 σ).bind fun c14 =>
          qa_fX10_isFollowed_182 a1 a2 x3 c14.1 c14.2
      else
        (qa_fX10_burns a2 σ).bind fun c16 =>
        qa_fX10_isFollowed_182 a1 a2 x3 c16.1 c16.2
    else
      (qa_fX10_asks a2 σ).bind fun c18 =>
      qa_fX10_isFollowed_182 a1 a2 x3 c18.1 c18.2
noncomputable def qa_fX10_isFollowed_115 (a1 : Int32) (a2 : Int32) (x3 : Int32) (σ : qa_T) : Option (Bool × qa_T) :=
    qa_fX10_isFollowed_116 a1 a2 x3 (Int32.ofInt 0) σ
noncomputable def qa_fX10_isFollowed_93 (a1 : Int32) (a2 : Int32) (y0 : Int32) (σ : qa_T) : Option (Bool × qa_T) :=
    if y0 = 0 then
      qa_fX10_isFollowed_188 a1 a2 y0 σ
    else
      if ¬ a1 = ((Int8.ofInt 110).toInt32) then
        qa_fX10_isFollowed_115 a1 a2 y0 σ
      else
        (qa_fX10_goesOn σ).bind fun c20 =>
        if (qa_bi c20.1) = 0 then
          qa_fX10_isFollowed_115 a1 a2 y0 c20.2
        else
          qa_fX10_isFollowed_116 a1 a2 y0 (Int32.ofInt 1) c20.2
noncomputable def qa_fX10_isFollowed_92 (a1 : Int32) (a2 : Int32) (σ : qa_T) : Option (Bool × qa_T) :=
    qa_fX10_isFollowed_93 a1 a2 (Int32.ofInt 0) σ
noncomputable def qa_fX10_isFollowed_88 (a1 : Int32) (a2 : Int32) (σ : qa_T) : Option (Bool × qa_T) :=
    qa_fX10_isFollowed_93 a1 a2 (Int32.ofInt 1) σ
noncomputable def qa_fX10_isFollowed_70 (a1 : Int32) (a2 : Int32) (σ : qa_T) : Option (Bool × qa_T) :=
    if ¬ a1 = ((Int8.ofInt 112).toInt32) then
      qa_fX10_isFollowed_88 a1 a2 σ
    else
      if ((Int8.ofInt 24).toInt32) ≤ (σ.1 (10, 22) (((Int8.ofInt 113).toInt32)).toNatClampNeg) then
        qa_fX10_isFollowed_92 a1 a2 σ
      else
        qa_fX10_isFollowed_88 a1 a2 σ
noncomputable def qa_fX10_isFollowed_56 (a1 : Int32) (a2 : Int32) (σ : qa_T) : Option (Bool × qa_T) :=
    if ¬ a1 = ((Int8.ofInt 98).toInt32) then
      qa_fX10_isFollowed_70 a1 a2 σ
    else
      (qa_fX10_canBurn a2 σ).bind fun c27 =>
      if (qa_bi c27) = 0 then
        qa_fX10_isFollowed_92 a1 a2 σ
      else
        qa_fX10_isFollowed_70 a1 a2 σ
noncomputable def qa_fX10_isFollowed_37 (a1 : Int32) (a2 : Int32) (y0 : Int32) (σ : qa_T) : Option (Bool × qa_T) :=
    if y0 = 0 then
      qa_fX10_isFollowed_92 a1 a2 σ
    else
      if ¬ a1 = ((Int8.ofInt 97).toInt32) then
        qa_fX10_isFollowed_56 a1 a2 σ
      else
        (qa_fX10_canAsk a2 σ).bind fun c30 =>
        if (qa_bi c30) = 0 then
          qa_fX10_isFollowed_92 a1 a2 σ
        else
          qa_fX10_isFollowed_56 a1 a2 σ
noncomputable def qa_fX10_isFollowed_32 (a1 : Int32) (a2 : Int32) (σ : qa_T) : Option (Bool × qa_T) :=
    qa_fX10_isFollowed_37 a1 a2 (Int32.ofInt 1) σ
noncomputable def qa_fX10_isFollowed_36 (a1 : Int32) (a2 : Int32) (σ : qa_T) : Option (Bool × qa_T) :=
    qa_fX10_isFollowed_37 a1 a2 (Int32.ofInt 0) σ
noncomputable def qa_fX10_isFollowed (a1 : Int32) (a2 : Int32) (σ : qa_T) : Option (Bool × qa_T) :=
    if a1 = ((Int8.ofInt 116).toInt32) then
      qa_fX10_isFollowed_32 a1 a2 σ
    else
      if ¬ a1 = ((Int8.ofInt 110).toInt32) then
        if (σ.1 (10, 22) ((Int32.ofInt 0)).toNatClampNeg) ≤ a2 then
          qa_fX10_isFollowed_36 a1 a2 σ
        else
          qa_fX10_isFollowed_32 a1 a2 σ
      else
        if (qa_bi (qa_fX10_canGoOn σ)) = 0 then
          qa_fX10_isFollowed_36 a1 a2 σ
        else
          qa_fX10_isFollowed_32 a1 a2 σ
noncomputable def qa_fX10_isOrdered_156 (a1 : Bool) (σ : qa_T) : Option (Bool × qa_T) :=
    some (true, σ)
noncomputable def qa_fX10_isOrdered_140 (a1 : Bool) (x2 : Int32) (y0 : Int32) (σ : qa_T) : Option (Bool × qa_T) :=
    if (qa_bi a1) = 0 then
      qa_fX10_isOrdered_156 a1 σ
    else
      (qa_fX10_isFollowed x2 y0 σ).bind fun c10 =>
      if (qa_bi c10.1) = 0 then
        some (false, c10.2)
      else
        qa_fX10_isOrdered_156 a1 c10.2
noncomputable def qa_fX10_isOrdered_105 (a1 : Bool) (x2 : Int32) (x3 : Int32) (y0 : Int32) (y1 : Int32) (σ : qa_T) : Option (Bool × qa_T) :=
    let σ6 := qa_wi σ (10, 21) 11 (y1 + y0)
    if x3 = 0 then
      if ¬ x2 = ((Int8.ofInt 116).toInt32) then
        qa_fX10_isOrdered_140 a1 x2 (Int32.ofInt 0) σ6
      else
        (qa_fX10_number (Int32.ofInt 1) ((Int8.ofInt 100).toInt32) σ6).bind fun c13 =>
        qa_fX10_isOrdered_140 a1 x2 c13.1 c13.2
    else
      (qa_fX10_number (Int32.ofInt 0) ((Int8.ofInt 15).toInt32) σ6).bind fun c15 =>
      qa_fX10_isOrdered_140 a1 x2 c15.1 c15.2
noncomputable def qa_fX10_isOrdered_80 (a1 : Bool) (x2 : Int32) (x3 : Int32) (σ : qa_T) : Option (Bool × qa_T) :=
    let σ4 := qa_wi σ (10, 21) 12 (qa_bi true)
    if (σ4.1 (10, 21) 12) = 0 then
      qa_fX10_isOrdered_105 a1 x2 x3 (Int32.ofInt 1) (σ4.1 (10, 21) 11) σ4
    else
      qa_fX10_isOrdered_105 a1 x2 x3 (Int32.ofInt 0) (σ4.1 (10, 21) 11) σ4
noncomputable def qa_fX10_isOrdered_84 (a1 : Bool) (x2 : Int32) (x3 : Int32) (σ : qa_T) : Option (Bool × qa_T) :=
    let σ18 := qa_wi σ (10, 21) 12 (qa_bi false)
    if (σ18.1 (10, 21) 12) = 0 then
      qa_fX10_isOrdered_105 a1 x2 x3 (Int32.ofInt 1) (σ18.1 (10, 21) 11) σ18
    else
      qa_fX10_isOrdered_105 a1 x2 x3 (Int32.ofInt 0) (σ18.1 (10, 21) 11) σ18
noncomputable def qa_fX10_isOrdered_55 (a1 : Bool) (x2 : Int32) (y0 : Int32) (σ : qa_T) : Option (Bool × qa_T) :=
    if ¬ (σ.1 (10, 21) 12) = 0 then
      qa_fX10_isOrdered_80 a1 x2 y0 σ
    else
      if ¬ y0 = 0 then
        qa_fX10_isOrdered_84 a1 x2 y0 σ
      else
        if x2 = ((Int8.ofInt 110).toInt32) then
          qa_fX10_isOrdered_84 a1 x2 y0 σ
        else
          if x2 = ((Int8.ofInt 116).toInt32) then
            qa_fX10_isOrdered_84 a1 x2 y0 σ
          else
            qa_fX10_isOrdered_80 a1 x2 y0 σ
noncomputable def qa_fX10_isOrdered_50 (a1 : Bool) (x2 : Int32) (σ : qa_T) : Option (Bool × qa_T) :=
    qa_fX10_isOrdered_55 a1 x2 (Int32.ofInt 1) σ
noncomputable def qa_fX10_isOrdered_31 (a1 : Bool) (y0 : Int32) (σ : qa_T) : Option (Bool × qa_T) :=
    if y0 = ((Int8.ofInt 97).toInt32) then
      qa_fX10_isOrdered_50 a1 y0 σ
    else
      if y0 = ((Int8.ofInt 98).toInt32) then
        qa_fX10_isOrdered_50 a1 y0 σ
      else
        if ¬ y0 = ((Int8.ofInt 112).toInt32) then
          qa_fX10_isOrdered_55 a1 y0 (Int32.ofInt 0) σ
        else
          qa_fX10_isOrdered_50 a1 y0 σ
noncomputable def qa_fX10_isOrdered_30 (a1 : Bool) (σ : qa_T) : Option (Bool × qa_T) :=
    qa_fX10_isOrdered_31 a1 (Int32.ofInt 0) σ
noncomputable def qa_fX10_isOrdered (a1 : Bool) (σ : qa_T) : Option (Bool × qa_T) :=
    if (σ.1 (10, 21) 8) ≤ (σ.1 (10, 21) 11) then
      qa_fX10_isOrdered_30 a1 σ
    else
      if ¬ (σ.1 (10, 21) 12) = 0 then
        qa_fX10_isOrdered_30 a1 σ
      else
        if ¬ qa_in (σ.1 (10, 21) 11) 60 = true then none else
        qa_fX10_isOrdered_31 a1 (σ.1 (10, 28) ((σ.1 (10, 21) 11)).toNatClampNeg) σ
noncomputable def qa_fX10_go_90 (a1 : Bool) (k17 : Int32 → qa_T → Option (Bool × qa_T)) (y0 : Int32) (σ : qa_T) : Option (Bool × qa_T) :=
    k17 y0 σ
noncomputable def qa_fX10_go_64 (a1 : Bool) (k17 : Int32 → qa_T → Option (Bool × qa_T)) (y0 : Int32) (σ : qa_T) : Option (Bool × qa_T) :=
    if y0 = 0 then
      k17 y0 σ
    else
      (qa_fX10_sign ((Int8.ofInt 59).toInt32) ((Int8.ofInt 59).toInt32) σ).bind fun c11 =>
      if ¬ (c11.2.1 (10, 21) 12) = 0 then
        qa_fX10_go_90 a1 k17 (Int32.ofInt 0) c11.2
      else
        qa_fX10_go_90 a1 k17 (Int32.ofInt 1) c11.2
noncomputable def qa_fX10_go_63 (a1 : Bool) (k17 : Int32 → qa_T → Option (Bool × qa_T)) (σ : qa_T) : Option (Bool × qa_T) :=
    qa_fX10_go_64 a1 k17 (Int32.ofInt 0) σ
noncomputable def qa_fX10_go_17 (a1 : Bool) : Nat → Int32 → qa_T → Option (Bool × qa_T)
  | 0, _, _ => none
  | n + 1, x2, σ =>
    if x2 = 0 then
      some (true, σ)
    else
      (qa_fX10_isOrdered a1 σ).bind fun c5 =>
      if ¬ (qa_bi c5.1) = 0 then
        let σ8 := qa_wi c5.2 (10, 21) 13 ((c5.2.1 (10, 21) 13) + (Int32.ofInt 1))
        if ¬ (σ8.1 (10, 21) 12) = 0 then
          qa_fX10_go_63 a1 (qa_fX10_go_17 a1 n) σ8
        else
          if (σ8.1 (10, 21) 8) ≤ (σ8.1 (10, 21) 11) then
            qa_fX10_go_63 a1 (qa_fX10_go_17 a1 n) σ8
          else
            qa_fX10_go_64 a1 (qa_fX10_go_17 a1 n) (Int32.ofInt 1) σ8
      else
        some (false, c5.2)
noncomputable def qa_fX10_go (a1 : Bool) (σ : qa_T) : Option (Bool × qa_T) :=
    let σ1 := qa_wi σ (10, 21) 11 (Int32.ofInt 0)
    let σ2 := qa_wi σ1 (10, 21) 12 (qa_bi false)
    let σ3 := qa_wi σ2 (10, 21) 13 (Int32.ofInt 0)
    qa_fX10_go_17 a1 qa_fu (Int32.ofInt 1) σ3
noncomputable def qa_fX10_firstError_29  (y0 : Int32) (σ : qa_T) : Option (Int32 × qa_T) :=
    some (y0, σ)
noncomputable def qa_fX10_firstError  (σ : qa_T) : Option (Int32 × qa_T) :=
    let σ1 := qa_wi σ (10, 21) 9 (Int32.ofInt 0)
    (qa_fX10_go false σ1).bind fun c2 =>
    let v4 : Int32 := (qa_bi c2.1)
    if (c2.2.1 (10, 21) 12) = 0 then
      qa_fX10_firstError_29  (c2.2.1 (10, 21) 8) c2.2
    else
      qa_fX10_firstError_29  (c2.2.1 (10, 21) 11) c2.2
noncomputable def qa_fX10_keepsAside_2  : Nat → Int32 → qa_T → Option qa_T
  | 0, _, _ => none
  | n + 1, x1, σ =>
    if ((Int16.ofInt 176).toInt32) ≤ x1 then
      some σ
    else
      if ¬ qa_in x1 176 = true then none else
      if ¬ qa_in x1 176 = true then none else
      let σ4 := qa_wi σ (10, 26) (x1).toNatClampNeg (σ.1 (10, 22) (x1).toNatClampNeg)
      let v5 : Int32 := x1 + Int32.ofInt 1
      qa_fX10_keepsAside_2  n v5 σ4
noncomputable def qa_fX10_keepsAside  (σ : qa_T) : Option qa_T :=
    qa_fX10_keepsAside_2  qa_fu (Int32.ofInt 0) σ
noncomputable def qa_fX10_putsBack_2  : Nat → Int32 → qa_T → Option qa_T
  | 0, _, _ => none
  | n + 1, x1, σ =>
    if ((Int16.ofInt 176).toInt32) ≤ x1 then
      some σ
    else
      if ¬ qa_in x1 176 = true then none else
      if ¬ qa_in x1 176 = true then none else
      let σ4 := qa_wi σ (10, 22) (x1).toNatClampNeg (σ.1 (10, 26) (x1).toNatClampNeg)
      let v5 : Int32 := x1 + Int32.ofInt 1
      qa_fX10_putsBack_2  n v5 σ4
noncomputable def qa_fX10_putsBack  (σ : qa_T) : Option qa_T :=
    qa_fX10_putsBack_2  qa_fu (Int32.ofInt 0) σ
noncomputable def qa_fX10_follow  (σ : qa_T) : Option (Int32 × qa_T) :=
    let σ1 := qa_wi σ (10, 21) 9 (Int32.ofInt 0)
    (qa_fX10_go false σ1).bind fun c2 =>
    let v4 : Int32 := (qa_bi c2.1)
    if (c2.2.1 (10, 21) 12) = 0 then
      (qa_fX10_keepsAside c2.2).bind fun c6 =>
      (qa_fX10_go true c6).bind fun c8 =>
      let v10 : Int32 := (qa_bi c8.1)
      (qa_fX10_putsBack c8.2).bind fun c11 =>
      if ¬ v10 = 0 then
        (qa_fX10_save c11).bind fun c14 =>
        (qa_fX10_go true c14).bind fun c16 =>
        let v18 : Int32 := (qa_bi c16.1)
        let σ19 := qa_wi c16.2 (10, 21) 8 (Int32.ofInt 0)
        some ((σ19.1 (10, 21) 13), σ19)
      else
        let c20 := qa_fX10_throwing (Int32.ofInt 2) c11
        some (c20.1, c20.2)
    else
      let c21 := qa_fX10_throwing (Int32.ofInt 1) c2.2
      some (c21.1, c21.2)
noncomputable def qa_fX10_keep_72 (a1 : Int32) (σ : qa_T) : Option qa_T :=
    some σ
noncomputable def qa_fX10_keep_58 (a1 : Int32) (σ : qa_T) : Option qa_T :=
    if ¬ (σ.1 (10, 21) 9) = 0 then
      qa_fX10_keep_72 a1 σ
    else
      if ¬ qa_in a1 2 = true then none else
      let σ6 := qa_wi σ (10, 25) (a1).toNatClampNeg (qa_bi true)
      qa_fX10_keep_72 a1 σ6
noncomputable def qa_fX10_keep_20 (a1 : Int32) : Nat → Int32 → qa_T → Option qa_T
  | 0, _, _ => none
  | n + 1, x2, σ =>
    if ((Int16.ofInt 176).toInt32) ≤ x2 then
      qa_fX10_keep_58 a1 σ
    else
      if ¬ (σ.1 (10, 21) 9) = 0 then
        qa_fX10_keep_58 a1 σ
      else
        if ¬ qa_in x2 176 = true then none else
        if ¬ qa_in ((((Int16.ofInt 176).toInt32) * a1) + x2) 352 = true then none else
        let σ10 := qa_wi σ (10, 24) (((((Int16.ofInt 176).toInt32) * a1) + x2)).toNatClampNeg (σ.1 (10, 22) (x2).toNatClampNeg)
        let v11 : Int32 := x2 + Int32.ofInt 1
        qa_fX10_keep_20 a1 n v11 σ10
noncomputable def qa_fX10_keep_15 (a1 : Int32) (y0 : Int32) (σ : qa_T) : Option qa_T :=
    let σ2 := qa_wi σ (10, 21) 9 y0
    qa_fX10_keep_20 a1 qa_fu (Int32.ofInt 0) σ2
noncomputable def qa_fX10_keep (a1 : Int32) (σ : qa_T) : Option qa_T :=
    if (qa_bi (qa_fX10_in a1 (Int32.ofInt 0) (Int32.ofInt 1) σ)) = 0 then
      qa_fX10_keep_15 a1 (Int32.ofInt 1) σ
    else
      qa_fX10_keep_15 a1 (Int32.ofInt 0) σ
noncomputable def qa_fX10_goBack_75 (a1 : Int32) (σ : qa_T) : Option qa_T :=
    some σ
noncomputable def qa_fX10_goBack_44 (a1 : Int32) : Nat → Int32 → qa_T → Option qa_T
  | 0, _, _ => none
  | n + 1, x2, σ =>
    if ((Int16.ofInt 176).toInt32) ≤ x2 then
      qa_fX10_goBack_75 a1 σ
    else
      if ¬ qa_in ((((Int16.ofInt 176).toInt32) * a1) + x2) 352 = true then none else
      if ¬ qa_in x2 176 = true then none else
      let σ11 := qa_wi σ (10, 22) (x2).toNatClampNeg (σ.1 (10, 24) (((((Int16.ofInt 176).toInt32) * a1) + x2)).toNatClampNeg)
      let v12 : Int32 := x2 + Int32.ofInt 1
      qa_fX10_goBack_44 a1 n v12 σ11
noncomputable def qa_fX10_goBack_28 (a1 : Int32) (y0 : Int32) (σ : qa_T) : Option qa_T :=
    let σ4 := qa_wi σ (10, 21) 9 y0
    if ¬ (σ4.1 (10, 21) 9) = 0 then
      qa_fX10_goBack_75 a1 σ4
    else
      (qa_fX10_save σ4).bind fun c6 =>
      qa_fX10_goBack_44 a1 qa_fu (Int32.ofInt 0) c6
noncomputable def qa_fX10_goBack (a1 : Int32) (σ : qa_T) : Option qa_T :=
    if ¬ (qa_bi (qa_fX10_in a1 (Int32.ofInt 0) (Int32.ofInt 1) σ)) = 0 then
      if ¬ qa_in a1 2 = true then none else
      if (σ.1 (10, 25) (a1).toNatClampNeg) = 0 then
        qa_fX10_goBack_28 a1 (Int32.ofInt 2) σ
      else
        qa_fX10_goBack_28 a1 (Int32.ofInt 0) σ
    else
      qa_fX10_goBack_28 a1 (Int32.ofInt 1) σ
noncomputable def qa_fX10_undo_69  (σ : qa_T) : Option qa_T :=
    some σ
noncomputable def qa_fX10_undo_35  : Nat → Int32 → qa_T → Option qa_T
  | 0, _, _ => none
  | n + 1, x1, σ =>
    if ((Int16.ofInt 176).toInt32) ≤ x1 then
      qa_fX10_undo_69  σ
    else
      if ¬ qa_in ((((Int16.ofInt 176).toInt32) * (σ.1 (10, 21) 2)) + x1) 1056 = true then none else
      if ¬ qa_in x1 176 = true then none else
      let σ8 := qa_wi σ (10, 22) (x1).toNatClampNeg (σ.1 (10, 23) (((((Int16.ofInt 176).toInt32) * (σ.1 (10, 21) 2)) + x1)).toNatClampNeg)
      let v9 : Int32 := x1 + Int32.ofInt 1
      qa_fX10_undo_35  n v9 σ8
noncomputable def qa_fX10_undo_13  (y0 : Int32) (σ : qa_T) : Option qa_T :=
    let σ2 := qa_wi σ (10, 21) 9 y0
    if ¬ (σ2.1 (10, 21) 9) = 0 then
      qa_fX10_undo_69  σ2
    else
      let σ4 := qa_wi σ2 (10, 21) 2 ((σ2.1 (10, 21) 2) - (Int32.ofInt 1))
      qa_fX10_undo_35  qa_fu (Int32.ofInt 0) σ4
noncomputable def qa_fX10_undo  (σ : qa_T) : Option qa_T :=
    if ¬ (σ.1 (10, 21) 2) = 0 then
      qa_fX10_undo_13  (Int32.ofInt 0) σ
    else
      qa_fX10_undo_13  (Int32.ofInt 1) σ
noncomputable def qa_fX10_savedStates  (σ : qa_T) : (Int32 × qa_T) :=
    let σ1 := qa_wi σ (10, 21) 9 (Int32.ofInt 0)
    ((σ1.1 (10, 21) 2), σ1)
noncomputable def qa_fX10_rule (a1 : Int32) (σ : qa_T) : Option (Int32 × qa_T) :=
    let σ1 := qa_wi σ (10, 21) 9 (Int32.ofInt 0)
    if ¬ qa_in a1 176 = true then none else
    some ((σ1.1 (10, 22) (a1).toNatClampNeg), σ1)
noncomputable def qa_fX10_slides  (σ : qa_T) : Option (Int32 × qa_T) :=
    (qa_fX10_rule (Int32.ofInt 0) σ).bind fun c1 =>
    some (c1.1, c1.2)
noncomputable def qa_fX10_costOf_18 (a1 : Int32) (y0 : Int32) (σ : qa_T) : Option (Int32 × qa_T) :=
    some (y0, σ)
noncomputable def qa_fX10_costOf (a1 : Int32) (σ : qa_T) : Option (Int32 × qa_T) :=
    let c1 := qa_fX10_isThere a1 σ
    if (qa_bi c1.1) = 0 then
      qa_fX10_costOf_18 a1 (Int32.ofInt 0) c1.2
    else
      (qa_fX10_of a1 (Int32.ofInt 0) c1.2).bind fun c3 =>
      qa_fX10_costOf_18 a1 c3 c1.2
noncomputable def qa_fX10_loadOf_17 (a1 : Int32) (y0 : Int32) (σ : qa_T) : Option (Int32 × qa_T) :=
    some (y0, σ)
noncomputable def qa_fX10_loadOf (a1 : Int32) (σ : qa_T) : Option (Int32 × qa_T) :=
    let c1 := qa_fX10_isThere a1 σ
    if (qa_bi c1.1) = 0 then
      qa_fX10_loadOf_17 a1 (Int32.ofInt 0) c1.2
    else
      (qa_fX10_due a1 c1.2).bind fun c3 =>
      qa_fX10_loadOf_17 a1 c3 c1.2
noncomputable def qa_fX10_fadeOf_18 (a1 : Int32) (y0 : Int32) (σ : qa_T) : Option (Int32 × qa_T) :=
    some (y0, σ)
noncomputable def qa_fX10_fadeOf (a1 : Int32) (σ : qa_T) : Option (Int32 × qa_T) :=
    let c1 := qa_fX10_isThere a1 σ
    if (qa_bi c1.1) = 0 then
      qa_fX10_fadeOf_18 a1 (Int32.ofInt 0) c1.2
    else
      (qa_fX10_of a1 (Int32.ofInt 2) c1.2).bind fun c3 =>
      qa_fX10_fadeOf_18 a1 c3 c1.2
noncomputable def qa_fX10_isLoaded_20 (a1 : Int32) (σ : qa_T) : Option (Bool × qa_T) :=
    some (false, σ)
noncomputable def qa_fX10_isLoaded (a1 : Int32) (σ : qa_T) : Option (Bool × qa_T) :=
    let c1 := qa_fX10_isThere a1 σ
    if (qa_bi c1.1) = 0 then
      qa_fX10_isLoaded_20 a1 c1.2
    else
      (qa_fX10_loaded a1 c1.2).bind fun c3 =>
      if (qa_bi c3) = 0 then
        qa_fX10_isLoaded_20 a1 c1.2
      else
        some (true, c1.2)
noncomputable def qa_fX10_isOnShow_20 (a1 : Int32) (σ : qa_T) : (Bool × qa_T) :=
    (false, σ)
noncomputable def qa_fX10_isOnShow (a1 : Int32) (σ : qa_T) : (Bool × qa_T) :=
    let c1 := qa_fX10_isThere a1 σ
    if (qa_bi c1.1) = 0 then
      qa_fX10_isOnShow_20 a1 c1.2
    else
      if (qa_bi (qa_fX10_onShow a1 c1.2)) = 0 then
        qa_fX10_isOnShow_20 a1 c1.2
      else
        (true, c1.2)
noncomputable def qa_fX10_glowOf_18 (a1 : Int32) (y0 : Int32) (σ : qa_T) : Option (Int32 × qa_T) :=
    some (y0, σ)
noncomputable def qa_fX10_glowOf (a1 : Int32) (σ : qa_T) : Option (Int32 × qa_T) :=
    let c1 := qa_fX10_isThere a1 σ
    if (qa_bi c1.1) = 0 then
      qa_fX10_glowOf_18 a1 (Int32.ofInt 0) c1.2
    else
      (qa_fX10_of a1 (Int32.ofInt 4) c1.2).bind fun c3 =>
      qa_fX10_glowOf_18 a1 c3 c1.2
noncomputable def qa_fX10_burntTimes_18 (a1 : Int32) (y0 : Int32) (σ : qa_T) : Option (Int32 × qa_T) :=
    some (y0, σ)
noncomputable def qa_fX10_burntTimes (a1 : Int32) (σ : qa_T) : Option (Int32 × qa_T) :=
    let c1 := qa_fX10_isThere a1 σ
    if (qa_bi c1.1) = 0 then
      qa_fX10_burntTimes_18 a1 (Int32.ofInt 0) c1.2
    else
      (qa_fX10_of a1 (Int32.ofInt 5) c1.2).bind fun c3 =>
      qa_fX10_burntTimes_18 a1 c3 c1.2
noncomputable def qa_fX10_nextUse_38 (a1 : Int32) (y0 : Int32) (σ : qa_T) : Option (Int32 × qa_T) :=
    some (y0, σ)
noncomputable def qa_fX10_nextUse (a1 : Int32) (σ : qa_T) : Option (Int32 × qa_T) :=
    let c1 := qa_fX10_isThere a1 σ
    if ¬ (qa_bi c1.1) = 0 then
      (qa_fX10_nextOf a1 c1.2).bind fun c3 =>
      if c3 ≤ (c1.2.1 (10, 22) (((Int8.ofInt 113).toInt32)).toNatClampNeg) then
        (qa_fX10_nextOf a1 c1.2).bind fun c6 =>
        qa_fX10_nextUse_38 a1 c6 c1.2
      else
        let c8 := qa_fX10_throwing (Int32.ofInt 2) c1.2
        qa_fX10_nextUse_38 a1 c8.1 c8.2
    else
      some ((Int32.ofInt 0), c1.2)
noncomputable def qa_fX10_inOrder_42 (a1 : Int32) (k4 : Int32 → Int32 → qa_T → Option Int32) (x3 : Int32) (y0 : Int32) (y1 : Int32) (σ : qa_T) : Option Int32 :=
    let v5 : Int32 := (y1 + y0)
    let v6 : Int32 := x3 + Int32.ofInt 1
    k4 v5 v6 σ
noncomputable def qa_fX10_inOrder_41 (a1 : Int32) (k4 : Int32 → Int32 → qa_T → Option Int32) (x3 : Int32) (y0 : Int32) (σ : qa_T) : Option Int32 :=
    qa_fX10_inOrder_42 a1 k4 x3 (Int32.ofInt 0) y0 σ
noncomputable def qa_fX10_inOrder_4 (a1 : Int32) : Nat → Int32 → Int32 → qa_T → Option Int32
  | 0, _, _, _ => none
  | n + 1, x2, x3, σ =>
    if (σ.1 (10, 22) ((Int32.ofInt 0)).toNatClampNeg) ≤ x3 then
      some x2
    else
      (qa_fX10_canBurn x3 σ).bind fun c2 =>
      if (qa_bi c2) = 0 then
        qa_fX10_inOrder_41 a1 (qa_fX10_inOrder_4 a1 n) x3 x2 σ
      else
        if x3 = a1 then
          qa_fX10_inOrder_41 a1 (qa_fX10_inOrder_4 a1 n) x3 x2 σ
        else
          (qa_fX10_isFirst x3 a1 σ).bind fun c8 =>
          if (qa_bi c8) = 0 then
            qa_fX10_inOrder_41 a1 (qa_fX10_inOrder_4 a1 n) x3 x2 σ
          else
            qa_fX10_inOrder_42 a1 (qa_fX10_inOrder_4 a1 n) x3 (Int32.ofInt 1) x2 σ
noncomputable def qa_fX10_inOrder (a1 : Int32) (σ : qa_T) : Option Int32 :=
    qa_fX10_inOrder_4 a1 qa_fu (Int32.ofInt 0) (Int32.ofInt 0) σ
noncomputable def qa_fX10_burnPlace_31 (a1 : Int32) (y0 : Int32) (σ : qa_T) : Option (Int32 × qa_T) :=
    some (y0, σ)
noncomputable def qa_fX10_burnPlace (a1 : Int32) (σ : qa_T) : Option (Int32 × qa_T) :=
    let c1 := qa_fX10_isThere a1 σ
    if ¬ (qa_bi c1.1) = 0 then
      (qa_fX10_canBurn a1 c1.2).bind fun c3 =>
      if (qa_bi c3) = 0 then
        let c6 := qa_fX10_throwing (Int32.ofInt 2) c1.2
        qa_fX10_burnPlace_31 a1 c6.1 c6.2
      else
        (qa_fX10_inOrder a1 c1.2).bind fun c7 =>
        qa_fX10_burnPlace_31 a1 c7 c1.2
    else
      some ((Int32.ofInt 0), c1.2)
noncomputable def qa_fX10_places  (σ : qa_T) : Option (Int32 × qa_T) :=
    (qa_fX10_rule ((Int8.ofInt 113).toInt32) σ).bind fun c1 =>
    some (c1.1, c1.2)
noncomputable def qa_fX10_slideAt_39 (a1 : Int32) (y0 : Int32) (σ : qa_T) : Option (Int32 × qa_T) :=
    some (y0, σ)
noncomputable def qa_fX10_slideAt (a1 : Int32) (σ : qa_T) : Option (Int32 × qa_T) :=
    let σ1 := qa_wi σ (10, 21) 9 (Int32.ofInt 0)
    if (qa_bi (qa_fX10_in a1 (Int32.ofInt 0) ((σ1.1 (10, 22) (((Int8.ofInt 113).toInt32)).toNatClampNeg) - (Int32.ofInt 1)) σ1)) = 0 then
      let c3 := qa_fX10_throwing (Int32.ofInt 1) σ1
      qa_fX10_slideAt_39 a1 c3.1 c3.2
    else
      if ¬ qa_in (((Int8.ofInt 114).toInt32) + a1) 176 = true then none else
      qa_fX10_slideAt_39 a1 (σ1.1 (10, 22) ((((Int8.ofInt 114).toInt32) + a1)).toNatClampNeg) σ1
noncomputable def qa_fX10_told_36 (a1 : Int32) (y0 : Int32) (σ : qa_T) : Option (Int32 × qa_T) :=
    some (y0, σ)
noncomputable def qa_fX10_told_16 (a1 : Int32) (y0 : Int32) (σ : qa_T) : Option (Int32 × qa_T) :=
    let σ3 := qa_wi σ (10, 21) 9 y0
    if ¬ (σ3.1 (10, 21) 9) = 0 then
      qa_fX10_told_36 a1 (Int32.ofInt 0) σ3
    else
      if ¬ qa_in a1 176 = true then none else
      qa_fX10_told_36 a1 (σ3.1 (10, 22) (a1).toNatClampNeg) σ3
noncomputable def qa_fX10_told (a1 : Int32) (σ : qa_T) : Option (Int32 × qa_T) :=
    if ¬ qa_in a1 176 = true then none else
    if ¬ (σ.1 (10, 22) (a1).toNatClampNeg) = (Int32.ofInt (-1)) then
      qa_fX10_told_16 a1 (Int32.ofInt 0) σ
    else
      qa_fX10_told_16 a1 (Int32.ofInt 1) σ
noncomputable def qa_fX10_showPlace  (σ : qa_T) : Option (Int32 × qa_T) :=
    (qa_fX10_told ((Int16.ofInt 138).toInt32) σ).bind fun c1 =>
    some (c1.1, c1.2)
noncomputable def qa_fX10_shown  (σ : qa_T) : Option (Int32 × qa_T) :=
    (qa_fX10_told ((Int16.ofInt 139).toInt32) σ).bind fun c1 =>
    some (c1.1, c1.2)
noncomputable def qa_fX10_fading  (σ : qa_T) : Option (Int32 × qa_T) :=
    (qa_fX10_told ((Int16.ofInt 140).toInt32) σ).bind fun c1 =>
    some (c1.1, c1.2)
noncomputable def qa_fX10_fadeLeft  (σ : qa_T) : Option (Int32 × qa_T) :=
    (qa_fX10_rule ((Int16.ofInt 141).toInt32) σ).bind fun c1 =>
    some (c1.1, c1.2)
noncomputable def qa_fX10_awaited  (σ : qa_T) : Option (Int32 × qa_T) :=
    (qa_fX10_told ((Int16.ofInt 142).toInt32) σ).bind fun c1 =>
    some (c1.1, c1.2)
noncomputable def qa_fX10_shownFor_27  (y0 : Int32) (σ : qa_T) : Option (Int32 × qa_T) :=
    some (y0, σ)
noncomputable def qa_fX10_shownFor  (σ : qa_T) : Option (Int32 × qa_T) :=
    (qa_fX10_told ((Int16.ofInt 139).toInt32) σ).bind fun c1 =>
    if ¬ (c1.2.1 (10, 21) 9) = 0 then
      qa_fX10_shownFor_27  (Int32.ofInt 0) c1.2
    else
      qa_fX10_shownFor_27  (c1.2.1 (10, 22) (((Int16.ofInt 143).toInt32)).toNatClampNeg) c1.2
noncomputable def qa_fX10_loading  (σ : qa_T) : Option (Int32 × qa_T) :=
    (qa_fX10_told ((Int16.ofInt 144).toInt32) σ).bind fun c1 =>
    some (c1.1, c1.2)
noncomputable def qa_fX10_loadLeft  (σ : qa_T) : Option (Int32 × qa_T) :=
    (qa_fX10_rule ((Int16.ofInt 145).toInt32) σ).bind fun c1 =>
    some (c1.1, c1.2)
noncomputable def qa_fX10_asked  (σ : qa_T) : Option (Int32 × qa_T) :=
    (qa_fX10_rule ((Int16.ofInt 146).toInt32) σ).bind fun c1 =>
    some (c1.1, c1.2)
noncomputable def qa_fX10_askedAt_41 (a1 : Int32) (y0 : Int32) (σ : qa_T) : Option (Int32 × qa_T) :=
    some (y0, σ)
noncomputable def qa_fX10_askedAt (a1 : Int32) (σ : qa_T) : Option (Int32 × qa_T) :=
    let σ1 := qa_wi σ (10, 21) 9 (Int32.ofInt 0)
    if (qa_bi (qa_fX10_in a1 (Int32.ofInt 0) ((σ1.1 (10, 22) (((Int16.ofInt 146).toInt32)).toNatClampNeg) - (Int32.ofInt 1)) σ1)) = 0 then
      let c3 := qa_fX10_throwing (Int32.ofInt 1) σ1
      qa_fX10_askedAt_41 a1 c3.1 c3.2
    else
      if ¬ qa_in (((Int16.ofInt 147).toInt32) + a1) 176 = true then none else
      qa_fX10_askedAt_41 a1 (σ1.1 (10, 22) ((((Int16.ofInt 147).toInt32) + a1)).toNatClampNeg) σ1
noncomputable def qa_fX10_takenBySlides  (σ : qa_T) : Option (Int32 × qa_T) :=
    let σ1 := qa_wi σ (10, 21) 9 (Int32.ofInt 0)
    (qa_fX10_taken σ1).bind fun c2 =>
    some (c2, σ1)
noncomputable def qa_fX10_takenByAccount  (σ : qa_T) : Option (Int32 × qa_T) :=
    let σ1 := qa_wi σ (10, 21) 9 (Int32.ofInt 0)
    (qa_fX10_taken σ1).bind fun c2 =>
    some (c2, σ1)
noncomputable def qa_fX10_memory  (σ : qa_T) : Option (Int32 × qa_T) :=
    (qa_fX10_rule ((Int16.ofInt 163).toInt32) σ).bind fun c1 =>
    some (c1.1, c1.2)
noncomputable def qa_fX10_ahead  (σ : qa_T) : Option (Int32 × qa_T) :=
    (qa_fX10_rule ((Int16.ofInt 164).toInt32) σ).bind fun c1 =>
    some (c1.1, c1.2)
noncomputable def qa_fX10_order  (σ : qa_T) : Option (Int32 × qa_T) :=
    (qa_fX10_rule ((Int16.ofInt 165).toInt32) σ).bind fun c1 =>
    some (c1.1, c1.2)
noncomputable def qa_fX10_glow  (σ : qa_T) : Option (Int32 × qa_T) :=
    (qa_fX10_rule ((Int16.ofInt 166).toInt32) σ).bind fun c1 =>
    some (c1.1, c1.2)
noncomputable def qa_fX10_pace  (σ : qa_T) : Option (Int32 × qa_T) :=
    (qa_fX10_rule ((Int16.ofInt 167).toInt32) σ).bind fun c1 =>
    some (c1.1, c1.2)
noncomputable def qa_fX10_untilShown_53  : Nat → Int32 → Int32 → qa_T → Option (Int32 × qa_T)
  | 0, _, _, _ => none
  | n + 1, x1, x2, σ =>
    if ((Int16.ofInt 176).toInt32) ≤ x2 then
      some (x1, σ)
    else
      if ¬ qa_in x2 176 = true then none else
      if ¬ qa_in x2 176 = true then none else
      let σ6 := qa_wi σ (10, 22) (x2).toNatClampNeg (σ.1 (10, 27) (x2).toNatClampNeg)
      let v7 : Int32 := x2 + Int32.ofInt 1
      qa_fX10_untilShown_53  n x1 v7 σ6
noncomputable def qa_fX10_untilShown_29  : Nat → Int32 → qa_T → Option (Int32 × qa_T)
  | 0, _, _ => none
  | n + 1, x1, σ =>
    if (σ.1 (10, 22) (((Int16.ofInt 142).toInt32)).toNatClampNeg) = (Int32.ofInt (-1)) then
      qa_fX10_untilShown_53  qa_fu x1 (Int32.ofInt 0) σ
    else
      (qa_fX10_ticks σ).bind fun c8 =>
      let v10 : Int32 := x1 + Int32.ofInt 1
      qa_fX10_untilShown_29  n v10 c8
noncomputable def qa_fX10_untilShown_2  : Nat → Int32 → qa_T → Option (Int32 × qa_T)
  | 0, _, _ => none
  | n + 1, x1, σ =>
    if ((Int16.ofInt 176).toInt32) ≤ x1 then
      qa_fX10_untilShown_29  qa_fu (Int32.ofInt 0) σ
    else
      if ¬ qa_in x1 176 = true then none else
      if ¬ qa_in x1 176 = true then none else
      let σ13 := qa_wi σ (10, 27) (x1).toNatClampNeg (σ.1 (10, 22) (x1).toNatClampNeg)
      let v14 : Int32 := x1 + Int32.ofInt 1
      qa_fX10_untilShown_2  n v14 σ13
noncomputable def qa_fX10_untilShown  (σ : qa_T) : Option (Int32 × qa_T) :=
    qa_fX10_untilShown_2  qa_fu (Int32.ofInt 0) σ
noncomputable def qa_fX10_toldTicks_23  (y0 : Int32) (σ : qa_T) : Option (Int32 × qa_T) :=
    some (y0, σ)
noncomputable def qa_fX10_toldTicks  (σ : qa_T) : Option (Int32 × qa_T) :=
    (qa_fX10_told ((Int16.ofInt 142).toInt32) σ).bind fun c1 =>
    if ¬ (c1.2.1 (10, 21) 9) = 0 then
      qa_fX10_toldTicks_23  (Int32.ofInt 0) c1.2
    else
      (qa_fX10_untilShown c1.2).bind fun c4 =>
      qa_fX10_toldTicks_23  c4.1 c4.2
noncomputable def qa_fX10_ticksToShowByTicks  (σ : qa_T) : Option (Int32 × qa_T) :=
    (qa_fX10_toldTicks σ).bind fun c1 =>
    some (c1.1, c1.2)
noncomputable def qa_fX10_ticksToShowBySums  (σ : qa_T) : Option (Int32 × qa_T) :=
    (qa_fX10_toldTicks σ).bind fun c1 =>
    some (c1.1, c1.2)
noncomputable def qa_fX10_burningsOf_20 (a1 : Int32) (σ : qa_T) : Option (Int32 × qa_T) :=
    some ((Int32.ofInt 0), σ)
noncomputable def qa_fX10_burningsOf (a1 : Int32) (σ : qa_T) : Option (Int32 × qa_T) :=
    (qa_fX10_loaded a1 σ).bind fun c1 =>
    if ¬ (qa_bi c1) = 0 then
      qa_fX10_burningsOf_20 a1 σ
    else
      if ¬ (σ.1 (10, 22) (((Int16.ofInt 144).toInt32)).toNatClampNeg) = a1 then
        (qa_fX10_keepsAside σ).bind fun c5 =>
        (qa_fX10_of a1 (Int32.ofInt 0) c5).bind fun c7 =>
        (qa_fX10_makesRoom c7 c5).bind fun c9 =>
        (qa_fX10_putsBack c9.2).bind fun c11 =>
        some (c9.1, c11)
      else
        qa_fX10_burningsOf_20 a1 σ
noncomputable def qa_fX10_burningsFor_17 (a1 : Int32) (y0 : Int32) (σ : qa_T) : Option (Int32 × qa_T) :=
    some (y0, σ)
noncomputable def qa_fX10_burningsFor (a1 : Int32) (σ : qa_T) : Option (Int32 × qa_T) :=
    let c1 := qa_fX10_isThere a1 σ
    if (qa_bi c1.1) = 0 then
      qa_fX10_burningsFor_17 a1 (Int32.ofInt 0) c1.2
    else
      (qa_fX10_burningsOf a1 c1.2).bind fun c3 =>
      qa_fX10_burningsFor_17 a1 c3.1 c3.2
noncomputable def qa_fX10_missing_54 (a1 : Int32) (k33 : Int32 → Int32 → qa_T → Option (Int32 × qa_T)) : Nat → Int32 → Int32 → qa_T → Option (Int32 × qa_T)
  | 0, _, _, _ => none
  | n + 1, x2, x3, σ =>
    if (σ.1 (10, 22) (((Int16.ofInt 142).toInt32)).toNatClampNeg) = (Int32.ofInt (-1)) then
      (qa_fX10_passes ((Int8.ofInt 10).toInt32) σ).bind fun c16 =>
      let v18 : Int32 := x3 + Int32.ofInt 1
      k33 x2 v18 c16.2
    else
      (qa_fX10_ticks σ).bind fun c19 =>
      qa_fX10_missing_54 a1 k33 n x2 x3 c19
noncomputable def qa_fX10_missing_33 (a1 : Int32) : Nat → Int32 → Int32 → qa_T → Option (Int32 × qa_T)
  | 0, _, _, _ => none
  | n + 1, x2, x3, σ =>
    if (σ.1 (10, 22) (((Int8.ofInt 113).toInt32)).toNatClampNeg) ≤ x3 then
      let v7 : Int32 := ((σ.1 (10, 22) (((Int16.ofInt 170).toInt32)).toNatClampNeg) - x2)
      (qa_fX10_putsBack σ).bind fun c8 =>
      some (v7, c8)
    else
      (qa_fX10_goesOn σ).bind fun c10 =>
      let v12 : Int32 := (qa_bi c10.1)
      (qa_fX10_begins c10.2).bind fun c13 =>
      qa_fX10_missing_54 a1 (qa_fX10_missing_33 a1 n) qa_fu x2 x3 c13
noncomputable def qa_fX10_missing (a1 : Int32) (σ : qa_T) : Option (Int32 × qa_T) :=
    (qa_fX10_keepsAside σ).bind fun c1 =>
    let v3 : Int32 := (c1.1 (10, 22) (((Int16.ofInt 170).toInt32)).toNatClampNeg)
    let σ4 := qa_wi c1 (10, 22) (((Int16.ofInt 165).toInt32)).toNatClampNeg a1
    let σ5 := qa_wi σ4 (10, 22) (((Int16.ofInt 167).toInt32)).toNatClampNeg (Int32.ofInt 0)
    qa_fX10_missing_33 a1 qa_fu v3 (Int32.ofInt 0) σ5
noncomputable def qa_fX10_missesWith_45 (a1 : Int32) (y0 : Int32) (σ : qa_T) : Option (Int32 × qa_T) :=
    some (y0, σ)
noncomputable def qa_fX10_missesWith_26 (a1 : Int32) (y0 : Int32) (σ : qa_T) : Option (Int32 × qa_T) :=
    let σ3 := qa_wi σ (10, 21) 9 y0
    if ¬ (σ3.1 (10, 21) 9) = 0 then
      qa_fX10_missesWith_45 a1 (Int32.ofInt 0) σ3
    else
      (qa_fX10_missing a1 σ3).bind fun c5 =>
      qa_fX10_missesWith_45 a1 c5.1 c5.2
noncomputable def qa_fX10_missesWith (a1 : Int32) (σ : qa_T) : Option (Int32 × qa_T) :=
    if ¬ (qa_bi (qa_fX10_in a1 (Int32.ofInt 0) (Int32.ofInt 2) σ)) = 0 then
      if (qa_bi (qa_fX10_canGoOn σ)) = 0 then
        qa_fX10_missesWith_26 a1 (Int32.ofInt 2) σ
      else
        qa_fX10_missesWith_26 a1 (Int32.ofInt 0) σ
    else
      qa_fX10_missesWith_26 a1 (Int32.ofInt 1) σ
noncomputable def qa_fX10_bestOrder_57  (x1 : Int32) (σ : qa_T) : Option (Int32 × qa_T) :=
    some (x1, σ)
noncomputable def qa_fX10_bestOrder_50  (k20 : Int32 → Int32 → qa_T → Option (Int32 × qa_T)) (x2 : Int32) (y0 : Int32) (σ : qa_T) : Option (Int32 × qa_T) :=
    let v10 : Int32 := x2 + Int32.ofInt 1
    k20 y0 v10 σ
noncomputable def qa_fX10_bestOrder_20  : Nat → Int32 → Int32 → qa_T → Option (Int32 × qa_T)
  | 0, _, _, _ => none
  | n + 1, x1, x2, σ =>
    if (Int32.ofInt 3) ≤ x2 then
      qa_fX10_bestOrder_57  x1 σ
    else
      if ¬ (σ.1 (10, 21) 9) = 0 then
        qa_fX10_bestOrder_57  x1 σ
      else
        (qa_fX10_missing x2 σ).bind fun c5 =>
        (qa_fX10_missing x1 c5.2).bind fun c7 =>
        if c7.1 ≤ c5.1 then
          qa_fX10_bestOrder_50  (qa_fX10_bestOrder_20  n) x2 x1 c7.2
        else
          qa_fX10_bestOrder_50  (qa_fX10_bestOrder_20  n) x2 x2 c7.2
noncomputable def qa_fX10_bestOrder_13  (y0 : Int32) (σ : qa_T) : Option (Int32 × qa_T) :=
    let σ2 := qa_wi σ (10, 21) 9 y0
    qa_fX10_bestOrder_20  qa_fu (Int32.ofInt 0) (Int32.ofInt 1) σ2
noncomputable def qa_fX10_bestOrder  (σ : qa_T) : Option (Int32 × qa_T) :=
    if (qa_bi (qa_fX10_canGoOn σ)) = 0 then
      qa_fX10_bestOrder_13  (Int32.ofInt 1) σ
    else
      qa_fX10_bestOrder_13  (Int32.ofInt 0) σ
noncomputable def qa_fX10_loads  (σ : qa_T) : Option (Int32 × qa_T) :=
    (qa_fX10_rule ((Int16.ofInt 171).toInt32) σ).bind fun c1 =>
    some (c1.1, c1.2)
noncomputable def qa_fX10_burnings  (σ : qa_T) : Option (Int32 × qa_T) :=
    (qa_fX10_rule ((Int16.ofInt 173).toInt32) σ).bind fun c1 =>
    some (c1.1, c1.2)
noncomputable def qa_fX10_time  (σ : qa_T) : Option (Int32 × qa_T) :=
    (qa_fX10_rule ((Int16.ofInt 168).toInt32) σ).bind fun c1 =>
    some (c1.1, c1.2)
noncomputable def qa_fX10_hits  (σ : qa_T) : Option (Int32 × qa_T) :=
    (qa_fX10_rule ((Int16.ofInt 169).toInt32) σ).bind fun c1 =>
    some (c1.1, c1.2)
noncomputable def qa_fX10_misses  (σ : qa_T) : Option (Int32 × qa_T) :=
    (qa_fX10_rule ((Int16.ofInt 170).toInt32) σ).bind fun c1 =>
    some (c1.1, c1.2)
noncomputable def qa_fX10_warmLoads  (σ : qa_T) : Option (Int32 × qa_T) :=
    (qa_fX10_rule ((Int16.ofInt 172).toInt32) σ).bind fun c1 =>
    some (c1.1, c1.2)
noncomputable def qa_fX10_waited  (σ : qa_T) : Option (Int32 × qa_T) :=
    (qa_fX10_rule ((Int16.ofInt 174).toInt32) σ).bind fun c1 =>
    some (c1.1, c1.2)
noncomputable def qa_fX10_share_38  (y0 : UInt64) (σ : qa_T) : Option UInt64 :=
    some y0
noncomputable def qa_fX10_share  (σ : qa_T) : Option UInt64 :=
    let v1 : Int32 := ((σ.1 (10, 22) (((Int16.ofInt 169).toInt32)).toNatClampNeg) + (σ.1 (10, 22) (((Int16.ofInt 170).toInt32)).toNatClampNeg))
    if ¬ v1 = 0 then
      if ¬ qa_nn (FP.ddiv (FP.i2d (σ.1 (10, 22) (((Int16.ofInt 169).toInt32)).toNatClampNeg)) (FP.i2d v1)) then none else
      qa_fX10_share_38  (FP.ddiv (FP.i2d (σ.1 (10, 22) (((Int16.ofInt 169).toInt32)).toNatClampNeg)) (FP.i2d v1)) σ
    else
      qa_fX10_share_38  FP.dconst0 σ
noncomputable def qa_fX10_hitShare  (σ : qa_T) : Option (UInt64 × qa_T) :=
    let σ1 := qa_wi σ (10, 21) 9 (Int32.ofInt 0)
    (qa_fX10_share σ1).bind fun c2 =>
    some (c2, σ1)
noncomputable def qa_fX10_bitsOf_98 (a1 : UInt64) (a2 : Int32) (a3 : Int32) (k72 : UInt64 → Int64 → Int32 → qa_T → Option Int64) (x7 : UInt64) (x9 : Int64) (x11 : Int32) (y0 : Int64) (σ : qa_T) : Option Int64 :=
    if ¬ qa_nn (FP.dsub x7 (FP.l2d y0)) then none else
    let v12 : UInt64 := (FP.dsub x7 (FP.l2d y0))
    let v13 : Int64 := (((2 : Int64) * x9) + y0)
    let v14 : Int32 := x11 + Int32.ofInt 1
    k72 v12 v13 v14 σ
noncomputable def qa_fX10_bitsOf_72 (a1 : UInt64) (a2 : Int32) (a3 : Int32) : Nat → UInt64 → Int64 → Int32 → qa_T → Option Int64
  | 0, _, _, _, _ => none
  | n + 1, x7, x9, x11, σ =>
    if a2 ≤ x11 then
      some x9
    else
      if ¬ qa_nn (FP.dmul x7 (4611686018427387904 : UInt64)) then none else
      let v9 : UInt64 := (FP.dmul x7 (4611686018427387904 : UInt64))
      if (Op.cmpValue (FP.dcmp v9 FP.dconst1) .l) < 0 then
        qa_fX10_bitsOf_98 a1 a2 a3 (qa_fX10_bitsOf_72 a1 a2 a3 n) v9 x9 x11 (Int64.ofNat ((0 : Fin 2) : Nat)) σ
      else
        qa_fX10_bitsOf_98 a1 a2 a3 (qa_fX10_bitsOf_72 a1 a2 a3 n) v9 x9 x11 (Int64.ofNat ((1 : Fin 2) : Nat)) σ
noncomputable def qa_fX10_bitsOf_37 (a1 : UInt64) (a2 : Int32) (a3 : Int32) : Nat → UInt64 → Int32 → qa_T → Option Int64
  | 0, _, _, _ => none
  | n + 1, x4, x6, σ =>
    if 0 ≤ (Op.cmpValue (FP.dcmp x4 FP.dconst1) .g) then
      if ¬ qa_nn (FP.dsub x4 FP.dconst1) then none else
      let v5 : UInt64 := (FP.dsub x4 FP.dconst1)
      let v6 : Int64 := ((x6).toInt64)
      qa_fX10_bitsOf_72 a1 a2 a3 qa_fu v5 v6 (Int32.ofInt 0) σ
    else
      if ¬ qa_nn (FP.dmul x4 (4611686018427387904 : UInt64)) then none else
      let v16 : UInt64 := (FP.dmul x4 (4611686018427387904 : UInt64))
      let v17 : Int32 := x6 + Int32.ofInt (-1)
      qa_fX10_bitsOf_37 a1 a2 a3 n v16 v17 σ
noncomputable def qa_fX10_bitsOf_14 (a1 : UInt64) (a2 : Int32) (a3 : Int32) : Nat → UInt64 → Int32 → qa_T → Option Int64
  | 0, _, _, _ => none
  | n + 1, x4, x6, σ =>
    if (Op.cmpValue (FP.dcmp x4 (4611686018427387904 : UInt64)) .l) < 0 then
      qa_fX10_bitsOf_37 a1 a2 a3 qa_fu x4 x6 σ
    else
      if ¬ qa_nn (FP.ddiv x4 (4611686018427387904 : UInt64)) then none else
      let v19 : UInt64 := (FP.ddiv x4 (4611686018427387904 : UInt64))
      let v20 : Int32 := x6 + Int32.ofInt 1
      qa_fX10_bitsOf_14 a1 a2 a3 n v19 v20 σ
noncomputable def qa_fX10_bitsOf (a1 : UInt64) (a2 : Int32) (a3 : Int32) (σ : qa_T) : Option Int64 :=
    if ¬ (Op.cmpValue (FP.dcmp a1 FP.dconst0) .l) = 0 then
      qa_fX10_bitsOf_14 a1 a2 a3 qa_fu a1 a3 σ
    else
      some (Int64.ofNat ((0 : Fin 2) : Nat))
noncomputable def qa_fX10_mix (a1 : Int64) (σ : qa_T) : qa_T :=
    let σ1 := qa_wl σ (10, 21) 14 (((31 : Int64) * (σ.2 (10, 21) 14)) + a1)
    σ1
noncomputable def qa_fX10_mixesSlide_132 (a1 : Int32) (y0 : Int64) (σ : qa_T) : Option qa_T :=
    let σ30 := qa_fX10_mix y0 σ
    (qa_fX10_burningsOf a1 σ30).bind fun c31 =>
    let σ33 := qa_fX10_mix ((c31.1).toInt64) c31.2
    some σ33
noncomputable def qa_fX10_mixesSlide_108 (a1 : Int32) (y0 : Int64) (σ : qa_T) : Option qa_T :=
    let σ26 := qa_fX10_mix y0 σ
    (qa_fX10_canBurn a1 σ26).bind fun c27 =>
    if (qa_bi c27) = 0 then
      qa_fX10_mixesSlide_132 a1 (Int64.ofNat ((0 : Fin 2) : Nat)) σ26
    else
      (qa_fX10_inOrder a1 σ26).bind fun c34 =>
      qa_fX10_mixesSlide_132 a1 (((c34 + (Int32.ofInt 1))).toInt64) σ26
noncomputable def qa_fX10_mixesSlide_57 (a1 : Int32) (y0 : Int64) (σ : qa_T) : Option qa_T :=
    let σ14 := qa_fX10_mix y0 σ
    (qa_fX10_of a1 (Int32.ofInt 4) σ14).bind fun c15 =>
    let σ17 := qa_fX10_mix ((c15).toInt64) σ14
    (qa_fX10_of a1 (Int32.ofInt 5) σ17).bind fun c18 =>
    let σ20 := qa_fX10_mix ((c18).toInt64) σ17
    (qa_fX10_nextOf a1 σ20).bind fun c21 =>
    if c21 ≤ (σ20.1 (10, 22) (((Int8.ofInt 113).toInt32)).toNatClampNeg) then
      (qa_fX10_nextOf a1 σ20).bind fun c24 =>
      qa_fX10_mixesSlide_108 a1 ((c24).toInt64) σ20
    else
      qa_fX10_mixesSlide_108 a1 (Int64.ofNat ((0 : Fin 2) : Nat)) σ20
noncomputable def qa_fX10_mixesSlide (a1 : Int32) (σ : qa_T) : Option qa_T :=
    (qa_fX10_of a1 (Int32.ofInt 0) σ).bind fun c1 =>
    let σ3 := qa_fX10_mix ((c1).toInt64) σ
    (qa_fX10_due a1 σ3).bind fun c4 =>
    let σ6 := qa_fX10_mix ((c4).toInt64) σ3
    (qa_fX10_of a1 (Int32.ofInt 2) σ6).bind fun c7 =>
    let σ9 := qa_fX10_mix ((c7).toInt64) σ6
    (qa_fX10_of a1 (Int32.ofInt 3) σ9).bind fun c10 =>
    let σ12 := qa_fX10_mix ((c10).toInt64) σ9
    if (qa_bi (qa_fX10_onShow a1 σ12)) = 0 then
      qa_fX10_mixesSlide_57 a1 (Int64.ofNat ((0 : Fin 2) : Nat)) σ12
    else
      qa_fX10_mixesSlide_57 a1 (Int64.ofNat ((1 : Fin 2) : Nat)) σ12
noncomputable def qa_fX10_digest_448  : Nat → Int32 → qa_T → Option (Int64 × qa_T)
  | 0, _, _ => none
  | n + 1, x2, σ =>
    if (σ.1 (10, 21) 8) ≤ x2 then
      some ((σ.2 (10, 21) 14), σ)
    else
      if ¬ qa_in x2 60 = true then none else
      let σ44 := qa_fX10_mix (((σ.1 (10, 28) (x2).toNatClampNeg)).toInt64) σ
      let v45 : Int32 := x2 + Int32.ofInt 1
      qa_fX10_digest_448  n v45 σ44
noncomputable def qa_fX10_digest_434  (y0 : Int64) (σ : qa_T) : Option (Int64 × qa_T) :=
    let σ40 := qa_fX10_mix y0 σ
    let σ41 := qa_fX10_mix (((σ40.1 (10, 21) 8)).toInt64) σ40
    qa_fX10_digest_448  qa_fu (Int32.ofInt 0) σ41
noncomputable def qa_fX10_digest_416  (y0 : Int64) (σ : qa_T) : Option (Int64 × qa_T) :=
    let σ38 := qa_fX10_mix y0 σ
    if (σ38.1 (10, 25) ((Int32.ofInt 1)).toNatClampNeg) = 0 then
      qa_fX10_digest_434  (Int64.ofNat ((0 : Fin 2) : Nat)) σ38
    else
      qa_fX10_digest_434  (Int64.ofNat ((1 : Fin 2) : Nat)) σ38
noncomputable def qa_fX10_digest_352  : Nat → Int32 → qa_T → Option (Int64 × qa_T)
  | 0, _, _ => none
  | n + 1, x2, σ =>
    if ((Int16.ofInt 174).toInt32) < x2 then
      let σ31 := qa_fX10_mix (((σ.1 (10, 21) 2)).toInt64) σ
      (qa_fX10_share σ31).bind fun c32 =>
      (qa_fX10_bitsOf c32 ((Int8.ofInt 52).toInt32) ((Int16.ofInt 1023).toInt32) σ31).bind fun c34 =>
      let σ36 := qa_fX10_mix c34 σ31
      if (σ36.1 (10, 25) ((Int32.ofInt 0)).toNatClampNeg) = 0 then
        qa_fX10_digest_416  (Int64.ofNat ((0 : Fin 2) : Nat)) σ36
      else
        qa_fX10_digest_416  (Int64.ofNat ((1 : Fin 2) : Nat)) σ36
    else
      if ¬ qa_in x2 176 = true then none else
      let σ47 := qa_fX10_mix (((σ.1 (10, 22) (x2).toNatClampNeg)).toInt64) σ
      let v48 : Int32 := x2 + Int32.ofInt 1
      qa_fX10_digest_352  n v48 σ47
noncomputable def qa_fX10_digest_335  (y0 : Int32) (σ : qa_T) : Option (Int64 × qa_T) :=
    let σ28 := qa_fX10_mix ((y0).toInt64) σ
    let σ29 := qa_fX10_mix ((y0).toInt64) σ28
    qa_fX10_digest_352  qa_fu ((Int16.ofInt 168).toInt32) σ29
noncomputable def qa_fX10_digest_291  : Nat → Int32 → qa_T → Option (Int64 × qa_T)
  | 0, _, _ => none
  | n + 1, x1, σ =>
    if ((Int16.ofInt 167).toInt32) < x1 then
      if ¬ (σ.1 (10, 22) (((Int16.ofInt 142).toInt32)).toNatClampNeg) = (Int32.ofInt (-1)) then
        (qa_fX10_untilShown σ).bind fun c26 =>
        qa_fX10_digest_335  c26.1 c26.2
      else
        qa_fX10_digest_335  (Int32.ofInt 0) σ
    else
      if ¬ qa_in x1 176 = true then none else
      let σ50 := qa_fX10_mix (((σ.1 (10, 22) (x1).toNatClampNeg)).toInt64) σ
      let v51 : Int32 := x1 + Int32.ofInt 1
      qa_fX10_digest_291  n v51 σ50
noncomputable def qa_fX10_digest_236  : Nat → Int32 → qa_T → Option (Int64 × qa_T)
  | 0, _, _ => none
  | n + 1, x1, σ =>
    if (σ.1 (10, 22) (((Int16.ofInt 146).toInt32)).toNatClampNeg) ≤ x1 then
      (qa_fX10_taken σ).bind fun c18 =>
      let σ20 := qa_fX10_mix ((c18).toInt64) σ
      (qa_fX10_taken σ20).bind fun c21 =>
      let σ23 := qa_fX10_mix ((c21).toInt64) σ20
      qa_fX10_digest_291  qa_fu ((Int16.ofInt 163).toInt32) σ23
    else
      if ¬ qa_in (((Int16.ofInt 147).toInt32) + x1) 176 = true then none else
      let σ53 := qa_fX10_mix (((σ.1 (10, 22) ((((Int16.ofInt 147).toInt32) + x1)).toNatClampNeg)).toInt64) σ
      let v54 : Int32 := x1 + Int32.ofInt 1
      qa_fX10_digest_236  n v54 σ53
noncomputable def qa_fX10_digest_190  (y0 : Int64) (σ : qa_T) : Option (Int64 × qa_T) :=
    let σ13 := qa_fX10_mix y0 σ
    let σ14 := qa_fX10_mix ((((σ13.1 (10, 22) (((Int16.ofInt 144).toInt32)).toNatClampNeg) + (Int32.ofInt 1))).toInt64) σ13
    let σ15 := qa_fX10_mix (((σ14.1 (10, 22) (((Int16.ofInt 145).toInt32)).toNatClampNeg)).toInt64) σ14
    let σ16 := qa_fX10_mix (((σ15.1 (10, 22) (((Int16.ofInt 146).toInt32)).toNatClampNeg)).toInt64) σ15
    qa_fX10_digest_236  qa_fu (Int32.ofInt 0) σ16
noncomputable def qa_fX10_digest_60  : Nat → Int32 → qa_T → Option (Int64 × qa_T)
  | 0, _, _ => none
  | n + 1, x1, σ =>
    if (σ.1 (10, 22) (((Int8.ofInt 113).toInt32)).toNatClampNeg) ≤ x1 then
      let σ7 := qa_fX10_mix ((((σ.1 (10, 22) (((Int16.ofInt 138).toInt32)).toNatClampNeg) + (Int32.ofInt 1))).toInt64) σ
      let σ8 := qa_fX10_mix ((((σ7.1 (10, 22) (((Int16.ofInt 139).toInt32)).toNatClampNeg) + (Int32.ofInt 1))).toInt64) σ7
      let σ9 := qa_fX10_mix ((((σ8.1 (10, 22) (((Int16.ofInt 140).toInt32)).toNatClampNeg) + (Int32.ofInt 1))).toInt64) σ8
      let σ10 := qa_fX10_mix (((σ9.1 (10, 22) (((Int16.ofInt 141).toInt32)).toNatClampNeg)).toInt64) σ9
      let σ11 := qa_fX10_mix ((((σ10.1 (10, 22) (((Int16.ofInt 142).toInt32)).toNatClampNeg) + (Int32.ofInt 1))).toInt64) σ10
      if ¬ (σ11.1 (10, 22) (((Int16.ofInt 139).toInt32)).toNatClampNeg) = (Int32.ofInt (-1)) then
        qa_fX10_digest_190  (((σ11.1 (10, 22) (((Int16.ofInt 143).toInt32)).toNatClampNeg)).toInt64) σ11
      else
        qa_fX10_digest_190  (Int64.ofNat ((0 : Fin 2) : Nat)) σ11
    else
      if ¬ qa_in (((Int8.ofInt 114).toInt32) + x1) 176 = true then none else
      let σ56 := qa_fX10_mix (((σ.1 (10, 22) ((((Int8.ofInt 114).toInt32) + x1)).toNatClampNeg)).toInt64) σ
      let v57 : Int32 := x1 + Int32.ofInt 1
      qa_fX10_digest_60  n v57 σ56
noncomputable def qa_fX10_digest_25  : Nat → Int32 → qa_T → Option (Int64 × qa_T)
  | 0, _, _ => none
  | n + 1, x1, σ =>
    if (σ.1 (10, 22) ((Int32.ofInt 0)).toNatClampNeg) ≤ x1 then
      let σ5 := qa_fX10_mix (((σ.1 (10, 22) (((Int8.ofInt 113).toInt32)).toNatClampNeg)).toInt64) σ
      qa_fX10_digest_60  qa_fu (Int32.ofInt 0) σ5
    else
      (qa_fX10_mixesSlide x1 σ).bind fun c58 =>
      let v60 : Int32 := x1 + Int32.ofInt 1
      qa_fX10_digest_25  n v60 c58
noncomputable def qa_fX10_digest  (σ : qa_T) : Option (Int64 × qa_T) :=
    let σ1 := qa_wi σ (10, 21) 9 (Int32.ofInt 0)
    let σ2 := qa_wl σ1 (10, 21) 14 (4447 : Int64)
    let σ3 := qa_fX10_mix (((σ2.1 (10, 22) ((Int32.ofInt 0)).toNatClampNeg)).toInt64) σ2
    qa_fX10_digest_25  qa_fu (Int32.ofInt 0) σ3
noncomputable def qa_fL_addSlide (a2 : Int32) (a3 : Int32) (a4 : Int32) (σ : qa_T) : Option (Int32 × qa_T) :=
    (qa_fX9_addSlide a2 a3 a4 σ).bind fun c1 => match c1 with
      | (.inl r3, σ4) =>
        let σ6 := qa_wl σ4 (10, 29) ((Int32.ofInt 0)).toNatClampNeg ((r3).toInt64)
        some ((Int32.ofInt 0), σ6)
      | (.inr E5, σ4) =>
        if E5 = 342 then some (Int32.ofInt 1, σ4) else
        if E5 = 348 then some (Int32.ofInt 2, σ4) else
        none
noncomputable def qa_fL_insert (a2 : Int32) (a3 : Int32) (σ : qa_T) : Option (Int32 × qa_T) :=
    (qa_fX9_insert a2 a3 σ).bind fun c1 => match c1 with
      | (.inl r3, σ4) =>
        let σ6 := qa_wl σ4 (10, 29) ((Int32.ofInt 0)).toNatClampNeg ((r3).toInt64)
        some ((Int32.ofInt 0), σ6)
      | (.inr E5, σ4) =>
        if E5 = 345 then some (Int32.ofInt 1, σ4) else
        if E5 = 348 then some (Int32.ofInt 2, σ4) else
        none
noncomputable def qa_fL_takeOut (a2 : Int32) (σ : qa_T) : Option (Int32 × qa_T) :=
    (qa_fX9_takeOut a2 σ).bind fun c1 => match c1 with
      | (.inl r3, σ4) =>
        let σ6 := qa_wl σ4 (10, 29) ((Int32.ofInt 0)).toNatClampNeg ((r3).toInt64)
        some ((Int32.ofInt 0), σ6)
      | (.inr E5, σ4) =>
        if E5 = 345 then some (Int32.ofInt 1, σ4) else
        none
noncomputable def qa_fL_goOn_14  (y0 : Int64) (σ : qa_T) : Option (Int32 × qa_T) :=
    let σ7 := qa_wl σ (10, 29) ((Int32.ofInt 0)).toNatClampNeg y0
    some ((Int32.ofInt 0), σ7)
noncomputable def qa_fL_goOn  (σ : qa_T) : Option (Int32 × qa_T) :=
    (qa_fX9_goOn σ).bind fun c1 => match c1 with
      | (.inl r3, σ4) =>
        if (qa_bi r3) = 0 then
          qa_fL_goOn_14  (Int64.ofNat ((0 : Fin 2) : Nat)) σ4
        else
          qa_fL_goOn_14  (Int64.ofNat ((1 : Fin 2) : Nat)) σ4
      | (.inr E5, σ4) =>
        if E5 = 348 then some (Int32.ofInt 1, σ4) else
        none
noncomputable def qa_fL_ask (a2 : Int32) (σ : qa_T) : Option (Int32 × qa_T) :=
    (qa_fX9_ask a2 σ).bind fun c1 => match c1 with
      | (.inl r3, σ4) =>
        let σ6 := qa_wl σ4 (10, 29) ((Int32.ofInt 0)).toNatClampNeg ((r3).toInt64)
        some ((Int32.ofInt 0), σ6)
      | (.inr E5, σ4) =>
        if E5 = 345 then some (Int32.ofInt 1, σ4) else
        if E5 = 348 then some (Int32.ofInt 2, σ4) else
        none
noncomputable def qa_fL_burn (a2 : Int32) (σ : qa_T) : Option (Int32 × qa_T) :=
    (qa_fX9_burn a2 σ).bind fun c1 => match c1 with
      | (.inl r3, σ4) =>
        let σ6 := qa_wl σ4 (10, 29) ((Int32.ofInt 0)).toNatClampNeg ((r3).toInt64)
        some ((Int32.ofInt 0), σ6)
      | (.inr E5, σ4) =>
        if E5 = 345 then some (Int32.ofInt 1, σ4) else
        if E5 = 348 then some (Int32.ofInt 2, σ4) else
        none
noncomputable def qa_fL_tick (a2 : Int32) (σ : qa_T) : Option (Int32 × qa_T) :=
    (qa_fX9_tick a2 σ).bind fun c1 => match c1 with
      | (.inl r3, σ4) =>
        let σ6 := qa_wl σ4 (10, 29) ((Int32.ofInt 0)).toNatClampNeg ((r3).toInt64)
        some ((Int32.ofInt 0), σ6)
      | (.inr E5, σ4) =>
        if E5 = 342 then some (Int32.ofInt 1, σ4) else
        none
noncomputable def qa_fL_changeMemory (a2 : Int32) (σ : qa_T) : Option (Int32 × qa_T) :=
    (qa_fX9_changeMemory a2 σ).bind fun c1 => match c1 with
      | (.inl r3, σ4) =>
        let σ6 := qa_wl σ4 (10, 29) ((Int32.ofInt 0)).toNatClampNeg ((r3).toInt64)
        some ((Int32.ofInt 0), σ6)
      | (.inr E5, σ4) =>
        if E5 = 342 then some (Int32.ofInt 1, σ4) else
        none
noncomputable def qa_fL_changeAhead (a2 : Int32) (σ : qa_T) : Option (Int32 × qa_T) :=
    (qa_fX9_changeAhead a2 σ).bind fun c1 => match c1 with
      | (.inl r3, σ4) =>
        let σ6 := qa_wl σ4 (10, 29) ((Int32.ofInt 0)).toNatClampNeg ((r3).toInt64)
        some ((Int32.ofInt 0), σ6)
      | (.inr E5, σ4) =>
        if E5 = 342 then some (Int32.ofInt 1, σ4) else
        none
noncomputable def qa_fL_changeOrder (a2 : Int32) (σ : qa_T) : Option (Int32 × qa_T) :=
    (qa_fX9_changeOrder a2 σ).bind fun c1 => match c1 with
      | (.inl r3, σ4) =>
        let σ6 := qa_wl σ4 (10, 29) ((Int32.ofInt 0)).toNatClampNeg ((r3).toInt64)
        some ((Int32.ofInt 0), σ6)
      | (.inr E5, σ4) =>
        if E5 = 342 then some (Int32.ofInt 1, σ4) else
        none
noncomputable def qa_fL_changeGlow (a2 : Int32) (σ : qa_T) : Option (Int32 × qa_T) :=
    (qa_fX9_changeGlow a2 σ).bind fun c1 => match c1 with
      | (.inl r3, σ4) =>
        let σ6 := qa_wl σ4 (10, 29) ((Int32.ofInt 0)).toNatClampNeg ((r3).toInt64)
        some ((Int32.ofInt 0), σ6)
      | (.inr E5, σ4) =>
        if E5 = 342 then some (Int32.ofInt 1, σ4) else
        none
noncomputable def qa_fL_changePace (a2 : Int32) (σ : qa_T) : Option (Int32 × qa_T) :=
    (qa_fX9_changePace a2 σ).bind fun c1 => match c1 with
      | (.inl r3, σ4) =>
        let σ6 := qa_wl σ4 (10, 29) ((Int32.ofInt 0)).toNatClampNeg ((r3).toInt64)
        some ((Int32.ofInt 0), σ6)
      | (.inr E5, σ4) =>
        if E5 = 342 then some (Int32.ofInt 1, σ4) else
        none
noncomputable def qa_fL_append (a2 : Int32) (σ : qa_T) : Option (Int32 × qa_T) :=
    (some (qa_fX9_append a2 σ)).bind fun c1 => match c1 with
      | (.inl r3, σ4) =>
        let σ6 := qa_wl σ4 (10, 29) ((Int32.ofInt 0)).toNatClampNeg ((r3).toInt64)
        some ((Int32.ofInt 0), σ6)
      | (.inr E5, σ4) =>
        if E5 = 342 then some (Int32.ofInt 1, σ4) else
        if E5 = 348 then some (Int32.ofInt 2, σ4) else
        none
noncomputable def qa_fL_follow  (σ : qa_T) : Option (Int32 × qa_T) :=
    (qa_fX9_follow σ).bind fun c1 => match c1 with
      | (.inl r3, σ4) =>
        let σ6 := qa_wl σ4 (10, 29) ((Int32.ofInt 0)).toNatClampNeg ((r3).toInt64)
        some ((Int32.ofInt 0), σ6)
      | (.inr E5, σ4) =>
        if E5 = 342 then some (Int32.ofInt 1, σ4) else
        if E5 = 348 then some (Int32.ofInt 2, σ4) else
        none
noncomputable def qa_fL_keep (a2 : Int32) (σ : qa_T) : Option (Int32 × qa_T) :=
    (qa_fX9_keep a2 σ).bind fun c1 => match c1 with
      | (.inl _, σ4) =>
        some ((Int32.ofInt 0), σ4)
      | (.inr E5, σ4) =>
        if E5 = 342 then some (Int32.ofInt 1, σ4) else
        none
noncomputable def qa_fL_goBack (a2 : Int32) (σ : qa_T) : Option (Int32 × qa_T) :=
    (qa_fX9_goBack a2 σ).bind fun c1 => match c1 with
      | (.inl _, σ4) =>
        some ((Int32.ofInt 0), σ4)
      | (.inr E5, σ4) =>
        if E5 = 342 then some (Int32.ofInt 1, σ4) else
        if E5 = 348 then some (Int32.ofInt 2, σ4) else
        none
noncomputable def qa_fL_undo  (σ : qa_T) : Option (Int32 × qa_T) :=
    (qa_fX9_undo σ).bind fun c1 => match c1 with
      | (.inl _, σ4) =>
        some ((Int32.ofInt 0), σ4)
      | (.inr E5, σ4) =>
        if E5 = 348 then some (Int32.ofInt 1, σ4) else
        none
noncomputable def qa_fL_costOf (a2 : Int32) (σ : qa_T) : Option (Int32 × qa_T) :=
    (some (qa_fX9_costOf a2 σ)).bind fun c1 => match c1 with
      | (.inl r3, σ4) =>
        let σ6 := qa_wl σ4 (10, 29) ((Int32.ofInt 0)).toNatClampNeg ((r3).toInt64)
        some ((Int32.ofInt 0), σ6)
      | (.inr E5, σ4) =>
        if E5 = 345 then some (Int32.ofInt 1, σ4) else
        none
noncomputable def qa_fL_loadOf (a2 : Int32) (σ : qa_T) : Option (Int32 × qa_T) :=
    (some (qa_fX9_loadOf a2 σ)).bind fun c1 => match c1 with
      | (.inl r3, σ4) =>
        let σ6 := qa_wl σ4 (10, 29) ((Int32.ofInt 0)).toNatClampNeg ((r3).toInt64)
        some ((Int32.ofInt 0), σ6)
      | (.inr E5, σ4) =>
        if E5 = 345 then some (Int32.ofInt 1, σ4) else
        none
noncomputable def qa_fL_fadeOf (a2 : Int32) (σ : qa_T) : Option (Int32 × qa_T) :=
    (some (qa_fX9_fadeOf a2 σ)).bind fun c1 => match c1 with
      | (.inl r3, σ4) =>
        let σ6 := qa_wl σ4 (10, 29) ((Int32.ofInt 0)).toNatClampNeg ((r3).toInt64)
        some ((Int32.ofInt 0), σ6)
      | (.inr E5, σ4) =>
        if E5 = 345 then some (Int32.ofInt 1, σ4) else
        none
noncomputable def qa_fL_isLoaded_15 (a2 : Int32) (y0 : Int64) (σ : qa_T) : Option (Int32 × qa_T) :=
    let σ7 := qa_wl σ (10, 29) ((Int32.ofInt 0)).toNatClampNeg y0
    some ((Int32.ofInt 0), σ7)
noncomputable def qa_fL_isLoaded (a2 : Int32) (σ : qa_T) : Option (Int32 × qa_T) :=
    (some (qa_fX9_isLoaded a2 σ)).bind fun c1 => match c1 with
      | (.inl r3, σ4) =>
        if (qa_bi r3) = 0 then
          qa_fL_isLoaded_15 a2 (Int64.ofNat ((0 : Fin 2) : Nat)) σ4
        else
          qa_fL_isLoaded_15 a2 (Int64.ofNat ((1 : Fin 2) : Nat)) σ4
      | (.inr E5, σ4) =>
        if E5 = 345 then some (Int32.ofInt 1, σ4) else
        none
noncomputable def qa_fL_isOnShow_15 (a2 : Int32) (y0 : Int64) (σ : qa_T) : Option (Int32 × qa_T) :=
    let σ7 := qa_wl σ (10, 29) ((Int32.ofInt 0)).toNatClampNeg y0
    some ((Int32.ofInt 0), σ7)
noncomputable def qa_fL_isOnShow (a2 : Int32) (σ : qa_T) : Option (Int32 × qa_T) :=
    (some (qa_fX9_isOnShow a2 σ)).bind fun c1 => match c1 with
      | (.inl r3, σ4) =>
        if (qa_bi r3) = 0 then
          qa_fL_isOnShow_15 a2 (Int64.ofNat ((0 : Fin 2) : Nat)) σ4
        else
          qa_fL_isOnShow_15 a2 (Int64.ofNat ((1 : Fin 2) : Nat)) σ4
      | (.inr E5, σ4) =>
        if E5 = 345 then some (Int32.ofInt 1, σ4) else
        none
noncomputable def qa_fL_glowOf (a2 : Int32) (σ : qa_T) : Option (Int32 × qa_T) :=
    (some (qa_fX9_glowOf a2 σ)).bind fun c1 => match c1 with
      | (.inl r3, σ4) =>
        let σ6 := qa_wl σ4 (10, 29) ((Int32.ofInt 0)).toNatClampNeg ((r3).toInt64)
        some ((Int32.ofInt 0), σ6)
      | (.inr E5, σ4) =>
        if E5 = 345 then some (Int32.ofInt 1, σ4) else
        none
noncomputable def qa_fL_burntTimes (a2 : Int32) (σ : qa_T) : Option (Int32 × qa_T) :=
    (some (qa_fX9_burntTimes a2 σ)).bind fun c1 => match c1 with
      | (.inl r3, σ4) =>
        let σ6 := qa_wl σ4 (10, 29) ((Int32.ofInt 0)).toNatClampNeg ((r3).toInt64)
        some ((Int32.ofInt 0), σ6)
      | (.inr E5, σ4) =>
        if E5 = 345 then some (Int32.ofInt 1, σ4) else
        none
noncomputable def qa_fL_nextUse (a2 : Int32) (σ : qa_T) : Option (Int32 × qa_T) :=
    (qa_fX9_nextUse a2 σ).bind fun c1 => match c1 with
      | (.inl r3, σ4) =>
        let σ6 := qa_wl σ4 (10, 29) ((Int32.ofInt 0)).toNatClampNeg ((r3).toInt64)
        some ((Int32.ofInt 0), σ6)
      | (.inr E5, σ4) =>
        if E5 = 345 then some (Int32.ofInt 1, σ4) else
        if E5 = 348 then some (Int32.ofInt 2, σ4) else
        none
noncomputable def qa_fL_burnPlace (a2 : Int32) (σ : qa_T) : Option (Int32 × qa_T) :=
    (qa_fX9_burnPlace a2 σ).bind fun c1 => match c1 with
      | (.inl r3, σ4) =>
        let σ6 := qa_wl σ4 (10, 29) ((Int32.ofInt 0)).toNatClampNeg ((r3).toInt64)
        some ((Int32.ofInt 0), σ6)
      | (.inr E5, σ4) =>
        if E5 = 345 then some (Int32.ofInt 1, σ4) else
        if E5 = 348 then some (Int32.ofInt 2, σ4) else
        none
noncomputable def qa_fL_slideAt (a2 : Int32) (σ : qa_T) : Option (Int32 × qa_T) :=
    (some (qa_fX9_slideAt a2 σ)).bind fun c1 => match c1 with
      | (.inl r3, σ4) =>
        let σ6 := qa_wl σ4 (10, 29) ((Int32.ofInt 0)).toNatClampNeg ((r3).toInt64)
        some ((Int32.ofInt 0), σ6)
      | (.inr E5, σ4) =>
        if E5 = 345 then some (Int32.ofInt 1, σ4) else
        none
noncomputable def qa_fL_showPlace  (σ : qa_T) : Option (Int32 × qa_T) :=
    (some (qa_fX9_showPlace σ)).bind fun c1 => match c1 with
      | (.inl r3, σ4) =>
        let σ6 := qa_wl σ4 (10, 29) ((Int32.ofInt 0)).toNatClampNeg ((r3).toInt64)
        some ((Int32.ofInt 0), σ6)
      | (.inr E5, σ4) =>
        if E5 = 348 then some (Int32.ofInt 1, σ4) else
        none
noncomputable def qa_fL_shown  (σ : qa_T) : Option (Int32 × qa_T) :=
    (some (qa_fX9_shown σ)).bind fun c1 => match c1 with
      | (.inl r3, σ4) =>
        let σ6 := qa_wl σ4 (10, 29) ((Int32.ofInt 0)).toNatClampNeg ((r3).toInt64)
        some ((Int32.ofInt 0), σ6)
      | (.inr E5, σ4) =>
        if E5 = 348 then some (Int32.ofInt 1, σ4) else
        none
noncomputable def qa_fL_fading  (σ : qa_T) : Option (Int32 × qa_T) :=
    (some (qa_fX9_fading σ)).bind fun c1 => match c1 with
      | (.inl r3, σ4) =>
        let σ6 := qa_wl σ4 (10, 29) ((Int32.ofInt 0)).toNatClampNeg ((r3).toInt64)
        some ((Int32.ofInt 0), σ6)
      | (.inr E5, σ4) =>
        if E5 = 348 then some (Int32.ofInt 1, σ4) else
        none
noncomputable def qa_fL_awaited  (σ : qa_T) : Option (Int32 × qa_T) :=
    (some (qa_fX9_awaited σ)).bind fun c1 => match c1 with
      | (.inl r3, σ4) =>
        let σ6 := qa_wl σ4 (10, 29) ((Int32.ofInt 0)).toNatClampNeg ((r3).toInt64)
        some ((Int32.ofInt 0), σ6)
      | (.inr E5, σ4) =>
        if E5 = 348 then some (Int32.ofInt 1, σ4) else
        none
noncomputable def qa_fL_shownFor  (σ : qa_T) : Option (Int32 × qa_T) :=
    (some (qa_fX9_shownFor σ)).bind fun c1 => match c1 with
      | (.inl r3, σ4) =>
        let σ6 := qa_wl σ4 (10, 29) ((Int32.ofInt 0)).toNatClampNeg ((r3).toInt64)
        some ((Int32.ofInt 0), σ6)
      | (.inr E5, σ4) =>
        if E5 = 348 then some (Int32.ofInt 1, σ4) else
        none
noncomputable def qa_fL_loading  (σ : qa_T) : Option (Int32 × qa_T) :=
    (some (qa_fX9_loading σ)).bind fun c1 => match c1 with
      | (.inl r3, σ4) =>
        let σ6 := qa_wl σ4 (10, 29) ((Int32.ofInt 0)).toNatClampNeg ((r3).toInt64)
        some ((Int32.ofInt 0), σ6)
      | (.inr E5, σ4) =>
        if E5 = 348 then some (Int32.ofInt 1, σ4) else
        none
noncomputable def qa_fL_askedAt (a2 : Int32) (σ : qa_T) : Option (Int32 × qa_T) :=
    (some (qa_fX9_askedAt a2 σ)).bind fun c1 => match c1 with
      | (.inl r3, σ4) =>
        let σ6 := qa_wl σ4 (10, 29) ((Int32.ofInt 0)).toNatClampNeg ((r3).toInt64)
        some ((Int32.ofInt 0), σ6)
      | (.inr E5, σ4) =>
        if E5 = 345 then some (Int32.ofInt 1, σ4) else
        none
noncomputable def qa_fL_ticksToShowByTicks  (σ : qa_T) : Option (Int32 × qa_T) :=
    (qa_fX9_ticksToShowByTicks σ).bind fun c1 => match c1 with
      | (.inl r3, σ4) =>
        let σ6 := qa_wl σ4 (10, 29) ((Int32.ofInt 0)).toNatClampNeg ((r3).toInt64)
        some ((Int32.ofInt 0), σ6)
      | (.inr E5, σ4) =>
        if E5 = 348 then some (Int32.ofInt 1, σ4) else
        none
noncomputable def qa_fL_ticksToShowBySums  (σ : qa_T) : Option (Int32 × qa_T) :=
    (some (qa_fX9_ticksToShowBySums σ)).bind fun c1 => match c1 with
      | (.inl r3, σ4) =>
        let σ6 := qa_wl σ4 (10, 29) ((Int32.ofInt 0)).toNatClampNeg ((r3).toInt64)
        some ((Int32.ofInt 0), σ6)
      | (.inr E5, σ4) =>
        if E5 = 348 then some (Int32.ofInt 1, σ4) else
        none
noncomputable def qa_fL_burningsFor (a2 : Int32) (σ : qa_T) : Option (Int32 × qa_T) :=
    (qa_fX9_burningsFor a2 σ).bind fun c1 => match c1 with
      | (.inl r3, σ4) =>
        let σ6 := qa_wl σ4 (10, 29) ((Int32.ofInt 0)).toNatClampNeg ((r3).toInt64)
        some ((Int32.ofInt 0), σ6)
      | (.inr E5, σ4) =>
        if E5 = 345 then some (Int32.ofInt 1, σ4) else
        none
noncomputable def qa_fL_missesWith (a2 : Int32) (σ : qa_T) : Option (Int32 × qa_T) :=
    (qa_fX9_missesWith a2 σ).bind fun c1 => match c1 with
      | (.inl r3, σ4) =>
        let σ6 := qa_wl σ4 (10, 29) ((Int32.ofInt 0)).toNatClampNeg ((r3).toInt64)
        some ((Int32.ofInt 0), σ6)
      | (.inr E5, σ4) =>
        if E5 = 342 then some (Int32.ofInt 1, σ4) else
        if E5 = 348 then some (Int32.ofInt 2, σ4) else
        none
noncomputable def qa_fL_bestOrder  (σ : qa_T) : Option (Int32 × qa_T) :=
    (qa_fX9_bestOrder σ).bind fun c1 => match c1 with
      | (.inl r3, σ4) =>
        let σ6 := qa_wl σ4 (10, 29) ((Int32.ofInt 0)).toNatClampNeg ((r3).toInt64)
        some ((Int32.ofInt 0), σ6)
      | (.inr E5, σ4) =>
        if E5 = 348 then some (Int32.ofInt 1, σ4) else
        none
noncomputable def qa_fL_law_2682 (L : Nat) (k23 : Int32 → qa_T → Option (Bool × qa_T)) (x4 : Int32) (σ : qa_T) : Option (Bool × qa_T) :=
    let v17 : Int32 := x4 + Int32.ofInt 4
    k23 v17 σ
noncomputable def qa_fL_law_381 (L : Nat) (k23 : Int32 → qa_T → Option (Bool × qa_T)) (x4 : Int32) (σ : qa_T) : Option (Bool × qa_T) :=
    qa_fL_law_2682 L k23 x4 σ
noncomputable def qa_fL_law_304 (L : Nat) (k23 : Int32 → qa_T → Option (Bool × qa_T)) (x4 : Int32) (σ : qa_T) : Option (Bool × qa_T) :=
    if ¬ qa_in (x4 + (Int32.ofInt 1)) L = true then none else
    if ¬ qa_in (x4 + (Int32.ofInt 2)) L = true then none else
    if ¬ qa_in (x4 + (Int32.ofInt 3)) L = true then none else
    (qa_fL_addSlide (σ.1 (0, 0) ((x4 + (Int32.ofInt 1))).toNatClampNeg) (σ.1 (0, 0) ((x4 + (Int32.ofInt 2))).toNatClampNeg) (σ.1 (0, 0) ((x4 + (Int32.ofInt 3))).toNatClampNeg) σ).bind fun c8 =>
    if ¬ qa_in (x4 + (Int32.ofInt 1)) L = true then none else
    if ¬ qa_in (x4 + (Int32.ofInt 2)) L = true then none else
    if ¬ qa_in (x4 + (Int32.ofInt 3)) L = true then none else
    (qa_fX10_addSlide (c8.2.1 (0, 0) ((x4 + (Int32.ofInt 1))).toNatClampNeg) (c8.2.1 (0, 0) ((x4 + (Int32.ofInt 2))).toNatClampNeg) (c8.2.1 (0, 0) ((x4 + (Int32.ofInt 3))).toNatClampNeg) c8.2).bind fun c13 =>
    if (qa_fX10_thrown c13.2) = c8.1 then
      if ¬ c8.1 = 0 then
        qa_fL_law_381 L k23 x4 c13.2
      else
        if (lg_cmp (c13.2.2 (10, 29) ((Int32.ofInt 0)).toNatClampNeg) ((c13.1).toInt64)) = 0 then
          qa_fL_law_381 L k23 x4 c13.2
        else
          some (false, c13.2)
    else
      some (false, c13.2)
noncomputable def qa_fL_law_449 (L : Nat) (k23 : Int32 → qa_T → Option (Bool × qa_T)) (x4 : Int32) (σ : qa_T) : Option (Bool × qa_T) :=
    qa_fL_law_2682 L k23 x4 σ
noncomputable def qa_fL_law_384 (L : Nat) (k23 : Int32 → qa_T → Option (Bool × qa_T)) (x4 : Int32) (σ : qa_T) : Option (Bool × qa_T) :=
    if ¬ qa_in (x4 + (Int32.ofInt 1)) L = true then none else
    if ¬ qa_in (x4 + (Int32.ofInt 2)) L = true then none else
    (qa_fL_insert (σ.1 (0, 0) ((x4 + (Int32.ofInt 1))).toNatClampNeg) (σ.1 (0, 0) ((x4 + (Int32.ofInt 2))).toNatClampNeg) σ).bind fun c22 =>
    if ¬ qa_in (x4 + (Int32.ofInt 1)) L = true then none else
    if ¬ qa_in (x4 + (Int32.ofInt 2)) L = true then none else
    (qa_fX10_insert (c22.2.1 (0, 0) ((x4 + (Int32.ofInt 1))).toNatClampNeg) (c22.2.1 (0, 0) ((x4 + (Int32.ofInt 2))).toNatClampNeg) c22.2).bind fun c26 =>
    if (qa_fX10_thrown c26.2) = c22.1 then
      if ¬ c22.1 = 0 then
        qa_fL_law_449 L k23 x4 c26.2
      else
        if (lg_cmp (c26.2.2 (10, 29) ((Int32.ofInt 0)).toNatClampNeg) ((c26.1).toInt64)) = 0 then
          qa_fL_law_449 L k23 x4 c26.2
        else
          some (false, c26.2)
    else
      some (false, c26.2)
noncomputable def qa_fL_law_505 (L : Nat) (k23 : Int32 → qa_T → Option (Bool × qa_T)) (x4 : Int32) (σ : qa_T) : Option (Bool × qa_T) :=
    qa_fL_law_2682 L k23 x4 σ
noncomputable def qa_fL_law_452 (L : Nat) (k23 : Int32 → qa_T → Option (Bool × qa_T)) (x4 : Int32) (σ : qa_T) : Option (Bool × qa_T) :=
    if ¬ qa_in (x4 + (Int32.ofInt 1)) L = true then none else
    (qa_fL_takeOut (σ.1 (0, 0) ((x4 + (Int32.ofInt 1))).toNatClampNeg) σ).bind fun c33 =>
    if ¬ qa_in (x4 + (Int32.ofInt 1)) L = true then none else
    (qa_fX10_takeOut (c33.2.1 (0, 0) ((x4 + (Int32.ofInt 1))).toNatClampNeg) c33.2).bind fun c36 =>
    if (qa_fX10_thrown c36.2) = c33.1 then
      if ¬ c33.1 = 0 then
        qa_fL_law_505 L k23 x4 c36.2
      else
        if (lg_cmp (c36.2.2 (10, 29) ((Int32.ofInt 0)).toNatClampNeg) ((c36.1).toInt64)) = 0 then
          qa_fL_law_505 L k23 x4 c36.2
        else
          some (false, c36.2)
    else
      some (false, c36.2)
noncomputable def qa_fL_law_556 (L : Nat) (k23 : Int32 → qa_T → Option (Bool × qa_T)) (x4 : Int32) (σ : qa_T) : Option (Bool × qa_T) :=
    qa_fL_law_2682 L k23 x4 σ
noncomputable def qa_fL_law_550 (L : Nat) (k23 : Int32 → qa_T → Option (Bool × qa_T)) (x4 : Int32) (y0 : Int64) (y1 : Int64) (σ : qa_T) : Option (Bool × qa_T) :=
    if (lg_cmp y1 y0) = 0 then
      qa_fL_law_556 L k23 x4 σ
    else
      some (false, σ)
noncomputable def qa_fL_law_508 (L : Nat) (k23 : Int32 → qa_T → Option (Bool × qa_T)) (x4 : Int32) (σ : qa_T) : Option (Bool × qa_T) :=
    (qa_fL_goOn σ).bind fun c42 =>
    (qa_fX10_goOn c42.2).bind fun c44 =>
    let v46 : Int32 := (qa_bi c44.1)
    if (qa_fX10_thrown c44.2) = c42.1 then
      if ¬ c42.1 = 0 then
        qa_fL_law_556 L k23 x4 c44.2
      else
        if v46 = 0 then
          qa_fL_law_550 L k23 x4 (Int64.ofNat ((0 : Fin 2) : Nat)) (c44.2.2 (10, 29) ((Int32.ofInt 0)).toNatClampNeg) c44.2
        else
          qa_fL_law_550 L k23 x4 (Int64.ofNat ((1 : Fin 2) : Nat)) (c44.2.2 (10, 29) ((Int32.ofInt 0)).toNatClampNeg) c44.2
    else
      some (false, c44.2)
noncomputable def qa_fL_law_612 (L : Nat) (k23 : Int32 → qa_T → Option (Bool × qa_T)) (x4 : Int32) (σ : qa_T) : Option (Bool × qa_T) :=
    qa_fL_law_2682 L k23 x4 σ
noncomputable def qa_fL_law_559 (L : Nat) (k23 : Int32 → qa_T → Option (Bool × qa_T)) (x4 : Int32) (σ : qa_T) : Option (Bool × qa_T) :=
    if ¬ qa_in (x4 + (Int32.ofInt 1)) L = true then none else
    (qa_fL_ask (σ.1 (0, 0) ((x4 + (Int32.ofInt 1))).toNatClampNeg) σ).bind fun c53 =>
    if ¬ qa_in (x4 + (Int32.ofInt 1)) L = true then none else
    (qa_fX10_ask (c53.2.1 (0, 0) ((x4 + (Int32.ofInt 1))).toNatClampNeg) c53.2).bind fun c56 =>
    if (qa_fX10_thrown c56.2) = c53.1 then
      if ¬ c53.1 = 0 then
        qa_fL_law_612 L k23 x4 c56.2
      else
        if (lg_cmp (c56.2.2 (10, 29) ((Int32.ofInt 0)).toNatClampNeg) ((c56.1).toInt64)) = 0 then
          qa_fL_law_612 L k23 x4 c56.2
        else
          some (false, c56.2)
    else
      some (false, c56.2)
noncomputable def qa_fL_law_668 (L : Nat) (k23 : Int32 → qa_T → Option (Bool × qa_T)) (x4 : Int32) (σ : qa_T) : Option (Bool × qa_T) :=
    qa_fL_law_2682 L k23 x4 σ
noncomputable def qa_fL_law_615 (L : Nat) (k23 : Int32 → qa_T → Option (Bool × qa_T)) (x4 : Int32) (σ : qa_T) : Option (Bool × qa_T) :=
    if ¬ qa_in (x4 + (Int32.ofInt 1)) L = true then none else
    (qa_fL_burn (σ.1 (0, 0) ((x4 + (Int32.ofInt 1))).toNatClampNeg) σ).bind fun c63 =>
    if ¬ qa_in (x4 + (Int32.ofInt 1)) L = true then none else
    (qa_fX10_burn (c63.2.1 (0, 0) ((x4 + (Int32.ofInt 1))).toNatClampNeg) c63.2).bind fun c66 =>
    if (qa_fX10_thrown c66.2) = c63.1 then
      if ¬ c63.1 = 0 then
        qa_fL_law_668 L k23 x4 c66.2
      else
        if (lg_cmp (c66.2.2 (10, 29) ((Int32.ofInt 0)).toNatClampNeg) ((c66.1).toInt64)) = 0 then
          qa_fL_law_668 L k23 x4 c66.2
        else
          some (false, c66.2)
    else
      some (false, c66.2)
noncomputable def qa_fL_law_724 (L : Nat) (k23 : Int32 → qa_T → Option (Bool × qa_T)) (x4 : Int32) (σ : qa_T) : Option (Bool × qa_T) :=
    qa_fL_law_2682 L k23 x4 σ
noncomputable def qa_fL_law_671 (L : Nat) (k23 : Int32 → qa_T → Option (Bool × qa_T)) (x4 : Int32) (σ : qa_T) : Option (Bool × qa_T) :=
    if ¬ qa_in (x4 + (Int32.ofInt 1)) L = true then none else
    (qa_fL_tick (σ.1 (0, 0) ((x4 + (Int32.ofInt 1))).toNatClampNeg) σ).bind fun c73 =>
    if ¬ qa_in (x4 + (Int32.ofInt 1)) L = true then none else
    (qa_fX10_tick (c73.2.1 (0, 0) ((x4 + (Int32.ofInt 1))).toNatClampNeg) c73.2).bind fun c76 =>
    if (qa_fX10_thrown c76.2) = c73.1 then
      if ¬ c73.1 = 0 then
        qa_fL_law_724 L k23 x4 c76.2
      else
        if (lg_cmp (c76.2.2 (10, 29) ((Int32.ofInt 0)).toNatClampNeg) ((c76.1).toInt64)) = 0 then
          qa_fL_law_724 L k23 x4 c76.2
        else
          some (false, c76.2)
    else
      some (false, c76.2)
noncomputable def qa_fL_law_780 (L : Nat) (k23 : Int32 → qa_T → Option (Bool × qa_T)) (x4 : Int32) (σ : qa_T) : Option (Bool × qa_T) :=
    qa_fL_law_2682 L k23 x4 σ
noncomputable def qa_fL_law_727 (L : Nat) (k23 : Int32 → qa_T → Option (Bool × qa_T)) (x4 : Int32) (σ : qa_T) : Option (Bool × qa_T) :=
    if ¬ qa_in (x4 + (Int32.ofInt 1)) L = true then none else
    (qa_fL_changeMemory (σ.1 (0, 0) ((x4 + (Int32.ofInt 1))).toNatClampNeg) σ).bind fun c83 =>
    if ¬ qa_in (x4 + (Int32.ofInt 1)) L = true then none else
    (qa_fX10_changeMemory (c83.2.1 (0, 0) ((x4 + (Int32.ofInt 1))).toNatClampNeg) c83.2).bind fun c86 =>
    if (qa_fX10_thrown c86.2) = c83.1 then
      if ¬ c83.1 = 0 then
        qa_fL_law_780 L k23 x4 c86.2
      else
        if (lg_cmp (c86.2.2 (10, 29) ((Int32.ofInt 0)).toNatClampNeg) ((c86.1).toInt64)) = 0 then
          qa_fL_law_780 L k23 x4 c86.2
        else
          some (false, c86.2)
    else
      some (false, c86.2)
noncomputable def qa_fL_law_836 (L : Nat) (k23 : Int32 → qa_T → Option (Bool × qa_T)) (x4 : Int32) (σ : qa_T) : Option (Bool × qa_T) :=
    qa_fL_law_2682 L k23 x4 σ
noncomputable def qa_fL_law_783 (L : Nat) (k23 : Int32 → qa_T → Option (Bool × qa_T)) (x4 : Int32) (σ : qa_T) : Option (Bool × qa_T) :=
    if ¬ qa_in (x4 + (Int32.ofInt 1)) L = true then none else
    (qa_fL_changeAhead (σ.1 (0, 0) ((x4 + (Int32.ofInt 1))).toNatClampNeg) σ).bind fun c93 =>
    if ¬ qa_in (x4 + (Int32.ofInt 1)) L = true then none else
    (qa_fX10_changeAhead (c93.2.1 (0, 0) ((x4 + (Int32.ofInt 1))).toNatClampNeg) c93.2).bind fun c96 =>
    if (qa_fX10_thrown c96.2) = c93.1 then
      if ¬ c93.1 = 0 then
        qa_fL_law_836 L k23 x4 c96.2
      else
        if (lg_cmp (c96.2.2 (10, 29) ((Int32.ofInt 0)).toNatClampNeg) ((c96.1).toInt64)) = 0 then
          qa_fL_law_836 L k23 x4 c96.2
        else
          some (false, c96.2)
    else
      some (false, c96.2)
noncomputable def qa_fL_law_892 (L : Nat) (k23 : Int32 → qa_T → Option (Bool × qa_T)) (x4 : Int32) (σ : qa_T) : Option (Bool × qa_T) :=
    qa_fL_law_2682 L k23 x4 σ
noncomputable def qa_fL_law_839 (L : Nat) (k23 : Int32 → qa_T → Option (Bool × qa_T)) (x4 : Int32) (σ : qa_T) : Option (Bool × qa_T) :=
    if ¬ qa_in (x4 + (Int32.ofInt 1)) L = true then none else
    (qa_fL_changeOrder (σ.1 (0, 0) ((x4 + (Int32.ofInt 1))).toNatClampNeg) σ).bind fun c103 =>
    if ¬ qa_in (x4 + (Int32.ofInt 1)) L = true then none else
    (qa_fX10_changeOrder (c103.2.1 (0, 0) ((x4 + (Int32.ofInt 1))).toNatClampNeg) c103.2).bind fun c106 =>
    if (qa_fX10_thrown c106.2) = c103.1 then
      if ¬ c103.1 = 0 then
        qa_fL_law_892 L k23 x4 c106.2
      else
        if (lg_cmp (c106.2.2 (10, 29) ((Int32.ofInt 0)).toNatClampNeg) ((c106.1).toInt64)) = 0 then
          qa_fL_law_892 L k23 x4 c106.2
        else
          some (false, c106.2)
    else
      some (false, c106.2)
noncomputable def qa_fL_law_948 (L : Nat) (k23 : Int32 → qa_T → Option (Bool × qa_T)) (x4 : Int32) (σ : qa_T) : Option (Bool × qa_T) :=
    qa_fL_law_2682 L k23 x4 σ
noncomputable def qa_fL_law_895 (L : Nat) (k23 : Int32 → qa_T → Option (Bool × qa_T)) (x4 : Int32) (σ : qa_T) : Option (Bool × qa_T) :=
    if ¬ qa_in (x4 + (Int32.ofInt 1)) L = true then none else
    (qa_fL_changeGlow (σ.1 (0, 0) ((x4 + (Int32.ofInt 1))).toNatClampNeg) σ).bind fun c113 =>
    if ¬ qa_in (x4 + (Int32.ofInt 1)) L = true then none else
    (qa_fX10_changeGlow (c113.2.1 (0, 0) ((x4 + (Int32.ofInt 1))).toNatClampNeg) c113.2).bind fun c116 =>
    if (qa_fX10_thrown c116.2) = c113.1 then
      if ¬ c113.1 = 0 then
        qa_fL_law_948 L k23 x4 c116.2
      else
        if (lg_cmp (c116.2.2 (10, 29) ((Int32.ofInt 0)).toNatClampNeg) ((c116.1).toInt64)) = 0 then
          qa_fL_law_948 L k23 x4 c116.2
        else
          some (false, c116.2)
    else
      some (false, c116.2)
noncomputable def qa_fL_law_1004 (L : Nat) (k23 : Int32 → qa_T → Option (Bool × qa_T)) (x4 : Int32) (σ : qa_T) : Option (Bool × qa_T) :=
    qa_fL_law_2682 L k23 x4 σ
noncomputable def qa_fL_law_951 (L : Nat) (k23 : Int32 → qa_T → Option (Bool × qa_T)) (x4 : Int32) (σ : qa_T) : Option (Bool × qa_T) :=
    if ¬ qa_in (x4 + (Int32.ofInt 1)) L = true then none else
    (qa_fL_changePace (σ.1 (0, 0) ((x4 + (Int32.ofInt 1))).toNatClampNeg) σ).bind fun c123 =>
    if ¬ qa_in (x4 + (Int32.ofInt 1)) L = true then none else
    (qa_fX10_changePace (c123.2.1 (0, 0) ((x4 + (Int32.ofInt 1))).toNatClampNeg) c123.2).bind fun c126 =>
    if (qa_fX10_thrown c126.2) = c123.1 then
      if ¬ c123.1 = 0 then
        qa_fL_law_1004 L k23 x4 c126.2
      else
        if (lg_cmp (c126.2.2 (10, 29) ((Int32.ofInt 0)).toNatClampNeg) ((c126.1).toInt64)) = 0 then
          qa_fL_law_1004 L k23 x4 c126.2
        else
          some (false, c126.2)
    else
      some (false, c126.2)
noncomputable def qa_fL_law_1060 (L : Nat) (k23 : Int32 → qa_T → Option (Bool × qa_T)) (x4 : Int32) (σ : qa_T) : Option (Bool × qa_T) :=
    qa_fL_law_2682 L k23 x4 σ
noncomputable def qa_fL_law_1007 (L : Nat) (k23 : Int32 → qa_T → Option (Bool × qa_T)) (x4 : Int32) (σ : qa_T) : Option (Bool × qa_T) :=
    if ¬ qa_in (x4 + (Int32.ofInt 1)) L = true then none else
    (qa_fL_append (σ.1 (0, 0) ((x4 + (Int32.ofInt 1))).toNatClampNeg) σ).bind fun c133 =>
    if ¬ qa_in (x4 + (Int32.ofInt 1)) L = true then none else
    (qa_fX10_append (c133.2.1 (0, 0) ((x4 + (Int32.ofInt 1))).toNatClampNeg) c133.2).bind fun c136 =>
    if (qa_fX10_thrown c136.2) = c133.1 then
      if ¬ c133.1 = 0 then
        qa_fL_law_1060 L k23 x4 c136.2
      else
        if (lg_cmp (c136.2.2 (10, 29) ((Int32.ofInt 0)).toNatClampNeg) ((c136.1).toInt64)) = 0 then
          qa_fL_law_1060 L k23 x4 c136.2
        else
          some (false, c136.2)
    else
      some (false, c136.2)
noncomputable def qa_fL_law_1063 (L : Nat) (k23 : Int32 → qa_T → Option (Bool × qa_T)) (x4 : Int32) (σ : qa_T) : Option (Bool × qa_T) :=
    let c142 := qa_fX9_clearBuffer σ
    let c143 := qa_fX10_clearBuffer c142.2
    if c142.1 = c143.1 then
      qa_fL_law_2682 L k23 x4 c143.2
    else
      some (false, c143.2)
noncomputable def qa_fL_law_1076 (L : Nat) (k23 : Int32 → qa_T → Option (Bool × qa_T)) (x4 : Int32) (σ : qa_T) : Option (Bool × qa_T) :=
    (qa_fX9_firstError σ).bind fun c146 =>
    (qa_fX10_firstError c146.2).bind fun c148 =>
    if c146.1 = c148.1 then
      qa_fL_law_2682 L k23 x4 c148.2
    else
      some (false, c148.2)
noncomputable def qa_fL_law_1130 (L : Nat) (k23 : Int32 → qa_T → Option (Bool × qa_T)) (x4 : Int32) (σ : qa_T) : Option (Bool × qa_T) :=
    qa_fL_law_2682 L k23 x4 σ
noncomputable def qa_fL_law_1089 (L : Nat) (k23 : Int32 → qa_T → Option (Bool × qa_T)) (x4 : Int32) (σ : qa_T) : Option (Bool × qa_T) :=
    (qa_fL_follow σ).bind fun c152 =>
    (qa_fX10_follow c152.2).bind fun c154 =>
    if (qa_fX10_thrown c154.2) = c152.1 then
      if ¬ c152.1 = 0 then
        qa_fL_law_1130 L k23 x4 c154.2
      else
        if (lg_cmp (c154.2.2 (10, 29) ((Int32.ofInt 0)).toNatClampNeg) ((c154.1).toInt64)) = 0 then
          qa_fL_law_1130 L k23 x4 c154.2
        else
          some (false, c154.2)
    else
      some (false, c154.2)
noncomputable def qa_fL_law_1133 (L : Nat) (k23 : Int32 → qa_T → Option (Bool × qa_T)) (x4 : Int32) (σ : qa_T) : Option (Bool × qa_T) :=
    if ¬ qa_in (x4 + (Int32.ofInt 1)) L = true then none else
    (qa_fL_keep (σ.1 (0, 0) ((x4 + (Int32.ofInt 1))).toNatClampNeg) σ).bind fun c161 =>
    if ¬ qa_in (x4 + (Int32.ofInt 1)) L = true then none else
    (qa_fX10_keep (c161.2.1 (0, 0) ((x4 + (Int32.ofInt 1))).toNatClampNeg) c161.2).bind fun c164 =>
    if (qa_fX10_thrown c164) = c161.1 then
      qa_fL_law_2682 L k23 x4 c164
    else
      some (false, c164)
noncomputable def qa_fL_law_1169 (L : Nat) (k23 : Int32 → qa_T → Option (Bool × qa_T)) (x4 : Int32) (σ : qa_T) : Option (Bool × qa_T) :=
    if ¬ qa_in (x4 + (Int32.ofInt 1)) L = true then none else
    (qa_fL_goBack (σ.1 (0, 0) ((x4 + (Int32.ofInt 1))).toNatClampNeg) σ).bind fun c169 =>
    if ¬ qa_in (x4 + (Int32.ofInt 1)) L = true then none else
    (qa_fX10_goBack (c169.2.1 (0, 0) ((x4 + (Int32.ofInt 1))).toNatClampNeg) c169.2).bind fun c172 =>
    if (qa_fX10_thrown c172) = c169.1 then
      qa_fL_law_2682 L k23 x4 c172
    else
      some (false, c172)
noncomputable def qa_fL_law_1205 (L : Nat) (k23 : Int32 → qa_T → Option (Bool × qa_T)) (x4 : Int32) (σ : qa_T) : Option (Bool × qa_T) :=
    (qa_fL_undo σ).bind fun c176 =>
    (qa_fX10_undo c176.2).bind fun c178 =>
    if (qa_fX10_thrown c178) = c176.1 then
      qa_fL_law_2682 L k23 x4 c178
    else
      some (false, c178)
noncomputable def qa_fL_law_1229 (L : Nat) (k23 : Int32 → qa_T → Option (Bool × qa_T)) (x4 : Int32) (σ : qa_T) : Option (Bool × qa_T) :=
    let c182 := qa_fX10_savedStates σ
    if (qa_fX9_savedStates σ) = c182.1 then
      qa_fL_law_2682 L k23 x4 c182.2
    else
      some (false, c182.2)
noncomputable def qa_fL_law_1242 (L : Nat) (k23 : Int32 → qa_T → Option (Bool × qa_T)) (x4 : Int32) (σ : qa_T) : Option (Bool × qa_T) :=
    (qa_fX10_slides σ).bind fun c185 =>
    if (qa_fX9_slides σ) = c185.1 then
      qa_fL_law_2682 L k23 x4 c185.2
    else
      some (false, c185.2)
noncomputable def qa_fL_law_1308 (L : Nat) (k23 : Int32 → qa_T → Option (Bool × qa_T)) (x4 : Int32) (σ : qa_T) : Option (Bool × qa_T) :=
    qa_fL_law_2682 L k23 x4 σ
noncomputable def qa_fL_law_1255 (L : Nat) (k23 : Int32 → qa_T → Option (Bool × qa_T)) (x4 : Int32) (σ : qa_T) : Option (Bool × qa_T) :=
    if ¬ qa_in (x4 + (Int32.ofInt 1)) L = true then none else
    (qa_fL_costOf (σ.1 (0, 0) ((x4 + (Int32.ofInt 1))).toNatClampNeg) σ).bind fun c190 =>
    if ¬ qa_in (x4 + (Int32.ofInt 1)) L = true then none else
    (qa_fX10_costOf (c190.2.1 (0, 0) ((x4 + (Int32.ofInt 1))).toNatClampNeg) c190.2).bind fun c193 =>
    if (qa_fX10_thrown c193.2) = c190.1 then
      if ¬ c190.1 = 0 then
        qa_fL_law_1308 L k23 x4 c193.2
      else
        if (lg_cmp (c193.2.2 (10, 29) ((Int32.ofInt 0)).toNatClampNeg) ((c193.1).toInt64)) = 0 then
          qa_fL_law_1308 L k23 x4 c193.2
        else
          some (false, c193.2)
    else
      some (false, c193.2)
noncomputable def qa_fL_law_1364 (L : Nat) (k23 : Int32 → qa_T → Option (Bool × qa_T)) (x4 : Int32) (σ : qa_T) : Option (Bool × qa_T) :=
    qa_fL_law_2682 L k23 x4 σ
noncomputable def qa_fL_law_1311 (L : Nat) (k23 : Int32 → qa_T → Option (Bool × qa_T)) (x4 : Int32) (σ : qa_T) : Option (Bool × qa_T) :=
    if ¬ qa_in (x4 + (Int32.ofInt 1)) L = true then none else
    (qa_fL_loadOf (σ.1 (0, 0) ((x4 + (Int32.ofInt 1))).toNatClampNeg) σ).bind fun c200 =>
    if ¬ qa_in (x4 + (Int32.ofInt 1)) L = true then none else
    (qa_fX10_loadOf (c200.2.1 (0, 0) ((x4 + (Int32.ofInt 1))).toNatClampNeg) c200.2).bind fun c203 =>
    if (qa_fX10_thrown c203.2) = c200.1 then
      if ¬ c200.1 = 0 then
        qa_fL_law_1364 L k23 x4 c203.2
      else
        if (lg_cmp (c203.2.2 (10, 29) ((Int32.ofInt 0)).toNatClampNeg) ((c203.1).toInt64)) = 0 then
          qa_fL_law_1364 L k23 x4 c203.2
        else
          some (false, c203.2)
    else
      some (false, c203.2)
noncomputable def qa_fL_law_1420 (L : Nat) (k23 : Int32 → qa_T → Option (Bool × qa_T)) (x4 : Int32) (σ : qa_T) : Option (Bool × qa_T) :=
    qa_fL_law_2682 L k23 x4 σ
noncomputable def qa_fL_law_1367 (L : Nat) (k23 : Int32 → qa_T → Option (Bool × qa_T)) (x4 : Int32) (σ : qa_T) : Option (Bool × qa_T) :=
    if ¬ qa_in (x4 + (Int32.ofInt 1)) L = true then none else
    (qa_fL_fadeOf (σ.1 (0, 0) ((x4 + (Int32.ofInt 1))).toNatClampNeg) σ).bind fun c210 =>
    if ¬ qa_in (x4 + (Int32.ofInt 1)) L = true then none else
    (qa_fX10_fadeOf (c210.2.1 (0, 0) ((x4 + (Int32.ofInt 1))).toNatClampNeg) c210.2).bind fun c213 =>
    if (qa_fX10_thrown c213.2) = c210.1 then
      if ¬ c210.1 = 0 then
        qa_fL_law_1420 L k23 x4 c213.2
      else
        if (lg_cmp (c213.2.2 (10, 29) ((Int32.ofInt 0)).toNatClampNeg) ((c213.1).toInt64)) = 0 then
          qa_fL_law_1420 L k23 x4 c213.2
        else
          some (false, c213.2)
    else
      some (false, c213.2)
noncomputable def qa_fL_law_1483 (L : Nat) (k23 : Int32 → qa_T → Option (Bool × qa_T)) (x4 : Int32) (σ : qa_T) : Option (Bool × qa_T) :=
    qa_fL_law_2682 L k23 x4 σ
noncomputable def qa_fL_law_1477 (L : Nat) (k23 : Int32 → qa_T → Option (Bool × qa_T)) (x4 : Int32) (y0 : Int64) (y1 : Int64) (σ : qa_T) : Option (Bool × qa_T) :=
    if (lg_cmp y1 y0) = 0 then
      qa_fL_law_1483 L k23 x4 σ
    else
      some (false, σ)
noncomputable def qa_fL_law_1423 (L : Nat) (k23 : Int32 → qa_T → Option (Bool × qa_T)) (x4 : Int32) (σ : qa_T) : Option (Bool × qa_T) :=
    if ¬ qa_in (x4 + (Int32.ofInt 1)) L = true then none else
    (qa_fL_isLoaded (σ.1 (0, 0) ((x4 + (Int32.ofInt 1))).toNatClampNeg) σ).bind fun c220 =>
    if ¬ qa_in (x4 + (Int32.ofInt 1)) L = true then none else
    (qa_fX10_isLoaded (c220.2.1 (0, 0) ((x4 + (Int32.ofInt 1))).toNatClampNeg) c220.2).bind fun c223 =>
    let v225 : Int32 := (qa_bi c223.1)
    if (qa_fX10_thrown c223.2) = c220.1 then
      if ¬ c220.1 = 0 then
        qa_fL_law_1483 L k23 x4 c223.2
      else
        if v225 = 0 then
          qa_fL_law_1477 L k23 x4 (Int64.ofNat ((0 : Fin 2) : Nat)) (c223.2.2 (10, 29) ((Int32.ofInt 0)).toNatClampNeg) c223.2
        else
          qa_fL_law_1477 L k23 x4 (Int64.ofNat ((1 : Fin 2) : Nat)) (c223.2.2 (10, 29) ((Int32.ofInt 0)).toNatClampNeg) c223.2
    else
      some (false, c223.2)
noncomputable def qa_fL_law_1546 (L : Nat) (k23 : Int32 → qa_T → Option (Bool × qa_T)) (x4 : Int32) (σ : qa_T) : Option (Bool × qa_T) :=
    qa_fL_law_2682 L k23 x4 σ
noncomputable def qa_fL_law_1540 (L : Nat) (k23 : Int32 → qa_T → Option (Bool × qa_T)) (x4 : Int32) (y0 : Int64) (y1 : Int64) (σ : qa_T) : Option (Bool × qa_T) :=
    if (lg_cmp y1 y0) = 0 then
      qa_fL_law_1546 L k23 x4 σ
    else
      some (false, σ)
noncomputable def qa_fL_law_1486 (L : Nat) (k23 : Int32 → qa_T → Option (Bool × qa_T)) (x4 : Int32) (σ : qa_T) : Option (Bool × qa_T) :=
    if ¬ qa_in (x4 + (Int32.ofInt 1)) L = true then none else
    (qa_fL_isOnShow (σ.1 (0, 0) ((x4 + (Int32.ofInt 1))).toNatClampNeg) σ).bind fun c232 =>
    if ¬ qa_in (x4 + (Int32.ofInt 1)) L = true then none else
    let c235 := qa_fX10_isOnShow (c232.2.1 (0, 0) ((x4 + (Int32.ofInt 1))).toNatClampNeg) c232.2
    let v236 : Int32 := (qa_bi c235.1)
    if (qa_fX10_thrown c235.2) = c232.1 then
      if ¬ c232.1 = 0 then
        qa_fL_law_1546 L k23 x4 c235.2
      else
        if v236 = 0 then
          qa_fL_law_1540 L k23 x4 (Int64.ofNat ((0 : Fin 2) : Nat)) (c235.2.2 (10, 29) ((Int32.ofInt 0)).toNatClampNeg) c235.2
        else
          qa_fL_law_1540 L k23 x4 (Int64.ofNat ((1 : Fin 2) : Nat)) (c235.2.2 (10, 29) ((Int32.ofInt 0)).toNatClampNeg) c235.2
    else
      some (false, c235.2)
noncomputable def qa_fL_law_1602 (L : Nat) (k23 : Int32 → qa_T → Option (Bool × qa_T)) (x4 : Int32) (σ : qa_T) : Option (Bool × qa_T) :=
    qa_fL_law_2682 L k23 x4 σ
noncomputable def qa_fL_law_1549 (L : Nat) (k23 : Int32 → qa_T → Option (Bool × qa_T)) (x4 : Int32) (σ : qa_T) : Option (Bool × qa_T) :=
    if ¬ qa_in (x4 + (Int32.ofInt 1)) L = true then none else
    (qa_fL_glowOf (σ.1 (0, 0) ((x4 + (Int32.ofInt 1))).toNatClampNeg) σ).bind fun c243 =>
    if ¬ qa_in (x4 + (Int32.ofInt 1)) L = true then none else
    (qa_fX10_glowOf (c243.2.1 (0, 0) ((x4 + (Int32.ofInt 1))).toNatClampNeg) c243.2).bind fun c246 =>
    if (qa_fX10_thrown c246.2) = c243.1 then
      if ¬ c243.1 = 0 then
        qa_fL_law_1602 L k23 x4 c246.2
      else
        if (lg_cmp (c246.2.2 (10, 29) ((Int32.ofInt 0)).toNatClampNeg) ((c246.1).toInt64)) = 0 then
          qa_fL_law_1602 L k23 x4 c246.2
        else
          some (false, c246.2)
    else
      some (false, c246.2)
noncomputable def qa_fL_law_1658 (L : Nat) (k23 : Int32 → qa_T → Option (Bool × qa_T)) (x4 : Int32) (σ : qa_T) : Option (Bool × qa_T) :=
    qa_fL_law_2682 L k23 x4 σ
noncomputable def qa_fL_law_1605 (L : Nat) (k23 : Int32 → qa_T → Option (Bool × qa_T)) (x4 : Int32) (σ : qa_T) : Option (Bool × qa_T) :=
    if ¬ qa_in (x4 + (Int32.ofInt 1)) L = true then none else
    (qa_fL_burntTimes (σ.1 (0, 0) ((x4 + (Int32.ofInt 1))).toNatClampNeg) σ).bind fun c253 =>
    if ¬ qa_in (x4 + (Int32.ofInt 1)) L = true then none else
    (qa_fX10_burntTimes (c253.2.1 (0, 0) ((x4 + (Int32.ofInt 1))).toNatClampNeg) c253.2).bind fun c256 =>
    if (qa_fX10_thrown c256.2) = c253.1 then
      if ¬ c253.1 = 0 then
        qa_fL_law_1658 L k23 x4 c256.2
      else
        if (lg_cmp (c256.2.2 (10, 29) ((Int32.ofInt 0)).toNatClampNeg) ((c256.1).toInt64)) = 0 then
          qa_fL_law_1658 L k23 x4 c256.2
        else
          some (false, c256.2)
    else
      some (false, c256.2)
noncomputable def qa_fL_law_1714 (L : Nat) (k23 : Int32 → qa_T → Option (Bool × qa_T)) (x4 : Int32) (σ : qa_T) : Option (Bool × qa_T) :=
    qa_fL_law_2682 L k23 x4 σ
noncomputable def qa_fL_law_1661 (L : Nat) (k23 : Int32 → qa_T → Option (Bool × qa_T)) (x4 : Int32) (σ : qa_T) : Option (Bool × qa_T) :=
    if ¬ qa_in (x4 + (Int32.ofInt 1)) L = true then none else
    (qa_fL_nextUse (σ.1 (0, 0) ((x4 + (Int32.ofInt 1))).toNatClampNeg) σ).bind fun c263 =>
    if ¬ qa_in (x4 + (Int32.ofInt 1)) L = true then none else
    (qa_fX10_nextUse (c263.2.1 (0, 0) ((x4 + (Int32.ofInt 1))).toNatClampNeg) c263.2).bind fun c266 =>
    if (qa_fX10_thrown c266.2) = c263.1 then
      if ¬ c263.1 = 0 then
        qa_fL_law_1714 L k23 x4 c266.2
      else
        if (lg_cmp (c266.2.2 (10, 29) ((Int32.ofInt 0)).toNatClampNeg) ((c266.1).toInt64)) = 0 then
          qa_fL_law_1714 L k23 x4 c266.2
        else
          some (false, c266.2)
    else
      some (false, c266.2)
noncomputable def qa_fL_law_1770 (L : Nat) (k23 : Int32 → qa_T → Option (Bool × qa_T)) (x4 : Int32) (σ : qa_T) : Option (Bool × qa_T) :=
    qa_fL_law_2682 L k23 x4 σ
noncomputable def qa_fL_law_1717 (L : Nat) (k23 : Int32 → qa_T → Option (Bool × qa_T)) (x4 : Int32) (σ : qa_T) : Option (Bool × qa_T) :=
    if ¬ qa_in (x4 + (Int32.ofInt 1)) L = true then none else
    (qa_fL_burnPlace (σ.1 (0, 0) ((x4 + (Int32.ofInt 1))).toNatClampNeg) σ).bind fun c273 =>
    if ¬ qa_in (x4 + (Int32.ofInt 1)) L = true then none else
    (qa_fX10_burnPlace (c273.2.1 (0, 0) ((x4 + (Int32.ofInt 1))).toNatClampNeg) c273.2).bind fun c276 =>
    if (qa_fX10_thrown c276.2) = c273.1 then
      if ¬ c273.1 = 0 then
        qa_fL_law_1770 L k23 x4 c276.2
      else
        if (lg_cmp (c276.2.2 (10, 29) ((Int32.ofInt 0)).toNatClampNeg) ((c276.1).toInt64)) = 0 then
          qa_fL_law_1770 L k23 x4 c276.2
        else
          some (false, c276.2)
    else
      some (false, c276.2)
noncomputable def qa_fL_law_1773 (L : Nat) (k23 : Int32 → qa_T → Option (Bool × qa_T)) (x4 : Int32) (σ : qa_T) : Option (Bool × qa_T) :=
    (qa_fX10_places σ).bind fun c282 =>
    if (qa_fX9_places σ) = c282.1 then
      qa_fL_law_2682 L k23 x4 c282.2
    else
      some (false, c282.2)
noncomputable def qa_fL_law_1839 (L : Nat) (k23 : Int32 → qa_T → Option (Bool × qa_T)) (x4 : Int32) (σ : qa_T) : Option (Bool × qa_T) :=
    qa_fL_law_2682 L k23 x4 σ
noncomputable def qa_fL_law_1786 (L : Nat) (k23 : Int32 → qa_T → Option (Bool × qa_T)) (x4 : Int32) (σ : qa_T) : Option (Bool × qa_T) :=
    if ¬ qa_in (x4 + (Int32.ofInt 1)) L = true then none else
    (qa_fL_slideAt (σ.1 (0, 0) ((x4 + (Int32.ofInt 1))).toNatClampNeg) σ).bind fun c287 =>
    if ¬ qa_in (x4 + (Int32.ofInt 1)) L = true then none else
    (qa_fX10_slideAt (c287.2.1 (0, 0) ((x4 + (Int32.ofInt 1))).toNatClampNeg) c287.2).bind fun c290 =>
    if (qa_fX10_thrown c290.2) = c287.1 then
      if ¬ c287.1 = 0 then
        qa_fL_law_1839 L k23 x4 c290.2
      else
        if (lg_cmp (c290.2.2 (10, 29) ((Int32.ofInt 0)).toNatClampNeg) ((c290.1).toInt64)) = 0 then
          qa_fL_law_1839 L k23 x4 c290.2
        else
          some (false, c290.2)
    else
      some (false, c290.2)
noncomputable def qa_fL_law_1883 (L : Nat) (k23 : Int32 → qa_T → Option (Bool × qa_T)) (x4 : Int32) (σ : qa_T) : Option (Bool × qa_T) :=
    qa_fL_law_2682 L k23 x4 σ
noncomputable def qa_fL_law_1842 (L : Nat) (k23 : Int32 → qa_T → Option (Bool × qa_T)) (x4 : Int32) (σ : qa_T) : Option (Bool × qa_T) :=
    (qa_fL_showPlace σ).bind fun c296 =>
    (qa_fX10_showPlace c296.2).bind fun c298 =>
    if (qa_fX10_thrown c298.2) = c296.1 then
      if ¬ c296.1 = 0 then
        qa_fL_law_1883 L k23 x4 c298.2
      else
        if (lg_cmp (c298.2.2 (10, 29) ((Int32.ofInt 0)).toNatClampNeg) ((c298.1).toInt64)) = 0 then
          qa_fL_law_1883 L k23 x4 c298.2
        else
          some (false, c298.2)
    else
      some (false, c298.2)
noncomputable def qa_fL_law_1927 (L : Nat) (k23 : Int32 → qa_T → Option (Bool × qa_T)) (x4 : Int32) (σ : qa_T) : Option (Bool × qa_T) :=
    qa_fL_law_2682 L k23 x4 σ
noncomputable def qa_fL_law_1886 (L : Nat) (k23 : Int32 → qa_T → Option (Bool × qa_T)) (x4 : Int32) (σ : qa_T) : Option (Bool × qa_T) :=
    (qa_fL_shown σ).bind fun c304 =>
    (qa_fX10_shown c304.2).bind fun c306 =>
    if (qa_fX10_thrown c306.2) = c304.1 then
      if ¬ c304.1 = 0 then
        qa_fL_law_1927 L k23 x4 c306.2
      else
        if (lg_cmp (c306.2.2 (10, 29) ((Int32.ofInt 0)).toNatClampNeg) ((c306.1).toInt64)) = 0 then
          qa_fL_law_1927 L k23 x4 c306.2
        else
          some (false, c306.2)
    else
      some (false, c306.2)
noncomputable def qa_fL_law_1971 (L : Nat) (k23 : Int32 → qa_T → Option (Bool × qa_T)) (x4 : Int32) (σ : qa_T) : Option (Bool × qa_T) :=
    qa_fL_law_2682 L k23 x4 σ
noncomputable def qa_fL_law_1930 (L : Nat) (k23 : Int32 → qa_T → Option (Bool × qa_T)) (x4 : Int32) (σ : qa_T) : Option (Bool × qa_T) :=
    (qa_fL_fading σ).bind fun c312 =>
    (qa_fX10_fading c312.2).bind fun c314 =>
    if (qa_fX10_thrown c314.2) = c312.1 then
      if ¬ c312.1 = 0 then
        qa_fL_law_1971 L k23 x4 c314.2
      else
        if (lg_cmp (c314.2.2 (10, 29) ((Int32.ofInt 0)).toNatClampNeg) ((c314.1).toInt64)) = 0 then
          qa_fL_law_1971 L k23 x4 c314.2
        else
          some (false, c314.2)
    else
      some (false, c314.2)
noncomputable def qa_fL_law_1974 (L : Nat) (k23 : Int32 → qa_T → Option (Bool × qa_T)) (x4 : Int32) (σ : qa_T) : Option (Bool × qa_T) :=
    (qa_fX10_fadeLeft σ).bind fun c320 =>
    if (qa_fX9_fadeLeft σ) = c320.1 then
      qa_fL_law_2682 L k23 x4 c320.2
    else
      some (false, c320.2)
noncomputable def qa_fL_law_2028 (L : Nat) (k23 : Int32 → qa_T → Option (Bool × qa_T)) (x4 : Int32) (σ : qa_T) : Option (Bool × qa_T) :=
    qa_fL_law_2682 L k23 x4 σ
noncomputable def qa_fL_law_1987 (L : Nat) (k23 : Int32 → qa_T → Option (Bool × qa_T)) (x4 : Int32) (σ : qa_T) : Option (Bool × qa_T) :=
    (qa_fL_awaited σ).bind fun c324 =>
    (qa_fX10_awaited c324.2).bind fun c326 =>
    if (qa_fX10_thrown c326.2) = c324.1 then
      if ¬ c324.1 = 0 then
        qa_fL_law_2028 L k23 x4 c326.2
      else
        if (lg_cmp (c326.2.2 (10, 29) ((Int32.ofInt 0)).toNatClampNeg) ((c326.1).toInt64)) = 0 then
          qa_fL_law_2028 L k23 x4 c326.2
        else
          some (false, c326.2)
    else
      some (false, c326.2)
noncomputable def qa_fL_law_2072 (L : Nat) (k23 : Int32 → qa_T → Option (Bool × qa_T)) (x4 : Int32) (σ : qa_T) : Option (Bool × qa_T) :=
    qa_fL_law_2682 L k23 x4 σ
noncomputable def qa_fL_law_2031 (L : Nat) (k23 : Int32 → qa_T → Option (Bool × qa_T)) (x4 : Int32) (σ : qa_T) : Option (Bool × qa_T) :=
    (qa_fL_shownFor σ).bind fun c332 =>
    (qa_fX10_shownFor c332.2).bind fun c334 =>
    if (qa_fX10_thrown c334.2) = c332.1 then
      if ¬ c332.1 = 0 then
        qa_fL_law_2072 L k23 x4 c334.2
      else
        if (lg_cmp (c334.2.2 (10, 29) ((Int32.ofInt 0)).toNatClampNeg) ((c334.1).toInt64)) = 0 then
          qa_fL_law_2072 L k23 x4 c334.2
        else
          some (false, c334.2)
    else
      some (false, c334.2)
noncomputable def qa_fL_law_2116 (L : Nat) (k23 : Int32 → qa_T → Option (Bool × qa_T)) (x4 : Int32) (σ : qa_T) : Option (Bool × qa_T) :=
    qa_fL_law_2682 L k23 x4 σ
noncomputable def qa_fL_law_2075 (L : Nat) (k23 : Int32 → qa_T → Option (Bool × qa_T)) (x4 : Int32) (σ : qa_T) : Option (Bool × qa_T) :=
    (qa_fL_loading σ).bind fun c340 =>
    (qa_fX10_loading c340.2).bind fun c342 =>
    if (qa_fX10_thrown c342.2) = c340.1 then
      if ¬ c340.1 = 0 then
        qa_fL_law_2116 L k23 x4 c342.2
      else
        if (lg_cmp (c342.2.2 (10, 29) ((Int32.ofInt 0)).toNatClampNeg) ((c342.1).toInt64)) = 0 then
          qa_fL_law_2116 L k23 x4 c342.2
        else
          some (false, c342.2)
    else
      some (false, c342.2)
noncomputable def qa_fL_law_2119 (L : Nat) (k23 : Int32 → qa_T → Option (Bool × qa_T)) (x4 : Int32) (σ : qa_T) : Option (Bool × qa_T) :=
    (qa_fX10_loadLeft σ).bind fun c348 =>
    if (qa_fX9_loadLeft σ) = c348.1 then
      qa_fL_law_2682 L k23 x4 c348.2
    else
      some (false, c348.2)
noncomputable def qa_fL_law_2132 (L : Nat) (k23 : Int32 → qa_T → Option (Bool × qa_T)) (x4 : Int32) (σ : qa_T) : Option (Bool × qa_T) :=
    (qa_fX10_asked σ).bind fun c352 =>
    if (qa_fX9_asked σ) = c352.1 then
      qa_fL_law_2682 L k23 x4 c352.2
    else
      some (false, c352.2)
noncomputable def qa_fL_law_2198 (L : Nat) (k23 : Int32 → qa_T → Option (Bool × qa_T)) (x4 : Int32) (σ : qa_T) : Option (Bool × qa_T) :=
    qa_fL_law_2682 L k23 x4 σ
noncomputable def qa_fL_law_2145 (L : Nat) (k23 : Int32 → qa_T → Option (Bool × qa_T)) (x4 : Int32) (σ : qa_T) : Option (Bool × qa_T) :=
    if ¬ qa_in (x4 + (Int32.ofInt 1)) L = true then none else
    (qa_fL_askedAt (σ.1 (0, 0) ((x4 + (Int32.ofInt 1))).toNatClampNeg) σ).bind fun c357 =>
    if ¬ qa_in (x4 + (Int32.ofInt 1)) L = true then none else
    (qa_fX10_askedAt (c357.2.1 (0, 0) ((x4 + (Int32.ofInt 1))).toNatClampNeg) c357.2).bind fun c360 =>
    if (qa_fX10_thrown c360.2) = c357.1 then
      if ¬ c357.1 = 0 then
        qa_fL_law_2198 L k23 x4 c360.2
      else
        if (lg_cmp (c360.2.2 (10, 29) ((Int32.ofInt 0)).toNatClampNeg) ((c360.1).toInt64)) = 0 then
          qa_fL_law_2198 L k23 x4 c360.2
        else
          some (false, c360.2)
    else
      some (false, c360.2)
noncomputable def qa_fL_law_2201 (L : Nat) (k23 : Int32 → qa_T → Option (Bool × qa_T)) (x4 : Int32) (σ : qa_T) : Option (Bool × qa_T) :=
    (qa_fX9_takenBySlides σ).bind fun c366 =>
    (qa_fX10_takenBySlides σ).bind fun c368 =>
    if c366 = c368.1 then
      qa_fL_law_2682 L k23 x4 c368.2
    else
      some (false, c368.2)
noncomputable def qa_fL_law_2214 (L : Nat) (k23 : Int32 → qa_T → Option (Bool × qa_T)) (x4 : Int32) (σ : qa_T) : Option (Bool × qa_T) :=
    (qa_fX10_takenByAccount σ).bind fun c372 =>
    if (qa_fX9_takenByAccount σ) = c372.1 then
      qa_fL_law_2682 L k23 x4 c372.2
    else
      some (false, c372.2)
noncomputable def qa_fL_law_2227 (L : Nat) (k23 : Int32 → qa_T → Option (Bool × qa_T)) (x4 : Int32) (σ : qa_T) : Option (Bool × qa_T) :=
    (qa_fX10_memory σ).bind fun c376 =>
    if (qa_fX9_memory σ) = c376.1 then
      qa_fL_law_2682 L k23 x4 c376.2
    else
      some (false, c376.2)
noncomputable def qa_fL_law_2240 (L : Nat) (k23 : Int32 → qa_T → Option (Bool × qa_T)) (x4 : Int32) (σ : qa_T) : Option (Bool × qa_T) :=
    (qa_fX10_ahead σ).bind fun c380 =>
    if (qa_fX9_ahead σ) = c380.1 then
      qa_fL_law_2682 L k23 x4 c380.2
    else
      some (false, c380.2)
noncomputable def qa_fL_law_2253 (L : Nat) (k23 : Int32 → qa_T → Option (Bool × qa_T)) (x4 : Int32) (σ : qa_T) : Option (Bool × qa_T) :=
    (qa_fX10_order σ).bind fun c384 =>
    if (qa_fX9_order σ) = c384.1 then
      qa_fL_law_2682 L k23 x4 c384.2
    else
      some (false, c384.2)
noncomputable def qa_fL_law_2266 (L : Nat) (k23 : Int32 → qa_T → Option (Bool × qa_T)) (x4 : Int32) (σ : qa_T) : Option (Bool × qa_T) :=
    (qa_fX10_glow σ).bind fun c388 =>
    if (qa_fX9_glow σ) = c388.1 then
      qa_fL_law_2682 L k23 x4 c388.2
    else
      some (false, c388.2)
noncomputable def qa_fL_law_2279 (L : Nat) (k23 : Int32 → qa_T → Option (Bool × qa_T)) (x4 : Int32) (σ : qa_T) : Option (Bool × qa_T) :=
    (qa_fX10_pace σ).bind fun c392 =>
    if (qa_fX9_pace σ) = c392.1 then
      qa_fL_law_2682 L k23 x4 c392.2
    else
      some (false, c392.2)
noncomputable def qa_fL_law_2333 (L : Nat) (k23 : Int32 → qa_T → Option (Bool × qa_T)) (x4 : Int32) (σ : qa_T) : Option (Bool × qa_T) :=
    qa_fL_law_2682 L k23 x4 σ
noncomputable def qa_fL_law_2292 (L : Nat) (k23 : Int32 → qa_T → Option (Bool × qa_T)) (x4 : Int32) (σ : qa_T) : Option (Bool × qa_T) :=
    (qa_fL_ticksToShowByTicks σ).bind fun c396 =>
    (qa_fX10_ticksToShowByTicks c396.2).bind fun c398 =>
    if (qa_fX10_thrown c398.2) = c396.1 then
      if ¬ c396.1 = 0 then
        qa_fL_law_2333 L k23 x4 c398.2
      else
        if (lg_cmp (c398.2.2 (10, 29) ((Int32.ofInt 0)).toNatClampNeg) ((c398.1).toInt64)) = 0 then
          qa_fL_law_2333 L k23 x4 c398.2
        else
          some (false, c398.2)
    else
      some (false, c398.2)
noncomputable def qa_fL_law_2377 (L : Nat) (k23 : Int32 → qa_T → Option (Bool × qa_T)) (x4 : Int32) (σ : qa_T) : Option (Bool × qa_T) :=
    qa_fL_law_2682 L k23 x4 σ
noncomputable def qa_fL_law_2336 (L : Nat) (k23 : Int32 → qa_T → Option (Bool × qa_T)) (x4 : Int32) (σ : qa_T) : Option (Bool × qa_T) :=
    (qa_fL_ticksToShowBySums σ).bind fun c404 =>
    (qa_fX10_ticksToShowBySums c404.2).bind fun c406 =>
    if (qa_fX10_thrown c406.2) = c404.1 then
      if ¬ c404.1 = 0 then
        qa_fL_law_2377 L k23 x4 c406.2
      else
        if (lg_cmp (c406.2.2 (10, 29) ((Int32.ofInt 0)).toNatClampNeg) ((c406.1).toInt64)) = 0 then
          qa_fL_law_2377 L k23 x4 c406.2
        else
          some (false, c406.2)
    else
      some (false, c406.2)
noncomputable def qa_fL_law_2433 (L : Nat) (k23 : Int32 → qa_T → Option (Bool × qa_T)) (x4 : Int32) (σ : qa_T) : Option (Bool × qa_T) :=
    qa_fL_law_2682 L k23 x4 σ
noncomputable def qa_fL_law_2380 (L : Nat) (k23 : Int32 → qa_T → Option (Bool × qa_T)) (x4 : Int32) (σ : qa_T) : Option (Bool × qa_T) :=
    if ¬ qa_in (x4 + (Int32.ofInt 1)) L = true then none else
    (qa_fL_burningsFor (σ.1 (0, 0) ((x4 + (Int32.ofInt 1))).toNatClampNeg) σ).bind fun c413 =>
    if ¬ qa_in (x4 + (Int32.ofInt 1)) L = true then none else
    (qa_fX10_burningsFor (c413.2.1 (0, 0) ((x4 + (Int32.ofInt 1))).toNatClampNeg) c413.2).bind fun c416 =>
    if (qa_fX10_thrown c416.2) = c413.1 then
      if ¬ c413.1 = 0 then
        qa_fL_law_2433 L k23 x4 c416.2
      else
        if (lg_cmp (c416.2.2 (10, 29) ((Int32.ofInt 0)).toNatClampNeg) ((c416.1).toInt64)) = 0 then
          qa_fL_law_2433 L k23 x4 c416.2
        else
          some (false, c416.2)
    else
      some (false, c416.2)
noncomputable def qa_fL_law_2489 (L : Nat) (k23 : Int32 → qa_T → Option (Bool × qa_T)) (x4 : Int32) (σ : qa_T) : Option (Bool × qa_T) :=
    qa_fL_law_2682 L k23 x4 σ
noncomputable def qa_fL_law_2436 (L : Nat) (k23 : Int32 → qa_T → Option (Bool × qa_T)) (x4 : Int32) (σ : qa_T) : Option (Bool × qa_T) :=
    if ¬ qa_in (x4 + (Int32.ofInt 1)) L = true then none else
    (qa_fL_missesWith (σ.1 (0, 0) ((x4 + (Int32.ofInt 1))).toNatClampNeg) σ).bind fun c423 =>
    if ¬ qa_in (x4 + (Int32.ofInt 1)) L = true then none else
    (qa_fX10_missesWith (c423.2.1 (0, 0) ((x4 + (Int32.ofInt 1))).toNatClampNeg) c423.2).bind fun c426 =>
    if (qa_fX10_thrown c426.2) = c423.1 then
      if ¬ c423.1 = 0 then
        qa_fL_law_2489 L k23 x4 c426.2
      else
        if (lg_cmp (c426.2.2 (10, 29) ((Int32.ofInt 0)).toNatClampNeg) ((c426.1).toInt64)) = 0 then
          qa_fL_law_2489 L k23 x4 c426.2
        else
          some (false, c426.2)
    else
      some (false, c426.2)
noncomputable def qa_fL_law_2533 (L : Nat) (k23 : Int32 → qa_T → Option (Bool × qa_T)) (x4 : Int32) (σ : qa_T) : Option (Bool × qa_T) :=
    qa_fL_law_2682 L k23 x4 σ
noncomputable def qa_fL_law_2492 (L : Nat) (k23 : Int32 → qa_T → Option (Bool × qa_T)) (x4 : Int32) (σ : qa_T) : Option (Bool × qa_T) :=
    (qa_fL_bestOrder σ).bind fun c432 =>
    (qa_fX10_bestOrder c432.2).bind fun c434 =>
    if (qa_fX10_thrown c434.2) = c432.1 then
      if ¬ c432.1 = 0 then
        qa_fL_law_2533 L k23 x4 c434.2
      else
        if (lg_cmp (c434.2.2 (10, 29) ((Int32.ofInt 0)).toNatClampNeg) ((c434.1).toInt64)) = 0 then
          qa_fL_law_2533 L k23 x4 c434.2
        else
          some (false, c434.2)
    else
      some (false, c434.2)
noncomputable def qa_fL_law_2536 (L : Nat) (k23 : Int32 → qa_T → Option (Bool × qa_T)) (x4 : Int32) (σ : qa_T) : Option (Bool × qa_T) :=
    (qa_fX10_time σ).bind fun c440 =>
    if (qa_fX9_time σ) = c440.1 then
      qa_fL_law_2682 L k23 x4 c440.2
    else
      some (false, c440.2)
noncomputable def qa_fL_law_2549 (L : Nat) (k23 : Int32 → qa_T → Option (Bool × qa_T)) (x4 : Int32) (σ : qa_T) : Option (Bool × qa_T) :=
    (qa_fX10_hits σ).bind fun c444 =>
    if (qa_fX9_hits σ) = c444.1 then
      qa_fL_law_2682 L k23 x4 c444.2
    else
      some (false, c444.2)
noncomputable def qa_fL_law_2562 (L : Nat) (k23 : Int32 → qa_T → Option (Bool × qa_T)) (x4 : Int32) (σ : qa_T) : Option (Bool × qa_T) :=
    (qa_fX10_misses σ).bind fun c448 =>
    if (qa_fX9_misses σ) = c448.1 then
      qa_fL_law_2682 L k23 x4 c448.2
    else
      some (false, c448.2)
noncomputable def qa_fL_law_2575 (L : Nat) (k23 : Int32 → qa_T → Option (Bool × qa_T)) (x4 : Int32) (σ : qa_T) : Option (Bool × qa_T) :=
    (qa_fX10_loads σ).bind fun c452 =>
    if (qa_fX9_loads σ) = c452.1 then
      qa_fL_law_2682 L k23 x4 c452.2
    else
      some (false, c452.2)
noncomputable def qa_fL_law_2588 (L : Nat) (k23 : Int32 → qa_T → Option (Bool × qa_T)) (x4 : Int32) (σ : qa_T) : Option (Bool × qa_T) :=
    (qa_fX10_warmLoads σ).bind fun c456 =>
    if (qa_fX9_warmLoads σ) = c456.1 then
      qa_fL_law_2682 L k23 x4 c456.2
    else
      some (false, c456.2)
noncomputable def qa_fL_law_2601 (L : Nat) (k23 : Int32 → qa_T → Option (Bool × qa_T)) (x4 : Int32) (σ : qa_T) : Option (Bool × qa_T) :=
    (qa_fX10_burnings σ).bind fun c460 =>
    if (qa_fX9_burnings σ) = c460.1 then
      qa_fL_law_2682 L k23 x4 c460.2
    else
      some (false, c460.2)
noncomputable def qa_fL_law_2614 (L : Nat) (k23 : Int32 → qa_T → Option (Bool × qa_T)) (x4 : Int32) (σ : qa_T) : Option (Bool × qa_T) :=
    (qa_fX10_waited σ).bind fun c464 =>
    if (qa_fX9_waited σ) = c464.1 then
      qa_fL_law_2682 L k23 x4 c464.2
    else
      some (false, c464.2)
noncomputable def qa_fL_law_2665 (L : Nat) (k23 : Int32 → qa_T → Option (Bool × qa_T)) (x4 : Int32) (σ : qa_T) : Option (Bool × qa_T) :=
    qa_fL_law_2682 L k23 x4 σ
noncomputable def qa_fL_law_2663 (L : Nat) (σ : qa_T) : Option (Bool × qa_T) :=
    some (false, σ)
noncomputable def qa_fL_law_2627 (L : Nat) (k23 : Int32 → qa_T → Option (Bool × qa_T)) (x4 : Int32) (σ : qa_T) : Option (Bool × qa_T) :=
    (qa_fX9_hitShare σ).bind fun c468 =>
    (qa_fX10_hitShare σ).bind fun c470 =>
    if (Op.cmpValue (FP.dcmp c468 c470.1) .l) = 0 then
      qa_fL_law_2665 L k23 x4 c470.2
    else
      if (Op.cmpValue (FP.dcmp c468 c468) .l) = 0 then
        qa_fL_law_2663 L c470.2
      else
        if ¬ (Op.cmpValue (FP.dcmp c470.1 c470.1) .l) = 0 then
          qa_fL_law_2665 L k23 x4 c470.2
        else
          qa_fL_law_2663 L c470.2
noncomputable def qa_fL_law_2668 (L : Nat) (k23 : Int32 → qa_T → Option (Bool × qa_T)) (x4 : Int32) (σ : qa_T) : Option (Bool × qa_T) :=
    (qa_fX9_digest σ).bind fun c476 =>
    (qa_fX10_digest c476.2).bind fun c478 =>
    if (lg_cmp c476.1 c478.1) = 0 then
      qa_fL_law_2682 L k23 x4 c478.2
    else
      some (false, c478.2)
noncomputable def qa_fL_law_23 (L : Nat) : Nat → Int32 → qa_T → Option (Bool × qa_T)
  | 0, _, _ => none
  | n + 1, x4, σ =>
    if (Int32.ofNat L - (Int32.ofInt 4)) < x4 then
      some (true, σ)
    else
      if ¬ qa_in x4 L = true then none else
      let v3 : Int32 := ((σ.1 (0, 0) (x4).toNatClampNeg) &&& ((Int8.ofInt 63).toInt32))
      if v3 = 0 then
        qa_fL_law_304 L (qa_fL_law_23 L n) x4 σ
      else
      if v3 = 1 then
        qa_fL_law_384 L (qa_fL_law_23 L n) x4 σ
      else
      if v3 = 2 then
        qa_fL_law_452 L (qa_fL_law_23 L n) x4 σ
      else
      if v3 = 3 then
        qa_fL_law_508 L (qa_fL_law_23 L n) x4 σ
      else
      if v3 = 4 then
        qa_fL_law_559 L (qa_fL_law_23 L n) x4 σ
      else
      if v3 = 5 then
        qa_fL_law_615 L (qa_fL_law_23 L n) x4 σ
      else
      if v3 = 6 then
        qa_fL_law_671 L (qa_fL_law_23 L n) x4 σ
      else
      if v3 = 7 then
        qa_fL_law_727 L (qa_fL_law_23 L n) x4 σ
      else
      if v3 = 8 then
        qa_fL_law_783 L (qa_fL_law_23 L n) x4 σ
      else
      if v3 = 9 then
        qa_fL_law_839 L (qa_fL_law_23 L n) x4 σ
      else
      if v3 = 10 then
        qa_fL_law_895 L (qa_fL_law_23 L n) x4 σ
      else
      if v3 = 11 then
        qa_fL_law_951 L (qa_fL_law_23 L n) x4 σ
      else
      if v3 = 12 then
        qa_fL_law_1007 L (qa_fL_law_23 L n) x4 σ
      else
      if v3 = 13 then
        qa_fL_law_1063 L (qa_fL_law_23 L n) x4 σ
      else
      if v3 = 14 then
        qa_fL_law_1076 L (qa_fL_law_23 L n) x4 σ
      else
      if v3 = 15 then
        qa_fL_law_1089 L (qa_fL_law_23 L n) x4 σ
      else
      if v3 = 16 then
        qa_fL_law_1133 L (qa_fL_law_23 L n) x4 σ
      else
      if v3 = 17 then
        qa_fL_law_1169 L (qa_fL_law_23 L n) x4 σ
      else
      if v3 = 18 then
        qa_fL_law_1205 L (qa_fL_law_23 L n) x4 σ
      else
      if v3 = 19 then
        qa_fL_law_1229 L (qa_fL_law_23 L n) x4 σ
      else
      if v3 = 20 then
        qa_fL_law_1242 L (qa_fL_law_23 L n) x4 σ
      else
      if v3 = 21 then
        qa_fL_law_1255 L (qa_fL_law_23 L n) x4 σ
      else
      if v3 = 22 then
        qa_fL_law_1311 L (qa_fL_law_23 L n) x4 σ
      else
      if v3 = 23 then
        qa_fL_law_1367 L (qa_fL_law_23 L n) x4 σ
      else
      if v3 = 24 then
        qa_fL_law_1423 L (qa_fL_law_23 L n) x4 σ
      else
      if v3 = 25 then
        qa_fL_law_1486 L (qa_fL_law_23 L n) x4 σ
      else
      if v3 = 26 then
        qa_fL_law_1549 L (qa_fL_law_23 L n) x4 σ
      else
      if v3 = 27 then
        qa_fL_law_1605 L (qa_fL_law_23 L n) x4 σ
      else
      if v3 = 28 then
        qa_fL_law_1661 L (qa_fL_law_23 L n) x4 σ
      else
      if v3 = 29 then
        qa_fL_law_1717 L (qa_fL_law_23 L n) x4 σ
      else
      if v3 = 30 then
        qa_fL_law_1773 L (qa_fL_law_23 L n) x4 σ
      else
      if v3 = 31 then
        qa_fL_law_1786 L (qa_fL_law_23 L n) x4 σ
      else
      if v3 = 32 then
        qa_fL_law_1842 L (qa_fL_law_23 L n) x4 σ
      else
      if v3 = 33 then
        qa_fL_law_1886 L (qa_fL_law_23 L n) x4 σ
      else
      if v3 = 34 then
        qa_fL_law_1930 L (qa_fL_law_23 L n) x4 σ
      else
      if v3 = 35 then
        qa_fL_law_1974 L (qa_fL_law_23 L n) x4 σ
      else
      if v3 = 36 then
        qa_fL_law_1987 L (qa_fL_law_23 L n) x4 σ
      else
      if v3 = 37 then
        qa_fL_law_2031 L (qa_fL_law_23 L n) x4 σ
      else
      if v3 = 38 then
        qa_fL_law_2075 L (qa_fL_law_23 L n) x4 σ
      else
      if v3 = 39 then
        qa_fL_law_2119 L (qa_fL_law_23 L n) x4 σ
      else
      if v3 = 40 then
        qa_fL_law_2132 L (qa_fL_law_23 L n) x4 σ
      else
      if v3 = 41 then
        qa_fL_law_2145 L (qa_fL_law_23 L n) x4 σ
      else
      if v3 = 42 then
        qa_fL_law_2201 L (qa_fL_law_23 L n) x4 σ
      else
      if v3 = 43 then
        qa_fL_law_2214 L (qa_fL_law_23 L n) x4 σ
      else
      if v3 = 44 then
        qa_fL_law_2227 L (qa_fL_law_23 L n) x4 σ
      else
      if v3 = 45 then
        qa_fL_law_2240 L (qa_fL_law_23 L n) x4 σ
      else
      if v3 = 46 then
        qa_fL_law_2253 L (qa_fL_law_23 L n) x4 σ
      else
      if v3 = 47 then
        qa_fL_law_2266 L (qa_fL_law_23 L n) x4 σ
      else
      if v3 = 48 then
        qa_fL_law_2279 L (qa_fL_law_23 L n) x4 σ
      else
      if v3 = 49 then
        qa_fL_law_2292 L (qa_fL_law_23 L n) x4 σ
      else
      if v3 = 50 then
        qa_fL_law_2336 L (qa_fL_law_23 L n) x4 σ
      else
      if v3 = 51 then
        qa_fL_law_2380 L (qa_fL_law_23 L n) x4 σ
      else
      if v3 = 52 then
        qa_fL_law_2436 L (qa_fL_law_23 L n) x4 σ
      else
      if v3 = 53 then
        qa_fL_law_2492 L (qa_fL_law_23 L n) x4 σ
      else
      if v3 = 54 then
        qa_fL_law_2536 L (qa_fL_law_23 L n) x4 σ
      else
      if v3 = 55 then
        qa_fL_law_2549 L (qa_fL_law_23 L n) x4 σ
      else
      if v3 = 56 then
        qa_fL_law_2562 L (qa_fL_law_23 L n) x4 σ
      else
      if v3 = 57 then
        qa_fL_law_2575 L (qa_fL_law_23 L n) x4 σ
      else
      if v3 = 58 then
        qa_fL_law_2588 L (qa_fL_law_23 L n) x4 σ
      else
      if v3 = 59 then
        qa_fL_law_2601 L (qa_fL_law_23 L n) x4 σ
      else
      if v3 = 60 then
        qa_fL_law_2614 L (qa_fL_law_23 L n) x4 σ
      else
      if v3 = 61 then
        qa_fL_law_2627 L (qa_fL_law_23 L n) x4 σ
      else
      if v3 = 62 then
        qa_fL_law_2668 L (qa_fL_law_23 L n) x4 σ
      else
        qa_fL_law_2682 L (qa_fL_law_23 L n) x4 σ
