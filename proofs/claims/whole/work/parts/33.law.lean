/-! the law's methods as functions (written by wip/tools/gen_law.py) -/
noncomputable def qa_fL_law_2682 (L : Nat) (k23 : Int32 → qa_T → Option (Bool × qa_T)) (x4 : Int32) (σ : qa_T) : Option (Bool × qa_T) :=
    let v17 : Int32 := x4 + Int32.ofInt 4
    k23 v17 σ
noncomputable def qa_fL_law_381 (L : Nat) (k23 : Int32 → qa_T → Option (Bool × qa_T)) (x4 : Int32) (σ : qa_T) : Option (Bool × qa_T) :=
    qa_fL_law_2682 L k23 x4 σ
noncomputable def qa_fL_law_304 (L : Nat) (k23 : Int32 → qa_T → Option (Bool × qa_T)) (x4 : Int32) (σ : qa_T) : Option (Bool × qa_T) :=
    if ¬ qa_in (x4 + (Int32.ofInt 1)) L = true then none else
    if ¬ qa_in (x4 + (Int32.ofInt 2)) L = true then none else
    if ¬ qa_in (x4 + (Int32.ofInt 3)) L = true then none else
    (qa_fL_addSlide (σ.1 (0, 0) ((x4 + (Int32.ofInt 1))).toNatClampNeg) (σ.1 (0, 0) ((x4 + (Int32.ofInt 2))).toNatClampNeg) (σ.1 (0, 0) ((x4 + (Int32.ofInt 3))).toNatClampNeg) σ).bind fun c8 =>
    if ¬ qa_in (x4 + (Int32.ofInt 1)) L = true then none else
    if ¬ qa_in (x4 + (Int32.ofInt 2)) L = true then none else
    if ¬ qa_in (x4 + (Int32.ofInt 3)) L = true then none else
    (qa_fX10_addSlide (c8.2.1 (0, 0) ((x4 + (Int32.ofInt 1))).toNatClampNeg) (c8.2.1 (0, 0) ((x4 + (Int32.ofInt 2))).toNatClampNeg) (c8.2.1 (0, 0) ((x4 + (Int32.ofInt 3))).toNatClampNeg) c8.2).bind fun c13 =>
    if (qa_fX10_thrown c13.2) = c8.1 then
      if ¬ c8.1 = 0 then
        qa_fL_law_381 L k23 x4 c13.2
      else
        if (lg_cmp (c13.2.2 (10, 29) ((Int32.ofInt 0)).toNatClampNeg) ((c13.1).toInt64)) = 0 then
          qa_fL_law_381 L k23 x4 c13.2
        else
          some (false, c13.2)
    else
      some (false, c13.2)
noncomputable def qa_fL_law_449 (L : Nat) (k23 : Int32 → qa_T → Option (Bool × qa_T)) (x4 : Int32) (σ : qa_T) : Option (Bool × qa_T) :=
    qa_fL_law_2682 L k23 x4 σ
noncomputable def qa_fL_law_384 (L : Nat) (k23 : Int32 → qa_T → Option (Bool × qa_T)) (x4 : Int32) (σ : qa_T) : Option (Bool × qa_T) :=
    if ¬ qa_in (x4 + (Int32.ofInt 1)) L = true then none else
    if ¬ qa_in (x4 + (Int32.ofInt 2)) L = true then none else
    (qa_fL_insert (σ.1 (0, 0) ((x4 + (Int32.ofInt 1))).toNatClampNeg) (σ.1 (0, 0) ((x4 + (Int32.ofInt 2))).toNatClampNeg) σ).bind fun c22 =>
    if ¬ qa_in (x4 + (Int32.ofInt 1)) L = true then none else
    if ¬ qa_in (x4 + (Int32.ofInt 2)) L = true then none else
    (qa_fX10_insert (c22.2.1 (0, 0) ((x4 + (Int32.ofInt 1))).toNatClampNeg) (c22.2.1 (0, 0) ((x4 + (Int32.ofInt 2))).toNatClampNeg) c22.2).bind fun c26 =>
    if (qa_fX10_thrown c26.2) = c22.1 then
      if ¬ c22.1 = 0 then
        qa_fL_law_449 L k23 x4 c26.2
      else
        if (lg_cmp (c26.2.2 (10, 29) ((Int32.ofInt 0)).toNatClampNeg) ((c26.1).toInt64)) = 0 then
          qa_fL_law_449 L k23 x4 c26.2
        else
          some (false, c26.2)
    else
      some (false, c26.2)
noncomputable def qa_fL_law_505 (L : Nat) (k23 : Int32 → qa_T → Option (Bool × qa_T)) (x4 : Int32) (σ : qa_T) : Option (Bool × qa_T) :=
    qa_fL_law_2682 L k23 x4 σ
noncomputable def qa_fL_law_452 (L : Nat) (k23 : Int32 → qa_T → Option (Bool × qa_T)) (x4 : Int32) (σ : qa_T) : Option (Bool × qa_T) :=
    if ¬ qa_in (x4 + (Int32.ofInt 1)) L = true then none else
    (qa_fL_takeOut (σ.1 (0, 0) ((x4 + (Int32.ofInt 1))).toNatClampNeg) σ).bind fun c33 =>
    if ¬ qa_in (x4 + (Int32.ofInt 1)) L = true then none else
    (qa_fX10_takeOut (c33.2.1 (0, 0) ((x4 + (Int32.ofInt 1))).toNatClampNeg) c33.2).bind fun c36 =>
    if (qa_fX10_thrown c36.2) = c33.1 then
      if ¬ c33.1 = 0 then
        qa_fL_law_505 L k23 x4 c36.2
      else
        if (lg_cmp (c36.2.2 (10, 29) ((Int32.ofInt 0)).toNatClampNeg) ((c36.1).toInt64)) = 0 then
          qa_fL_law_505 L k23 x4 c36.2
        else
          some (false, c36.2)
    else
      some (false, c36.2)
noncomputable def qa_fL_law_556 (L : Nat) (k23 : Int32 → qa_T → Option (Bool × qa_T)) (x4 : Int32) (σ : qa_T) : Option (Bool × qa_T) :=
    qa_fL_law_2682 L k23 x4 σ
noncomputable def qa_fL_law_550 (L : Nat) (k23 : Int32 → qa_T → Option (Bool × qa_T)) (x4 : Int32) (y0 : Int64) (y1 : Int64) (σ : qa_T) : Option (Bool × qa_T) :=
    if (lg_cmp y1 y0) = 0 then
      qa_fL_law_556 L k23 x4 σ
    else
      some (false, σ)
noncomputable def qa_fL_law_508 (L : Nat) (k23 : Int32 → qa_T → Option (Bool × qa_T)) (x4 : Int32) (σ : qa_T) : Option (Bool × qa_T) :=
    (qa_fL_goOn σ).bind fun c42 =>
    (qa_fX10_goOn c42.2).bind fun c44 =>
    let v46 : Int32 := (qa_bi c44.1)
    if (qa_fX10_thrown c44.2) = c42.1 then
      if ¬ c42.1 = 0 then
        qa_fL_law_556 L k23 x4 c44.2
      else
        if v46 = 0 then
          qa_fL_law_550 L k23 x4 (Int64.ofNat ((0 : Fin 2) : Nat)) (c44.2.2 (10, 29) ((Int32.ofInt 0)).toNatClampNeg) c44.2
        else
          qa_fL_law_550 L k23 x4 (Int64.ofNat ((1 : Fin 2) : Nat)) (c44.2.2 (10, 29) ((Int32.ofInt 0)).toNatClampNeg) c44.2
    else
      some (false, c44.2)
noncomputable def qa_fL_law_612 (L : Nat) (k23 : Int32 → qa_T → Option (Bool × qa_T)) (x4 : Int32) (σ : qa_T) : Option (Bool × qa_T) :=
    qa_fL_law_2682 L k23 x4 σ
noncomputable def qa_fL_law_559 (L : Nat) (k23 : Int32 → qa_T → Option (Bool × qa_T)) (x4 : Int32) (σ : qa_T) : Option (Bool × qa_T) :=
    if ¬ qa_in (x4 + (Int32.ofInt 1)) L = true then none else
    (qa_fL_ask (σ.1 (0, 0) ((x4 + (Int32.ofInt 1))).toNatClampNeg) σ).bind fun c53 =>
    if ¬ qa_in (x4 + (Int32.ofInt 1)) L = true then none else
    (qa_fX10_ask (c53.2.1 (0, 0) ((x4 + (Int32.ofInt 1))).toNatClampNeg) c53.2).bind fun c56 =>
    if (qa_fX10_thrown c56.2) = c53.1 then
      if ¬ c53.1 = 0 then
        qa_fL_law_612 L k23 x4 c56.2
      else
        if (lg_cmp (c56.2.2 (10, 29) ((Int32.ofInt 0)).toNatClampNeg) ((c56.1).toInt64)) = 0 then
          qa_fL_law_612 L k23 x4 c56.2
        else
          some (false, c56.2)
    else
      some (false, c56.2)
noncomputable def qa_fL_law_668 (L : Nat) (k23 : Int32 → qa_T → Option (Bool × qa_T)) (x4 : Int32) (σ : qa_T) : Option (Bool × qa_T) :=
    qa_fL_law_2682 L k23 x4 σ
noncomputable def qa_fL_law_615 (L : Nat) (k23 : Int32 → qa_T → Option (Bool × qa_T)) (x4 : Int32) (σ : qa_T) : Option (Bool × qa_T) :=
    if ¬ qa_in (x4 + (Int32.ofInt 1)) L = true then none else
    (qa_fL_burn (σ.1 (0, 0) ((x4 + (Int32.ofInt 1))).toNatClampNeg) σ).bind fun c63 =>
    if ¬ qa_in (x4 + (Int32.ofInt 1)) L = true then none else
    (qa_fX10_burn (c63.2.1 (0, 0) ((x4 + (Int32.ofInt 1))).toNatClampNeg) c63.2).bind fun c66 =>
    if (qa_fX10_thrown c66.2) = c63.1 then
      if ¬ c63.1 = 0 then
        qa_fL_law_668 L k23 x4 c66.2
      else
        if (lg_cmp (c66.2.2 (10, 29) ((Int32.ofInt 0)).toNatClampNeg) ((c66.1).toInt64)) = 0 then
          qa_fL_law_668 L k23 x4 c66.2
        else
          some (false, c66.2)
    else
      some (false, c66.2)
noncomputable def qa_fL_law_724 (L : Nat) (k23 : Int32 → qa_T → Option (Bool × qa_T)) (x4 : Int32) (σ : qa_T) : Option (Bool × qa_T) :=
    qa_fL_law_2682 L k23 x4 σ
noncomputable def qa_fL_law_671 (L : Nat) (k23 : Int32 → qa_T → Option (Bool × qa_T)) (x4 : Int32) (σ : qa_T) : Option (Bool × qa_T) :=
    if ¬ qa_in (x4 + (Int32.ofInt 1)) L = true then none else
    (qa_fL_tick (σ.1 (0, 0) ((x4 + (Int32.ofInt 1))).toNatClampNeg) σ).bind fun c73 =>
    if ¬ qa_in (x4 + (Int32.ofInt 1)) L = true then none else
    (qa_fX10_tick (c73.2.1 (0, 0) ((x4 + (Int32.ofInt 1))).toNatClampNeg) c73.2).bind fun c76 =>
    if (qa_fX10_thrown c76.2) = c73.1 then
      if ¬ c73.1 = 0 then
        qa_fL_law_724 L k23 x4 c76.2
      else
        if (lg_cmp (c76.2.2 (10, 29) ((Int32.ofInt 0)).toNatClampNeg) ((c76.1).toInt64)) = 0 then
          qa_fL_law_724 L k23 x4 c76.2
        else
          some (false, c76.2)
    else
      some (false, c76.2)
noncomputable def qa_fL_law_780 (L : Nat) (k23 : Int32 → qa_T → Option (Bool × qa_T)) (x4 : Int32) (σ : qa_T) : Option (Bool × qa_T) :=
    qa_fL_law_2682 L k23 x4 σ
noncomputable def qa_fL_law_727 (L : Nat) (k23 : Int32 → qa_T → Option (Bool × qa_T)) (x4 : Int32) (σ : qa_T) : Option (Bool × qa_T) :=
    if ¬ qa_in (x4 + (Int32.ofInt 1)) L = true then none else
    (qa_fL_changeMemory (σ.1 (0, 0) ((x4 + (Int32.ofInt 1))).toNatClampNeg) σ).bind fun c83 =>
    if ¬ qa_in (x4 + (Int32.ofInt 1)) L = true then none else
    (qa_fX10_changeMemory (c83.2.1 (0, 0) ((x4 + (Int32.ofInt 1))).toNatClampNeg) c83.2).bind fun c86 =>
    if (qa_fX10_thrown c86.2) = c83.1 then
      if ¬ c83.1 = 0 then
        qa_fL_law_780 L k23 x4 c86.2
      else
        if (lg_cmp (c86.2.2 (10, 29) ((Int32.ofInt 0)).toNatClampNeg) ((c86.1).toInt64)) = 0 then
          qa_fL_law_780 L k23 x4 c86.2
        else
          some (false, c86.2)
    else
      some (false, c86.2)
noncomputable def qa_fL_law_836 (L : Nat) (k23 : Int32 → qa_T → Option (Bool × qa_T)) (x4 : Int32) (σ : qa_T) : Option (Bool × qa_T) :=
    qa_fL_law_2682 L k23 x4 σ
noncomputable def qa_fL_law_783 (L : Nat) (k23 : Int32 → qa_T → Option (Bool × qa_T)) (x4 : Int32) (σ : qa_T) : Option (Bool × qa_T) :=
    if ¬ qa_in (x4 + (Int32.ofInt 1)) L = true then none else
    (qa_fL_changeAhead (σ.1 (0, 0) ((x4 + (Int32.ofInt 1))).toNatClampNeg) σ).bind fun c93 =>
    if ¬ qa_in (x4 + (Int32.ofInt 1)) L = true then none else
    (qa_fX10_changeAhead (c93.2.1 (0, 0) ((x4 + (Int32.ofInt 1))).toNatClampNeg) c93.2).bind fun c96 =>
    if (qa_fX10_thrown c96.2) = c93.1 then
      if ¬ c93.1 = 0 then
        qa_fL_law_836 L k23 x4 c96.2
      else
        if (lg_cmp (c96.2.2 (10, 29) ((Int32.ofInt 0)).toNatClampNeg) ((c96.1).toInt64)) = 0 then
          qa_fL_law_836 L k23 x4 c96.2
        else
          some (false, c96.2)
    else
      some (false, c96.2)
noncomputable def qa_fL_law_892 (L : Nat) (k23 : Int32 → qa_T → Option (Bool × qa_T)) (x4 : Int32) (σ : qa_T) : Option (Bool × qa_T) :=
    qa_fL_law_2682 L k23 x4 σ
noncomputable def qa_fL_law_839 (L : Nat) (k23 : Int32 → qa_T → Option (Bool × qa_T)) (x4 : Int32) (σ : qa_T) : Option (Bool × qa_T) :=
    if ¬ qa_in (x4 + (Int32.ofInt 1)) L = true then none else
    (qa_fL_changeOrder (σ.1 (0, 0) ((x4 + (Int32.ofInt 1))).toNatClampNeg) σ).bind fun c103 =>
    if ¬ qa_in (x4 + (Int32.ofInt 1)) L = true then none else
    (qa_fX10_changeOrder (c103.2.1 (0, 0) ((x4 + (Int32.ofInt 1))).toNatClampNeg) c103.2).bind fun c106 =>
    if (qa_fX10_thrown c106.2) = c103.1 then
      if ¬ c103.1 = 0 then
        qa_fL_law_892 L k23 x4 c106.2
      else
        if (lg_cmp (c106.2.2 (10, 29) ((Int32.ofInt 0)).toNatClampNeg) ((c106.1).toInt64)) = 0 then
          qa_fL_law_892 L k23 x4 c106.2
        else
          some (false, c106.2)
    else
      some (false, c106.2)
noncomputable def qa_fL_law_948 (L : Nat) (k23 : Int32 → qa_T → Option (Bool × qa_T)) (x4 : Int32) (σ : qa_T) : Option (Bool × qa_T) :=
    qa_fL_law_2682 L k23 x4 σ
noncomputable def qa_fL_law_895 (L : Nat) (k23 : Int32 → qa_T → Option (Bool × qa_T)) (x4 : Int32) (σ : qa_T) : Option (Bool × qa_T) :=
    if ¬ qa_in (x4 + (Int32.ofInt 1)) L = true then none else
    (qa_fL_changeGlow (σ.1 (0, 0) ((x4 + (Int32.ofInt 1))).toNatClampNeg) σ).bind fun c113 =>
    if ¬ qa_in (x4 + (Int32.ofInt 1)) L = true then none else
    (qa_fX10_changeGlow (c113.2.1 (0, 0) ((x4 + (Int32.ofInt 1))).toNatClampNeg) c113.2).bind fun c116 =>
    if (qa_fX10_thrown c116.2) = c113.1 then
      if ¬ c113.1 = 0 then
        qa_fL_law_948 L k23 x4 c116.2
      else
        if (lg_cmp (c116.2.2 (10, 29) ((Int32.ofInt 0)).toNatClampNeg) ((c116.1).toInt64)) = 0 then
          qa_fL_law_948 L k23 x4 c116.2
        else
          some (false, c116.2)
    else
      some (false, c116.2)
noncomputable def qa_fL_law_1004 (L : Nat) (k23 : Int32 → qa_T → Option (Bool × qa_T)) (x4 : Int32) (σ : qa_T) : Option (Bool × qa_T) :=
    qa_fL_law_2682 L k23 x4 σ
noncomputable def qa_fL_law_951 (L : Nat) (k23 : Int32 → qa_T → Option (Bool × qa_T)) (x4 : Int32) (σ : qa_T) : Option (Bool × qa_T) :=
    if ¬ qa_in (x4 + (Int32.ofInt 1)) L = true then none else
    (qa_fL_changePace (σ.1 (0, 0) ((x4 + (Int32.ofInt 1))).toNatClampNeg) σ).bind fun c123 =>
    if ¬ qa_in (x4 + (Int32.ofInt 1)) L = true then none else
    (qa_fX10_changePace (c123.2.1 (0, 0) ((x4 + (Int32.ofInt 1))).toNatClampNeg) c123.2).bind fun c126 =>
    if (qa_fX10_thrown c126.2) = c123.1 then
      if ¬ c123.1 = 0 then
        qa_fL_law_1004 L k23 x4 c126.2
      else
        if (lg_cmp (c126.2.2 (10, 29) ((Int32.ofInt 0)).toNatClampNeg) ((c126.1).toInt64)) = 0 then
          qa_fL_law_1004 L k23 x4 c126.2
        else
          some (false, c126.2)
    else
      some (false, c126.2)
noncomputable def qa_fL_law_1060 (L : Nat) (k23 : Int32 → qa_T → Option (Bool × qa_T)) (x4 : Int32) (σ : qa_T) : Option (Bool × qa_T) :=
    qa_fL_law_2682 L k23 x4 σ
noncomputable def qa_fL_law_1007 (L : Nat) (k23 : Int32 → qa_T → Option (Bool × qa_T)) (x4 : Int32) (σ : qa_T) : Option (Bool × qa_T) :=
    if ¬ qa_in (x4 + (Int32.ofInt 1)) L = true then none else
    (qa_fL_append (σ.1 (0, 0) ((x4 + (Int32.ofInt 1))).toNatClampNeg) σ).bind fun c133 =>
    if ¬ qa_in (x4 + (Int32.ofInt 1)) L = true then none else
    (qa_fX10_append (c133.2.1 (0, 0) ((x4 + (Int32.ofInt 1))).toNatClampNeg) c133.2).bind fun c136 =>
    if (qa_fX10_thrown c136.2) = c133.1 then
      if ¬ c133.1 = 0 then
        qa_fL_law_1060 L k23 x4 c136.2
      else
        if (lg_cmp (c136.2.2 (10, 29) ((Int32.ofInt 0)).toNatClampNeg) ((c136.1).toInt64)) = 0 then
          qa_fL_law_1060 L k23 x4 c136.2
        else
          some (false, c136.2)
    else
      some (false, c136.2)
noncomputable def qa_fL_law_1063 (L : Nat) (k23 : Int32 → qa_T → Option (Bool × qa_T)) (x4 : Int32) (σ : qa_T) : Option (Bool × qa_T) :=
    let c142 := qa_fX9_clearBuffer σ
    let c143 := qa_fX10_clearBuffer c142.2
    if c142.1 = c143.1 then
      qa_fL_law_2682 L k23 x4 c143.2
    else
      some (false, c143.2)
noncomputable def qa_fL_law_1076 (L : Nat) (k23 : Int32 → qa_T → Option (Bool × qa_T)) (x4 : Int32) (σ : qa_T) : Option (Bool × qa_T) :=
    (qa_fX9_firstError σ).bind fun c146 =>
    (qa_fX10_firstError c146.2).bind fun c148 =>
    if c146.1 = c148.1 then
      qa_fL_law_2682 L k23 x4 c148.2
    else
      some (false, c148.2)
noncomputable def qa_fL_law_1130 (L : Nat) (k23 : Int32 → qa_T → Option (Bool × qa_T)) (x4 : Int32) (σ : qa_T) : Option (Bool × qa_T) :=
    qa_fL_law_2682 L k23 x4 σ
noncomputable def qa_fL_law_1089 (L : Nat) (k23 : Int32 → qa_T → Option (Bool × qa_T)) (x4 : Int32) (σ : qa_T) : Option (Bool × qa_T) :=
    (qa_fL_follow σ).bind fun c152 =>
    (qa_fX10_follow c152.2).bind fun c154 =>
    if (qa_fX10_thrown c154.2) = c152.1 then
      if ¬ c152.1 = 0 then
        qa_fL_law_1130 L k23 x4 c154.2
      else
        if (lg_cmp (c154.2.2 (10, 29) ((Int32.ofInt 0)).toNatClampNeg) ((c154.1).toInt64)) = 0 then
          qa_fL_law_1130 L k23 x4 c154.2
        else
          some (false, c154.2)
    else
      some (false, c154.2)
noncomputable def qa_fL_law_1133 (L : Nat) (k23 : Int32 → qa_T → Option (Bool × qa_T)) (x4 : Int32) (σ : qa_T) : Option (Bool × qa_T) :=
    if ¬ qa_in (x4 + (Int32.ofInt 1)) L = true then none else
    (qa_fL_keep (σ.1 (0, 0) ((x4 + (Int32.ofInt 1))).toNatClampNeg) σ).bind fun c161 =>
    if ¬ qa_in (x4 + (Int32.ofInt 1)) L = true then none else
    (qa_fX10_keep (c161.2.1 (0, 0) ((x4 + (Int32.ofInt 1))).toNatClampNeg) c161.2).bind fun c164 =>
    if (qa_fX10_thrown c164) = c161.1 then
      qa_fL_law_2682 L k23 x4 c164
    else
      some (false, c164)
noncomputable def qa_fL_law_1169 (L : Nat) (k23 : Int32 → qa_T → Option (Bool × qa_T)) (x4 : Int32) (σ : qa_T) : Option (Bool × qa_T) :=
    if ¬ qa_in (x4 + (Int32.ofInt 1)) L = true then none else
    (qa_fL_goBack (σ.1 (0, 0) ((x4 + (Int32.ofInt 1))).toNatClampNeg) σ).bind fun c169 =>
    if ¬ qa_in (x4 + (Int32.ofInt 1)) L = true then none else
    (qa_fX10_goBack (c169.2.1 (0, 0) ((x4 + (Int32.ofInt 1))).toNatClampNeg) c169.2).bind fun c172 =>
    if (qa_fX10_thrown c172) = c169.1 then
      qa_fL_law_2682 L k23 x4 c172
    else
      some (false, c172)
noncomputable def qa_fL_law_1205 (L : Nat) (k23 : Int32 → qa_T → Option (Bool × qa_T)) (x4 : Int32) (σ : qa_T) : Option (Bool × qa_T) :=
    (qa_fL_undo σ).bind fun c176 =>
    (qa_fX10_undo c176.2).bind fun c178 =>
    if (qa_fX10_thrown c178) = c176.1 then
      qa_fL_law_2682 L k23 x4 c178
    else
      some (false, c178)
noncomputable def qa_fL_law_1229 (L : Nat) (k23 : Int32 → qa_T → Option (Bool × qa_T)) (x4 : Int32) (σ : qa_T) : Option (Bool × qa_T) :=
    let c182 := qa_fX10_savedStates σ
    if (qa_fX9_savedStates σ) = c182.1 then
      qa_fL_law_2682 L k23 x4 c182.2
    else
      some (false, c182.2)
noncomputable def qa_fL_law_1242 (L : Nat) (k23 : Int32 → qa_T → Option (Bool × qa_T)) (x4 : Int32) (σ : qa_T) : Option (Bool × qa_T) :=
    (qa_fX10_slides σ).bind fun c185 =>
    if (qa_fX9_slides σ) = c185.1 then
      qa_fL_law_2682 L k23 x4 c185.2
    else
      some (false, c185.2)
noncomputable def qa_fL_law_1308 (L : Nat) (k23 : Int32 → qa_T → Option (Bool × qa_T)) (x4 : Int32) (σ : qa_T) : Option (Bool × qa_T) :=
    qa_fL_law_2682 L k23 x4 σ
noncomputable def qa_fL_law_1255 (L : Nat) (k23 : Int32 → qa_T → Option (Bool × qa_T)) (x4 : Int32) (σ : qa_T) : Option (Bool × qa_T) :=
    if ¬ qa_in (x4 + (Int32.ofInt 1)) L = true then none else
    (qa_fL_costOf (σ.1 (0, 0) ((x4 + (Int32.ofInt 1))).toNatClampNeg) σ).bind fun c190 =>
    if ¬ qa_in (x4 + (Int32.ofInt 1)) L = true then none else
    (qa_fX10_costOf (c190.2.1 (0, 0) ((x4 + (Int32.ofInt 1))).toNatClampNeg) c190.2).bind fun c193 =>
    if (qa_fX10_thrown c193.2) = c190.1 then
      if ¬ c190.1 = 0 then
        qa_fL_law_1308 L k23 x4 c193.2
      else
        if (lg_cmp (c193.2.2 (10, 29) ((Int32.ofInt 0)).toNatClampNeg) ((c193.1).toInt64)) = 0 then
          qa_fL_law_1308 L k23 x4 c193.2
        else
          some (false, c193.2)
    else
      some (false, c193.2)
noncomputable def qa_fL_law_1364 (L : Nat) (k23 : Int32 → qa_T → Option (Bool × qa_T)) (x4 : Int32) (σ : qa_T) : Option (Bool × qa_T) :=
    qa_fL_law_2682 L k23 x4 σ
noncomputable def qa_fL_law_1311 (L : Nat) (k23 : Int32 → qa_T → Option (Bool × qa_T)) (x4 : Int32) (σ : qa_T) : Option (Bool × qa_T) :=
    if ¬ qa_in (x4 + (Int32.ofInt 1)) L = true then none else
    (qa_fL_loadOf (σ.1 (0, 0) ((x4 + (Int32.ofInt 1))).toNatClampNeg) σ).bind fun c200 =>
    if ¬ qa_in (x4 + (Int32.ofInt 1)) L = true then none else
    (qa_fX10_loadOf (c200.2.1 (0, 0) ((x4 + (Int32.ofInt 1))).toNatClampNeg) c200.2).bind fun c203 =>
    if (qa_fX10_thrown c203.2) = c200.1 then
      if ¬ c200.1 = 0 then
        qa_fL_law_1364 L k23 x4 c203.2
      else
        if (lg_cmp (c203.2.2 (10, 29) ((Int32.ofInt 0)).toNatClampNeg) ((c203.1).toInt64)) = 0 then
          qa_fL_law_1364 L k23 x4 c203.2
        else
          some (false, c203.2)
    else
      some (false, c203.2)
noncomputable def qa_fL_law_1420 (L : Nat) (k23 : Int32 → qa_T → Option (Bool × qa_T)) (x4 : Int32) (σ : qa_T) : Option (Bool × qa_T) :=
    qa_fL_law_2682 L k23 x4 σ
noncomputable def qa_fL_law_1367 (L : Nat) (k23 : Int32 → qa_T → Option (Bool × qa_T)) (x4 : Int32) (σ : qa_T) : Option (Bool × qa_T) :=
    if ¬ qa_in (x4 + (Int32.ofInt 1)) L = true then none else
    (qa_fL_fadeOf (σ.1 (0, 0) ((x4 + (Int32.ofInt 1))).toNatClampNeg) σ).bind fun c210 =>
    if ¬ qa_in (x4 + (Int32.ofInt 1)) L = true then none else
    (qa_fX10_fadeOf (c210.2.1 (0, 0) ((x4 + (Int32.ofInt 1))).toNatClampNeg) c210.2).bind fun c213 =>
    if (qa_fX10_thrown c213.2) = c210.1 then
      if ¬ c210.1 = 0 then
        qa_fL_law_1420 L k23 x4 c213.2
      else
        if (lg_cmp (c213.2.2 (10, 29) ((Int32.ofInt 0)).toNatClampNeg) ((c213.1).toInt64)) = 0 then
          qa_fL_law_1420 L k23 x4 c213.2
        else
          some (false, c213.2)
    else
      some (false, c213.2)
noncomputable def qa_fL_law_1483 (L : Nat) (k23 : Int32 → qa_T → Option (Bool × qa_T)) (x4 : Int32) (σ : qa_T) : Option (Bool × qa_T) :=
    qa_fL_law_2682 L k23 x4 σ
noncomputable def qa_fL_law_1477 (L : Nat) (k23 : Int32 → qa_T → Option (Bool × qa_T)) (x4 : Int32) (y0 : Int64) (y1 : Int64) (σ : qa_T) : Option (Bool × qa_T) :=
    if (lg_cmp y1 y0) = 0 then
      qa_fL_law_1483 L k23 x4 σ
    else
      some (false, σ)
noncomputable def qa_fL_law_1423 (L : Nat) (k23 : Int32 → qa_T → Option (Bool × qa_T)) (x4 : Int32) (σ : qa_T) : Option (Bool × qa_T) :=
    if ¬ qa_in (x4 + (Int32.ofInt 1)) L = true then none else
    (qa_fL_isLoaded (σ.1 (0, 0) ((x4 + (Int32.ofInt 1))).toNatClampNeg) σ).bind fun c220 =>
    if ¬ qa_in (x4 + (Int32.ofInt 1)) L = true then none else
    (qa_fX10_isLoaded (c220.2.1 (0, 0) ((x4 + (Int32.ofInt 1))).toNatClampNeg) c220.2).bind fun c223 =>
    let v225 : Int32 := (qa_bi c223.1)
    if (qa_fX10_thrown c223.2) = c220.1 then
      if ¬ c220.1 = 0 then
        qa_fL_law_1483 L k23 x4 c223.2
      else
        if v225 = 0 then
          qa_fL_law_1477 L k23 x4 (Int64.ofNat ((0 : Fin 2) : Nat)) (c223.2.2 (10, 29) ((Int32.ofInt 0)).toNatClampNeg) c223.2
        else
          qa_fL_law_1477 L k23 x4 (Int64.ofNat ((1 : Fin 2) : Nat)) (c223.2.2 (10, 29) ((Int32.ofInt 0)).toNatClampNeg) c223.2
    else
      some (false, c223.2)
noncomputable def qa_fL_law_1546 (L : Nat) (k23 : Int32 → qa_T → Option (Bool × qa_T)) (x4 : Int32) (σ : qa_T) : Option (Bool × qa_T) :=
    qa_fL_law_2682 L k23 x4 σ
noncomputable def qa_fL_law_1540 (L : Nat) (k23 : Int32 → qa_T → Option (Bool × qa_T)) (x4 : Int32) (y0 : Int64) (y1 : Int64) (σ : qa_T) : Option (Bool × qa_T) :=
    if (lg_cmp y1 y0) = 0 then
      qa_fL_law_1546 L k23 x4 σ
    else
      some (false, σ)
noncomputable def qa_fL_law_1486 (L : Nat) (k23 : Int32 → qa_T → Option (Bool × qa_T)) (x4 : Int32) (σ : qa_T) : Option (Bool × qa_T) :=
    if ¬ qa_in (x4 + (Int32.ofInt 1)) L = true then none else
    (qa_fL_isOnShow (σ.1 (0, 0) ((x4 + (Int32.ofInt 1))).toNatClampNeg) σ).bind fun c232 =>
    if ¬ qa_in (x4 + (Int32.ofInt 1)) L = true then none else
    let c235 := qa_fX10_isOnShow (c232.2.1 (0, 0) ((x4 + (Int32.ofInt 1))).toNatClampNeg) c232.2
    let v236 : Int32 := (qa_bi c235.1)
    if (qa_fX10_thrown c235.2) = c232.1 then
      if ¬ c232.1 = 0 then
        qa_fL_law_1546 L k23 x4 c235.2
      else
        if v236 = 0 then
          qa_fL_law_1540 L k23 x4 (Int64.ofNat ((0 : Fin 2) : Nat)) (c235.2.2 (10, 29) ((Int32.ofInt 0)).toNatClampNeg) c235.2
        else
          qa_fL_law_1540 L k23 x4 (Int64.ofNat ((1 : Fin 2) : Nat)) (c235.2.2 (10, 29) ((Int32.ofInt 0)).toNatClampNeg) c235.2
    else
      some (false, c235.2)
noncomputable def qa_fL_law_1602 (L : Nat) (k23 : Int32 → qa_T → Option (Bool × qa_T)) (x4 : Int32) (σ : qa_T) : Option (Bool × qa_T) :=
    qa_fL_law_2682 L k23 x4 σ
noncomputable def qa_fL_law_1549 (L : Nat) (k23 : Int32 → qa_T → Option (Bool × qa_T)) (x4 : Int32) (σ : qa_T) : Option (Bool × qa_T) :=
    if ¬ qa_in (x4 + (Int32.ofInt 1)) L = true then none else
    (qa_fL_glowOf (σ.1 (0, 0) ((x4 + (Int32.ofInt 1))).toNatClampNeg) σ).bind fun c243 =>
    if ¬ qa_in (x4 + (Int32.ofInt 1)) L = true then none else
    (qa_fX10_glowOf (c243.2.1 (0, 0) ((x4 + (Int32.ofInt 1))).toNatClampNeg) c243.2).bind fun c246 =>
    if (qa_fX10_thrown c246.2) = c243.1 then
      if ¬ c243.1 = 0 then
        qa_fL_law_1602 L k23 x4 c246.2
      else
        if (lg_cmp (c246.2.2 (10, 29) ((Int32.ofInt 0)).toNatClampNeg) ((c246.1).toInt64)) = 0 then
          qa_fL_law_1602 L k23 x4 c246.2
        else
          some (false, c246.2)
    else
      some (false, c246.2)
noncomputable def qa_fL_law_1658 (L : Nat) (k23 : Int32 → qa_T → Option (Bool × qa_T)) (x4 : Int32) (σ : qa_T) : Option (Bool × qa_T) :=
    qa_fL_law_2682 L k23 x4 σ
noncomputable def qa_fL_law_1605 (L : Nat) (k23 : Int32 → qa_T → Option (Bool × qa_T)) (x4 : Int32) (σ : qa_T) : Option (Bool × qa_T) :=
    if ¬ qa_in (x4 + (Int32.ofInt 1)) L = true then none else
    (qa_fL_burntTimes (σ.1 (0, 0) ((x4 + (Int32.ofInt 1))).toNatClampNeg) σ).bind fun c253 =>
    if ¬ qa_in (x4 + (Int32.ofInt 1)) L = true then none else
    (qa_fX10_burntTimes (c253.2.1 (0, 0) ((x4 + (Int32.ofInt 1))).toNatClampNeg) c253.2).bind fun c256 =>
    if (qa_fX10_thrown c256.2) = c253.1 then
      if ¬ c253.1 = 0 then
        qa_fL_law_1658 L k23 x4 c256.2
      else
        if (lg_cmp (c256.2.2 (10, 29) ((Int32.ofInt 0)).toNatClampNeg) ((c256.1).toInt64)) = 0 then
          qa_fL_law_1658 L k23 x4 c256.2
        else
          some (false, c256.2)
    else
      some (false, c256.2)
noncomputable def qa_fL_law_1714 (L : Nat) (k23 : Int32 → qa_T → Option (Bool × qa_T)) (x4 : Int32) (σ : qa_T) : Option (Bool × qa_T) :=
    qa_fL_law_2682 L k23 x4 σ
noncomputable def qa_fL_law_1661 (L : Nat) (k23 : Int32 → qa_T → Option (Bool × qa_T)) (x4 : Int32) (σ : qa_T) : Option (Bool × qa_T) :=
    if ¬ qa_in (x4 + (Int32.ofInt 1)) L = true then none else
    (qa_fL_nextUse (σ.1 (0, 0) ((x4 + (Int32.ofInt 1))).toNatClampNeg) σ).bind fun c263 =>
    if ¬ qa_in (x4 + (Int32.ofInt 1)) L = true then none else
    (qa_fX10_nextUse (c263.2.1 (0, 0) ((x4 + (Int32.ofInt 1))).toNatClampNeg) c263.2).bind fun c266 =>
    if (qa_fX10_thrown c266.2) = c263.1 then
      if ¬ c263.1 = 0 then
        qa_fL_law_1714 L k23 x4 c266.2
      else
        if (lg_cmp (c266.2.2 (10, 29) ((Int32.ofInt 0)).toNatClampNeg) ((c266.1).toInt64)) = 0 then
          qa_fL_law_1714 L k23 x4 c266.2
        else
          some (false, c266.2)
    else
      some (false, c266.2)
noncomputable def qa_fL_law_1770 (L : Nat) (k23 : Int32 → qa_T → Option (Bool × qa_T)) (x4 : Int32) (σ : qa_T) : Option (Bool × qa_T) :=
    qa_fL_law_2682 L k23 x4 σ
noncomputable def qa_fL_law_1717 (L : Nat) (k23 : Int32 → qa_T → Option (Bool × qa_T)) (x4 : Int32) (σ : qa_T) : Option (Bool × qa_T) :=
    if ¬ qa_in (x4 + (Int32.ofInt 1)) L = true then none else
    (qa_fL_burnPlace (σ.1 (0, 0) ((x4 + (Int32.ofInt 1))).toNatClampNeg) σ).bind fun c273 =>
    if ¬ qa_in (x4 + (Int32.ofInt 1)) L = true then none else
    (qa_fX10_burnPlace (c273.2.1 (0, 0) ((x4 + (Int32.ofInt 1))).toNatClampNeg) c273.2).bind fun c276 =>
    if (qa_fX10_thrown c276.2) = c273.1 then
      if ¬ c273.1 = 0 then
        qa_fL_law_1770 L k23 x4 c276.2
      else
        if (lg_cmp (c276.2.2 (10, 29) ((Int32.ofInt 0)).toNatClampNeg) ((c276.1).toInt64)) = 0 then
          qa_fL_law_1770 L k23 x4 c276.2
        else
          some (false, c276.2)
    else
      some (false, c276.2)
noncomputable def qa_fL_law_1773 (L : Nat) (k23 : Int32 → qa_T → Option (Bool × qa_T)) (x4 : Int32) (σ : qa_T) : Option (Bool × qa_T) :=
    (qa_fX10_places σ).bind fun c282 =>
    if (qa_fX9_places σ) = c282.1 then
      qa_fL_law_2682 L k23 x4 c282.2
    else
      some (false, c282.2)
noncomputable def qa_fL_law_1839 (L : Nat) (k23 : Int32 → qa_T → Option (Bool × qa_T)) (x4 : Int32) (σ : qa_T) : Option (Bool × qa_T) :=
    qa_fL_law_2682 L k23 x4 σ
noncomputable def qa_fL_law_1786 (L : Nat) (k23 : Int32 → qa_T → Option (Bool × qa_T)) (x4 : Int32) (σ : qa_T) : Option (Bool × qa_T) :=
    if ¬ qa_in (x4 + (Int32.ofInt 1)) L = true then none else
    (qa_fL_slideAt (σ.1 (0, 0) ((x4 + (Int32.ofInt 1))).toNatClampNeg) σ).bind fun c287 =>
    if ¬ qa_in (x4 + (Int32.ofInt 1)) L = true then none else
    (qa_fX10_slideAt (c287.2.1 (0, 0) ((x4 + (Int32.ofInt 1))).toNatClampNeg) c287.2).bind fun c290 =>
    if (qa_fX10_thrown c290.2) = c287.1 then
      if ¬ c287.1 = 0 then
        qa_fL_law_1839 L k23 x4 c290.2
      else
        if (lg_cmp (c290.2.2 (10, 29) ((Int32.ofInt 0)).toNatClampNeg) ((c290.1).toInt64)) = 0 then
          qa_fL_law_1839 L k23 x4 c290.2
        else
          some (false, c290.2)
    else
      some (false, c290.2)
noncomputable def qa_fL_law_1883 (L : Nat) (k23 : Int32 → qa_T → Option (Bool × qa_T)) (x4 : Int32) (σ : qa_T) : Option (Bool × qa_T) :=
    qa_fL_law_2682 L k23 x4 σ
noncomputable def qa_fL_law_1842 (L : Nat) (k23 : Int32 → qa_T → Option (Bool × qa_T)) (x4 : Int32) (σ : qa_T) : Option (Bool × qa_T) :=
    (qa_fL_showPlace σ).bind fun c296 =>
    (qa_fX10_showPlace c296.2).bind fun c298 =>
    if (qa_fX10_thrown c298.2) = c296.1 then
      if ¬ c296.1 = 0 then
        qa_fL_law_1883 L k23 x4 c298.2
      else
        if (lg_cmp (c298.2.2 (10, 29) ((Int32.ofInt 0)).toNatClampNeg) ((c298.1).toInt64)) = 0 then
          qa_fL_law_1883 L k23 x4 c298.2
        else
          some (false, c298.2)
    else
      some (false, c298.2)
noncomputable def qa_fL_law_1927 (L : Nat) (k23 : Int32 → qa_T → Option (Bool × qa_T)) (x4 : Int32) (σ : qa_T) : Option (Bool × qa_T) :=
    qa_fL_law_2682 L k23 x4 σ
noncomputable def qa_fL_law_1886 (L : Nat) (k23 : Int32 → qa_T → Option (Bool × qa_T)) (x4 : Int32) (σ : qa_T) : Option (Bool × qa_T) :=
    (qa_fL_shown σ).bind fun c304 =>
    (qa_fX10_shown c304.2).bind fun c306 =>
    if (qa_fX10_thrown c306.2) = c304.1 then
      if ¬ c304.1 = 0 then
        qa_fL_law_1927 L k23 x4 c306.2
      else
        if (lg_cmp (c306.2.2 (10, 29) ((Int32.ofInt 0)).toNatClampNeg) ((c306.1).toInt64)) = 0 then
          qa_fL_law_1927 L k23 x4 c306.2
        else
          some (false, c306.2)
    else
      some (false, c306.2)
noncomputable def qa_fL_law_1971 (L : Nat) (k23 : Int32 → qa_T → Option (Bool × qa_T)) (x4 : Int32) (σ : qa_T) : Option (Bool × qa_T) :=
    qa_fL_law_2682 L k23 x4 σ
noncomputable def qa_fL_law_1930 (L : Nat) (k23 : Int32 → qa_T → Option (Bool × qa_T)) (x4 : Int32) (σ : qa_T) : Option (Bool × qa_T) :=
    (qa_fL_fading σ).bind fun c312 =>
    (qa_fX10_fading c312.2).bind fun c314 =>
    if (qa_fX10_thrown c314.2) = c312.1 then
      if ¬ c312.1 = 0 then
        qa_fL_law_1971 L k23 x4 c314.2
      else
        if (lg_cmp (c314.2.2 (10, 29) ((Int32.ofInt 0)).toNatClampNeg) ((c314.1).toInt64)) = 0 then
          qa_fL_law_1971 L k23 x4 c314.2
        else
          some (false, c314.2)
    else
      some (false, c314.2)
noncomputable def qa_fL_law_1974 (L : Nat) (k23 : Int32 → qa_T → Option (Bool × qa_T)) (x4 : Int32) (σ : qa_T) : Option (Bool × qa_T) :=
    (qa_fX10_fadeLeft σ).bind fun c320 =>
    if (qa_fX9_fadeLeft σ) = c320.1 then
      qa_fL_law_2682 L k23 x4 c320.2
    else
      some (false, c320.2)
noncomputable def qa_fL_law_2028 (L : Nat) (k23 : Int32 → qa_T → Option (Bool × qa_T)) (x4 : Int32) (σ : qa_T) : Option (Bool × qa_T) :=
    qa_fL_law_2682 L k23 x4 σ
noncomputable def qa_fL_law_1987 (L : Nat) (k23 : Int32 → qa_T → Option (Bool × qa_T)) (x4 : Int32) (σ : qa_T) : Option (Bool × qa_T) :=
    (qa_fL_awaited σ).bind fun c324 =>
    (qa_fX10_awaited c324.2).bind fun c326 =>
    if (qa_fX10_thrown c326.2) = c324.1 then
      if ¬ c324.1 = 0 then
        qa_fL_law_2028 L k23 x4 c326.2
      else
        if (lg_cmp (c326.2.2 (10, 29) ((Int32.ofInt 0)).toNatClampNeg) ((c326.1).toInt64)) = 0 then
          qa_fL_law_2028 L k23 x4 c326.2
        else
          some (false, c326.2)
    else
      some (false, c326.2)
noncomputable def qa_fL_law_2072 (L : Nat) (k23 : Int32 → qa_T → Option (Bool × qa_T)) (x4 : Int32) (σ : qa_T) : Option (Bool × qa_T) :=
    qa_fL_law_2682 L k23 x4 σ
noncomputable def qa_fL_law_2031 (L : Nat) (k23 : Int32 → qa_T → Option (Bool × qa_T)) (x4 : Int32) (σ : qa_T) : Option (Bool × qa_T) :=
    (qa_fL_shownFor σ).bind fun c332 =>
    (qa_fX10_shownFor c332.2).bind fun c334 =>
    if (qa_fX10_thrown c334.2) = c332.1 then
      if ¬ c332.1 = 0 then
        qa_fL_law_2072 L k23 x4 c334.2
      else
        if (lg_cmp (c334.2.2 (10, 29) ((Int32.ofInt 0)).toNatClampNeg) ((c334.1).toInt64)) = 0 then
          qa_fL_law_2072 L k23 x4 c334.2
        else
          some (false, c334.2)
    else
      some (false, c334.2)
noncomputable def qa_fL_law_2116 (L : Nat) (k23 : Int32 → qa_T → Option (Bool × qa_T)) (x4 : Int32) (σ : qa_T) : Option (Bool × qa_T) :=
    qa_fL_law_2682 L k23 x4 σ
noncomputable def qa_fL_law_2075 (L : Nat) (k23 : Int32 → qa_T → Option (Bool × qa_T)) (x4 : Int32) (σ : qa_T) : Option (Bool × qa_T) :=
    (qa_fL_loading σ).bind fun c340 =>
    (qa_fX10_loading c340.2).bind fun c342 =>
    if (qa_fX10_thrown c342.2) = c340.1 then
      if ¬ c340.1 = 0 then
        qa_fL_law_2116 L k23 x4 c342.2
      else
        if (lg_cmp (c342.2.2 (10, 29) ((Int32.ofInt 0)).toNatClampNeg) ((c342.1).toInt64)) = 0 then
          qa_fL_law_2116 L k23 x4 c342.2
        else
          some (false, c342.2)
    else
      some (false, c342.2)
noncomputable def qa_fL_law_2119 (L : Nat) (k23 : Int32 → qa_T → Option (Bool × qa_T)) (x4 : Int32) (σ : qa_T) : Option (Bool × qa_T) :=
    (qa_fX10_loadLeft σ).bind fun c348 =>
    if (qa_fX9_loadLeft σ) = c348.1 then
      qa_fL_law_2682 L k23 x4 c348.2
    else
      some (false, c348.2)
noncomputable def qa_fL_law_2132 (L : Nat) (k23 : Int32 → qa_T → Option (Bool × qa_T)) (x4 : Int32) (σ : qa_T) : Option (Bool × qa_T) :=
    (qa_fX10_asked σ).bind fun c352 =>
    if (qa_fX9_asked σ) = c352.1 then
      qa_fL_law_2682 L k23 x4 c352.2
    else
      some (false, c352.2)
noncomputable def qa_fL_law_2198 (L : Nat) (k23 : Int32 → qa_T → Option (Bool × qa_T)) (x4 : Int32) (σ : qa_T) : Option (Bool × qa_T) :=
    qa_fL_law_2682 L k23 x4 σ
noncomputable def qa_fL_law_2145 (L : Nat) (k23 : Int32 → qa_T → Option (Bool × qa_T)) (x4 : Int32) (σ : qa_T) : Option (Bool × qa_T) :=
    if ¬ qa_in (x4 + (Int32.ofInt 1)) L = true then none else
    (qa_fL_askedAt (σ.1 (0, 0) ((x4 + (Int32.ofInt 1))).toNatClampNeg) σ).bind fun c357 =>
    if ¬ qa_in (x4 + (Int32.ofInt 1)) L = true then none else
    (qa_fX10_askedAt (c357.2.1 (0, 0) ((x4 + (Int32.ofInt 1))).toNatClampNeg) c357.2).bind fun c360 =>
    if (qa_fX10_thrown c360.2) = c357.1 then
      if ¬ c357.1 = 0 then
        qa_fL_law_2198 L k23 x4 c360.2
      else
        if (lg_cmp (c360.2.2 (10, 29) ((Int32.ofInt 0)).toNatClampNeg) ((c360.1).toInt64)) = 0 then
          qa_fL_law_2198 L k23 x4 c360.2
        else
          some (false, c360.2)
    else
      some (false, c360.2)
noncomputable def qa_fL_law_2201 (L : Nat) (k23 : Int32 → qa_T → Option (Bool × qa_T)) (x4 : Int32) (σ : qa_T) : Option (Bool × qa_T) :=
    (qa_fX9_takenBySlides σ).bind fun c366 =>
    (qa_fX10_takenBySlides σ).bind fun c368 =>
    if c366 = c368.1 then
      qa_fL_law_2682 L k23 x4 c368.2
    else
      some (false, c368.2)
noncomputable def qa_fL_law_2214 (L : Nat) (k23 : Int32 → qa_T → Option (Bool × qa_T)) (x4 : Int32) (σ : qa_T) : Option (Bool × qa_T) :=
    (qa_fX10_takenByAccount σ).bind fun c372 =>
    if (qa_fX9_takenByAccount σ) = c372.1 then
      qa_fL_law_2682 L k23 x4 c372.2
    else
      some (false, c372.2)
noncomputable def qa_fL_law_2227 (L : Nat) (k23 : Int32 → qa_T → Option (Bool × qa_T)) (x4 : Int32) (σ : qa_T) : Option (Bool × qa_T) :=
    (qa_fX10_memory σ).bind fun c376 =>
    if (qa_fX9_memory σ) = c376.1 then
      qa_fL_law_2682 L k23 x4 c376.2
    else
      some (false, c376.2)
noncomputable def qa_fL_law_2240 (L : Nat) (k23 : Int32 → qa_T → Option (Bool × qa_T)) (x4 : Int32) (σ : qa_T) : Option (Bool × qa_T) :=
    (qa_fX10_ahead σ).bind fun c380 =>
    if (qa_fX9_ahead σ) = c380.1 then
      qa_fL_law_2682 L k23 x4 c380.2
    else
      some (false, c380.2)
noncomputable def qa_fL_law_2253 (L : Nat) (k23 : Int32 → qa_T → Option (Bool × qa_T)) (x4 : Int32) (σ : qa_T) : Option (Bool × qa_T) :=
    (qa_fX10_order σ).bind fun c384 =>
    if (qa_fX9_order σ) = c384.1 then
      qa_fL_law_2682 L k23 x4 c384.2
    else
      some (false, c384.2)
noncomputable def qa_fL_law_2266 (L : Nat) (k23 : Int32 → qa_T → Option (Bool × qa_T)) (x4 : Int32) (σ : qa_T) : Option (Bool × qa_T) :=
    (qa_fX10_glow σ).bind fun c388 =>
    if (qa_fX9_glow σ) = c388.1 then
      qa_fL_law_2682 L k23 x4 c388.2
    else
      some (false, c388.2)
noncomputable def qa_fL_law_2279 (L : Nat) (k23 : Int32 → qa_T → Option (Bool × qa_T)) (x4 : Int32) (σ : qa_T) : Option (Bool × qa_T) :=
    (qa_fX10_pace σ).bind fun c392 =>
    if (qa_fX9_pace σ) = c392.1 then
      qa_fL_law_2682 L k23 x4 c392.2
    else
      some (false, c392.2)
noncomputable def qa_fL_law_2333 (L : Nat) (k23 : Int32 → qa_T → Option (Bool × qa_T)) (x4 : Int32) (σ : qa_T) : Option (Bool × qa_T) :=
    qa_fL_law_2682 L k23 x4 σ
noncomputable def qa_fL_law_2292 (L : Nat) (k23 : Int32 → qa_T → Option (Bool × qa_T)) (x4 : Int32) (σ : qa_T) : Option (Bool × qa_T) :=
    (qa_fL_ticksToShowByTicks σ).bind fun c396 =>
    (qa_fX10_ticksToShowByTicks c396.2).bind fun c398 =>
    if (qa_fX10_thrown c398.2) = c396.1 then
      if ¬ c396.1 = 0 then
        qa_fL_law_2333 L k23 x4 c398.2
      else
        if (lg_cmp (c398.2.2 (10, 29) ((Int32.ofInt 0)).toNatClampNeg) ((c398.1).toInt64)) = 0 then
          qa_fL_law_2333 L k23 x4 c398.2
        else
          some (false, c398.2)
    else
      some (false, c398.2)
noncomputable def qa_fL_law_2377 (L : Nat) (k23 : Int32 → qa_T → Option (Bool × qa_T)) (x4 : Int32) (σ : qa_T) : Option (Bool × qa_T) :=
    qa_fL_law_2682 L k23 x4 σ
noncomputable def qa_fL_law_2336 (L : Nat) (k23 : Int32 → qa_T → Option (Bool × qa_T)) (x4 : Int32) (σ : qa_T) : Option (Bool × qa_T) :=
    (qa_fL_ticksToShowBySums σ).bind fun c404 =>
    (qa_fX10_ticksToShowBySums c404.2).bind fun c406 =>
    if (qa_fX10_thrown c406.2) = c404.1 then
      if ¬ c404.1 = 0 then
        qa_fL_law_2377 L k23 x4 c406.2
      else
        if (lg_cmp (c406.2.2 (10, 29) ((Int32.ofInt 0)).toNatClampNeg) ((c406.1).toInt64)) = 0 then
          qa_fL_law_2377 L k23 x4 c406.2
        else
          some (false, c406.2)
    else
      some (false, c406.2)
noncomputable def qa_fL_law_2433 (L : Nat) (k23 : Int32 → qa_T → Option (Bool × qa_T)) (x4 : Int32) (σ : qa_T) : Option (Bool × qa_T) :=
    qa_fL_law_2682 L k23 x4 σ
noncomputable def qa_fL_law_2380 (L : Nat) (k23 : Int32 → qa_T → Option (Bool × qa_T)) (x4 : Int32) (σ : qa_T) : Option (Bool × qa_T) :=
    if ¬ qa_in (x4 + (Int32.ofInt 1)) L = true then none else
    (qa_fL_burningsFor (σ.1 (0, 0) ((x4 + (Int32.ofInt 1))).toNatClampNeg) σ).bind fun c413 =>
    if ¬ qa_in (x4 + (Int32.ofInt 1)) L = true then none else
    (qa_fX10_burningsFor (c413.2.1 (0, 0) ((x4 + (Int32.ofInt 1))).toNatClampNeg) c413.2).bind fun c416 =>
    if (qa_fX10_thrown c416.2) = c413.1 then
      if ¬ c413.1 = 0 then
        qa_fL_law_2433 L k23 x4 c416.2
      else
        if (lg_cmp (c416.2.2 (10, 29) ((Int32.ofInt 0)).toNatClampNeg) ((c416.1).toInt64)) = 0 then
          qa_fL_law_2433 L k23 x4 c416.2
        else
          some (false, c416.2)
    else
      some (false, c416.2)
noncomputable def qa_fL_law_2489 (L : Nat) (k23 : Int32 → qa_T → Option (Bool × qa_T)) (x4 : Int32) (σ : qa_T) : Option (Bool × qa_T) :=
    qa_fL_law_2682 L k23 x4 σ
noncomputable def qa_fL_law_2436 (L : Nat) (k23 : Int32 → qa_T → Option (Bool × qa_T)) (x4 : Int32) (σ : qa_T) : Option (Bool × qa_T) :=
    if ¬ qa_in (x4 + (Int32.ofInt 1)) L = true then none else
    (qa_fL_missesWith (σ.1 (0, 0) ((x4 + (Int32.ofInt 1))).toNatClampNeg) σ).bind fun c423 =>
    if ¬ qa_in (x4 + (Int32.ofInt 1)) L = true then none else
    (qa_fX10_missesWith (c423.2.1 (0, 0) ((x4 + (Int32.ofInt 1))).toNatClampNeg) c423.2).bind fun c426 =>
    if (qa_fX10_thrown c426.2) = c423.1 then
      if ¬ c423.1 = 0 then
        qa_fL_law_2489 L k23 x4 c426.2
      else
        if (lg_cmp (c426.2.2 (10, 29) ((Int32.ofInt 0)).toNatClampNeg) ((c426.1).toInt64)) = 0 then
          qa_fL_law_2489 L k23 x4 c426.2
        else
          some (false, c426.2)
    else
      some (false, c426.2)
noncomputable def qa_fL_law_2533 (L : Nat) (k23 : Int32 → qa_T → Option (Bool × qa_T)) (x4 : Int32) (σ : qa_T) : Option (Bool × qa_T) :=
    qa_fL_law_2682 L k23 x4 σ
noncomputable def qa_fL_law_2492 (L : Nat) (k23 : Int32 → qa_T → Option (Bool × qa_T)) (x4 : Int32) (σ : qa_T) : Option (Bool × qa_T) :=
    (qa_fL_bestOrder σ).bind fun c432 =>
    (qa_fX10_bestOrder c432.2).bind fun c434 =>
    if (qa_fX10_thrown c434.2) = c432.1 then
      if ¬ c432.1 = 0 then
        qa_fL_law_2533 L k23 x4 c434.2
      else
        if (lg_cmp (c434.2.2 (10, 29) ((Int32.ofInt 0)).toNatClampNeg) ((c434.1).toInt64)) = 0 then
          qa_fL_law_2533 L k23 x4 c434.2
        else
          some (false, c434.2)
    else
      some (false, c434.2)
noncomputable def qa_fL_law_2536 (L : Nat) (k23 : Int32 → qa_T → Option (Bool × qa_T)) (x4 : Int32) (σ : qa_T) : Option (Bool × qa_T) :=
    (qa_fX10_time σ).bind fun c440 =>
    if (qa_fX9_time σ) = c440.1 then
      qa_fL_law_2682 L k23 x4 c440.2
    else
      some (false, c440.2)
noncomputable def qa_fL_law_2549 (L : Nat) (k23 : Int32 → qa_T → Option (Bool × qa_T)) (x4 : Int32) (σ : qa_T) : Option (Bool × qa_T) :=
    (qa_fX10_hits σ).bind fun c444 =>
    if (qa_fX9_hits σ) = c444.1 then
      qa_fL_law_2682 L k23 x4 c444.2
    else
      some (false, c444.2)
noncomputable def qa_fL_law_2562 (L : Nat) (k23 : Int32 → qa_T → Option (Bool × qa_T)) (x4 : Int32) (σ : qa_T) : Option (Bool × qa_T) :=
    (qa_fX10_misses σ).bind fun c448 =>
    if (qa_fX9_misses σ) = c448.1 then
      qa_fL_law_2682 L k23 x4 c448.2
    else
      some (false, c448.2)
noncomputable def qa_fL_law_2575 (L : Nat) (k23 : Int32 → qa_T → Option (Bool × qa_T)) (x4 : Int32) (σ : qa_T) : Option (Bool × qa_T) :=
    (qa_fX10_loads σ).bind fun c452 =>
    if (qa_fX9_loads σ) = c452.1 then
      qa_fL_law_2682 L k23 x4 c452.2
    else
      some (false, c452.2)
noncomputable def qa_fL_law_2588 (L : Nat) (k23 : Int32 → qa_T → Option (Bool × qa_T)) (x4 : Int32) (σ : qa_T) : Option (Bool × qa_T) :=
    (qa_fX10_warmLoads σ).bind fun c456 =>
    if (qa_fX9_warmLoads σ) = c456.1 then
      qa_fL_law_2682 L k23 x4 c456.2
    else
      some (false, c456.2)
noncomputable def qa_fL_law_2601 (L : Nat) (k23 : Int32 → qa_T → Option (Bool × qa_T)) (x4 : Int32) (σ : qa_T) : Option (Bool × qa_T) :=
    (qa_fX10_burnings σ).bind fun c460 =>
    if (qa_fX9_burnings σ) = c460.1 then
      qa_fL_law_2682 L k23 x4 c460.2
    else
      some (false, c460.2)
noncomputable def qa_fL_law_2614 (L : Nat) (k23 : Int32 → qa_T → Option (Bool × qa_T)) (x4 : Int32) (σ : qa_T) : Option (Bool × qa_T) :=
    (qa_fX10_waited σ).bind fun c464 =>
    if (qa_fX9_waited σ) = c464.1 then
      qa_fL_law_2682 L k23 x4 c464.2
    else
      some (false, c464.2)
noncomputable def qa_fL_law_2665 (L : Nat) (k23 : Int32 → qa_T → Option (Bool × qa_T)) (x4 : Int32) (σ : qa_T) : Option (Bool × qa_T) :=
    qa_fL_law_2682 L k23 x4 σ
noncomputable def qa_fL_law_2663 (L : Nat) (σ : qa_T) : Option (Bool × qa_T) :=
    some (false, σ)
noncomputable def qa_fL_law_2627 (L : Nat) (k23 : Int32 → qa_T → Option (Bool × qa_T)) (x4 : Int32) (σ : qa_T) : Option (Bool × qa_T) :=
    (qa_fX9_hitShare σ).bind fun c468 =>
    (qa_fX10_hitShare σ).bind fun c470 =>
    if (Op.cmpValue (FP.dcmp c468 c470.1) .l) = 0 then
      qa_fL_law_2665 L k23 x4 c470.2
    else
      if (Op.cmpValue (FP.dcmp c468 c468) .l) = 0 then
        qa_fL_law_2663 L c470.2
      else
        if ¬ (Op.cmpValue (FP.dcmp c470.1 c470.1) .l) = 0 then
          qa_fL_law_2665 L k23 x4 c470.2
        else
          qa_fL_law_2663 L c470.2
noncomputable def qa_fL_law_2668 (L : Nat) (k23 : Int32 → qa_T → Option (Bool × qa_T)) (x4 : Int32) (σ : qa_T) : Option (Bool × qa_T) :=
    (qa_fX9_digest σ).bind fun c476 =>
    (qa_fX10_digest c476.2).bind fun c478 =>
    if (lg_cmp c476.1 c478.1) = 0 then
      qa_fL_law_2682 L k23 x4 c478.2
    else
      some (false, c478.2)
noncomputable def qa_fL_law_23 (L : Nat) : Nat → Int32 → qa_T → Option (Bool × qa_T)
  | 0, _, _ => none
  | n + 1, x4, σ =>
    if (Int32.ofNat L - (Int32.ofInt 4)) < x4 then
      some (true, σ)
    else
      if ¬ qa_in x4 L = true then none else
      let v3 : Int32 := ((σ.1 (0, 0) (x4).toNatClampNeg) &&& ((Int8.ofInt 63).toInt32))
      if v3 = 0 then
        qa_fL_law_304 L (qa_fL_law_23 L n) x4 σ
      else
      if v3 = 1 then
        qa_fL_law_384 L (qa_fL_law_23 L n) x4 σ
      else
      if v3 = 2 then
        qa_fL_law_452 L (qa_fL_law_23 L n) x4 σ
      else
      if v3 = 3 then
        qa_fL_law_508 L (qa_fL_law_23 L n) x4 σ
      else
      if v3 = 4 then
        qa_fL_law_559 L (qa_fL_law_23 L n) x4 σ
      else
      if v3 = 5 then
        qa_fL_law_615 L (qa_fL_law_23 L n) x4 σ
      else
      if v3 = 6 then
        qa_fL_law_671 L (qa_fL_law_23 L n) x4 σ
      else
      if v3 = 7 then
        qa_fL_law_727 L (qa_fL_law_23 L n) x4 σ
      else
      if v3 = 8 then
        qa_fL_law_783 L (qa_fL_law_23 L n) x4 σ
      else
      if v3 = 9 then
        qa_fL_law_839 L (qa_fL_law_23 L n) x4 σ
      else
      if v3 = 10 then
        qa_fL_law_895 L (qa_fL_law_23 L n) x4 σ
      else
      if v3 = 11 then
        qa_fL_law_951 L (qa_fL_law_23 L n) x4 σ
      else
      if v3 = 12 then
        qa_fL_law_1007 L (qa_fL_law_23 L n) x4 σ
      else
      if v3 = 13 then
        qa_fL_law_1063 L (qa_fL_law_23 L n) x4 σ
      else
      if v3 = 14 then
        qa_fL_law_1076 L (qa_fL_law_23 L n) x4 σ
      else
      if v3 = 15 then
        qa_fL_law_1089 L (qa_fL_law_23 L n) x4 σ
      else
      if v3 = 16 then
        qa_fL_law_1133 L (qa_fL_law_23 L n) x4 σ
      else
      if v3 = 17 then
        qa_fL_law_1169 L (qa_fL_law_23 L n) x4 σ
      else
      if v3 = 18 then
        qa_fL_law_1205 L (qa_fL_law_23 L n) x4 σ
      else
      if v3 = 19 then
        qa_fL_law_1229 L (qa_fL_law_23 L n) x4 σ
      else
      if v3 = 20 then
        qa_fL_law_1242 L (qa_fL_law_23 L n) x4 σ
      else
      if v3 = 21 then
        qa_fL_law_1255 L (qa_fL_law_23 L n) x4 σ
      else
      if v3 = 22 then
        qa_fL_law_1311 L (qa_fL_law_23 L n) x4 σ
      else
      if v3 = 23 then
        qa_fL_law_1367 L (qa_fL_law_23 L n) x4 σ
      else
      if v3 = 24 then
        qa_fL_law_1423 L (qa_fL_law_23 L n) x4 σ
      else
      if v3 = 25 then
        qa_fL_law_1486 L (qa_fL_law_23 L n) x4 σ
      else
      if v3 = 26 then
        qa_fL_law_1549 L (qa_fL_law_23 L n) x4 σ
      else
      if v3 = 27 then
        qa_fL_law_1605 L (qa_fL_law_23 L n) x4 σ
      else
      if v3 = 28 then
        qa_fL_law_1661 L (qa_fL_law_23 L n) x4 σ
      else
      if v3 = 29 then
        qa_fL_law_1717 L (qa_fL_law_23 L n) x4 σ
      else
      if v3 = 30 then
        qa_fL_law_1773 L (qa_fL_law_23 L n) x4 σ
      else
      if v3 = 31 then
        qa_fL_law_1786 L (qa_fL_law_23 L n) x4 σ
      else
      if v3 = 32 then
        qa_fL_law_1842 L (qa_fL_law_23 L n) x4 σ
      else
      if v3 = 33 then
        qa_fL_law_1886 L (qa_fL_law_23 L n) x4 σ
      else
      if v3 = 34 then
        qa_fL_law_1930 L (qa_fL_law_23 L n) x4 σ
      else
      if v3 = 35 then
        qa_fL_law_1974 L (qa_fL_law_23 L n) x4 σ
      else
      if v3 = 36 then
        qa_fL_law_1987 L (qa_fL_law_23 L n) x4 σ
      else
      if v3 = 37 then
        qa_fL_law_2031 L (qa_fL_law_23 L n) x4 σ
      else
      if v3 = 38 then
        qa_fL_law_2075 L (qa_fL_law_23 L n) x4 σ
      else
      if v3 = 39 then
        qa_fL_law_2119 L (qa_fL_law_23 L n) x4 σ
      else
      if v3 = 40 then
        qa_fL_law_2132 L (qa_fL_law_23 L n) x4 σ
      else
      if v3 = 41 then
        qa_fL_law_2145 L (qa_fL_law_23 L n) x4 σ
      else
      if v3 = 42 then
        qa_fL_law_2201 L (qa_fL_law_23 L n) x4 σ
      else
      if v3 = 43 then
        qa_fL_law_2214 L (qa_fL_law_23 L n) x4 σ
      else
      if v3 = 44 then
        qa_fL_law_2227 L (qa_fL_law_23 L n) x4 σ
      else
      if v3 = 45 then
        qa_fL_law_2240 L (qa_fL_law_23 L n) x4 σ
      else
      if v3 = 46 then
        qa_fL_law_2253 L (qa_fL_law_23 L n) x4 σ
      else
      if v3 = 47 then
        qa_fL_law_2266 L (qa_fL_law_23 L n) x4 σ
      else
      if v3 = 48 then
        qa_fL_law_2279 L (qa_fL_law_23 L n) x4 σ
      else
      if v3 = 49 then
        qa_fL_law_2292 L (qa_fL_law_23 L n) x4 σ
      else
      if v3 = 50 then
        qa_fL_law_2336 L (qa_fL_law_23 L n) x4 σ
      else
      if v3 = 51 then
        qa_fL_law_2380 L (qa_fL_law_23 L n) x4 σ
      else
      if v3 = 52 then
        qa_fL_law_2436 L (qa_fL_law_23 L n) x4 σ
      else
      if v3 = 53 then
        qa_fL_law_2492 L (qa_fL_law_23 L n) x4 σ
      else
      if v3 = 54 then
        qa_fL_law_2536 L (qa_fL_law_23 L n) x4 σ
      else
      if v3 = 55 then
        qa_fL_law_2549 L (qa_fL_law_23 L n) x4 σ
      else
      if v3 = 56 then
        qa_fL_law_2562 L (qa_fL_law_23 L n) x4 σ
      else
      if v3 = 57 then
        qa_fL_law_2575 L (qa_fL_law_23 L n) x4 σ
      else
      if v3 = 58 then
        qa_fL_law_2588 L (qa_fL_law_23 L n) x4 σ
      else
      if v3 = 59 then
        qa_fL_law_2601 L (qa_fL_law_23 L n) x4 σ
      else
      if v3 = 60 then
        qa_fL_law_2614 L (qa_fL_law_23 L n) x4 σ
      else
      if v3 = 61 then
        qa_fL_law_2627 L (qa_fL_law_23 L n) x4 σ
      else
      if v3 = 62 then
        qa_fL_law_2668 L (qa_fL_law_23 L n) x4 σ
      else
        qa_fL_law_2682 L (qa_fL_law_23 L n) x4 σ
set_option maxRecDepth 1000000 in
theorem qa_tL_law_2682 {L N : Nat}   {k23 : Int32 → qa_T → Option (Bool × qa_T)} (K23 : ∀ (x4 : Int32) (σ : qa_T) (r : (Bool × qa_T)), k23 x4 σ = some r → qa_Bn L N qa_mL_law 23 [(0, .inl (0, 0)), (1, .inl (0, 1)), (2, .inl (10, 21)), (3, .inl (10, 29)), (4, .inr (.int x4))] [] σ (some (.inr (.int (qa_bi r.1)))) r.2) {x4 : Int32} {σ : qa_T} {r : (Bool × qa_T)} (h : qa_fL_law_2682 L k23 x4 σ = some r) : qa_Bn L N qa_mL_law 2682 [(0, .inl (0, 0)), (1, .inl (0, 1)), (2, .inl (10, 21)), (3, .inl (10, 29)), (4, .inr (.int x4))] [] σ (some (.inr (.int (qa_bi r.1)))) r.2 := by
  unfold qa_fL_law_2682 at h
  try dsimp only at h
  refine qa_bn_do (pc' := 2685) (lv' := [(4, _), (0, _), (1, _), (2, _), (3, _)]) rfl rfl ?_
  refine qa_bn_do (pc' := 23) rfl rfl ?_
  exact qa_bn_mono (N := N) (by omega) <| qa_bn_lw (K23 _ _ _ h) rfl rfl (And.intro rfl (And.intro rfl (And.intro rfl (And.intro rfl (And.intro rfl (trivial))))))
set_option maxRecDepth 1000000 in
theorem qa_tL_law_381 {L N : Nat}   {k23 : Int32 → qa_T → Option (Bool × qa_T)} (K23 : ∀ (x4 : Int32) (σ : qa_T) (r : (Bool × qa_T)), k23 x4 σ = some r → qa_Bn L N qa_mL_law 23 [(0, .inl (0, 0)), (1, .inl (0, 1)), (2, .inl (10, 21)), (3, .inl (10, 29)), (4, .inr (.int x4))] [] σ (some (.inr (.int (qa_bi r.1)))) r.2) {x4 : Int32} {σ : qa_T} {r : (Bool × qa_T)} (h : qa_fL_law_381 L k23 x4 σ = some r) : qa_Bn L N qa_mL_law 381 [(0, .inl (0, 0)), (1, .inl (0, 1)), (2, .inl (10, 21)), (3, .inl (10, 29)), (4, .inr (.int x4))] [] σ (some (.inr (.int (qa_bi r.1)))) r.2 := by
  unfold qa_fL_law_381 at h
  try dsimp only at h
  refine qa_bn_do (pc' := 2682) rfl rfl ?_
  exact qa_bn_mono (N := N) (by omega) <| qa_bn_lw (qa_tL_law_2682  K23 h) rfl rfl (And.intro rfl (And.intro rfl (And.intro rfl (And.intro rfl (And.intro rfl (trivial))))))
set_option maxRecDepth 1000000 in
theorem qa_tL_law_304 {L N : Nat}   {k23 : Int32 → qa_T → Option (Bool × qa_T)} (K23 : ∀ (x4 : Int32) (σ : qa_T) (r : (Bool × qa_T)), k23 x4 σ = some r → qa_Bn L N qa_mL_law 23 [(0, .inl (0, 0)), (1, .inl (0, 1)), (2, .inl (10, 21)), (3, .inl (10, 29)), (4, .inr (.int x4))] [] σ (some (.inr (.int (qa_bi r.1)))) r.2) {x4 : Int32} {σ : qa_T} {r : (Bool × qa_T)} (h : qa_fL_law_304 L k23 x4 σ = some r) : qa_Bn L (N + 1) qa_mL_law 304 [(0, .inl (0, 0)), (1, .inl (0, 1)), (2, .inl (10, 21)), (3, .inl (10, 29)), (4, .inr (.int x4))] [] σ (some (.inr (.int (qa_bi r.1)))) r.2 := by
  unfold qa_fL_law_304 at h
  try dsimp only at h
  refine qa_bn_do (pc' := 305) rfl rfl ?_
  refine qa_bn_do (pc' := 306) rfl rfl ?_
  refine qa_bn_do (pc' := 308) rfl rfl ?_
  refine qa_bn_do (pc' := 309) rfl rfl ?_
  refine qa_bn_do (pc' := 310) rfl rfl ?_
  rcases qa_ite h with ⟨_, h⟩ | ⟨hc5, h⟩
  · cases h
  refine qa_bn_ia rfl qa_dx_0_0 (Or.inr rfl) (Decidable.of_not_not hc5) ?_
  refine qa_bn_do (pc' := 312) rfl rfl ?_
  refine qa_bn_do (pc' := 314) rfl rfl ?_
  refine qa_bn_do (pc' := 315) rfl rfl ?_
  refine qa_bn_do (pc' := 316) rfl rfl ?_
  rcases qa_ite h with ⟨_, h⟩ | ⟨hc6, h⟩
  · cases h
  refine qa_bn_ia rfl qa_dx_0_0 (Or.inr rfl) (Decidable.of_not_not hc6) ?_
  refine qa_bn_do (pc' := 318) rfl rfl ?_
  refine qa_bn_do (pc' := 320) rfl rfl ?_
  refine qa_bn_do (pc' := 321) rfl rfl ?_
  refine qa_bn_do (pc' := 322) rfl rfl ?_
  rcases qa_ite h with ⟨_, h⟩ | ⟨hc7, h⟩
  · cases h
  refine qa_bn_ia rfl qa_dx_0_0 (Or.inr rfl) (Decidable.of_not_not hc7) ?_
  refine qa_bn_do (pc' := 324) rfl rfl ?_
  obtain ⟨c8, hc9, h⟩ := Option.bind_eq_some_iff.mp h
  refine qa_bn_cs (qa_tL_addSlide hc9) rfl rfl rfl rfl rfl rfl rfl ?_
  refine qa_bn_do (pc' := 329) (lv' := [(5, _), (0, _), (1, _), (2, _), (3, _), (4, _)]) rfl rfl ?_
  refine qa_bn_do (pc' := 330) rfl rfl ?_
  refine qa_bn_do (pc' := 331) rfl rfl ?_
  refine qa_bn_do (pc' := 333) rfl rfl ?_
  refine qa_bn_do (pc' := 334) rfl rfl ?_
  refine qa_bn_do (pc' := 335) rfl rfl ?_
  rcases qa_ite h with ⟨_, h⟩ | ⟨hc10, h⟩
  · cases h
  refine qa_bn_ia rfl qa_dx_0_0 (Or.inr rfl) (Decidable.of_not_not hc10) ?_
  refine qa_bn_do (pc' := 337) rfl rfl ?_
  refine qa_bn_do (pc' := 339) rfl rfl ?_
  refine qa_bn_do (pc' := 340) rfl rfl ?_
  refine qa_bn_do (pc' := 341) rfl rfl ?_
  rcases qa_ite h with ⟨_, h⟩ | ⟨hc11, h⟩
  · cases h
  refine qa_bn_ia rfl qa_dx_0_0 (Or.inr rfl) (Decidable.of_not_not hc11) ?_
  refine qa_bn_do (pc' := 343) rfl rfl ?_
  refine qa_bn_do (pc' := 345) rfl rfl ?_
  refine qa_bn_do (pc' := 346) rfl rfl ?_
  refine qa_bn_do (pc' := 347) rfl rfl ?_
  rcases qa_ite h with ⟨_, h⟩ | ⟨hc12, h⟩
  · cases h
  refine qa_bn_ia rfl qa_dx_0_0 (Or.inr rfl) (Decidable.of_not_not hc12) ?_
  obtain ⟨c13, hc14, h⟩ := Option.bind_eq_some_iff.mp h
  refine qa_bn_cv (qa_tX10_addSlide hc14) rfl rfl rfl rfl rfl rfl rfl qa_dx_10_21 ?_
  refine qa_bn_do (pc' := 353) (lv' := [(6, _), (5, _), (0, _), (1, _), (2, _), (3, _), (4, _)]) rfl rfl ?_
  refine qa_bn_do (pc' := 354) rfl rfl ?_
  refine qa_bn_cv (qa_tX10_thrown rfl) rfl rfl rfl rfl rfl rfl rfl qa_dx_10_21 ?_
  refine qa_bn_do (pc' := 359) rfl rfl ?_
  rcases qa_ite h with ⟨hc15, h⟩ | ⟨hc15, h⟩
  · refine qa_bn_1t (a := 364) (b := 362) hc15 rfl rfl ?_
    refine qa_bn_do (pc' := 366) rfl rfl ?_
    rcases qa_ite h with ⟨hc16, h⟩ | ⟨hc16, h⟩
    · refine qa_bn_1t (a := 381) (b := 369) hc16 rfl rfl ?_
      exact qa_bn_mono (N := N) (by omega) <| qa_bn_lw (qa_tL_law_381  K23 h) rfl rfl (And.intro rfl (And.intro rfl (And.intro rfl (And.intro rfl (And.intro rfl (trivial))))))
    · refine qa_bn_1f (a := 381) (b := 369) hc16 rfl rfl ?_
      refine qa_bn_do (pc' := 370) rfl rfl ?_
      refine qa_bn_do (pc' := 371) rfl rfl ?_
      refine qa_bn_ja rfl qa_dx_10_29 rfl ?_
      refine qa_bn_do (pc' := 374) rfl rfl ?_
      refine qa_bn_do (pc' := 375) rfl rfl ?_
      refine qa_bn_do (pc' := 376) rfl rfl ?_
      rcases qa_ite h with ⟨hc18, h⟩ | ⟨hc18, h⟩
      · refine qa_bn_1t (a := 381) (b := 379) hc18 rfl rfl ?_
        exact qa_bn_mono (N := N) (by omega) <| qa_bn_lw (qa_tL_law_381  K23 h) rfl rfl (And.intro rfl (And.intro rfl (And.intro rfl (And.intro rfl (And.intro rfl (trivial))))))
      · refine qa_bn_1f (a := 381) (b := 379) hc18 rfl rfl ?_
        refine qa_bn_do (pc' := 380) rfl rfl ?_
        cases h
        exact qa_bn_rb rfl rfl rfl
  · refine qa_bn_1f (a := 364) (b := 362) hc15 rfl rfl ?_
    refine qa_bn_do (pc' := 363) rfl rfl ?_
    cases h
    exact qa_bn_rb rfl rfl rfl
set_option maxRecDepth 1000000 in
theorem qa_tL_law_449 {L N : Nat}   {k23 : Int32 → qa_T → Option (Bool × qa_T)} (K23 : ∀ (x4 : Int32) (σ : qa_T) (r : (Bool × qa_T)), k23 x4 σ = some r → qa_Bn L N qa_mL_law 23 [(0, .inl (0, 0)), (1, .inl (0, 1)), (2, .inl (10, 21)), (3, .inl (10, 29)), (4, .inr (.int x4))] [] σ (some (.inr (.int (qa_bi r.1)))) r.2) {x4 : Int32} {σ : qa_T} {r : (Bool × qa_T)} (h : qa_fL_law_449 L k23 x4 σ = some r) : qa_Bn L N qa_mL_law 449 [(0, .inl (0, 0)), (1, .inl (0, 1)), (2, .inl (10, 21)), (3, .inl (10, 29)), (4, .inr (.int x4))] [] σ (some (.inr (.int (qa_bi r.1)))) r.2 := by
  unfold qa_fL_law_449 at h
  try dsimp only at h
  refine qa_bn_do (pc' := 2682) rfl rfl ?_
  exact qa_bn_mono (N := N) (by omega) <| qa_bn_lw (qa_tL_law_2682  K23 h) rfl rfl (And.intro rfl (And.intro rfl (And.intro rfl (And.intro rfl (And.intro rfl (trivial))))))
set_option maxRecDepth 1000000 in
theorem qa_tL_law_384 {L N : Nat}   {k23 : Int32 → qa_T → Option (Bool × qa_T)} (K23 : ∀ (x4 : Int32) (σ : qa_T) (r : (Bool × qa_T)), k23 x4 σ = some r → qa_Bn L N qa_mL_law 23 [(0, .inl (0, 0)), (1, .inl (0, 1)), (2, .inl (10, 21)), (3, .inl (10, 29)), (4, .inr (.int x4))] [] σ (some (.inr (.int (qa_bi r.1)))) r.2) {x4 : Int32} {σ : qa_T} {r : (Bool × qa_T)} (h : qa_fL_law_384 L k23 x4 σ = some r) : qa_Bn L (N + 1) qa_mL_law 384 [(0, .inl (0, 0)), (1, .inl (0, 1)), (2, .inl (10, 21)), (3, .inl (10, 29)), (4, .inr (.int x4))] [] σ (some (.inr (.int (qa_bi r.1)))) r.2 := by
  unfold qa_fL_law_384 at h
  try dsimp only at h
  refine qa_bn_do (pc' := 385) rfl rfl ?_
  refine qa_bn_do (pc' := 386) rfl rfl ?_
  refine qa_bn_do (pc' := 388) rfl rfl ?_
  refine qa_bn_do (pc' := 389) rfl rfl ?_
  refine qa_bn_do (pc' := 390) rfl rfl ?_
  rcases qa_ite h with ⟨_, h⟩ | ⟨hc20, h⟩
  · cases h
  refine qa_bn_ia rfl qa_dx_0_0 (Or.inr rfl) (Decidable.of_not_not hc20) ?_
  refine qa_bn_do (pc' := 392) rfl rfl ?_
  refine qa_bn_do (pc' := 394) rfl rfl ?_
  refine qa_bn_do (pc' := 395) rfl rfl ?_
  refine qa_bn_do (pc' := 396) rfl rfl ?_
  rcases qa_ite h with ⟨_, h⟩ | ⟨hc21, h⟩
  · cases h
  refine qa_bn_ia rfl qa_dx_0_0 (Or.inr rfl) (Decidable.of_not_not hc21) ?_
  refine qa_bn_do (pc' := 398) rfl rfl ?_
  obtain ⟨c22, hc23, h⟩ := Option.bind_eq_some_iff.mp h
  refine qa_bn_cs (qa_tL_insert hc23) rfl rfl rfl rfl rfl rfl rfl ?_
  refine qa_bn_do (pc' := 403) (lv' := [(5, _), (0, _), (1, _), (2, _), (3, _), (4, _)]) rfl rfl ?_
  refine qa_bn_do (pc' := 404) rfl rfl ?_
  refine qa_bn_do (pc' := 405) rfl rfl ?_
  refine qa_bn_do (pc' := 407) rfl rfl ?_
  refine qa_bn_do (pc' := 408) rfl rfl ?_
  refine qa_bn_do (pc' := 409) rfl rfl ?_
  rcases qa_ite h with ⟨_, h⟩ | ⟨hc24, h⟩
  · cases h
  refine qa_bn_ia rfl qa_dx_0_0 (Or.inr rfl) (Decidable.of_not_not hc24) ?_
  refine qa_bn_do (pc' := 411) rfl rfl ?_
  refine qa_bn_do (pc' := 413) rfl rfl ?_
  refine qa_bn_do (pc' := 414) rfl rfl ?_
  refine qa_bn_do (pc' := 415) rfl rfl ?_
  rcases qa_ite h with ⟨_, h⟩ | ⟨hc25, h⟩
  · cases h
  refine qa_bn_ia rfl qa_dx_0_0 (Or.inr rfl) (Decidable.of_not_not hc25) ?_
  obtain ⟨c26, hc27, h⟩ := Option.bind_eq_some_iff.mp h
  refine qa_bn_cv (qa_tX10_insert hc27) rfl rfl rfl rfl rfl rfl rfl qa_dx_10_21 ?_
  refine qa_bn_do (pc' := 421) (lv' := [(6, _), (5, _), (0, _), (1, _), (2, _), (3, _), (4, _)]) rfl rfl ?_
  refine qa_bn_do (pc' := 422) rfl rfl ?_
  refine qa_bn_cv (qa_tX10_thrown rfl) rfl rfl rfl rfl rfl rfl rfl qa_dx_10_21 ?_
  refine qa_bn_do (pc' := 427) rfl rfl ?_
  rcases qa_ite h with ⟨hc28, h⟩ | ⟨hc28, h⟩
  · refine qa_bn_1t (a := 432) (b := 430) hc28 rfl rfl ?_
    refine qa_bn_do (pc' := 434) rfl rfl ?_
    rcases qa_ite h with ⟨hc29, h⟩ | ⟨hc29, h⟩
    · refine qa_bn_1t (a := 449) (b := 437) hc29 rfl rfl ?_
      exact qa_bn_mono (N := N) (by omega) <| qa_bn_lw (qa_tL_law_449  K23 h) rfl rfl (And.intro rfl (And.intro rfl (And.intro rfl (And.intro rfl (And.intro rfl (trivial))))))
    · refine qa_bn_1f (a := 449) (b := 437) hc29 rfl rfl ?_
      refine qa_bn_do (pc' := 438) rfl rfl ?_
      refine qa_bn_do (pc' := 439) rfl rfl ?_
      refine qa_bn_ja rfl qa_dx_10_29 rfl ?_
      refine qa_bn_do (pc' := 442) rfl rfl ?_
      refine qa_bn_do (pc' := 443) rfl rfl ?_
      refine qa_bn_do (pc' := 444) rfl rfl ?_
      rcases qa_ite h with ⟨hc30, h⟩ | ⟨hc30, h⟩
      · refine qa_bn_1t (a := 449) (b := 447) hc30 rfl rfl ?_
        exact qa_bn_mono (N := N) (by omega) <| qa_bn_lw (qa_tL_law_449  K23 h) rfl rfl (And.intro rfl (And.intro rfl (And.intro rfl (And.intro rfl (And.intro rfl (trivial))))))
      · refine qa_bn_1f (a := 449) (b := 447) hc30 rfl rfl ?_
        refine qa_bn_do (pc' := 448) rfl rfl ?_
        cases h
        exact qa_bn_rb rfl rfl rfl
  · refine qa_bn_1f (a := 432) (b := 430) hc28 rfl rfl ?_
    refine qa_bn_do (pc' := 431) rfl rfl ?_
    cases h
    exact qa_bn_rb rfl rfl rfl
set_option maxRecDepth 1000000 in
theorem qa_tL_law_505 {L N : Nat}   {k23 : Int32 → qa_T → Option (Bool × qa_T)} (K23 : ∀ (x4 : Int32) (σ : qa_T) (r : (Bool × qa_T)), k23 x4 σ = some r → qa_Bn L N qa_mL_law 23 [(0, .inl (0, 0)), (1, .inl (0, 1)), (2, .inl (10, 21)), (3, .inl (10, 29)), (4, .inr (.int x4))] [] σ (some (.inr (.int (qa_bi r.1)))) r.2) {x4 : Int32} {σ : qa_T} {r : (Bool × qa_T)} (h : qa_fL_law_505 L k23 x4 σ = some r) : qa_Bn L N qa_mL_law 505 [(0, .inl (0, 0)), (1, .inl (0, 1)), (2, .inl (10, 21)), (3, .inl (10, 29)), (4, .inr (.int x4))] [] σ (some (.inr (.int (qa_bi r.1)))) r.2 := by
  unfold qa_fL_law_505 at h
  try dsimp only at h
  refine qa_bn_do (pc' := 2682) rfl rfl ?_
  exact qa_bn_mono (N := N) (by omega) <| qa_bn_lw (qa_tL_law_2682  K23 h) rfl rfl (And.intro rfl (And.intro rfl (And.intro rfl (And.intro rfl (And.intro rfl (trivial))))))
set_option maxRecDepth 1000000 in
theorem qa_tL_law_452 {L N : Nat}   {k23 : Int32 → qa_T → Option (Bool × qa_T)} (K23 : ∀ (x4 : Int32) (σ : qa_T) (r : (Bool × qa_T)), k23 x4 σ = some r → qa_Bn L N qa_mL_law 23 [(0, .inl (0, 0)), (1, .inl (0, 1)), (2, .inl (10, 21)), (3, .inl (10, 29)), (4, .inr (.int x4))] [] σ (some (.inr (.int (qa_bi r.1)))) r.2) {x4 : Int32} {σ : qa_T} {r : (Bool × qa_T)} (h : qa_fL_law_452 L k23 x4 σ = some r) : qa_Bn L (N + 1) qa_mL_law 452 [(0, .inl (0, 0)), (1, .inl (0, 1)), (2, .inl (10, 21)), (3, .inl (10, 29)), (4, .inr (.int x4))] [] σ (some (.inr (.int (qa_bi r.1)))) r.2 := by
  unfold qa_fL_law_452 at h
  try dsimp only at h
  refine qa_bn_do (pc' := 453) rfl rfl ?_
  refine qa_bn_do (pc' := 454) rfl rfl ?_
  refine qa_bn_do (pc' := 456) rfl rfl ?_
  refine qa_bn_do (pc' := 457) rfl rfl ?_
  refine qa_bn_do (pc' := 458) rfl rfl ?_
  rcases qa_ite h with ⟨_, h⟩ | ⟨hc32, h⟩
  · cases h
  refine qa_bn_ia rfl qa_dx_0_0 (Or.inr rfl) (Decidable.of_not_not hc32) ?_
  refine qa_bn_do (pc' := 460) rfl rfl ?_
  obtain ⟨c33, hc34, h⟩ := Option.bind_eq_some_iff.mp h
  refine qa_bn_cs (qa_tL_takeOut hc34) rfl rfl rfl rfl rfl rfl rfl ?_
  refine qa_bn_do (pc' := 465) (lv' := [(5, _), (0, _), (1, _), (2, _), (3, _), (4, _)]) rfl rfl ?_
  refine qa_bn_do (pc' := 466) rfl rfl ?_
  refine qa_bn_do (pc' := 467) rfl rfl ?_
  refine qa_bn_do (pc' := 469) rfl rfl ?_
  refine qa_bn_do (pc' := 470) rfl rfl ?_
  refine qa_bn_do (pc' := 471) rfl rfl ?_
  rcases qa_ite h with ⟨_, h⟩ | ⟨hc35, h⟩
  · cases h
  refine qa_bn_ia rfl qa_dx_0_0 (Or.inr rfl) (Decidable.of_not_not hc35) ?_
  obtain ⟨c36, hc37, h⟩ := Option.bind_eq_some_iff.mp h
  refine qa_bn_cv (qa_tX10_takeOut hc37) rfl rfl rfl rfl rfl rfl rfl qa_dx_10_21 ?_
  refine qa_bn_do (pc' := 477) (lv' := [(6, _), (5, _), (0, _), (1, _), (2, _), (3, _), (4, _)]) rfl rfl ?_
  refine qa_bn_do (pc' := 478) rfl rfl ?_
  refine qa_bn_cv (qa_tX10_thrown rfl) rfl rfl rfl rfl rfl rfl rfl qa_dx_10_21 ?_
  refine qa_bn_do (pc' := 483) rfl rfl ?_
  rcases qa_ite h with ⟨hc38, h⟩ | ⟨hc38, h⟩
  · refine qa_bn_1t (a := 488) (b := 486) hc38 rfl rfl ?_
    refine qa_bn_do (pc' := 490) rfl rfl ?_
    rcases qa_ite h with ⟨hc39, h⟩ | ⟨hc39, h⟩
    · refine qa_bn_1t (a := 505) (b := 493) hc39 rfl rfl ?_
      exact qa_bn_mono (N := N) (by omega) <| qa_bn_lw (qa_tL_law_505  K23 h) rfl rfl (And.intro rfl (And.intro rfl (And.intro rfl (And.intro rfl (And.intro rfl (trivial))))))
    · refine qa_bn_1f (a := 505) (b := 493) hc39 rfl rfl ?_
      refine qa_bn_do (pc' := 494) rfl rfl ?_
      refine qa_bn_do (pc' := 495) rfl rfl ?_
      refine qa_bn_ja rfl qa_dx_10_29 rfl ?_
      refine qa_bn_do (pc' := 498) rfl rfl ?_
      refine qa_bn_do (pc' := 499) rfl rfl ?_
      refine qa_bn_do (pc' := 500) rfl rfl ?_
      rcases qa_ite h with ⟨hc40, h⟩ | ⟨hc40, h⟩
      · refine qa_bn_1t (a := 505) (b := 503) hc40 rfl rfl ?_
        exact qa_bn_mono (N := N) (by omega) <| qa_bn_lw (qa_tL_law_505  K23 h) rfl rfl (And.intro rfl (And.intro rfl (And.intro rfl (And.intro rfl (And.intro rfl (trivial))))))
      · refine qa_bn_1f (a := 505) (b := 503) hc40 rfl rfl ?_
        refine qa_bn_do (pc' := 504) rfl rfl ?_
        cases h
        exact qa_bn_rb rfl rfl rfl
  · refine qa_bn_1f (a := 488) (b := 486) hc38 rfl rfl ?_
    refine qa_bn_do (pc' := 487) rfl rfl ?_
    cases h
    exact qa_bn_rb rfl rfl rfl
set_option maxRecDepth 1000000 in
theorem qa_tL_law_556 {L N : Nat}   {k23 : Int32 → qa_T → Option (Bool × qa_T)} (K23 : ∀ (x4 : Int32) (σ : qa_T) (r : (Bool × qa_T)), k23 x4 σ = some r → qa_Bn L N qa_mL_law 23 [(0, .inl (0, 0)), (1, .inl (0, 1)), (2, .inl (10, 21)), (3, .inl (10, 29)), (4, .inr (.int x4))] [] σ (some (.inr (.int (qa_bi r.1)))) r.2) {x4 : Int32} {σ : qa_T} {r : (Bool × qa_T)} (h : qa_fL_law_556 L k23 x4 σ = some r) : qa_Bn L N qa_mL_law 556 [(0, .inl (0, 0)), (1, .inl (0, 1)), (2, .inl (10, 21)), (3, .inl (10, 29)), (4, .inr (.int x4))] [] σ (some (.inr (.int (qa_bi r.1)))) r.2 := by
  unfold qa_fL_law_556 at h
  try dsimp only at h
  refine qa_bn_do (pc' := 2682) rfl rfl ?_
  exact qa_bn_mono (N := N) (by omega) <| qa_bn_lw (qa_tL_law_2682  K23 h) rfl rfl (And.intro rfl (And.intro rfl (And.intro rfl (And.intro rfl (And.intro rfl (trivial))))))
set_option maxRecDepth 1000000 in
theorem qa_tL_law_550 {L N : Nat}   {k23 : Int32 → qa_T → Option (Bool × qa_T)} (K23 : ∀ (x4 : Int32) (σ : qa_T) (r : (Bool × qa_T)), k23 x4 σ = some r → qa_Bn L N qa_mL_law 23 [(0, .inl (0, 0)), (1, .inl (0, 1)), (2, .inl (10, 21)), (3, .inl (10, 29)), (4, .inr (.int x4))] [] σ (some (.inr (.int (qa_bi r.1)))) r.2) {x4 : Int32} {y0 : Int64} {y1 : Int64} {σ : qa_T} {r : (Bool × qa_T)} (h : qa_fL_law_550 L k23 x4 y0 y1 σ = some r) : qa_Bn L N qa_mL_law 550 [(0, .inl (0, 0)), (1, .inl (0, 1)), (2, .inl (10, 21)), (3, .inl (10, 29)), (4, .inr (.int x4))] [.inr (.long y0), .inr (.long y1)] σ (some (.inr (.int (qa_bi r.1)))) r.2 := by
  unfold qa_fL_law_550 at h
  try dsimp only at h
  refine qa_bn_do (pc' := 551) rfl rfl ?_
  rcases qa_ite h with ⟨hc50, h⟩ | ⟨hc50, h⟩
  · refine qa_bn_1t (a := 556) (b := 554) hc50 rfl rfl ?_
    exact qa_bn_mono (N := N) (by omega) <| qa_bn_lw (qa_tL_law_556  K23 h) rfl rfl (And.intro rfl (And.intro rfl (And.intro rfl (And.intro rfl (And.intro rfl (trivial))))))
  · refine qa_bn_1f (a := 556) (b := 554) hc50 rfl rfl ?_
    refine qa_bn_do (pc' := 555) rfl rfl ?_
    cases h
    exact qa_bn_rb rfl rfl rfl
set_option maxRecDepth 1000000 in
theorem qa_tL_law_508 {L N : Nat}   {k23 : Int32 → qa_T → Option (Bool × qa_T)} (K23 : ∀ (x4 : Int32) (σ : qa_T) (r : (Bool × qa_T)), k23 x4 σ = some r → qa_Bn L N qa_mL_law 23 [(0, .inl (0, 0)), (1, .inl (0, 1)), (2, .inl (10, 21)), (3, .inl (10, 29)), (4, .inr (.int x4))] [] σ (some (.inr (.int (qa_bi r.1)))) r.2) {x4 : Int32} {σ : qa_T} {r : (Bool × qa_T)} (h : qa_fL_law_508 L k23 x4 σ = some r) : qa_Bn L (N + 1) qa_mL_law 508 [(0, .inl (0, 0)), (1, .inl (0, 1)), (2, .inl (10, 21)), (3, .inl (10, 29)), (4, .inr (.int x4))] [] σ (some (.inr (.int (qa_bi r.1)))) r.2 := by
  unfold qa_fL_law_508 at h
  try dsimp only at h
  refine qa_bn_do (pc' := 509) rfl rfl ?_
  refine qa_bn_do (pc' := 510) rfl rfl ?_
  obtain ⟨c42, hc43, h⟩ := Option.bind_eq_some_iff.mp h
  refine qa_bn_cs (qa_tL_goOn hc43) rfl rfl rfl rfl rfl rfl rfl ?_
  refine qa_bn_do (pc' := 515) (lv' := [(5, _), (0, _), (1, _), (2, _), (3, _), (4, _)]) rfl rfl ?_
  refine qa_bn_do (pc' := 516) rfl rfl ?_
  obtain ⟨c44, hc45, h⟩ := Option.bind_eq_some_iff.mp h
  refine qa_bn_cv (qa_tX10_goOn hc45) rfl rfl rfl rfl rfl rfl rfl qa_dx_10_21 ?_
  refine qa_bn_do (pc' := 521) (lv' := [(6, _), (5, _), (0, _), (1, _), (2, _), (3, _), (4, _)]) rfl rfl ?_
  refine qa_bn_do (pc' := 522) rfl rfl ?_
  refine qa_bn_cv (qa_tX10_thrown rfl) rfl rfl rfl rfl rfl rfl rfl qa_dx_10_21 ?_
  refine qa_bn_do (pc' := 527) rfl rfl ?_
  rcases qa_ite h with ⟨hc47, h⟩ | ⟨hc47, h⟩
  · refine qa_bn_1t (a := 532) (b := 530) hc47 rfl rfl ?_
    refine qa_bn_do (pc' := 534) rfl rfl ?_
    rcases qa_ite h with ⟨hc48, h⟩ | ⟨hc48, h⟩
    · refine qa_bn_1t (a := 556) (b := 537) hc48 rfl rfl ?_
      exact qa_bn_mono (N := N) (by omega) <| qa_bn_lw (qa_tL_law_556  K23 h) rfl rfl (And.intro rfl (And.intro rfl (And.intro rfl (And.intro rfl (And.intro rfl (trivial))))))
    · refine qa_bn_1f (a := 556) (b := 537) hc48 rfl rfl ?_
      refine qa_bn_do (pc' := 538) rfl rfl ?_
      refine qa_bn_do (pc' := 539) rfl rfl ?_
      refine qa_bn_ja rfl qa_dx_10_29 rfl ?_
      refine qa_bn_do (pc' := 542) rfl rfl ?_
      rcases qa_ite h with ⟨hc49, h⟩ | ⟨hc49, h⟩
      · refine qa_bn_1t (a := 549) (b := 545) hc49 rfl rfl ?_
        refine qa_bn_do (pc' := 550) rfl rfl ?_
        exact qa_bn_mono (N := N) (by omega) <| qa_bn_lw (qa_tL_law_550  K23 h) rfl rfl (And.intro rfl (And.intro rfl (And.intro rfl (And.intro rfl (And.intro rfl (trivial))))))
      · refine qa_bn_1f (a := 549) (b := 545) hc49 rfl rfl ?_
        refine qa_bn_do (pc' := 546) rfl rfl ?_
        refine qa_bn_do (pc' := 550) rfl rfl ?_
        exact qa_bn_mono (N := N) (by omega) <| qa_bn_lw (qa_tL_law_550  K23 h) rfl rfl (And.intro rfl (And.intro rfl (And.intro rfl (And.intro rfl (And.intro rfl (trivial))))))
  · refine qa_bn_1f (a := 532) (b := 530) hc47 rfl rfl ?_
    refine qa_bn_do (pc' := 531) rfl rfl ?_
    cases h
    exact qa_bn_rb rfl rfl rfl
set_option maxRecDepth 1000000 in
theorem qa_tL_law_612 {L N : Nat}   {k23 : Int32 → qa_T → Option (Bool × qa_T)} (K23 : ∀ (x4 : Int32) (σ : qa_T) (r : (Bool × qa_T)), k23 x4 σ = some r → qa_Bn L N qa_mL_law 23 [(0, .inl (0, 0)), (1, .inl (0, 1)), (2, .inl (10, 21)), (3, .inl (10, 29)), (4, .inr (.int x4))] [] σ (some (.inr (.int (qa_bi r.1)))) r.2) {x4 : Int32} {σ : qa_T} {r : (Bool × qa_T)} (h : qa_fL_law_612 L k23 x4 σ = some r) : qa_Bn L N qa_mL_law 612 [(0, .inl (0, 0)), (1, .inl (0, 1)), (2, .inl (10, 21)), (3, .inl (10, 29)), (4, .inr (.int x4))] [] σ (some (.inr (.int (qa_bi r.1)))) r.2 := by
  unfold qa_fL_law_612 at h
  try dsimp only at h
  refine qa_bn_do (pc' := 2682) rfl rfl ?_
  exact qa_bn_mono (N := N) (by omega) <| qa_bn_lw (qa_tL_law_2682  K23 h) rfl rfl (And.intro rfl (And.intro rfl (And.intro rfl (And.intro rfl (And.intro rfl (trivial))))))
set_option maxRecDepth 1000000 in
theorem qa_tL_law_559 {L N : Nat}   {k23 : Int32 → qa_T → Option (Bool × qa_T)} (K23 : ∀ (x4 : Int32) (σ : qa_T) (r : (Bool × qa_T)), k23 x4 σ = some r → qa_Bn L N qa_mL_law 23 [(0, .inl (0, 0)), (1, .inl (0, 1)), (2, .inl (10, 21)), (3, .inl (10, 29)), (4, .inr (.int x4))] [] σ (some (.inr (.int (qa_bi r.1)))) r.2) {x4 : Int32} {σ : qa_T} {r : (Bool × qa_T)} (h : qa_fL_law_559 L k23 x4 σ = some r) : qa_Bn L (N + 1) qa_mL_law 559 [(0, .inl (0, 0)), (1, .inl (0, 1)), (2, .inl (10, 21)), (3, .inl (10, 29)), (4, .inr (.int x4))] [] σ (some (.inr (.int (qa_bi r.1)))) r.2 := by
  unfold qa_fL_law_559 at h
  try dsimp only at h
  refine qa_bn_do (pc' := 560) rfl rfl ?_
  refine qa_bn_do (pc' := 561) rfl rfl ?_
  refine qa_bn_do (pc' := 563) rfl rfl ?_
  refine qa_bn_do (pc' := 564) rfl rfl ?_
  refine qa_bn_do (pc' := 565) rfl rfl ?_
  rcases qa_ite h with ⟨_, h⟩ | ⟨hc52, h⟩
  · cases h
  refine qa_bn_ia rfl qa_dx_0_0 (Or.inr rfl) (Decidable.of_not_not hc52) ?_
  refine qa_bn_do (pc' := 567) rfl rfl ?_
  obtain ⟨c53, hc54, h⟩ := Option.bind_eq_some_iff.mp h
  refine qa_bn_cs (qa_tL_ask hc54) rfl rfl rfl rfl rfl rfl rfl ?_
  refine qa_bn_do (pc' := 572) (lv' := [(5, _), (0, _), (1, _), (2, _), (3, _), (4, _)]) rfl rfl ?_
  refine qa_bn_do (pc' := 573) rfl rfl ?_
  refine qa_bn_do (pc' := 574) rfl rfl ?_
  refine qa_bn_do (pc' := 576) rfl rfl ?_
  refine qa_bn_do (pc' := 577) rfl rfl ?_
  refine qa_bn_do (pc' := 578) rfl rfl ?_
  rcases qa_ite h with ⟨_, h⟩ | ⟨hc55, h⟩
  · cases h
  refine qa_bn_ia rfl qa_dx_0_0 (Or.inr rfl) (Decidable.of_not_not hc55) ?_
  obtain ⟨c56, hc57, h⟩ := Option.bind_eq_some_iff.mp h
  refine qa_bn_cv (qa_tX10_ask hc57) rfl rfl rfl rfl rfl rfl rfl qa_dx_10_21 ?_
  refine qa_bn_do (pc' := 584) (lv' := [(6, _), (5, _), (0, _), (1, _), (2, _), (3, _), (4, _)]) rfl rfl ?_
  refine qa_bn_do (pc' := 585) rfl rfl ?_
  refine qa_bn_cv (qa_tX10_thrown rfl) rfl rfl rfl rfl rfl rfl rfl qa_dx_10_21 ?_
  refine qa_bn_do (pc' := 590) rfl rfl ?_
  rcases qa_ite h with ⟨hc58, h⟩ | ⟨hc58, h⟩
  · refine qa_bn_1t (a := 595) (b := 593) hc58 rfl rfl ?_
    refine qa_bn_do (pc' := 597) rfl rfl ?_
    rcases qa_ite h with ⟨hc59, h⟩ | ⟨hc59, h⟩
    · refine qa_bn_1t (a := 612) (b := 600) hc59 rfl rfl ?_
      exact qa_bn_mono (N := N) (by omega) <| qa_bn_lw (qa_tL_law_612  K23 h) rfl rfl (And.intro rfl (And.intro rfl (And.intro rfl (And.intro rfl (And.intro rfl (trivial))))))
    · refine qa_bn_1f (a := 612) (b := 600) hc59 rfl rfl ?_
      refine qa_bn_do (pc' := 601) rfl rfl ?_
      refine qa_bn_do (pc' := 602) rfl rfl ?_
      refine qa_bn_ja rfl qa_dx_10_29 rfl ?_
      refine qa_bn_do (pc' := 605) rfl rfl ?_
      refine qa_bn_do (pc' := 606) rfl rfl ?_
      refine qa_bn_do (pc' := 607) rfl rfl ?_
      rcases qa_ite h with ⟨hc60, h⟩ | ⟨hc60, h⟩
      · refine qa_bn_1t (a := 612) (b := 610) hc60 rfl rfl ?_
        exact qa_bn_mono (N := N) (by omega) <| qa_bn_lw (qa_tL_law_612  K23 h) rfl rfl (And.intro rfl (And.intro rfl (And.intro rfl (And.intro rfl (And.intro rfl (trivial))))))
      · refine qa_bn_1f (a := 612) (b := 610) hc60 rfl rfl ?_
        refine qa_bn_do (pc' := 611) rfl rfl ?_
        cases h
        exact qa_bn_rb rfl rfl rfl
  · refine qa_bn_1f (a := 595) (b := 593) hc58 rfl rfl ?_
    refine qa_bn_do (pc' := 594) rfl rfl ?_
    cases h
    exact qa_bn_rb rfl rfl rfl
set_option maxRecDepth 1000000 in
theorem qa_tL_law_668 {L N : Nat}   {k23 : Int32 → qa_T → Option (Bool × qa_T)} (K23 : ∀ (x4 : Int32) (σ : qa_T) (r : (Bool × qa_T)), k23 x4 σ = some r → qa_Bn L N qa_mL_law 23 [(0, .inl (0, 0)), (1, .inl (0, 1)), (2, .inl (10, 21)), (3, .inl (10, 29)), (4, .inr (.int x4))] [] σ (some (.inr (.int (qa_bi r.1)))) r.2) {x4 : Int32} {σ : qa_T} {r : (Bool × qa_T)} (h : qa_fL_law_668 L k23 x4 σ = some r) : qa_Bn L N qa_mL_law 668 [(0, .inl (0, 0)), (1, .inl (0, 1)), (2, .inl (10, 21)), (3, .inl (10, 29)), (4, .inr (.int x4))] [] σ (some (.inr (.int (qa_bi r.1)))) r.2 := by
  unfold qa_fL_law_668 at h
  try dsimp only at h
  refine qa_bn_do (pc' := 2682) rfl rfl ?_
  exact qa_bn_mono (N := N) (by omega) <| qa_bn_lw (qa_tL_law_2682  K23 h) rfl rfl (And.intro rfl (And.intro rfl (And.intro rfl (And.intro rfl (And.intro rfl (trivial))))))
set_option maxRecDepth 1000000 in
theorem qa_tL_law_615 {L N : Nat}   {k23 : Int32 → qa_T → Option (Bool × qa_T)} (K23 : ∀ (x4 : Int32) (σ : qa_T) (r : (Bool × qa_T)), k23 x4 σ = some r → qa_Bn L N qa_mL_law 23 [(0, .inl (0, 0)), (1, .inl (0, 1)), (2, .inl (10, 21)), (3, .inl (10, 29)), (4, .inr (.int x4))] [] σ (some (.inr (.int (qa_bi r.1)))) r.2) {x4 : Int32} {σ : qa_T} {r : (Bool × qa_T)} (h : qa_fL_law_615 L k23 x4 σ = some r) : qa_Bn L (N + 1) qa_mL_law 615 [(0, .inl (0, 0)), (1, .inl (0, 1)), (2, .inl (10, 21)), (3, .inl (10, 29)), (4, .inr (.int x4))] [] σ (some (.inr (.int (qa_bi r.1)))) r.2 := by
  unfold qa_fL_law_615 at h
  try dsimp only at h
  refine qa_bn_do (pc' := 616) rfl rfl ?_
  refine qa_bn_do (pc' := 617) rfl rfl ?_
  refine qa_bn_do (pc' := 619) rfl rfl ?_
  refine qa_bn_do (pc' := 620) rfl rfl ?_
  refine qa_bn_do (pc' := 621) rfl rfl ?_
  rcases qa_ite h with ⟨_, h⟩ | ⟨hc62, h⟩
  · cases h
  refine qa_bn_ia rfl qa_dx_0_0 (Or.inr rfl) (Decidable.of_not_not hc62) ?_
  refine qa_bn_do (pc' := 623) rfl rfl ?_
  obtain ⟨c63, hc64, h⟩ := Option.bind_eq_some_iff.mp h
  refine qa_bn_cs (qa_tL_burn hc64) rfl rfl rfl rfl rfl rfl rfl ?_
  refine qa_bn_do (pc' := 628) (lv' := [(5, _), (0, _), (1, _), (2, _), (3, _), (4, _)]) rfl rfl ?_
  refine qa_bn_do (pc' := 629) rfl rfl ?_
  refine qa_bn_do (pc' := 630) rfl rfl ?_
  refine qa_bn_do (pc' := 632) rfl rfl ?_
  refine qa_bn_do (pc' := 633) rfl rfl ?_
  refine qa_bn_do (pc' := 634) rfl rfl ?_
  rcases qa_ite h with ⟨_, h⟩ | ⟨hc65, h⟩
  · cases h
  refine qa_bn_ia rfl qa_dx_0_0 (Or.inr rfl) (Decidable.of_not_not hc65) ?_
  obtain ⟨c66, hc67, h⟩ := Option.bind_eq_some_iff.mp h
  refine qa_bn_cv (qa_tX10_burn hc67) rfl rfl rfl rfl rfl rfl rfl qa_dx_10_21 ?_
  refine qa_bn_do (pc' := 640) (lv' := [(6, _), (5, _), (0, _), (1, _), (2, _), (3, _), (4, _)]) rfl rfl ?_
  refine qa_bn_do (pc' := 641) rfl rfl ?_
  refine qa_bn_cv (qa_tX10_thrown rfl) rfl rfl rfl rfl rfl rfl rfl qa_dx_10_21 ?_
  refine qa_bn_do (pc' := 646) rfl rfl ?_
  rcases qa_ite h with ⟨hc68, h⟩ | ⟨hc68, h⟩
  · refine qa_bn_1t (a := 651) (b := 649) hc68 rfl rfl ?_
    refine qa_bn_do (pc' := 653) rfl rfl ?_
    rcases qa_ite h with ⟨hc69, h⟩ | ⟨hc69, h⟩
    · refine qa_bn_1t (a := 668) (b := 656) hc69 rfl rfl ?_
      exact qa_bn_mono (N := N) (by omega) <| qa_bn_lw (qa_tL_law_668  K23 h) rfl rfl (And.intro rfl (And.intro rfl (And.intro rfl (And.intro rfl (And.intro rfl (trivial))))))
    · refine qa_bn_1f (a := 668) (b := 656) hc69 rfl rfl ?_
      refine qa_bn_do (pc' := 657) rfl rfl ?_
      refine qa_bn_do (pc' := 658) rfl rfl ?_
      refine qa_bn_ja rfl qa_dx_10_29 rfl ?_
      refine qa_bn_do (pc' := 661) rfl rfl ?_
      refine qa_bn_do (pc' := 662) rfl rfl ?_
      refine qa_bn_do (pc' := 663) rfl rfl ?_
      rcases qa_ite h with ⟨hc70, h⟩ | ⟨hc70, h⟩
      · refine qa_bn_1t (a := 668) (b := 666) hc70 rfl rfl ?_
        exact qa_bn_mono (N := N) (by omega) <| qa_bn_lw (qa_tL_law_668  K23 h) rfl rfl (And.intro rfl (And.intro rfl (And.intro rfl (And.intro rfl (And.intro rfl (trivial))))))
      · refine qa_bn_1f (a := 668) (b := 666) hc70 rfl rfl ?_
        refine qa_bn_do (pc' := 667) rfl rfl ?_
        cases h
        exact qa_bn_rb rfl rfl rfl
  · refine qa_bn_1f (a := 651) (b := 649) hc68 rfl rfl ?_
    refine qa_bn_do (pc' := 650) rfl rfl ?_
    cases h
    exact qa_bn_rb rfl rfl rfl
set_option maxRecDepth 1000000 in
theorem qa_tL_law_724 {L N : Nat}   {k23 : Int32 → qa_T → Option (Bool × qa_T)} (K23 : ∀ (x4 : Int32) (σ : qa_T) (r : (Bool × qa_T)), k23 x4 σ = some r → qa_Bn L N qa_mL_law 23 [(0, .inl (0, 0)), (1, .inl (0, 1)), (2, .inl (10, 21)), (3, .inl (10, 29)), (4, .inr (.int x4))] [] σ (some (.inr (.int (qa_bi r.1)))) r.2) {x4 : Int32} {σ : qa_T} {r : (Bool × qa_T)} (h : qa_fL_law_724 L k23 x4 σ = some r) : qa_Bn L N qa_mL_law 724 [(0, .inl (0, 0)), (1, .inl (0, 1)), (2, .inl (10, 21)), (3, .inl (10, 29)), (4, .inr (.int x4))] [] σ (some (.inr (.int (qa_bi r.1)))) r.2 := by
  unfold qa_fL_law_724 at h
  try dsimp only at h
  refine qa_bn_do (pc' := 2682) rfl rfl ?_
  exact qa_bn_mono (N := N) (by omega) <| qa_bn_lw (qa_tL_law_2682  K23 h) rfl rfl (And.intro rfl (And.intro rfl (And.intro rfl (And.intro rfl (And.intro rfl (trivial))))))
set_option maxRecDepth 1000000 in
theorem qa_tL_law_671 {L N : Nat}   {k23 : Int32 → qa_T → Option (Bool × qa_T)} (K23 : ∀ (x4 : Int32) (σ : qa_T) (r : (Bool × qa_T)), k23 x4 σ = some r → qa_Bn L N qa_mL_law 23 [(0, .inl (0, 0)), (1, .inl (0, 1)), (2, .inl (10, 21)), (3, .inl (10, 29)), (4, .inr (.int x4))] [] σ (some (.inr (.int (qa_bi r.1)))) r.2) {x4 : Int32} {σ : qa_T} {r : (Bool × qa_T)} (h : qa_fL_law_671 L k23 x4 σ = some r) : qa_Bn L (N + 1) qa_mL_law 671 [(0, .inl (0, 0)), (1, .inl (0, 1)), (2, .inl (10, 21)), (3, .inl (10, 29)), (4, .inr (.int x4))] [] σ (some (.inr (.int (qa_bi r.1)))) r.2 := by
  unfold qa_fL_law_671 at h
  try dsimp only at h
  refine qa_bn_do (pc' := 672) rfl rfl ?_
  refine qa_bn_do (pc' := 673) rfl rfl ?_
  refine qa_bn_do (pc' := 675) rfl rfl ?_
  refine qa_bn_do (pc' := 676) rfl rfl ?_
  refine qa_bn_do (pc' := 677) rfl rfl ?_
  rcases qa_ite h with ⟨_, h⟩ | ⟨hc72, h⟩
  · cases h
  refine qa_bn_ia rfl qa_dx_0_0 (Or.inr rfl) (Decidable.of_not_not hc72) ?_
  refine qa_bn_do (pc' := 679) rfl rfl ?_
  obtain ⟨c73, hc74, h⟩ := Option.bind_eq_some_iff.mp h
  refine qa_bn_cs (qa_tL_tick hc74) rfl rfl rfl rfl rfl rfl rfl ?_
  refine qa_bn_do (pc' := 684) (lv' := [(5, _), (0, _), (1, _), (2, _), (3, _), (4, _)]) rfl rfl ?_
  refine qa_bn_do (pc' := 685) rfl rfl ?_
  refine qa_bn_do (pc' := 686) rfl rfl ?_
  refine qa_bn_do (pc' := 688) rfl rfl ?_
  refine qa_bn_do (pc' := 689) rfl rfl ?_
  refine qa_bn_do (pc' := 690) rfl rfl ?_
  rcases qa_ite h with ⟨_, h⟩ | ⟨hc75, h⟩
  · cases h
  refine qa_bn_ia rfl qa_dx_0_0 (Or.inr rfl) (Decidable.of_not_not hc75) ?_
  obtain ⟨c76, hc77, h⟩ := Option.bind_eq_some_iff.mp h
  refine qa_bn_cv (qa_tX10_tick hc77) rfl rfl rfl rfl rfl rfl rfl qa_dx_10_21 ?_
  refine qa_bn_do (pc' := 696) (lv' := [(6, _), (5, _), (0, _), (1, _), (2, _), (3, _), (4, _)]) rfl rfl ?_
  refine qa_bn_do (pc' := 697) rfl rfl ?_
  refine qa_bn_cv (qa_tX10_thrown rfl) rfl rfl rfl rfl rfl rfl rfl qa_dx_10_21 ?_
  refine qa_bn_do (pc' := 702) rfl rfl ?_
  rcases qa_ite h with ⟨hc78, h⟩ | ⟨hc78, h⟩
  · refine qa_bn_1t (a := 707) (b := 705) hc78 rfl rfl ?_
    refine qa_bn_do (pc' := 709) rfl rfl ?_
    rcases qa_ite h with ⟨hc79, h⟩ | ⟨hc79, h⟩
    · refine qa_bn_1t (a := 724) (b := 712) hc79 rfl rfl ?_
      exact qa_bn_mono (N := N) (by omega) <| qa_bn_lw (qa_tL_law_724  K23 h) rfl rfl (And.intro rfl (And.intro rfl (And.intro rfl (And.intro rfl (And.intro rfl (trivial))))))
    · refine qa_bn_1f (a := 724) (b := 712) hc79 rfl rfl ?_
      refine qa_bn_do (pc' := 713) rfl rfl ?_
      refine qa_bn_do (pc' := 714) rfl rfl ?_
      refine qa_bn_ja rfl qa_dx_10_29 rfl ?_
      refine qa_bn_do (pc' := 717) rfl rfl ?_
      refine qa_bn_do (pc' := 718) rfl rfl ?_
      refine qa_bn_do (pc' := 719) rfl rfl ?_
      rcases qa_ite h with ⟨hc80, h⟩ | ⟨hc80, h⟩
      · refine qa_bn_1t (a := 724) (b := 722) hc80 rfl rfl ?_
        exact qa_bn_mono (N := N) (by omega) <| qa_bn_lw (qa_tL_law_724  K23 h) rfl rfl (And.intro rfl (And.intro rfl (And.intro rfl (And.intro rfl (And.intro rfl (trivial))))))
      · refine qa_bn_1f (a := 724) (b := 722) hc80 rfl rfl ?_
        refine qa_bn_do (pc' := 723) rfl rfl ?_
        cases h
        exact qa_bn_rb rfl rfl rfl
  · refine qa_bn_1f (a := 707) (b := 705) hc78 rfl rfl ?_
    refine qa_bn_do (pc' := 706) rfl rfl ?_
    cases h
    exact qa_bn_rb rfl rfl rfl
set_option maxRecDepth 1000000 in
theorem qa_tL_law_780 {L N : Nat}   {k23 : Int32 → qa_T → Option (Bool × qa_T)} (K23 : ∀ (x4 : Int32) (σ : qa_T) (r : (Bool × qa_T)), k23 x4 σ = some r → qa_Bn L N qa_mL_law 23 [(0, .inl (0, 0)), (1, .inl (0, 1)), (2, .inl (10, 21)), (3, .inl (10, 29)), (4, .inr (.int x4))] [] σ (some (.inr (.int (qa_bi r.1)))) r.2) {x4 : Int32} {σ : qa_T} {r : (Bool × qa_T)} (h : qa_fL_law_780 L k23 x4 σ = some r) : qa_Bn L N qa_mL_law 780 [(0, .inl (0, 0)), (1, .inl (0, 1)), (2, .inl (10, 21)), (3, .inl (10, 29)), (4, .inr (.int x4))] [] σ (some (.inr (.int (qa_bi r.1)))) r.2 := by
  unfold qa_fL_law_780 at h
  try dsimp only at h
  refine qa_bn_do (pc' := 2682) rfl rfl ?_
  exact qa_bn_mono (N := N) (by omega) <| qa_bn_lw (qa_tL_law_2682  K23 h) rfl rfl (And.intro rfl (And.intro rfl (And.intro rfl (And.intro rfl (And.intro rfl (trivial))))))
set_option maxRecDepth 1000000 in
theorem qa_tL_law_727 {L N : Nat}   {k23 : Int32 → qa_T → Option (Bool × qa_T)} (K23 : ∀ (x4 : Int32) (σ : qa_T) (r : (Bool × qa_T)), k23 x4 σ = some r → qa_Bn L N qa_mL_law 23 [(0, .inl (0, 0)), (1, .inl (0, 1)), (2, .inl (10, 21)), (3, .inl (10, 29)), (4, .inr (.int x4))] [] σ (some (.inr (.int (qa_bi r.1)))) r.2) {x4 : Int32} {σ : qa_T} {r : (Bool × qa_T)} (h : qa_fL_law_727 L k23 x4 σ = some r) : qa_Bn L (N + 1) qa_mL_law 727 [(0, .inl (0, 0)), (1, .inl (0, 1)), (2, .inl (10, 21)), (3, .inl (10, 29)), (4, .inr (.int x4))] [] σ (some (.inr (.int (qa_bi r.1)))) r.2 := by
  unfold qa_fL_law_727 at h
  try dsimp only at h
  refine qa_bn_do (pc' := 728) rfl rfl ?_
  refine qa_bn_do (pc' := 729) rfl rfl ?_
  refine qa_bn_do (pc' := 731) rfl rfl ?_
  refine qa_bn_do (pc' := 732) rfl rfl ?_
  refine qa_bn_do (pc' := 733) rfl rfl ?_
  rcases qa_ite h with ⟨_, h⟩ | ⟨hc82, h⟩
  · cases h
  refine qa_bn_ia rfl qa_dx_0_0 (Or.inr rfl) (Decidable.of_not_not hc82) ?_
  refine qa_bn_do (pc' := 735) rfl rfl ?_
  obtain ⟨c83, hc84, h⟩ := Option.bind_eq_some_iff.mp h
  refine qa_bn_cs (qa_tL_changeMemory hc84) rfl rfl rfl rfl rfl rfl rfl ?_
  refine qa_bn_do (pc' := 740) (lv' := [(5, _), (0, _), (1, _), (2, _), (3, _), (4, _)]) rfl rfl ?_
  refine qa_bn_do (pc' := 741) rfl rfl ?_
  refine qa_bn_do (pc' := 742) rfl rfl ?_
  refine qa_bn_do (pc' := 744) rfl rfl ?_
  refine qa_bn_do (pc' := 745) rfl rfl ?_
  refine qa_bn_do (pc' := 746) rfl rfl ?_
  rcases qa_ite h with ⟨_, h⟩ | ⟨hc85, h⟩
  · cases h
  refine qa_bn_ia rfl qa_dx_0_0 (Or.inr rfl) (Decidable.of_not_not hc85) ?_
  obtain ⟨c86, hc87, h⟩ := Option.bind_eq_some_iff.mp h
  refine qa_bn_cv (qa_tX10_changeMemory hc87) rfl rfl rfl rfl rfl rfl rfl qa_dx_10_21 ?_
  refine qa_bn_do (pc' := 752) (lv' := [(6, _), (5, _), (0, _), (1, _), (2, _), (3, _), (4, _)]) rfl rfl ?_
  refine qa_bn_do (pc' := 753) rfl rfl ?_
  refine qa_bn_cv (qa_tX10_thrown rfl) rfl rfl rfl rfl rfl rfl rfl qa_dx_10_21 ?_
  refine qa_bn_do (pc' := 758) rfl rfl ?_
  rcases qa_ite h with ⟨hc88, h⟩ | ⟨hc88, h⟩
  · refine qa_bn_1t (a := 763) (b := 761) hc88 rfl rfl ?_
    refine qa_bn_do (pc' := 765) rfl rfl ?_
    rcases qa_ite h with ⟨hc89, h⟩ | ⟨hc89, h⟩
    · refine qa_bn_1t (a := 780) (b := 768) hc89 rfl rfl ?_
      exact qa_bn_mono (N := N) (by omega) <| qa_bn_lw (qa_tL_law_780  K23 h) rfl rfl (And.intro rfl (And.intro rfl (And.intro rfl (And.intro rfl (And.intro rfl (trivial))))))
    · refine qa_bn_1f (a := 780) (b := 768) hc89 rfl rfl ?_
      refine qa_bn_do (pc' := 769) rfl rfl ?_
      refine qa_bn_do (pc' := 770) rfl rfl ?_
      refine qa_bn_ja rfl qa_dx_10_29 rfl ?_
      refine qa_bn_do (pc' := 773) rfl rfl ?_
      refine qa_bn_do (pc' := 774) rfl rfl ?_
      refine qa_bn_do (pc' := 775) rfl rfl ?_
      rcases qa_ite h with ⟨hc90, h⟩ | ⟨hc90, h⟩
      · refine qa_bn_1t (a := 780) (b := 778) hc90 rfl rfl ?_
        exact qa_bn_mono (N := N) (by omega) <| qa_bn_lw (qa_tL_law_780  K23 h) rfl rfl (And.intro rfl (And.intro rfl (And.intro rfl (And.intro rfl (And.intro rfl (trivial))))))
      · refine qa_bn_1f (a := 780) (b := 778) hc90 rfl rfl ?_
        refine qa_bn_do (pc' := 779) rfl rfl ?_
        cases h
        exact qa_bn_rb rfl rfl rfl
  · refine qa_bn_1f (a := 763) (b := 761) hc88 rfl rfl ?_
    refine qa_bn_do (pc' := 762) rfl rfl ?_
    cases h
    exact qa_bn_rb rfl rfl rfl
set_option maxRecDepth 1000000 in
theorem qa_tL_law_836 {L N : Nat}   {k23 : Int32 → qa_T → Option (Bool × qa_T)} (K23 : ∀ (x4 : Int32) (σ : qa_T) (r : (Bool × qa_T)), k23 x4 σ = some r → qa_Bn L N qa_mL_law 23 [(0, .inl (0, 0)), (1, .inl (0, 1)), (2, .inl (10, 21)), (3, .inl (10, 29)), (4, .inr (.int x4))] [] σ (some (.inr (.int (qa_bi r.1)))) r.2) {x4 : Int32} {σ : qa_T} {r : (Bool × qa_T)} (h : qa_fL_law_836 L k23 x4 σ = some r) : qa_Bn L N qa_mL_law 836 [(0, .inl (0, 0)), (1, .inl (0, 1)), (2, .inl (10, 21)), (3, .inl (10, 29)), (4, .inr (.int x4))] [] σ (some (.inr (.int (qa_bi r.1)))) r.2 := by
  unfold qa_fL_law_836 at h
  try dsimp only at h
  refine qa_bn_do (pc' := 2682) rfl rfl ?_
  exact qa_bn_mono (N := N) (by omega) <| qa_bn_lw (qa_tL_law_2682  K23 h) rfl rfl (And.intro rfl (And.intro rfl (And.intro rfl (And.intro rfl (And.intro rfl (trivial))))))
set_option maxRecDepth 1000000 in
theorem qa_tL_law_783 {L N : Nat}   {k23 : Int32 → qa_T → Option (Bool × qa_T)} (K23 : ∀ (x4 : Int32) (σ : qa_T) (r : (Bool × qa_T)), k23 x4 σ = some r → qa_Bn L N qa_mL_law 23 [(0, .inl (0, 0)), (1, .inl (0, 1)), (2, .inl (10, 21)), (3, .inl (10, 29)), (4, .inr (.int x4))] [] σ (some (.inr (.int (qa_bi r.1)))) r.2) {x4 : Int32} {σ : qa_T} {r : (Bool × qa_T)} (h : qa_fL_law_783 L k23 x4 σ = some r) : qa_Bn L (N + 1) qa_mL_law 783 [(0, .inl (0, 0)), (1, .inl (0, 1)), (2, .inl (10, 21)), (3, .inl (10, 29)), (4, .inr (.int x4))] [] σ (some (.inr (.int (qa_bi r.1)))) r.2 := by
  unfold qa_fL_law_783 at h
  try dsimp only at h
  refine qa_bn_do (pc' := 784) rfl rfl ?_
  refine qa_bn_do (pc' := 785) rfl rfl ?_
  refine qa_bn_do (pc' := 787) rfl rfl ?_
  refine qa_bn_do (pc' := 788) rfl rfl ?_
  refine qa_bn_do (pc' := 789) rfl rfl ?_
  rcases qa_ite h with ⟨_, h⟩ | ⟨hc92, h⟩
  · cases h
  refine qa_bn_ia rfl qa_dx_0_0 (Or.inr rfl) (Decidable.of_not_not hc92) ?_
  refine qa_bn_do (pc' := 791) rfl rfl ?_
  obtain ⟨c93, hc94, h⟩ := Option.bind_eq_some_iff.mp h
  refine qa_bn_cs (qa_tL_changeAhead hc94) rfl rfl rfl rfl rfl rfl rfl ?_
  refine qa_bn_do (pc' := 796) (lv' := [(5, _), (0, _), (1, _), (2, _), (3, _), (4, _)]) rfl rfl ?_
  refine qa_bn_do (pc' := 797) rfl rfl ?_
  refine qa_bn_do (pc' := 798) rfl rfl ?_
  refine qa_bn_do (pc' := 800) rfl rfl ?_
  refine qa_bn_do (pc' := 801) rfl rfl ?_
  refine qa_bn_do (pc' := 802) rfl rfl ?_
  rcases qa_ite h with ⟨_, h⟩ | ⟨hc95, h⟩
  · cases h
  refine qa_bn_ia rfl qa_dx_0_0 (Or.inr rfl) (Decidable.of_not_not hc95) ?_
  obtain ⟨c96, hc97, h⟩ := Option.bind_eq_some_iff.mp h
  refine qa_bn_cv (qa_tX10_changeAhead hc97) rfl rfl rfl rfl rfl rfl rfl qa_dx_10_21 ?_
  refine qa_bn_do (pc' := 808) (lv' := [(6, _), (5, _), (0, _), (1, _), (2, _), (3, _), (4, _)]) rfl rfl ?_
  refine qa_bn_do (pc' := 809) rfl rfl ?_
  refine qa_bn_cv (qa_tX10_thrown rfl) rfl rfl rfl rfl rfl rfl rfl qa_dx_10_21 ?_
  refine qa_bn_do (pc' := 814) rfl rfl ?_
  rcases qa_ite h with ⟨hc98, h⟩ | ⟨hc98, h⟩
  · refine qa_bn_1t (a := 819) (b := 817) hc98 rfl rfl ?_
    refine qa_bn_do (pc' := 821) rfl rfl ?_
    rcases qa_ite h with ⟨hc99, h⟩ | ⟨hc99, h⟩
    · refine qa_bn_1t (a := 836) (b := 824) hc99 rfl rfl ?_
      exact qa_bn_mono (N := N) (by omega) <| qa_bn_lw (qa_tL_law_836  K23 h) rfl rfl (And.intro rfl (And.intro rfl (And.intro rfl (And.intro rfl (And.intro rfl (trivial))))))
    · refine qa_bn_1f (a := 836) (b := 824) hc99 rfl rfl ?_
      refine qa_bn_do (pc' := 825) rfl rfl ?_
      refine qa_bn_do (pc' := 826) rfl rfl ?_
      refine qa_bn_ja rfl qa_dx_10_29 rfl ?_
      refine qa_bn_do (pc' := 829) rfl rfl ?_
      refine qa_bn_do (pc' := 830) rfl rfl ?_
      refine qa_bn_do (pc' := 831) rfl rfl ?_
      rcases qa_ite h with ⟨hc100, h⟩ | ⟨hc100, h⟩
      · refine qa_bn_1t (a := 836) (b := 834) hc100 rfl rfl ?_
        exact qa_bn_mono (N := N) (by omega) <| qa_bn_lw (qa_tL_law_836  K23 h) rfl rfl (And.intro rfl (And.intro rfl (And.intro rfl (And.intro rfl (And.intro rfl (trivial))))))
      · refine qa_bn_1f (a := 836) (b := 834) hc100 rfl rfl ?_
        refine qa_bn_do (pc' := 835) rfl rfl ?_
        cases h
        exact qa_bn_rb rfl rfl rfl
  · refine qa_bn_1f (a := 819) (b := 817) hc98 rfl rfl ?_
    refine qa_bn_do (pc' := 818) rfl rfl ?_
    cases h
    exact qa_bn_rb rfl rfl rfl
set_option maxRecDepth 1000000 in
theorem qa_tL_law_892 {L N : Nat}   {k23 : Int32 → qa_T → Option (Bool × qa_T)} (K23 : ∀ (x4 : Int32) (σ : qa_T) (r : (Bool × qa_T)), k23 x4 σ = some r → qa_Bn L N qa_mL_law 23 [(0, .inl (0, 0)), (1, .inl (0, 1)), (2, .inl (10, 21)), (3, .inl (10, 29)), (4, .inr (.int x4))] [] σ (some (.inr (.int (qa_bi r.1)))) r.2) {x4 : Int32} {σ : qa_T} {r : (Bool × qa_T)} (h : qa_fL_law_892 L k23 x4 σ = some r) : qa_Bn L N qa_mL_law 892 [(0, .inl (0, 0)), (1, .inl (0, 1)), (2, .inl (10, 21)), (3, .inl (10, 29)), (4, .inr (.int x4))] [] σ (some (.inr (.int (qa_bi r.1)))) r.2 := by
  unfold qa_fL_law_892 at h
  try dsimp only at h
  refine qa_bn_do (pc' := 2682) rfl rfl ?_
  exact qa_bn_mono (N := N) (by omega) <| qa_bn_lw (qa_tL_law_2682  K23 h) rfl rfl (And.intro rfl (And.intro rfl (And.intro rfl (And.intro rfl (And.intro rfl (trivial))))))
set_option maxRecDepth 1000000 in
theorem qa_tL_law_839 {L N : Nat}   {k23 : Int32 → qa_T → Option (Bool × qa_T)} (K23 : ∀ (x4 : Int32) (σ : qa_T) (r : (Bool × qa_T)), k23 x4 σ = some r → qa_Bn L N qa_mL_law 23 [(0, .inl (0, 0)), (1, .inl (0, 1)), (2, .inl (10, 21)), (3, .inl (10, 29)), (4, .inr (.int x4))] [] σ (some (.inr (.int (qa_bi r.1)))) r.2) {x4 : Int32} {σ : qa_T} {r : (Bool × qa_T)} (h : qa_fL_law_839 L k23 x4 σ = some r) : qa_Bn L (N + 1) qa_mL_law 839 [(0, .inl (0, 0)), (1, .inl (0, 1)), (2, .inl (10, 21)), (3, .inl (10, 29)), (4, .inr (.int x4))] [] σ (some (.inr (.int (qa_bi r.1)))) r.2 := by
  unfold qa_fL_law_839 at h
  try dsimp only at h
  refine qa_bn_do (pc' := 840) rfl rfl ?_
  refine qa_bn_do (pc' := 841) rfl rfl ?_
  refine qa_bn_do (pc' := 843) rfl rfl ?_
  refine qa_bn_do (pc' := 844) rfl rfl ?_
  refine qa_bn_do (pc' := 845) rfl rfl ?_
  rcases qa_ite h with ⟨_, h⟩ | ⟨hc102, h⟩
  · cases h
  refine qa_bn_ia rfl qa_dx_0_0 (Or.inr rfl) (Decidable.of_not_not hc102) ?_
  refine qa_bn_do (pc' := 847) rfl rfl ?_
  obtain ⟨c103, hc104, h⟩ := Option.bind_eq_some_iff.mp h
  refine qa_bn_cs (qa_tL_changeOrder hc104) rfl rfl rfl rfl rfl rfl rfl ?_
  refine qa_bn_do (pc' := 852) (lv' := [(5, _), (0, _), (1, _), (2, _), (3, _), (4, _)]) rfl rfl ?_
  refine qa_bn_do (pc' := 853) rfl rfl ?_
  refine qa_bn_do (pc' := 854) rfl rfl ?_
  refine qa_bn_do (pc' := 856) rfl rfl ?_
  refine qa_bn_do (pc' := 857) rfl rfl ?_
  refine qa_bn_do (pc' := 858) rfl rfl ?_
  rcases qa_ite h with ⟨_, h⟩ | ⟨hc105, h⟩
  · cases h
  refine qa_bn_ia rfl qa_dx_0_0 (Or.inr rfl) (Decidable.of_not_not hc105) ?_
  obtain ⟨c106, hc107, h⟩ := Option.bind_eq_some_iff.mp h
  refine qa_bn_cv (qa_tX10_changeOrder hc107) rfl rfl rfl rfl rfl rfl rfl qa_dx_10_21 ?_
  refine qa_bn_do (pc' := 864) (lv' := [(6, _), (5, _), (0, _), (1, _), (2, _), (3, _), (4, _)]) rfl rfl ?_
  refine qa_bn_do (pc' := 865) rfl rfl ?_
  refine qa_bn_cv (qa_tX10_thrown rfl) rfl rfl rfl rfl rfl rfl rfl qa_dx_10_21 ?_
  refine qa_bn_do (pc' := 870) rfl rfl ?_
  rcases qa_ite h with ⟨hc108, h⟩ | ⟨hc108, h⟩
  · refine qa_bn_1t (a := 875) (b := 873) hc108 rfl rfl ?_
    refine qa_bn_do (pc' := 877) rfl rfl ?_
    rcases qa_ite h with ⟨hc109, h⟩ | ⟨hc109, h⟩
    · refine qa_bn_1t (a := 892) (b := 880) hc109 rfl rfl ?_
      exact qa_bn_mono (N := N) (by omega) <| qa_bn_lw (qa_tL_law_892  K23 h) rfl rfl (And.intro rfl (And.intro rfl (And.intro rfl (And.intro rfl (And.intro rfl (trivial))))))
    · refine qa_bn_1f (a := 892) (b := 880) hc109 rfl rfl ?_
      refine qa_bn_do (pc' := 881) rfl rfl ?_
      refine qa_bn_do (pc' := 882) rfl rfl ?_
      refine qa_bn_ja rfl qa_dx_10_29 rfl ?_
      refine qa_bn_do (pc' := 885) rfl rfl ?_
      refine qa_bn_do (pc' := 886) rfl rfl ?_
      refine qa_bn_do (pc' := 887) rfl rfl ?_
      rcases qa_ite h with ⟨hc110, h⟩ | ⟨hc110, h⟩
      · refine qa_bn_1t (a := 892) (b := 890) hc110 rfl rfl ?_
        exact qa_bn_mono (N := N) (by omega) <| qa_bn_lw (qa_tL_law_892  K23 h) rfl rfl (And.intro rfl (And.intro rfl (And.intro rfl (And.intro rfl (And.intro rfl (trivial))))))
      · refine qa_bn_1f (a := 892) (b := 890) hc110 rfl rfl ?_
        refine qa_bn_do (pc' := 891) rfl rfl ?_
        cases h
        exact qa_bn_rb rfl rfl rfl
  · refine qa_bn_1f (a := 875) (b := 873) hc108 rfl rfl ?_
    refine qa_bn_do (pc' := 874) rfl rfl ?_
    cases h
    exact qa_bn_rb rfl rfl rfl
set_option maxRecDepth 1000000 in
theorem qa_tL_law_948 {L N : Nat}   {k23 : Int32 → qa_T → Option (Bool × qa_T)} (K23 : ∀ (x4 : Int32) (σ : qa_T) (r : (Bool × qa_T)), k23 x4 σ = some r → qa_Bn L N qa_mL_law 23 [(0, .inl (0, 0)), (1, .inl (0, 1)), (2, .inl (10, 21)), (3, .inl (10, 29)), (4, .inr (.int x4))] [] σ (some (.inr (.int (qa_bi r.1)))) r.2) {x4 : Int32} {σ : qa_T} {r : (Bool × qa_T)} (h : qa_fL_law_948 L k23 x4 σ = some r) : qa_Bn L N qa_mL_law 948 [(0, .inl (0, 0)), (1, .inl (0, 1)), (2, .inl (10, 21)), (3, .inl (10, 29)), (4, .inr (.int x4))] [] σ (some (.inr (.int (qa_bi r.1)))) r.2 := by
  unfold qa_fL_law_948 at h
  try dsimp only at h
  refine qa_bn_do (pc' := 2682) rfl rfl ?_
  exact qa_bn_mono (N := N) (by omega) <| qa_bn_lw (qa_tL_law_2682  K23 h) rfl rfl (And.intro rfl (And.intro rfl (And.intro rfl (And.intro rfl (And.intro rfl (trivial))))))
set_option maxRecDepth 1000000 in
theorem qa_tL_law_895 {L N : Nat}   {k23 : Int32 → qa_T → Option (Bool × qa_T)} (K23 : ∀ (x4 : Int32) (σ : qa_T) (r : (Bool × qa_T)), k23 x4 σ = some r → qa_Bn L N qa_mL_law 23 [(0, .inl (0, 0)), (1, .inl (0, 1)), (2, .inl (10, 21)), (3, .inl (10, 29)), (4, .inr (.int x4))] [] σ (some (.inr (.int (qa_bi r.1)))) r.2) {x4 : Int32} {σ : qa_T} {r : (Bool × qa_T)} (h : qa_fL_law_895 L k23 x4 σ = some r) : qa_Bn L (N + 1) qa_mL_law 895 [(0, .inl (0, 0)), (1, .inl (0, 1)), (2, .inl (10, 21)), (3, .inl (10, 29)), (4, .inr (.int x4))] [] σ (some (.inr (.int (qa_bi r.1)))) r.2 := by
  unfold qa_fL_law_895 at h
  try dsimp only at h
  refine qa_bn_do (pc' := 896) rfl rfl ?_
  refine qa_bn_do (pc' := 897) rfl rfl ?_
  refine qa_bn_do (pc' := 899) rfl rfl ?_
  refine qa_bn_do (pc' := 900) rfl rfl ?_
  refine qa_bn_do (pc' := 901) rfl rfl ?_
  rcases qa_ite h with ⟨_, h⟩ | ⟨hc112, h⟩
  · cases h
  refine qa_bn_ia rfl qa_dx_0_0 (Or.inr rfl) (Decidable.of_not_not hc112) ?_
  refine qa_bn_do (pc' := 903) rfl rfl ?_
  obtain ⟨c113, hc114, h⟩ := Option.bind_eq_some_iff.mp h
  refine qa_bn_cs (qa_tL_changeGlow hc114) rfl rfl rfl rfl rfl rfl rfl ?_
  refine qa_bn_do (pc' := 908) (lv' := [(5, _), (0, _), (1, _), (2, _), (3, _), (4, _)]) rfl rfl ?_
  refine qa_bn_do (pc' := 909) rfl rfl ?_
  refine qa_bn_do (pc' := 910) rfl rfl ?_
  refine qa_bn_do (pc' := 912) rfl rfl ?_
  refine qa_bn_do (pc' := 913) rfl rfl ?_
  refine qa_bn_do (pc' := 914) rfl rfl ?_
  rcases qa_ite h with ⟨_, h⟩ | ⟨hc115, h⟩
  · cases h
  refine qa_bn_ia rfl qa_dx_0_0 (Or.inr rfl) (Decidable.of_not_not hc115) ?_
  obtain ⟨c116, hc117, h⟩ := Option.bind_eq_some_iff.mp h
  refine qa_bn_cv (qa_tX10_changeGlow hc117) rfl rfl rfl rfl rfl rfl rfl qa_dx_10_21 ?_
  refine qa_bn_do (pc' := 920) (lv' := [(6, _), (5, _), (0, _), (1, _), (2, _), (3, _), (4, _)]) rfl rfl ?_
  refine qa_bn_do (pc' := 921) rfl rfl ?_
  refine qa_bn_cv (qa_tX10_thrown rfl) rfl rfl rfl rfl rfl rfl rfl qa_dx_10_21 ?_
  refine qa_bn_do (pc' := 926) rfl rfl ?_
  rcases qa_ite h with ⟨hc118, h⟩ | ⟨hc118, h⟩
  · refine qa_bn_1t (a := 931) (b := 929) hc118 rfl rfl ?_
    refine qa_bn_do (pc' := 933) rfl rfl ?_
    rcases qa_ite h with ⟨hc119, h⟩ | ⟨hc119, h⟩
    · refine qa_bn_1t (a := 948) (b := 936) hc119 rfl rfl ?_
      exact qa_bn_mono (N := N) (by omega) <| qa_bn_lw (qa_tL_law_948  K23 h) rfl rfl (And.intro rfl (And.intro rfl (And.intro rfl (And.intro rfl (And.intro rfl (trivial))))))
    · refine qa_bn_1f (a := 948) (b := 936) hc119 rfl rfl ?_
      refine qa_bn_do (pc' := 937) rfl rfl ?_
      refine qa_bn_do (pc' := 938) rfl rfl ?_
      refine qa_bn_ja rfl qa_dx_10_29 rfl ?_
      refine qa_bn_do (pc' := 941) rfl rfl ?_
      refine qa_bn_do (pc' := 942) rfl rfl ?_
      refine qa_bn_do (pc' := 943) rfl rfl ?_
      rcases qa_ite h with ⟨hc120, h⟩ | ⟨hc120, h⟩
      · refine qa_bn_1t (a := 948) (b := 946) hc120 rfl rfl ?_
        exact qa_bn_mono (N := N) (by omega) <| qa_bn_lw (qa_tL_law_948  K23 h) rfl rfl (And.intro rfl (And.intro rfl (And.intro rfl (And.intro rfl (And.intro rfl (trivial))))))
      · refine qa_bn_1f (a := 948) (b := 946) hc120 rfl rfl ?_
        refine qa_bn_do (pc' := 947) rfl rfl ?_
        cases h
        exact qa_bn_rb rfl rfl rfl
  · refine qa_bn_1f (a := 931) (b := 929) hc118 rfl rfl ?_
    refine qa_bn_do (pc' := 930) rfl rfl ?_
    cases h
    exact qa_bn_rb rfl rfl rfl
set_option maxRecDepth 1000000 in
theorem qa_tL_law_1004 {L N : Nat}   {k23 : Int32 → qa_T → Option (Bool × qa_T)} (K23 : ∀ (x4 : Int32) (σ : qa_T) (r : (Bool × qa_T)), k23 x4 σ = some r → qa_Bn L N qa_mL_law 23 [(0, .inl (0, 0)), (1, .inl (0, 1)), (2, .inl (10, 21)), (3, .inl (10, 29)), (4, .inr (.int x4))] [] σ (some (.inr (.int (qa_bi r.1)))) r.2) {x4 : Int32} {σ : qa_T} {r : (Bool × qa_T)} (h : qa_fL_law_1004 L k23 x4 σ = some r) : qa_Bn L N qa_mL_law 1004 [(0, .inl (0, 0)), (1, .inl (0, 1)), (2, .inl (10, 21)), (3, .inl (10, 29)), (4, .inr (.int x4))] [] σ (some (.inr (.int (qa_bi r.1)))) r.2 := by
  unfold qa_fL_law_1004 at h
  try dsimp only at h
  refine qa_bn_do (pc' := 2682) rfl rfl ?_
  exact qa_bn_mono (N := N) (by omega) <| qa_bn_lw (qa_tL_law_2682  K23 h) rfl rfl (And.intro rfl (And.intro rfl (And.intro rfl (And.intro rfl (And.intro rfl (trivial))))))
set_option maxRecDepth 1000000 in
theorem qa_tL_law_951 {L N : Nat}   {k23 : Int32 → qa_T → Option (Bool × qa_T)} (K23 : ∀ (x4 : Int32) (σ : qa_T) (r : (Bool × qa_T)), k23 x4 σ = some r → qa_Bn L N qa_mL_law 23 [(0, .inl (0, 0)), (1, .inl (0, 1)), (2, .inl (10, 21)), (3, .inl (10, 29)), (4, .inr (.int x4))] [] σ (some (.inr (.int (qa_bi r.1)))) r.2) {x4 : Int32} {σ : qa_T} {r : (Bool × qa_T)} (h : qa_fL_law_951 L k23 x4 σ = some r) : qa_Bn L (N + 1) qa_mL_law 951 [(0, .inl (0, 0)), (1, .inl (0, 1)), (2, .inl (10, 21)), (3, .inl (10, 29)), (4, .inr (.int x4))] [] σ (some (.inr (.int (qa_bi r.1)))) r.2 := by
  unfold qa_fL_law_951 at h
  try dsimp only at h
  refine qa_bn_do (pc' := 952) rfl rfl ?_
  refine qa_bn_do (pc' := 953) rfl rfl ?_
  refine qa_bn_do (pc' := 955) rfl rfl ?_
  refine qa_bn_do (pc' := 956) rfl rfl ?_
  refine qa_bn_do (pc' := 957) rfl rfl ?_
  rcases qa_ite h with ⟨_, h⟩ | ⟨hc122, h⟩
  · cases h
  refine qa_bn_ia rfl qa_dx_0_0 (Or.inr rfl) (Decidable.of_not_not hc122) ?_
  refine qa_bn_do (pc' := 959) rfl rfl ?_
  obtain ⟨c123, hc124, h⟩ := Option.bind_eq_some_iff.mp h
  refine qa_bn_cs (qa_tL_changePace hc124) rfl rfl rfl rfl rfl rfl rfl ?_
  refine qa_bn_do (pc' := 964) (lv' := [(5, _), (0, _), (1, _), (2, _), (3, _), (4, _)]) rfl rfl ?_
  refine qa_bn_do (pc' := 965) rfl rfl ?_
  refine qa_bn_do (pc' := 966) rfl rfl ?_
  refine qa_bn_do (pc' := 968) rfl rfl ?_
  refine qa_bn_do (pc' := 969) rfl rfl ?_
  refine qa_bn_do (pc' := 970) rfl rfl ?_
  rcases qa_ite h with ⟨_, h⟩ | ⟨hc125, h⟩
  · cases h
  refine qa_bn_ia rfl qa_dx_0_0 (Or.inr rfl) (Decidable.of_not_not hc125) ?_
  obtain ⟨c126, hc127, h⟩ := Option.bind_eq_some_iff.mp h
  refine qa_bn_cv (qa_tX10_changePace hc127) rfl rfl rfl rfl rfl rfl rfl qa_dx_10_21 ?_
  refine qa_bn_do (pc' := 976) (lv' := [(6, _), (5, _), (0, _), (1, _), (2, _), (3, _), (4, _)]) rfl rfl ?_
  refine qa_bn_do (pc' := 977) rfl rfl ?_
  refine qa_bn_cv (qa_tX10_thrown rfl) rfl rfl rfl rfl rfl rfl rfl qa_dx_10_21 ?_
  refine qa_bn_do (pc' := 982) rfl rfl ?_
  rcases qa_ite h with ⟨hc128, h⟩ | ⟨hc128, h⟩
  · refine qa_bn_1t (a := 987) (b := 985) hc128 rfl rfl ?_
    refine qa_bn_do (pc' := 989) rfl rfl ?_
    rcases qa_ite h with ⟨hc129, h⟩ | ⟨hc129, h⟩
    · refine qa_bn_1t (a := 1004) (b := 992) hc129 rfl rfl ?_
      exact qa_bn_mono (N := N) (by omega) <| qa_bn_lw (qa_tL_law_1004  K23 h) rfl rfl (And.intro rfl (And.intro rfl (And.intro rfl (And.intro rfl (And.intro rfl (trivial))))))
    · refine qa_bn_1f (a := 1004) (b := 992) hc129 rfl rfl ?_
      refine qa_bn_do (pc' := 993) rfl rfl ?_
      refine qa_bn_do (pc' := 994) rfl rfl ?_
      refine qa_bn_ja rfl qa_dx_10_29 rfl ?_
      refine qa_bn_do (pc' := 997) rfl rfl ?_
      refine qa_bn_do (pc' := 998) rfl rfl ?_
      refine qa_bn_do (pc' := 999) rfl rfl ?_
      rcases qa_ite h with ⟨hc130, h⟩ | ⟨hc130, h⟩
      · refine qa_bn_1t (a := 1004) (b := 1002) hc130 rfl rfl ?_
        exact qa_bn_mono (N := N) (by omega) <| qa_bn_lw (qa_tL_law_1004  K23 h) rfl rfl (And.intro rfl (And.intro rfl (And.intro rfl (And.intro rfl (And.intro rfl (trivial))))))
      · refine qa_bn_1f (a := 1004) (b := 1002) hc130 rfl rfl ?_
        refine qa_bn_do (pc' := 1003) rfl rfl ?_
        cases h
        exact qa_bn_rb rfl rfl rfl
  · refine qa_bn_1f (a := 987) (b := 985) hc128 rfl rfl ?_
    refine qa_bn_do (pc' := 986) rfl rfl ?_
    cases h
    exact qa_bn_rb rfl rfl rfl
set_option maxRecDepth 1000000 in
theorem qa_tL_law_1060 {L N : Nat}   {k23 : Int32 → qa_T → Option (Bool × qa_T)} (K23 : ∀ (x4 : Int32) (σ : qa_T) (r : (Bool × qa_T)), k23 x4 σ = some r → qa_Bn L N qa_mL_law 23 [(0, .inl (0, 0)), (1, .inl (0, 1)), (2, .inl (10, 21)), (3, .inl (10, 29)), (4, .inr (.int x4))] [] σ (some (.inr (.int (qa_bi r.1)))) r.2) {x4 : Int32} {σ : qa_T} {r : (Bool × qa_T)} (h : qa_fL_law_1060 L k23 x4 σ = some r) : qa_Bn L N qa_mL_law 1060 [(0, .inl (0, 0)), (1, .inl (0, 1)), (2, .inl (10, 21)), (3, .inl (10, 29)), (4, .inr (.int x4))] [] σ (some (.inr (.int (qa_bi r.1)))) r.2 := by
  unfold qa_fL_law_1060 at h
  try dsimp only at h
  refine qa_bn_do (pc' := 2682) rfl rfl ?_
  exact qa_bn_mono (N := N) (by omega) <| qa_bn_lw (qa_tL_law_2682  K23 h) rfl rfl (And.intro rfl (And.intro rfl (And.intro rfl (And.intro rfl (And.intro rfl (trivial))))))
set_option maxRecDepth 1000000 in
theorem qa_tL_law_1007 {L N : Nat}   {k23 : Int32 → qa_T → Option (Bool × qa_T)} (K23 : ∀ (x4 : Int32) (σ : qa_T) (r : (Bool × qa_T)), k23 x4 σ = some r → qa_Bn L N qa_mL_law 23 [(0, .inl (0, 0)), (1, .inl (0, 1)), (2, .inl (10, 21)), (3, .inl (10, 29)), (4, .inr (.int x4))] [] σ (some (.inr (.int (qa_bi r.1)))) r.2) {x4 : Int32} {σ : qa_T} {r : (Bool × qa_T)} (h : qa_fL_law_1007 L k23 x4 σ = some r) : qa_Bn L (N + 1) qa_mL_law 1007 [(0, .inl (0, 0)), (1, .inl (0, 1)), (2, .inl (10, 21)), (3, .inl (10, 29)), (4, .inr (.int x4))] [] σ (some (.inr (.int (qa_bi r.1)))) r.2 := by
  unfold qa_fL_law_1007 at h
  try dsimp only at h
  refine qa_bn_do (pc' := 1008) rfl rfl ?_
  refine qa_bn_do (pc' := 1009) rfl rfl ?_
  refine qa_bn_do (pc' := 1011) rfl rfl ?_
  refine qa_bn_do (pc' := 1012) rfl rfl ?_
  refine qa_bn_do (pc' := 1013) rfl rfl ?_
  rcases qa_ite h with ⟨_, h⟩ | ⟨hc132, h⟩
  · cases h
  refine qa_bn_ia rfl qa_dx_0_0 (Or.inr rfl) (Decidable.of_not_not hc132) ?_
  refine qa_bn_do (pc' := 1015) rfl rfl ?_
  obtain ⟨c133, hc134, h⟩ := Option.bind_eq_some_iff.mp h
  refine qa_bn_cs (qa_tL_append hc134) rfl rfl rfl rfl rfl rfl rfl ?_
  refine qa_bn_do (pc' := 1020) (lv' := [(5, _), (0, _), (1, _), (2, _), (3, _), (4, _)]) rfl rfl ?_
  refine qa_bn_do (pc' := 1021) rfl rfl ?_
  refine qa_bn_do (pc' := 1022) rfl rfl ?_
  refine qa_bn_do (pc' := 1024) rfl rfl ?_
  refine qa_bn_do (pc' := 1025) rfl rfl ?_
  refine qa_bn_do (pc' := 1026) rfl rfl ?_
  rcases qa_ite h with ⟨_, h⟩ | ⟨hc135, h⟩
  · cases h
  refine qa_bn_ia rfl qa_dx_0_0 (Or.inr rfl) (Decidable.of_not_not hc135) ?_
  obtain ⟨c136, hc137, h⟩ := Option.bind_eq_some_iff.mp h
  refine qa_bn_cv (qa_tX10_append hc137) rfl rfl rfl rfl rfl rfl rfl qa_dx_10_21 ?_
  refine qa_bn_do (pc' := 1032) (lv' := [(6, _), (5, _), (0, _), (1, _), (2, _), (3, _), (4, _)]) rfl rfl ?_
  refine qa_bn_do (pc' := 1033) rfl rfl ?_
  refine qa_bn_cv (qa_tX10_thrown rfl) rfl rfl rfl rfl rfl rfl rfl qa_dx_10_21 ?_
  refine qa_bn_do (pc' := 1038) rfl rfl ?_
  rcases qa_ite h with ⟨hc138, h⟩ | ⟨hc138, h⟩
  · refine qa_bn_1t (a := 1043) (b := 1041) hc138 rfl rfl ?_
    refine qa_bn_do (pc' := 1045) rfl rfl ?_
    rcases qa_ite h with ⟨hc139, h⟩ | ⟨hc139, h⟩
    · refine qa_bn_1t (a := 1060) (b := 1048) hc139 rfl rfl ?_
      exact qa_bn_mono (N := N) (by omega) <| qa_bn_lw (qa_tL_law_1060  K23 h) rfl rfl (And.intro rfl (And.intro rfl (And.intro rfl (And.intro rfl (And.intro rfl (trivial))))))
    · refine qa_bn_1f (a := 1060) (b := 1048) hc139 rfl rfl ?_
      refine qa_bn_do (pc' := 1049) rfl rfl ?_
      refine qa_bn_do (pc' := 1050) rfl rfl ?_
      refine qa_bn_ja rfl qa_dx_10_29 rfl ?_
      refine qa_bn_do (pc' := 1053) rfl rfl ?_
      refine qa_bn_do (pc' := 1054) rfl rfl ?_
      refine qa_bn_do (pc' := 1055) rfl rfl ?_
      rcases qa_ite h with ⟨hc140, h⟩ | ⟨hc140, h⟩
      · refine qa_bn_1t (a := 1060) (b := 1058) hc140 rfl rfl ?_
        exact qa_bn_mono (N := N) (by omega) <| qa_bn_lw (qa_tL_law_1060  K23 h) rfl rfl (And.intro rfl (And.intro rfl (And.intro rfl (And.intro rfl (And.intro rfl (trivial))))))
      · refine qa_bn_1f (a := 1060) (b := 1058) hc140 rfl rfl ?_
        refine qa_bn_do (pc' := 1059) rfl rfl ?_
        cases h
        exact qa_bn_rb rfl rfl rfl
  · refine qa_bn_1f (a := 1043) (b := 1041) hc138 rfl rfl ?_
    refine qa_bn_do (pc' := 1042) rfl rfl ?_
    cases h
    exact qa_bn_rb rfl rfl rfl
set_option maxRecDepth 1000000 in
theorem qa_tL_law_1063 {L N : Nat}   {k23 : Int32 → qa_T → Option (Bool × qa_T)} (K23 : ∀ (x4 : Int32) (σ : qa_T) (r : (Bool × qa_T)), k23 x4 σ = some r → qa_Bn L N qa_mL_law 23 [(0, .inl (0, 0)), (1, .inl (0, 1)), (2, .inl (10, 21)), (3, .inl (10, 29)), (4, .inr (.int x4))] [] σ (some (.inr (.int (qa_bi r.1)))) r.2) {x4 : Int32} {σ : qa_T} {r : (Bool × qa_T)} (h : qa_fL_law_1063 L k23 x4 σ = some r) : qa_Bn L (N + 1) qa_mL_law 1063 [(0, .inl (0, 0)), (1, .inl (0, 1)), (2, .inl (10, 21)), (3, .inl (10, 29)), (4, .inr (.int x4))] [] σ (some (.inr (.int (qa_bi r.1)))) r.2 := by
  unfold qa_fL_law_1063 at h
  try dsimp only at h
  refine qa_bn_do (pc' := 1064) rfl rfl ?_
  refine qa_bn_cv (qa_tX9_clearBuffer rfl) rfl rfl rfl rfl rfl rfl rfl qa_dx_0_1 ?_
  refine qa_bn_do (pc' := 1068) rfl rfl ?_
  refine qa_bn_cv (qa_tX10_clearBuffer rfl) rfl rfl rfl rfl rfl rfl rfl qa_dx_10_21 ?_
  rcases qa_ite h with ⟨hc144, h⟩ | ⟨hc144, h⟩
  · refine qa_bn_1t (a := 2682) (b := 1074) hc144 rfl rfl ?_
    exact qa_bn_mono (N := N) (by omega) <| qa_bn_lw (qa_tL_law_2682  K23 h) rfl rfl (And.intro rfl (And.intro rfl (And.intro rfl (And.intro rfl (And.intro rfl (trivial))))))
  · refine qa_bn_1f (a := 2682) (b := 1074) hc144 rfl rfl ?_
    refine qa_bn_do (pc' := 1075) rfl rfl ?_
    cases h
    exact qa_bn_rb rfl rfl rfl
set_option maxRecDepth 1000000 in
theorem qa_tL_law_1076 {L N : Nat}   {k23 : Int32 → qa_T → Option (Bool × qa_T)} (K23 : ∀ (x4 : Int32) (σ : qa_T) (r : (Bool × qa_T)), k23 x4 σ = some r → qa_Bn L N qa_mL_law 23 [(0, .inl (0, 0)), (1, .inl (0, 1)), (2, .inl (10, 21)), (3, .inl (10, 29)), (4, .inr (.int x4))] [] σ (some (.inr (.int (qa_bi r.1)))) r.2) {x4 : Int32} {σ : qa_T} {r : (Bool × qa_T)} (h : qa_fL_law_1076 L k23 x4 σ = some r) : qa_Bn L (N + 1) qa_mL_law 1076 [(0, .inl (0, 0)), (1, .inl (0, 1)), (2, .inl (10, 21)), (3, .inl (10, 29)), (4, .inr (.int x4))] [] σ (some (.inr (.int (qa_bi r.1)))) r.2 := by
  unfold qa_fL_law_1076 at h
  try dsimp only at h
  refine qa_bn_do (pc' := 1077) rfl rfl ?_
  obtain ⟨c146, hc147, h⟩ := Option.bind_eq_some_iff.mp h
  refine qa_bn_cv (qa_tX9_firstError hc147) rfl rfl rfl rfl rfl rfl rfl qa_dx_0_1 ?_
  refine qa_bn_do (pc' := 1081) rfl rfl ?_
  obtain ⟨c148, hc149, h⟩ := Option.bind_eq_some_iff.mp h
  refine qa_bn_cv (qa_tX10_firstError hc149) rfl rfl rfl rfl rfl rfl rfl qa_dx_10_21 ?_
  rcases qa_ite h with ⟨hc150, h⟩ | ⟨hc150, h⟩
  · refine qa_bn_1t (a := 2682) (b := 1087) hc150 rfl rfl ?_
    exact qa_bn_mono (N := N) (by omega) <| qa_bn_lw (qa_tL_law_2682  K23 h) rfl rfl (And.intro rfl (And.intro rfl (And.intro rfl (And.intro rfl (And.intro rfl (trivial))))))
  · refine qa_bn_1f (a := 2682) (b := 1087) hc150 rfl rfl ?_
    refine qa_bn_do (pc' := 1088) rfl rfl ?_
    cases h
    exact qa_bn_rb rfl rfl rfl
set_option maxRecDepth 1000000 in
theorem qa_tL_law_1130 {L N : Nat}   {k23 : Int32 → qa_T → Option (Bool × qa_T)} (K23 : ∀ (x4 : Int32) (σ : qa_T) (r : (Bool × qa_T)), k23 x4 σ = some r → qa_Bn L N qa_mL_law 23 [(0, .inl (0, 0)), (1, .inl (0, 1)), (2, .inl (10, 21)), (3, .inl (10, 29)), (4, .inr (.int x4))] [] σ (some (.inr (.int (qa_bi r.1)))) r.2) {x4 : Int32} {σ : qa_T} {r : (Bool × qa_T)} (h : qa_fL_law_1130 L k23 x4 σ = some r) : qa_Bn L N qa_mL_law 1130 [(0, .inl (0, 0)), (1, .inl (0, 1)), (2, .inl (10, 21)), (3, .inl (10, 29)), (4, .inr (.int x4))] [] σ (some (.inr (.int (qa_bi r.1)))) r.2 := by
  unfold qa_fL_law_1130 at h
  try dsimp only at h
  refine qa_bn_do (pc' := 2682) rfl rfl ?_
  exact qa_bn_mono (N := N) (by omega) <| qa_bn_lw (qa_tL_law_2682  K23 h) rfl rfl (And.intro rfl (And.intro rfl (And.intro rfl (And.intro rfl (And.intro rfl (trivial))))))
set_option maxRecDepth 1000000 in
theorem qa_tL_law_1089 {L N : Nat}   {k23 : Int32 → qa_T → Option (Bool × qa_T)} (K23 : ∀ (x4 : Int32) (σ : qa_T) (r : (Bool × qa_T)), k23 x4 σ = some r → qa_Bn L N qa_mL_law 23 [(0, .inl (0, 0)), (1, .inl (0, 1)), (2, .inl (10, 21)), (3, .inl (10, 29)), (4, .inr (.int x4))] [] σ (some (.inr (.int (qa_bi r.1)))) r.2) {x4 : Int32} {σ : qa_T} {r : (Bool × qa_T)} (h : qa_fL_law_1089 L k23 x4 σ = some r) : qa_Bn L (N + 1) qa_mL_law 1089 [(0, .inl (0, 0)), (1, .inl (0, 1)), (2, .inl (10, 21)), (3, .inl (10, 29)), (4, .inr (.int x4))] [] σ (some (.inr (.int (qa_bi r.1)))) r.2 := by
  unfold qa_fL_law_1089 at h
  try dsimp only at h
  refine qa_bn_do (pc' := 1090) rfl rfl ?_
  refine qa_bn_do (pc' := 1091) rfl rfl ?_
  obtain ⟨c152, hc153, h⟩ := Option.bind_eq_some_iff.mp h
  refine qa_bn_cs (qa_tL_follow hc153) rfl rfl rfl rfl rfl rfl rfl ?_
  refine qa_bn_do (pc' := 1096) (lv' := [(5, _), (0, _), (1, _), (2, _), (3, _), (4, _)]) rfl rfl ?_
  refine qa_bn_do (pc' := 1097) rfl rfl ?_
  obtain ⟨c154, hc155, h⟩ := Option.bind_eq_some_iff.mp h
  refine qa_bn_cv (qa_tX10_follow hc155) rfl rfl rfl rfl rfl rfl rfl qa_dx_10_21 ?_
  refine qa_bn_do (pc' := 1102) (lv' := [(6, _), (5, _), (0, _), (1, _), (2, _), (3, _), (4, _)]) rfl rfl ?_
  refine qa_bn_do (pc' := 1103) rfl rfl ?_
  refine qa_bn_cv (qa_tX10_thrown rfl) rfl rfl rfl rfl rfl rfl rfl qa_dx_10_21 ?_
  refine qa_bn_do (pc' := 1108) rfl rfl ?_
  rcases qa_ite h with ⟨hc156, h⟩ | ⟨hc156, h⟩
  · refine qa_bn_1t (a := 1113) (b := 1111) hc156 rfl rfl ?_
    refine qa_bn_do (pc' := 1115) rfl rfl ?_
    rcases qa_ite h with ⟨hc157, h⟩ | ⟨hc157, h⟩
    · refine qa_bn_1t (a := 1130) (b := 1118) hc157 rfl rfl ?_
      exact qa_bn_mono (N := N) (by omega) <| qa_bn_lw (qa_tL_law_1130  K23 h) rfl rfl (And.intro rfl (And.intro rfl (And.intro rfl (And.intro rfl (And.intro rfl (trivial))))))
    · refine qa_bn_1f (a := 1130) (b := 1118) hc157 rfl rfl ?_
      refine qa_bn_do (pc' := 1119) rfl rfl ?_
      refine qa_bn_do (pc' := 1120) rfl rfl ?_
      refine qa_bn_ja rfl qa_dx_10_29 rfl ?_
      refine qa_bn_do (pc' := 1123) rfl rfl ?_
      refine qa_bn_do (pc' := 1124) rfl rfl ?_
      refine qa_bn_do (pc' := 1125) rfl rfl ?_
      rcases qa_ite h with ⟨hc158, h⟩ | ⟨hc158, h⟩
      · refine qa_bn_1t (a := 1130) (b := 1128) hc158 rfl rfl ?_
        exact qa_bn_mono (N := N) (by omega) <| qa_bn_lw (qa_tL_law_1130  K23 h) rfl rfl (And.intro rfl (And.intro rfl (And.intro rfl (And.intro rfl (And.intro rfl (trivial))))))
      · refine qa_bn_1f (a := 1130) (b := 1128) hc158 rfl rfl ?_
        refine qa_bn_do (pc' := 1129) rfl rfl ?_
        cases h
        exact qa_bn_rb rfl rfl rfl
  · refine qa_bn_1f (a := 1113) (b := 1111) hc156 rfl rfl ?_
    refine qa_bn_do (pc' := 1112) rfl rfl ?_
    cases h
    exact qa_bn_rb rfl rfl rfl
set_option maxRecDepth 1000000 in
theorem qa_tL_law_1133 {L N : Nat}   {k23 : Int32 → qa_T → Option (Bool × qa_T)} (K23 : ∀ (x4 : Int32) (σ : qa_T) (r : (Bool × qa_T)), k23 x4 σ = some r → qa_Bn L N qa_mL_law 23 [(0, .inl (0, 0)), (1, .inl (0, 1)), (2, .inl (10, 21)), (3, .inl (10, 29)), (4, .inr (.int x4))] [] σ (some (.inr (.int (qa_bi r.1)))) r.2) {x4 : Int32} {σ : qa_T} {r : (Bool × qa_T)} (h : qa_fL_law_1133 L k23 x4 σ = some r) : qa_Bn L (N + 1) qa_mL_law 1133 [(0, .inl (0, 0)), (1, .inl (0, 1)), (2, .inl (10, 21)), (3, .inl (10, 29)), (4, .inr (.int x4))] [] σ (some (.inr (.int (qa_bi r.1)))) r.2 := by
  unfold qa_fL_law_1133 at h
  try dsimp only at h
  refine qa_bn_do (pc' := 1134) rfl rfl ?_
  refine qa_bn_do (pc' := 1135) rfl rfl ?_
  refine qa_bn_do (pc' := 1137) rfl rfl ?_
  refine qa_bn_do (pc' := 1138) rfl rfl ?_
  refine qa_bn_do (pc' := 1139) rfl rfl ?_
  rcases qa_ite h with ⟨_, h⟩ | ⟨hc160, h⟩
  · cases h
  refine qa_bn_ia rfl qa_dx_0_0 (Or.inr rfl) (Decidable.of_not_not hc160) ?_
  obtain ⟨c161, hc162, h⟩ := Option.bind_eq_some_iff.mp h
  refine qa_bn_cs (qa_tL_keep hc162) rfl rfl rfl rfl rfl rfl rfl ?_
  refine qa_bn_do (pc' := 1145) (lv' := [(5, _), (0, _), (1, _), (2, _), (3, _), (4, _)]) rfl rfl ?_
  refine qa_bn_do (pc' := 1146) rfl rfl ?_
  refine qa_bn_do (pc' := 1147) rfl rfl ?_
  refine qa_bn_do (pc' := 1149) rfl rfl ?_
  refine qa_bn_do (pc' := 1150) rfl rfl ?_
  refine qa_bn_do (pc' := 1151) rfl rfl ?_
  rcases qa_ite h with ⟨_, h⟩ | ⟨hc163, h⟩
  · cases h
  refine qa_bn_ia rfl qa_dx_0_0 (Or.inr rfl) (Decidable.of_not_not hc163) ?_
  obtain ⟨c164, hc165, h⟩ := Option.bind_eq_some_iff.mp h
  refine qa_bn_cv (qa_tX10_keep hc165) rfl rfl rfl rfl rfl rfl rfl qa_dx_10_21 ?_
  refine qa_bn_do (pc' := 1156) rfl rfl ?_
  refine qa_bn_cv (qa_tX10_thrown rfl) rfl rfl rfl rfl rfl rfl rfl qa_dx_10_21 ?_
  refine qa_bn_do (pc' := 1161) rfl rfl ?_
  rcases qa_ite h with ⟨hc166, h⟩ | ⟨hc166, h⟩
  · refine qa_bn_1t (a := 1166) (b := 1164) hc166 rfl rfl ?_
    refine qa_bn_do (pc' := 2682) rfl rfl ?_
    exact qa_bn_mono (N := N) (by omega) <| qa_bn_lw (qa_tL_law_2682  K23 h) rfl rfl (And.intro rfl (And.intro rfl (And.intro rfl (And.intro rfl (And.intro rfl (trivial))))))
  · refine qa_bn_1f (a := 1166) (b := 1164) hc166 rfl rfl ?_
    refine qa_bn_do (pc' := 1165) rfl rfl ?_
    cases h
    exact qa_bn_rb rfl rfl rfl
set_option maxRecDepth 1000000 in
theorem qa_tL_law_1169 {L N : Nat}   {k23 : Int32 → qa_T → Option (Bool × qa_T)} (K23 : ∀ (x4 : Int32) (σ : qa_T) (r : (Bool × qa_T)), k23 x4 σ = some r → qa_Bn L N qa_mL_law 23 [(0, .inl (0, 0)), (1, .inl (0, 1)), (2, .inl (10, 21)), (3, .inl (10, 29)), (4, .inr (.int x4))] [] σ (some (.inr (.int (qa_bi r.1)))) r.2) {x4 : Int32} {σ : qa_T} {r : (Bool × qa_T)} (h : qa_fL_law_1169 L k23 x4 σ = some r) : qa_Bn L (N + 1) qa_mL_law 1169 [(0, .inl (0, 0)), (1, .inl (0, 1)), (2, .inl (10, 21)), (3, .inl (10, 29)), (4, .inr (.int x4))] [] σ (some (.inr (.int (qa_bi r.1)))) r.2 := by
  unfold qa_fL_law_1169 at h
  try dsimp only at h
  refine qa_bn_do (pc' := 1170) rfl rfl ?_
  refine qa_bn_do (pc' := 1171) rfl rfl ?_
  refine qa_bn_do (pc' := 1173) rfl rfl ?_
  refine qa_bn_do (pc' := 1174) rfl rfl ?_
  refine qa_bn_do (pc' := 1175) rfl rfl ?_
  rcases qa_ite h with ⟨_, h⟩ | ⟨hc168, h⟩
  · cases h
  refine qa_bn_ia rfl qa_dx_0_0 (Or.inr rfl) (Decidable.of_not_not hc168) ?_
  obtain ⟨c169, hc170, h⟩ := Option.bind_eq_some_iff.mp h
  refine qa_bn_cs (qa_tL_goBack hc170) rfl rfl rfl rfl rfl rfl rfl ?_
  refine qa_bn_do (pc' := 1181) (lv' := [(5, _), (0, _), (1, _), (2, _), (3, _), (4, _)]) rfl rfl ?_
  refine qa_bn_do (pc' := 1182) rfl rfl ?_
  refine qa_bn_do (pc' := 1183) rfl rfl ?_
  refine qa_bn_do (pc' := 1185) rfl rfl ?_
  refine qa_bn_do (pc' := 1186) rfl rfl ?_
  refine qa_bn_do (pc' := 1187) rfl rfl ?_
  rcases qa_ite h with ⟨_, h⟩ | ⟨hc171, h⟩
  · cases h
  refine qa_bn_ia rfl qa_dx_0_0 (Or.inr rfl) (Decidable.of_not_not hc171) ?_
  obtain ⟨c172, hc173, h⟩ := Option.bind_eq_some_iff.mp h
  refine qa_bn_cv (qa_tX10_goBack hc173) rfl rfl rfl rfl rfl rfl rfl qa_dx_10_21 ?_
  refine qa_bn_do (pc' := 1192) rfl rfl ?_
  refine qa_bn_cv (qa_tX10_thrown rfl) rfl rfl rfl rfl rfl rfl rfl qa_dx_10_21 ?_
  refine qa_bn_do (pc' := 1197) rfl rfl ?_
  rcases qa_ite h with ⟨hc174, h⟩ | ⟨hc174, h⟩
  · refine qa_bn_1t (a := 1202) (b := 1200) hc174 rfl rfl ?_
    refine qa_bn_do (pc' := 2682) rfl rfl ?_
    exact qa_bn_mono (N := N) (by omega) <| qa_bn_lw (qa_tL_law_2682  K23 h) rfl rfl (And.intro rfl (And.intro rfl (And.intro rfl (And.intro rfl (And.intro rfl (trivial))))))
  · refine qa_bn_1f (a := 1202) (b := 1200) hc174 rfl rfl ?_
    refine qa_bn_do (pc' := 1201) rfl rfl ?_
    cases h
    exact qa_bn_rb rfl rfl rfl
set_option maxRecDepth 1000000 in
theorem qa_tL_law_1205 {L N : Nat}   {k23 : Int32 → qa_T → Option (Bool × qa_T)} (K23 : ∀ (x4 : Int32) (σ : qa_T) (r : (Bool × qa_T)), k23 x4 σ = some r → qa_Bn L N qa_mL_law 23 [(0, .inl (0, 0)), (1, .inl (0, 1)), (2, .inl (10, 21)), (3, .inl (10, 29)), (4, .inr (.int x4))] [] σ (some (.inr (.int (qa_bi r.1)))) r.2) {x4 : Int32} {σ : qa_T} {r : (Bool × qa_T)} (h : qa_fL_law_1205 L k23 x4 σ = some r) : qa_Bn L (N + 1) qa_mL_law 1205 [(0, .inl (0, 0)), (1, .inl (0, 1)), (2, .inl (10, 21)), (3, .inl (10, 29)), (4, .inr (.int x4))] [] σ (some (.inr (.int (qa_bi r.1)))) r.2 := by
  unfold qa_fL_law_1205 at h
  try dsimp only at h
  refine qa_bn_do (pc' := 1206) rfl rfl ?_
  obtain ⟨c176, hc177, h⟩ := Option.bind_eq_some_iff.mp h
  refine qa_bn_cs (qa_tL_undo hc177) rfl rfl rfl rfl rfl rfl rfl ?_
  refine qa_bn_do (pc' := 1211) (lv' := [(5, _), (0, _), (1, _), (2, _), (3, _), (4, _)]) rfl rfl ?_
  refine qa_bn_do (pc' := 1212) rfl rfl ?_
  obtain ⟨c178, hc179, h⟩ := Option.bind_eq_some_iff.mp h
  refine qa_bn_cv (qa_tX10_undo hc179) rfl rfl rfl rfl rfl rfl rfl qa_dx_10_21 ?_
  refine qa_bn_do (pc' := 1216) rfl rfl ?_
  refine qa_bn_cv (qa_tX10_thrown rfl) rfl rfl rfl rfl rfl rfl rfl qa_dx_10_21 ?_
  refine qa_bn_do (pc' := 1221) rfl rfl ?_
  rcases qa_ite h with ⟨hc180, h⟩ | ⟨hc180, h⟩
  · refine qa_bn_1t (a := 1226) (b := 1224) hc180 rfl rfl ?_
    refine qa_bn_do (pc' := 2682) rfl rfl ?_
    exact qa_bn_mono (N := N) (by omega) <| qa_bn_lw (qa_tL_law_2682  K23 h) rfl rfl (And.intro rfl (And.intro rfl (And.intro rfl (And.intro rfl (And.intro rfl (trivial))))))
  · refine qa_bn_1f (a := 1226) (b := 1224) hc180 rfl rfl ?_
    refine qa_bn_do (pc' := 1225) rfl rfl ?_
    cases h
    exact qa_bn_rb rfl rfl rfl
set_option maxRecDepth 1000000 in
theorem qa_tL_law_1229 {L N : Nat}   {k23 : Int32 → qa_T → Option (Bool × qa_T)} (K23 : ∀ (x4 : Int32) (σ : qa_T) (r : (Bool × qa_T)), k23 x4 σ = some r → qa_Bn L N qa_mL_law 23 [(0, .inl (0, 0)), (1, .inl (0, 1)), (2, .inl (10, 21)), (3, .inl (10, 29)), (4, .inr (.int x4))] [] σ (some (.inr (.int (qa_bi r.1)))) r.2) {x4 : Int32} {σ : qa_T} {r : (Bool × qa_T)} (h : qa_fL_law_1229 L k23 x4 σ = some r) : qa_Bn L (N + 1) qa_mL_law 1229 [(0, .inl (0, 0)), (1, .inl (0, 1)), (2, .inl (10, 21)), (3, .inl (10, 29)), (4, .inr (.int x4))] [] σ (some (.inr (.int (qa_bi r.1)))) r.2 := by
  unfold qa_fL_law_1229 at h
  try dsimp only at h
  refine qa_bn_do (pc' := 1230) rfl rfl ?_
  refine qa_bn_cv (qa_tX9_savedStates rfl) rfl rfl rfl rfl rfl rfl rfl qa_dx_0_1 ?_
  refine qa_bn_do (pc' := 1234) rfl rfl ?_
  refine qa_bn_cv (qa_tX10_savedStates rfl) rfl rfl rfl rfl rfl rfl rfl qa_dx_10_21 ?_
  rcases qa_ite h with ⟨hc183, h⟩ | ⟨hc183, h⟩
  · refine qa_bn_1t (a := 2682) (b := 1240) hc183 rfl rfl ?_
    exact qa_bn_mono (N := N) (by omega) <| qa_bn_lw (qa_tL_law_2682  K23 h) rfl rfl (And.intro rfl (And.intro rfl (And.intro rfl (And.intro rfl (And.intro rfl (trivial))))))
  · refine qa_bn_1f (a := 2682) (b := 1240) hc183 rfl rfl ?_
    refine qa_bn_do (pc' := 1241) rfl rfl ?_
    cases h
    exact qa_bn_rb rfl rfl rfl
set_option maxRecDepth 1000000 in
theorem qa_tL_law_1242 {L N : Nat}   {k23 : Int32 → qa_T → Option (Bool × qa_T)} (K23 : ∀ (x4 : Int32) (σ : qa_T) (r : (Bool × qa_T)), k23 x4 σ = some r → qa_Bn L N qa_mL_law 23 [(0, .inl (0, 0)), (1, .inl (0, 1)), (2, .inl (10, 21)), (3, .inl (10, 29)), (4, .inr (.int x4))] [] σ (some (.inr (.int (qa_bi r.1)))) r.2) {x4 : Int32} {σ : qa_T} {r : (Bool × qa_T)} (h : qa_fL_law_1242 L k23 x4 σ = some r) : qa_Bn L (N + 1) qa_mL_law 1242 [(0, .inl (0, 0)), (1, .inl (0, 1)), (2, .inl (10, 21)), (3, .inl (10, 29)), (4, .inr (.int x4))] [] σ (some (.inr (.int (qa_bi r.1)))) r.2 := by
  unfold qa_fL_law_1242 at h
  try dsimp only at h
  refine qa_bn_do (pc' := 1243) rfl rfl ?_
  refine qa_bn_cv (qa_tX9_slides rfl) rfl rfl rfl rfl rfl rfl rfl qa_dx_0_1 ?_
  refine qa_bn_do (pc' := 1247) rfl rfl ?_
  obtain ⟨c185, hc186, h⟩ := Option.bind_eq_some_iff.mp h
  refine qa_bn_cv (qa_tX10_slides hc186) rfl rfl rfl rfl rfl rfl rfl qa_dx_10_21 ?_
  rcases qa_ite h with ⟨hc187, h⟩ | ⟨hc187, h⟩
  · refine qa_bn_1t (a := 2682) (b := 1253) hc187 rfl rfl ?_
    exact qa_bn_mono (N := N) (by omega) <| qa_bn_lw (qa_tL_law_2682  K23 h) rfl rfl (And.intro rfl (And.intro rfl (And.intro rfl (And.intro rfl (And.intro rfl (trivial))))))
  · refine qa_bn_1f (a := 2682) (b := 1253) hc187 rfl rfl ?_
    refine qa_bn_do (pc' := 1254) rfl rfl ?_
    cases h
    exact qa_bn_rb rfl rfl rfl
set_option maxRecDepth 1000000 in
theorem qa_tL_law_1308 {L N : Nat}   {k23 : Int32 → qa_T → Option (Bool × qa_T)} (K23 : ∀ (x4 : Int32) (σ : qa_T) (r : (Bool × qa_T)), k23 x4 σ = some r → qa_Bn L N qa_mL_law 23 [(0, .inl (0, 0)), (1, .inl (0, 1)), (2, .inl (10, 21)), (3, .inl (10, 29)), (4, .inr (.int x4))] [] σ (some (.inr (.int (qa_bi r.1)))) r.2) {x4 : Int32} {σ : qa_T} {r : (Bool × qa_T)} (h : qa_fL_law_1308 L k23 x4 σ = some r) : qa_Bn L N qa_mL_law 1308 [(0, .inl (0, 0)), (1, .inl (0, 1)), (2, .inl (10, 21)), (3, .inl (10, 29)), (4, .inr (.int x4))] [] σ (some (.inr (.int (qa_bi r.1)))) r.2 := by
  unfold qa_fL_law_1308 at h
  try dsimp only at h
  refine qa_bn_do (pc' := 2682) rfl rfl ?_
  exact qa_bn_mono (N := N) (by omega) <| qa_bn_lw (qa_tL_law_2682  K23 h) rfl rfl (And.intro rfl (And.intro rfl (And.intro rfl (And.intro rfl (And.intro rfl (trivial))))))
set_option maxRecDepth 1000000 in
theorem qa_tL_law_1255 {L N : Nat}   {k23 : Int32 → qa_T → Option (Bool × qa_T)} (K23 : ∀ (x4 : Int32) (σ : qa_T) (r : (Bool × qa_T)), k23 x4 σ = some r → qa_Bn L N qa_mL_law 23 [(0, .inl (0, 0)), (1, .inl (0, 1)), (2, .inl (10, 21)), (3, .inl (10, 29)), (4, .inr (.int x4))] [] σ (some (.inr (.int (qa_bi r.1)))) r.2) {x4 : Int32} {σ : qa_T} {r : (Bool × qa_T)} (h : qa_fL_law_1255 L k23 x4 σ = some r) : qa_Bn L (N + 1) qa_mL_law 1255 [(0, .inl (0, 0)), (1, .inl (0, 1)), (2, .inl (10, 21)), (3, .inl (10, 29)), (4, .inr (.int x4))] [] σ (some (.inr (.int (qa_bi r.1)))) r.2 := by
  unfold qa_fL_law_1255 at h
  try dsimp only at h
  refine qa_bn_do (pc' := 1256) rfl rfl ?_
  refine qa_bn_do (pc' := 1257) rfl rfl ?_
  refine qa_bn_do (pc' := 1259) rfl rfl ?_
  refine qa_bn_do (pc' := 1260) rfl rfl ?_
  refine qa_bn_do (pc' := 1261) rfl rfl ?_
  rcases qa_ite h with ⟨_, h⟩ | ⟨hc189, h⟩
  · cases h
  refine qa_bn_ia rfl qa_dx_0_0 (Or.inr rfl) (Decidable.of_not_not hc189) ?_
  refine qa_bn_do (pc' := 1263) rfl rfl ?_
  obtain ⟨c190, hc191, h⟩ := Option.bind_eq_some_iff.mp h
  refine qa_bn_cs (qa_tL_costOf hc191) rfl rfl rfl rfl rfl rfl rfl ?_
  refine qa_bn_do (pc' := 1268) (lv' := [(5, _), (0, _), (1, _), (2, _), (3, _), (4, _)]) rfl rfl ?_
  refine qa_bn_do (pc' := 1269) rfl rfl ?_
  refine qa_bn_do (pc' := 1270) rfl rfl ?_
  refine qa_bn_do (pc' := 1272) rfl rfl ?_
  refine qa_bn_do (pc' := 1273) rfl rfl ?_
  refine qa_bn_do (pc' := 1274) rfl rfl ?_
  rcases qa_ite h with ⟨_, h⟩ | ⟨hc192, h⟩
  · cases h
  refine qa_bn_ia rfl qa_dx_0_0 (Or.inr rfl) (Decidable.of_not_not hc192) ?_
  obtain ⟨c193, hc194, h⟩ := Option.bind_eq_some_iff.mp h
  refine qa_bn_cv (qa_tX10_costOf hc194) rfl rfl rfl rfl rfl rfl rfl qa_dx_10_21 ?_
  refine qa_bn_do (pc' := 1280) (lv' := [(6, _), (5, _), (0, _), (1, _), (2, _), (3, _), (4, _)]) rfl rfl ?_
  refine qa_bn_do (pc' := 1281) rfl rfl ?_
  refine qa_bn_cv (qa_tX10_thrown rfl) rfl rfl rfl rfl rfl rfl rfl qa_dx_10_21 ?_
  refine qa_bn_do (pc' := 1286) rfl rfl ?_
  rcases qa_ite h with ⟨hc195, h⟩ | ⟨hc195, h⟩
  · refine qa_bn_1t (a := 1291) (b := 1289) hc195 rfl rfl ?_
    refine qa_bn_do (pc' := 1293) rfl rfl ?_
    rcases qa_ite h with ⟨hc196, h⟩ | ⟨hc196, h⟩
    · refine qa_bn_1t (a := 1308) (b := 1296) hc196 rfl rfl ?_
      exact qa_bn_mono (N := N) (by omega) <| qa_bn_lw (qa_tL_law_1308  K23 h) rfl rfl (And.intro rfl (And.intro rfl (And.intro rfl (And.intro rfl (And.intro rfl (trivial))))))
    · refine qa_bn_1f (a := 1308) (b := 1296) hc196 rfl rfl ?_
      refine qa_bn_do (pc' := 1297) rfl rfl ?_
      refine qa_bn_do (pc' := 1298) rfl rfl ?_
      refine qa_bn_ja rfl qa_dx_10_29 rfl ?_
      refine qa_bn_do (pc' := 1301) rfl rfl ?_
      refine qa_bn_do (pc' := 1302) rfl rfl ?_
      refine qa_bn_do (pc' := 1303) rfl rfl ?_
      rcases qa_ite h with ⟨hc197, h⟩ | ⟨hc197, h⟩
      · refine qa_bn_1t (a := 1308) (b := 1306) hc197 rfl rfl ?_
        exact qa_bn_mono (N := N) (by omega) <| qa_bn_lw (qa_tL_law_1308  K23 h) rfl rfl (And.intro rfl (And.intro rfl (And.intro rfl (And.intro rfl (And.intro rfl (trivial))))))
      · refine qa_bn_1f (a := 1308) (b := 1306) hc197 rfl rfl ?_
        refine qa_bn_do (pc' := 1307) rfl rfl ?_
        cases h
        exact qa_bn_rb rfl rfl rfl
  · refine qa_bn_1f (a := 1291) (b := 1289) hc195 rfl rfl ?_
    refine qa_bn_do (pc' := 1290) rfl rfl ?_
    cases h
    exact qa_bn_rb rfl rfl rfl
set_option maxRecDepth 1000000 in
theorem qa_tL_law_1364 {L N : Nat}   {k23 : Int32 → qa_T → Option (Bool × qa_T)} (K23 : ∀ (x4 : Int32) (σ : qa_T) (r : (Bool × qa_T)), k23 x4 σ = some r → qa_Bn L N qa_mL_law 23 [(0, .inl (0, 0)), (1, .inl (0, 1)), (2, .inl (10, 21)), (3, .inl (10, 29)), (4, .inr (.int x4))] [] σ (some (.inr (.int (qa_bi r.1)))) r.2) {x4 : Int32} {σ : qa_T} {r : (Bool × qa_T)} (h : qa_fL_law_1364 L k23 x4 σ = some r) : qa_Bn L N qa_mL_law 1364 [(0, .inl (0, 0)), (1, .inl (0, 1)), (2, .inl (10, 21)), (3, .inl (10, 29)), (4, .inr (.int x4))] [] σ (some (.inr (.int (qa_bi r.1)))) r.2 := by
  unfold qa_fL_law_1364 at h
  try dsimp only at h
  refine qa_bn_do (pc' := 2682) rfl rfl ?_
  exact qa_bn_mono (N := N) (by omega) <| qa_bn_lw (qa_tL_law_2682  K23 h) rfl rfl (And.intro rfl (And.intro rfl (And.intro rfl (And.intro rfl (And.intro rfl (trivial))))))
set_option maxRecDepth 1000000 in
theorem qa_tL_law_1311 {L N : Nat}   {k23 : Int32 → qa_T → Option (Bool × qa_T)} (K23 : ∀ (x4 : Int32) (σ : qa_T) (r : (Bool × qa_T)), k23 x4 σ = some r → qa_Bn L N qa_mL_law 23 [(0, .inl (0, 0)), (1, .inl (0, 1)), (2, .inl (10, 21)), (3, .inl (10, 29)), (4, .inr (.int x4))] [] σ (some (.inr (.int (qa_bi r.1)))) r.2) {x4 : Int32} {σ : qa_T} {r : (Bool × qa_T)} (h : qa_fL_law_1311 L k23 x4 σ = some r) : qa_Bn L (N + 1) qa_mL_law 1311 [(0, .inl (0, 0)), (1, .inl (0, 1)), (2, .inl (10, 21)), (3, .inl (10, 29)), (4, .inr (.int x4))] [] σ (some (.inr (.int (qa_bi r.1)))) r.2 := by
  unfold qa_fL_law_1311 at h
  try dsimp only at h
  refine qa_bn_do (pc' := 1312) rfl rfl ?_
  refine qa_bn_do (pc' := 1313) rfl rfl ?_
  refine qa_bn_do (pc' := 1315) rfl rfl ?_
  refine qa_bn_do (pc' := 1316) rfl rfl ?_
  refine qa_bn_do (pc' := 1317) rfl rfl ?_
  rcases qa_ite h with ⟨_, h⟩ | ⟨hc199, h⟩
  · cases h
  refine qa_bn_ia rfl qa_dx_0_0 (Or.inr rfl) (Decidable.of_not_not hc199) ?_
  refine qa_bn_do (pc' := 1319) rfl rfl ?_
  obtain ⟨c200, hc201, h⟩ := Option.bind_eq_some_iff.mp h
  refine qa_bn_cs (qa_tL_loadOf hc201) rfl rfl rfl rfl rfl rfl rfl ?_
  refine qa_bn_do (pc' := 1324) (lv' := [(5, _), (0, _), (1, _), (2, _), (3, _), (4, _)]) rfl rfl ?_
  refine qa_bn_do (pc' := 1325) rfl rfl ?_
  refine qa_bn_do (pc' := 1326) rfl rfl ?_
  refine qa_bn_do (pc' := 1328) rfl rfl ?_
  refine qa_bn_do (pc' := 1329) rfl rfl ?_
  refine qa_bn_do (pc' := 1330) rfl rfl ?_
  rcases qa_ite h with ⟨_, h⟩ | ⟨hc202, h⟩
  · cases h
  refine qa_bn_ia rfl qa_dx_0_0 (Or.inr rfl) (Decidable.of_not_not hc202) ?_
  obtain ⟨c203, hc204, h⟩ := Option.bind_eq_some_iff.mp h
  refine qa_bn_cv (qa_tX10_loadOf hc204) rfl rfl rfl rfl rfl rfl rfl qa_dx_10_21 ?_
  refine qa_bn_do (pc' := 1336) (lv' := [(6, _), (5, _), (0, _), (1, _), (2, _), (3, _), (4, _)]) rfl rfl ?_
  refine qa_bn_do (pc' := 1337) rfl rfl ?_
  refine qa_bn_cv (qa_tX10_thrown rfl) rfl rfl rfl rfl rfl rfl rfl qa_dx_10_21 ?_
  refine qa_bn_do (pc' := 1342) rfl rfl ?_
  rcases qa_ite h with ⟨hc205, h⟩ | ⟨hc205, h⟩
  · refine qa_bn_1t (a := 1347) (b := 1345) hc205 rfl rfl ?_
    refine qa_bn_do (pc' := 1349) rfl rfl ?_
    rcases qa_ite h with ⟨hc206, h⟩ | ⟨hc206, h⟩
    · refine qa_bn_1t (a := 1364) (b := 1352) hc206 rfl rfl ?_
      exact qa_bn_mono (N := N) (by omega) <| qa_bn_lw (qa_tL_law_1364  K23 h) rfl rfl (And.intro rfl (And.intro rfl (And.intro rfl (And.intro rfl (And.intro rfl (trivial))))))
    · refine qa_bn_1f (a := 1364) (b := 1352) hc206 rfl rfl ?_
      refine qa_bn_do (pc' := 1353) rfl rfl ?_
      refine qa_bn_do (pc' := 1354) rfl rfl ?_
      refine qa_bn_ja rfl qa_dx_10_29 rfl ?_
      refine qa_bn_do (pc' := 1357) rfl rfl ?_
      refine qa_bn_do (pc' := 1358) rfl rfl ?_
      refine qa_bn_do (pc' := 1359) rfl rfl ?_
      rcases qa_ite h with ⟨hc207, h⟩ | ⟨hc207, h⟩
      · refine qa_bn_1t (a := 1364) (b := 1362) hc207 rfl rfl ?_
        exact qa_bn_mono (N := N) (by omega) <| qa_bn_lw (qa_tL_law_1364  K23 h) rfl rfl (And.intro rfl (And.intro rfl (And.intro rfl (And.intro rfl (And.intro rfl (trivial))))))
      · refine qa_bn_1f (a := 1364) (b := 1362) hc207 rfl rfl ?_
        refine qa_bn_do (pc' := 1363) rfl rfl ?_
        cases h
        exact qa_bn_rb rfl rfl rfl
  · refine qa_bn_1f (a := 1347) (b := 1345) hc205 rfl rfl ?_
    refine qa_bn_do (pc' := 1346) rfl rfl ?_
    cases h
    exact qa_bn_rb rfl rfl rfl
set_option maxRecDepth 1000000 in
theorem qa_tL_law_1420 {L N : Nat}   {k23 : Int32 → qa_T → Option (Bool × qa_T)} (K23 : ∀ (x4 : Int32) (σ : qa_T) (r : (Bool × qa_T)), k23 x4 σ = some r → qa_Bn L N qa_mL_law 23 [(0, .inl (0, 0)), (1, .inl (0, 1)), (2, .inl (10, 21)), (3, .inl (10, 29)), (4, .inr (.int x4))] [] σ (some (.inr (.int (qa_bi r.1)))) r.2) {x4 : Int32} {σ : qa_T} {r : (Bool × qa_T)} (h : qa_fL_law_1420 L k23 x4 σ = some r) : qa_Bn L N qa_mL_law 1420 [(0, .inl (0, 0)), (1, .inl (0, 1)), (2, .inl (10, 21)), (3, .inl (10, 29)), (4, .inr (.int x4))] [] σ (some (.inr (.int (qa_bi r.1)))) r.2 := by
  unfold qa_fL_law_1420 at h
  try dsimp only at h
  refine qa_bn_do (pc' := 2682) rfl rfl ?_
  exact qa_bn_mono (N := N) (by omega) <| qa_bn_lw (qa_tL_law_2682  K23 h) rfl rfl (And.intro rfl (And.intro rfl (And.intro rfl (And.intro rfl (And.intro rfl (trivial))))))
set_option maxRecDepth 1000000 in
theorem qa_tL_law_1367 {L N : Nat}   {k23 : Int32 → qa_T → Option (Bool × qa_T)} (K23 : ∀ (x4 : Int32) (σ : qa_T) (r : (Bool × qa_T)), k23 x4 σ = some r → qa_Bn L N qa_mL_law 23 [(0, .inl (0, 0)), (1, .inl (0, 1)), (2, .inl (10, 21)), (3, .inl (10, 29)), (4, .inr (.int x4))] [] σ (some (.inr (.int (qa_bi r.1)))) r.2) {x4 : Int32} {σ : qa_T} {r : (Bool × qa_T)} (h : qa_fL_law_1367 L k23 x4 σ = some r) : qa_Bn L (N + 1) qa_mL_law 1367 [(0, .inl (0, 0)), (1, .inl (0, 1)), (2, .inl (10, 21)), (3, .inl (10, 29)), (4, .inr (.int x4))] [] σ (some (.inr (.int (qa_bi r.1)))) r.2 := by
  unfold qa_fL_law_1367 at h
  try dsimp only at h
  refine qa_bn_do (pc' := 1368) rfl rfl ?_
  refine qa_bn_do (pc' := 1369) rfl rfl ?_
  refine qa_bn_do (pc' := 1371) rfl rfl ?_
  refine qa_bn_do (pc' := 1372) rfl rfl ?_
  refine qa_bn_do (pc' := 1373) rfl rfl ?_
  rcases qa_ite h with ⟨_, h⟩ | ⟨hc209, h⟩
  · cases h
  refine qa_bn_ia rfl qa_dx_0_0 (Or.inr rfl) (Decidable.of_not_not hc209) ?_
  refine qa_bn_do (pc' := 1375) rfl rfl ?_
  obtain ⟨c210, hc211, h⟩ := Option.bind_eq_some_iff.mp h
  refine qa_bn_cs (qa_tL_fadeOf hc211) rfl rfl rfl rfl rfl rfl rfl ?_
  refine qa_bn_do (pc' := 1380) (lv' := [(5, _), (0, _), (1, _), (2, _), (3, _), (4, _)]) rfl rfl ?_
  refine qa_bn_do (pc' := 1381) rfl rfl ?_
  refine qa_bn_do (pc' := 1382) rfl rfl ?_
  refine qa_bn_do (pc' := 1384) rfl rfl ?_
  refine qa_bn_do (pc' := 1385) rfl rfl ?_
  refine qa_bn_do (pc' := 1386) rfl rfl ?_
  rcases qa_ite h with ⟨_, h⟩ | ⟨hc212, h⟩
  · cases h
  refine qa_bn_ia rfl qa_dx_0_0 (Or.inr rfl) (Decidable.of_not_not hc212) ?_
  obtain ⟨c213, hc214, h⟩ := Option.bind_eq_some_iff.mp h
  refine qa_bn_cv (qa_tX10_fadeOf hc214) rfl rfl rfl rfl rfl rfl rfl qa_dx_10_21 ?_
  refine qa_bn_do (pc' := 1392) (lv' := [(6, _), (5, _), (0, _), (1, _), (2, _), (3, _), (4, _)]) rfl rfl ?_
  refine qa_bn_do (pc' := 1393) rfl rfl ?_
  refine qa_bn_cv (qa_tX10_thrown rfl) rfl rfl rfl rfl rfl rfl rfl qa_dx_10_21 ?_
  refine qa_bn_do (pc' := 1398) rfl rfl ?_
  rcases qa_ite h with ⟨hc215, h⟩ | ⟨hc215, h⟩
  · refine qa_bn_1t (a := 1403) (b := 1401) hc215 rfl rfl ?_
    refine qa_bn_do (pc' := 1405) rfl rfl ?_
    rcases qa_ite h with ⟨hc216, h⟩ | ⟨hc216, h⟩
    · refine qa_bn_1t (a := 1420) (b := 1408) hc216 rfl rfl ?_
      exact qa_bn_mono (N := N) (by omega) <| qa_bn_lw (qa_tL_law_1420  K23 h) rfl rfl (And.intro rfl (And.intro rfl (And.intro rfl (And.intro rfl (And.intro rfl (trivial))))))
    · refine qa_bn_1f (a := 1420) (b := 1408) hc216 rfl rfl ?_
      refine qa_bn_do (pc' := 1409) rfl rfl ?_
      refine qa_bn_do (pc' := 1410) rfl rfl ?_
      refine qa_bn_ja rfl qa_dx_10_29 rfl ?_
      refine qa_bn_do (pc' := 1413) rfl rfl ?_
      refine qa_bn_do (pc' := 1414) rfl rfl ?_
      refine qa_bn_do (pc' := 1415) rfl rfl ?_
      rcases qa_ite h with ⟨hc217, h⟩ | ⟨hc217, h⟩
      · refine qa_bn_1t (a := 1420) (b := 1418) hc217 rfl rfl ?_
        exact qa_bn_mono (N := N) (by omega) <| qa_bn_lw (qa_tL_law_1420  K23 h) rfl rfl (And.intro rfl (And.intro rfl (And.intro rfl (And.intro rfl (And.intro rfl (trivial))))))
      · refine qa_bn_1f (a := 1420) (b := 1418) hc217 rfl rfl ?_
        refine qa_bn_do (pc' := 1419) rfl rfl ?_
        cases h
        exact qa_bn_rb rfl rfl rfl
  · refine qa_bn_1f (a := 1403) (b := 1401) hc215 rfl rfl ?_
    refine qa_bn_do (pc' := 1402) rfl rfl ?_
    cases h
    exact qa_bn_rb rfl rfl rfl
set_option maxRecDepth 1000000 in
theorem qa_tL_law_1483 {L N : Nat}   {k23 : Int32 → qa_T → Option (Bool × qa_T)} (K23 : ∀ (x4 : Int32) (σ : qa_T) (r : (Bool × qa_T)), k23 x4 σ = some r → qa_Bn L N qa_mL_law 23 [(0, .inl (0, 0)), (1, .inl (0, 1)), (2, .inl (10, 21)), (3, .inl (10, 29)), (4, .inr (.int x4))] [] σ (some (.inr (.int (qa_bi r.1)))) r.2) {x4 : Int32} {σ : qa_T} {r : (Bool × qa_T)} (h : qa_fL_law_1483 L k23 x4 σ = some r) : qa_Bn L N qa_mL_law 1483 [(0, .inl (0, 0)), (1, .inl (0, 1)), (2, .inl (10, 21)), (3, .inl (10, 29)), (4, .inr (.int x4))] [] σ (some (.inr (.int (qa_bi r.1)))) r.2 := by
  unfold qa_fL_law_1483 at h
  try dsimp only at h
  refine qa_bn_do (pc' := 2682) rfl rfl ?_
  exact qa_bn_mono (N := N) (by omega) <| qa_bn_lw (qa_tL_law_2682  K23 h) rfl rfl (And.intro rfl (And.intro rfl (And.intro rfl (And.intro rfl (And.intro rfl (trivial))))))
set_option maxRecDepth 1000000 in
theorem qa_tL_law_1477 {L N : Nat}   {k23 : Int32 → qa_T → Option (Bool × qa_T)} (K23 : ∀ (x4 : Int32) (σ : qa_T) (r : (Bool × qa_T)), k23 x4 σ = some r → qa_Bn L N qa_mL_law 23 [(0, .inl (0, 0)), (1, .inl (0, 1)), (2, .inl (10, 21)), (3, .inl (10, 29)), (4, .inr (.int x4))] [] σ (some (.inr (.int (qa_bi r.1)))) r.2) {x4 : Int32} {y0 : Int64} {y1 : Int64} {σ : qa_T} {r : (Bool × qa_T)} (h : qa_fL_law_1477 L k23 x4 y0 y1 σ = some r) : qa_Bn L N qa_mL_law 1477 [(0, .inl (0, 0)), (1, .inl (0, 1)), (2, .inl (10, 21)), (3, .inl (10, 29)), (4, .inr (.int x4))] [.inr (.long y0), .inr (.long y1)] σ (some (.inr (.int (qa_bi r.1)))) r.2 := by
  unfold qa_fL_law_1477 at h
  try dsimp only at h
  refine qa_bn_do (pc' := 1478) rfl rfl ?_
  rcases qa_ite h with ⟨hc229, h⟩ | ⟨hc229, h⟩
  · refine qa_bn_1t (a := 1483) (b := 1481) hc229 rfl rfl ?_
    exact qa_bn_mono (N := N) (by omega) <| qa_bn_lw (qa_tL_law_1483  K23 h) rfl rfl (And.intro rfl (And.intro rfl (And.intro rfl (And.intro rfl (And.intro rfl (trivial))))))
  · refine qa_bn_1f (a := 1483) (b := 1481) hc229 rfl rfl ?_
    refine qa_bn_do (pc' := 1482) rfl rfl ?_
    cases h
    exact qa_bn_rb rfl rfl rfl
set_option maxRecDepth 1000000 in
theorem qa_tL_law_1423 {L N : Nat}   {k23 : Int32 → qa_T → Option (Bool × qa_T)} (K23 : ∀ (x4 : Int32) (σ : qa_T) (r : (Bool × qa_T)), k23 x4 σ = some r → qa_Bn L N qa_mL_law 23 [(0, .inl (0, 0)), (1, .inl (0, 1)), (2, .inl (10, 21)), (3, .inl (10, 29)), (4, .inr (.int x4))] [] σ (some (.inr (.int (qa_bi r.1)))) r.2) {x4 : Int32} {σ : qa_T} {r : (Bool × qa_T)} (h : qa_fL_law_1423 L k23 x4 σ = some r) : qa_Bn L (N + 1) qa_mL_law 1423 [(0, .inl (0, 0)), (1, .inl (0, 1)), (2, .inl (10, 21)), (3, .inl (10, 29)), (4, .inr (.int x4))] [] σ (some (.inr (.int (qa_bi r.1)))) r.2 := by
  unfold qa_fL_law_1423 at h
  try dsimp only at h
  refine qa_bn_do (pc' := 1424) rfl rfl ?_
  refine qa_bn_do (pc' := 1425) rfl rfl ?_
  refine qa_bn_do (pc' := 1427) rfl rfl ?_
  refine qa_bn_do (pc' := 1428) rfl rfl ?_
  refine qa_bn_do (pc' := 1429) rfl rfl ?_
  rcases qa_ite h with ⟨_, h⟩ | ⟨hc219, h⟩
  · cases h
  refine qa_bn_ia rfl qa_dx_0_0 (Or.inr rfl) (Decidable.of_not_not hc219) ?_
  refine qa_bn_do (pc' := 1431) rfl rfl ?_
  obtain ⟨c220, hc221, h⟩ := Option.bind_eq_some_iff.mp h
  refine qa_bn_cs (qa_tL_isLoaded hc221) rfl rfl rfl rfl rfl rfl rfl ?_
  refine qa_bn_do (pc' := 1436) (lv' := [(5, _), (0, _), (1, _), (2, _), (3, _), (4, _)]) rfl rfl ?_
  refine qa_bn_do (pc' := 1437) rfl rfl ?_
  refine qa_bn_do (pc' := 1438) rfl rfl ?_
  refine qa_bn_do (pc' := 1440) rfl rfl ?_
  refine qa_bn_do (pc' := 1441) rfl rfl ?_
  refine qa_bn_do (pc' := 1442) rfl rfl ?_
  rcases qa_ite h with ⟨_, h⟩ | ⟨hc222, h⟩
  · cases h
  refine qa_bn_ia rfl qa_dx_0_0 (Or.inr rfl) (Decidable.of_not_not hc222) ?_
  obtain ⟨c223, hc224, h⟩ := Option.bind_eq_some_iff.mp h
  refine qa_bn_cv (qa_tX10_isLoaded hc224) rfl rfl rfl rfl rfl rfl rfl qa_dx_10_21 ?_
  refine qa_bn_do (pc' := 1448) (lv' := [(6, _), (5, _), (0, _), (1, _), (2, _), (3, _), (4, _)]) rfl rfl ?_
  refine qa_bn_do (pc' := 1449) rfl rfl ?_
  refine qa_bn_cv (qa_tX10_thrown rfl) rfl rfl rfl rfl rfl rfl rfl qa_dx_10_21 ?_
  refine qa_bn_do (pc' := 1454) rfl rfl ?_
  rcases qa_ite h with ⟨hc226, h⟩ | ⟨hc226, h⟩
  · refine qa_bn_1t (a := 1459) (b := 1457) hc226 rfl rfl ?_
    refine qa_bn_do (pc' := 1461) rfl rfl ?_
    rcases qa_ite h with ⟨hc227, h⟩ | ⟨hc227, h⟩
    · refine qa_bn_1t (a := 1483) (b := 1464) hc227 rfl rfl ?_
      exact qa_bn_mono (N := N) (by omega) <| qa_bn_lw (qa_tL_law_1483  K23 h) rfl rfl (And.intro rfl (And.intro rfl (And.intro rfl (And.intro rfl (And.intro rfl (trivial))))))
    · refine qa_bn_1f (a := 1483) (b := 1464) hc227 rfl rfl ?_
      refine qa_bn_do (pc' := 1465) rfl rfl ?_
      refine qa_bn_do (pc' := 1466) rfl rfl ?_
      refine qa_bn_ja rfl qa_dx_10_29 rfl ?_
      refine qa_bn_do (pc' := 1469) rfl rfl ?_
      rcases qa_ite h with ⟨hc228, h⟩ | ⟨hc228, h⟩
      · refine qa_bn_1t (a := 1476) (b := 1472) hc228 rfl rfl ?_
        refine qa_bn_do (pc' := 1477) rfl rfl ?_
        exact qa_bn_mono (N := N) (by omega) <| qa_bn_lw (qa_tL_law_1477  K23 h) rfl rfl (And.intro rfl (And.intro rfl (And.intro rfl (And.intro rfl (And.intro rfl (trivial))))))
      · refine qa_bn_1f (a := 1476) (b := 1472) hc228 rfl rfl ?_
        refine qa_bn_do (pc' := 1473) rfl rfl ?_
        refine qa_bn_do (pc' := 1477) rfl rfl ?_
        exact qa_bn_mono (N := N) (by omega) <| qa_bn_lw (qa_tL_law_1477  K23 h) rfl rfl (And.intro rfl (And.intro rfl (And.intro rfl (And.intro rfl (And.intro rfl (trivial))))))
  · refine qa_bn_1f (a := 1459) (b := 1457) hc226 rfl rfl ?_
    refine qa_bn_do (pc' := 1458) rfl rfl ?_
    cases h
    exact qa_bn_rb rfl rfl rfl
set_option maxRecDepth 1000000 in
theorem qa_tL_law_1546 {L N : Nat}   {k23 : Int32 → qa_T → Option (Bool × qa_T)} (K23 : ∀ (x4 : Int32) (σ : qa_T) (r : (Bool × qa_T)), k23 x4 σ = some r → qa_Bn L N qa_mL_law 23 [(0, .inl (0, 0)), (1, .inl (0, 1)), (2, .inl (10, 21)), (3, .inl (10, 29)), (4, .inr (.int x4))] [] σ (some (.inr (.int (qa_bi r.1)))) r.2) {x4 : Int32} {σ : qa_T} {r : (Bool × qa_T)} (h : qa_fL_law_1546 L k23 x4 σ = some r) : qa_Bn L N qa_mL_law 1546 [(0, .inl (0, 0)), (1, .inl (0, 1)), (2, .inl (10, 21)), (3, .inl (10, 29)), (4, .inr (.int x4))] [] σ (some (.inr (.int (qa_bi r.1)))) r.2 := by
  unfold qa_fL_law_1546 at h
  try dsimp only at h
  refine qa_bn_do (pc' := 2682) rfl rfl ?_
  exact qa_bn_mono (N := N) (by omega) <| qa_bn_lw (qa_tL_law_2682  K23 h) rfl rfl (And.intro rfl (And.intro rfl (And.intro rfl (And.intro rfl (And.intro rfl (trivial))))))
set_option maxRecDepth 1000000 in
theorem qa_tL_law_1540 {L N : Nat}   {k23 : Int32 → qa_T → Option (Bool × qa_T)} (K23 : ∀ (x4 : Int32) (σ : qa_T) (r : (Bool × qa_T)), k23 x4 σ = some r → qa_Bn L N qa_mL_law 23 [(0, .inl (0, 0)), (1, .inl (0, 1)), (2, .inl (10, 21)), (3, .inl (10, 29)), (4, .inr (.int x4))] [] σ (some (.inr (.int (qa_bi r.1)))) r.2) {x4 : Int32} {y0 : Int64} {y1 : Int64} {σ : qa_T} {r : (Bool × qa_T)} (h : qa_fL_law_1540 L k23 x4 y0 y1 σ = some r) : qa_Bn L N qa_mL_law 1540 [(0, .inl (0, 0)), (1, .inl (0, 1)), (2, .inl (10, 21)), (3, .inl (10, 29)), (4, .inr (.int x4))] [.inr (.long y0), .inr (.long y1)] σ (some (.inr (.int (qa_bi r.1)))) r.2 := by
  unfold qa_fL_law_1540 at h
  try dsimp only at h
  refine qa_bn_do (pc' := 1541) rfl rfl ?_
  rcases qa_ite h with ⟨hc240, h⟩ | ⟨hc240, h⟩
  · refine qa_bn_1t (a := 1546) (b := 1544) hc240 rfl rfl ?_
    exact qa_bn_mono (N := N) (by omega) <| qa_bn_lw (qa_tL_law_1546  K23 h) rfl rfl (And.intro rfl (And.intro rfl (And.intro rfl (And.intro rfl (And.intro rfl (trivial))))))
  · refine qa_bn_1f (a := 1546) (b := 1544) hc240 rfl rfl ?_
    refine qa_bn_do (pc' := 1545) rfl rfl ?_
    cases h
    exact qa_bn_rb rfl rfl rfl
set_option maxRecDepth 1000000 in
theorem qa_tL_law_1486 {L N : Nat}   {k23 : Int32 → qa_T → Option (Bool × qa_T)} (K23 : ∀ (x4 : Int32) (σ : qa_T) (r : (Bool × qa_T)), k23 x4 σ = some r → qa_Bn L N qa_mL_law 23 [(0, .inl (0, 0)), (1, .inl (0, 1)), (2, .inl (10, 21)), (3, .inl (10, 29)), (4, .inr (.int x4))] [] σ (some (.inr (.int (qa_bi r.1)))) r.2) {x4 : Int32} {σ : qa_T} {r : (Bool × qa_T)} (h : qa_fL_law_1486 L k23 x4 σ = some r) : qa_Bn L (N + 1) qa_mL_law 1486 [(0, .inl (0, 0)), (1, .inl (0, 1)), (2, .inl (10, 21)), (3, .inl (10, 29)), (4, .inr (.int x4))] [] σ (some (.inr (.int (qa_bi r.1)))) r.2 := by
  unfold qa_fL_law_1486 at h
  try dsimp only at h
  refine qa_bn_do (pc' := 1487) rfl rfl ?_
  refine qa_bn_do (pc' := 1488) rfl rfl ?_
  refine qa_bn_do (pc' := 1490) rfl rfl ?_
  refine qa_bn_do (pc' := 1491) rfl rfl ?_
  refine qa_bn_do (pc' := 1492) rfl rfl ?_
  rcases qa_ite h with ⟨_, h⟩ | ⟨hc231, h⟩
  · cases h
  refine qa_bn_ia rfl qa_dx_0_0 (Or.inr rfl) (Decidable.of_not_not hc231) ?_
  refine qa_bn_do (pc' := 1494) rfl rfl ?_
  obtain ⟨c232, hc233, h⟩ := Option.bind_eq_some_iff.mp h
  refine qa_bn_cs (qa_tL_isOnShow hc233) rfl rfl rfl rfl rfl rfl rfl ?_
  refine qa_bn_do (pc' := 1499) (lv' := [(5, _), (0, _), (1, _), (2, _), (3, _), (4, _)]) rfl rfl ?_
  refine qa_bn_do (pc' := 1500) rfl rfl ?_
  refine qa_bn_do (pc' := 1501) rfl rfl ?_
  refine qa_bn_do (pc' := 1503) rfl rfl ?_
  refine qa_bn_do (pc' := 1504) rfl rfl ?_
  refine qa_bn_do (pc' := 1505) rfl rfl ?_
  rcases qa_ite h with ⟨_, h⟩ | ⟨hc234, h⟩
  · cases h
  refine qa_bn_ia rfl qa_dx_0_0 (Or.inr rfl) (Decidable.of_not_not hc234) ?_
  refine qa_bn_cv (qa_tX10_isOnShow rfl) rfl rfl rfl rfl rfl rfl rfl qa_dx_10_21 ?_
  refine qa_bn_do (pc' := 1511) (lv' := [(6, _), (5, _), (0, _), (1, _), (2, _), (3, _), (4, _)]) rfl rfl ?_
  refine qa_bn_do (pc' := 1512) rfl rfl ?_
  refine qa_bn_cv (qa_tX10_thrown rfl) rfl rfl rfl rfl rfl rfl rfl qa_dx_10_21 ?_
  refine qa_bn_do (pc' := 1517) rfl rfl ?_
  rcases qa_ite h with ⟨hc237, h⟩ | ⟨hc237, h⟩
  · refine qa_bn_1t (a := 1522) (b := 1520) hc237 rfl rfl ?_
    refine qa_bn_do (pc' := 1524) rfl rfl ?_
    rcases qa_ite h with ⟨hc238, h⟩ | ⟨hc238, h⟩
    · refine qa_bn_1t (a := 1546) (b := 1527) hc238 rfl rfl ?_
      exact qa_bn_mono (N := N) (by omega) <| qa_bn_lw (qa_tL_law_1546  K23 h) rfl rfl (And.intro rfl (And.intro rfl (And.intro rfl (And.intro rfl (And.intro rfl (trivial))))))
    · refine qa_bn_1f (a := 1546) (b := 1527) hc238 rfl rfl ?_
      refine qa_bn_do (pc' := 1528) rfl rfl ?_
      refine qa_bn_do (pc' := 1529) rfl rfl ?_
      refine qa_bn_ja rfl qa_dx_10_29 rfl ?_
      refine qa_bn_do (pc' := 1532) rfl rfl ?_
      rcases qa_ite h with ⟨hc239, h⟩ | ⟨hc239, h⟩
      · refine qa_bn_1t (a := 1539) (b := 1535) hc239 rfl rfl ?_
        refine qa_bn_do (pc' := 1540) rfl rfl ?_
        exact qa_bn_mono (N := N) (by omega) <| qa_bn_lw (qa_tL_law_1540  K23 h) rfl rfl (And.intro rfl (And.intro rfl (And.intro rfl (And.intro rfl (And.intro rfl (trivial))))))
      · refine qa_bn_1f (a := 1539) (b := 1535) hc239 rfl rfl ?_
        refine qa_bn_do (pc' := 1536) rfl rfl ?_
        refine qa_bn_do (pc' := 1540) rfl rfl ?_
        exact qa_bn_mono (N := N) (by omega) <| qa_bn_lw (qa_tL_law_1540  K23 h) rfl rfl (And.intro rfl (And.intro rfl (And.intro rfl (And.intro rfl (And.intro rfl (trivial))))))
  · refine qa_bn_1f (a := 1522) (b := 1520) hc237 rfl rfl ?_
    refine qa_bn_do (pc' := 1521) rfl rfl ?_
    cases h
    exact qa_bn_rb rfl rfl rfl
set_option maxRecDepth 1000000 in
theorem qa_tL_law_1602 {L N : Nat}   {k23 : Int32 → qa_T → Option (Bool × qa_T)} (K23 : ∀ (x4 : Int32) (σ : qa_T) (r : (Bool × qa_T)), k23 x4 σ = some r → qa_Bn L N qa_mL_law 23 [(0, .inl (0, 0)), (1, .inl (0, 1)), (2, .inl (10, 21)), (3, .inl (10, 29)), (4, .inr (.int x4))] [] σ (some (.inr (.int (qa_bi r.1)))) r.2) {x4 : Int32} {σ : qa_T} {r : (Bool × qa_T)} (h : qa_fL_law_1602 L k23 x4 σ = some r) : qa_Bn L N qa_mL_law 1602 [(0, .inl (0, 0)), (1, .inl (0, 1)), (2, .inl (10, 21)), (3, .inl (10, 29)), (4, .inr (.int x4))] [] σ (some (.inr (.int (qa_bi r.1)))) r.2 := by
  unfold qa_fL_law_1602 at h
  try dsimp only at h
  refine qa_bn_do (pc' := 2682) rfl rfl ?_
  exact qa_bn_mono (N := N) (by omega) <| qa_bn_lw (qa_tL_law_2682  K23 h) rfl rfl (And.intro rfl (And.intro rfl (And.intro rfl (And.intro rfl (And.intro rfl (trivial))))))
set_option maxRecDepth 1000000 in
theorem qa_tL_law_1549 {L N : Nat}   {k23 : Int32 → qa_T → Option (Bool × qa_T)} (K23 : ∀ (x4 : Int32) (σ : qa_T) (r : (Bool × qa_T)), k23 x4 σ = some r → qa_Bn L N qa_mL_law 23 [(0, .inl (0, 0)), (1, .inl (0, 1)), (2, .inl (10, 21)), (3, .inl (10, 29)), (4, .inr (.int x4))] [] σ (some (.inr (.int (qa_bi r.1)))) r.2) {x4 : Int32} {σ : qa_T} {r : (Bool × qa_T)} (h : qa_fL_law_1549 L k23 x4 σ = some r) : qa_Bn L (N + 1) qa_mL_law 1549 [(0, .inl (0, 0)), (1, .inl (0, 1)), (2, .inl (10, 21)), (3, .inl (10, 29)), (4, .inr (.int x4))] [] σ (some (.inr (.int (qa_bi r.1)))) r.2 := by
  unfold qa_fL_law_1549 at h
  try dsimp only at h
  refine qa_bn_do (pc' := 1550) rfl rfl ?_
  refine qa_bn_do (pc' := 1551) rfl rfl ?_
  refine qa_bn_do (pc' := 1553) rfl rfl ?_
  refine qa_bn_do (pc' := 1554) rfl rfl ?_
  refine qa_bn_do (pc' := 1555) rfl rfl ?_
  rcases qa_ite h with ⟨_, h⟩ | ⟨hc242, h⟩
  · cases h
  refine qa_bn_ia rfl qa_dx_0_0 (Or.inr rfl) (Decidable.of_not_not hc242) ?_
  refine qa_bn_do (pc' := 1557) rfl rfl ?_
  obtain ⟨c243, hc244, h⟩ := Option.bind_eq_some_iff.mp h
  refine qa_bn_cs (qa_tL_glowOf hc244) rfl rfl rfl rfl rfl rfl rfl ?_
  refine qa_bn_do (pc' := 1562) (lv' := [(5, _), (0, _), (1, _), (2, _), (3, _), (4, _)]) rfl rfl ?_
  refine qa_bn_do (pc' := 1563) rfl rfl ?_
  refine qa_bn_do (pc' := 1564) rfl rfl ?_
  refine qa_bn_do (pc' := 1566) rfl rfl ?_
  refine qa_bn_do (pc' := 1567) rfl rfl ?_
  refine qa_bn_do (pc' := 1568) rfl rfl ?_
  rcases qa_ite h with ⟨_, h⟩ | ⟨hc245, h⟩
  · cases h
  refine qa_bn_ia rfl qa_dx_0_0 (Or.inr rfl) (Decidable.of_not_not hc245) ?_
  obtain ⟨c246, hc247, h⟩ := Option.bind_eq_some_iff.mp h
  refine qa_bn_cv (qa_tX10_glowOf hc247) rfl rfl rfl rfl rfl rfl rfl qa_dx_10_21 ?_
  refine qa_bn_do (pc' := 1574) (lv' := [(6, _), (5, _), (0, _), (1, _), (2, _), (3, _), (4, _)]) rfl rfl ?_
  refine qa_bn_do (pc' := 1575) rfl rfl ?_
  refine qa_bn_cv (qa_tX10_thrown rfl) rfl rfl rfl rfl rfl rfl rfl qa_dx_10_21 ?_
  refine qa_bn_do (pc' := 1580) rfl rfl ?_
  rcases qa_ite h with ⟨hc248, h⟩ | ⟨hc248, h⟩
  · refine qa_bn_1t (a := 1585) (b := 1583) hc248 rfl rfl ?_
    refine qa_bn_do (pc' := 1587) rfl rfl ?_
    rcases qa_ite h with ⟨hc249, h⟩ | ⟨hc249, h⟩
    · refine qa_bn_1t (a := 1602) (b := 1590) hc249 rfl rfl ?_
      exact qa_bn_mono (N := N) (by omega) <| qa_bn_lw (qa_tL_law_1602  K23 h) rfl rfl (And.intro rfl (And.intro rfl (And.intro rfl (And.intro rfl (And.intro rfl (trivial))))))
    · refine qa_bn_1f (a := 1602) (b := 1590) hc249 rfl rfl ?_
      refine qa_bn_do (pc' := 1591) rfl rfl ?_
      refine qa_bn_do (pc' := 1592) rfl rfl ?_
      refine qa_bn_ja rfl qa_dx_10_29 rfl ?_
      refine qa_bn_do (pc' := 1595) rfl rfl ?_
      refine qa_bn_do (pc' := 1596) rfl rfl ?_
      refine qa_bn_do (pc' := 1597) rfl rfl ?_
      rcases qa_ite h with ⟨hc250, h⟩ | ⟨hc250, h⟩
      · refine qa_bn_1t (a := 1602) (b := 1600) hc250 rfl rfl ?_
        exact qa_bn_mono (N := N) (by omega) <| qa_bn_lw (qa_tL_law_1602  K23 h) rfl rfl (And.intro rfl (And.intro rfl (And.intro rfl (And.intro rfl (And.intro rfl (trivial))))))
      · refine qa_bn_1f (a := 1602) (b := 1600) hc250 rfl rfl ?_
        refine qa_bn_do (pc' := 1601) rfl rfl ?_
        cases h
        exact qa_bn_rb rfl rfl rfl
  · refine qa_bn_1f (a := 1585) (b := 1583) hc248 rfl rfl ?_
    refine qa_bn_do (pc' := 1584) rfl rfl ?_
    cases h
    exact qa_bn_rb rfl rfl rfl
set_option maxRecDepth 1000000 in
theorem qa_tL_law_1658 {L N : Nat}   {k23 : Int32 → qa_T → Option (Bool × qa_T)} (K23 : ∀ (x4 : Int32) (σ : qa_T) (r : (Bool × qa_T)), k23 x4 σ = some r → qa_Bn L N qa_mL_law 23 [(0, .inl (0, 0)), (1, .inl (0, 1)), (2, .inl (10, 21)), (3, .inl (10, 29)), (4, .inr (.int x4))] [] σ (some (.inr (.int (qa_bi r.1)))) r.2) {x4 : Int32} {σ : qa_T} {r : (Bool × qa_T)} (h : qa_fL_law_1658 L k23 x4 σ = some r) : qa_Bn L N qa_mL_law 1658 [(0, .inl (0, 0)), (1, .inl (0, 1)), (2, .inl (10, 21)), (3, .inl (10, 29)), (4, .inr (.int x4))] [] σ (some (.inr (.int (qa_bi r.1)))) r.2 := by
  unfold qa_fL_law_1658 at h
  try dsimp only at h
  refine qa_bn_do (pc' := 2682) rfl rfl ?_
  exact qa_bn_mono (N := N) (by omega) <| qa_bn_lw (qa_tL_law_2682  K23 h) rfl rfl (And.intro rfl (And.intro rfl (And.intro rfl (And.intro rfl (And.intro rfl (trivial))))))
set_option maxRecDepth 1000000 in
theorem qa_tL_law_1605 {L N : Nat}   {k23 : Int32 → qa_T → Option (Bool × qa_T)} (K23 : ∀ (x4 : Int32) (σ : qa_T) (r : (Bool × qa_T)), k23 x4 σ = some r → qa_Bn L N qa_mL_law 23 [(0, .inl (0, 0)), (1, .inl (0, 1)), (2, .inl (10, 21)), (3, .inl (10, 29)), (4, .inr (.int x4))] [] σ (some (.inr (.int (qa_bi r.1)))) r.2) {x4 : Int32} {σ : qa_T} {r : (Bool × qa_T)} (h : qa_fL_law_1605 L k23 x4 σ = some r) : qa_Bn L (N + 1) qa_mL_law 1605 [(0, .inl (0, 0)), (1, .inl (0, 1)), (2, .inl (10, 21)), (3, .inl (10, 29)), (4, .inr (.int x4))] [] σ (some (.inr (.int (qa_bi r.1)))) r.2 := by
  unfold qa_fL_law_1605 at h
  try dsimp only at h
  refine qa_bn_do (pc' := 1606) rfl rfl ?_
  refine qa_bn_do (pc' := 1607) rfl rfl ?_
  refine qa_bn_do (pc' := 1609) rfl rfl ?_
  refine qa_bn_do (pc' := 1610) rfl rfl ?_
  refine qa_bn_do (pc' := 1611) rfl rfl ?_
  rcases qa_ite h with ⟨_, h⟩ | ⟨hc252, h⟩
  · cases h
  refine qa_bn_ia rfl qa_dx_0_0 (Or.inr rfl) (Decidable.of_not_not hc252) ?_
  refine qa_bn_do (pc' := 1613) rfl rfl ?_
  obtain ⟨c253, hc254, h⟩ := Option.bind_eq_some_iff.mp h
  refine qa_bn_cs (qa_tL_burntTimes hc254) rfl rfl rfl rfl rfl rfl rfl ?_
  refine qa_bn_do (pc' := 1618) (lv' := [(5, _), (0, _), (1, _), (2, _), (3, _), (4, _)]) rfl rfl ?_
  refine qa_bn_do (pc' := 1619) rfl rfl ?_
  refine qa_bn_do (pc' := 1620) rfl rfl ?_
  refine qa_bn_do (pc' := 1622) rfl rfl ?_
  refine qa_bn_do (pc' := 1623) rfl rfl ?_
  refine qa_bn_do (pc' := 1624) rfl rfl ?_
  rcases qa_ite h with ⟨_, h⟩ | ⟨hc255, h⟩
  · cases h
  refine qa_bn_ia rfl qa_dx_0_0 (Or.inr rfl) (Decidable.of_not_not hc255) ?_
  obtain ⟨c256, hc257, h⟩ := Option.bind_eq_some_iff.mp h
  refine qa_bn_cv (qa_tX10_burntTimes hc257) rfl rfl rfl rfl rfl rfl rfl qa_dx_10_21 ?_
  refine qa_bn_do (pc' := 1630) (lv' := [(6, _), (5, _), (0, _), (1, _), (2, _), (3, _), (4, _)]) rfl rfl ?_
  refine qa_bn_do (pc' := 1631) rfl rfl ?_
  refine qa_bn_cv (qa_tX10_thrown rfl) rfl rfl rfl rfl rfl rfl rfl qa_dx_10_21 ?_
  refine qa_bn_do (pc' := 1636) rfl rfl ?_
  rcases qa_ite h with ⟨hc258, h⟩ | ⟨hc258, h⟩
  · refine qa_bn_1t (a := 1641) (b := 1639) hc258 rfl rfl ?_
    refine qa_bn_do (pc' := 1643) rfl rfl ?_
    rcases qa_ite h with ⟨hc259, h⟩ | ⟨hc259, h⟩
    · refine qa_bn_1t (a := 1658) (b := 1646) hc259 rfl rfl ?_
      exact qa_bn_mono (N := N) (by omega) <| qa_bn_lw (qa_tL_law_1658  K23 h) rfl rfl (And.intro rfl (And.intro rfl (And.intro rfl (And.intro rfl (And.intro rfl (trivial))))))
    · refine qa_bn_1f (a := 1658) (b := 1646) hc259 rfl rfl ?_
      refine qa_bn_do (pc' := 1647) rfl rfl ?_
      refine qa_bn_do (pc' := 1648) rfl rfl ?_
      refine qa_bn_ja rfl qa_dx_10_29 rfl ?_
      refine qa_bn_do (pc' := 1651) rfl rfl ?_
      refine qa_bn_do (pc' := 1652) rfl rfl ?_
      refine qa_bn_do (pc' := 1653) rfl rfl ?_
      rcases qa_ite h with ⟨hc260, h⟩ | ⟨hc260, h⟩
      · refine qa_bn_1t (a := 1658) (b := 1656) hc260 rfl rfl ?_
        exact qa_bn_mono (N := N) (by omega) <| qa_bn_lw (qa_tL_law_1658  K23 h) rfl rfl (And.intro rfl (And.intro rfl (And.intro rfl (And.intro rfl (And.intro rfl (trivial))))))
      · refine qa_bn_1f (a := 1658) (b := 1656) hc260 rfl rfl ?_
        refine qa_bn_do (pc' := 1657) rfl rfl ?_
        cases h
        exact qa_bn_rb rfl rfl rfl
  · refine qa_bn_1f (a := 1641) (b := 1639) hc258 rfl rfl ?_
    refine qa_bn_do (pc' := 1640) rfl rfl ?_
    cases h
    exact qa_bn_rb rfl rfl rfl
set_option maxRecDepth 1000000 in
theorem qa_tL_law_1714 {L N : Nat}   {k23 : Int32 → qa_T → Option (Bool × qa_T)} (K23 : ∀ (x4 : Int32) (σ : qa_T) (r : (Bool × qa_T)), k23 x4 σ = some r → qa_Bn L N qa_mL_law 23 [(0, .inl (0, 0)), (1, .inl (0, 1)), (2, .inl (10, 21)), (3, .inl (10, 29)), (4, .inr (.int x4))] [] σ (some (.inr (.int (qa_bi r.1)))) r.2) {x4 : Int32} {σ : qa_T} {r : (Bool × qa_T)} (h : qa_fL_law_1714 L k23 x4 σ = some r) : qa_Bn L N qa_mL_law 1714 [(0, .inl (0, 0)), (1, .inl (0, 1)), (2, .inl (10, 21)), (3, .inl (10, 29)), (4, .inr (.int x4))] [] σ (some (.inr (.int (qa_bi r.1)))) r.2 := by
  unfold qa_fL_law_1714 at h
  try dsimp only at h
  refine qa_bn_do (pc' := 2682) rfl rfl ?_
  exact qa_bn_mono (N := N) (by omega) <| qa_bn_lw (qa_tL_law_2682  K23 h) rfl rfl (And.intro rfl (And.intro rfl (And.intro rfl (And.intro rfl (And.intro rfl (trivial))))))
set_option maxRecDepth 1000000 in
theorem qa_tL_law_1661 {L N : Nat}   {k23 : Int32 → qa_T → Option (Bool × qa_T)} (K23 : ∀ (x4 : Int32) (σ : qa_T) (r : (Bool × qa_T)), k23 x4 σ = some r → qa_Bn L N qa_mL_law 23 [(0, .inl (0, 0)), (1, .inl (0, 1)), (2, .inl (10, 21)), (3, .inl (10, 29)), (4, .inr (.int x4))] [] σ (some (.inr (.int (qa_bi r.1)))) r.2) {x4 : Int32} {σ : qa_T} {r : (Bool × qa_T)} (h : qa_fL_law_1661 L k23 x4 σ = some r) : qa_Bn L (N + 1) qa_mL_law 1661 [(0, .inl (0, 0)), (1, .inl (0, 1)), (2, .inl (10, 21)), (3, .inl (10, 29)), (4, .inr (.int x4))] [] σ (some (.inr (.int (qa_bi r.1)))) r.2 := by
  unfold qa_fL_law_1661 at h
  try dsimp only at h
  refine qa_bn_do (pc' := 1662) rfl rfl ?_
  refine qa_bn_do (pc' := 1663) rfl rfl ?_
  refine qa_bn_do (pc' := 1665) rfl rfl ?_
  refine qa_bn_do (pc' := 1666) rfl rfl ?_
  refine qa_bn_do (pc' := 1667) rfl rfl ?_
  rcases qa_ite h with ⟨_, h⟩ | ⟨hc262, h⟩
  · cases h
  refine qa_bn_ia rfl qa_dx_0_0 (Or.inr rfl) (Decidable.of_not_not hc262) ?_
  refine qa_bn_do (pc' := 1669) rfl rfl ?_
  obtain ⟨c263, hc264, h⟩ := Option.bind_eq_some_iff.mp h
  refine qa_bn_cs (qa_tL_nextUse hc264) rfl rfl rfl rfl rfl rfl rfl ?_
  refine qa_bn_do (pc' := 1674) (lv' := [(5, _), (0, _), (1, _), (2, _), (3, _), (4, _)]) rfl rfl ?_
  refine qa_bn_do (pc' := 1675) rfl rfl ?_
  refine qa_bn_do (pc' := 1676) rfl rfl ?_
  refine qa_bn_do (pc' := 1678) rfl rfl ?_
  refine qa_bn_do (pc' := 1679) rfl rfl ?_
  refine qa_bn_do (pc' := 1680) rfl rfl ?_
  rcases qa_ite h with ⟨_, h⟩ | ⟨hc265, h⟩
  · cases h
  refine qa_bn_ia rfl qa_dx_0_0 (Or.inr rfl) (Decidable.of_not_not hc265) ?_
  obtain ⟨c266, hc267, h⟩ := Option.bind_eq_some_iff.mp h
  refine qa_bn_cv (qa_tX10_nextUse hc267) rfl rfl rfl rfl rfl rfl rfl qa_dx_10_21 ?_
  refine qa_bn_do (pc' := 1686) (lv' := [(6, _), (5, _), (0, _), (1, _), (2, _), (3, _), (4, _)]) rfl rfl ?_
  refine qa_bn_do (pc' := 1687) rfl rfl ?_
  refine qa_bn_cv (qa_tX10_thrown rfl) rfl rfl rfl rfl rfl rfl rfl qa_dx_10_21 ?_
  refine qa_bn_do (pc' := 1692) rfl rfl ?_
  rcases qa_ite h with ⟨hc268, h⟩ | ⟨hc268, h⟩
  · refine qa_bn_1t (a := 1697) (b := 1695) hc268 rfl rfl ?_
    refine qa_bn_do (pc' := 1699) rfl rfl ?_
    rcases qa_ite h with ⟨hc269, h⟩ | ⟨hc269, h⟩
    · refine qa_bn_1t (a := 1714) (b := 1702) hc269 rfl rfl ?_
      exact qa_bn_mono (N := N) (by omega) <| qa_bn_lw (qa_tL_law_1714  K23 h) rfl rfl (And.intro rfl (And.intro rfl (And.intro rfl (And.intro rfl (And.intro rfl (trivial))))))
    · refine qa_bn_1f (a := 1714) (b := 1702) hc269 rfl rfl ?_
      refine qa_bn_do (pc' := 1703) rfl rfl ?_
      refine qa_bn_do (pc' := 1704) rfl rfl ?_
      refine qa_bn_ja rfl qa_dx_10_29 rfl ?_
      refine qa_bn_do (pc' := 1707) rfl rfl ?_
      refine qa_bn_do (pc' := 1708) rfl rfl ?_
      refine qa_bn_do (pc' := 1709) rfl rfl ?_
      rcases qa_ite h with ⟨hc270, h⟩ | ⟨hc270, h⟩
      · refine qa_bn_1t (a := 1714) (b := 1712) hc270 rfl rfl ?_
        exact qa_bn_mono (N := N) (by omega) <| qa_bn_lw (qa_tL_law_1714  K23 h) rfl rfl (And.intro rfl (And.intro rfl (And.intro rfl (And.intro rfl (And.intro rfl (trivial))))))
      · refine qa_bn_1f (a := 1714) (b := 1712) hc270 rfl rfl ?_
        refine qa_bn_do (pc' := 1713) rfl rfl ?_
        cases h
        exact qa_bn_rb rfl rfl rfl
  · refine qa_bn_1f (a := 1697) (b := 1695) hc268 rfl rfl ?_
    refine qa_bn_do (pc' := 1696) rfl rfl ?_
    cases h
    exact qa_bn_rb rfl rfl rfl
set_option maxRecDepth 1000000 in
theorem qa_tL_law_1770 {L N : Nat}   {k23 : Int32 → qa_T → Option (Bool × qa_T)} (K23 : ∀ (x4 : Int32) (σ : qa_T) (r : (Bool × qa_T)), k23 x4 σ = some r → qa_Bn L N qa_mL_law 23 [(0, .inl (0, 0)), (1, .inl (0, 1)), (2, .inl (10, 21)), (3, .inl (10, 29)), (4, .inr (.int x4))] [] σ (some (.inr (.int (qa_bi r.1)))) r.2) {x4 : Int32} {σ : qa_T} {r : (Bool × qa_T)} (h : qa_fL_law_1770 L k23 x4 σ = some r) : qa_Bn L N qa_mL_law 1770 [(0, .inl (0, 0)), (1, .inl (0, 1)), (2, .inl (10, 21)), (3, .inl (10, 29)), (4, .inr (.int x4))] [] σ (some (.inr (.int (qa_bi r.1)))) r.2 := by
  unfold qa_fL_law_1770 at h
  try dsimp only at h
  refine qa_bn_do (pc' := 2682) rfl rfl ?_
  exact qa_bn_mono (N := N) (by omega) <| qa_bn_lw (qa_tL_law_2682  K23 h) rfl rfl (And.intro rfl (And.intro rfl (And.intro rfl (And.intro rfl (And.intro rfl (trivial))))))
set_option maxRecDepth 1000000 in
theorem qa_tL_law_1717 {L N : Nat}   {k23 : Int32 → qa_T → Option (Bool × qa_T)} (K23 : ∀ (x4 : Int32) (σ : qa_T) (r : (Bool × qa_T)), k23 x4 σ = some r → qa_Bn L N qa_mL_law 23 [(0, .inl (0, 0)), (1, .inl (0, 1)), (2, .inl (10, 21)), (3, .inl (10, 29)), (4, .inr (.int x4))] [] σ (some (.inr (.int (qa_bi r.1)))) r.2) {x4 : Int32} {σ : qa_T} {r : (Bool × qa_T)} (h : qa_fL_law_1717 L k23 x4 σ = some r) : qa_Bn L (N + 1) qa_mL_law 1717 [(0, .inl (0, 0)), (1, .inl (0, 1)), (2, .inl (10, 21)), (3, .inl (10, 29)), (4, .inr (.int x4))] [] σ (some (.inr (.int (qa_bi r.1)))) r.2 := by
  unfold qa_fL_law_1717 at h
  try dsimp only at h
  refine qa_bn_do (pc' := 1718) rfl rfl ?_
  refine qa_bn_do (pc' := 1719) rfl rfl ?_
  refine qa_bn_do (pc' := 1721) rfl rfl ?_
  refine qa_bn_do (pc' := 1722) rfl rfl ?_
  refine qa_bn_do (pc' := 1723) rfl rfl ?_
  rcases qa_ite h with ⟨_, h⟩ | ⟨hc272, h⟩
  · cases h
  refine qa_bn_ia rfl qa_dx_0_0 (Or.inr rfl) (Decidable.of_not_not hc272) ?_
  refine qa_bn_do (pc' := 1725) rfl rfl ?_
  obtain ⟨c273, hc274, h⟩ := Option.bind_eq_some_iff.mp h
  refine qa_bn_cs (qa_tL_burnPlace hc274) rfl rfl rfl rfl rfl rfl rfl ?_
  refine qa_bn_do (pc' := 1730) (lv' := [(5, _), (0, _), (1, _), (2, _), (3, _), (4, _)]) rfl rfl ?_
  refine qa_bn_do (pc' := 1731) rfl rfl ?_
  refine qa_bn_do (pc' := 1732) rfl rfl ?_
  refine qa_bn_do (pc' := 1734) rfl rfl ?_
  refine qa_bn_do (pc' := 1735) rfl rfl ?_
  refine qa_bn_do (pc' := 1736) rfl rfl ?_
  rcases qa_ite h with ⟨_, h⟩ | ⟨hc275, h⟩
  · cases h
  refine qa_bn_ia rfl qa_dx_0_0 (Or.inr rfl) (Decidable.of_not_not hc275) ?_
  obtain ⟨c276, hc277, h⟩ := Option.bind_eq_some_iff.mp h
  refine qa_bn_cv (qa_tX10_burnPlace hc277) rfl rfl rfl rfl rfl rfl rfl qa_dx_10_21 ?_
  refine qa_bn_do (pc' := 1742) (lv' := [(6, _), (5, _), (0, _), (1, _), (2, _), (3, _), (4, _)]) rfl rfl ?_
  refine qa_bn_do (pc' := 1743) rfl rfl ?_
  refine qa_bn_cv (qa_tX10_thrown rfl) rfl rfl rfl rfl rfl rfl rfl qa_dx_10_21 ?_
  refine qa_bn_do (pc' := 1748) rfl rfl ?_
  rcases qa_ite h with ⟨hc278, h⟩ | ⟨hc278, h⟩
  · refine qa_bn_1t (a := 1753) (b := 1751) hc278 rfl rfl ?_
    refine qa_bn_do (pc' := 1755) rfl rfl ?_
    rcases qa_ite h with ⟨hc279, h⟩ | ⟨hc279, h⟩
    · refine qa_bn_1t (a := 1770) (b := 1758) hc279 rfl rfl ?_
      exact qa_bn_mono (N := N) (by omega) <| qa_bn_lw (qa_tL_law_1770  K23 h) rfl rfl (And.intro rfl (And.intro rfl (And.intro rfl (And.intro rfl (And.intro rfl (trivial))))))
    · refine qa_bn_1f (a := 1770) (b := 1758) hc279 rfl rfl ?_
      refine qa_bn_do (pc' := 1759) rfl rfl ?_
      refine qa_bn_do (pc' := 1760) rfl rfl ?_
      refine qa_bn_ja rfl qa_dx_10_29 rfl ?_
      refine qa_bn_do (pc' := 1763) rfl rfl ?_
      refine qa_bn_do (pc' := 1764) rfl rfl ?_
      refine qa_bn_do (pc' := 1765) rfl rfl ?_
      rcases qa_ite h with ⟨hc280, h⟩ | ⟨hc280, h⟩
      · refine qa_bn_1t (a := 1770) (b := 1768) hc280 rfl rfl ?_
        exact qa_bn_mono (N := N) (by omega) <| qa_bn_lw (qa_tL_law_1770  K23 h) rfl rfl (And.intro rfl (And.intro rfl (And.intro rfl (And.intro rfl (And.intro rfl (trivial))))))
      · refine qa_bn_1f (a := 1770) (b := 1768) hc280 rfl rfl ?_
        refine qa_bn_do (pc' := 1769) rfl rfl ?_
        cases h
        exact qa_bn_rb rfl rfl rfl
  · refine qa_bn_1f (a := 1753) (b := 1751) hc278 rfl rfl ?_
    refine qa_bn_do (pc' := 1752) rfl rfl ?_
    cases h
    exact qa_bn_rb rfl rfl rfl
set_option maxRecDepth 1000000 in
theorem qa_tL_law_1773 {L N : Nat}   {k23 : Int32 → qa_T → Option (Bool × qa_T)} (K23 : ∀ (x4 : Int32) (σ : qa_T) (r : (Bool × qa_T)), k23 x4 σ = some r → qa_Bn L N qa_mL_law 23 [(0, .inl (0, 0)), (1, .inl (0, 1)), (2, .inl (10, 21)), (3, .inl (10, 29)), (4, .inr (.int x4))] [] σ (some (.inr (.int (qa_bi r.1)))) r.2) {x4 : Int32} {σ : qa_T} {r : (Bool × qa_T)} (h : qa_fL_law_1773 L k23 x4 σ = some r) : qa_Bn L (N + 1) qa_mL_law 1773 [(0, .inl (0, 0)), (1, .inl (0, 1)), (2, .inl (10, 21)), (3, .inl (10, 29)), (4, .inr (.int x4))] [] σ (some (.inr (.int (qa_bi r.1)))) r.2 := by
  unfold qa_fL_law_1773 at h
  try dsimp only at h
  refine qa_bn_do (pc' := 1774) rfl rfl ?_
  refine qa_bn_cv (qa_tX9_places rfl) rfl rfl rfl rfl rfl rfl rfl qa_dx_0_1 ?_
  refine qa_bn_do (pc' := 1778) rfl rfl ?_
  obtain ⟨c282, hc283, h⟩ := Option.bind_eq_some_iff.mp h
  refine qa_bn_cv (qa_tX10_places hc283) rfl rfl rfl rfl rfl rfl rfl qa_dx_10_21 ?_
  rcases qa_ite h with ⟨hc284, h⟩ | ⟨hc284, h⟩
  · refine qa_bn_1t (a := 2682) (b := 1784) hc284 rfl rfl ?_
    exact qa_bn_mono (N := N) (by omega) <| qa_bn_lw (qa_tL_law_2682  K23 h) rfl rfl (And.intro rfl (And.intro rfl (And.intro rfl (And.intro rfl (And.intro rfl (trivial))))))
  · refine qa_bn_1f (a := 2682) (b := 1784) hc284 rfl rfl ?_
    refine qa_bn_do (pc' := 1785) rfl rfl ?_
    cases h
    exact qa_bn_rb rfl rfl rfl
set_option maxRecDepth 1000000 in
theorem qa_tL_law_1839 {L N : Nat}   {k23 : Int32 → qa_T → Option (Bool × qa_T)} (K23 : ∀ (x4 : Int32) (σ : qa_T) (r : (Bool × qa_T)), k23 x4 σ = some r → qa_Bn L N qa_mL_law 23 [(0, .inl (0, 0)), (1, .inl (0, 1)), (2, .inl (10, 21)), (3, .inl (10, 29)), (4, .inr (.int x4))] [] σ (some (.inr (.int (qa_bi r.1)))) r.2) {x4 : Int32} {σ : qa_T} {r : (Bool × qa_T)} (h : qa_fL_law_1839 L k23 x4 σ = some r) : qa_Bn L N qa_mL_law 1839 [(0, .inl (0, 0)), (1, .inl (0, 1)), (2, .inl (10, 21)), (3, .inl (10, 29)), (4, .inr (.int x4))] [] σ (some (.inr (.int (qa_bi r.1)))) r.2 := by
  unfold qa_fL_law_1839 at h
  try dsimp only at h
  refine qa_bn_do (pc' := 2682) rfl rfl ?_
  exact qa_bn_mono (N := N) (by omega) <| qa_bn_lw (qa_tL_law_2682  K23 h) rfl rfl (And.intro rfl (And.intro rfl (And.intro rfl (And.intro rfl (And.intro rfl (trivial))))))
set_option maxRecDepth 1000000 in
theorem qa_tL_law_1786 {L N : Nat}   {k23 : Int32 → qa_T → Option (Bool × qa_T)} (K23 : ∀ (x4 : Int32) (σ : qa_T) (r : (Bool × qa_T)), k23 x4 σ = some r → qa_Bn L N qa_mL_law 23 [(0, .inl (0, 0)), (1, .inl (0, 1)), (2, .inl (10, 21)), (3, .inl (10, 29)), (4, .inr (.int x4))] [] σ (some (.inr (.int (qa_bi r.1)))) r.2) {x4 : Int32} {σ : qa_T} {r : (Bool × qa_T)} (h : qa_fL_law_1786 L k23 x4 σ = some r) : qa_Bn L (N + 1) qa_mL_law 1786 [(0, .inl (0, 0)), (1, .inl (0, 1)), (2, .inl (10, 21)), (3, .inl (10, 29)), (4, .inr (.int x4))] [] σ (some (.inr (.int (qa_bi r.1)))) r.2 := by
  unfold qa_fL_law_1786 at h
  try dsimp only at h
  refine qa_bn_do (pc' := 1787) rfl rfl ?_
  refine qa_bn_do (pc' := 1788) rfl rfl ?_
  refine qa_bn_do (pc' := 1790) rfl rfl ?_
  refine qa_bn_do (pc' := 1791) rfl rfl ?_
  refine qa_bn_do (pc' := 1792) rfl rfl ?_
  rcases qa_ite h with ⟨_, h⟩ | ⟨hc286, h⟩
  · cases h
  refine qa_bn_ia rfl qa_dx_0_0 (Or.inr rfl) (Decidable.of_not_not hc286) ?_
  refine qa_bn_do (pc' := 1794) rfl rfl ?_
  obtain ⟨c287, hc288, h⟩ := Option.bind_eq_some_iff.mp h
  refine qa_bn_cs (qa_tL_slideAt hc288) rfl rfl rfl rfl rfl rfl rfl ?_
  refine qa_bn_do (pc' := 1799) (lv' := [(5, _), (0, _), (1, _), (2, _), (3, _), (4, _)]) rfl rfl ?_
  refine qa_bn_do (pc' := 1800) rfl rfl ?_
  refine qa_bn_do (pc' := 1801) rfl rfl ?_
  refine qa_bn_do (pc' := 1803) rfl rfl ?_
  refine qa_bn_do (pc' := 1804) rfl rfl ?_
  refine qa_bn_do (pc' := 1805) rfl rfl ?_
  rcases qa_ite h with ⟨_, h⟩ | ⟨hc289, h⟩
  · cases h
  refine qa_bn_ia rfl qa_dx_0_0 (Or.inr rfl) (Decidable.of_not_not hc289) ?_
  obtain ⟨c290, hc291, h⟩ := Option.bind_eq_some_iff.mp h
  refine qa_bn_cv (qa_tX10_slideAt hc291) rfl rfl rfl rfl rfl rfl rfl qa_dx_10_21 ?_
  refine qa_bn_do (pc' := 1811) (lv' := [(6, _), (5, _), (0, _), (1, _), (2, _), (3, _), (4, _)]) rfl rfl ?_
  refine qa_bn_do (pc' := 1812) rfl rfl ?_
  refine qa_bn_cv (qa_tX10_thrown rfl) rfl rfl rfl rfl rfl rfl rfl qa_dx_10_21 ?_
  refine qa_bn_do (pc' := 1817) rfl rfl ?_
  rcases qa_ite h with ⟨hc292, h⟩ | ⟨hc292, h⟩
  · refine qa_bn_1t (a := 1822) (b := 1820) hc292 rfl rfl ?_
    refine qa_bn_do (pc' := 1824) rfl rfl ?_
    rcases qa_ite h with ⟨hc293, h⟩ | ⟨hc293, h⟩
    · refine qa_bn_1t (a := 1839) (b := 1827) hc293 rfl rfl ?_
      exact qa_bn_mono (N := N) (by omega) <| qa_bn_lw (qa_tL_law_1839  K23 h) rfl rfl (And.intro rfl (And.intro rfl (And.intro rfl (And.intro rfl (And.intro rfl (trivial))))))
    · refine qa_bn_1f (a := 1839) (b := 1827) hc293 rfl rfl ?_
      refine qa_bn_do (pc' := 1828) rfl rfl ?_
      refine qa_bn_do (pc' := 1829) rfl rfl ?_
      refine qa_bn_ja rfl qa_dx_10_29 rfl ?_
      refine qa_bn_do (pc' := 1832) rfl rfl ?_
      refine qa_bn_do (pc' := 1833) rfl rfl ?_
      refine qa_bn_do (pc' := 1834) rfl rfl ?_
      rcases qa_ite h with ⟨hc294, h⟩ | ⟨hc294, h⟩
      · refine qa_bn_1t (a := 1839) (b := 1837) hc294 rfl rfl ?_
        exact qa_bn_mono (N := N) (by omega) <| qa_bn_lw (qa_tL_law_1839  K23 h) rfl rfl (And.intro rfl (And.intro rfl (And.intro rfl (And.intro rfl (And.intro rfl (trivial))))))
      · refine qa_bn_1f (a := 1839) (b := 1837) hc294 rfl rfl ?_
        refine qa_bn_do (pc' := 1838) rfl rfl ?_
        cases h
        exact qa_bn_rb rfl rfl rfl
  · refine qa_bn_1f (a := 1822) (b := 1820) hc292 rfl rfl ?_
    refine qa_bn_do (pc' := 1821) rfl rfl ?_
    cases h
    exact qa_bn_rb rfl rfl rfl
set_option maxRecDepth 1000000 in
theorem qa_tL_law_1883 {L N : Nat}   {k23 : Int32 → qa_T → Option (Bool × qa_T)} (K23 : ∀ (x4 : Int32) (σ : qa_T) (r : (Bool × qa_T)), k23 x4 σ = some r → qa_Bn L N qa_mL_law 23 [(0, .inl (0, 0)), (1, .inl (0, 1)), (2, .inl (10, 21)), (3, .inl (10, 29)), (4, .inr (.int x4))] [] σ (some (.inr (.int (qa_bi r.1)))) r.2) {x4 : Int32} {σ : qa_T} {r : (Bool × qa_T)} (h : qa_fL_law_1883 L k23 x4 σ = some r) : qa_Bn L N qa_mL_law 1883 [(0, .inl (0, 0)), (1, .inl (0, 1)), (2, .inl (10, 21)), (3, .inl (10, 29)), (4, .inr (.int x4))] [] σ (some (.inr (.int (qa_bi r.1)))) r.2 := by
  unfold qa_fL_law_1883 at h
  try dsimp only at h
  refine qa_bn_do (pc' := 2682) rfl rfl ?_
  exact qa_bn_mono (N := N) (by omega) <| qa_bn_lw (qa_tL_law_2682  K23 h) rfl rfl (And.intro rfl (And.intro rfl (And.intro rfl (And.intro rfl (And.intro rfl (trivial))))))
set_option maxRecDepth 1000000 in
theorem qa_tL_law_1842 {L N : Nat}   {k23 : Int32 → qa_T → Option (Bool × qa_T)} (K23 : ∀ (x4 : Int32) (σ : qa_T) (r : (Bool × qa_T)), k23 x4 σ = some r → qa_Bn L N qa_mL_law 23 [(0, .inl (0, 0)), (1, .inl (0, 1)), (2, .inl (10, 21)), (3, .inl (10, 29)), (4, .inr (.int x4))] [] σ (some (.inr (.int (qa_bi r.1)))) r.2) {x4 : Int32} {σ : qa_T} {r : (Bool × qa_T)} (h : qa_fL_law_1842 L k23 x4 σ = some r) : qa_Bn L (N + 1) qa_mL_law 1842 [(0, .inl (0, 0)), (1, .inl (0, 1)), (2, .inl (10, 21)), (3, .inl (10, 29)), (4, .inr (.int x4))] [] σ (some (.inr (.int (qa_bi r.1)))) r.2 := by
  unfold qa_fL_law_1842 at h
  try dsimp only at h
  refine qa_bn_do (pc' := 1843) rfl rfl ?_
  refine qa_bn_do (pc' := 1844) rfl rfl ?_
  obtain ⟨c296, hc297, h⟩ := Option.bind_eq_some_iff.mp h
  refine qa_bn_cs (qa_tL_showPlace hc297) rfl rfl rfl rfl rfl rfl rfl ?_
  refine qa_bn_do (pc' := 1849) (lv' := [(5, _), (0, _), (1, _), (2, _), (3, _), (4, _)]) rfl rfl ?_
  refine qa_bn_do (pc' := 1850) rfl rfl ?_
  obtain ⟨c298, hc299, h⟩ := Option.bind_eq_some_iff.mp h
  refine qa_bn_cv (qa_tX10_showPlace hc299) rfl rfl rfl rfl rfl rfl rfl qa_dx_10_21 ?_
  refine qa_bn_do (pc' := 1855) (lv' := [(6, _), (5, _), (0, _), (1, _), (2, _), (3, _), (4, _)]) rfl rfl ?_
  refine qa_bn_do (pc' := 1856) rfl rfl ?_
  refine qa_bn_cv (qa_tX10_thrown rfl) rfl rfl rfl rfl rfl rfl rfl qa_dx_10_21 ?_
  refine qa_bn_do (pc' := 1861) rfl rfl ?_
  rcases qa_ite h with ⟨hc300, h⟩ | ⟨hc300, h⟩
  · refine qa_bn_1t (a := 1866) (b := 1864) hc300 rfl rfl ?_
    refine qa_bn_do (pc' := 1868) rfl rfl ?_
    rcases qa_ite h with ⟨hc301, h⟩ | ⟨hc301, h⟩
    · refine qa_bn_1t (a := 1883) (b := 1871) hc301 rfl rfl ?_
      exact qa_bn_mono (N := N) (by omega) <| qa_bn_lw (qa_tL_law_1883  K23 h) rfl rfl (And.intro rfl (And.intro rfl (And.intro rfl (And.intro rfl (And.intro rfl (trivial))))))
    · refine qa_bn_1f (a := 1883) (b := 1871) hc301 rfl rfl ?_
      refine qa_bn_do (pc' := 1872) rfl rfl ?_
      refine qa_bn_do (pc' := 1873) rfl rfl ?_
      refine qa_bn_ja rfl qa_dx_10_29 rfl ?_
      refine qa_bn_do (pc' := 1876) rfl rfl ?_
      refine qa_bn_do (pc' := 1877) rfl rfl ?_
      refine qa_bn_do (pc' := 1878) rfl rfl ?_
      rcases qa_ite h with ⟨hc302, h⟩ | ⟨hc302, h⟩
      · refine qa_bn_1t (a := 1883) (b := 1881) hc302 rfl rfl ?_
        exact qa_bn_mono (N := N) (by omega) <| qa_bn_lw (qa_tL_law_1883  K23 h) rfl rfl (And.intro rfl (And.intro rfl (And.intro rfl (And.intro rfl (And.intro rfl (trivial))))))
      · refine qa_bn_1f (a := 1883) (b := 1881) hc302 rfl rfl ?_
        refine qa_bn_do (pc' := 1882) rfl rfl ?_
        cases h
        exact qa_bn_rb rfl rfl rfl
  · refine qa_bn_1f (a := 1866) (b := 1864) hc300 rfl rfl ?_
    refine qa_bn_do (pc' := 1865) rfl rfl ?_
    cases h
    exact qa_bn_rb rfl rfl rfl
set_option maxRecDepth 1000000 in
theorem qa_tL_law_1927 {L N : Nat}   {k23 : Int32 → qa_T → Option (Bool × qa_T)} (K23 : ∀ (x4 : Int32) (σ : qa_T) (r : (Bool × qa_T)), k23 x4 σ = some r → qa_Bn L N qa_mL_law 23 [(0, .inl (0, 0)), (1, .inl (0, 1)), (2, .inl (10, 21)), (3, .inl (10, 29)), (4, .inr (.int x4))] [] σ (some (.inr (.int (qa_bi r.1)))) r.2) {x4 : Int32} {σ : qa_T} {r : (Bool × qa_T)} (h : qa_fL_law_1927 L k23 x4 σ = some r) : qa_Bn L N qa_mL_law 1927 [(0, .inl (0, 0)), (1, .inl (0, 1)), (2, .inl (10, 21)), (3, .inl (10, 29)), (4, .inr (.int x4))] [] σ (some (.inr (.int (qa_bi r.1)))) r.2 := by
  unfold qa_fL_law_1927 at h
  try dsimp only at h
  refine qa_bn_do (pc' := 2682) rfl rfl ?_
  exact qa_bn_mono (N := N) (by omega) <| qa_bn_lw (qa_tL_law_2682  K23 h) rfl rfl (And.intro rfl (And.intro rfl (And.intro rfl (And.intro rfl (And.intro rfl (trivial))))))
set_option maxRecDepth 1000000 in
theorem qa_tL_law_1886 {L N : Nat}   {k23 : Int32 → qa_T → Option (Bool × qa_T)} (K23 : ∀ (x4 : Int32) (σ : qa_T) (r : (Bool × qa_T)), k23 x4 σ = some r → qa_Bn L N qa_mL_law 23 [(0, .inl (0, 0)), (1, .inl (0, 1)), (2, .inl (10, 21)), (3, .inl (10, 29)), (4, .inr (.int x4))] [] σ (some (.inr (.int (qa_bi r.1)))) r.2) {x4 : Int32} {σ : qa_T} {r : (Bool × qa_T)} (h : qa_fL_law_1886 L k23 x4 σ = some r) : qa_Bn L (N + 1) qa_mL_law 1886 [(0, .inl (0, 0)), (1, .inl (0, 1)), (2, .inl (10, 21)), (3, .inl (10, 29)), (4, .inr (.int x4))] [] σ (some (.inr (.int (qa_bi r.1)))) r.2 := by
  unfold qa_fL_law_1886 at h
  try dsimp only at h
  refine qa_bn_do (pc' := 1887) rfl rfl ?_
  refine qa_bn_do (pc' := 1888) rfl rfl ?_
  obtain ⟨c304, hc305, h⟩ := Option.bind_eq_some_iff.mp h
  refine qa_bn_cs (qa_tL_shown hc305) rfl rfl rfl rfl rfl rfl rfl ?_
  refine qa_bn_do (pc' := 1893) (lv' := [(5, _), (0, _), (1, _), (2, _), (3, _), (4, _)]) rfl rfl ?_
  refine qa_bn_do (pc' := 1894) rfl rfl ?_
  obtain ⟨c306, hc307, h⟩ := Option.bind_eq_some_iff.mp h
  refine qa_bn_cv (qa_tX10_shown hc307) rfl rfl rfl rfl rfl rfl rfl qa_dx_10_21 ?_
  refine qa_bn_do (pc' := 1899) (lv' := [(6, _), (5, _), (0, _), (1, _), (2, _), (3, _), (4, _)]) rfl rfl ?_
  refine qa_bn_do (pc' := 1900) rfl rfl ?_
  refine qa_bn_cv (qa_tX10_thrown rfl) rfl rfl rfl rfl rfl rfl rfl qa_dx_10_21 ?_
  refine qa_bn_do (pc' := 1905) rfl rfl ?_
  rcases qa_ite h with ⟨hc308, h⟩ | ⟨hc308, h⟩
  · refine qa_bn_1t (a := 1910) (b := 1908) hc308 rfl rfl ?_
    refine qa_bn_do (pc' := 1912) rfl rfl ?_
    rcases qa_ite h with ⟨hc309, h⟩ | ⟨hc309, h⟩
    · refine qa_bn_1t (a := 1927) (b := 1915) hc309 rfl rfl ?_
      exact qa_bn_mono (N := N) (by omega) <| qa_bn_lw (qa_tL_law_1927  K23 h) rfl rfl (And.intro rfl (And.intro rfl (And.intro rfl (And.intro rfl (And.intro rfl (trivial))))))
    · refine qa_bn_1f (a := 1927) (b := 1915) hc309 rfl rfl ?_
      refine qa_bn_do (pc' := 1916) rfl rfl ?_
      refine qa_bn_do (pc' := 1917) rfl rfl ?_
      refine qa_bn_ja rfl qa_dx_10_29 rfl ?_
      refine qa_bn_do (pc' := 1920) rfl rfl ?_
      refine qa_bn_do (pc' := 1921) rfl rfl ?_
      refine qa_bn_do (pc' := 1922) rfl rfl ?_
      rcases qa_ite h with ⟨hc310, h⟩ | ⟨hc310, h⟩
      · refine qa_bn_1t (a := 1927) (b := 1925) hc310 rfl rfl ?_
        exact qa_bn_mono (N := N) (by omega) <| qa_bn_lw (qa_tL_law_1927  K23 h) rfl rfl (And.intro rfl (And.intro rfl (And.intro rfl (And.intro rfl (And.intro rfl (trivial))))))
      · refine qa_bn_1f (a := 1927) (b := 1925) hc310 rfl rfl ?_
        refine qa_bn_do (pc' := 1926) rfl rfl ?_
        cases h
        exact qa_bn_rb rfl rfl rfl
  · refine qa_bn_1f (a := 1910) (b := 1908) hc308 rfl rfl ?_
    refine qa_bn_do (pc' := 1909) rfl rfl ?_
    cases h
    exact qa_bn_rb rfl rfl rfl
set_option maxRecDepth 1000000 in
theorem qa_tL_law_1971 {L N : Nat}   {k23 : Int32 → qa_T → Option (Bool × qa_T)} (K23 : ∀ (x4 : Int32) (σ : qa_T) (r : (Bool × qa_T)), k23 x4 σ = some r → qa_Bn L N qa_mL_law 23 [(0, .inl (0, 0)), (1, .inl (0, 1)), (2, .inl (10, 21)), (3, .inl (10, 29)), (4, .inr (.int x4))] [] σ (some (.inr (.int (qa_bi r.1)))) r.2) {x4 : Int32} {σ : qa_T} {r : (Bool × qa_T)} (h : qa_fL_law_1971 L k23 x4 σ = some r) : qa_Bn L N qa_mL_law 1971 [(0, .inl (0, 0)), (1, .inl (0, 1)), (2, .inl (10, 21)), (3, .inl (10, 29)), (4, .inr (.int x4))] [] σ (some (.inr (.int (qa_bi r.1)))) r.2 := by
  unfold qa_fL_law_1971 at h
  try dsimp only at h
  refine qa_bn_do (pc' := 2682) rfl rfl ?_
  exact qa_bn_mono (N := N) (by omega) <| qa_bn_lw (qa_tL_law_2682  K23 h) rfl rfl (And.intro rfl (And.intro rfl (And.intro rfl (And.intro rfl (And.intro rfl (trivial))))))
set_option maxRecDepth 1000000 in
theorem qa_tL_law_1930 {L N : Nat}   {k23 : Int32 → qa_T → Option (Bool × qa_T)} (K23 : ∀ (x4 : Int32) (σ : qa_T) (r : (Bool × qa_T)), k23 x4 σ = some r → qa_Bn L N qa_mL_law 23 [(0, .inl (0, 0)), (1, .inl (0, 1)), (2, .inl (10, 21)), (3, .inl (10, 29)), (4, .inr (.int x4))] [] σ (some (.inr (.int (qa_bi r.1)))) r.2) {x4 : Int32} {σ : qa_T} {r : (Bool × qa_T)} (h : qa_fL_law_1930 L k23 x4 σ = some r) : qa_Bn L (N + 1) qa_mL_law 1930 [(0, .inl (0, 0)), (1, .inl (0, 1)), (2, .inl (10, 21)), (3, .inl (10, 29)), (4, .inr (.int x4))] [] σ (some (.inr (.int (qa_bi r.1)))) r.2 := by
  unfold qa_fL_law_1930 at h
  try dsimp only at h
  refine qa_bn_do (pc' := 1931) rfl rfl ?_
  refine qa_bn_do (pc' := 1932) rfl rfl ?_
  obtain ⟨c312, hc313, h⟩ := Option.bind_eq_some_iff.mp h
  refine qa_bn_cs (qa_tL_fading hc313) rfl rfl rfl rfl rfl rfl rfl ?_
  refine qa_bn_do (pc' := 1937) (lv' := [(5, _), (0, _), (1, _), (2, _), (3, _), (4, _)]) rfl rfl ?_
  refine qa_bn_do (pc' := 1938) rfl rfl ?_
  obtain ⟨c314, hc315, h⟩ := Option.bind_eq_some_iff.mp h
  refine qa_bn_cv (qa_tX10_fading hc315) rfl rfl rfl rfl rfl rfl rfl qa_dx_10_21 ?_
  refine qa_bn_do (pc' := 1943) (lv' := [(6, _), (5, _), (0, _), (1, _), (2, _), (3, _), (4, _)]) rfl rfl ?_
  refine qa_bn_do (pc' := 1944) rfl rfl ?_
  refine qa_bn_cv (qa_tX10_thrown rfl) rfl rfl rfl rfl rfl rfl rfl qa_dx_10_21 ?_
  refine qa_bn_do (pc' := 1949) rfl rfl ?_
  rcases qa_ite h with ⟨hc316, h⟩ | ⟨hc316, h⟩
  · refine qa_bn_1t (a := 1954) (b := 1952) hc316 rfl rfl ?_
    refine qa_bn_do (pc' := 1956) rfl rfl ?_
    rcases qa_ite h with ⟨hc317, h⟩ | ⟨hc317, h⟩
    · refine qa_bn_1t (a := 1971) (b := 1959) hc317 rfl rfl ?_
      exact qa_bn_mono (N := N) (by omega) <| qa_bn_lw (qa_tL_law_1971  K23 h) rfl rfl (And.intro rfl (And.intro rfl (And.intro rfl (And.intro rfl (And.intro rfl (trivial))))))
    · refine qa_bn_1f (a := 1971) (b := 1959) hc317 rfl rfl ?_
      refine qa_bn_do (pc' := 1960) rfl rfl ?_
      refine qa_bn_do (pc' := 1961) rfl rfl ?_
      refine qa_bn_ja rfl qa_dx_10_29 rfl ?_
      refine qa_bn_do (pc' := 1964) rfl rfl ?_
      refine qa_bn_do (pc' := 1965) rfl rfl ?_
      refine qa_bn_do (pc' := 1966) rfl rfl ?_
      rcases qa_ite h with ⟨hc318, h⟩ | ⟨hc318, h⟩
      · refine qa_bn_1t (a := 1971) (b := 1969) hc318 rfl rfl ?_
        exact qa_bn_mono (N := N) (by omega) <| qa_bn_lw (qa_tL_law_1971  K23 h) rfl rfl (And.intro rfl (And.intro rfl (And.intro rfl (And.intro rfl (And.intro rfl (trivial))))))
      · refine qa_bn_1f (a := 1971) (b := 1969) hc318 rfl rfl ?_
        refine qa_bn_do (pc' := 1970) rfl rfl ?_
        cases h
        exact qa_bn_rb rfl rfl rfl
  · refine qa_bn_1f (a := 1954) (b := 1952) hc316 rfl rfl ?_
    refine qa_bn_do (pc' := 1953) rfl rfl ?_
    cases h
    exact qa_bn_rb rfl rfl rfl
set_option maxRecDepth 1000000 in
theorem qa_tL_law_1974 {L N : Nat}   {k23 : Int32 → qa_T → Option (Bool × qa_T)} (K23 : ∀ (x4 : Int32) (σ : qa_T) (r : (Bool × qa_T)), k23 x4 σ = some r → qa_Bn L N qa_mL_law 23 [(0, .inl (0, 0)), (1, .inl (0, 1)), (2, .inl (10, 21)), (3, .inl (10, 29)), (4, .inr (.int x4))] [] σ (some (.inr (.int (qa_bi r.1)))) r.2) {x4 : Int32} {σ : qa_T} {r : (Bool × qa_T)} (h : qa_fL_law_1974 L k23 x4 σ = some r) : qa_Bn L (N + 1) qa_mL_law 1974 [(0, .inl (0, 0)), (1, .inl (0, 1)), (2, .inl (10, 21)), (3, .inl (10, 29)), (4, .inr (.int x4))] [] σ (some (.inr (.int (qa_bi r.1)))) r.2 := by
  unfold qa_fL_law_1974 at h
  try dsimp only at h
  refine qa_bn_do (pc' := 1975) rfl rfl ?_
  refine qa_bn_cv (qa_tX9_fadeLeft rfl) rfl rfl rfl rfl rfl rfl rfl qa_dx_0_1 ?_
  refine qa_bn_do (pc' := 1979) rfl rfl ?_
  obtain ⟨c320, hc321, h⟩ := Option.bind_eq_some_iff.mp h
  refine qa_bn_cv (qa_tX10_fadeLeft hc321) rfl rfl rfl rfl rfl rfl rfl qa_dx_10_21 ?_
  rcases qa_ite h with ⟨hc322, h⟩ | ⟨hc322, h⟩
  · refine qa_bn_1t (a := 2682) (b := 1985) hc322 rfl rfl ?_
    exact qa_bn_mono (N := N) (by omega) <| qa_bn_lw (qa_tL_law_2682  K23 h) rfl rfl (And.intro rfl (And.intro rfl (And.intro rfl (And.intro rfl (And.intro rfl (trivial))))))
  · refine qa_bn_1f (a := 2682) (b := 1985) hc322 rfl rfl ?_
    refine qa_bn_do (pc' := 1986) rfl rfl ?_
    cases h
    exact qa_bn_rb rfl rfl rfl
set_option maxRecDepth 1000000 in
theorem qa_tL_law_2028 {L N : Nat}   {k23 : Int32 → qa_T → Option (Bool × qa_T)} (K23 : ∀ (x4 : Int32) (σ : qa_T) (r : (Bool × qa_T)), k23 x4 σ = some r → qa_Bn L N qa_mL_law 23 [(0, .inl (0, 0)), (1, .inl (0, 1)), (2, .inl (10, 21)), (3, .inl (10, 29)), (4, .inr (.int x4))] [] σ (some (.inr (.int (qa_bi r.1)))) r.2) {x4 : Int32} {σ : qa_T} {r : (Bool × qa_T)} (h : qa_fL_law_2028 L k23 x4 σ = some r) : qa_Bn L N qa_mL_law 2028 [(0, .inl (0, 0)), (1, .inl (0, 1)), (2, .inl (10, 21)), (3, .inl (10, 29)), (4, .inr (.int x4))] [] σ (some (.inr (.int (qa_bi r.1)))) r.2 := by
  unfold qa_fL_law_2028 at h
  try dsimp only at h
  refine qa_bn_do (pc' := 2682) rfl rfl ?_
  exact qa_bn_mono (N := N) (by omega) <| qa_bn_lw (qa_tL_law_2682  K23 h) rfl rfl (And.intro rfl (And.intro rfl (And.intro rfl (And.intro rfl (And.intro rfl (trivial))))))
set_option maxRecDepth 1000000 in
theorem qa_tL_law_1987 {L N : Nat}   {k23 : Int32 → qa_T → Option (Bool × qa_T)} (K23 : ∀ (x4 : Int32) (σ : qa_T) (r : (Bool × qa_T)), k23 x4 σ = some r → qa_Bn L N qa_mL_law 23 [(0, .inl (0, 0)), (1, .inl (0, 1)), (2, .inl (10, 21)), (3, .inl (10, 29)), (4, .inr (.int x4))] [] σ (some (.inr (.int (qa_bi r.1)))) r.2) {x4 : Int32} {σ : qa_T} {r : (Bool × qa_T)} (h : qa_fL_law_1987 L k23 x4 σ = some r) : qa_Bn L (N + 1) qa_mL_law 1987 [(0, .inl (0, 0)), (1, .inl (0, 1)), (2, .inl (10, 21)), (3, .inl (10, 29)), (4, .inr (.int x4))] [] σ (some (.inr (.int (qa_bi r.1)))) r.2 := by
  unfold qa_fL_law_1987 at h
  try dsimp only at h
  refine qa_bn_do (pc' := 1988) rfl rfl ?_
  refine qa_bn_do (pc' := 1989) rfl rfl ?_
  obtain ⟨c324, hc325, h⟩ := Option.bind_eq_some_iff.mp h
  refine qa_bn_cs (qa_tL_awaited hc325) rfl rfl rfl rfl rfl rfl rfl ?_
  refine qa_bn_do (pc' := 1994) (lv' := [(5, _), (0, _), (1, _), (2, _), (3, _), (4, _)]) rfl rfl ?_
  refine qa_bn_do (pc' := 1995) rfl rfl ?_
  obtain ⟨c326, hc327, h⟩ := Option.bind_eq_some_iff.mp h
  refine qa_bn_cv (qa_tX10_awaited hc327) rfl rfl rfl rfl rfl rfl rfl qa_dx_10_21 ?_
  refine qa_bn_do (pc' := 2000) (lv' := [(6, _), (5, _), (0, _), (1, _), (2, _), (3, _), (4, _)]) rfl rfl ?_
  refine qa_bn_do (pc' := 2001) rfl rfl ?_
  refine qa_bn_cv (qa_tX10_thrown rfl) rfl rfl rfl rfl rfl rfl rfl qa_dx_10_21 ?_
  refine qa_bn_do (pc' := 2006) rfl rfl ?_
  rcases qa_ite h with ⟨hc328, h⟩ | ⟨hc328, h⟩
  · refine qa_bn_1t (a := 2011) (b := 2009) hc328 rfl rfl ?_
    refine qa_bn_do (pc' := 2013) rfl rfl ?_
    rcases qa_ite h with ⟨hc329, h⟩ | ⟨hc329, h⟩
    · refine qa_bn_1t (a := 2028) (b := 2016) hc329 rfl rfl ?_
      exact qa_bn_mono (N := N) (by omega) <| qa_bn_lw (qa_tL_law_2028  K23 h) rfl rfl (And.intro rfl (And.intro rfl (And.intro rfl (And.intro rfl (And.intro rfl (trivial))))))
    · refine qa_bn_1f (a := 2028) (b := 2016) hc329 rfl rfl ?_
      refine qa_bn_do (pc' := 2017) rfl rfl ?_
      refine qa_bn_do (pc' := 2018) rfl rfl ?_
      refine qa_bn_ja rfl qa_dx_10_29 rfl ?_
      refine qa_bn_do (pc' := 2021) rfl rfl ?_
      refine qa_bn_do (pc' := 2022) rfl rfl ?_
      refine qa_bn_do (pc' := 2023) rfl rfl ?_
      rcases qa_ite h with ⟨hc330, h⟩ | ⟨hc330, h⟩
      · refine qa_bn_1t (a := 2028) (b := 2026) hc330 rfl rfl ?_
        exact qa_bn_mono (N := N) (by omega) <| qa_bn_lw (qa_tL_law_2028  K23 h) rfl rfl (And.intro rfl (And.intro rfl (And.intro rfl (And.intro rfl (And.intro rfl (trivial))))))
      · refine qa_bn_1f (a := 2028) (b := 2026) hc330 rfl rfl ?_
        refine qa_bn_do (pc' := 2027) rfl rfl ?_
        cases h
        exact qa_bn_rb rfl rfl rfl
  · refine qa_bn_1f (a := 2011) (b := 2009) hc328 rfl rfl ?_
    refine qa_bn_do (pc' := 2010) rfl rfl ?_
    cases h
    exact qa_bn_rb rfl rfl rfl
set_option maxRecDepth 1000000 in
theorem qa_tL_law_2072 {L N : Nat}   {k23 : Int32 → qa_T → Option (Bool × qa_T)} (K23 : ∀ (x4 : Int32) (σ : qa_T) (r : (Bool × qa_T)), k23 x4 σ = some r → qa_Bn L N qa_mL_law 23 [(0, .inl (0, 0)), (1, .inl (0, 1)), (2, .inl (10, 21)), (3, .inl (10, 29)), (4, .inr (.int x4))] [] σ (some (.inr (.int (qa_bi r.1)))) r.2) {x4 : Int32} {σ : qa_T} {r : (Bool × qa_T)} (h : qa_fL_law_2072 L k23 x4 σ = some r) : qa_Bn L N qa_mL_law 2072 [(0, .inl (0, 0)), (1, .inl (0, 1)), (2, .inl (10, 21)), (3, .inl (10, 29)), (4, .inr (.int x4))] [] σ (some (.inr (.int (qa_bi r.1)))) r.2 := by
  unfold qa_fL_law_2072 at h
  try dsimp only at h
  refine qa_bn_do (pc' := 2682) rfl rfl ?_
  exact qa_bn_mono (N := N) (by omega) <| qa_bn_lw (qa_tL_law_2682  K23 h) rfl rfl (And.intro rfl (And.intro rfl (And.intro rfl (And.intro rfl (And.intro rfl (trivial))))))
set_option maxRecDepth 1000000 in
theorem qa_tL_law_2031 {L N : Nat}   {k23 : Int32 → qa_T → Option (Bool × qa_T)} (K23 : ∀ (x4 : Int32) (σ : qa_T) (r : (Bool × qa_T)), k23 x4 σ = some r → qa_Bn L N qa_mL_law 23 [(0, .inl (0, 0)), (1, .inl (0, 1)), (2, .inl (10, 21)), (3, .inl (10, 29)), (4, .inr (.int x4))] [] σ (some (.inr (.int (qa_bi r.1)))) r.2) {x4 : Int32} {σ : qa_T} {r : (Bool × qa_T)} (h : qa_fL_law_2031 L k23 x4 σ = some r) : qa_Bn L (N + 1) qa_mL_law 2031 [(0, .inl (0, 0)), (1, .inl (0, 1)), (2, .inl (10, 21)), (3, .inl (10, 29)), (4, .inr (.int x4))] [] σ (some (.inr (.int (qa_bi r.1)))) r.2 := by
  unfold qa_fL_law_2031 at h
  try dsimp only at h
  refine qa_bn_do (pc' := 2032) rfl rfl ?_
  refine qa_bn_do (pc' := 2033) rfl rfl ?_
  obtain ⟨c332, hc333, h⟩ := Option.bind_eq_some_iff.mp h
  refine qa_bn_cs (qa_tL_shownFor hc333) rfl rfl rfl rfl rfl rfl rfl ?_
  refine qa_bn_do (pc' := 2038) (lv' := [(5, _), (0, _), (1, _), (2, _), (3, _), (4, _)]) rfl rfl ?_
  refine qa_bn_do (pc' := 2039) rfl rfl ?_
  obtain ⟨c334, hc335, h⟩ := Option.bind_eq_some_iff.mp h
  refine qa_bn_cv (qa_tX10_shownFor hc335) rfl rfl rfl rfl rfl rfl rfl qa_dx_10_21 ?_
  refine qa_bn_do (pc' := 2044) (lv' := [(6, _), (5, _), (0, _), (1, _), (2, _), (3, _), (4, _)]) rfl rfl ?_
  refine qa_bn_do (pc' := 2045) rfl rfl ?_
  refine qa_bn_cv (qa_tX10_thrown rfl) rfl rfl rfl rfl rfl rfl rfl qa_dx_10_21 ?_
  refine qa_bn_do (pc' := 2050) rfl rfl ?_
  rcases qa_ite h with ⟨hc336, h⟩ | ⟨hc336, h⟩
  · refine qa_bn_1t (a := 2055) (b := 2053) hc336 rfl rfl ?_
    refine qa_bn_do (pc' := 2057) rfl rfl ?_
    rcases qa_ite h with ⟨hc337, h⟩ | ⟨hc337, h⟩
    · refine qa_bn_1t (a := 2072) (b := 2060) hc337 rfl rfl ?_
      exact qa_bn_mono (N := N) (by omega) <| qa_bn_lw (qa_tL_law_2072  K23 h) rfl rfl (And.intro rfl (And.intro rfl (And.intro rfl (And.intro rfl (And.intro rfl (trivial))))))
    · refine qa_bn_1f (a := 2072) (b := 2060) hc337 rfl rfl ?_
      refine qa_bn_do (pc' := 2061) rfl rfl ?_
      refine qa_bn_do (pc' := 2062) rfl rfl ?_
      refine qa_bn_ja rfl qa_dx_10_29 rfl ?_
      refine qa_bn_do (pc' := 2065) rfl rfl ?_
      refine qa_bn_do (pc' := 2066) rfl rfl ?_
      refine qa_bn_do (pc' := 2067) rfl rfl ?_
      rcases qa_ite h with ⟨hc338, h⟩ | ⟨hc338, h⟩
      · refine qa_bn_1t (a := 2072) (b := 2070) hc338 rfl rfl ?_
        exact qa_bn_mono (N := N) (by omega) <| qa_bn_lw (qa_tL_law_2072  K23 h) rfl rfl (And.intro rfl (And.intro rfl (And.intro rfl (And.intro rfl (And.intro rfl (trivial))))))
      · refine qa_bn_1f (a := 2072) (b := 2070) hc338 rfl rfl ?_
        refine qa_bn_do (pc' := 2071) rfl rfl ?_
        cases h
        exact qa_bn_rb rfl rfl rfl
  · refine qa_bn_1f (a := 2055) (b := 2053) hc336 rfl rfl ?_
    refine qa_bn_do (pc' := 2054) rfl rfl ?_
    cases h
    exact qa_bn_rb rfl rfl rfl
set_option maxRecDepth 1000000 in
theorem qa_tL_law_2116 {L N : Nat}   {k23 : Int32 → qa_T → Option (Bool × qa_T)} (K23 : ∀ (x4 : Int32) (σ : qa_T) (r : (Bool × qa_T)), k23 x4 σ = some r → qa_Bn L N qa_mL_law 23 [(0, .inl (0, 0)), (1, .inl (0, 1)), (2, .inl (10, 21)), (3, .inl (10, 29)), (4, .inr (.int x4))] [] σ (some (.inr (.int (qa_bi r.1)))) r.2) {x4 : Int32} {σ : qa_T} {r : (Bool × qa_T)} (h : qa_fL_law_2116 L k23 x4 σ = some r) : qa_Bn L N qa_mL_law 2116 [(0, .inl (0, 0)), (1, .inl (0, 1)), (2, .inl (10, 21)), (3, .inl (10, 29)), (4, .inr (.int x4))] [] σ (some (.inr (.int (qa_bi r.1)))) r.2 := by
  unfold qa_fL_law_2116 at h
  try dsimp only at h
  refine qa_bn_do (pc' := 2682) rfl rfl ?_
  exact qa_bn_mono (N := N) (by omega) <| qa_bn_lw (qa_tL_law_2682  K23 h) rfl rfl (And.intro rfl (And.intro rfl (And.intro rfl (And.intro rfl (And.intro rfl (trivial))))))
set_option maxRecDepth 1000000 in
theorem qa_tL_law_2075 {L N : Nat}   {k23 : Int32 → qa_T → Option (Bool × qa_T)} (K23 : ∀ (x4 : Int32) (σ : qa_T) (r : (Bool × qa_T)), k23 x4 σ = some r → qa_Bn L N qa_mL_law 23 [(0, .inl (0, 0)), (1, .inl (0, 1)), (2, .inl (10, 21)), (3, .inl (10, 29)), (4, .inr (.int x4))] [] σ (some (.inr (.int (qa_bi r.1)))) r.2) {x4 : Int32} {σ : qa_T} {r : (Bool × qa_T)} (h : qa_fL_law_2075 L k23 x4 σ = some r) : qa_Bn L (N + 1) qa_mL_law 2075 [(0, .inl (0, 0)), (1, .inl (0, 1)), (2, .inl (10, 21)), (3, .inl (10, 29)), (4, .inr (.int x4))] [] σ (some (.inr (.int (qa_bi r.1)))) r.2 := by
  unfold qa_fL_law_2075 at h
  try dsimp only at h
  refine qa_bn_do (pc' := 2076) rfl rfl ?_
  refine qa_bn_do (pc' := 2077) rfl rfl ?_
  obtain ⟨c340, hc341, h⟩ := Option.bind_eq_some_iff.mp h
  refine qa_bn_cs (qa_tL_loading hc341) rfl rfl rfl rfl rfl rfl rfl ?_
  refine qa_bn_do (pc' := 2082) (lv' := [(5, _), (0, _), (1, _), (2, _), (3, _), (4, _)]) rfl rfl ?_
  refine qa_bn_do (pc' := 2083) rfl rfl ?_
  obtain ⟨c342, hc343, h⟩ := Option.bind_eq_some_iff.mp h
  refine qa_bn_cv (qa_tX10_loading hc343) rfl rfl rfl rfl rfl rfl rfl qa_dx_10_21 ?_
  refine qa_bn_do (pc' := 2088) (lv' := [(6, _), (5, _), (0, _), (1, _), (2, _), (3, _), (4, _)]) rfl rfl ?_
  refine qa_bn_do (pc' := 2089) rfl rfl ?_
  refine qa_bn_cv (qa_tX10_thrown rfl) rfl rfl rfl rfl rfl rfl rfl qa_dx_10_21 ?_
  refine qa_bn_do (pc' := 2094) rfl rfl ?_
  rcases qa_ite h with ⟨hc344, h⟩ | ⟨hc344, h⟩
  · refine qa_bn_1t (a := 2099) (b := 2097) hc344 rfl rfl ?_
    refine qa_bn_do (pc' := 2101) rfl rfl ?_
    rcases qa_ite h with ⟨hc345, h⟩ | ⟨hc345, h⟩
    · refine qa_bn_1t (a := 2116) (b := 2104) hc345 rfl rfl ?_
      exact qa_bn_mono (N := N) (by omega) <| qa_bn_lw (qa_tL_law_2116  K23 h) rfl rfl (And.intro rfl (And.intro rfl (And.intro rfl (And.intro rfl (And.intro rfl (trivial))))))
    · refine qa_bn_1f (a := 2116) (b := 2104) hc345 rfl rfl ?_
      refine qa_bn_do (pc' := 2105) rfl rfl ?_
      refine qa_bn_do (pc' := 2106) rfl rfl ?_
      refine qa_bn_ja rfl qa_dx_10_29 rfl ?_
      refine qa_bn_do (pc' := 2109) rfl rfl ?_
      refine qa_bn_do (pc' := 2110) rfl rfl ?_
      refine qa_bn_do (pc' := 2111) rfl rfl ?_
      rcases qa_ite h with ⟨hc346, h⟩ | ⟨hc346, h⟩
      · refine qa_bn_1t (a := 2116) (b := 2114) hc346 rfl rfl ?_
        exact qa_bn_mono (N := N) (by omega) <| qa_bn_lw (qa_tL_law_2116  K23 h) rfl rfl (And.intro rfl (And.intro rfl (And.intro rfl (And.intro rfl (And.intro rfl (trivial))))))
      · refine qa_bn_1f (a := 2116) (b := 2114) hc346 rfl rfl ?_
        refine qa_bn_do (pc' := 2115) rfl rfl ?_
        cases h
        exact qa_bn_rb rfl rfl rfl
  · refine qa_bn_1f (a := 2099) (b := 2097) hc344 rfl rfl ?_
    refine qa_bn_do (pc' := 2098) rfl rfl ?_
    cases h
    exact qa_bn_rb rfl rfl rfl
set_option maxRecDepth 1000000 in
theorem qa_tL_law_2119 {L N : Nat}   {k23 : Int32 → qa_T → Option (Bool × qa_T)} (K23 : ∀ (x4 : Int32) (σ : qa_T) (r : (Bool × qa_T)), k23 x4 σ = some r → qa_Bn L N qa_mL_law 23 [(0, .inl (0, 0)), (1, .inl (0, 1)), (2, .inl (10, 21)), (3, .inl (10, 29)), (4, .inr (.int x4))] [] σ (some (.inr (.int (qa_bi r.1)))) r.2) {x4 : Int32} {σ : qa_T} {r : (Bool × qa_T)} (h : qa_fL_law_2119 L k23 x4 σ = some r) : qa_Bn L (N + 1) qa_mL_law 2119 [(0, .inl (0, 0)), (1, .inl (0, 1)), (2, .inl (10, 21)), (3, .inl (10, 29)), (4, .inr (.int x4))] [] σ (some (.inr (.int (qa_bi r.1)))) r.2 := by
  unfold qa_fL_law_2119 at h
  try dsimp only at h
  refine qa_bn_do (pc' := 2120) rfl rfl ?_
  refine qa_bn_cv (qa_tX9_loadLeft rfl) rfl rfl rfl rfl rfl rfl rfl qa_dx_0_1 ?_
  refine qa_bn_do (pc' := 2124) rfl rfl ?_
  obtain ⟨c348, hc349, h⟩ := Option.bind_eq_some_iff.mp h
  refine qa_bn_cv (qa_tX10_loadLeft hc349) rfl rfl rfl rfl rfl rfl rfl qa_dx_10_21 ?_
  rcases qa_ite h with ⟨hc350, h⟩ | ⟨hc350, h⟩
  · refine qa_bn_1t (a := 2682) (b := 2130) hc350 rfl rfl ?_
    exact qa_bn_mono (N := N) (by omega) <| qa_bn_lw (qa_tL_law_2682  K23 h) rfl rfl (And.intro rfl (And.intro rfl (And.intro rfl (And.intro rfl (And.intro rfl (trivial))))))
  · refine qa_bn_1f (a := 2682) (b := 2130) hc350 rfl rfl ?_
    refine qa_bn_do (pc' := 2131) rfl rfl ?_
    cases h
    exact qa_bn_rb rfl rfl rfl
set_option maxRecDepth 1000000 in
theorem qa_tL_law_2132 {L N : Nat}   {k23 : Int32 → qa_T → Option (Bool × qa_T)} (K23 : ∀ (x4 : Int32) (σ : qa_T) (r : (Bool × qa_T)), k23 x4 σ = some r → qa_Bn L N qa_mL_law 23 [(0, .inl (0, 0)), (1, .inl (0, 1)), (2, .inl (10, 21)), (3, .inl (10, 29)), (4, .inr (.int x4))] [] σ (some (.inr (.int (qa_bi r.1)))) r.2) {x4 : Int32} {σ : qa_T} {r : (Bool × qa_T)} (h : qa_fL_law_2132 L k23 x4 σ = some r) : qa_Bn L (N + 1) qa_mL_law 2132 [(0, .inl (0, 0)), (1, .inl (0, 1)), (2, .inl (10, 21)), (3, .inl (10, 29)), (4, .inr (.int x4))] [] σ (some (.inr (.int (qa_bi r.1)))) r.2 := by
  unfold qa_fL_law_2132 at h
  try dsimp only at h
  refine qa_bn_do (pc' := 2133) rfl rfl ?_
  refine qa_bn_cv (qa_tX9_asked rfl) rfl rfl rfl rfl rfl rfl rfl qa_dx_0_1 ?_
  refine qa_bn_do (pc' := 2137) rfl rfl ?_
  obtain ⟨c352, hc353, h⟩ := Option.bind_eq_some_iff.mp h
  refine qa_bn_cv (qa_tX10_asked hc353) rfl rfl rfl rfl rfl rfl rfl qa_dx_10_21 ?_
  rcases qa_ite h with ⟨hc354, h⟩ | ⟨hc354, h⟩
  · refine qa_bn_1t (a := 2682) (b := 2143) hc354 rfl rfl ?_
    exact qa_bn_mono (N := N) (by omega) <| qa_bn_lw (qa_tL_law_2682  K23 h) rfl rfl (And.intro rfl (And.intro rfl (And.intro rfl (And.intro rfl (And.intro rfl (trivial))))))
  · refine qa_bn_1f (a := 2682) (b := 2143) hc354 rfl rfl ?_
    refine qa_bn_do (pc' := 2144) rfl rfl ?_
    cases h
    exact qa_bn_rb rfl rfl rfl
set_option maxRecDepth 1000000 in
theorem qa_tL_law_2198 {L N : Nat}   {k23 : Int32 → qa_T → Option (Bool × qa_T)} (K23 : ∀ (x4 : Int32) (σ : qa_T) (r : (Bool × qa_T)), k23 x4 σ = some r → qa_Bn L N qa_mL_law 23 [(0, .inl (0, 0)), (1, .inl (0, 1)), (2, .inl (10, 21)), (3, .inl (10, 29)), (4, .inr (.int x4))] [] σ (some (.inr (.int (qa_bi r.1)))) r.2) {x4 : Int32} {σ : qa_T} {r : (Bool × qa_T)} (h : qa_fL_law_2198 L k23 x4 σ = some r) : qa_Bn L N qa_mL_law 2198 [(0, .inl (0, 0)), (1, .inl (0, 1)), (2, .inl (10, 21)), (3, .inl (10, 29)), (4, .inr (.int x4))] [] σ (some (.inr (.int (qa_bi r.1)))) r.2 := by
  unfold qa_fL_law_2198 at h
  try dsimp only at h
  refine qa_bn_do (pc' := 2682) rfl rfl ?_
  exact qa_bn_mono (N := N) (by omega) <| qa_bn_lw (qa_tL_law_2682  K23 h) rfl rfl (And.intro rfl (And.intro rfl (And.intro rfl (And.intro rfl (And.intro rfl (trivial))))))
set_option maxRecDepth 1000000 in
theorem qa_tL_law_2145 {L N : Nat}   {k23 : Int32 → qa_T → Option (Bool × qa_T)} (K23 : ∀ (x4 : Int32) (σ : qa_T) (r : (Bool × qa_T)), k23 x4 σ = some r → qa_Bn L N qa_mL_law 23 [(0, .inl (0, 0)), (1, .inl (0, 1)), (2, .inl (10, 21)), (3, .inl (10, 29)), (4, .inr (.int x4))] [] σ (some (.inr (.int (qa_bi r.1)))) r.2) {x4 : Int32} {σ : qa_T} {r : (Bool × qa_T)} (h : qa_fL_law_2145 L k23 x4 σ = some r) : qa_Bn L (N + 1) qa_mL_law 2145 [(0, .inl (0, 0)), (1, .inl (0, 1)), (2, .inl (10, 21)), (3, .inl (10, 29)), (4, .inr (.int x4))] [] σ (some (.inr (.int (qa_bi r.1)))) r.2 := by
  unfold qa_fL_law_2145 at h
  try dsimp only at h
  refine qa_bn_do (pc' := 2146) rfl rfl ?_
  refine qa_bn_do (pc' := 2147) rfl rfl ?_
  refine qa_bn_do (pc' := 2149) rfl rfl ?_
  refine qa_bn_do (pc' := 2150) rfl rfl ?_
  refine qa_bn_do (pc' := 2151) rfl rfl ?_
  rcases qa_ite h with ⟨_, h⟩ | ⟨hc356, h⟩
  · cases h
  refine qa_bn_ia rfl qa_dx_0_0 (Or.inr rfl) (Decidable.of_not_not hc356) ?_
  refine qa_bn_do (pc' := 2153) rfl rfl ?_
  obtain ⟨c357, hc358, h⟩ := Option.bind_eq_some_iff.mp h
  refine qa_bn_cs (qa_tL_askedAt hc358) rfl rfl rfl rfl rfl rfl rfl ?_
  refine qa_bn_do (pc' := 2158) (lv' := [(5, _), (0, _), (1, _), (2, _), (3, _), (4, _)]) rfl rfl ?_
  refine qa_bn_do (pc' := 2159) rfl rfl ?_
  refine qa_bn_do (pc' := 2160) rfl rfl ?_
  refine qa_bn_do (pc' := 2162) rfl rfl ?_
  refine qa_bn_do (pc' := 2163) rfl rfl ?_
  refine qa_bn_do (pc' := 2164) rfl rfl ?_
  rcases qa_ite h with ⟨_, h⟩ | ⟨hc359, h⟩
  · cases h
  refine qa_bn_ia rfl qa_dx_0_0 (Or.inr rfl) (Decidable.of_not_not hc359) ?_
  obtain ⟨c360, hc361, h⟩ := Option.bind_eq_some_iff.mp h
  refine qa_bn_cv (qa_tX10_askedAt hc361) rfl rfl rfl rfl rfl rfl rfl qa_dx_10_21 ?_
  refine qa_bn_do (pc' := 2170) (lv' := [(6, _), (5, _), (0, _), (1, _), (2, _), (3, _), (4, _)]) rfl rfl ?_
  refine qa_bn_do (pc' := 2171) rfl rfl ?_
  refine qa_bn_cv (qa_tX10_thrown rfl) rfl rfl rfl rfl rfl rfl rfl qa_dx_10_21 ?_
  refine qa_bn_do (pc' := 2176) rfl rfl ?_
  rcases qa_ite h with ⟨hc362, h⟩ | ⟨hc362, h⟩
  · refine qa_bn_1t (a := 2181) (b := 2179) hc362 rfl rfl ?_
    refine qa_bn_do (pc' := 2183) rfl rfl ?_
    rcases qa_ite h with ⟨hc363, h⟩ | ⟨hc363, h⟩
    · refine qa_bn_1t (a := 2198) (b := 2186) hc363 rfl rfl ?_
      exact qa_bn_mono (N := N) (by omega) <| qa_bn_lw (qa_tL_law_2198  K23 h) rfl rfl (And.intro rfl (And.intro rfl (And.intro rfl (And.intro rfl (And.intro rfl (trivial))))))
    · refine qa_bn_1f (a := 2198) (b := 2186) hc363 rfl rfl ?_
      refine qa_bn_do (pc' := 2187) rfl rfl ?_
      refine qa_bn_do (pc' := 2188) rfl rfl ?_
      refine qa_bn_ja rfl qa_dx_10_29 rfl ?_
      refine qa_bn_do (pc' := 2191) rfl rfl ?_
      refine qa_bn_do (pc' := 2192) rfl rfl ?_
      refine qa_bn_do (pc' := 2193) rfl rfl ?_
      rcases qa_ite h with ⟨hc364, h⟩ | ⟨hc364, h⟩
      · refine qa_bn_1t (a := 2198) (b := 2196) hc364 rfl rfl ?_
        exact qa_bn_mono (N := N) (by omega) <| qa_bn_lw (qa_tL_law_2198  K23 h) rfl rfl (And.intro rfl (And.intro rfl (And.intro rfl (And.intro rfl (And.intro rfl (trivial))))))
      · refine qa_bn_1f (a := 2198) (b := 2196) hc364 rfl rfl ?_
        refine qa_bn_do (pc' := 2197) rfl rfl ?_
        cases h
        exact qa_bn_rb rfl rfl rfl
  · refine qa_bn_1f (a := 2181) (b := 2179) hc362 rfl rfl ?_
    refine qa_bn_do (pc' := 2180) rfl rfl ?_
    cases h
    exact qa_bn_rb rfl rfl rfl
set_option maxRecDepth 1000000 in
theorem qa_tL_law_2201 {L N : Nat}   {k23 : Int32 → qa_T → Option (Bool × qa_T)} (K23 : ∀ (x4 : Int32) (σ : qa_T) (r : (Bool × qa_T)), k23 x4 σ = some r → qa_Bn L N qa_mL_law 23 [(0, .inl (0, 0)), (1, .inl (0, 1)), (2, .inl (10, 21)), (3, .inl (10, 29)), (4, .inr (.int x4))] [] σ (some (.inr (.int (qa_bi r.1)))) r.2) {x4 : Int32} {σ : qa_T} {r : (Bool × qa_T)} (h : qa_fL_law_2201 L k23 x4 σ = some r) : qa_Bn L (N + 1) qa_mL_law 2201 [(0, .inl (0, 0)), (1, .inl (0, 1)), (2, .inl (10, 21)), (3, .inl (10, 29)), (4, .inr (.int x4))] [] σ (some (.inr (.int (qa_bi r.1)))) r.2 := by
  unfold qa_fL_law_2201 at h
  try dsimp only at h
  refine qa_bn_do (pc' := 2202) rfl rfl ?_
  obtain ⟨c366, hc367, h⟩ := Option.bind_eq_some_iff.mp h
  refine qa_bn_cv (qa_tX9_takenBySlides hc367) rfl rfl rfl rfl rfl rfl rfl qa_dx_0_1 ?_
  refine qa_bn_do (pc' := 2206) rfl rfl ?_
  obtain ⟨c368, hc369, h⟩ := Option.bind_eq_some_iff.mp h
  refine qa_bn_cv (qa_tX10_takenBySlides hc369) rfl rfl rfl rfl rfl rfl rfl qa_dx_10_21 ?_
  rcases qa_ite h with ⟨hc370, h⟩ | ⟨hc370, h⟩
  · refine qa_bn_1t (a := 2682) (b := 2212) hc370 rfl rfl ?_
    exact qa_bn_mono (N := N) (by omega) <| qa_bn_lw (qa_tL_law_2682  K23 h) rfl rfl (And.intro rfl (And.intro rfl (And.intro rfl (And.intro rfl (And.intro rfl (trivial))))))
  · refine qa_bn_1f (a := 2682) (b := 2212) hc370 rfl rfl ?_
    refine qa_bn_do (pc' := 2213) rfl rfl ?_
    cases h
    exact qa_bn_rb rfl rfl rfl
set_option maxRecDepth 1000000 in
theorem qa_tL_law_2214 {L N : Nat}   {k23 : Int32 → qa_T → Option (Bool × qa_T)} (K23 : ∀ (x4 : Int32) (σ : qa_T) (r : (Bool × qa_T)), k23 x4 σ = some r → qa_Bn L N qa_mL_law 23 [(0, .inl (0, 0)), (1, .inl (0, 1)), (2, .inl (10, 21)), (3, .inl (10, 29)), (4, .inr (.int x4))] [] σ (some (.inr (.int (qa_bi r.1)))) r.2) {x4 : Int32} {σ : qa_T} {r : (Bool × qa_T)} (h : qa_fL_law_2214 L k23 x4 σ = some r) : qa_Bn L (N + 1) qa_mL_law 2214 [(0, .inl (0, 0)), (1, .inl (0, 1)), (2, .inl (10, 21)), (3, .inl (10, 29)), (4, .inr (.int x4))] [] σ (some (.inr (.int (qa_bi r.1)))) r.2 := by
  unfold qa_fL_law_2214 at h
  try dsimp only at h
  refine qa_bn_do (pc' := 2215) rfl rfl ?_
  refine qa_bn_cv (qa_tX9_takenByAccount rfl) rfl rfl rfl rfl rfl rfl rfl qa_dx_0_1 ?_
  refine qa_bn_do (pc' := 2219) rfl rfl ?_
  obtain ⟨c372, hc373, h⟩ := Option.bind_eq_some_iff.mp h
  refine qa_bn_cv (qa_tX10_takenByAccount hc373) rfl rfl rfl rfl rfl rfl rfl qa_dx_10_21 ?_
  rcases qa_ite h with ⟨hc374, h⟩ | ⟨hc374, h⟩
  · refine qa_bn_1t (a := 2682) (b := 2225) hc374 rfl rfl ?_
    exact qa_bn_mono (N := N) (by omega) <| qa_bn_lw (qa_tL_law_2682  K23 h) rfl rfl (And.intro rfl (And.intro rfl (And.intro rfl (And.intro rfl (And.intro rfl (trivial))))))
  · refine qa_bn_1f (a := 2682) (b := 2225) hc374 rfl rfl ?_
    refine qa_bn_do (pc' := 2226) rfl rfl ?_
    cases h
    exact qa_bn_rb rfl rfl rfl
set_option maxRecDepth 1000000 in
theorem qa_tL_law_2227 {L N : Nat}   {k23 : Int32 → qa_T → Option (Bool × qa_T)} (K23 : ∀ (x4 : Int32) (σ : qa_T) (r : (Bool × qa_T)), k23 x4 σ = some r → qa_Bn L N qa_mL_law 23 [(0, .inl (0, 0)), (1, .inl (0, 1)), (2, .inl (10, 21)), (3, .inl (10, 29)), (4, .inr (.int x4))] [] σ (some (.inr (.int (qa_bi r.1)))) r.2) {x4 : Int32} {σ : qa_T} {r : (Bool × qa_T)} (h : qa_fL_law_2227 L k23 x4 σ = some r) : qa_Bn L (N + 1) qa_mL_law 2227 [(0, .inl (0, 0)), (1, .inl (0, 1)), (2, .inl (10, 21)), (3, .inl (10, 29)), (4, .inr (.int x4))] [] σ (some (.inr (.int (qa_bi r.1)))) r.2 := by
  unfold qa_fL_law_2227 at h
  try dsimp only at h
  refine qa_bn_do (pc' := 2228) rfl rfl ?_
  refine qa_bn_cv (qa_tX9_memory rfl) rfl rfl rfl rfl rfl rfl rfl qa_dx_0_1 ?_
  refine qa_bn_do (pc' := 2232) rfl rfl ?_
  obtain ⟨c376, hc377, h⟩ := Option.bind_eq_some_iff.mp h
  refine qa_bn_cv (qa_tX10_memory hc377) rfl rfl rfl rfl rfl rfl rfl qa_dx_10_21 ?_
  rcases qa_ite h with ⟨hc378, h⟩ | ⟨hc378, h⟩
  · refine qa_bn_1t (a := 2682) (b := 2238) hc378 rfl rfl ?_
    exact qa_bn_mono (N := N) (by omega) <| qa_bn_lw (qa_tL_law_2682  K23 h) rfl rfl (And.intro rfl (And.intro rfl (And.intro rfl (And.intro rfl (And.intro rfl (trivial))))))
  · refine qa_bn_1f (a := 2682) (b := 2238) hc378 rfl rfl ?_
    refine qa_bn_do (pc' := 2239) rfl rfl ?_
    cases h
    exact qa_bn_rb rfl rfl rfl
set_option maxRecDepth 1000000 in
theorem qa_tL_law_2240 {L N : Nat}   {k23 : Int32 → qa_T → Option (Bool × qa_T)} (K23 : ∀ (x4 : Int32) (σ : qa_T) (r : (Bool × qa_T)), k23 x4 σ = some r → qa_Bn L N qa_mL_law 23 [(0, .inl (0, 0)), (1, .inl (0, 1)), (2, .inl (10, 21)), (3, .inl (10, 29)), (4, .inr (.int x4))] [] σ (some (.inr (.int (qa_bi r.1)))) r.2) {x4 : Int32} {σ : qa_T} {r : (Bool × qa_T)} (h : qa_fL_law_2240 L k23 x4 σ = some r) : qa_Bn L (N + 1) qa_mL_law 2240 [(0, .inl (0, 0)), (1, .inl (0, 1)), (2, .inl (10, 21)), (3, .inl (10, 29)), (4, .inr (.int x4))] [] σ (some (.inr (.int (qa_bi r.1)))) r.2 := by
  unfold qa_fL_law_2240 at h
  try dsimp only at h
  refine qa_bn_do (pc' := 2241) rfl rfl ?_
  refine qa_bn_cv (qa_tX9_ahead rfl) rfl rfl rfl rfl rfl rfl rfl qa_dx_0_1 ?_
  refine qa_bn_do (pc' := 2245) rfl rfl ?_
  obtain ⟨c380, hc381, h⟩ := Option.bind_eq_some_iff.mp h
  refine qa_bn_cv (qa_tX10_ahead hc381) rfl rfl rfl rfl rfl rfl rfl qa_dx_10_21 ?_
  rcases qa_ite h with ⟨hc382, h⟩ | ⟨hc382, h⟩
  · refine qa_bn_1t (a := 2682) (b := 2251) hc382 rfl rfl ?_
    exact qa_bn_mono (N := N) (by omega) <| qa_bn_lw (qa_tL_law_2682  K23 h) rfl rfl (And.intro rfl (And.intro rfl (And.intro rfl (And.intro rfl (And.intro rfl (trivial))))))
  · refine qa_bn_1f (a := 2682) (b := 2251) hc382 rfl rfl ?_
    refine qa_bn_do (pc' := 2252) rfl rfl ?_
    cases h
    exact qa_bn_rb rfl rfl rfl
set_option maxRecDepth 1000000 in
theorem qa_tL_law_2253 {L N : Nat}   {k23 : Int32 → qa_T → Option (Bool × qa_T)} (K23 : ∀ (x4 : Int32) (σ : qa_T) (r : (Bool × qa_T)), k23 x4 σ = some r → qa_Bn L N qa_mL_law 23 [(0, .inl (0, 0)), (1, .inl (0, 1)), (2, .inl (10, 21)), (3, .inl (10, 29)), (4, .inr (.int x4))] [] σ (some (.inr (.int (qa_bi r.1)))) r.2) {x4 : Int32} {σ : qa_T} {r : (Bool × qa_T)} (h : qa_fL_law_2253 L k23 x4 σ = some r) : qa_Bn L (N + 1) qa_mL_law 2253 [(0, .inl (0, 0)), (1, .inl (0, 1)), (2, .inl (10, 21)), (3, .inl (10, 29)), (4, .inr (.int x4))] [] σ (some (.inr (.int (qa_bi r.1)))) r.2 := by
  unfold qa_fL_law_2253 at h
  try dsimp only at h
  refine qa_bn_do (pc' := 2254) rfl rfl ?_
  refine qa_bn_cv (qa_tX9_order rfl) rfl rfl rfl rfl rfl rfl rfl qa_dx_0_1 ?_
  refine qa_bn_do (pc' := 2258) rfl rfl ?_
  obtain ⟨c384, hc385, h⟩ := Option.bind_eq_some_iff.mp h
  refine qa_bn_cv (qa_tX10_order hc385) rfl rfl rfl rfl rfl rfl rfl qa_dx_10_21 ?_
  rcases qa_ite h with ⟨hc386, h⟩ | ⟨hc386, h⟩
  · refine qa_bn_1t (a := 2682) (b := 2264) hc386 rfl rfl ?_
    exact qa_bn_mono (N := N) (by omega) <| qa_bn_lw (qa_tL_law_2682  K23 h) rfl rfl (And.intro rfl (And.intro rfl (And.intro rfl (And.intro rfl (And.intro rfl (trivial))))))
  · refine qa_bn_1f (a := 2682) (b := 2264) hc386 rfl rfl ?_
    refine qa_bn_do (pc' := 2265) rfl rfl ?_
    cases h
    exact qa_bn_rb rfl rfl rfl
set_option maxRecDepth 1000000 in
theorem qa_tL_law_2266 {L N : Nat}   {k23 : Int32 → qa_T → Option (Bool × qa_T)} (K23 : ∀ (x4 : Int32) (σ : qa_T) (r : (Bool × qa_T)), k23 x4 σ = some r → qa_Bn L N qa_mL_law 23 [(0, .inl (0, 0)), (1, .inl (0, 1)), (2, .inl (10, 21)), (3, .inl (10, 29)), (4, .inr (.int x4))] [] σ (some (.inr (.int (qa_bi r.1)))) r.2) {x4 : Int32} {σ : qa_T} {r : (Bool × qa_T)} (h : qa_fL_law_2266 L k23 x4 σ = some r) : qa_Bn L (N + 1) qa_mL_law 2266 [(0, .inl (0, 0)), (1, .inl (0, 1)), (2, .inl (10, 21)), (3, .inl (10, 29)), (4, .inr (.int x4))] [] σ (some (.inr (.int (qa_bi r.1)))) r.2 := by
  unfold qa_fL_law_2266 at h
  try dsimp only at h
  refine qa_bn_do (pc' := 2267) rfl rfl ?_
  refine qa_bn_cv (qa_tX9_glow rfl) rfl rfl rfl rfl rfl rfl rfl qa_dx_0_1 ?_
  refine qa_bn_do (pc' := 2271) rfl rfl ?_
  obtain ⟨c388, hc389, h⟩ := Option.bind_eq_some_iff.mp h
  refine qa_bn_cv (qa_tX10_glow hc389) rfl rfl rfl rfl rfl rfl rfl qa_dx_10_21 ?_
  rcases qa_ite h with ⟨hc390, h⟩ | ⟨hc390, h⟩
  · refine qa_bn_1t (a := 2682) (b := 2277) hc390 rfl rfl ?_
    exact qa_bn_mono (N := N) (by omega) <| qa_bn_lw (qa_tL_law_2682  K23 h) rfl rfl (And.intro rfl (And.intro rfl (And.intro rfl (And.intro rfl (And.intro rfl (trivial))))))
  · refine qa_bn_1f (a := 2682) (b := 2277) hc390 rfl rfl ?_
    refine qa_bn_do (pc' := 2278) rfl rfl ?_
    cases h
    exact qa_bn_rb rfl rfl rfl
set_option maxRecDepth 1000000 in
theorem qa_tL_law_2279 {L N : Nat}   {k23 : Int32 → qa_T → Option (Bool × qa_T)} (K23 : ∀ (x4 : Int32) (σ : qa_T) (r : (Bool × qa_T)), k23 x4 σ = some r → qa_Bn L N qa_mL_law 23 [(0, .inl (0, 0)), (1, .inl (0, 1)), (2, .inl (10, 21)), (3, .inl (10, 29)), (4, .inr (.int x4))] [] σ (some (.inr (.int (qa_bi r.1)))) r.2) {x4 : Int32} {σ : qa_T} {r : (Bool × qa_T)} (h : qa_fL_law_2279 L k23 x4 σ = some r) : qa_Bn L (N + 1) qa_mL_law 2279 [(0, .inl (0, 0)), (1, .inl (0, 1)), (2, .inl (10, 21)), (3, .inl (10, 29)), (4, .inr (.int x4))] [] σ (some (.inr (.int (qa_bi r.1)))) r.2 := by
  unfold qa_fL_law_2279 at h
  try dsimp only at h
  refine qa_bn_do (pc' := 2280) rfl rfl ?_
  refine qa_bn_cv (qa_tX9_pace rfl) rfl rfl rfl rfl rfl rfl rfl qa_dx_0_1 ?_
  refine qa_bn_do (pc' := 2284) rfl rfl ?_
  obtain ⟨c392, hc393, h⟩ := Option.bind_eq_some_iff.mp h
  refine qa_bn_cv (qa_tX10_pace hc393) rfl rfl rfl rfl rfl rfl rfl qa_dx_10_21 ?_
  rcases qa_ite h with ⟨hc394, h⟩ | ⟨hc394, h⟩
  · refine qa_bn_1t (a := 2682) (b := 2290) hc394 rfl rfl ?_
    exact qa_bn_mono (N := N) (by omega) <| qa_bn_lw (qa_tL_law_2682  K23 h) rfl rfl (And.intro rfl (And.intro rfl (And.intro rfl (And.intro rfl (And.intro rfl (trivial))))))
  · refine qa_bn_1f (a := 2682) (b := 2290) hc394 rfl rfl ?_
    refine qa_bn_do (pc' := 2291) rfl rfl ?_
    cases h
    exact qa_bn_rb rfl rfl rfl
set_option maxRecDepth 1000000 in
theorem qa_tL_law_2333 {L N : Nat}   {k23 : Int32 → qa_T → Option (Bool × qa_T)} (K23 : ∀ (x4 : Int32) (σ : qa_T) (r : (Bool × qa_T)), k23 x4 σ = some r → qa_Bn L N qa_mL_law 23 [(0, .inl (0, 0)), (1, .inl (0, 1)), (2, .inl (10, 21)), (3, .inl (10, 29)), (4, .inr (.int x4))] [] σ (some (.inr (.int (qa_bi r.1)))) r.2) {x4 : Int32} {σ : qa_T} {r : (Bool × qa_T)} (h : qa_fL_law_2333 L k23 x4 σ = some r) : qa_Bn L N qa_mL_law 2333 [(0, .inl (0, 0)), (1, .inl (0, 1)), (2, .inl (10, 21)), (3, .inl (10, 29)), (4, .inr (.int x4))] [] σ (some (.inr (.int (qa_bi r.1)))) r.2 := by
  unfold qa_fL_law_2333 at h
  try dsimp only at h
  refine qa_bn_do (pc' := 2682) rfl rfl ?_
  exact qa_bn_mono (N := N) (by omega) <| qa_bn_lw (qa_tL_law_2682  K23 h) rfl rfl (And.intro rfl (And.intro rfl (And.intro rfl (And.intro rfl (And.intro rfl (trivial))))))
set_option maxRecDepth 1000000 in
theorem qa_tL_law_2292 {L N : Nat}   {k23 : Int32 → qa_T → Option (Bool × qa_T)} (K23 : ∀ (x4 : Int32) (σ : qa_T) (r : (Bool × qa_T)), k23 x4 σ = some r → qa_Bn L N qa_mL_law 23 [(0, .inl (0, 0)), (1, .inl (0, 1)), (2, .inl (10, 21)), (3, .inl (10, 29)), (4, .inr (.int x4))] [] σ (some (.inr (.int (qa_bi r.1)))) r.2) {x4 : Int32} {σ : qa_T} {r : (Bool × qa_T)} (h : qa_fL_law_2292 L k23 x4 σ = some r) : qa_Bn L (N + 1) qa_mL_law 2292 [(0, .inl (0, 0)), (1, .inl (0, 1)), (2, .inl (10, 21)), (3, .inl (10, 29)), (4, .inr (.int x4))] [] σ (some (.inr (.int (qa_bi r.1)))) r.2 := by
  unfold qa_fL_law_2292 at h
  try dsimp only at h
  refine qa_bn_do (pc' := 2293) rfl rfl ?_
  refine qa_bn_do (pc' := 2294) rfl rfl ?_
  obtain ⟨c396, hc397, h⟩ := Option.bind_eq_some_iff.mp h
  refine qa_bn_cs (qa_tL_ticksToShowByTicks hc397) rfl rfl rfl rfl rfl rfl rfl ?_
  refine qa_bn_do (pc' := 2299) (lv' := [(5, _), (0, _), (1, _), (2, _), (3, _), (4, _)]) rfl rfl ?_
  refine qa_bn_do (pc' := 2300) rfl rfl ?_
  obtain ⟨c398, hc399, h⟩ := Option.bind_eq_some_iff.mp h
  refine qa_bn_cv (qa_tX10_ticksToShowByTicks hc399) rfl rfl rfl rfl rfl rfl rfl qa_dx_10_21 ?_
  refine qa_bn_do (pc' := 2305) (lv' := [(6, _), (5, _), (0, _), (1, _), (2, _), (3, _), (4, _)]) rfl rfl ?_
  refine qa_bn_do (pc' := 2306) rfl rfl ?_
  refine qa_bn_cv (qa_tX10_thrown rfl) rfl rfl rfl rfl rfl rfl rfl qa_dx_10_21 ?_
  refine qa_bn_do (pc' := 2311) rfl rfl ?_
  rcases qa_ite h with ⟨hc400, h⟩ | ⟨hc400, h⟩
  · refine qa_bn_1t (a := 2316) (b := 2314) hc400 rfl rfl ?_
    refine qa_bn_do (pc' := 2318) rfl rfl ?_
    rcases qa_ite h with ⟨hc401, h⟩ | ⟨hc401, h⟩
    · refine qa_bn_1t (a := 2333) (b := 2321) hc401 rfl rfl ?_
      exact qa_bn_mono (N := N) (by omega) <| qa_bn_lw (qa_tL_law_2333  K23 h) rfl rfl (And.intro rfl (And.intro rfl (And.intro rfl (And.intro rfl (And.intro rfl (trivial))))))
    · refine qa_bn_1f (a := 2333) (b := 2321) hc401 rfl rfl ?_
      refine qa_bn_do (pc' := 2322) rfl rfl ?_
      refine qa_bn_do (pc' := 2323) rfl rfl ?_
      refine qa_bn_ja rfl qa_dx_10_29 rfl ?_
      refine qa_bn_do (pc' := 2326) rfl rfl ?_
      refine qa_bn_do (pc' := 2327) rfl rfl ?_
      refine qa_bn_do (pc' := 2328) rfl rfl ?_
      rcases qa_ite h with ⟨hc402, h⟩ | ⟨hc402, h⟩
      · refine qa_bn_1t (a := 2333) (b := 2331) hc402 rfl rfl ?_
        exact qa_bn_mono (N := N) (by omega) <| qa_bn_lw (qa_tL_law_2333  K23 h) rfl rfl (And.intro rfl (And.intro rfl (And.intro rfl (And.intro rfl (And.intro rfl (trivial))))))
      · refine qa_bn_1f (a := 2333) (b := 2331) hc402 rfl rfl ?_
        refine qa_bn_do (pc' := 2332) rfl rfl ?_
        cases h
        exact qa_bn_rb rfl rfl rfl
  · refine qa_bn_1f (a := 2316) (b := 2314) hc400 rfl rfl ?_
    refine qa_bn_do (pc' := 2315) rfl rfl ?_
    cases h
    exact qa_bn_rb rfl rfl rfl
set_option maxRecDepth 1000000 in
theorem qa_tL_law_2377 {L N : Nat}   {k23 : Int32 → qa_T → Option (Bool × qa_T)} (K23 : ∀ (x4 : Int32) (σ : qa_T) (r : (Bool × qa_T)), k23 x4 σ = some r → qa_Bn L N qa_mL_law 23 [(0, .inl (0, 0)), (1, .inl (0, 1)), (2, .inl (10, 21)), (3, .inl (10, 29)), (4, .inr (.int x4))] [] σ (some (.inr (.int (qa_bi r.1)))) r.2) {x4 : Int32} {σ : qa_T} {r : (Bool × qa_T)} (h : qa_fL_law_2377 L k23 x4 σ = some r) : qa_Bn L N qa_mL_law 2377 [(0, .inl (0, 0)), (1, .inl (0, 1)), (2, .inl (10, 21)), (3, .inl (10, 29)), (4, .inr (.int x4))] [] σ (some (.inr (.int (qa_bi r.1)))) r.2 := by
  unfold qa_fL_law_2377 at h
  try dsimp only at h
  refine qa_bn_do (pc' := 2682) rfl rfl ?_
  exact qa_bn_mono (N := N) (by omega) <| qa_bn_lw (qa_tL_law_2682  K23 h) rfl rfl (And.intro rfl (And.intro rfl (And.intro rfl (And.intro rfl (And.intro rfl (trivial))))))
set_option maxRecDepth 1000000 in
theorem qa_tL_law_2336 {L N : Nat}   {k23 : Int32 → qa_T → Option (Bool × qa_T)} (K23 : ∀ (x4 : Int32) (σ : qa_T) (r : (Bool × qa_T)), k23 x4 σ = some r → qa_Bn L N qa_mL_law 23 [(0, .inl (0, 0)), (1, .inl (0, 1)), (2, .inl (10, 21)), (3, .inl (10, 29)), (4, .inr (.int x4))] [] σ (some (.inr (.int (qa_bi r.1)))) r.2) {x4 : Int32} {σ : qa_T} {r : (Bool × qa_T)} (h : qa_fL_law_2336 L k23 x4 σ = some r) : qa_Bn L (N + 1) qa_mL_law 2336 [(0, .inl (0, 0)), (1, .inl (0, 1)), (2, .inl (10, 21)), (3, .inl (10, 29)), (4, .inr (.int x4))] [] σ (some (.inr (.int (qa_bi r.1)))) r.2 := by
  unfold qa_fL_law_2336 at h
  try dsimp only at h
  refine qa_bn_do (pc' := 2337) rfl rfl ?_
  refine qa_bn_do (pc' := 2338) rfl rfl ?_
  obtain ⟨c404, hc405, h⟩ := Option.bind_eq_some_iff.mp h
  refine qa_bn_cs (qa_tL_ticksToShowBySums hc405) rfl rfl rfl rfl rfl rfl rfl ?_
  refine qa_bn_do (pc' := 2343) (lv' := [(5, _), (0, _), (1, _), (2, _), (3, _), (4, _)]) rfl rfl ?_
  refine qa_bn_do (pc' := 2344) rfl rfl ?_
  obtain ⟨c406, hc407, h⟩ := Option.bind_eq_some_iff.mp h
  refine qa_bn_cv (qa_tX10_ticksToShowBySums hc407) rfl rfl rfl rfl rfl rfl rfl qa_dx_10_21 ?_
  refine qa_bn_do (pc' := 2349) (lv' := [(6, _), (5, _), (0, _), (1, _), (2, _), (3, _), (4, _)]) rfl rfl ?_
  refine qa_bn_do (pc' := 2350) rfl rfl ?_
  refine qa_bn_cv (qa_tX10_thrown rfl) rfl rfl rfl rfl rfl rfl rfl qa_dx_10_21 ?_
  refine qa_bn_do (pc' := 2355) rfl rfl ?_
  rcases qa_ite h with ⟨hc408, h⟩ | ⟨hc408, h⟩
  · refine qa_bn_1t (a := 2360) (b := 2358) hc408 rfl rfl ?_
    refine qa_bn_do (pc' := 2362) rfl rfl ?_
    rcases qa_ite h with ⟨hc409, h⟩ | ⟨hc409, h⟩
    · refine qa_bn_1t (a := 2377) (b := 2365) hc409 rfl rfl ?_
      exact qa_bn_mono (N := N) (by omega) <| qa_bn_lw (qa_tL_law_2377  K23 h) rfl rfl (And.intro rfl (And.intro rfl (And.intro rfl (And.intro rfl (And.intro rfl (trivial))))))
    · refine qa_bn_1f (a := 2377) (b := 2365) hc409 rfl rfl ?_
      refine qa_bn_do (pc' := 2366) rfl rfl ?_
      refine qa_bn_do (pc' := 2367) rfl rfl ?_
      refine qa_bn_ja rfl qa_dx_10_29 rfl ?_
      refine qa_bn_do (pc' := 2370) rfl rfl ?_
      refine qa_bn_do (pc' := 2371) rfl rfl ?_
      refine qa_bn_do (pc' := 2372) rfl rfl ?_
      rcases qa_ite h with ⟨hc410, h⟩ | ⟨hc410, h⟩
      · refine qa_bn_1t (a := 2377) (b := 2375) hc410 rfl rfl ?_
        exact qa_bn_mono (N := N) (by omega) <| qa_bn_lw (qa_tL_law_2377  K23 h) rfl rfl (And.intro rfl (And.intro rfl (And.intro rfl (And.intro rfl (And.intro rfl (trivial))))))
      · refine qa_bn_1f (a := 2377) (b := 2375) hc410 rfl rfl ?_
        refine qa_bn_do (pc' := 2376) rfl rfl ?_
        cases h
        exact qa_bn_rb rfl rfl rfl
  · refine qa_bn_1f (a := 2360) (b := 2358) hc408 rfl rfl ?_
    refine qa_bn_do (pc' := 2359) rfl rfl ?_
    cases h
    exact qa_bn_rb rfl rfl rfl
set_option maxRecDepth 1000000 in
theorem qa_tL_law_2433 {L N : Nat}   {k23 : Int32 → qa_T → Option (Bool × qa_T)} (K23 : ∀ (x4 : Int32) (σ : qa_T) (r : (Bool × qa_T)), k23 x4 σ = some r → qa_Bn L N qa_mL_law 23 [(0, .inl (0, 0)), (1, .inl (0, 1)), (2, .inl (10, 21)), (3, .inl (10, 29)), (4, .inr (.int x4))] [] σ (some (.inr (.int (qa_bi r.1)))) r.2) {x4 : Int32} {σ : qa_T} {r : (Bool × qa_T)} (h : qa_fL_law_2433 L k23 x4 σ = some r) : qa_Bn L N qa_mL_law 2433 [(0, .inl (0, 0)), (1, .inl (0, 1)), (2, .inl (10, 21)), (3, .inl (10, 29)), (4, .inr (.int x4))] [] σ (some (.inr (.int (qa_bi r.1)))) r.2 := by
  unfold qa_fL_law_2433 at h
  try dsimp only at h
  refine qa_bn_do (pc' := 2682) rfl rfl ?_
  exact qa_bn_mono (N := N) (by omega) <| qa_bn_lw (qa_tL_law_2682  K23 h) rfl rfl (And.intro rfl (And.intro rfl (And.intro rfl (And.intro rfl (And.intro rfl (trivial))))))
set_option maxRecDepth 1000000 in
theorem qa_tL_law_2380 {L N : Nat}   {k23 : Int32 → qa_T → Option (Bool × qa_T)} (K23 : ∀ (x4 : Int32) (σ : qa_T) (r : (Bool × qa_T)), k23 x4 σ = some r → qa_Bn L N qa_mL_law 23 [(0, .inl (0, 0)), (1, .inl (0, 1)), (2, .inl (10, 21)), (3, .inl (10, 29)), (4, .inr (.int x4))] [] σ (some (.inr (.int (qa_bi r.1)))) r.2) {x4 : Int32} {σ : qa_T} {r : (Bool × qa_T)} (h : qa_fL_law_2380 L k23 x4 σ = some r) : qa_Bn L (N + 1) qa_mL_law 2380 [(0, .inl (0, 0)), (1, .inl (0, 1)), (2, .inl (10, 21)), (3, .inl (10, 29)), (4, .inr (.int x4))] [] σ (some (.inr (.int (qa_bi r.1)))) r.2 := by
  unfold qa_fL_law_2380 at h
  try dsimp only at h
  refine qa_bn_do (pc' := 2381) rfl rfl ?_
  refine qa_bn_do (pc' := 2382) rfl rfl ?_
  refine qa_bn_do (pc' := 2384) rfl rfl ?_
  refine qa_bn_do (pc' := 2385) rfl rfl ?_
  refine qa_bn_do (pc' := 2386) rfl rfl ?_
  rcases qa_ite h with ⟨_, h⟩ | ⟨hc412, h⟩
  · cases h
  refine qa_bn_ia rfl qa_dx_0_0 (Or.inr rfl) (Decidable.of_not_not hc412) ?_
  refine qa_bn_do (pc' := 2388) rfl rfl ?_
  obtain ⟨c413, hc414, h⟩ := Option.bind_eq_some_iff.mp h
  refine qa_bn_cs (qa_tL_burningsFor hc414) rfl rfl rfl rfl rfl rfl rfl ?_
  refine qa_bn_do (pc' := 2393) (lv' := [(5, _), (0, _), (1, _), (2, _), (3, _), (4, _)]) rfl rfl ?_
  refine qa_bn_do (pc' := 2394) rfl rfl ?_
  refine qa_bn_do (pc' := 2395) rfl rfl ?_
  refine qa_bn_do (pc' := 2397) rfl rfl ?_
  refine qa_bn_do (pc' := 2398) rfl rfl ?_
  refine qa_bn_do (pc' := 2399) rfl rfl ?_
  rcases qa_ite h with ⟨_, h⟩ | ⟨hc415, h⟩
  · cases h
  refine qa_bn_ia rfl qa_dx_0_0 (Or.inr rfl) (Decidable.of_not_not hc415) ?_
  obtain ⟨c416, hc417, h⟩ := Option.bind_eq_some_iff.mp h
  refine qa_bn_cv (qa_tX10_burningsFor hc417) rfl rfl rfl rfl rfl rfl rfl qa_dx_10_21 ?_
  refine qa_bn_do (pc' := 2405) (lv' := [(6, _), (5, _), (0, _), (1, _), (2, _), (3, _), (4, _)]) rfl rfl ?_
  refine qa_bn_do (pc' := 2406) rfl rfl ?_
  refine qa_bn_cv (qa_tX10_thrown rfl) rfl rfl rfl rfl rfl rfl rfl qa_dx_10_21 ?_
  refine qa_bn_do (pc' := 2411) rfl rfl ?_
  rcases qa_ite h with ⟨hc418, h⟩ | ⟨hc418, h⟩
  · refine qa_bn_1t (a := 2416) (b := 2414) hc418 rfl rfl ?_
    refine qa_bn_do (pc' := 2418) rfl rfl ?_
    rcases qa_ite h with ⟨hc419, h⟩ | ⟨hc419, h⟩
    · refine qa_bn_1t (a := 2433) (b := 2421) hc419 rfl rfl ?_
      exact qa_bn_mono (N := N) (by omega) <| qa_bn_lw (qa_tL_law_2433  K23 h) rfl rfl (And.intro rfl (And.intro rfl (And.intro rfl (And.intro rfl (And.intro rfl (trivial))))))
    · refine qa_bn_1f (a := 2433) (b := 2421) hc419 rfl rfl ?_
      refine qa_bn_do (pc' := 2422) rfl rfl ?_
      refine qa_bn_do (pc' := 2423) rfl rfl ?_
      refine qa_bn_ja rfl qa_dx_10_29 rfl ?_
      refine qa_bn_do (pc' := 2426) rfl rfl ?_
      refine qa_bn_do (pc' := 2427) rfl rfl ?_
      refine qa_bn_do (pc' := 2428) rfl rfl ?_
      rcases qa_ite h with ⟨hc420, h⟩ | ⟨hc420, h⟩
      · refine qa_bn_1t (a := 2433) (b := 2431) hc420 rfl rfl ?_
        exact qa_bn_mono (N := N) (by omega) <| qa_bn_lw (qa_tL_law_2433  K23 h) rfl rfl (And.intro rfl (And.intro rfl (And.intro rfl (And.intro rfl (And.intro rfl (trivial))))))
      · refine qa_bn_1f (a := 2433) (b := 2431) hc420 rfl rfl ?_
        refine qa_bn_do (pc' := 2432) rfl rfl ?_
        cases h
        exact qa_bn_rb rfl rfl rfl
  · refine qa_bn_1f (a := 2416) (b := 2414) hc418 rfl rfl ?_
    refine qa_bn_do (pc' := 2415) rfl rfl ?_
    cases h
    exact qa_bn_rb rfl rfl rfl
set_option maxRecDepth 1000000 in
theorem qa_tL_law_2489 {L N : Nat}   {k23 : Int32 → qa_T → Option (Bool × qa_T)} (K23 : ∀ (x4 : Int32) (σ : qa_T) (r : (Bool × qa_T)), k23 x4 σ = some r → qa_Bn L N qa_mL_law 23 [(0, .inl (0, 0)), (1, .inl (0, 1)), (2, .inl (10, 21)), (3, .inl (10, 29)), (4, .inr (.int x4))] [] σ (some (.inr (.int (qa_bi r.1)))) r.2) {x4 : Int32} {σ : qa_T} {r : (Bool × qa_T)} (h : qa_fL_law_2489 L k23 x4 σ = some r) : qa_Bn L N qa_mL_law 2489 [(0, .inl (0, 0)), (1, .inl (0, 1)), (2, .inl (10, 21)), (3, .inl (10, 29)), (4, .inr (.int x4))] [] σ (some (.inr (.int (qa_bi r.1)))) r.2 := by
  unfold qa_fL_law_2489 at h
  try dsimp only at h
  refine qa_bn_do (pc' := 2682) rfl rfl ?_
  exact qa_bn_mono (N := N) (by omega) <| qa_bn_lw (qa_tL_law_2682  K23 h) rfl rfl (And.intro rfl (And.intro rfl (And.intro rfl (And.intro rfl (And.intro rfl (trivial))))))
set_option maxRecDepth 1000000 in
theorem qa_tL_law_2436 {L N : Nat}   {k23 : Int32 → qa_T → Option (Bool × qa_T)} (K23 : ∀ (x4 : Int32) (σ : qa_T) (r : (Bool × qa_T)), k23 x4 σ = some r → qa_Bn L N qa_mL_law 23 [(0, .inl (0, 0)), (1, .inl (0, 1)), (2, .inl (10, 21)), (3, .inl (10, 29)), (4, .inr (.int x4))] [] σ (some (.inr (.int (qa_bi r.1)))) r.2) {x4 : Int32} {σ : qa_T} {r : (Bool × qa_T)} (h : qa_fL_law_2436 L k23 x4 σ = some r) : qa_Bn L (N + 1) qa_mL_law 2436 [(0, .inl (0, 0)), (1, .inl (0, 1)), (2, .inl (10, 21)), (3, .inl (10, 29)), (4, .inr (.int x4))] [] σ (some (.inr (.int (qa_bi r.1)))) r.2 := by
  unfold qa_fL_law_2436 at h
  try dsimp only at h
  refine qa_bn_do (pc' := 2437) rfl rfl ?_
  refine qa_bn_do (pc' := 2438) rfl rfl ?_
  refine qa_bn_do (pc' := 2440) rfl rfl ?_
  refine qa_bn_do (pc' := 2441) rfl rfl ?_
  refine qa_bn_do (pc' := 2442) rfl rfl ?_
  rcases qa_ite h with ⟨_, h⟩ | ⟨hc422, h⟩
  · cases h
  refine qa_bn_ia rfl qa_dx_0_0 (Or.inr rfl) (Decidable.of_not_not hc422) ?_
  refine qa_bn_do (pc' := 2444) rfl rfl ?_
  obtain ⟨c423, hc424, h⟩ := Option.bind_eq_some_iff.mp h
  refine qa_bn_cs (qa_tL_missesWith hc424) rfl rfl rfl rfl rfl rfl rfl ?_
  refine qa_bn_do (pc' := 2449) (lv' := [(5, _), (0, _), (1, _), (2, _), (3, _), (4, _)]) rfl rfl ?_
  refine qa_bn_do (pc' := 2450) rfl rfl ?_
  refine qa_bn_do (pc' := 2451) rfl rfl ?_
  refine qa_bn_do (pc' := 2453) rfl rfl ?_
  refine qa_bn_do (pc' := 2454) rfl rfl ?_
  refine qa_bn_do (pc' := 2455) rfl rfl ?_
  rcases qa_ite h with ⟨_, h⟩ | ⟨hc425, h⟩
  · cases h
  refine qa_bn_ia rfl qa_dx_0_0 (Or.inr rfl) (Decidable.of_not_not hc425) ?_
  obtain ⟨c426, hc427, h⟩ := Option.bind_eq_some_iff.mp h
  refine qa_bn_cv (qa_tX10_missesWith hc427) rfl rfl rfl rfl rfl rfl rfl qa_dx_10_21 ?_
  refine qa_bn_do (pc' := 2461) (lv' := [(6, _), (5, _), (0, _), (1, _), (2, _), (3, _), (4, _)]) rfl rfl ?_
  refine qa_bn_do (pc' := 2462) rfl rfl ?_
  refine qa_bn_cv (qa_tX10_thrown rfl) rfl rfl rfl rfl rfl rfl rfl qa_dx_10_21 ?_
  refine qa_bn_do (pc' := 2467) rfl rfl ?_
  rcases qa_ite h with ⟨hc428, h⟩ | ⟨hc428, h⟩
  · refine qa_bn_1t (a := 2472) (b := 2470) hc428 rfl rfl ?_
    refine qa_bn_do (pc' := 2474) rfl rfl ?_
    rcases qa_ite h with ⟨hc429, h⟩ | ⟨hc429, h⟩
    · refine qa_bn_1t (a := 2489) (b := 2477) hc429 rfl rfl ?_
      exact qa_bn_mono (N := N) (by omega) <| qa_bn_lw (qa_tL_law_2489  K23 h) rfl rfl (And.intro rfl (And.intro rfl (And.intro rfl (And.intro rfl (And.intro rfl (trivial))))))
    · refine qa_bn_1f (a := 2489) (b := 2477) hc429 rfl rfl ?_
      refine qa_bn_do (pc' := 2478) rfl rfl ?_
      refine qa_bn_do (pc' := 2479) rfl rfl ?_
      refine qa_bn_ja rfl qa_dx_10_29 rfl ?_
      refine qa_bn_do (pc' := 2482) rfl rfl ?_
      refine qa_bn_do (pc' := 2483) rfl rfl ?_
      refine qa_bn_do (pc' := 2484) rfl rfl ?_
      rcases qa_ite h with ⟨hc430, h⟩ | ⟨hc430, h⟩
      · refine qa_bn_1t (a := 2489) (b := 2487) hc430 rfl rfl ?_
        exact qa_bn_mono (N := N) (by omega) <| qa_bn_lw (qa_tL_law_2489  K23 h) rfl rfl (And.intro rfl (And.intro rfl (And.intro rfl (And.intro rfl (And.intro rfl (trivial))))))
      · refine qa_bn_1f (a := 2489) (b := 2487) hc430 rfl rfl ?_
        refine qa_bn_do (pc' := 2488) rfl rfl ?_
        cases h
        exact qa_bn_rb rfl rfl rfl
  · refine qa_bn_1f (a := 2472) (b := 2470) hc428 rfl rfl ?_
    refine qa_bn_do (pc' := 2471) rfl rfl ?_
    cases h
    exact qa_bn_rb rfl rfl rfl
set_option maxRecDepth 1000000 in
theorem qa_tL_law_2533 {L N : Nat}   {k23 : Int32 → qa_T → Option (Bool × qa_T)} (K23 : ∀ (x4 : Int32) (σ : qa_T) (r : (Bool × qa_T)), k23 x4 σ = some r → qa_Bn L N qa_mL_law 23 [(0, .inl (0, 0)), (1, .inl (0, 1)), (2, .inl (10, 21)), (3, .inl (10, 29)), (4, .inr (.int x4))] [] σ (some (.inr (.int (qa_bi r.1)))) r.2) {x4 : Int32} {σ : qa_T} {r : (Bool × qa_T)} (h : qa_fL_law_2533 L k23 x4 σ = some r) : qa_Bn L N qa_mL_law 2533 [(0, .inl (0, 0)), (1, .inl (0, 1)), (2, .inl (10, 21)), (3, .inl (10, 29)), (4, .inr (.int x4))] [] σ (some (.inr (.int (qa_bi r.1)))) r.2 := by
  unfold qa_fL_law_2533 at h
  try dsimp only at h
  refine qa_bn_do (pc' := 2682) rfl rfl ?_
  exact qa_bn_mono (N := N) (by omega) <| qa_bn_lw (qa_tL_law_2682  K23 h) rfl rfl (And.intro rfl (And.intro rfl (And.intro rfl (And.intro rfl (And.intro rfl (trivial))))))
set_option maxRecDepth 1000000 in
theorem qa_tL_law_2492 {L N : Nat}   {k23 : Int32 → qa_T → Option (Bool × qa_T)} (K23 : ∀ (x4 : Int32) (σ : qa_T) (r : (Bool × qa_T)), k23 x4 σ = some r → qa_Bn L N qa_mL_law 23 [(0, .inl (0, 0)), (1, .inl (0, 1)), (2, .inl (10, 21)), (3, .inl (10, 29)), (4, .inr (.int x4))] [] σ (some (.inr (.int (qa_bi r.1)))) r.2) {x4 : Int32} {σ : qa_T} {r : (Bool × qa_T)} (h : qa_fL_law_2492 L k23 x4 σ = some r) : qa_Bn L (N + 1) qa_mL_law 2492 [(0, .inl (0, 0)), (1, .inl (0, 1)), (2, .inl (10, 21)), (3, .inl (10, 29)), (4, .inr (.int x4))] [] σ (some (.inr (.int (qa_bi r.1)))) r.2 := by
  unfold qa_fL_law_2492 at h
  try dsimp only at h
  refine qa_bn_do (pc' := 2493) rfl rfl ?_
  refine qa_bn_do (pc' := 2494) rfl rfl ?_
  obtain ⟨c432, hc433, h⟩ := Option.bind_eq_some_iff.mp h
  refine qa_bn_cs (qa_tL_bestOrder hc433) rfl rfl rfl rfl rfl rfl rfl ?_
  refine qa_bn_do (pc' := 2499) (lv' := [(5, _), (0, _), (1, _), (2, _), (3, _), (4, _)]) rfl rfl ?_
  refine qa_bn_do (pc' := 2500) rfl rfl ?_
  obtain ⟨c434, hc435, h⟩ := Option.bind_eq_some_iff.mp h
  refine qa_bn_cv (qa_tX10_bestOrder hc435) rfl rfl rfl rfl rfl rfl rfl qa_dx_10_21 ?_
  refine qa_bn_do (pc' := 2505) (lv' := [(6, _), (5, _), (0, _), (1, _), (2, _), (3, _), (4, _)]) rfl rfl ?_
  refine qa_bn_do (pc' := 2506) rfl rfl ?_
  refine qa_bn_cv (qa_tX10_thrown rfl) rfl rfl rfl rfl rfl rfl rfl qa_dx_10_21 ?_
  refine qa_bn_do (pc' := 2511) rfl rfl ?_
  rcases qa_ite h with ⟨hc436, h⟩ | ⟨hc436, h⟩
  · refine qa_bn_1t (a := 2516) (b := 2514) hc436 rfl rfl ?_
    refine qa_bn_do (pc' := 2518) rfl rfl ?_
    rcases qa_ite h with ⟨hc437, h⟩ | ⟨hc437, h⟩
    · refine qa_bn_1t (a := 2533) (b := 2521) hc437 rfl rfl ?_
      exact qa_bn_mono (N := N) (by omega) <| qa_bn_lw (qa_tL_law_2533  K23 h) rfl rfl (And.intro rfl (And.intro rfl (And.intro rfl (And.intro rfl (And.intro rfl (trivial))))))
    · refine qa_bn_1f (a := 2533) (b := 2521) hc437 rfl rfl ?_
      refine qa_bn_do (pc' := 2522) rfl rfl ?_
      refine qa_bn_do (pc' := 2523) rfl rfl ?_
      refine qa_bn_ja rfl qa_dx_10_29 rfl ?_
      refine qa_bn_do (pc' := 2526) rfl rfl ?_
      refine qa_bn_do (pc' := 2527) rfl rfl ?_
      refine qa_bn_do (pc' := 2528) rfl rfl ?_
      rcases qa_ite h with ⟨hc438, h⟩ | ⟨hc438, h⟩
      · refine qa_bn_1t (a := 2533) (b := 2531) hc438 rfl rfl ?_
        exact qa_bn_mono (N := N) (by omega) <| qa_bn_lw (qa_tL_law_2533  K23 h) rfl rfl (And.intro rfl (And.intro rfl (And.intro rfl (And.intro rfl (And.intro rfl (trivial))))))
      · refine qa_bn_1f (a := 2533) (b := 2531) hc438 rfl rfl ?_
        refine qa_bn_do (pc' := 2532) rfl rfl ?_
        cases h
        exact qa_bn_rb rfl rfl rfl
  · refine qa_bn_1f (a := 2516) (b := 2514) hc436 rfl rfl ?_
    refine qa_bn_do (pc' := 2515) rfl rfl ?_
    cases h
    exact qa_bn_rb rfl rfl rfl
set_option maxRecDepth 1000000 in
theorem qa_tL_law_2536 {L N : Nat}   {k23 : Int32 → qa_T → Option (Bool × qa_T)} (K23 : ∀ (x4 : Int32) (σ : qa_T) (r : (Bool × qa_T)), k23 x4 σ = some r → qa_Bn L N qa_mL_law 23 [(0, .inl (0, 0)), (1, .inl (0, 1)), (2, .inl (10, 21)), (3, .inl (10, 29)), (4, .inr (.int x4))] [] σ (some (.inr (.int (qa_bi r.1)))) r.2) {x4 : Int32} {σ : qa_T} {r : (Bool × qa_T)} (h : qa_fL_law_2536 L k23 x4 σ = some r) : qa_Bn L (N + 1) qa_mL_law 2536 [(0, .inl (0, 0)), (1, .inl (0, 1)), (2, .inl (10, 21)), (3, .inl (10, 29)), (4, .inr (.int x4))] [] σ (some (.inr (.int (qa_bi r.1)))) r.2 := by
  unfold qa_fL_law_2536 at h
  try dsimp only at h
  refine qa_bn_do (pc' := 2537) rfl rfl ?_
  refine qa_bn_cv (qa_tX9_time rfl) rfl rfl rfl rfl rfl rfl rfl qa_dx_0_1 ?_
  refine qa_bn_do (pc' := 2541) rfl rfl ?_
  obtain ⟨c440, hc441, h⟩ := Option.bind_eq_some_iff.mp h
  refine qa_bn_cv (qa_tX10_time hc441) rfl rfl rfl rfl rfl rfl rfl qa_dx_10_21 ?_
  rcases qa_ite h with ⟨hc442, h⟩ | ⟨hc442, h⟩
  · refine qa_bn_1t (a := 2682) (b := 2547) hc442 rfl rfl ?_
    exact qa_bn_mono (N := N) (by omega) <| qa_bn_lw (qa_tL_law_2682  K23 h) rfl rfl (And.intro rfl (And.intro rfl (And.intro rfl (And.intro rfl (And.intro rfl (trivial))))))
  · refine qa_bn_1f (a := 2682) (b := 2547) hc442 rfl rfl ?_
    refine qa_bn_do (pc' := 2548) rfl rfl ?_
    cases h
    exact qa_bn_rb rfl rfl rfl
set_option maxRecDepth 1000000 in
theorem qa_tL_law_2549 {L N : Nat}   {k23 : Int32 → qa_T → Option (Bool × qa_T)} (K23 : ∀ (x4 : Int32) (σ : qa_T) (r : (Bool × qa_T)), k23 x4 σ = some r → qa_Bn L N qa_mL_law 23 [(0, .inl (0, 0)), (1, .inl (0, 1)), (2, .inl (10, 21)), (3, .inl (10, 29)), (4, .inr (.int x4))] [] σ (some (.inr (.int (qa_bi r.1)))) r.2) {x4 : Int32} {σ : qa_T} {r : (Bool × qa_T)} (h : qa_fL_law_2549 L k23 x4 σ = some r) : qa_Bn L (N + 1) qa_mL_law 2549 [(0, .inl (0, 0)), (1, .inl (0, 1)), (2, .inl (10, 21)), (3, .inl (10, 29)), (4, .inr (.int x4))] [] σ (some (.inr (.int (qa_bi r.1)))) r.2 := by
  unfold qa_fL_law_2549 at h
  try dsimp only at h
  refine qa_bn_do (pc' := 2550) rfl rfl ?_
  refine qa_bn_cv (qa_tX9_hits rfl) rfl rfl rfl rfl rfl rfl rfl qa_dx_0_1 ?_
  refine qa_bn_do (pc' := 2554) rfl rfl ?_
  obtain ⟨c444, hc445, h⟩ := Option.bind_eq_some_iff.mp h
  refine qa_bn_cv (qa_tX10_hits hc445) rfl rfl rfl rfl rfl rfl rfl qa_dx_10_21 ?_
  rcases qa_ite h with ⟨hc446, h⟩ | ⟨hc446, h⟩
  · refine qa_bn_1t (a := 2682) (b := 2560) hc446 rfl rfl ?_
    exact qa_bn_mono (N := N) (by omega) <| qa_bn_lw (qa_tL_law_2682  K23 h) rfl rfl (And.intro rfl (And.intro rfl (And.intro rfl (And.intro rfl (And.intro rfl (trivial))))))
  · refine qa_bn_1f (a := 2682) (b := 2560) hc446 rfl rfl ?_
    refine qa_bn_do (pc' := 2561) rfl rfl ?_
    cases h
    exact qa_bn_rb rfl rfl rfl
set_option maxRecDepth 1000000 in
theorem qa_tL_law_2562 {L N : Nat}   {k23 : Int32 → qa_T → Option (Bool × qa_T)} (K23 : ∀ (x4 : Int32) (σ : qa_T) (r : (Bool × qa_T)), k23 x4 σ = some r → qa_Bn L N qa_mL_law 23 [(0, .inl (0, 0)), (1, .inl (0, 1)), (2, .inl (10, 21)), (3, .inl (10, 29)), (4, .inr (.int x4))] [] σ (some (.inr (.int (qa_bi r.1)))) r.2) {x4 : Int32} {σ : qa_T} {r : (Bool × qa_T)} (h : qa_fL_law_2562 L k23 x4 σ = some r) : qa_Bn L (N + 1) qa_mL_law 2562 [(0, .inl (0, 0)), (1, .inl (0, 1)), (2, .inl (10, 21)), (3, .inl (10, 29)), (4, .inr (.int x4))] [] σ (some (.inr (.int (qa_bi r.1)))) r.2 := by
  unfold qa_fL_law_2562 at h
  try dsimp only at h
  refine qa_bn_do (pc' := 2563) rfl rfl ?_
  refine qa_bn_cv (qa_tX9_misses rfl) rfl rfl rfl rfl rfl rfl rfl qa_dx_0_1 ?_
  refine qa_bn_do (pc' := 2567) rfl rfl ?_
  obtain ⟨c448, hc449, h⟩ := Option.bind_eq_some_iff.mp h
  refine qa_bn_cv (qa_tX10_misses hc449) rfl rfl rfl rfl rfl rfl rfl qa_dx_10_21 ?_
  rcases qa_ite h with ⟨hc450, h⟩ | ⟨hc450, h⟩
  · refine qa_bn_1t (a := 2682) (b := 2573) hc450 rfl rfl ?_
    exact qa_bn_mono (N := N) (by omega) <| qa_bn_lw (qa_tL_law_2682  K23 h) rfl rfl (And.intro rfl (And.intro rfl (And.intro rfl (And.intro rfl (And.intro rfl (trivial))))))
  · refine qa_bn_1f (a := 2682) (b := 2573) hc450 rfl rfl ?_
    refine qa_bn_do (pc' := 2574) rfl rfl ?_
    cases h
    exact qa_bn_rb rfl rfl rfl
set_option maxRecDepth 1000000 in
theorem qa_tL_law_2575 {L N : Nat}   {k23 : Int32 → qa_T → Option (Bool × qa_T)} (K23 : ∀ (x4 : Int32) (σ : qa_T) (r : (Bool × qa_T)), k23 x4 σ = some r → qa_Bn L N qa_mL_law 23 [(0, .inl (0, 0)), (1, .inl (0, 1)), (2, .inl (10, 21)), (3, .inl (10, 29)), (4, .inr (.int x4))] [] σ (some (.inr (.int (qa_bi r.1)))) r.2) {x4 : Int32} {σ : qa_T} {r : (Bool × qa_T)} (h : qa_fL_law_2575 L k23 x4 σ = some r) : qa_Bn L (N + 1) qa_mL_law 2575 [(0, .inl (0, 0)), (1, .inl (0, 1)), (2, .inl (10, 21)), (3, .inl (10, 29)), (4, .inr (.int x4))] [] σ (some (.inr (.int (qa_bi r.1)))) r.2 := by
  unfold qa_fL_law_2575 at h
  try dsimp only at h
  refine qa_bn_do (pc' := 2576) rfl rfl ?_
  refine qa_bn_cv (qa_tX9_loads rfl) rfl rfl rfl rfl rfl rfl rfl qa_dx_0_1 ?_
  refine qa_bn_do (pc' := 2580) rfl rfl ?_
  obtain ⟨c452, hc453, h⟩ := Option.bind_eq_some_iff.mp h
  refine qa_bn_cv (qa_tX10_loads hc453) rfl rfl rfl rfl rfl rfl rfl qa_dx_10_21 ?_
  rcases qa_ite h with ⟨hc454, h⟩ | ⟨hc454, h⟩
  · refine qa_bn_1t (a := 2682) (b := 2586) hc454 rfl rfl ?_
    exact qa_bn_mono (N := N) (by omega) <| qa_bn_lw (qa_tL_law_2682  K23 h) rfl rfl (And.intro rfl (And.intro rfl (And.intro rfl (And.intro rfl (And.intro rfl (trivial))))))
  · refine qa_bn_1f (a := 2682) (b := 2586) hc454 rfl rfl ?_
    refine qa_bn_do (pc' := 2587) rfl rfl ?_
    cases h
    exact qa_bn_rb rfl rfl rfl
set_option maxRecDepth 1000000 in
theorem qa_tL_law_2588 {L N : Nat}   {k23 : Int32 → qa_T → Option (Bool × qa_T)} (K23 : ∀ (x4 : Int32) (σ : qa_T) (r : (Bool × qa_T)), k23 x4 σ = some r → qa_Bn L N qa_mL_law 23 [(0, .inl (0, 0)), (1, .inl (0, 1)), (2, .inl (10, 21)), (3, .inl (10, 29)), (4, .inr (.int x4))] [] σ (some (.inr (.int (qa_bi r.1)))) r.2) {x4 : Int32} {σ : qa_T} {r : (Bool × qa_T)} (h : qa_fL_law_2588 L k23 x4 σ = some r) : qa_Bn L (N + 1) qa_mL_law 2588 [(0, .inl (0, 0)), (1, .inl (0, 1)), (2, .inl (10, 21)), (3, .inl (10, 29)), (4, .inr (.int x4))] [] σ (some (.inr (.int (qa_bi r.1)))) r.2 := by
  unfold qa_fL_law_2588 at h
  try dsimp only at h
  refine qa_bn_do (pc' := 2589) rfl rfl ?_
  refine qa_bn_cv (qa_tX9_warmLoads rfl) rfl rfl rfl rfl rfl rfl rfl qa_dx_0_1 ?_
  refine qa_bn_do (pc' := 2593) rfl rfl ?_
  obtain ⟨c456, hc457, h⟩ := Option.bind_eq_some_iff.mp h
  refine qa_bn_cv (qa_tX10_warmLoads hc457) rfl rfl rfl rfl rfl rfl rfl qa_dx_10_21 ?_
  rcases qa_ite h with ⟨hc458, h⟩ | ⟨hc458, h⟩
  · refine qa_bn_1t (a := 2682) (b := 2599) hc458 rfl rfl ?_
    exact qa_bn_mono (N := N) (by omega) <| qa_bn_lw (qa_tL_law_2682  K23 h) rfl rfl (And.intro rfl (And.intro rfl (And.intro rfl (And.intro rfl (And.intro rfl (trivial))))))
  · refine qa_bn_1f (a := 2682) (b := 2599) hc458 rfl rfl ?_
    refine qa_bn_do (pc' := 2600) rfl rfl ?_
    cases h
    exact qa_bn_rb rfl rfl rfl
set_option maxRecDepth 1000000 in
theorem qa_tL_law_2601 {L N : Nat}   {k23 : Int32 → qa_T → Option (Bool × qa_T)} (K23 : ∀ (x4 : Int32) (σ : qa_T) (r : (Bool × qa_T)), k23 x4 σ = some r → qa_Bn L N qa_mL_law 23 [(0, .inl (0, 0)), (1, .inl (0, 1)), (2, .inl (10, 21)), (3, .inl (10, 29)), (4, .inr (.int x4))] [] σ (some (.inr (.int (qa_bi r.1)))) r.2) {x4 : Int32} {σ : qa_T} {r : (Bool × qa_T)} (h : qa_fL_law_2601 L k23 x4 σ = some r) : qa_Bn L (N + 1) qa_mL_law 2601 [(0, .inl (0, 0)), (1, .inl (0, 1)), (2, .inl (10, 21)), (3, .inl (10, 29)), (4, .inr (.int x4))] [] σ (some (.inr (.int (qa_bi r.1)))) r.2 := by
  unfold qa_fL_law_2601 at h
  try dsimp only at h
  refine qa_bn_do (pc' := 2602) rfl rfl ?_
  refine qa_bn_cv (qa_tX9_burnings rfl) rfl rfl rfl rfl rfl rfl rfl qa_dx_0_1 ?_
  refine qa_bn_do (pc' := 2606) rfl rfl ?_
  obtain ⟨c460, hc461, h⟩ := Option.bind_eq_some_iff.mp h
  refine qa_bn_cv (qa_tX10_burnings hc461) rfl rfl rfl rfl rfl rfl rfl qa_dx_10_21 ?_
  rcases qa_ite h with ⟨hc462, h⟩ | ⟨hc462, h⟩
  · refine qa_bn_1t (a := 2682) (b := 2612) hc462 rfl rfl ?_
    exact qa_bn_mono (N := N) (by omega) <| qa_bn_lw (qa_tL_law_2682  K23 h) rfl rfl (And.intro rfl (And.intro rfl (And.intro rfl (And.intro rfl (And.intro rfl (trivial))))))
  · refine qa_bn_1f (a := 2682) (b := 2612) hc462 rfl rfl ?_
    refine qa_bn_do (pc' := 2613) rfl rfl ?_
    cases h
    exact qa_bn_rb rfl rfl rfl
set_option maxRecDepth 1000000 in
theorem qa_tL_law_2614 {L N : Nat}   {k23 : Int32 → qa_T → Option (Bool × qa_T)} (K23 : ∀ (x4 : Int32) (σ : qa_T) (r : (Bool × qa_T)), k23 x4 σ = some r → qa_Bn L N qa_mL_law 23 [(0, .inl (0, 0)), (1, .inl (0, 1)), (2, .inl (10, 21)), (3, .inl (10, 29)), (4, .inr (.int x4))] [] σ (some (.inr (.int (qa_bi r.1)))) r.2) {x4 : Int32} {σ : qa_T} {r : (Bool × qa_T)} (h : qa_fL_law_2614 L k23 x4 σ = some r) : qa_Bn L (N + 1) qa_mL_law 2614 [(0, .inl (0, 0)), (1, .inl (0, 1)), (2, .inl (10, 21)), (3, .inl (10, 29)), (4, .inr (.int x4))] [] σ (some (.inr (.int (qa_bi r.1)))) r.2 := by
  unfold qa_fL_law_2614 at h
  try dsimp only at h
  refine qa_bn_do (pc' := 2615) rfl rfl ?_
  refine qa_bn_cv (qa_tX9_waited rfl) rfl rfl rfl rfl rfl rfl rfl qa_dx_0_1 ?_
  refine qa_bn_do (pc' := 2619) rfl rfl ?_
  obtain ⟨c464, hc465, h⟩ := Option.bind_eq_some_iff.mp h
  refine qa_bn_cv (qa_tX10_waited hc465) rfl rfl rfl rfl rfl rfl rfl qa_dx_10_21 ?_
  rcases qa_ite h with ⟨hc466, h⟩ | ⟨hc466, h⟩
  · refine qa_bn_1t (a := 2682) (b := 2625) hc466 rfl rfl ?_
    exact qa_bn_mono (N := N) (by omega) <| qa_bn_lw (qa_tL_law_2682  K23 h) rfl rfl (And.intro rfl (And.intro rfl (And.intro rfl (And.intro rfl (And.intro rfl (trivial))))))
  · refine qa_bn_1f (a := 2682) (b := 2625) hc466 rfl rfl ?_
    refine qa_bn_do (pc' := 2626) rfl rfl ?_
    cases h
    exact qa_bn_rb rfl rfl rfl
set_option maxRecDepth 1000000 in
theorem qa_tL_law_2665 {L N : Nat}   {k23 : Int32 → qa_T → Option (Bool × qa_T)} (K23 : ∀ (x4 : Int32) (σ : qa_T) (r : (Bool × qa_T)), k23 x4 σ = some r → qa_Bn L N qa_mL_law 23 [(0, .inl (0, 0)), (1, .inl (0, 1)), (2, .inl (10, 21)), (3, .inl (10, 29)), (4, .inr (.int x4))] [] σ (some (.inr (.int (qa_bi r.1)))) r.2) {x4 : Int32} {σ : qa_T} {r : (Bool × qa_T)} (h : qa_fL_law_2665 L k23 x4 σ = some r) : qa_Bn L N qa_mL_law 2665 [(0, .inl (0, 0)), (1, .inl (0, 1)), (2, .inl (10, 21)), (3, .inl (10, 29)), (4, .inr (.int x4))] [] σ (some (.inr (.int (qa_bi r.1)))) r.2 := by
  unfold qa_fL_law_2665 at h
  try dsimp only at h
  refine qa_bn_do (pc' := 2682) rfl rfl ?_
  exact qa_bn_mono (N := N) (by omega) <| qa_bn_lw (qa_tL_law_2682  K23 h) rfl rfl (And.intro rfl (And.intro rfl (And.intro rfl (And.intro rfl (And.intro rfl (trivial))))))
set_option maxRecDepth 1000000 in
theorem qa_tL_law_2663 {L N : Nat}   {σ : qa_T} {r : (Bool × qa_T)} (h : qa_fL_law_2663 L σ = some r) : qa_Bn L N qa_mL_law 2663 [(0, .inl (0, 0)), (1, .inl (0, 1)), (2, .inl (10, 21)), (3, .inl (10, 29))] [] σ (some (.inr (.int (qa_bi r.1)))) r.2 := by
  unfold qa_fL_law_2663 at h
  try dsimp only at h
  refine qa_bn_do (pc' := 2664) rfl rfl ?_
  cases h
  exact qa_bn_rb rfl rfl rfl
set_option maxRecDepth 1000000 in
theorem qa_tL_law_2627 {L N : Nat}   {k23 : Int32 → qa_T → Option (Bool × qa_T)} (K23 : ∀ (x4 : Int32) (σ : qa_T) (r : (Bool × qa_T)), k23 x4 σ = some r → qa_Bn L N qa_mL_law 23 [(0, .inl (0, 0)), (1, .inl (0, 1)), (2, .inl (10, 21)), (3, .inl (10, 29)), (4, .inr (.int x4))] [] σ (some (.inr (.int (qa_bi r.1)))) r.2) {x4 : Int32} {σ : qa_T} {r : (Bool × qa_T)} (h : qa_fL_law_2627 L k23 x4 σ = some r) : qa_Bn L (N + 1) qa_mL_law 2627 [(0, .inl (0, 0)), (1, .inl (0, 1)), (2, .inl (10, 21)), (3, .inl (10, 29)), (4, .inr (.int x4))] [] σ (some (.inr (.int (qa_bi r.1)))) r.2 := by
  unfold qa_fL_law_2627 at h
  try dsimp only at h
  refine qa_bn_do (pc' := 2628) rfl rfl ?_
  obtain ⟨c468, hc469, h⟩ := Option.bind_eq_some_iff.mp h
  refine qa_bn_cv (qa_tX9_hitShare hc469) rfl rfl rfl rfl rfl rfl rfl qa_dx_0_1 ?_
  refine qa_bn_do (pc' := 2633) (lv' := [(5, _), (0, _), (1, _), (2, _), (3, _), (4, _)]) rfl rfl ?_
  refine qa_bn_do (pc' := 2634) rfl rfl ?_
  obtain ⟨c470, hc471, h⟩ := Option.bind_eq_some_iff.mp h
  refine qa_bn_cv (qa_tX10_hitShare hc471) rfl rfl rfl rfl rfl rfl rfl qa_dx_10_21 ?_
  refine qa_bn_do (pc' := 2639) (lv' := [(7, _), (5, _), (0, _), (1, _), (2, _), (3, _), (4, _)]) rfl rfl ?_
  refine qa_bn_do (pc' := 2641) rfl rfl ?_
  refine qa_bn_do (pc' := 2643) rfl rfl ?_
  refine qa_bn_do (pc' := 2644) rfl rfl ?_
  rcases qa_ite h with ⟨hc472, h⟩ | ⟨hc472, h⟩
  · refine qa_bn_1t (a := 2665) (b := 2647) hc472 rfl rfl ?_
    exact qa_bn_mono (N := N) (by omega) <| qa_bn_lw (qa_tL_law_2665  K23 h) rfl rfl (And.intro rfl (And.intro rfl (And.intro rfl (And.intro rfl (And.intro rfl (trivial))))))
  · refine qa_bn_1f (a := 2665) (b := 2647) hc472 rfl rfl ?_
    refine qa_bn_do (pc' := 2649) rfl rfl ?_
    refine qa_bn_do (pc' := 2651) rfl rfl ?_
    refine qa_bn_do (pc' := 2652) rfl rfl ?_
    rcases qa_ite h with ⟨hc473, h⟩ | ⟨hc473, h⟩
    · refine qa_bn_1t (a := 2663) (b := 2655) hc473 rfl rfl ?_
      exact qa_bn_mono (N := N) (by omega) <| qa_bn_lw (qa_tL_law_2663  h) rfl rfl (And.intro rfl (And.intro rfl (And.intro rfl (And.intro rfl (trivial)))))
    · refine qa_bn_1f (a := 2663) (b := 2655) hc473 rfl rfl ?_
      refine qa_bn_do (pc' := 2657) rfl rfl ?_
      refine qa_bn_do (pc' := 2659) rfl rfl ?_
      refine qa_bn_do (pc' := 2660) rfl rfl ?_
      rcases qa_ite h with ⟨hc474, h⟩ | ⟨hc474, h⟩
      · refine qa_bn_1t (a := 2665) (b := 2663) hc474 rfl rfl ?_
        exact qa_bn_mono (N := N) (by omega) <| qa_bn_lw (qa_tL_law_2665  K23 h) rfl rfl (And.intro rfl (And.intro rfl (And.intro rfl (And.intro rfl (And.intro rfl (trivial))))))
      · refine qa_bn_1f (a := 2665) (b := 2663) hc474 rfl rfl ?_
        exact qa_bn_mono (N := N) (by omega) <| qa_bn_lw (qa_tL_law_2663  h) rfl rfl (And.intro rfl (And.intro rfl (And.intro rfl (And.intro rfl (trivial)))))
set_option maxRecDepth 1000000 in
theorem qa_tL_law_2668 {L N : Nat}   {k23 : Int32 → qa_T → Option (Bool × qa_T)} (K23 : ∀ (x4 : Int32) (σ : qa_T) (r : (Bool × qa_T)), k23 x4 σ = some r → qa_Bn L N qa_mL_law 23 [(0, .inl (0, 0)), (1, .inl (0, 1)), (2, .inl (10, 21)), (3, .inl (10, 29)), (4, .inr (.int x4))] [] σ (some (.inr (.int (qa_bi r.1)))) r.2) {x4 : Int32} {σ : qa_T} {r : (Bool × qa_T)} (h : qa_fL_law_2668 L k23 x4 σ = some r) : qa_Bn L (N + 1) qa_mL_law 2668 [(0, .inl (0, 0)), (1, .inl (0, 1)), (2, .inl (10, 21)), (3, .inl (10, 29)), (4, .inr (.int x4))] [] σ (some (.inr (.int (qa_bi r.1)))) r.2 := by
  unfold qa_fL_law_2668 at h
  try dsimp only at h
  refine qa_bn_do (pc' := 2669) rfl rfl ?_
  obtain ⟨c476, hc477, h⟩ := Option.bind_eq_some_iff.mp h
  refine qa_bn_cv (qa_tX9_digest hc477) rfl rfl rfl rfl rfl rfl rfl qa_dx_0_1 ?_
  refine qa_bn_do (pc' := 2673) rfl rfl ?_
  obtain ⟨c478, hc479, h⟩ := Option.bind_eq_some_iff.mp h
  refine qa_bn_cv (qa_tX10_digest hc479) rfl rfl rfl rfl rfl rfl rfl qa_dx_10_21 ?_
  refine qa_bn_do (pc' := 2677) rfl rfl ?_
  rcases qa_ite h with ⟨hc480, h⟩ | ⟨hc480, h⟩
  · refine qa_bn_1t (a := 2682) (b := 2680) hc480 rfl rfl ?_
    exact qa_bn_mono (N := N) (by omega) <| qa_bn_lw (qa_tL_law_2682  K23 h) rfl rfl (And.intro rfl (And.intro rfl (And.intro rfl (And.intro rfl (And.intro rfl (trivial))))))
  · refine qa_bn_1f (a := 2682) (b := 2680) hc480 rfl rfl ?_
    refine qa_bn_do (pc' := 2681) rfl rfl ?_
    cases h
    exact qa_bn_rb rfl rfl rfl
set_option maxRecDepth 1000000 in
theorem qa_tL_law_23 {L : Nat}   : ∀ (n : Nat) (x4 : Int32) (σ : qa_T) (r : (Bool × qa_T)), qa_fL_law_23 L n x4 σ = some r → qa_Bn L n qa_mL_law 23 [(0, .inl (0, 0)), (1, .inl (0, 1)), (2, .inl (10, 21)), (3, .inl (10, 29)), (4, .inr (.int x4))] [] σ (some (.inr (.int (qa_bi r.1)))) r.2 := by
  intro n
  induction n with
  | zero => intro x4 σ r h; cases h
  | succ n ih =>
    intro x4 σ r h
    unfold qa_fL_law_23 at h
    try dsimp only at h
    refine qa_bn_do (pc' := 25) rfl rfl ?_
    refine qa_bn_do (pc' := 26) rfl rfl ?_
    refine qa_bn_al rfl qa_dx_0_0 (Or.inr rfl) ?_
    refine qa_bn_do (pc' := 28) rfl rfl ?_
    refine qa_bn_do (pc' := 29) rfl rfl ?_
    rcases qa_ite h with ⟨hc1, h⟩ | ⟨hc1, h⟩
    · refine qa_bn_1t (a := 2688) (b := 32) hc1 rfl rfl ?_
      refine qa_bn_do (pc' := 2689) rfl rfl ?_
      cases h
      exact qa_bn_rb rfl rfl rfl
    · refine qa_bn_1f (a := 2688) (b := 32) hc1 rfl rfl ?_
      refine qa_bn_do (pc' := 33) rfl rfl ?_
      refine qa_bn_do (pc' := 35) rfl rfl ?_
      rcases qa_ite h with ⟨_, h⟩ | ⟨hc2, h⟩
      · cases h
      refine qa_bn_ia rfl qa_dx_0_0 (Or.inr rfl) (Decidable.of_not_not hc2) ?_
      refine qa_bn_do (pc' := 38) rfl rfl ?_
      refine qa_bn_do (pc' := 39) rfl rfl ?_
      rcases qa_ite h with ⟨hc4, h⟩ | ⟨hc4, h⟩
      · refine qa_bn_tb (pc' := 304) (off := 265) (k := 0) rfl (by rw [hc4]; rfl) (by decide) rfl (by decide) rfl ?_
        exact qa_bn_mono (N := n + 1) (by omega) <| qa_bn_lw (qa_tL_law_304  ih h) rfl rfl (And.intro rfl (And.intro rfl (And.intro rfl (And.intro rfl (And.intro rfl (trivial))))))
      rcases qa_ite h with ⟨hc19, h⟩ | ⟨hc19, h⟩
      · refine qa_bn_tb (pc' := 384) (off := 345) (k := 1) rfl (by rw [hc19]; rfl) (by decide) rfl (by decide) rfl ?_
        exact qa_bn_mono (N := n + 1) (by omega) <| qa_bn_lw (qa_tL_law_384  ih h) rfl rfl (And.intro rfl (And.intro rfl (And.intro rfl (And.intro rfl (And.intro rfl (trivial))))))
      rcases qa_ite h with ⟨hc31, h⟩ | ⟨hc31, h⟩
      · refine qa_bn_tb (pc' := 452) (off := 413) (k := 2) rfl (by rw [hc31]; rfl) (by decide) rfl (by decide) rfl ?_
        exact qa_bn_mono (N := n + 1) (by omega) <| qa_bn_lw (qa_tL_law_452  ih h) rfl rfl (And.intro rfl (And.intro rfl (And.intro rfl (And.intro rfl (And.intro rfl (trivial))))))
      rcases qa_ite h with ⟨hc41, h⟩ | ⟨hc41, h⟩
      · refine qa_bn_tb (pc' := 508) (off := 469) (k := 3) rfl (by rw [hc41]; rfl) (by decide) rfl (by decide) rfl ?_
        exact qa_bn_mono (N := n + 1) (by omega) <| qa_bn_lw (qa_tL_law_508  ih h) rfl rfl (And.intro rfl (And.intro rfl (And.intro rfl (And.intro rfl (And.intro rfl (trivial))))))
      rcases qa_ite h with ⟨hc51, h⟩ | ⟨hc51, h⟩
      · refine qa_bn_tb (pc' := 559) (off := 520) (k := 4) rfl (by rw [hc51]; rfl) (by decide) rfl (by decide) rfl ?_
        exact qa_bn_mono (N := n + 1) (by omega) <| qa_bn_lw (qa_tL_law_559  ih h) rfl rfl (And.intro rfl (And.intro rfl (And.intro rfl (And.intro rfl (And.intro rfl (trivial))))))
      rcases qa_ite h with ⟨hc61, h⟩ | ⟨hc61, h⟩
      · refine qa_bn_tb (pc' := 615) (off := 576) (k := 5) rfl (by rw [hc61]; rfl) (by decide) rfl (by decide) rfl ?_
        exact qa_bn_mono (N := n + 1) (by omega) <| qa_bn_lw (qa_tL_law_615  ih h) rfl rfl (And.intro rfl (And.intro rfl (And.intro rfl (And.intro rfl (And.intro rfl (trivial))))))
      rcases qa_ite h with ⟨hc71, h⟩ | ⟨hc71, h⟩
      · refine qa_bn_tb (pc' := 671) (off := 632) (k := 6) rfl (by rw [hc71]; rfl) (by decide) rfl (by decide) rfl ?_
        exact qa_bn_mono (N := n + 1) (by omega) <| qa_bn_lw (qa_tL_law_671  ih h) rfl rfl (And.intro rfl (And.intro rfl (And.intro rfl (And.intro rfl (And.intro rfl (trivial))))))
      rcases qa_ite h with ⟨hc81, h⟩ | ⟨hc81, h⟩
      · refine qa_bn_tb (pc' := 727) (off := 688) (k := 7) rfl (by rw [hc81]; rfl) (by decide) rfl (by decide) rfl ?_
        exact qa_bn_mono (N := n + 1) (by omega) <| qa_bn_lw (qa_tL_law_727  ih h) rfl rfl (And.intro rfl (And.intro rfl (And.intro rfl (And.intro rfl (And.intro rfl (trivial))))))
      rcases qa_ite h with ⟨hc91, h⟩ | ⟨hc91, h⟩
      · refine qa_bn_tb (pc' := 783) (off := 744) (k := 8) rfl (by rw [hc91]; rfl) (by decide) rfl (by decide) rfl ?_
        exact qa_bn_mono (N := n + 1) (by omega) <| qa_bn_lw (qa_tL_law_783  ih h) rfl rfl (And.intro rfl (And.intro rfl (And.intro rfl (And.intro rfl (And.intro rfl (trivial))))))
      rcases qa_ite h with ⟨hc101, h⟩ | ⟨hc101, h⟩
      · refine qa_bn_tb (pc' := 839) (off := 800) (k := 9) rfl (by rw [hc101]; rfl) (by decide) rfl (by decide) rfl ?_
        exact qa_bn_mono (N := n + 1) (by omega) <| qa_bn_lw (qa_tL_law_839  ih h) rfl rfl (And.intro rfl (And.intro rfl (And.intro rfl (And.intro rfl (And.intro rfl (trivial))))))
      rcases qa_ite h with ⟨hc111, h⟩ | ⟨hc111, h⟩
      · refine qa_bn_tb (pc' := 895) (off := 856) (k := 10) rfl (by rw [hc111]; rfl) (by decide) rfl (by decide) rfl ?_
        exact qa_bn_mono (N := n + 1) (by omega) <| qa_bn_lw (qa_tL_law_895  ih h) rfl rfl (And.intro rfl (And.intro rfl (And.intro rfl (And.intro rfl (And.intro rfl (trivial))))))
      rcases qa_ite h with ⟨hc121, h⟩ | ⟨hc121, h⟩
      · refine qa_bn_tb (pc' := 951) (off := 912) (k := 11) rfl (by rw [hc121]; rfl) (by decide) rfl (by decide) rfl ?_
        exact qa_bn_mono (N := n + 1) (by omega) <| qa_bn_lw (qa_tL_law_951  ih h) rfl rfl (And.intro rfl (And.intro rfl (And.intro rfl (And.intro rfl (And.intro rfl (trivial))))))
      rcases qa_ite h with ⟨hc131, h⟩ | ⟨hc131, h⟩
      · refine qa_bn_tb (pc' := 1007) (off := 968) (k := 12) rfl (by rw [hc131]; rfl) (by decide) rfl (by decide) rfl ?_
        exact qa_bn_mono (N := n + 1) (by omega) <| qa_bn_lw (qa_tL_law_1007  ih h) rfl rfl (And.intro rfl (And.intro rfl (And.intro rfl (And.intro rfl (And.intro rfl (trivial))))))
      rcases qa_ite h with ⟨hc141, h⟩ | ⟨hc141, h⟩
      · refine qa_bn_tb (pc' := 1063) (off := 1024) (k := 13) rfl (by rw [hc141]; rfl) (by decide) rfl (by decide) rfl ?_
        exact qa_bn_mono (N := n + 1) (by omega) <| qa_bn_lw (qa_tL_law_1063  ih h) rfl rfl (And.intro rfl (And.intro rfl (And.intro rfl (And.intro rfl (And.intro rfl (trivial))))))
      rcases qa_ite h with ⟨hc145, h⟩ | ⟨hc145, h⟩
      · refine qa_bn_tb (pc' := 1076) (off := 1037) (k := 14) rfl (by rw [hc145]; rfl) (by decide) rfl (by decide) rfl ?_
        exact qa_bn_mono (N := n + 1) (by omega) <| qa_bn_lw (qa_tL_law_1076  ih h) rfl rfl (And.intro rfl (And.intro rfl (And.intro rfl (And.intro rfl (And.intro rfl (trivial))))))
      rcases qa_ite h with ⟨hc151, h⟩ | ⟨hc151, h⟩
      · refine qa_bn_tb (pc' := 1089) (off := 1050) (k := 15) rfl (by rw [hc151]; rfl) (by decide) rfl (by decide) rfl ?_
        exact qa_bn_mono (N := n + 1) (by omega) <| qa_bn_lw (qa_tL_law_1089  ih h) rfl rfl (And.intro rfl (And.intro rfl (And.intro rfl (And.intro rfl (And.intro rfl (trivial))))))
      rcases qa_ite h with ⟨hc159, h⟩ | ⟨hc159, h⟩
      · refine qa_bn_tb (pc' := 1133) (off := 1094) (k := 16) rfl (by rw [hc159]; rfl) (by decide) rfl (by decide) rfl ?_
        exact qa_bn_mono (N := n + 1) (by omega) <| qa_bn_lw (qa_tL_law_1133  ih h) rfl rfl (And.intro rfl (And.intro rfl (And.intro rfl (And.intro rfl (And.intro rfl (trivial))))))
      rcases qa_ite h with ⟨hc167, h⟩ | ⟨hc167, h⟩
      · refine qa_bn_tb (pc' := 1169) (off := 1130) (k := 17) rfl (by rw [hc167]; rfl) (by decide) rfl (by decide) rfl ?_
        exact qa_bn_mono (N := n + 1) (by omega) <| qa_bn_lw (qa_tL_law_1169  ih h) rfl rfl (And.intro rfl (And.intro rfl (And.intro rfl (And.intro rfl (And.intro rfl (trivial))))))
      rcases qa_ite h with ⟨hc175, h⟩ | ⟨hc175, h⟩
      · refine qa_bn_tb (pc' := 1205) (off := 1166) (k := 18) rfl (by rw [hc175]; rfl) (by decide) rfl (by decide) rfl ?_
        exact qa_bn_mono (N := n + 1) (by omega) <| qa_bn_lw (qa_tL_law_1205  ih h) rfl rfl (And.intro rfl (And.intro rfl (And.intro rfl (And.intro rfl (And.intro rfl (trivial))))))
      rcases qa_ite h with ⟨hc181, h⟩ | ⟨hc181, h⟩
      · refine qa_bn_tb (pc' := 1229) (off := 1190) (k := 19) rfl (by rw [hc181]; rfl) (by decide) rfl (by decide) rfl ?_
        exact qa_bn_mono (N := n + 1) (by omega) <| qa_bn_lw (qa_tL_law_1229  ih h) rfl rfl (And.intro rfl (And.intro rfl (And.intro rfl (And.intro rfl (And.intro rfl (trivial))))))
      rcases qa_ite h with ⟨hc184, h⟩ | ⟨hc184, h⟩
      · refine qa_bn_tb (pc' := 1242) (off := 1203) (k := 20) rfl (by rw [hc184]; rfl) (by decide) rfl (by decide) rfl ?_
        exact qa_bn_mono (N := n + 1) (by omega) <| qa_bn_lw (qa_tL_law_1242  ih h) rfl rfl (And.intro rfl (And.intro rfl (And.intro rfl (And.intro rfl (And.intro rfl (trivial))))))
      rcases qa_ite h with ⟨hc188, h⟩ | ⟨hc188, h⟩
      · refine qa_bn_tb (pc' := 1255) (off := 1216) (k := 21) rfl (by rw [hc188]; rfl) (by decide) rfl (by decide) rfl ?_
        exact qa_bn_mono (N := n + 1) (by omega) <| qa_bn_lw (qa_tL_law_1255  ih h) rfl rfl (And.intro rfl (And.intro rfl (And.intro rfl (And.intro rfl (And.intro rfl (trivial))))))
      rcases qa_ite h with ⟨hc198, h⟩ | ⟨hc198, h⟩
      · refine qa_bn_tb (pc' := 1311) (off := 1272) (k := 22) rfl (by rw [hc198]; rfl) (by decide) rfl (by decide) rfl ?_
        exact qa_bn_mono (N := n + 1) (by omega) <| qa_bn_lw (qa_tL_law_1311  ih h) rfl rfl (And.intro rfl (And.intro rfl (And.intro rfl (And.intro rfl (And.intro rfl (trivial))))))
      rcases qa_ite h with ⟨hc208, h⟩ | ⟨hc208, h⟩
      · refine qa_bn_tb (pc' := 1367) (off := 1328) (k := 23) rfl (by rw [hc208]; rfl) (by decide) rfl (by decide) rfl ?_
        exact qa_bn_mono (N := n + 1) (by omega) <| qa_bn_lw (qa_tL_law_1367  ih h) rfl rfl (And.intro rfl (And.intro rfl (And.intro rfl (And.intro rfl (And.intro rfl (trivial))))))
      rcases qa_ite h with ⟨hc218, h⟩ | ⟨hc218, h⟩
      · refine qa_bn_tb (pc' := 1423) (off := 1384) (k := 24) rfl (by rw [hc218]; rfl) (by decide) rfl (by decide) rfl ?_
        exact qa_bn_mono (N := n + 1) (by omega) <| qa_bn_lw (qa_tL_law_1423  ih h) rfl rfl (And.intro rfl (And.intro rfl (And.intro rfl (And.intro rfl (And.intro rfl (trivial))))))
      rcases qa_ite h with ⟨hc230, h⟩ | ⟨hc230, h⟩
      · refine qa_bn_tb (pc' := 1486) (off := 1447) (k := 25) rfl (by rw [hc230]; rfl) (by decide) rfl (by decide) rfl ?_
        exact qa_bn_mono (N := n + 1) (by omega) <| qa_bn_lw (qa_tL_law_1486  ih h) rfl rfl (And.intro rfl (And.intro rfl (And.intro rfl (And.intro rfl (And.intro rfl (trivial))))))
      rcases qa_ite h with ⟨hc241, h⟩ | ⟨hc241, h⟩
      · refine qa_bn_tb (pc' := 1549) (off := 1510) (k := 26) rfl (by rw [hc241]; rfl) (by decide) rfl (by decide) rfl ?_
        exact qa_bn_mono (N := n + 1) (by omega) <| qa_bn_lw (qa_tL_law_1549  ih h) rfl rfl (And.intro rfl (And.intro rfl (And.intro rfl (And.intro rfl (And.intro rfl (trivial))))))
      rcases qa_ite h with ⟨hc251, h⟩ | ⟨hc251, h⟩
      · refine qa_bn_tb (pc' := 1605) (off := 1566) (k := 27) rfl (by rw [hc251]; rfl) (by decide) rfl (by decide) rfl ?_
        exact qa_bn_mono (N := n + 1) (by omega) <| qa_bn_lw (qa_tL_law_1605  ih h) rfl rfl (And.intro rfl (And.intro rfl (And.intro rfl (And.intro rfl (And.intro rfl (trivial))))))
      rcases qa_ite h with ⟨hc261, h⟩ | ⟨hc261, h⟩
      · refine qa_bn_tb (pc' := 1661) (off := 1622) (k := 28) rfl (by rw [hc261]; rfl) (by decide) rfl (by decide) rfl ?_
        exact qa_bn_mono (N := n + 1) (by omega) <| qa_bn_lw (qa_tL_law_1661  ih h) rfl rfl (And.intro rfl (And.intro rfl (And.intro rfl (And.intro rfl (And.intro rfl (trivial))))))
      rcases qa_ite h with ⟨hc271, h⟩ | ⟨hc271, h⟩
      · refine qa_bn_tb (pc' := 1717) (off := 1678) (k := 29) rfl (by rw [hc271]; rfl) (by decide) rfl (by decide) rfl ?_
        exact qa_bn_mono (N := n + 1) (by omega) <| qa_bn_lw (qa_tL_law_1717  ih h) rfl rfl (And.intro rfl (And.intro rfl (And.intro rfl (And.intro rfl (And.intro rfl (trivial))))))
      rcases qa_ite h with ⟨hc281, h⟩ | ⟨hc281, h⟩
      · refine qa_bn_tb (pc' := 1773) (off := 1734) (k := 30) rfl (by rw [hc281]; rfl) (by decide) rfl (by decide) rfl ?_
        exact qa_bn_mono (N := n + 1) (by omega) <| qa_bn_lw (qa_tL_law_1773  ih h) rfl rfl (And.intro rfl (And.intro rfl (And.intro rfl (And.intro rfl (And.intro rfl (trivial))))))
      rcases qa_ite h with ⟨hc285, h⟩ | ⟨hc285, h⟩
      · refine qa_bn_tb (pc' := 1786) (off := 1747) (k := 31) rfl (by rw [hc285]; rfl) (by decide) rfl (by decide) rfl ?_
        exact qa_bn_mono (N := n + 1) (by omega) <| qa_bn_lw (qa_tL_law_1786  ih h) rfl rfl (And.intro rfl (And.intro rfl (And.intro rfl (And.intro rfl (And.intro rfl (trivial))))))
      rcases qa_ite h with ⟨hc295, h⟩ | ⟨hc295, h⟩
      · refine qa_bn_tb (pc' := 1842) (off := 1803) (k := 32) rfl (by rw [hc295]; rfl) (by decide) rfl (by decide) rfl ?_
        exact qa_bn_mono (N := n + 1) (by omega) <| qa_bn_lw (qa_tL_law_1842  ih h) rfl rfl (And.intro rfl (And.intro rfl (And.intro rfl (And.intro rfl (And.intro rfl (trivial))))))
      rcases qa_ite h with ⟨hc303, h⟩ | ⟨hc303, h⟩
      · refine qa_bn_tb (pc' := 1886) (off := 1847) (k := 33) rfl (by rw [hc303]; rfl) (by decide) rfl (by decide) rfl ?_
        exact qa_bn_mono (N := n + 1) (by omega) <| qa_bn_lw (qa_tL_law_1886  ih h) rfl rfl (And.intro rfl (And.intro rfl (And.intro rfl (And.intro rfl (And.intro rfl (trivial))))))
      rcases qa_ite h with ⟨hc311, h⟩ | ⟨hc311, h⟩
      · refine qa_bn_tb (pc' := 1930) (off := 1891) (k := 34) rfl (by rw [hc311]; rfl) (by decide) rfl (by decide) rfl ?_
        exact qa_bn_mono (N := n + 1) (by omega) <| qa_bn_lw (qa_tL_law_1930  ih h) rfl rfl (And.intro rfl (And.intro rfl (And.intro rfl (And.intro rfl (And.intro rfl (trivial))))))
      rcases qa_ite h with ⟨hc319, h⟩ | ⟨hc319, h⟩
      · refine qa_bn_tb (pc' := 1974) (off := 1935) (k := 35) rfl (by rw [hc319]; rfl) (by decide) rfl (by decide) rfl ?_
        exact qa_bn_mono (N := n + 1) (by omega) <| qa_bn_lw (qa_tL_law_1974  ih h) rfl rfl (And.intro rfl (And.intro rfl (And.intro rfl (And.intro rfl (And.intro rfl (trivial))))))
      rcases qa_ite h with ⟨hc323, h⟩ | ⟨hc323, h⟩
      · refine qa_bn_tb (pc' := 1987) (off := 1948) (k := 36) rfl (by rw [hc323]; rfl) (by decide) rfl (by decide) rfl ?_
        exact qa_bn_mono (N := n + 1) (by omega) <| qa_bn_lw (qa_tL_law_1987  ih h) rfl rfl (And.intro rfl (And.intro rfl (And.intro rfl (And.intro rfl (And.intro rfl (trivial))))))
      rcases qa_ite h with ⟨hc331, h⟩ | ⟨hc331, h⟩
      · refine qa_bn_tb (pc' := 2031) (off := 1992) (k := 37) rfl (by rw [hc331]; rfl) (by decide) rfl (by decide) rfl ?_
        exact qa_bn_mono (N := n + 1) (by omega) <| qa_bn_lw (qa_tL_law_2031  ih h) rfl rfl (And.intro rfl (And.intro rfl (And.intro rfl (And.intro rfl (And.intro rfl (trivial))))))
      rcases qa_ite h with ⟨hc339, h⟩ | ⟨hc339, h⟩
      · refine qa_bn_tb (pc' := 2075) (off := 2036) (k := 38) rfl (by rw [hc339]; rfl) (by decide) rfl (by decide) rfl ?_
        exact qa_bn_mono (N := n + 1) (by omega) <| qa_bn_lw (qa_tL_law_2075  ih h) rfl rfl (And.intro rfl (And.intro rfl (And.intro rfl (And.intro rfl (And.intro rfl (trivial))))))
      rcases qa_ite h with ⟨hc347, h⟩ | ⟨hc347, h⟩
      · refine qa_bn_tb (pc' := 2119) (off := 2080) (k := 39) rfl (by rw [hc347]; rfl) (by decide) rfl (by decide) rfl ?_
        exact qa_bn_mono (N := n + 1) (by omega) <| qa_bn_lw (qa_tL_law_2119  ih h) rfl rfl (And.intro rfl (And.intro rfl (And.intro rfl (And.intro rfl (And.intro rfl (trivial))))))
      rcases qa_ite h with ⟨hc351, h⟩ | ⟨hc351, h⟩
      · refine qa_bn_tb (pc' := 2132) (off := 2093) (k := 40) rfl (by rw [hc351]; rfl) (by decide) rfl (by decide) rfl ?_
        exact qa_bn_mono (N := n + 1) (by omega) <| qa_bn_lw (qa_tL_law_2132  ih h) rfl rfl (And.intro rfl (And.intro rfl (And.intro rfl (And.intro rfl (And.intro rfl (trivial))))))
      rcases qa_ite h with ⟨hc355, h⟩ | ⟨hc355, h⟩
      · refine qa_bn_tb (pc' := 2145) (off := 2106) (k := 41) rfl (by rw [hc355]; rfl) (by decide) rfl (by decide) rfl ?_
        exact qa_bn_mono (N := n + 1) (by omega) <| qa_bn_lw (qa_tL_law_2145  ih h) rfl rfl (And.intro rfl (And.intro rfl (And.intro rfl (And.intro rfl (And.intro rfl (trivial))))))
      rcases qa_ite h with ⟨hc365, h⟩ | ⟨hc365, h⟩
      · refine qa_bn_tb (pc' := 2201) (off := 2162) (k := 42) rfl (by rw [hc365]; rfl) (by decide) rfl (by decide) rfl ?_
        exact qa_bn_mono (N := n + 1) (by omega) <| qa_bn_lw (qa_tL_law_2201  ih h) rfl rfl (And.intro rfl (And.intro rfl (And.intro rfl (And.intro rfl (And.intro rfl (trivial))))))
      rcases qa_ite h with ⟨hc371, h⟩ | ⟨hc371, h⟩
      · refine qa_bn_tb (pc' := 2214) (off := 2175) (k := 43) rfl (by rw [hc371]; rfl) (by decide) rfl (by decide) rfl ?_
        exact qa_bn_mono (N := n + 1) (by omega) <| qa_bn_lw (qa_tL_law_2214  ih h) rfl rfl (And.intro rfl (And.intro rfl (And.intro rfl (And.intro rfl (And.intro rfl (trivial))))))
      rcases qa_ite h with ⟨hc375, h⟩ | ⟨hc375, h⟩
      · refine qa_bn_tb (pc' := 2227) (off := 2188) (k := 44) rfl (by rw [hc375]; rfl) (by decide) rfl (by decide) rfl ?_
        exact qa_bn_mono (N := n + 1) (by omega) <| qa_bn_lw (qa_tL_law_2227  ih h) rfl rfl (And.intro rfl (And.intro rfl (And.intro rfl (And.intro rfl (And.intro rfl (trivial))))))
      rcases qa_ite h with ⟨hc379, h⟩ | ⟨hc379, h⟩
      · refine qa_bn_tb (pc' := 2240) (off := 2201) (k := 45) rfl (by rw [hc379]; rfl) (by decide) rfl (by decide) rfl ?_
        exact qa_bn_mono (N := n + 1) (by omega) <| qa_bn_lw (qa_tL_law_2240  ih h) rfl rfl (And.intro rfl (And.intro rfl (And.intro rfl (And.intro rfl (And.intro rfl (trivial))))))
      rcases qa_ite h with ⟨hc383, h⟩ | ⟨hc383, h⟩
      · refine qa_bn_tb (pc' := 2253) (off := 2214) (k := 46) rfl (by rw [hc383]; rfl) (by decide) rfl (by decide) rfl ?_
        exact qa_bn_mono (N := n + 1) (by omega) <| qa_bn_lw (qa_tL_law_2253  ih h) rfl rfl (And.intro rfl (And.intro rfl (And.intro rfl (And.intro rfl (And.intro rfl (trivial))))))
      rcases qa_ite h with ⟨hc387, h⟩ | ⟨hc387, h⟩
      · refine qa_bn_tb (pc' := 2266) (off := 2227) (k := 47) rfl (by rw [hc387]; rfl) (by decide) rfl (by decide) rfl ?_
        exact qa_bn_mono (N := n + 1) (by omega) <| qa_bn_lw (qa_tL_law_2266  ih h) rfl rfl (And.intro rfl (And.intro rfl (And.intro rfl (And.intro rfl (And.intro rfl (trivial))))))
      rcases qa_ite h with ⟨hc391, h⟩ | ⟨hc391, h⟩
      · refine qa_bn_tb (pc' := 2279) (off := 2240) (k := 48) rfl (by rw [hc391]; rfl) (by decide) rfl (by decide) rfl ?_
        exact qa_bn_mono (N := n + 1) (by omega) <| qa_bn_lw (qa_tL_law_2279  ih h) rfl rfl (And.intro rfl (And.intro rfl (And.intro rfl (And.intro rfl (And.intro rfl (trivial))))))
      rcases qa_ite h with ⟨hc395, h⟩ | ⟨hc395, h⟩
      · refine qa_bn_tb (pc' := 2292) (off := 2253) (k := 49) rfl (by rw [hc395]; rfl) (by decide) rfl (by decide) rfl ?_
        exact qa_bn_mono (N := n + 1) (by omega) <| qa_bn_lw (qa_tL_law_2292  ih h) rfl rfl (And.intro rfl (And.intro rfl (And.intro rfl (And.intro rfl (And.intro rfl (trivial))))))
      rcases qa_ite h with ⟨hc403, h⟩ | ⟨hc403, h⟩
      · refine qa_bn_tb (pc' := 2336) (off := 2297) (k := 50) rfl (by rw [hc403]; rfl) (by decide) rfl (by decide) rfl ?_
        exact qa_bn_mono (N := n + 1) (by omega) <| qa_bn_lw (qa_tL_law_2336  ih h) rfl rfl (And.intro rfl (And.intro rfl (And.intro rfl (And.intro rfl (And.intro rfl (trivial))))))
      rcases qa_ite h with ⟨hc411, h⟩ | ⟨hc411, h⟩
      · refine qa_bn_tb (pc' := 2380) (off := 2341) (k := 51) rfl (by rw [hc411]; rfl) (by decide) rfl (by decide) rfl ?_
        exact qa_bn_mono (N := n + 1) (by omega) <| qa_bn_lw (qa_tL_law_2380  ih h) rfl rfl (And.intro rfl (And.intro rfl (And.intro rfl (And.intro rfl (And.intro rfl (trivial))))))
      rcases qa_ite h with ⟨hc421, h⟩ | ⟨hc421, h⟩
      · refine qa_bn_tb (pc' := 2436) (off := 2397) (k := 52) rfl (by rw [hc421]; rfl) (by decide) rfl (by decide) rfl ?_
        exact qa_bn_mono (N := n + 1) (by omega) <| qa_bn_lw (qa_tL_law_2436  ih h) rfl rfl (And.intro rfl (And.intro rfl (And.intro rfl (And.intro rfl (And.intro rfl (trivial))))))
      rcases qa_ite h with ⟨hc431, h⟩ | ⟨hc431, h⟩
      · refine qa_bn_tb (pc' := 2492) (off := 2453) (k := 53) rfl (by rw [hc431]; rfl) (by decide) rfl (by decide) rfl ?_
        exact qa_bn_mono (N := n + 1) (by omega) <| qa_bn_lw (qa_tL_law_2492  ih h) rfl rfl (And.intro rfl (And.intro rfl (And.intro rfl (And.intro rfl (And.intro rfl (trivial))))))
      rcases qa_ite h with ⟨hc439, h⟩ | ⟨hc439, h⟩
      · refine qa_bn_tb (pc' := 2536) (off := 2497) (k := 54) rfl (by rw [hc439]; rfl) (by decide) rfl (by decide) rfl ?_
        exact qa_bn_mono (N := n + 1) (by omega) <| qa_bn_lw (qa_tL_law_2536  ih h) rfl rfl (And.intro rfl (And.intro rfl (And.intro rfl (And.intro rfl (And.intro rfl (trivial))))))
      rcases qa_ite h with ⟨hc443, h⟩ | ⟨hc443, h⟩
      · refine qa_bn_tb (pc' := 2549) (off := 2510) (k := 55) rfl (by rw [hc443]; rfl) (by decide) rfl (by decide) rfl ?_
        exact qa_bn_mono (N := n + 1) (by omega) <| qa_bn_lw (qa_tL_law_2549  ih h) rfl rfl (And.intro rfl (And.intro rfl (And.intro rfl (And.intro rfl (And.intro rfl (trivial))))))
      rcases qa_ite h with ⟨hc447, h⟩ | ⟨hc447, h⟩
      · refine qa_bn_tb (pc' := 2562) (off := 2523) (k := 56) rfl (by rw [hc447]; rfl) (by decide) rfl (by decide) rfl ?_
        exact qa_bn_mono (N := n + 1) (by omega) <| qa_bn_lw (qa_tL_law_2562  ih h) rfl rfl (And.intro rfl (And.intro rfl (And.intro rfl (And.intro rfl (And.intro rfl (trivial))))))
      rcases qa_ite h with ⟨hc451, h⟩ | ⟨hc451, h⟩
      · refine qa_bn_tb (pc' := 2575) (off := 2536) (k := 57) rfl (by rw [hc451]; rfl) (by decide) rfl (by decide) rfl ?_
        exact qa_bn_mono (N := n + 1) (by omega) <| qa_bn_lw (qa_tL_law_2575  ih h) rfl rfl (And.intro rfl (And.intro rfl (And.intro rfl (And.intro rfl (And.intro rfl (trivial))))))
      rcases qa_ite h with ⟨hc455, h⟩ | ⟨hc455, h⟩
      · refine qa_bn_tb (pc' := 2588) (off := 2549) (k := 58) rfl (by rw [hc455]; rfl) (by decide) rfl (by decide) rfl ?_
        exact qa_bn_mono (N := n + 1) (by omega) <| qa_bn_lw (qa_tL_law_2588  ih h) rfl rfl (And.intro rfl (And.intro rfl (And.intro rfl (And.intro rfl (And.intro rfl (trivial))))))
      rcases qa_ite h with ⟨hc459, h⟩ | ⟨hc459, h⟩
      · refine qa_bn_tb (pc' := 2601) (off := 2562) (k := 59) rfl (by rw [hc459]; rfl) (by decide) rfl (by decide) rfl ?_
        exact qa_bn_mono (N := n + 1) (by omega) <| qa_bn_lw (qa_tL_law_2601  ih h) rfl rfl (And.intro rfl (And.intro rfl (And.intro rfl (And.intro rfl (And.intro rfl (trivial))))))
      rcases qa_ite h with ⟨hc463, h⟩ | ⟨hc463, h⟩
      · refine qa_bn_tb (pc' := 2614) (off := 2575) (k := 60) rfl (by rw [hc463]; rfl) (by decide) rfl (by decide) rfl ?_
        exact qa_bn_mono (N := n + 1) (by omega) <| qa_bn_lw (qa_tL_law_2614  ih h) rfl rfl (And.intro rfl (And.intro rfl (And.intro rfl (And.intro rfl (And.intro rfl (trivial))))))
      rcases qa_ite h with ⟨hc467, h⟩ | ⟨hc467, h⟩
      · refine qa_bn_tb (pc' := 2627) (off := 2588) (k := 61) rfl (by rw [hc467]; rfl) (by decide) rfl (by decide) rfl ?_
        exact qa_bn_mono (N := n + 1) (by omega) <| qa_bn_lw (qa_tL_law_2627  ih h) rfl rfl (And.intro rfl (And.intro rfl (And.intro rfl (And.intro rfl (And.intro rfl (trivial))))))
      rcases qa_ite h with ⟨hc475, h⟩ | ⟨hc475, h⟩
      · refine qa_bn_tb (pc' := 2668) (off := 2629) (k := 62) rfl (by rw [hc475]; rfl) (by decide) rfl (by decide) rfl ?_
        exact qa_bn_mono (N := n + 1) (by omega) <| qa_bn_lw (qa_tL_law_2668  ih h) rfl rfl (And.intro rfl (And.intro rfl (And.intro rfl (And.intro rfl (And.intro rfl (trivial))))))
      refine qa_bn_td (pc' := 2682) rfl (qa_out 62 (fun k hk => match k, hk with
        | 0, _ => lv_neT hc4 (by decide)
        | 1, _ => lv_neT hc19 (by decide)
        | 2, _ => lv_neT hc31 (by decide)
        | 3, _ => lv_neT hc41 (by decide)
        | 4, _ => lv_neT hc51 (by decide)
        | 5, _ => lv_neT hc61 (by decide)
        | 6, _ => lv_neT hc71 (by decide)
        | 7, _ => lv_neT hc81 (by decide)
        | 8, _ => lv_neT hc91 (by decide)
        | 9, _ => lv_neT hc101 (by decide)
        | 10, _ => lv_neT hc111 (by decide)
        | 11, _ => lv_neT hc121 (by decide)
        | 12, _ => lv_neT hc131 (by decide)
        | 13, _ => lv_neT hc141 (by decide)
        | 14, _ => lv_neT hc145 (by decide)
        | 15, _ => lv_neT hc151 (by decide)
        | 16, _ => lv_neT hc159 (by decide)
        | 17, _ => lv_neT hc167 (by decide)
        | 18, _ => lv_neT hc175 (by decide)
        | 19, _ => lv_neT hc181 (by decide)
        | 20, _ => lv_neT hc184 (by decide)
        | 21, _ => lv_neT hc188 (by decide)
        | 22, _ => lv_neT hc198 (by decide)
        | 23, _ => lv_neT hc208 (by decide)
        | 24, _ => lv_neT hc218 (by decide)
        | 25, _ => lv_neT hc230 (by decide)
        | 26, _ => lv_neT hc241 (by decide)
        | 27, _ => lv_neT hc251 (by decide)
        | 28, _ => lv_neT hc261 (by decide)
        | 29, _ => lv_neT hc271 (by decide)
        | 30, _ => lv_neT hc281 (by decide)
        | 31, _ => lv_neT hc285 (by decide)
        | 32, _ => lv_neT hc295 (by decide)
        | 33, _ => lv_neT hc303 (by decide)
        | 34, _ => lv_neT hc311 (by decide)
        | 35, _ => lv_neT hc319 (by decide)
        | 36, _ => lv_neT hc323 (by decide)
        | 37, _ => lv_neT hc331 (by decide)
        | 38, _ => lv_neT hc339 (by decide)
        | 39, _ => lv_neT hc347 (by decide)
        | 40, _ => lv_neT hc351 (by decide)
        | 41, _ => lv_neT hc355 (by decide)
        | 42, _ => lv_neT hc365 (by decide)
        | 43, _ => lv_neT hc371 (by decide)
        | 44, _ => lv_neT hc375 (by decide)
        | 45, _ => lv_neT hc379 (by decide)
        | 46, _ => lv_neT hc383 (by decide)
        | 47, _ => lv_neT hc387 (by decide)
        | 48, _ => lv_neT hc391 (by decide)
        | 49, _ => lv_neT hc395 (by decide)
        | 50, _ => lv_neT hc403 (by decide)
        | 51, _ => lv_neT hc411 (by decide)
        | 52, _ => lv_neT hc421 (by decide)
        | 53, _ => lv_neT hc431 (by decide)
        | 54, _ => lv_neT hc439 (by decide)
        | 55, _ => lv_neT hc443 (by decide)
        | 56, _ => lv_neT hc447 (by decide)
        | 57, _ => lv_neT hc451 (by decide)
        | 58, _ => lv_neT hc455 (by decide)
        | 59, _ => lv_neT hc459 (by decide)
        | 60, _ => lv_neT hc463 (by decide)
        | 61, _ => lv_neT hc467 (by decide)
        | 62, _ => lv_neT hc475 (by decide)
        | k + 63, h => absurd h (by omega))) (by decide) rfl ?_
      exact qa_bn_mono (N := n) (by omega) <| qa_bn_lw (qa_tL_law_2682  ih h) rfl rfl (And.intro rfl (And.intro rfl (And.intro rfl (And.intro rfl (And.intro rfl (trivial))))))
