/-! the law's loop -/
section QMJ
variable {σ σ' τ : qa_T} {X : Nat → Int32} {L : Nat}
theorem la_lt {p : Nat} (hL : L < 2147483648) (hp : p < 2147483648) : (Int32.ofNat L - (Int32.ofInt 4)) < nI p ↔ L < p + 4 := by
  have e : (Int32.ofNat L - (Int32.ofInt 4)).toInt = (L : Int) - 4 := by
    have h1 : (Int32.ofNat L).toInt = L := qz_nI hL
    rw [qk_a4, qz_sub (by rw [h1, show ((4 : Int32)).toInt = 4 from rfl]; omega) (by rw [h1, show ((4 : Int32)).toInt = 4 from rfl]; omega), h1]
    rfl
  rw [qz_lt, e, qz_nI hp]
  omega
theorem la_loop (hL : L < 2147480000) : ∀ (m n p N : Nat) (σ : qa_T), L < p + 4 * m + 4 → p ≤ L + 4 → m < n → qJ N X σ → N + 24400 * m + 50000 < 1073741000 → ∃ σ', qa_fL_law_23 L n (nI p) σ = some (true, σ') := by
  intro m
  induction m with
  | zero =>
    intro n p N σ h1 h2 h3 h4 h5
    obtain ⟨n, rfl⟩ : ∃ i, n = i + 1 := ⟨n - 1, by omega⟩
    rw [qa_fL_law_23, if_pos ((la_lt (by omega) (by omega)).mpr (by omega))]
    exact ⟨σ, rfl⟩
  | succ m ih =>
    intro n p N σ h1 h2 h3 h4 h5
    obtain ⟨n, rfl⟩ : ∃ i, n = i + 1 := ⟨n - 1, by omega⟩
    by_cases c : L < p + 4
    · rw [qa_fL_law_23, if_pos ((la_lt (by omega) (by omega)).mpr c)]
      exact ⟨σ, rfl⟩
    · have hp : p + 3 < L := by omega
      have hL2 : L < 2147483648 := by omega
      have nxt : ∀ (M : Nat) (F : Option (Bool × qa_T)), M ≤ N + 24400 → qS M X (qa_fL_law_23 L n) (nI p) F → ∃ σ', F = some (true, σ') := by
        intro M F hM hF
        obtain ⟨σ1, e1, e2⟩ := hF
        have e3 : nI p + Int32.ofInt 4 = nI (p + 4) := nI_add p 4
        rw [e3] at e1
        obtain ⟨σ', e4⟩ := ih n (p + 4) (N + 24400) σ1 (by omega) (by omega) (by omega) (qJ_u e2 hM) (by omega)
        exact ⟨σ', by rw [e1, e4]⟩
      rw [qa_fL_law_23, if_neg (fun t => c ((la_lt (by omega) (by omega)).mp t)), qz_ifn (by omega) (by omega)]
      dsimp only
      generalize (σ.1 (0, 0) (nI p).toNatClampNeg &&& (Int8.ofInt 63).toInt32) = v3
      by_cases e0 : v3 = 0
      · rw [if_pos e0]
        exact nxt _ _ (by omega) (ca_304 h4 hp hL2)
      rw [if_neg e0]
      by_cases e1 : v3 = 1
      · rw [if_pos e1]
        exact nxt _ _ (by omega) (ca_384 h4 hp hL2)
      rw [if_neg e1]
      by_cases e2 : v3 = 2
      · rw [if_pos e2]
        exact nxt _ _ (by omega) (ca_452 h4 hp hL2)
      rw [if_neg e2]
      by_cases e3 : v3 = 3
      · rw [if_pos e3]
        exact nxt _ _ (by omega) (ca_508 h4 hp hL2 (by omega))
      rw [if_neg e3]
      by_cases e4 : v3 = 4
      · rw [if_pos e4]
        exact nxt _ _ (by omega) (ca_559 h4 hp hL2)
      rw [if_neg e4]
      by_cases e5 : v3 = 5
      · rw [if_pos e5]
        exact nxt _ _ (by omega) (ca_615 h4 hp hL2)
      rw [if_neg e5]
      by_cases e6 : v3 = 6
      · rw [if_pos e6]
        exact nxt _ _ (by omega) (ca_671 h4 hp hL2 (by omega))
      rw [if_neg e6]
      by_cases e7 : v3 = 7
      · rw [if_pos e7]
        exact nxt _ _ (by omega) (ca_727 h4 hp hL2)
      rw [if_neg e7]
      by_cases e8 : v3 = 8
      · rw [if_pos e8]
        exact nxt _ _ (by omega) (ca_783 h4 hp hL2)
      rw [if_neg e8]
      by_cases e9 : v3 = 9
      · rw [if_pos e9]
        exact nxt _ _ (by omega) (ca_839 h4 hp hL2)
      rw [if_neg e9]
      by_cases e10 : v3 = 10
      · rw [if_pos e10]
        exact nxt _ _ (by omega) (ca_895 h4 hp hL2)
      rw [if_neg e10]
      by_cases e11 : v3 = 11
      · rw [if_pos e11]
        exact nxt _ _ (by omega) (ca_951 h4 hp hL2)
      rw [if_neg e11]
      by_cases e12 : v3 = 12
      · rw [if_pos e12]
        exact nxt _ _ (by omega) (ca_1007 h4 hp hL2)
      rw [if_neg e12]
      by_cases e13 : v3 = 13
      · rw [if_pos e13]
        exact nxt _ _ (by omega) (ca_1063 h4)
      rw [if_neg e13]
      by_cases e14 : v3 = 14
      · rw [if_pos e14]
        exact nxt _ _ (by omega) (ca_1076 h4)
      rw [if_neg e14]
      by_cases e15 : v3 = 15
      · rw [if_pos e15]
        exact nxt _ _ (by omega) (ca_1089 h4 hp hL2 (by omega))
      rw [if_neg e15]
      by_cases e16 : v3 = 16
      · rw [if_pos e16]
        exact nxt _ _ (by omega) (ca_1133 h4 hp hL2)
      rw [if_neg e16]
      by_cases e17 : v3 = 17
      · rw [if_pos e17]
        exact nxt _ _ (by omega) (ca_1169 h4 hp hL2)
      rw [if_neg e17]
      by_cases e18 : v3 = 18
      · rw [if_pos e18]
        exact nxt _ _ (by omega) (ca_1205 h4 hp hL2)
      rw [if_neg e18]
      by_cases e19 : v3 = 19
      · rw [if_pos e19]
        exact nxt _ _ (by omega) (ca_1229 h4)
      rw [if_neg e19]
      by_cases e20 : v3 = 20
      · rw [if_pos e20]
        exact nxt _ _ (by omega) (ca_1242 h4)
      rw [if_neg e20]
      by_cases e21 : v3 = 21
      · rw [if_pos e21]
        exact nxt _ _ (by omega) (ca_1255 h4 hp hL2)
      rw [if_neg e21]
      by_cases e22 : v3 = 22
      · rw [if_pos e22]
        exact nxt _ _ (by omega) (ca_1311 h4 hp hL2)
      rw [if_neg e22]
      by_cases e23 : v3 = 23
      · rw [if_pos e23]
        exact nxt _ _ (by omega) (ca_1367 h4 hp hL2)
      rw [if_neg e23]
      by_cases e24 : v3 = 24
      · rw [if_pos e24]
        exact nxt _ _ (by omega) (ca_1423 h4 hp hL2)
      rw [if_neg e24]
      by_cases e25 : v3 = 25
      · rw [if_pos e25]
        exact nxt _ _ (by omega) (ca_1486 h4 hp hL2)
      rw [if_neg e25]
      by_cases e26 : v3 = 26
      · rw [if_pos e26]
        exact nxt _ _ (by omega) (ca_1549 h4 hp hL2)
      rw [if_neg e26]
      by_cases e27 : v3 = 27
      · rw [if_pos e27]
        exact nxt _ _ (by omega) (ca_1605 h4 hp hL2)
      rw [if_neg e27]
      by_cases e28 : v3 = 28
      · rw [if_pos e28]
        exact nxt _ _ (by omega) (ca_1661 h4 hp hL2)
      rw [if_neg e28]
      by_cases e29 : v3 = 29
      · rw [if_pos e29]
        exact nxt _ _ (by omega) (ca_1717 h4 hp hL2)
      rw [if_neg e29]
      by_cases e30 : v3 = 30
      · rw [if_pos e30]
        exact nxt _ _ (by omega) (ca_1773 h4)
      rw [if_neg e30]
      by_cases e31 : v3 = 31
      · rw [if_pos e31]
        exact nxt _ _ (by omega) (ca_1786 h4 hp hL2)
      rw [if_neg e31]
      by_cases e32 : v3 = 32
      · rw [if_pos e32]
        exact nxt _ _ (by omega) (ca_1842 h4 hp hL2)
      rw [if_neg e32]
      by_cases e33 : v3 = 33
      · rw [if_pos e33]
        exact nxt _ _ (by omega) (ca_1886 h4 hp hL2)
      rw [if_neg e33]
      by_cases e34 : v3 = 34
      · rw [if_pos e34]
        exact nxt _ _ (by omega) (ca_1930 h4 hp hL2)
      rw [if_neg e34]
      by_cases e35 : v3 = 35
      · rw [if_pos e35]
        exact nxt _ _ (by omega) (ca_1974 h4)
      rw [if_neg e35]
      by_cases e36 : v3 = 36
      · rw [if_pos e36]
        exact nxt _ _ (by omega) (ca_1987 h4 hp hL2)
      rw [if_neg e36]
      by_cases e37 : v3 = 37
      · rw [if_pos e37]
        exact nxt _ _ (by omega) (ca_2031 h4 hp hL2)
      rw [if_neg e37]
      by_cases e38 : v3 = 38
      · rw [if_pos e38]
        exact nxt _ _ (by omega) (ca_2075 h4 hp hL2)
      rw [if_neg e38]
      by_cases e39 : v3 = 39
      · rw [if_pos e39]
        exact nxt _ _ (by omega) (ca_2119 h4)
      rw [if_neg e39]
      by_cases e40 : v3 = 40
      · rw [if_pos e40]
        exact nxt _ _ (by omega) (ca_2132 h4)
      rw [if_neg e40]
      by_cases e41 : v3 = 41
      · rw [if_pos e41]
        exact nxt _ _ (by omega) (ca_2145 h4 hp hL2)
      rw [if_neg e41]
      by_cases e42 : v3 = 42
      · rw [if_pos e42]
        exact nxt _ _ (by omega) (ca_2201 h4)
      rw [if_neg e42]
      by_cases e43 : v3 = 43
      · rw [if_pos e43]
        exact nxt _ _ (by omega) (ca_2214 h4)
      rw [if_neg e43]
      by_cases e44 : v3 = 44
      · rw [if_pos e44]
        exact nxt _ _ (by omega) (ca_2227 h4)
      rw [if_neg e44]
      by_cases e45 : v3 = 45
      · rw [if_pos e45]
        exact nxt _ _ (by omega) (ca_2240 h4)
      rw [if_neg e45]
      by_cases e46 : v3 = 46
      · rw [if_pos e46]
        exact nxt _ _ (by omega) (ca_2253 h4)
      rw [if_neg e46]
      by_cases e47 : v3 = 47
      · rw [if_pos e47]
        exact nxt _ _ (by omega) (ca_2266 h4)
      rw [if_neg e47]
      by_cases e48 : v3 = 48
      · rw [if_pos e48]
        exact nxt _ _ (by omega) (ca_2279 h4)
      rw [if_neg e48]
      by_cases e49 : v3 = 49
      · rw [if_pos e49]
        exact nxt _ _ (by omega) (ca_2292 h4 hp hL2 (by omega))
      rw [if_neg e49]
      by_cases e50 : v3 = 50
      · rw [if_pos e50]
        exact nxt _ _ (by omega) (ca_2336 h4 hp hL2 (by omega))
      rw [if_neg e50]
      by_cases e51 : v3 = 51
      · rw [if_pos e51]
        exact nxt _ _ (by omega) (ca_2380 h4 hp hL2)
      rw [if_neg e51]
      by_cases e52 : v3 = 52
      · rw [if_pos e52]
        exact nxt _ _ (by omega) (ca_2436 h4 hp hL2 (by omega))
      rw [if_neg e52]
      by_cases e53 : v3 = 53
      · rw [if_pos e53]
        exact nxt _ _ (by omega) (ca_2492 h4 hp hL2 (by omega))
      rw [if_neg e53]
      by_cases e54 : v3 = 54
      · rw [if_pos e54]
        exact nxt _ _ (by omega) (ca_2536 h4)
      rw [if_neg e54]
      by_cases e55 : v3 = 55
      · rw [if_pos e55]
        exact nxt _ _ (by omega) (ca_2549 h4)
      rw [if_neg e55]
      by_cases e56 : v3 = 56
      · rw [if_pos e56]
        exact nxt _ _ (by omega) (ca_2562 h4)
      rw [if_neg e56]
      by_cases e57 : v3 = 57
      · rw [if_pos e57]
        exact nxt _ _ (by omega) (ca_2575 h4)
      rw [if_neg e57]
      by_cases e58 : v3 = 58
      · rw [if_pos e58]
        exact nxt _ _ (by omega) (ca_2588 h4)
      rw [if_neg e58]
      by_cases e59 : v3 = 59
      · rw [if_pos e59]
        exact nxt _ _ (by omega) (ca_2601 h4)
      rw [if_neg e59]
      by_cases e60 : v3 = 60
      · rw [if_pos e60]
        exact nxt _ _ (by omega) (ca_2614 h4)
      rw [if_neg e60]
      by_cases e61 : v3 = 61
      · rw [if_pos e61]
        exact nxt _ _ (by omega) (ca_2627 h4 (by omega))
      rw [if_neg e61]
      by_cases e62 : v3 = 62
      · rw [if_pos e62]
        exact nxt _ _ (by omega) (ca_2668 h4 (by omega))
      rw [if_neg e62]
      unfold qa_fL_law_2682
      exact nxt N _ (by omega) ⟨σ, rfl, h4⟩
end QMJ
