theorem pk_us {f : Nat → Int32} {k : Nat} {x : Int32} : upd f k x k = x := if_pos rfl
theorem pk_un {f : Nat → Int32} {k j : Nat} {x : Int32} (h : j ≠ k) : upd f k x j = f j := if_neg h
theorem pk_m1 (n : Nat) : nI (n + 1) + (-1) = nI n := by
  rw [← nI_1, Int32.add_assoc, show (1 : Int32) + (-1) = 0 from rfl, Int32.add_zero]
theorem pk_mul (a b : Nat) : nI a * nI b = nI (a * b) := (Int32.ofNat_mul a b).symm
theorem pk_ix (x : Int32) {n : Nat} (hn : n < 2 ^ 31) : x < 0 ∨ nI n ≤ x ∨ ∃ j : Nat, j < n ∧ x = nI j := by
  by_cases h : x < 0
  · exact Or.inl h
  · obtain ⟨j, hj, rfl⟩ := nI_of h
    by_cases h2 : j < n
    · exact Or.inr (Or.inr ⟨j, h2, rfl⟩)
    · exact Or.inr (Or.inl (nI_le (by omega) hj))
theorem nu_m2 (n : Nat) : nI n * 2 = nI (2 * n) := by rw [Nat.mul_comm]; exact pk_mul n 2
theorem nu_2m (n : Nat) : 2 * nI n = nI (2 * n) := pk_mul 2 n
theorem nu_p2 (n : Nat) : nI n + 2 = nI (n + 2) := nI_add n 2
theorem nu_2p (n : Nat) : 2 + nI n = nI (2 + n) := nI_add 2 n
theorem nu_m3 (n : Nat) : nI n * 3 = nI (3 * n) := by rw [Nat.mul_comm]; exact pk_mul n 3
theorem nu_3m (n : Nat) : 3 * nI n = nI (3 * n) := pk_mul 3 n
theorem nu_p3 (n : Nat) : nI n + 3 = nI (n + 3) := nI_add n 3
theorem nu_3p (n : Nat) : 3 + nI n = nI (3 + n) := nI_add 3 n
theorem nu_m4 (n : Nat) : nI n * 4 = nI (4 * n) := by rw [Nat.mul_comm]; exact pk_mul n 4
theorem nu_4m (n : Nat) : 4 * nI n = nI (4 * n) := pk_mul 4 n
theorem nu_p4 (n : Nat) : nI n + 4 = nI (n + 4) := nI_add n 4
theorem nu_4p (n : Nat) : 4 + nI n = nI (4 + n) := nI_add 4 n
theorem nu_m16 (n : Nat) : nI n * 16 = nI (16 * n) := by rw [Nat.mul_comm]; exact pk_mul n 16
theorem nu_16m (n : Nat) : 16 * nI n = nI (16 * n) := pk_mul 16 n
theorem nu_p16 (n : Nat) : nI n + 16 = nI (n + 16) := nI_add n 16
theorem nu_16p (n : Nat) : 16 + nI n = nI (16 + n) := nI_add 16 n
theorem nu_a1 {n : Nat} (h : 1 ≤ n) (h9 : n < 2147483648) : ((1 : Int32) ≤ nI n) = True := eq_true (nI_le (a := 1) h h9)
theorem nu_b1 {n : Nat} (h : n < 1) : ((1 : Int32) ≤ nI n) = False := eq_false (nI_ge (b := 1) h (by decide))
theorem nu_c1 {n : Nat} (h : n < 1) : (nI n < (1 : Int32)) = True := eq_true (nI_lt (b := 1) h (by decide))
theorem nu_d1 {n : Nat} (h : 1 ≤ n) (h9 : n < 2147483648) : (nI n < (1 : Int32)) = False := eq_false (nI_nlt (b := 1) h h9)
theorem nu_e1 {n : Nat} (h : n ≤ 1) : (nI n ≤ (1 : Int32)) = True := eq_true (nI_le (b := 1) h (by decide))
theorem nu_f1 {n : Nat} (h : 1 < n) (h9 : n < 2147483648) : (nI n ≤ (1 : Int32)) = False := eq_false (nI_ge (a := 1) h h9)
theorem nu_g1 {n : Nat} (h : 1 < n) (h9 : n < 2147483648) : ((1 : Int32) < nI n) = True := eq_true (nI_lt (a := 1) h h9)
theorem nu_h1 {n : Nat} (h : n ≤ 1) : ((1 : Int32) < nI n) = False := eq_false (nI_nlt (a := 1) h (by decide))
theorem nu_a2 {n : Nat} (h : 2 ≤ n) (h9 : n < 2147483648) : ((2 : Int32) ≤ nI n) = True := eq_true (nI_le (a := 2) h h9)
theorem nu_b2 {n : Nat} (h : n < 2) : ((2 : Int32) ≤ nI n) = False := eq_false (nI_ge (b := 2) h (by decide))
theorem nu_c2 {n : Nat} (h : n < 2) : (nI n < (2 : Int32)) = True := eq_true (nI_lt (b := 2) h (by decide))
theorem nu_d2 {n : Nat} (h : 2 ≤ n) (h9 : n < 2147483648) : (nI n < (2 : Int32)) = False := eq_false (nI_nlt (b := 2) h h9)
theorem nu_e2 {n : Nat} (h : n ≤ 2) : (nI n ≤ (2 : Int32)) = True := eq_true (nI_le (b := 2) h (by decide))
theorem nu_f2 {n : Nat} (h : 2 < n) (h9 : n < 2147483648) : (nI n ≤ (2 : Int32)) = False := eq_false (nI_ge (a := 2) h h9)
theorem nu_g2 {n : Nat} (h : 2 < n) (h9 : n < 2147483648) : ((2 : Int32) < nI n) = True := eq_true (nI_lt (a := 2) h h9)
theorem nu_h2 {n : Nat} (h : n ≤ 2) : ((2 : Int32) < nI n) = False := eq_false (nI_nlt (a := 2) h (by decide))
theorem nu_a3 {n : Nat} (h : 3 ≤ n) (h9 : n < 2147483648) : ((3 : Int32) ≤ nI n) = True := eq_true (nI_le (a := 3) h h9)
theorem nu_b3 {n : Nat} (h : n < 3) : ((3 : Int32) ≤ nI n) = False := eq_false (nI_ge (b := 3) h (by decide))
theorem nu_c3 {n : Nat} (h : n < 3) : (nI n < (3 : Int32)) = True := eq_true (nI_lt (b := 3) h (by decide))
theorem nu_d3 {n : Nat} (h : 3 ≤ n) (h9 : n < 2147483648) : (nI n < (3 : Int32)) = False := eq_false (nI_nlt (b := 3) h h9)
theorem nu_e3 {n : Nat} (h : n ≤ 3) : (nI n ≤ (3 : Int32)) = True := eq_true (nI_le (b := 3) h (by decide))
theorem nu_f3 {n : Nat} (h : 3 < n) (h9 : n < 2147483648) : (nI n ≤ (3 : Int32)) = False := eq_false (nI_ge (a := 3) h h9)
theorem nu_g3 {n : Nat} (h : 3 < n) (h9 : n < 2147483648) : ((3 : Int32) < nI n) = True := eq_true (nI_lt (a := 3) h h9)
theorem nu_h3 {n : Nat} (h : n ≤ 3) : ((3 : Int32) < nI n) = False := eq_false (nI_nlt (a := 3) h (by decide))
theorem nu_a4 {n : Nat} (h : 4 ≤ n) (h9 : n < 2147483648) : ((4 : Int32) ≤ nI n) = True := eq_true (nI_le (a := 4) h h9)
theorem nu_b4 {n : Nat} (h : n < 4) : ((4 : Int32) ≤ nI n) = False := eq_false (nI_ge (b := 4) h (by decide))
theorem nu_c4 {n : Nat} (h : n < 4) : (nI n < (4 : Int32)) = True := eq_true (nI_lt (b := 4) h (by decide))
theorem nu_d4 {n : Nat} (h : 4 ≤ n) (h9 : n < 2147483648) : (nI n < (4 : Int32)) = False := eq_false (nI_nlt (b := 4) h h9)
theorem nu_e4 {n : Nat} (h : n ≤ 4) : (nI n ≤ (4 : Int32)) = True := eq_true (nI_le (b := 4) h (by decide))
theorem nu_f4 {n : Nat} (h : 4 < n) (h9 : n < 2147483648) : (nI n ≤ (4 : Int32)) = False := eq_false (nI_ge (a := 4) h h9)
theorem nu_g4 {n : Nat} (h : 4 < n) (h9 : n < 2147483648) : ((4 : Int32) < nI n) = True := eq_true (nI_lt (a := 4) h h9)
theorem nu_h4 {n : Nat} (h : n ≤ 4) : ((4 : Int32) < nI n) = False := eq_false (nI_nlt (a := 4) h (by decide))
theorem nu_a5 {n : Nat} (h : 5 ≤ n) (h9 : n < 2147483648) : ((5 : Int32) ≤ nI n) = True := eq_true (nI_le (a := 5) h h9)
theorem nu_b5 {n : Nat} (h : n < 5) : ((5 : Int32) ≤ nI n) = False := eq_false (nI_ge (b := 5) h (by decide))
theorem nu_c5 {n : Nat} (h : n < 5) : (nI n < (5 : Int32)) = True := eq_true (nI_lt (b := 5) h (by decide))
theorem nu_d5 {n : Nat} (h : 5 ≤ n) (h9 : n < 2147483648) : (nI n < (5 : Int32)) = False := eq_false (nI_nlt (b := 5) h h9)
theorem nu_e5 {n : Nat} (h : n ≤ 5) : (nI n ≤ (5 : Int32)) = True := eq_true (nI_le (b := 5) h (by decide))
theorem nu_f5 {n : Nat} (h : 5 < n) (h9 : n < 2147483648) : (nI n ≤ (5 : Int32)) = False := eq_false (nI_ge (a := 5) h h9)
theorem nu_g5 {n : Nat} (h : 5 < n) (h9 : n < 2147483648) : ((5 : Int32) < nI n) = True := eq_true (nI_lt (a := 5) h h9)
theorem nu_h5 {n : Nat} (h : n ≤ 5) : ((5 : Int32) < nI n) = False := eq_false (nI_nlt (a := 5) h (by decide))
theorem nu_a6 {n : Nat} (h : 6 ≤ n) (h9 : n < 2147483648) : ((6 : Int32) ≤ nI n) = True := eq_true (nI_le (a := 6) h h9)
theorem nu_b6 {n : Nat} (h : n < 6) : ((6 : Int32) ≤ nI n) = False := eq_false (nI_ge (b := 6) h (by decide))
theorem nu_c6 {n : Nat} (h : n < 6) : (nI n < (6 : Int32)) = True := eq_true (nI_lt (b := 6) h (by decide))
theorem nu_d6 {n : Nat} (h : 6 ≤ n) (h9 : n < 2147483648) : (nI n < (6 : Int32)) = False := eq_false (nI_nlt (b := 6) h h9)
theorem nu_e6 {n : Nat} (h : n ≤ 6) : (nI n ≤ (6 : Int32)) = True := eq_true (nI_le (b := 6) h (by decide))
theorem nu_f6 {n : Nat} (h : 6 < n) (h9 : n < 2147483648) : (nI n ≤ (6 : Int32)) = False := eq_false (nI_ge (a := 6) h h9)
theorem nu_g6 {n : Nat} (h : 6 < n) (h9 : n < 2147483648) : ((6 : Int32) < nI n) = True := eq_true (nI_lt (a := 6) h h9)
theorem nu_h6 {n : Nat} (h : n ≤ 6) : ((6 : Int32) < nI n) = False := eq_false (nI_nlt (a := 6) h (by decide))
theorem nu_a7 {n : Nat} (h : 7 ≤ n) (h9 : n < 2147483648) : ((7 : Int32) ≤ nI n) = True := eq_true (nI_le (a := 7) h h9)
theorem nu_b7 {n : Nat} (h : n < 7) : ((7 : Int32) ≤ nI n) = False := eq_false (nI_ge (b := 7) h (by decide))
theorem nu_c7 {n : Nat} (h : n < 7) : (nI n < (7 : Int32)) = True := eq_true (nI_lt (b := 7) h (by decide))
theorem nu_d7 {n : Nat} (h : 7 ≤ n) (h9 : n < 2147483648) : (nI n < (7 : Int32)) = False := eq_false (nI_nlt (b := 7) h h9)
theorem nu_e7 {n : Nat} (h : n ≤ 7) : (nI n ≤ (7 : Int32)) = True := eq_true (nI_le (b := 7) h (by decide))
theorem nu_f7 {n : Nat} (h : 7 < n) (h9 : n < 2147483648) : (nI n ≤ (7 : Int32)) = False := eq_false (nI_ge (a := 7) h h9)
theorem nu_g7 {n : Nat} (h : 7 < n) (h9 : n < 2147483648) : ((7 : Int32) < nI n) = True := eq_true (nI_lt (a := 7) h h9)
theorem nu_h7 {n : Nat} (h : n ≤ 7) : ((7 : Int32) < nI n) = False := eq_false (nI_nlt (a := 7) h (by decide))
theorem nu_a16 {n : Nat} (h : 16 ≤ n) (h9 : n < 2147483648) : ((16 : Int32) ≤ nI n) = True := eq_true (nI_le (a := 16) h h9)
theorem nu_b16 {n : Nat} (h : n < 16) : ((16 : Int32) ≤ nI n) = False := eq_false (nI_ge (b := 16) h (by decide))
theorem nu_c16 {n : Nat} (h : n < 16) : (nI n < (16 : Int32)) = True := eq_true (nI_lt (b := 16) h (by decide))
theorem nu_d16 {n : Nat} (h : 16 ≤ n) (h9 : n < 2147483648) : (nI n < (16 : Int32)) = False := eq_false (nI_nlt (b := 16) h h9)
theorem nu_e16 {n : Nat} (h : n ≤ 16) : (nI n ≤ (16 : Int32)) = True := eq_true (nI_le (b := 16) h (by decide))
theorem nu_f16 {n : Nat} (h : 16 < n) (h9 : n < 2147483648) : (nI n ≤ (16 : Int32)) = False := eq_false (nI_ge (a := 16) h h9)
theorem nu_g16 {n : Nat} (h : 16 < n) (h9 : n < 2147483648) : ((16 : Int32) < nI n) = True := eq_true (nI_lt (a := 16) h h9)
theorem nu_h16 {n : Nat} (h : n ≤ 16) : ((16 : Int32) < nI n) = False := eq_false (nI_nlt (a := 16) h (by decide))
theorem nu_a32 {n : Nat} (h : 32 ≤ n) (h9 : n < 2147483648) : ((32 : Int32) ≤ nI n) = True := eq_true (nI_le (a := 32) h h9)
theorem nu_b32 {n : Nat} (h : n < 32) : ((32 : Int32) ≤ nI n) = False := eq_false (nI_ge (b := 32) h (by decide))
theorem nu_c32 {n : Nat} (h : n < 32) : (nI n < (32 : Int32)) = True := eq_true (nI_lt (b := 32) h (by decide))
theorem nu_d32 {n : Nat} (h : 32 ≤ n) (h9 : n < 2147483648) : (nI n < (32 : Int32)) = False := eq_false (nI_nlt (b := 32) h h9)
theorem nu_e32 {n : Nat} (h : n ≤ 32) : (nI n ≤ (32 : Int32)) = True := eq_true (nI_le (b := 32) h (by decide))
theorem nu_f32 {n : Nat} (h : 32 < n) (h9 : n < 2147483648) : (nI n ≤ (32 : Int32)) = False := eq_false (nI_ge (a := 32) h h9)
theorem nu_g32 {n : Nat} (h : 32 < n) (h9 : n < 2147483648) : ((32 : Int32) < nI n) = True := eq_true (nI_lt (a := 32) h h9)
theorem nu_h32 {n : Nat} (h : n ≤ 32) : ((32 : Int32) < nI n) = False := eq_false (nI_nlt (a := 32) h (by decide))
theorem nu_u0 {n : Nat} (h : n ≠ 0) (h9 : n < 2147483648) : (nI n = (0 : Int32)) = False := eq_false (fun q => h ((nI_eq h9 (by decide)).mp (q.trans (show (0 : Int32) = nI 0 from rfl))))
theorem nu_v0 {n : Nat} (h : n = 0) : (nI n = (0 : Int32)) = True := eq_true (by rw [h]; rfl)
theorem nu_u1 {n : Nat} (h : n ≠ 1) (h9 : n < 2147483648) : (nI n = (1 : Int32)) = False := eq_false (fun q => h ((nI_eq h9 (by decide)).mp (q.trans (show (1 : Int32) = nI 1 from rfl))))
theorem nu_v1 {n : Nat} (h : n = 1) : (nI n = (1 : Int32)) = True := eq_true (by rw [h]; rfl)
theorem nu_u2 {n : Nat} (h : n ≠ 2) (h9 : n < 2147483648) : (nI n = (2 : Int32)) = False := eq_false (fun q => h ((nI_eq h9 (by decide)).mp (q.trans (show (2 : Int32) = nI 2 from rfl))))
theorem nu_v2 {n : Nat} (h : n = 2) : (nI n = (2 : Int32)) = True := eq_true (by rw [h]; rfl)
theorem nu_u3 {n : Nat} (h : n ≠ 3) (h9 : n < 2147483648) : (nI n = (3 : Int32)) = False := eq_false (fun q => h ((nI_eq h9 (by decide)).mp (q.trans (show (3 : Int32) = nI 3 from rfl))))
theorem nu_v3 {n : Nat} (h : n = 3) : (nI n = (3 : Int32)) = True := eq_true (by rw [h]; rfl)
theorem nu_u4 {n : Nat} (h : n ≠ 4) (h9 : n < 2147483648) : (nI n = (4 : Int32)) = False := eq_false (fun q => h ((nI_eq h9 (by decide)).mp (q.trans (show (4 : Int32) = nI 4 from rfl))))
theorem nu_v4 {n : Nat} (h : n = 4) : (nI n = (4 : Int32)) = True := eq_true (by rw [h]; rfl)
theorem nu_u5 {n : Nat} (h : n ≠ 5) (h9 : n < 2147483648) : (nI n = (5 : Int32)) = False := eq_false (fun q => h ((nI_eq h9 (by decide)).mp (q.trans (show (5 : Int32) = nI 5 from rfl))))
theorem nu_v5 {n : Nat} (h : n = 5) : (nI n = (5 : Int32)) = True := eq_true (by rw [h]; rfl)
theorem nu_u6 {n : Nat} (h : n ≠ 6) (h9 : n < 2147483648) : (nI n = (6 : Int32)) = False := eq_false (fun q => h ((nI_eq h9 (by decide)).mp (q.trans (show (6 : Int32) = nI 6 from rfl))))
theorem nu_v6 {n : Nat} (h : n = 6) : (nI n = (6 : Int32)) = True := eq_true (by rw [h]; rfl)
theorem nu_neg {n : Nat} (h : n < 2147483648) : (nI n < 0) = False := eq_false (nI_pos h)
theorem nu_pos {n : Nat} (h : n < 2147483648) : (0 ≤ nI n) = True := eq_true (nI_pos' h)
theorem nu_m1lt : ((-1 : Int32) < 0) = True := eq_true (by decide)
theorem nu_m1ge : ((0 : Int32) ≤ -1) = False := eq_false (by decide)
theorem nu_nem {n : Nat} (h : n < 2147483648) : (nI n = -1) = False := eq_false (fun q => by
  have := nI_pos h
  rw [q] at this
  exact this (by decide))
theorem nu_men {n : Nat} (h : n < 2147483648) : ((-1 : Int32) = nI n) = False := eq_false (fun q => by
  have := nI_pos h
  rw [← q] at this
  exact this (by decide))
theorem nu_cl {n : Nat} (h : n < 2147483648) : (nI n).toNatClampNeg = n := nI_clamp h
theorem nu_in {n N : Nat} (h : n < N) (hN : N < 2147483648) : vp_in (nI n) N = True := eq_true (vp_in_nI h hN)
theorem nu_eq {a b : Nat} (ha : a < 2147483648) (hb : b < 2147483648) : (nI a = nI b) = (a = b) := propext (nI_eq ha hb)
theorem nu_le {a b : Nat} (ha : a < 2147483648) (hb : b < 2147483648) : (nI a ≤ nI b) = (a ≤ b) := propext (nI_leI ha hb)
theorem nu_lt {a b : Nat} (ha : a < 2147483648) (hb : b < 2147483648) : (nI a < nI b) = (a < b) := propext (nI_ltI ha hb)
theorem nu_n0 : vp_nar .boolean 0 = 0 := rfl
theorem nu_n1 : vp_nar .boolean 1 = 1 := rfl
theorem nu_nb {b : Int32} (h : b = 0 ∨ b = 1) : vp_nar .boolean b = b := by
  rcases h with rfl | rfl
  · rfl
  · rfl
theorem nu_na {b : Int32} (h : b = 0 ∨ b = 1) : narrow .boolean (.int b) = .int b := by
  rcases h with rfl | rfl
  · rfl
  · rfl
theorem nu_na0 : (narrow .boolean (.int 0) = .int 0) = True := eq_true rfl
theorem nu_na1 : (narrow .boolean (.int 1) = .int 1) = True := eq_true rfl
theorem nu_i0_5 : vp_in 0 5 = True := eq_true (vp_in_nI (n := 0) (by decide) (by decide))
theorem nu_i1_5 : vp_in 1 5 = True := eq_true (vp_in_nI (n := 1) (by decide) (by decide))
theorem nu_i2_5 : vp_in 2 5 = True := eq_true (vp_in_nI (n := 2) (by decide) (by decide))
theorem nu_i3_5 : vp_in 3 5 = True := eq_true (vp_in_nI (n := 3) (by decide) (by decide))
theorem nu_i4_5 : vp_in 4 5 = True := eq_true (vp_in_nI (n := 4) (by decide) (by decide))
theorem nu_i0_3 : vp_in 0 3 = True := eq_true (vp_in_nI (n := 0) (by decide) (by decide))
theorem nu_i1_3 : vp_in 1 3 = True := eq_true (vp_in_nI (n := 1) (by decide) (by decide))
theorem nu_i2_3 : vp_in 2 3 = True := eq_true (vp_in_nI (n := 2) (by decide) (by decide))
theorem nu_i0_16 : vp_in 0 16 = True := eq_true (vp_in_nI (n := 0) (by decide) (by decide))
theorem nu_l0 : ((0 : Int32)).toNatClampNeg = 0 := nI_clamp (n := 0) (by decide)
theorem nu_l1 : ((1 : Int32)).toNatClampNeg = 1 := nI_clamp (n := 1) (by decide)
theorem nu_l2 : ((2 : Int32)).toNatClampNeg = 2 := nI_clamp (n := 2) (by decide)
theorem nu_l3 : ((3 : Int32)).toNatClampNeg = 3 := nI_clamp (n := 3) (by decide)
theorem nu_l4 : ((4 : Int32)).toNatClampNeg = 4 := nI_clamp (n := 4) (by decide)
theorem nu_k01 : ((0 : Int32) = 1) = False := eq_false (by decide)
theorem nu_k02 : ((0 : Int32) = 2) = False := eq_false (by decide)
theorem nu_k03 : ((0 : Int32) = 3) = False := eq_false (by decide)
theorem nu_k04 : ((0 : Int32) = 4) = False := eq_false (by decide)
theorem nu_k05 : ((0 : Int32) = 5) = False := eq_false (by decide)
theorem nu_k10 : ((1 : Int32) = 0) = False := eq_false (by decide)
theorem nu_k12 : ((1 : Int32) = 2) = False := eq_false (by decide)
theorem nu_k13 : ((1 : Int32) = 3) = False := eq_false (by decide)
theorem nu_k14 : ((1 : Int32) = 4) = False := eq_false (by decide)
theorem nu_k15 : ((1 : Int32) = 5) = False := eq_false (by decide)
theorem nu_k20 : ((2 : Int32) = 0) = False := eq_false (by decide)
theorem nu_k21 : ((2 : Int32) = 1) = False := eq_false (by decide)
theorem nu_k23 : ((2 : Int32) = 3) = False := eq_false (by decide)
theorem nu_k24 : ((2 : Int32) = 4) = False := eq_false (by decide)
theorem nu_k25 : ((2 : Int32) = 5) = False := eq_false (by decide)
theorem nu_k30 : ((3 : Int32) = 0) = False := eq_false (by decide)
theorem nu_k31 : ((3 : Int32) = 1) = False := eq_false (by decide)
theorem nu_k32 : ((3 : Int32) = 2) = False := eq_false (by decide)
theorem nu_k34 : ((3 : Int32) = 4) = False := eq_false (by decide)
theorem nu_k35 : ((3 : Int32) = 5) = False := eq_false (by decide)
theorem nu_k40 : ((4 : Int32) = 0) = False := eq_false (by decide)
theorem nu_k41 : ((4 : Int32) = 1) = False := eq_false (by decide)
theorem nu_k42 : ((4 : Int32) = 2) = False := eq_false (by decide)
theorem nu_k43 : ((4 : Int32) = 3) = False := eq_false (by decide)
theorem nu_k45 : ((4 : Int32) = 5) = False := eq_false (by decide)
theorem nu_k50 : ((5 : Int32) = 0) = False := eq_false (by decide)
theorem nu_k51 : ((5 : Int32) = 1) = False := eq_false (by decide)
theorem nu_k52 : ((5 : Int32) = 2) = False := eq_false (by decide)
theorem nu_k53 : ((5 : Int32) = 3) = False := eq_false (by decide)
theorem nu_k54 : ((5 : Int32) = 4) = False := eq_false (by decide)
theorem nu_z1 : ((-1 : Int32) = 0) = False := eq_false (by decide)
theorem nu_z2 : ((-2 : Int32) = 0) = False := eq_false (by decide)
theorem nu_z3 : ((-3 : Int32) = 0) = False := eq_false (by decide)
theorem nu_z4 : ((-4 : Int32) = 0) = False := eq_false (by decide)
theorem nu_z5 : ((-5 : Int32) = 0) = False := eq_false (by decide)
theorem nu_z6 : ((-6 : Int32) = 0) = False := eq_false (by decide)
theorem nu_z7 : ((-7 : Int32) = 0) = False := eq_false (by decide)
theorem nu_z8 : ((-8 : Int32) = 0) = False := eq_false (by decide)
theorem nu_01 : (0 : Int32) + 1 = nI 1 := rfl
theorem nu_p0 : (nI 0 ≤ (0 : Int32)) = True := eq_true (by decide)
theorem nu_pn {n : Nat} (h : 0 < n) (h9 : n < 2147483648) : (nI n ≤ (0 : Int32)) = False := eq_false (nI_nle h h9)
theorem nu_00 : ((0 : Int32) ≤ 0) = True := eq_true (by decide)
theorem nu_10 : ((1 : Int32) ≤ 0) = False := eq_false (by decide)
theorem nu_21 : ((2 : Int32) ≤ 1) = False := eq_false (by decide)
theorem nu_2z : ((2 : Int32) ≤ 0) = False := eq_false (by decide)
theorem nu_22 : ((2 : Int32) ≤ 2) = True := eq_true (by decide)
theorem nu_2p0 : ((2 : Int32) ≤ 0) = False := eq_false (by decide)
theorem nu_dec {m : Nat} (h : m < 2) : nI (2 - m) + (-1) = nI (2 - (m + 1)) := by
  rw [show 2 - m = (2 - (m + 1)) + 1 by omega]
  exact pk_m1 _
theorem nu_44 : ((4 : Int32) ≤ 4) = True := eq_true (by decide)
theorem nu_45 : ((4 : Int32) ≤ 5) = True := eq_true (by decide)
theorem nu_41 : ((4 : Int32) ≤ 1) = False := eq_false (by decide)
theorem nu_42 : ((4 : Int32) ≤ 2) = False := eq_false (by decide)
theorem nu_lm {a : Nat} (h : a < 2147483648) : (nI a + (-1) < nI a) = True := eq_true (by
  rcases a with _ | b
  · decide
  · rw [pk_m1]
    exact nI_lt (by omega) h)
theorem nu_nl {a b : Nat} (h : a + b < 2147483648) : (nI (a + b) < nI a) = False := eq_false (nI_nlt (by omega) h)
theorem nu_40 : ((4 : Int32) ≤ 0) = False := eq_false (by decide)
theorem nu_30 : ((3 : Int32) ≤ 0) = False := eq_false (by decide)
theorem nu_20 : ((2 : Int32) < 0) = False := eq_false (by decide)
theorem nu_160 : ((16 : Int32) ≤ 0) = False := eq_false (by decide)
theorem nu_0c (f : Nat → Int32) : f (nI 0).toNatClampNeg = f 0 := by rw [nI_clamp (by decide)]
theorem nu_q {a A B : Prop} (h : a = True) : ((a → A) ∧ (¬ a → B)) = A := by
  subst h
  exact propext ⟨fun z => z.1 trivial, fun z => ⟨fun _ => z, fun w => absurd trivial w⟩⟩
theorem nu_0a (f : Nat → Int32) (k : Nat) : upd f k (f k + 0) = f := by
  funext j
  by_cases h : j = k
  · subst h
    rw [pk_us, Int32.add_zero]
  · rw [pk_un h]
theorem nu_uu (f : Nat → Int32) (k : Nat) (x y : Int32) : upd (upd f k x) k y = upd f k y := by
  funext j
  by_cases h : j = k
  · subst h
    rw [pk_us, pk_us]
  · rw [pk_un h, pk_un h, pk_un h]
theorem nu_same (f : Nat → Int32) (k : Nat) {x : Int32} (h : f k = x) : upd f k x = f := by
  funext j
  by_cases q : j = k
  · subst q
    rw [pk_us, h]
  · rw [pk_un q]
