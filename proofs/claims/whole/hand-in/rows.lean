section
theorem pk_us {f : Nat → Int32} {k : Nat} {x : Int32} : upd f k x k = x := if_pos rfl
theorem pk_un {f : Nat → Int32} {k j : Nat} {x : Int32} (h : j ≠ k) : upd f k x j = f j := if_neg h
theorem pk_m1 (n : Nat) : nI (n + 1) + (-1) = nI n := by
  rw [← nI_1, Int32.add_assoc, show (1 : Int32) + (-1) = 0 from rfl, Int32.add_zero]
theorem pk_mul (a b : Nat) : nI a * nI b = nI (a * b) := (Int32.ofNat_mul a b).symm
theorem pk_ix (x : Int32) {n : Nat} (hn : n < 2 ^ 31) : x < 0 ∨ nI n ≤ x ∨ ∃ j : Nat, j < n ∧ x = nI j := by
  by_cases h : x < 0
  · exact Or.inl h
  · obtain ⟨j, hj, rfl⟩ := nI_of h
    by_cases h2 : j < n
    · exact Or.inr (Or.inr ⟨j, h2, rfl⟩)
    · exact Or.inr (Or.inl (nI_le (by omega) hj))
theorem nu_m2 (n : Nat) : nI n * 2 = nI (2 * n) := by rw [Nat.mul_comm]; exact pk_mul n 2
theorem nu_2m (n : Nat) : 2 * nI n = nI (2 * n) := pk_mul 2 n
theorem nu_p2 (n : Nat) : nI n + 2 = nI (n + 2) := nI_add n 2
theorem nu_2p (n : Nat) : 2 + nI n = nI (2 + n) := nI_add 2 n
theorem nu_m3 (n : Nat) : nI n * 3 = nI (3 * n) := by rw [Nat.mul_comm]; exact pk_mul n 3
theorem nu_3m (n : Nat) : 3 * nI n = nI (3 * n) := pk_mul 3 n
theorem nu_p3 (n : Nat) : nI n + 3 = nI (n + 3) := nI_add n 3
theorem nu_3p (n : Nat) : 3 + nI n = nI (3 + n) := nI_add 3 n
theorem nu_m4 (n : Nat) : nI n * 4 = nI (4 * n) := by rw [Nat.mul_comm]; exact pk_mul n 4
theorem nu_4m (n : Nat) : 4 * nI n = nI (4 * n) := pk_mul 4 n
theorem nu_p4 (n : Nat) : nI n + 4 = nI (n + 4) := nI_add n 4
theorem nu_4p (n : Nat) : 4 + nI n = nI (4 + n) := nI_add 4 n
theorem nu_m16 (n : Nat) : nI n * 16 = nI (16 * n) := by rw [Nat.mul_comm]; exact pk_mul n 16
theorem nu_16m (n : Nat) : 16 * nI n = nI (16 * n) := pk_mul 16 n
theorem nu_p16 (n : Nat) : nI n + 16 = nI (n + 16) := nI_add n 16
theorem nu_16p (n : Nat) : 16 + nI n = nI (16 + n) := nI_add 16 n
theorem nu_a1 {n : Nat} (h : 1 ≤ n) (h9 : n < 2147483648) : ((1 : Int32) ≤ nI n) = True := eq_true (nI_le (a := 1) h h9)
theorem nu_b1 {n : Nat} (h : n < 1) : ((1 : Int32) ≤ nI n) = False := eq_false (nI_ge (b := 1) h (by decide))
theorem nu_c1 {n : Nat} (h : n < 1) : (nI n < (1 : Int32)) = True := eq_true (nI_lt (b := 1) h (by decide))
theorem nu_d1 {n : Nat} (h : 1 ≤ n) (h9 : n < 2147483648) : (nI n < (1 : Int32)) = False := eq_false (nI_nlt (b := 1) h h9)
theorem nu_e1 {n : Nat} (h : n ≤ 1) : (nI n ≤ (1 : Int32)) = True := eq_true (nI_le (b := 1) h (by decide))
theorem nu_f1 {n : Nat} (h : 1 < n) (h9 : n < 2147483648) : (nI n ≤ (1 : Int32)) = False := eq_false (nI_ge (a := 1) h h9)
theorem nu_g1 {n : Nat} (h : 1 < n) (h9 : n < 2147483648) : ((1 : Int32) < nI n) = True := eq_true (nI_lt (a := 1) h h9)
theorem nu_h1 {n : Nat} (h : n ≤ 1) : ((1 : Int32) < nI n) = False := eq_false (nI_nlt (a := 1) h (by decide))
theorem nu_a2 {n : Nat} (h : 2 ≤ n) (h9 : n < 2147483648) : ((2 : Int32) ≤ nI n) = True := eq_true (nI_le (a := 2) h h9)
theorem nu_b2 {n : Nat} (h : n < 2) : ((2 : Int32) ≤ nI n) = False := eq_false (nI_ge (b := 2) h (by decide))
theorem nu_c2 {n : Nat} (h : n < 2) : (nI n < (2 : Int32)) = True := eq_true (nI_lt (b := 2) h (by decide))
theorem nu_d2 {n : Nat} (h : 2 ≤ n) (h9 : n < 2147483648) : (nI n < (2 : Int32)) = False := eq_false (nI_nlt (b := 2) h h9)
theorem nu_e2 {n : Nat} (h : n ≤ 2) : (nI n ≤ (2 : Int32)) = True := eq_true (nI_le (b := 2) h (by decide))
theorem nu_f2 {n : Nat} (h : 2 < n) (h9 : n < 2147483648) : (nI n ≤ (2 : Int32)) = False := eq_false (nI_ge (a := 2) h h9)
theorem nu_g2 {n : Nat} (h : 2 < n) (h9 : n < 2147483648) : ((2 : Int32) < nI n) = True := eq_true (nI_lt (a := 2) h h9)
theorem nu_h2 {n : Nat} (h : n ≤ 2) : ((2 : Int32) < nI n) = False := eq_false (nI_nlt (a := 2) h (by decide))
theorem nu_a3 {n : Nat} (h : 3 ≤ n) (h9 : n < 2147483648) : ((3 : Int32) ≤ nI n) = True := eq_true (nI_le (a := 3) h h9)
theorem nu_b3 {n : Nat} (h : n < 3) : ((3 : Int32) ≤ nI n) = False := eq_false (nI_ge (b := 3) h (by decide))
theorem nu_c3 {n : Nat} (h : n < 3) : (nI n < (3 : Int32)) = True := eq_true (nI_lt (b := 3) h (by decide))
theorem nu_d3 {n : Nat} (h : 3 ≤ n) (h9 : n < 2147483648) : (nI n < (3 : Int32)) = False := eq_false (nI_nlt (b := 3) h h9)
theorem nu_e3 {n : Nat} (h : n ≤ 3) : (nI n ≤ (3 : Int32)) = True := eq_true (nI_le (b := 3) h (by decide))
theorem nu_f3 {n : Nat} (h : 3 < n) (h9 : n < 2147483648) : (nI n ≤ (3 : Int32)) = False := eq_false (nI_ge (a := 3) h h9)
theorem nu_g3 {n : Nat} (h : 3 < n) (h9 : n < 2147483648) : ((3 : Int32) < nI n) = True := eq_true (nI_lt (a := 3) h h9)
theorem nu_h3 {n : Nat} (h : n ≤ 3) : ((3 : Int32) < nI n) = False := eq_false (nI_nlt (a := 3) h (by decide))
theorem nu_a4 {n : Nat} (h : 4 ≤ n) (h9 : n < 2147483648) : ((4 : Int32) ≤ nI n) = True := eq_true (nI_le (a := 4) h h9)
theorem nu_b4 {n : Nat} (h : n < 4) : ((4 : Int32) ≤ nI n) = False := eq_false (nI_ge (b := 4) h (by decide))
theorem nu_c4 {n : Nat} (h : n < 4) : (nI n < (4 : Int32)) = True := eq_true (nI_lt (b := 4) h (by decide))
theorem nu_d4 {n : Nat} (h : 4 ≤ n) (h9 : n < 2147483648) : (nI n < (4 : Int32)) = False := eq_false (nI_nlt (b := 4) h h9)
theorem nu_e4 {n : Nat} (h : n ≤ 4) : (nI n ≤ (4 : Int32)) = True := eq_true (nI_le (b := 4) h (by decide))
theorem nu_f4 {n : Nat} (h : 4 < n) (h9 : n < 2147483648) : (nI n ≤ (4 : Int32)) = False := eq_false (nI_ge (a := 4) h h9)
theorem nu_g4 {n : Nat} (h : 4 < n) (h9 : n < 2147483648) : ((4 : Int32) < nI n) = True := eq_true (nI_lt (a := 4) h h9)
theorem nu_h4 {n : Nat} (h : n ≤ 4) : ((4 : Int32) < nI n) = False := eq_false (nI_nlt (a := 4) h (by decide))
theorem nu_a5 {n : Nat} (h : 5 ≤ n) (h9 : n < 2147483648) : ((5 : Int32) ≤ nI n) = True := eq_true (nI_le (a := 5) h h9)
theorem nu_b5 {n : Nat} (h : n < 5) : ((5 : Int32) ≤ nI n) = False := eq_false (nI_ge (b := 5) h (by decide))
theorem nu_c5 {n : Nat} (h : n < 5) : (nI n < (5 : Int32)) = True := eq_true (nI_lt (b := 5) h (by decide))
theorem nu_d5 {n : Nat} (h : 5 ≤ n) (h9 : n < 2147483648) : (nI n < (5 : Int32)) = False := eq_false (nI_nlt (b := 5) h h9)
theorem nu_e5 {n : Nat} (h : n ≤ 5) : (nI n ≤ (5 : Int32)) = True := eq_true (nI_le (b := 5) h (by decide))
theorem nu_f5 {n : Nat} (h : 5 < n) (h9 : n < 2147483648) : (nI n ≤ (5 : Int32)) = False := eq_false (nI_ge (a := 5) h h9)
theorem nu_g5 {n : Nat} (h : 5 < n) (h9 : n < 2147483648) : ((5 : Int32) < nI n) = True := eq_true (nI_lt (a := 5) h h9)
theorem nu_h5 {n : Nat} (h : n ≤ 5) : ((5 : Int32) < nI n) = False := eq_false (nI_nlt (a := 5) h (by decide))
theorem nu_a6 {n : Nat} (h : 6 ≤ n) (h9 : n < 2147483648) : ((6 : Int32) ≤ nI n) = True := eq_true (nI_le (a := 6) h h9)
theorem nu_b6 {n : Nat} (h : n < 6) : ((6 : Int32) ≤ nI n) = False := eq_false (nI_ge (b := 6) h (by decide))
theorem nu_c6 {n : Nat} (h : n < 6) : (nI n < (6 : Int32)) = True := eq_true (nI_lt (b := 6) h (by decide))
theorem nu_d6 {n : Nat} (h : 6 ≤ n) (h9 : n < 2147483648) : (nI n < (6 : Int32)) = False := eq_false (nI_nlt (b := 6) h h9)
theorem nu_e6 {n : Nat} (h : n ≤ 6) : (nI n ≤ (6 : Int32)) = True := eq_true (nI_le (b := 6) h (by decide))
theorem nu_f6 {n : Nat} (h : 6 < n) (h9 : n < 2147483648) : (nI n ≤ (6 : Int32)) = False := eq_false (nI_ge (a := 6) h h9)
theorem nu_g6 {n : Nat} (h : 6 < n) (h9 : n < 2147483648) : ((6 : Int32) < nI n) = True := eq_true (nI_lt (a := 6) h h9)
theorem nu_h6 {n : Nat} (h : n ≤ 6) : ((6 : Int32) < nI n) = False := eq_false (nI_nlt (a := 6) h (by decide))
theorem nu_a7 {n : Nat} (h : 7 ≤ n) (h9 : n < 2147483648) : ((7 : Int32) ≤ nI n) = True := eq_true (nI_le (a := 7) h h9)
theorem nu_b7 {n : Nat} (h : n < 7) : ((7 : Int32) ≤ nI n) = False := eq_false (nI_ge (b := 7) h (by decide))
theorem nu_c7 {n : Nat} (h : n < 7) : (nI n < (7 : Int32)) = True := eq_true (nI_lt (b := 7) h (by decide))
theorem nu_d7 {n : Nat} (h : 7 ≤ n) (h9 : n < 2147483648) : (nI n < (7 : Int32)) = False := eq_false (nI_nlt (b := 7) h h9)
theorem nu_e7 {n : Nat} (h : n ≤ 7) : (nI n ≤ (7 : Int32)) = True := eq_true (nI_le (b := 7) h (by decide))
theorem nu_f7 {n : Nat} (h : 7 < n) (h9 : n < 2147483648) : (nI n ≤ (7 : Int32)) = False := eq_false (nI_ge (a := 7) h h9)
theorem nu_g7 {n : Nat} (h : 7 < n) (h9 : n < 2147483648) : ((7 : Int32) < nI n) = True := eq_true (nI_lt (a := 7) h h9)
theorem nu_h7 {n : Nat} (h : n ≤ 7) : ((7 : Int32) < nI n) = False := eq_false (nI_nlt (a := 7) h (by decide))
theorem nu_a16 {n : Nat} (h : 16 ≤ n) (h9 : n < 2147483648) : ((16 : Int32) ≤ nI n) = True := eq_true (nI_le (a := 16) h h9)
theorem nu_b16 {n : Nat} (h : n < 16) : ((16 : Int32) ≤ nI n) = False := eq_false (nI_ge (b := 16) h (by decide))
theorem nu_c16 {n : Nat} (h : n < 16) : (nI n < (16 : Int32)) = True := eq_true (nI_lt (b := 16) h (by decide))
theorem nu_d16 {n : Nat} (h : 16 ≤ n) (h9 : n < 2147483648) : (nI n < (16 : Int32)) = False := eq_false (nI_nlt (b := 16) h h9)
theorem nu_e16 {n : Nat} (h : n ≤ 16) : (nI n ≤ (16 : Int32)) = True := eq_true (nI_le (b := 16) h (by decide))
theorem nu_f16 {n : Nat} (h : 16 < n) (h9 : n < 2147483648) : (nI n ≤ (16 : Int32)) = False := eq_false (nI_ge (a := 16) h h9)
theorem nu_g16 {n : Nat} (h : 16 < n) (h9 : n < 2147483648) : ((16 : Int32) < nI n) = True := eq_true (nI_lt (a := 16) h h9)
theorem nu_h16 {n : Nat} (h : n ≤ 16) : ((16 : Int32) < nI n) = False := eq_false (nI_nlt (a := 16) h (by decide))
theorem nu_a32 {n : Nat} (h : 32 ≤ n) (h9 : n < 2147483648) : ((32 : Int32) ≤ nI n) = True := eq_true (nI_le (a := 32) h h9)
theorem nu_b32 {n : Nat} (h : n < 32) : ((32 : Int32) ≤ nI n) = False := eq_false (nI_ge (b := 32) h (by decide))
theorem nu_c32 {n : Nat} (h : n < 32) : (nI n < (32 : Int32)) = True := eq_true (nI_lt (b := 32) h (by decide))
theorem nu_d32 {n : Nat} (h : 32 ≤ n) (h9 : n < 2147483648) : (nI n < (32 : Int32)) = False := eq_false (nI_nlt (b := 32) h h9)
theorem nu_e32 {n : Nat} (h : n ≤ 32) : (nI n ≤ (32 : Int32)) = True := eq_true (nI_le (b := 32) h (by decide))
theorem nu_f32 {n : Nat} (h : 32 < n) (h9 : n < 2147483648) : (nI n ≤ (32 : Int32)) = False := eq_false (nI_ge (a := 32) h h9)
theorem nu_g32 {n : Nat} (h : 32 < n) (h9 : n < 2147483648) : ((32 : Int32) < nI n) = True := eq_true (nI_lt (a := 32) h h9)
theorem nu_h32 {n : Nat} (h : n ≤ 32) : ((32 : Int32) < nI n) = False := eq_false (nI_nlt (a := 32) h (by decide))
theorem nu_u0 {n : Nat} (h : n ≠ 0) (h9 : n < 2147483648) : (nI n = (0 : Int32)) = False := eq_false (fun q => h ((nI_eq h9 (by decide)).mp (q.trans (show (0 : Int32) = nI 0 from rfl))))
theorem nu_v0 {n : Nat} (h : n = 0) : (nI n = (0 : Int32)) = True := eq_true (by rw [h]; rfl)
theorem nu_u1 {n : Nat} (h : n ≠ 1) (h9 : n < 2147483648) : (nI n = (1 : Int32)) = False := eq_false (fun q => h ((nI_eq h9 (by decide)).mp (q.trans (show (1 : Int32) = nI 1 from rfl))))
theorem nu_v1 {n : Nat} (h : n = 1) : (nI n = (1 : Int32)) = True := eq_true (by rw [h]; rfl)
theorem nu_u2 {n : Nat} (h : n ≠ 2) (h9 : n < 2147483648) : (nI n = (2 : Int32)) = False := eq_false (fun q => h ((nI_eq h9 (by decide)).mp (q.trans (show (2 : Int32) = nI 2 from rfl))))
theorem nu_v2 {n : Nat} (h : n = 2) : (nI n = (2 : Int32)) = True := eq_true (by rw [h]; rfl)
theorem nu_u3 {n : Nat} (h : n ≠ 3) (h9 : n < 2147483648) : (nI n = (3 : Int32)) = False := eq_false (fun q => h ((nI_eq h9 (by decide)).mp (q.trans (show (3 : Int32) = nI 3 from rfl))))
theorem nu_v3 {n : Nat} (h : n = 3) : (nI n = (3 : Int32)) = True := eq_true (by rw [h]; rfl)
theorem nu_u4 {n : Nat} (h : n ≠ 4) (h9 : n < 2147483648) : (nI n = (4 : Int32)) = False := eq_false (fun q => h ((nI_eq h9 (by decide)).mp (q.trans (show (4 : Int32) = nI 4 from rfl))))
theorem nu_v4 {n : Nat} (h : n = 4) : (nI n = (4 : Int32)) = True := eq_true (by rw [h]; rfl)
theorem nu_u5 {n : Nat} (h : n ≠ 5) (h9 : n < 2147483648) : (nI n = (5 : Int32)) = False := eq_false (fun q => h ((nI_eq h9 (by decide)).mp (q.trans (show (5 : Int32) = nI 5 from rfl))))
theorem nu_v5 {n : Nat} (h : n = 5) : (nI n = (5 : Int32)) = True := eq_true (by rw [h]; rfl)
theorem nu_u6 {n : Nat} (h : n ≠ 6) (h9 : n < 2147483648) : (nI n = (6 : Int32)) = False := eq_false (fun q => h ((nI_eq h9 (by decide)).mp (q.trans (show (6 : Int32) = nI 6 from rfl))))
theorem nu_v6 {n : Nat} (h : n = 6) : (nI n = (6 : Int32)) = True := eq_true (by rw [h]; rfl)
theorem nu_neg {n : Nat} (h : n < 2147483648) : (nI n < 0) = False := eq_false (nI_pos h)
theorem nu_pos {n : Nat} (h : n < 2147483648) : (0 ≤ nI n) = True := eq_true (nI_pos' h)
theorem nu_m1lt : ((-1 : Int32) < 0) = True := eq_true (by decide)
theorem nu_m1ge : ((0 : Int32) ≤ -1) = False := eq_false (by decide)
theorem nu_nem {n : Nat} (h : n < 2147483648) : (nI n = -1) = False := eq_false (fun q => by
  have := nI_pos h
  rw [q] at this
  exact this (by decide))
theorem nu_men {n : Nat} (h : n < 2147483648) : ((-1 : Int32) = nI n) = False := eq_false (fun q => by
  have := nI_pos h
  rw [← q] at this
  exact this (by decide))
theorem nu_cl {n : Nat} (h : n < 2147483648) : (nI n).toNatClampNeg = n := nI_clamp h
theorem nu_in {n N : Nat} (h : n < N) (hN : N < 2147483648) : vp_in (nI n) N = True := eq_true (vp_in_nI h hN)
theorem nu_eq {a b : Nat} (ha : a < 2147483648) (hb : b < 2147483648) : (nI a = nI b) = (a = b) := propext (nI_eq ha hb)
theorem nu_le {a b : Nat} (ha : a < 2147483648) (hb : b < 2147483648) : (nI a ≤ nI b) = (a ≤ b) := propext (nI_leI ha hb)
theorem nu_lt {a b : Nat} (ha : a < 2147483648) (hb : b < 2147483648) : (nI a < nI b) = (a < b) := propext (nI_ltI ha hb)
theorem nu_n0 : vp_nar .boolean 0 = 0 := rfl
theorem nu_n1 : vp_nar .boolean 1 = 1 := rfl
theorem nu_nb {b : Int32} (h : b = 0 ∨ b = 1) : vp_nar .boolean b = b := by
  rcases h with rfl | rfl
  · rfl
  · rfl
theorem nu_na {b : Int32} (h : b = 0 ∨ b = 1) : narrow .boolean (.int b) = .int b := by
  rcases h with rfl | rfl
  · rfl
  · rfl
theorem nu_na0 : (narrow .boolean (.int 0) = .int 0) = True := eq_true rfl
theorem nu_na1 : (narrow .boolean (.int 1) = .int 1) = True := eq_true rfl
theorem nu_i0_5 : vp_in 0 5 = True := eq_true (vp_in_nI (n := 0) (by decide) (by decide))
theorem nu_i1_5 : vp_in 1 5 = True := eq_true (vp_in_nI (n := 1) (by decide) (by decide))
theorem nu_i2_5 : vp_in 2 5 = True := eq_true (vp_in_nI (n := 2) (by decide) (by decide))
theorem nu_i3_5 : vp_in 3 5 = True := eq_true (vp_in_nI (n := 3) (by decide) (by decide))
theorem nu_i4_5 : vp_in 4 5 = True := eq_true (vp_in_nI (n := 4) (by decide) (by decide))
theorem nu_i0_3 : vp_in 0 3 = True := eq_true (vp_in_nI (n := 0) (by decide) (by decide))
theorem nu_i1_3 : vp_in 1 3 = True := eq_true (vp_in_nI (n := 1) (by decide) (by decide))
theorem nu_i2_3 : vp_in 2 3 = True := eq_true (vp_in_nI (n := 2) (by decide) (by decide))
theorem nu_i0_16 : vp_in 0 16 = True := eq_true (vp_in_nI (n := 0) (by decide) (by decide))
theorem nu_l0 : ((0 : Int32)).toNatClampNeg = 0 := nI_clamp (n := 0) (by decide)
theorem nu_l1 : ((1 : Int32)).toNatClampNeg = 1 := nI_clamp (n := 1) (by decide)
theorem nu_l2 : ((2 : Int32)).toNatClampNeg = 2 := nI_clamp (n := 2) (by decide)
theorem nu_l3 : ((3 : Int32)).toNatClampNeg = 3 := nI_clamp (n := 3) (by decide)
theorem nu_l4 : ((4 : Int32)).toNatClampNeg = 4 := nI_clamp (n := 4) (by decide)
theorem nu_k01 : ((0 : Int32) = 1) = False := eq_false (by decide)
theorem nu_k02 : ((0 : Int32) = 2) = False := eq_false (by decide)
theorem nu_k03 : ((0 : Int32) = 3) = False := eq_false (by decide)
theorem nu_k04 : ((0 : Int32) = 4) = False := eq_false (by decide)
theorem nu_k05 : ((0 : Int32) = 5) = False := eq_false (by decide)
theorem nu_k10 : ((1 : Int32) = 0) = False := eq_false (by decide)
theorem nu_k12 : ((1 : Int32) = 2) = False := eq_false (by decide)
theorem nu_k13 : ((1 : Int32) = 3) = False := eq_false (by decide)
theorem nu_k14 : ((1 : Int32) = 4) = False := eq_false (by decide)
theorem nu_k15 : ((1 : Int32) = 5) = False := eq_false (by decide)
theorem nu_k20 : ((2 : Int32) = 0) = False := eq_false (by decide)
theorem nu_k21 : ((2 : Int32) = 1) = False := eq_false (by decide)
theorem nu_k23 : ((2 : Int32) = 3) = False := eq_false (by decide)
theorem nu_k24 : ((2 : Int32) = 4) = False := eq_false (by decide)
theorem nu_k25 : ((2 : Int32) = 5) = False := eq_false (by decide)
theorem nu_k30 : ((3 : Int32) = 0) = False := eq_false (by decide)
theorem nu_k31 : ((3 : Int32) = 1) = False := eq_false (by decide)
theorem nu_k32 : ((3 : Int32) = 2) = False := eq_false (by decide)
theorem nu_k34 : ((3 : Int32) = 4) = False := eq_false (by decide)
theorem nu_k35 : ((3 : Int32) = 5) = False := eq_false (by decide)
theorem nu_k40 : ((4 : Int32) = 0) = False := eq_false (by decide)
theorem nu_k41 : ((4 : Int32) = 1) = False := eq_false (by decide)
theorem nu_k42 : ((4 : Int32) = 2) = False := eq_false (by decide)
theorem nu_k43 : ((4 : Int32) = 3) = False := eq_false (by decide)
theorem nu_k45 : ((4 : Int32) = 5) = False := eq_false (by decide)
theorem nu_k50 : ((5 : Int32) = 0) = False := eq_false (by decide)
theorem nu_k51 : ((5 : Int32) = 1) = False := eq_false (by decide)
theorem nu_k52 : ((5 : Int32) = 2) = False := eq_false (by decide)
theorem nu_k53 : ((5 : Int32) = 3) = False := eq_false (by decide)
theorem nu_k54 : ((5 : Int32) = 4) = False := eq_false (by decide)
theorem nu_z1 : ((-1 : Int32) = 0) = False := eq_false (by decide)
theorem nu_z2 : ((-2 : Int32) = 0) = False := eq_false (by decide)
theorem nu_z3 : ((-3 : Int32) = 0) = False := eq_false (by decide)
theorem nu_z4 : ((-4 : Int32) = 0) = False := eq_false (by decide)
theorem nu_z5 : ((-5 : Int32) = 0) = False := eq_false (by decide)
theorem nu_z6 : ((-6 : Int32) = 0) = False := eq_false (by decide)
theorem nu_z7 : ((-7 : Int32) = 0) = False := eq_false (by decide)
theorem nu_z8 : ((-8 : Int32) = 0) = False := eq_false (by decide)
theorem nu_01 : (0 : Int32) + 1 = nI 1 := rfl
theorem nu_p0 : (nI 0 ≤ (0 : Int32)) = True := eq_true (by decide)
theorem nu_pn {n : Nat} (h : 0 < n) (h9 : n < 2147483648) : (nI n ≤ (0 : Int32)) = False := eq_false (nI_nle h h9)
theorem nu_00 : ((0 : Int32) ≤ 0) = True := eq_true (by decide)
theorem nu_10 : ((1 : Int32) ≤ 0) = False := eq_false (by decide)
theorem nu_21 : ((2 : Int32) ≤ 1) = False := eq_false (by decide)
theorem nu_2z : ((2 : Int32) ≤ 0) = False := eq_false (by decide)
theorem nu_22 : ((2 : Int32) ≤ 2) = True := eq_true (by decide)
theorem nu_2p0 : ((2 : Int32) ≤ 0) = False := eq_false (by decide)
theorem nu_dec {m : Nat} (h : m < 2) : nI (2 - m) + (-1) = nI (2 - (m + 1)) := by
  rw [show 2 - m = (2 - (m + 1)) + 1 by omega]
  exact pk_m1 _
theorem nu_44 : ((4 : Int32) ≤ 4) = True := eq_true (by decide)
theorem nu_45 : ((4 : Int32) ≤ 5) = True := eq_true (by decide)
theorem nu_41 : ((4 : Int32) ≤ 1) = False := eq_false (by decide)
theorem nu_42 : ((4 : Int32) ≤ 2) = False := eq_false (by decide)
theorem nu_lm {a : Nat} (h : a < 2147483648) : (nI a + (-1) < nI a) = True := eq_true (by
  rcases a with _ | b
  · decide
  · rw [pk_m1]
    exact nI_lt (by omega) h)
theorem nu_nl {a b : Nat} (h : a + b < 2147483648) : (nI (a + b) < nI a) = False := eq_false (nI_nlt (by omega) h)
theorem nu_40 : ((4 : Int32) ≤ 0) = False := eq_false (by decide)
theorem nu_30 : ((3 : Int32) ≤ 0) = False := eq_false (by decide)
theorem nu_20 : ((2 : Int32) < 0) = False := eq_false (by decide)
theorem nu_160 : ((16 : Int32) ≤ 0) = False := eq_false (by decide)
theorem nu_0c (f : Nat → Int32) : f (nI 0).toNatClampNeg = f 0 := by rw [nI_clamp (by decide)]
theorem nu_q {a A B : Prop} (h : a = True) : ((a → A) ∧ (¬ a → B)) = A := by
  subst h
  exact propext ⟨fun z => z.1 trivial, fun z => ⟨fun _ => z, fun w => absurd trivial w⟩⟩
theorem nu_0a (f : Nat → Int32) (k : Nat) : upd f k (f k + 0) = f := by
  funext j
  by_cases h : j = k
  · subst h
    rw [pk_us, Int32.add_zero]
  · rw [pk_un h]
theorem nu_uu (f : Nat → Int32) (k : Nat) (x y : Int32) : upd (upd f k x) k y = upd f k y := by
  funext j
  by_cases h : j = k
  · subst h
    rw [pk_us, pk_us]
  · rw [pk_un h, pk_un h, pk_un h]
theorem nu_same (f : Nat → Int32) (k : Nat) {x : Int32} (h : f k = x) : upd f k x = f := by
  funext j
  by_cases q : j = k
  · subst q
    rw [pk_us, h]
  · rw [pk_un q]
end
section
def re_B (f : Nat → Int32) : Prop := ∀ j, f j = 0 ∨ f j = 1
def re_K (st : Nat → Int32) : Prop := ∀ e, st e = 0 ∨ st e = 1 ∨ st e = 2 ∨ st e = 3 ∨ st e = 4 ∨ st e = 5
def re_Q (lk : Nat → Int32) : Prop := ∀ r, lk r = -1 ∨ ∃ s, s < 3 ∧ lk r = nI s
def re_L (x : Int32) : Prop := x = -1 ∨ ∃ j, j < 16 ∧ x = nI j
def re_T (rt wt th : Nat → Int32) : Prop := ∀ k, k < 16 → rt k = th k ∧ wt k = th (16 + k)
def re_C (rc wc ro : Nat → Int32) : Prop := ∀ k, k < 16 → ∀ c, c < 4 → rc (4 * k + c) = ro (4 * k + c) ∧ wc (4 * k + c) = ro (4 * (16 + k) + c)
def re_O (ro : Nat → Int32) : Prop := ∀ j, j < 32 → re_L (ro (4 * j + 2))
def re_E (en : Nat → Int32) : Prop := ∀ e, e < 48 → re_L (en (4 * e + 2))
def re_N (st en nw : Nat → Int32) : Prop := ∀ e, e < 48 → ¬ st e = 0 → ¬ st e = 3 → ∀ c, c < 3 → en (4 * e + c) = nw (3 * e + c)
def re_S (sn bf : Nat → Int32) : Prop := ∀ e, e < 48 → ∀ c, c < 3 → sn (4 * e + c) = bf (3 * e + c)
def re_V (st sn ve : Nat → Int32) : Prop := ∀ e, e < 48 → st e = 4 ∨ st e = 5 → sn (4 * e + 3) = ve e
def re_R (md bk ch lk st rt rc wt wc en sn th ro nw bf ve : Nat → Int32) : Prop :=
  re_B md ∧ re_B bk ∧ re_B ch ∧ re_B th ∧ re_Q lk ∧ re_K st ∧ re_T rt wt th ∧ re_C rc wc ro ∧ re_O ro ∧ re_E en ∧ re_N st en nw ∧ re_S sn bf ∧ re_V st sn ve
def re_P (n : Nat) (sk sr sm : Nat → Int32) : Prop := ∀ k, k < n → sk k = sm (2 * k) ∧ sr k = sm (2 * k + 1)
theorem re_Bu {f : Nat → Int32} {k : Nat} {x : Int32} (h : re_B f) (hx : x = 0 ∨ x = 1) : re_B (upd f k x) := by
  intro j
  by_cases q : j = k
  · subst q
    rw [pk_us]
    exact hx
  · rw [pk_un q]
    exact h j
theorem re_Bn {f : Nat → Int32} {k : Nat} {x : Int32} (h : re_B f) (hx : x = 0 ∨ x = 1) : re_B (upd f k (vp_nar .boolean x)) := by
  rw [nu_nb hx]
  exact re_Bu h hx
theorem re_Ku {st : Nat → Int32} {e : Nat} {x : Int32} (h : re_K st) (hx : x = 0 ∨ x = 1 ∨ x = 2 ∨ x = 3 ∨ x = 4 ∨ x = 5) : re_K (upd st e x) := by
  intro j
  by_cases q : j = e
  · subst q
    rw [pk_us]
    exact hx
  · rw [pk_un q]
    exact h j
theorem re_Qu {lk : Nat → Int32} {r : Nat} {x : Int32} (h : re_Q lk) (hx : x = -1 ∨ ∃ s, s < 3 ∧ x = nI s) : re_Q (upd lk r x) := by
  intro j
  by_cases q : j = r
  · subst q
    rw [pk_us]
    exact hx
  · rw [pk_un q]
    exact h j
theorem re_Lof {x : Int32} (h0 : ¬ x < -1) (h1 : ¬ 16 ≤ x) : re_L x := by
  by_cases h : x < 0
  · refine Or.inl ?_
    have e1 : (-1 : Int32).toInt = -1 := by decide
    have e0 : (0 : Int32).toInt = 0 := by decide
    have a := Int32.not_lt.mp h0
    rw [Int32.le_iff_toInt_le, e1] at a
    have b := h
    rw [Int32.lt_iff_toInt_lt, e0] at b
    apply Int32.toInt_inj.mp
    rw [e1]
    omega
  · rcases pk_ix x (n := 16) (by decide) with q | q | q
    · exact absurd q h
    · exact absurd q h1
    · exact Or.inr q
/-- a kind is set where the cells' clauses held before -/
theorem re_Nk {st en nw : Nat → Int32} {e : Nat} {x : Int32} (h : re_N st en nw) (hx : x = 0 ∨ x = 3 ∨ (¬ st e = 0 ∧ ¬ st e = 3)) : re_N (upd st e x) en nw := by
  intro j hj h0 h3
  by_cases q : j = e
  · subst q
    rw [pk_us] at h0 h3
    rcases hx with hx | hx | hx
    · exact absurd hx h0
    · exact absurd hx h3
    · exact h j hj hx.1 hx.2
  · rw [pk_un q] at h0 h3
    exact h j hj h0 h3
theorem re_Vk {st sn ve : Nat → Int32} {e : Nat} {x : Int32} (h : re_V st sn ve) (hx : x = 4 ∨ x = 5 → st e = 4 ∨ st e = 5) : re_V (upd st e x) sn ve := by
  intro j hj h4
  by_cases q : j = e
  · subst q
    rw [pk_us] at h4
    exact h j hj (hx h4)
  · rw [pk_un q] at h4
    exact h j hj h4
/-- the version where the kind isn't 4 or 5 is free -/
theorem re_Vf {st sn ve : Nat → Int32} {e : Nat} {x y : Int32} (h : re_V st sn ve) (hx : ¬ (x = 4 ∨ x = 5)) : re_V (upd st e x) sn (upd ve e y) := by
  intro j hj h4
  by_cases q : j = e
  · subst q
    rw [pk_us] at h4
    exact absurd h4 hx
  · rw [pk_un q] at h4 ⊢
    exact h j hj h4
theorem re_Eu {en : Nat → Int32} {e c : Nat} {x : Int32} (h : re_E en) (hc : c < 4) (hx : c = 2 → re_L x) : re_E (upd en (4 * e + c) x) := by
  intro j hj
  by_cases q : 4 * j + 2 = 4 * e + c
  · rw [q, pk_us]
    exact hx (by omega)
  · rw [pk_un q]
    exact h j hj
theorem re_Nu {st en nw : Nat → Int32} {e c : Nat} {x : Int32} (h : re_N st en nw) (hc : c < 3) : re_N st (upd en (4 * e + c) x) (upd nw (3 * e + c) x) := by
  intro j hj h0 h3 d hd
  by_cases q : j = e ∧ d = c
  · rw [q.1, q.2, pk_us, pk_us]
  · rw [pk_un (by omega), pk_un (by omega)]
    exact h j hj h0 h3 d hd
theorem re_Su {sn bf : Nat → Int32} {e c : Nat} {x : Int32} (h : re_S sn bf) (hc : c < 3) : re_S (upd sn (4 * e + c) x) (upd bf (3 * e + c) x) := by
  intro j hj d hd
  by_cases q : j = e ∧ d = c
  · rw [q.1, q.2, pk_us, pk_us]
  · rw [pk_un (by omega), pk_un (by omega)]
    exact h j hj d hd
theorem re_S3 {sn bf : Nat → Int32} {e : Nat} {x : Int32} (h : re_S sn bf) : re_S (upd sn (4 * e + 3) x) bf := by
  intro j hj d hd
  rw [pk_un (by omega)]
  exact h j hj d hd
theorem re_N3 {st en nw : Nat → Int32} {e : Nat} {x : Int32} (h : re_N st en nw) : re_N st (upd en (4 * e + 3) x) nw := by
  intro j hj h0 h3 d hd
  rw [pk_un (by omega)]
  exact h j hj h0 h3 d hd
/-- the cells of one entity are written anew -/
theorem re_Nw {st en nw : Nat → Int32} {e : Nat} {x a b c : Int32} (h : re_N st en nw) : re_N (upd st e x) (upd (upd (upd en (4 * e) a) (4 * e + 1) b) (4 * e + 2) c) (upd (upd (upd nw (3 * e) a) (3 * e + 1) b) (3 * e + 2) c) := by
  intro j hj h0 h3 d hd
  by_cases q : j = e
  · subst q
    rcases (show d = 0 ∨ d = 1 ∨ d = 2 by omega) with rfl | rfl | rfl
    · simp (disch := omega) only [Nat.add_zero, pk_us, pk_un]
    · rw [pk_un (by omega), pk_us, pk_un (by omega), pk_us]
    · rw [pk_us, pk_us]
  · rw [pk_un q] at h0 h3
    rw [pk_un (by omega), pk_un (by omega), pk_un (by omega), pk_un (by omega), pk_un (by omega), pk_un (by omega)]
    exact h j hj h0 h3 d hd
theorem re_Sw {sn bf : Nat → Int32} {e : Nat} {a b c : Int32} (h : re_S sn bf) : re_S (upd (upd (upd sn (4 * e) a) (4 * e + 1) b) (4 * e + 2) c) (upd (upd (upd bf (3 * e) a) (3 * e + 1) b) (3 * e + 2) c) := by
  have h1 := re_Su (e := e) (c := 0) (x := a) h (by decide)
  have h2 := re_Su (e := e) (c := 1) (x := b) h1 (by decide)
  exact re_Su (e := e) (c := 2) (x := c) h2 (by decide)
theorem re_Ew {en : Nat → Int32} {e : Nat} {a b c : Int32} (h : re_E en) (hc : re_L c) : re_E (upd (upd (upd en (4 * e) a) (4 * e + 1) b) (4 * e + 2) c) := by
  have h1 := re_Eu (e := e) (c := 0) (x := a) h (by decide) (fun q => absurd q (by decide))
  have h2 := re_Eu (e := e) (c := 1) (x := b) h1 (by decide) (fun q => absurd q (by decide))
  exact re_Eu (e := e) (c := 2) (x := c) h2 (by decide) (fun _ => hc)
theorem re_Vw {st sn ve : Nat → Int32} {e : Nat} {a b c d : Int32} (h : re_V st sn ve) : re_V (upd st e 4) (upd (upd (upd (upd sn (4 * e) a) (4 * e + 1) b) (4 * e + 2) c) (4 * e + 3) d) (upd ve e d) := by
  intro j hj h4
  by_cases q : j = e
  · subst q
    rw [pk_us, pk_us]
  · rw [pk_un q] at h4
    rw [pk_un (by omega), pk_un (by omega), pk_un (by omega), pk_un (by omega), pk_un q]
    exact h j hj h4
/-- a row's written place -/
theorem re_Tw {rt wt th : Nat → Int32} {k : Nat} {x : Int32} (h : re_T rt wt th) : re_T rt (upd wt k x) (upd th (16 + k) x) := by
  intro j hj
  refine ⟨?_, ?_⟩
  · rw [pk_un (by omega)]
    exact (h j hj).1
  · by_cases q : j = k
    · subst q
      rw [pk_us, pk_us]
    · rw [pk_un q, pk_un (by omega)]
      exact (h j hj).2
theorem re_Tr {rt wt th : Nat → Int32} {k : Nat} {x : Int32} (h : re_T rt wt th) (hk : k < 16) : re_T (upd rt k x) wt (upd th k x) := by
  intro j hj
  refine ⟨?_, ?_⟩
  · by_cases q : j = k
    · subst q
      rw [pk_us, pk_us]
    · rw [pk_un q, pk_un q]
      exact (h j hj).1
  · rw [pk_un (by omega)]
    exact (h j hj).2
theorem re_Cw {rc wc ro : Nat → Int32} {k c : Nat} {x : Int32} (h : re_C rc wc ro) (hc : c < 4) : re_C rc (upd wc (4 * k + c) x) (upd ro (4 * (16 + k) + c) x) := by
  intro j hj d hd
  refine ⟨?_, ?_⟩
  · rw [pk_un (by omega)]
    exact (h j hj d hd).1
  · by_cases q : j = k ∧ d = c
    · rw [q.1, q.2, pk_us, pk_us]
    · rw [pk_un (by omega), pk_un (by omega)]
      exact (h j hj d hd).2
theorem re_Cr {rc wc ro : Nat → Int32} {k c : Nat} {x : Int32} (h : re_C rc wc ro) (hk : k < 16) (hc : c < 4) : re_C (upd rc (4 * k + c) x) wc (upd ro (4 * k + c) x) := by
  intro j hj d hd
  refine ⟨?_, ?_⟩
  · by_cases q : j = k ∧ d = c
    · rw [q.1, q.2, pk_us, pk_us]
    · rw [pk_un (by omega), pk_un (by omega)]
      exact (h j hj d hd).1
  · rw [pk_un (by omega)]
    exact (h j hj d hd).2
theorem re_Ou {ro : Nat → Int32} {k c : Nat} {x : Int32} (h : re_O ro) (hc : c < 4) (hx : c = 2 → re_L x) : re_O (upd ro (4 * k + c) x) := by
  intro j hj
  by_cases q : 4 * j + 2 = 4 * k + c
  · rw [q, pk_us]
    exact hx (by omega)
  · rw [pk_un q]
    exact h j hj
/-- the statements' list grows by one -/
theorem re_Pu {n : Nat} {sk sr sm : Nat → Int32} {x y : Int32} (h : re_P n sk sr sm) : re_P (n + 1) (upd sk n x) (upd sr n y) (upd (upd sm (2 * n) x) (2 * n + 1) y) := by
  intro j hj
  by_cases q : j = n
  · subst q
    refine ⟨?_, ?_⟩
    · rw [pk_us, pk_un (by omega), pk_us]
    · rw [pk_us, pk_us]
  · refine ⟨?_, ?_⟩
    · rw [pk_un q, pk_un (by omega), pk_un (by omega)]
      exact (h j (by omega)).1
    · rw [pk_un q, pk_un (by omega), pk_un (by omega)]
      exact (h j (by omega)).2
theorem re_P0 {sk sr sm : Nat → Int32} : re_P 0 sk sr sm := fun k h => absurd h (Nat.not_lt_zero k)
/-- what a session sees of a row: there or not, a cell -/
def si_t (rt wt lk : Nat → Int32) (s k : Nat) : Int32 := if lk k = nI s then wt k else rt k
def si_c (rc wc lk : Nat → Int32) (s k c : Nat) : Int32 := if lk k = nI s then wc (4 * k + c) else rc (4 * k + c)
def si_f (lk : Nat → Int32) (s k : Nat) : Nat := if lk k = nI s then 16 + k else k
theorem si_ft {rt wt th lk : Nat → Int32} {s k : Nat} (h : re_T rt wt th) (hk : k < 16) : th (si_f lk s k) = si_t rt wt lk s k := by
  unfold si_f si_t
  split
  · exact (h k hk).2.symm
  · exact (h k hk).1.symm
theorem si_fc {rc wc ro lk : Nat → Int32} {s k c : Nat} (h : re_C rc wc ro) (hk : k < 16) (hc : c < 4) : ro (4 * si_f lk s k + c) = si_c rc wc lk s k c := by
  unfold si_f si_c
  split
  · exact (h k hk c hc).2.symm
  · exact (h k hk c hc).1.symm
theorem si_lt (lk : Nat → Int32) {s k : Nat} (hk : k < 16) : si_f lk s k < 32 := by
  unfold si_f
  split <;> omega
theorem si_01 {rt wt th lk : Nat → Int32} {s k : Nat} (h : re_T rt wt th) (hb : re_B th) (hk : k < 16) : si_t rt wt lk s k = 0 ∨ si_t rt wt lk s k = 1 := by
  rw [← si_ft h hk]
  exact hb _
theorem si_L {rc wc ro lk : Nat → Int32} {s k : Nat} (h : re_C rc wc ro) (ho : re_O ro) (hk : k < 16) : re_L (si_c rc wc lk s k 2) := by
  rw [← si_fc h hk (by decide)]
  exact ho _ (si_lt lk hk)
/-- dirty: a managed one whose cells differ -/
def di_P (st en sn : Nat → Int32) (e : Nat) : Prop := st e = 4 ∧ ¬ (en (4 * e) = sn (4 * e) ∧ en (4 * e + 1) = sn (4 * e + 1) ∧ en (4 * e + 2) = sn (4 * e + 2))
noncomputable def di_v (P : Prop) : Int32 := @ite Int32 P (Classical.propDecidable P) 1 0
theorem di_t {P : Prop} (h : P) : di_v P = 1 := by unfold di_v; rw [if_pos h]
theorem di_f {P : Prop} (h : ¬ P) : di_v P = 0 := by unfold di_v; rw [if_neg h]
theorem di_01 (P : Prop) : di_v P = 0 ∨ di_v P = 1 := by
  by_cases h : P
  · exact Or.inr (di_t h)
  · exact Or.inl (di_f h)
theorem di_z {P : Prop} : di_v P = 0 ↔ ¬ P := by
  refine ⟨fun h p => ?_, di_f⟩
  rw [di_t p] at h
  exact absurd h (by decide)
end
section
noncomputable def cn_b (P : Prop) : Nat := @ite Nat P (Classical.propDecidable P) 1 0
theorem cn_t {P : Prop} (h : P) : cn_b P = 1 := by unfold cn_b; rw [if_pos h]
theorem cn_f {P : Prop} (h : ¬ P) : cn_b P = 0 := by unfold cn_b; rw [if_neg h]
theorem cn_b1 (P : Prop) : cn_b P ≤ 1 := by
  by_cases h : P
  · rw [cn_t h]; omega
  · rw [cn_f h]; omega
theorem cn_bm {P Q : Prop} (h : P → Q) : cn_b P ≤ cn_b Q := by
  by_cases hp : P
  · rw [cn_t hp, cn_t (h hp)]; omega
  · rw [cn_f hp]; omega
noncomputable def cn_n (P : Nat → Prop) : Nat → Nat
  | 0 => 0
  | k + 1 => cn_n P k + cn_b (P k)
theorem cn_mono {P Q : Nat → Prop} : ∀ {N : Nat}, (∀ k, k < N → P k → Q k) → cn_n P N ≤ cn_n Q N
  | 0, _ => Nat.le_refl _
  | N + 1, h => by
    have a := cn_mono (P := P) (Q := Q) (N := N) (fun k hk => h k (by omega))
    have b := cn_bm (h N (by omega))
    simp only [cn_n]; omega
theorem cn_lt {P Q : Nat → Prop} {a : Nat} (hp : ¬ P a) (hq : Q a) : ∀ {N : Nat}, (∀ k, k < N → P k → Q k) → a < N → cn_n P N < cn_n Q N
  | 0, _, h => by omega
  | N + 1, h, ha => by
    simp only [cn_n]
    rcases Nat.lt_or_ge a N with z | z
    · have x := cn_lt hp hq (N := N) (fun k hk => h k (by omega)) z
      have b := cn_bm (h N (by omega))
      omega
    · have e : a = N := by omega
      subst e
      have x := cn_mono (P := P) (Q := Q) (N := a) (fun k hk => h k (by omega))
      rw [cn_t hq, cn_f hp]; omega
theorem cn_le (P : Nat → Prop) : ∀ N, cn_n P N ≤ N
  | 0 => Nat.le_refl _
  | N + 1 => by have := cn_le P N; have := cn_b1 (P N); simp only [cn_n]; omega
theorem cn_eq {P Q : Nat → Prop} {N : Nat} (h : ∀ k, k < N → (P k ↔ Q k)) : cn_n P N = cn_n Q N :=
  Nat.le_antisymm (cn_mono fun k hk => (h k hk).mp) (cn_mono fun k hk => (h k hk).mpr)
theorem cn_add {P : Nat → Prop} {a : Nat} (hp : ¬ P a) : ∀ {N : Nat}, a < N → cn_n (fun k => P k ∨ k = a) N = cn_n P N + 1
  | 0, h => by omega
  | N + 1, h => by
    simp only [cn_n]
    rcases Nat.lt_or_ge a N with z | z
    · rw [cn_add hp z]
      have : cn_b (P N ∨ N = a) = cn_b (P N) := Nat.le_antisymm (cn_bm fun q => q.elim id (fun e => by omega)) (cn_bm Or.inl)
      omega
    · have e : a = N := by omega
      subst e
      rw [cn_eq (P := fun k => P k ∨ k = a) (Q := P) (fun k hk => ⟨fun q => q.elim id (fun e => by omega), Or.inl⟩), cn_t (Or.inr rfl), cn_f hp]
theorem cn_F : ∀ N, cn_n (fun _ => False) N = 0
  | 0 => rfl
  | N + 1 => by simp only [cn_n]; rw [cn_F N, cn_f id]
theorem cn_0 {P : Nat → Prop} {N : Nat} (h : cn_n P N = 0) : ∀ k, k < N → ¬ P k := by
  intro k hk hp
  have := cn_lt (P := fun _ => False) (Q := P) (a := k) id hp (N := N) (fun _ _ q => q.elim) hk
  omega
theorem cn_z {P : Nat → Prop} {N : Nat} (h : ∀ k, k < N → ¬ P k) : cn_n P N = 0 := by
  have := cn_mono (P := P) (Q := fun _ => False) (N := N) (fun k hk q => h k hk q)
  rw [cn_F] at this
  omega
/-- a set and one that is taken out of it -/
theorem cn_out {P Q : Nat → Prop} {a N : Nat} (ha : a < N) (hp : P a) (h : ∀ k, k < N → (Q k ↔ P k ∧ k ≠ a)) : cn_n Q N + 1 = cn_n P N := by
  have hn : ¬ Q a := fun q => ((h a ha).mp q).2 rfl
  rw [← cn_add (P := Q) (a := a) hn ha]
  refine cn_eq fun k hk => ⟨fun q => ?_, fun q => ?_⟩
  · rcases q with q | q
    · exact ((h k hk).mp q).1
    · subst q
      exact hp
  · by_cases e : k = a
    · exact Or.inr e
    · exact Or.inl ((h k hk).mpr ⟨q, e⟩)
theorem cn_in {P Q : Nat → Prop} {a N : Nat} (ha : a < N) (hp : ¬ P a) (h : ∀ k, k < N → (Q k ↔ P k ∨ k = a)) : cn_n Q N = cn_n P N + 1 := by
  rw [← cn_add (P := P) (a := a) hp ha]
  exact cn_eq h
/-- three sets without a common one -/
theorem cn_3 {P Q R : Nat → Prop} (h1 : ∀ k, P k → ¬ Q k) (h2 : ∀ k, P k → ¬ R k) (h3 : ∀ k, Q k → ¬ R k) : ∀ N, cn_n P N + cn_n Q N + cn_n R N ≤ N
  | 0 => by simp only [cn_n]; omega
  | N + 1 => by
    have := cn_3 h1 h2 h3 N
    have a := cn_b1 (P N)
    have b := cn_b1 (Q N)
    have c := cn_b1 (R N)
    simp only [cn_n]
    by_cases p : P N
    · rw [cn_f (h1 N p), cn_f (h2 N p)]; omega
    · rw [cn_f p]
      by_cases q : Q N
      · rw [cn_f (h3 N q)]; omega
      · rw [cn_f q]; omega
end
section
/-- a chain of TRANSIENT ones becomes NEW -/
def sv_ch (s : Nat) (g : Nat → Int32) : Nat → (Nat → Int32) → Int32 → (Nat → Int32)
  | 0, st, _ => st
  | n + 1, st, x => if x < 0 then st else if st (16 * s + x.toNatClampNeg) = 1 then sv_ch s g n (upd st (16 * s + x.toNatClampNeg) 2) (g x.toNatClampNeg) else st
theorem sv_chm (s : Nat) (g : Nat → Int32) (n : Nat) (st : Nat → Int32) : sv_ch s g (n + 1) st (-1) = st := by
  rw [sv_ch, if_pos (by decide)]
theorem sv_ch1 {s : Nat} {g : Nat → Int32} {n l : Nat} {st : Nat → Int32} (hl : l < 16) (h : st (16 * s + l) = 1) : sv_ch s g (n + 1) st (nI l) = sv_ch s g n (upd st (16 * s + l) 2) (g l) := by
  rw [sv_ch, if_neg (nI_pos (by omega)), nI_clamp (by omega), if_pos h]
theorem sv_ch0 {s : Nat} {g : Nat → Int32} {n l : Nat} {st : Nat → Int32} (hl : l < 16) (h : ¬ st (16 * s + l) = 1) : sv_ch s g (n + 1) st (nI l) = st := by
  rw [sv_ch, if_neg (nI_pos (by omega)), nI_clamp (by omega), if_neg h]
noncomputable def sv_1 (s : Nat) (st : Nat → Int32) : Nat := cn_n (fun j => st (16 * s + j) = 1) 16
theorem sv_1u {s l : Nat} {st : Nat → Int32} (hl : l < 16) (h : st (16 * s + l) = 1) : sv_1 s (upd st (16 * s + l) 2) < sv_1 s st := by
  refine cn_lt (a := l) ?_ h ?_ hl
  · rw [pk_us]
    decide
  · intro k _ hk
    by_cases q : k = l
    · subst q
      exact h
    · rw [pk_un (by omega)] at hk
      exact hk
theorem sv_10 {s : Nat} {st : Nat → Int32} (h : sv_1 s st = 0) : ∀ l, l < 16 → ¬ st (16 * s + l) = 1 := cn_0 h
def sv_X (s : Nat) (st0 st : Nat → Int32) : Prop := ∀ e, st e = st0 e ∨ (st0 e = 1 ∧ st e = 2 ∧ ∃ j, j < 16 ∧ e = 16 * s + j)
def sv_C (s : Nat) (D : Nat → Prop) (g st : Nat → Int32) : Prop := ∀ j, j < 16 → (st (16 * s + j) = 2 ∨ D j) → ∀ l, l < 16 → g j = nI l → ¬ st (16 * s + l) = 1
def sv_M (s : Nat) (D : Nat → Prop) (g st0 st : Nat → Int32) : Prop := ∀ st', sv_X s st0 st' → sv_C s D g st' → ∀ e, st e = 2 → st' e = 2
theorem sv_uniq {s : Nat} {D : Nat → Prop} {g st0 a b : Nat → Int32} (xa : sv_X s st0 a) (ca : sv_C s D g a) (ma : sv_M s D g st0 a) (xb : sv_X s st0 b) (cb : sv_C s D g b) (mb : sv_M s D g st0 b) : a = b := by
  funext e
  by_cases h : a e = 2
  · rw [h, ma b xb cb e h]
  · have hb : ¬ b e = 2 := fun q => h (mb a xa ca e q)
    rcases xa e with p | p
    · rcases xb e with q | q
      · rw [p, q]
      · exact absurd q.2.1 hb
    · exact absurd p.2.1 h
theorem sv_X0 (s : Nat) (st : Nat → Int32) : sv_X s st st := fun _ => Or.inl rfl
theorem sv_M0 (s : Nat) (D : Nat → Prop) (g st : Nat → Int32) : sv_M s D g st st := by
  intro st' x _ e h
  rcases x e with p | p
  · rw [p, h]
  · exact p.2.1
/-- one TRANSIENT one becomes NEW that every closed state has as NEW -/
theorem sv_X1 {s l : Nat} {st0 st : Nat → Int32} (x : sv_X s st0 st) (hl : l < 16) (h : st (16 * s + l) = 1) : sv_X s st0 (upd st (16 * s + l) 2) := by
  intro e
  by_cases q : e = 16 * s + l
  · subst q
    rw [pk_us]
    rcases x (16 * s + l) with p | p
    · exact Or.inr ⟨by rw [← p, h], rfl, l, hl, rfl⟩
    · exact Or.inr ⟨p.1, rfl, l, hl, rfl⟩
  · rw [pk_un q]
    exact x e
theorem sv_M1 {s l : Nat} {D : Nat → Prop} {g st0 st : Nat → Int32} (m : sv_M s D g st0 st) (x : sv_X s st0 st) (h : st (16 * s + l) = 1) (hf : ∀ st', sv_X s st0 st' → sv_C s D g st' → ¬ st' (16 * s + l) = 1) : sv_M s D g st0 (upd st (16 * s + l) 2) := by
  intro st' x' c' e he
  by_cases q : e = 16 * s + l
  · subst q
    have h1 := hf st' x' c'
    rcases x' (16 * s + l) with p | p
    · rcases x (16 * s + l) with r | r
      · exact absurd (by rw [p, ← r, h]) h1
      · exact absurd (by rw [p, r.1]) h1
    · exact p.2.1
  · rw [pk_un q] at he
    exact m st' x' c' e he
/-- the dirty ones stay the dirty ones -/
theorem sv_D {s : Nat} {st0 st en sn : Nat → Int32} (x : sv_X s st0 st) (e : Nat) : di_P st en sn e ↔ di_P st0 en sn e := by
  unfold di_P
  rcases x e with p | p
  · rw [p]
  · rw [p.1, p.2.1]
    refine ⟨fun h => absurd h.1 (by decide), fun h => absurd h.1 (by decide)⟩
theorem sv_chain {s : Nat} {D : Nat → Prop} {g st0 : Nat → Int32} (hg : ∀ j, j < 16 → re_L (g j)) : ∀ (n : Nat) (st : Nat → Int32) (x : Int32), re_L x → sv_X s st0 st → sv_M s D g st0 st → sv_1 s st ≤ n →
    (∀ l, l < 16 → x = nI l → ∀ st', sv_X s st0 st' → sv_C s D g st' → ¬ st' (16 * s + l) = 1) →
    sv_X s st0 (sv_ch s g n st x) ∧ sv_M s D g st0 (sv_ch s g n st x) ∧ (∀ e, sv_ch s g n st x e = st e ∨ (st e = 1 ∧ sv_ch s g n st x e = 2)) ∧ (∀ l, l < 16 → x = nI l → ¬ sv_ch s g n st x (16 * s + l) = 1) ∧
    (∀ j, j < 16 → sv_ch s g n st x (16 * s + j) = 2 → ¬ st (16 * s + j) = 2 → ∀ l, l < 16 → g j = nI l → ¬ sv_ch s g n st x (16 * s + l) = 1) := by
  intro n
  induction n with
  | zero =>
    intro st x _ hx hm h1 _
    have h0 := sv_10 (s := s) (st := st) (by omega)
    exact ⟨hx, hm, fun e => Or.inl rfl, fun l hl _ => h0 l hl, fun j _ a b => absurd a b⟩
  | succ n ih =>
    intro st x hL hx hm h1 hf
    rcases hL with rfl | ⟨l, hl, rfl⟩
    · rw [sv_chm]
      exact ⟨hx, hm, fun e => Or.inl rfl, fun l hl q => absurd q (by rw [nu_men (by omega)]; exact id), fun j _ a b => absurd a b⟩
    · by_cases h : st (16 * s + l) = 1
      · rw [sv_ch1 hl h]
        have hx1 := sv_X1 hx hl h
        have hm1 := sv_M1 hm hx h (hf l hl rfl)
        have hc1 := sv_1u hl h
        have hf1 : ∀ l', l' < 16 → g l = nI l' → ∀ st', sv_X s st0 st' → sv_C s D g st' → ¬ st' (16 * s + l') = 1 := by
          intro l' hl' hg' st' x' c'
          have h2 : st' (16 * s + l) = 2 := hm1 st' x' c' (16 * s + l) pk_us
          exact c' l hl (Or.inl h2) l' hl' hg'
        obtain ⟨a1, a2, a3, a4, a5⟩ := ih (upd st (16 * s + l) 2) (g l) (hg l hl) hx1 hm1 (by omega) hf1
        refine ⟨a1, a2, ?_, ?_, ?_⟩
        · intro e
          rcases a3 e with p | p
          · by_cases q : e = 16 * s + l
            · subst q
              rw [pk_us] at p
              exact Or.inr ⟨h, p⟩
            · rw [pk_un q] at p
              exact Or.inl p
          · by_cases q : e = 16 * s + l
            · subst q
              exact Or.inr ⟨h, p.2⟩
            · rw [pk_un q] at p
              exact Or.inr p
        · intro l' hl' q
          have e : l = l' := (nI_eq (by omega) (by omega)).mp q
          subst e
          rcases a3 (16 * s + l) with p | p
          · rw [p, pk_us]
            decide
          · rw [p.2]
            decide
        · intro j hj q1 q2 l' hl' q3
          by_cases e : j = l
          · subst e
            exact a4 l' hl' q3
          · refine a5 j hj q1 ?_ l' hl' q3
            rw [pk_un (by omega)]
            exact q2
      · rw [sv_ch0 hl h]
        refine ⟨hx, hm, fun e => Or.inl rfl, ?_, fun j _ a b => absurd a b⟩
        intro l' hl' q
        have e : l = l' := (nI_eq (by omega) (by omega)).mp q
        subst e
        exact h
/-- the component's one pass with chains -/
def sv_I (s : Nat) (D : Nat → Prop) (g st0 : Nat → Int32) (i : Nat) (st : Nat → Int32) : Prop :=
  sv_X s st0 st ∧ sv_M s D g st0 st ∧ ∀ j, j < 16 → ((j < i ∧ (st (16 * s + j) = 2 ∨ D j)) ∨ (st (16 * s + j) = 2 ∧ ¬ st0 (16 * s + j) = 2)) → ∀ l, l < 16 → g j = nI l → ¬ st (16 * s + l) = 1
theorem sv_I0 (s : Nat) (D : Nat → Prop) (g st0 : Nat → Int32) : sv_I s D g st0 0 st0 := by
  refine ⟨sv_X0 s st0, sv_M0 s D g st0, ?_⟩
  intro j _ h
  rcases h with h | h
  · omega
  · exact absurd h.1 h.2
theorem sv_Ie {s : Nat} {D : Nat → Prop} {g st0 st : Nat → Int32} (h : sv_I s D g st0 16 st) : sv_C s D g st := fun j hj w => h.2.2 j hj (Or.inl ⟨hj, w⟩)
theorem sv_In {s i : Nat} {D : Nat → Prop} {g st0 st : Nat → Int32} (h : sv_I s D g st0 i st) (hn : (st (16 * s + i) = 2 ∨ D i) → ∀ l, l < 16 → g i = nI l → ¬ st (16 * s + l) = 1) : sv_I s D g st0 (i + 1) st := by
  refine ⟨h.1, h.2.1, ?_⟩
  intro j hj w
  by_cases q : j = i
  · subst q
    rcases w with w | w
    · exact hn w.2
    · exact hn (Or.inl w.1)
  · refine h.2.2 j hj ?_
    rcases w with w | w
    · exact Or.inl ⟨by omega, w.2⟩
    · exact Or.inr w
theorem sv_Is {s i : Nat} {D : Nat → Prop} {g st0 st : Nat → Int32} (hg : ∀ j, j < 16 → re_L (g j)) (hi : i < 16) (h : sv_I s D g st0 i st) (hw : st (16 * s + i) = 2 ∨ D i) : sv_I s D g st0 (i + 1) (sv_ch s g 16 st (g i)) := by
  have h16 : sv_1 s st ≤ 16 := cn_le _ 16
  have hf : ∀ l, l < 16 → g i = nI l → ∀ st', sv_X s st0 st' → sv_C s D g st' → ¬ st' (16 * s + l) = 1 := by
    intro l hl hgl st' x' c'
    refine c' i hi ?_ l hl hgl
    rcases hw with w | w
    · exact Or.inl (h.2.1 st' x' c' _ w)
    · exact Or.inr w
  obtain ⟨a1, a2, a3, a4, a5⟩ := sv_chain hg 16 st (g i) (hg i hi) h.1 h.2.1 h16 hf
  refine ⟨a1, a2, ?_⟩
  intro j hj w l hl hgl
  by_cases n2 : sv_ch s g 16 st (g i) (16 * s + j) = 2 ∧ ¬ st (16 * s + j) = 2
  · exact a5 j hj n2.1 n2.2 l hl hgl
  · by_cases q : j = i
    · subst q
      exact a4 l hl hgl
    · have keep : ¬ st (16 * s + l) = 1 → ¬ sv_ch s g 16 st (g i) (16 * s + l) = 1 := by
        intro z
        rcases a3 (16 * s + l) with p | p
        · rw [p]
          exact z
        · exact absurd p.1 z
      refine keep (h.2.2 j hj ?_ l hl hgl)
      have h2 : sv_ch s g 16 st (g i) (16 * s + j) = 2 → st (16 * s + j) = 2 := fun z => Classical.byContradiction fun y => n2 ⟨z, y⟩
      rcases w with w | w
      · rcases w.2 with v | v
        · exact Or.inl ⟨by omega, Or.inl (h2 v)⟩
        · exact Or.inl ⟨by omega, Or.inr v⟩
      · exact Or.inr ⟨h2 w.1, w.2⟩
/-- the kinds stay kinds, and the clauses of the relation last -/
theorem sv_K {s : Nat} {st0 st : Nat → Int32} (x : sv_X s st0 st) (h : re_K st0) : re_K st := by
  intro e
  rcases x e with p | p
  · rw [p]
    exact h e
  · exact Or.inr (Or.inr (Or.inl p.2.1))
theorem sv_N {s : Nat} {st0 st en nw : Nat → Int32} (x : sv_X s st0 st) (h : re_N st0 en nw) : re_N st en nw := by
  intro e he h0 h3
  rcases x e with p | p
  · rw [p] at h0 h3
    exact h e he h0 h3
  · exact h e he (by rw [p.1]; decide) (by rw [p.1]; decide)
theorem sv_V {s : Nat} {st0 st sn ve : Nat → Int32} (x : sv_X s st0 st) (h : re_V st0 sn ve) : re_V st sn ve := by
  intro e he h4
  rcases x e with p | p
  · rw [p] at h4
    exact h e he h4
  · rw [p.2.1] at h4
    exact absurd h4 (by decide)
theorem sv_chX {s : Nat} {g : Nat → Int32} (hg : ∀ j, j < 16 → re_L (g j)) : ∀ (n : Nat) (st0 st : Nat → Int32) (x : Int32), re_L x → sv_X s st0 st → sv_X s st0 (sv_ch s g n st x) := by
  intro n
  induction n with
  | zero =>
    intro st0 st x _ hx
    exact hx
  | succ n ih =>
    intro st0 st x hL hx
    rcases hL with rfl | ⟨l, hl, rfl⟩
    · rw [sv_chm]
      exact hx
    · by_cases h : st (16 * s + l) = 1
      · rw [sv_ch1 hl h]
        exact ih st0 _ _ (hg l hl) (sv_X1 hx hl h)
      · rw [sv_ch0 hl h]
        exact hx
end
section
noncomputable def rm_i (P : Prop) (a b : Int32) : Int32 := @ite Int32 P (Classical.propDecidable P) a b
theorem rm_t {P : Prop} {a b : Int32} (h : P) : rm_i P a b = a := by unfold rm_i; rw [if_pos h]
theorem rm_f {P : Prop} {a b : Int32} (h : ¬ P) : rm_i P a b = b := by unfold rm_i; rw [if_neg h]
def rm_d (s : Nat) (D : Nat → Prop) (e : Nat) : Prop := 16 * s ≤ e ∧ e < 16 * s + 16 ∧ D (e - 16 * s)
theorem rm_dk {s k : Nat} {D : Nat → Prop} (hk : k < 16) : rm_d s D (16 * s + k) ↔ D k := by
  unfold rm_d
  rw [Nat.add_sub_cancel_left]
  exact ⟨fun h => h.2.2, fun h => ⟨by omega, by omega, h⟩⟩
theorem rm_dn {s : Nat} {D : Nat → Prop} {e : Nat} (h : rm_d s D e) : ∃ k, k < 16 ∧ e = 16 * s + k ∧ D k :=
  ⟨e - 16 * s, by have := h.1; have := h.2.1; omega, by have := h.1; omega, h.2.2⟩
/-- the kinds, cells and versions when those of D have been changed -/
noncomputable def rm_st (s : Nat) (D : Nat → Prop) (st : Nat → Int32) : Nat → Int32 := fun e => rm_i (rm_d s D e) (if st e = 2 then 1 else 5) (st e)
noncomputable def rm_en (s : Nat) (D : Nat → Prop) (st : Nat → Int32) (w : Nat → Nat → Int32) (en : Nat → Int32) : Nat → Int32 := fun i => rm_i (rm_d s D (i / 4) ∧ (st (i / 4) = 0 ∨ st (i / 4) = 3)) (w (i / 4 - 16 * s) (i % 4)) (en i)
noncomputable def rm_nw (s : Nat) (D : Nat → Prop) (st : Nat → Int32) (w : Nat → Nat → Int32) (nw : Nat → Int32) : Nat → Int32 := fun i => rm_i (rm_d s D (i / 3) ∧ (st (i / 3) = 0 ∨ st (i / 3) = 3)) (w (i / 3 - 16 * s) (i % 3)) (nw i)
noncomputable def rm_ve (s : Nat) (D : Nat → Prop) (st : Nat → Int32) (w : Nat → Nat → Int32) (ve : Nat → Int32) : Nat → Int32 := fun e => rm_i (rm_d s D e ∧ (st e = 0 ∨ st e = 3)) (w (e - 16 * s) 3) (ve e)
theorem rm_enc {s e c : Nat} {D : Nat → Prop} {st en : Nat → Int32} {w : Nat → Nat → Int32} (hc : c < 4) : rm_en s D st w en (4 * e + c) = rm_i (rm_d s D e ∧ (st e = 0 ∨ st e = 3)) (w (e - 16 * s) c) (en (4 * e + c)) := by
  unfold rm_en
  rw [show (4 * e + c) / 4 = e by omega, show (4 * e + c) % 4 = c by omega]
theorem rm_nwc {s e c : Nat} {D : Nat → Prop} {st nw : Nat → Int32} {w : Nat → Nat → Int32} (hc : c < 3) : rm_nw s D st w nw (3 * e + c) = rm_i (rm_d s D e ∧ (st e = 0 ∨ st e = 3)) (w (e - 16 * s) c) (nw (3 * e + c)) := by
  unfold rm_nw
  rw [show (3 * e + c) / 3 = e by omega, show (3 * e + c) % 3 = c by omega]
theorem rm_st0 (s : Nat) (st : Nat → Int32) : rm_st s (fun _ => False) st = st := by
  funext e
  exact rm_f (fun h => h.2.2)
theorem rm_en0 (s : Nat) (st en : Nat → Int32) (w : Nat → Nat → Int32) : rm_en s (fun _ => False) st w en = en := by
  funext e
  exact rm_f (fun h => h.1.2.2)
theorem rm_nw0 (s : Nat) (st en : Nat → Int32) (w : Nat → Nat → Int32) : rm_nw s (fun _ => False) st w en = en := by
  funext e
  exact rm_f (fun h => h.1.2.2)
theorem rm_ve0 (s : Nat) (st en : Nat → Int32) (w : Nat → Nat → Int32) : rm_ve s (fun _ => False) st w en = en := by
  funext e
  exact rm_f (fun h => h.1.2.2)
/-- the same set, the same state -/
theorem rm_D {s : Nat} {D E : Nat → Prop} (h : ∀ k, k < 16 → (D k ↔ E k)) (e : Nat) : rm_d s D e ↔ rm_d s E e := by
  unfold rm_d
  refine ⟨fun q => ⟨q.1, q.2.1, (h _ (by have := q.2.1; have := q.1; omega)).mp q.2.2⟩, fun q => ⟨q.1, q.2.1, (h _ (by have := q.2.1; have := q.1; omega)).mpr q.2.2⟩⟩
theorem rm_stE {s : Nat} {D E : Nat → Prop} (h : ∀ k, k < 16 → (D k ↔ E k)) (st : Nat → Int32) : rm_st s D st = rm_st s E st := by
  funext e
  unfold rm_st
  rw [propext (rm_D h e)]
theorem rm_enE {s : Nat} {D E : Nat → Prop} (h : ∀ k, k < 16 → (D k ↔ E k)) (st en : Nat → Int32) (w : Nat → Nat → Int32) : rm_en s D st w en = rm_en s E st w en := by
  funext e
  unfold rm_en
  rw [propext (rm_D h _)]
theorem rm_nwE {s : Nat} {D E : Nat → Prop} (h : ∀ k, k < 16 → (D k ↔ E k)) (st en : Nat → Int32) (w : Nat → Nat → Int32) : rm_nw s D st w en = rm_nw s E st w en := by
  funext e
  unfold rm_nw
  rw [propext (rm_D h _)]
theorem rm_veE {s : Nat} {D E : Nat → Prop} (h : ∀ k, k < 16 → (D k ↔ E k)) (st en : Nat → Int32) (w : Nat → Nat → Int32) : rm_ve s D st w en = rm_ve s E st w en := by
  funext e
  unfold rm_ve
  rw [propext (rm_D h _)]
/-- one more is changed -/
theorem rm_dp {s k : Nat} {D E : Nat → Prop} (hk : k < 16) (hE : ∀ j, j < 16 → (E j ↔ D j ∨ j = k)) (e : Nat) : rm_d s E e ↔ rm_d s D e ∨ e = 16 * s + k := by
  constructor
  · intro h
    obtain ⟨j, hj, rfl, hd⟩ := rm_dn h
    rcases (hE j hj).mp hd with q | q
    · exact Or.inl ((rm_dk hj).mpr q)
    · exact Or.inr (by rw [q])
  · intro h
    rcases h with h | h
    · obtain ⟨j, hj, rfl, hd⟩ := rm_dn h
      exact (rm_dk hj).mpr ((hE j hj).mpr (Or.inl hd))
    · rw [h]
      exact (rm_dk hk).mpr ((hE k hk).mpr (Or.inr rfl))
theorem rm_ii {P Q : Prop} {a b : Int32} (h : P ↔ Q) : rm_i P a b = rm_i Q a b := by rw [propext h]
theorem rm_stp {s k : Nat} {D E : Nat → Prop} {st : Nat → Int32} (hk : k < 16) (hE : ∀ j, j < 16 → (E j ↔ D j ∨ j = k)) : rm_st s E st = upd (rm_st s D st) (16 * s + k) (if st (16 * s + k) = 2 then 1 else 5) := by
  funext e
  by_cases q : e = 16 * s + k
  · subst q
    rw [pk_us]
    exact rm_t ((rm_dp hk hE _).mpr (Or.inr rfl))
  · rw [pk_un q]
    exact rm_ii ⟨fun h => ((rm_dp hk hE _).mp h).resolve_right q, fun h => (rm_dp hk hE _).mpr (Or.inl h)⟩
theorem rm_enk {s k : Nat} {D E : Nat → Prop} {st en : Nat → Int32} {w : Nat → Nat → Int32} (hk : k < 16) (hE : ∀ j, j < 16 → (E j ↔ D j ∨ j = k)) (h : ¬ (st (16 * s + k) = 0 ∨ st (16 * s + k) = 3)) : rm_en s E st w en = rm_en s D st w en := by
  funext i
  refine rm_ii ⟨fun q => ⟨((rm_dp hk hE _).mp q.1).resolve_right (fun e => h (e ▸ q.2)), q.2⟩, fun q => ⟨(rm_dp hk hE _).mpr (Or.inl q.1), q.2⟩⟩
theorem rm_nwk {s k : Nat} {D E : Nat → Prop} {st en : Nat → Int32} {w : Nat → Nat → Int32} (hk : k < 16) (hE : ∀ j, j < 16 → (E j ↔ D j ∨ j = k)) (h : ¬ (st (16 * s + k) = 0 ∨ st (16 * s + k) = 3)) : rm_nw s E st w en = rm_nw s D st w en := by
  funext i
  refine rm_ii ⟨fun q => ⟨((rm_dp hk hE _).mp q.1).resolve_right (fun e => h (e ▸ q.2)), q.2⟩, fun q => ⟨(rm_dp hk hE _).mpr (Or.inl q.1), q.2⟩⟩
theorem rm_vek {s k : Nat} {D E : Nat → Prop} {st en : Nat → Int32} {w : Nat → Nat → Int32} (hk : k < 16) (hE : ∀ j, j < 16 → (E j ↔ D j ∨ j = k)) (h : ¬ (st (16 * s + k) = 0 ∨ st (16 * s + k) = 3)) : rm_ve s E st w en = rm_ve s D st w en := by
  funext i
  refine rm_ii ⟨fun q => ⟨((rm_dp hk hE _).mp q.1).resolve_right (fun e => h (e ▸ q.2)), q.2⟩, fun q => ⟨(rm_dp hk hE _).mpr (Or.inl q.1), q.2⟩⟩
theorem rm_enm {s k : Nat} {D E : Nat → Prop} {st en : Nat → Int32} {w : Nat → Nat → Int32} (hk : k < 16) (hE : ∀ j, j < 16 → (E j ↔ D j ∨ j = k)) (h : st (16 * s + k) = 0 ∨ st (16 * s + k) = 3) :
    rm_en s E st w en = upd (upd (upd (upd (rm_en s D st w en) (4 * (16 * s + k)) (w k 0)) (4 * (16 * s + k) + 1) (w k 1)) (4 * (16 * s + k) + 2) (w k 2)) (4 * (16 * s + k) + 3) (w k 3) := by
  funext i
  by_cases q : i / 4 = 16 * s + k
  · have hit : rm_en s E st w en i = w k (i % 4) := by
      unfold rm_en
      rw [rm_t ⟨(rm_dp hk hE _).mpr (Or.inr q), by rw [q]; exact h⟩, q, Nat.add_sub_cancel_left]
    rw [hit]
    rcases (show i % 4 = 0 ∨ i % 4 = 1 ∨ i % 4 = 2 ∨ i % 4 = 3 by omega) with r | r | r | r
    · rw [show i = 4 * (16 * s + k) by omega, pk_un (by omega), pk_un (by omega), pk_un (by omega), pk_us, show 4 * (16 * s + k) % 4 = 0 by omega]
    · rw [show i = 4 * (16 * s + k) + 1 by omega, pk_un (by omega), pk_un (by omega), pk_us, show (4 * (16 * s + k) + 1) % 4 = 1 by omega]
    · rw [show i = 4 * (16 * s + k) + 2 by omega, pk_un (by omega), pk_us, show (4 * (16 * s + k) + 2) % 4 = 2 by omega]
    · rw [show i = 4 * (16 * s + k) + 3 by omega, pk_us, show (4 * (16 * s + k) + 3) % 4 = 3 by omega]
  · rw [pk_un (by omega), pk_un (by omega), pk_un (by omega), pk_un (by omega)]
    exact rm_ii ⟨fun z => ⟨((rm_dp hk hE _).mp z.1).resolve_right q, z.2⟩, fun z => ⟨(rm_dp hk hE _).mpr (Or.inl z.1), z.2⟩⟩
theorem rm_nwm {s k : Nat} {D E : Nat → Prop} {st en : Nat → Int32} {w : Nat → Nat → Int32} (hk : k < 16) (hE : ∀ j, j < 16 → (E j ↔ D j ∨ j = k)) (h : st (16 * s + k) = 0 ∨ st (16 * s + k) = 3) :
    rm_nw s E st w en = upd (upd (upd (rm_nw s D st w en) (3 * (16 * s + k)) (w k 0)) (3 * (16 * s + k) + 1) (w k 1)) (3 * (16 * s + k) + 2) (w k 2) := by
  funext i
  by_cases q : i / 3 = 16 * s + k
  · have hit : rm_nw s E st w en i = w k (i % 3) := by
      unfold rm_nw
      rw [rm_t ⟨(rm_dp hk hE _).mpr (Or.inr q), by rw [q]; exact h⟩, q, Nat.add_sub_cancel_left]
    rw [hit]
    rcases (show i % 3 = 0 ∨ i % 3 = 1 ∨ i % 3 = 2 by omega) with r | r | r
    · rw [show i = 3 * (16 * s + k) by omega, pk_un (by omega), pk_un (by omega), pk_us, show 3 * (16 * s + k) % 3 = 0 by omega]
    · rw [show i = 3 * (16 * s + k) + 1 by omega, pk_un (by omega), pk_us, show (3 * (16 * s + k) + 1) % 3 = 1 by omega]
    · rw [show i = 3 * (16 * s + k) + 2 by omega, pk_us, show (3 * (16 * s + k) + 2) % 3 = 2 by omega]
  · rw [pk_un (by omega), pk_un (by omega), pk_un (by omega)]
    exact rm_ii ⟨fun z => ⟨((rm_dp hk hE _).mp z.1).resolve_right q, z.2⟩, fun z => ⟨(rm_dp hk hE _).mpr (Or.inl z.1), z.2⟩⟩
theorem rm_vem {s k : Nat} {D E : Nat → Prop} {st en : Nat → Int32} {w : Nat → Nat → Int32} (hk : k < 16) (hE : ∀ j, j < 16 → (E j ↔ D j ∨ j = k)) (h : st (16 * s + k) = 0 ∨ st (16 * s + k) = 3) :
    rm_ve s E st w en = upd (rm_ve s D st w en) (16 * s + k) (w k 3) := by
  funext e
  by_cases q : e = 16 * s + k
  · subst q
    rw [pk_us]
    unfold rm_ve
    rw [rm_t ⟨(rm_dp hk hE _).mpr (Or.inr rfl), h⟩, Nat.add_sub_cancel_left]
  · rw [pk_un q]
    exact rm_ii ⟨fun z => ⟨((rm_dp hk hE _).mp z.1).resolve_right q, z.2⟩, fun z => ⟨(rm_dp hk hE _).mpr (Or.inl z.1), z.2⟩⟩
/-- the clauses of the relation when those of D have been changed -/
theorem rm_K {s : Nat} {D : Nat → Prop} {st : Nat → Int32} (h : re_K st) : re_K (rm_st s D st) := by
  intro e
  by_cases q : rm_d s D e
  · unfold rm_st
    rw [rm_t q]
    split
    · exact Or.inr (Or.inl rfl)
    · exact Or.inr (Or.inr (Or.inr (Or.inr (Or.inr rfl))))
  · unfold rm_st
    rw [rm_f q]
    exact h e
theorem rm_E {s : Nat} {D : Nat → Prop} {st en : Nat → Int32} {w : Nat → Nat → Int32} (h : re_E en) (hw : ∀ k, k < 16 → re_L (w k 2)) : re_E (rm_en s D st w en) := by
  intro e he
  rw [rm_enc (by decide)]
  by_cases q : rm_d s D e ∧ (st e = 0 ∨ st e = 3)
  · rw [rm_t q]
    exact hw _ (by have := q.1.1; have := q.1.2.1; omega)
  · rw [rm_f q]
    exact h e he
theorem rm_N {s : Nat} {D : Nat → Prop} {st en nw : Nat → Int32} {w : Nat → Nat → Int32} (h : re_N st en nw) : re_N (rm_st s D st) (rm_en s D st w en) (rm_nw s D st w nw) := by
  intro e he h0 h3 c hc
  rw [rm_enc (by omega), rm_nwc hc]
  by_cases q : rm_d s D e ∧ (st e = 0 ∨ st e = 3)
  · rw [rm_t q, rm_t q]
  · rw [rm_f q, rm_f q]
    by_cases z : rm_d s D e
    · exact h e he (fun y => q ⟨z, Or.inl y⟩) (fun y => q ⟨z, Or.inr y⟩) c hc
    · have y : rm_st s D st e = st e := rm_f z
      rw [y] at h0 h3
      exact h e he h0 h3 c hc
theorem rm_S {s : Nat} {D : Nat → Prop} {st sn bf : Nat → Int32} {w : Nat → Nat → Int32} (h : re_S sn bf) : re_S (rm_en s D st w sn) (rm_nw s D st w bf) := by
  intro e he c hc
  rw [rm_enc (by omega), rm_nwc hc]
  by_cases q : rm_d s D e ∧ (st e = 0 ∨ st e = 3)
  · rw [rm_t q, rm_t q]
  · rw [rm_f q, rm_f q]
    exact h e he c hc
theorem rm_V {s : Nat} {D : Nat → Prop} {st sn ve : Nat → Int32} {w : Nat → Nat → Int32} (h : re_V st sn ve) (hD : ∀ k, k < 16 → D k → ¬ st (16 * s + k) = 1 ∧ ¬ st (16 * s + k) = 5) (hK : re_K st) : re_V (rm_st s D st) (rm_en s D st w sn) (rm_ve s D st w ve) := by
  intro e he h4
  rw [rm_enc (by decide)]
  unfold rm_ve
  by_cases q : rm_d s D e ∧ (st e = 0 ∨ st e = 3)
  · rw [rm_t q, rm_t q]
  · rw [rm_f q, rm_f q]
    by_cases z : rm_d s D e
    · have y : rm_st s D st e = if st e = 2 then 1 else 5 := rm_t z
      rw [y] at h4
      obtain ⟨k, hk, rfl, hd⟩ := rm_dn z
      have hd' := hD k hk hd
      refine h _ he ?_
      rcases hK (16 * s + k) with a | a | a | a | a | a
      · exact absurd ⟨z, Or.inl a⟩ q
      · exact absurd a hd'.1
      · rw [if_pos a] at h4
        exact absurd h4 (by decide)
      · exact absurd ⟨z, Or.inr a⟩ q
      · exact Or.inl a
      · exact absurd a hd'.2
    · have y : rm_st s D st e = st e := rm_f z
      rw [y] at h4
      exact h e he h4
/-- the closure from a key, reached in any order -/
def rm_Cl (key : Nat) (tg : Nat → Nat → Prop) (rem : Nat → Prop) (Q : Nat → Prop) : Prop := Q key ∧ ∀ k t, k < 16 → t < 16 → Q t → tg k t → rem k → Q k
def rm_I (key : Nat) (tg : Nat → Nat → Prop) (rem : Nat → Prop) (P Q : Nat → Prop) : Prop :=
  (∀ C, rm_Cl key tg rem C → ∀ k, k < 16 → Q k → C k) ∧ (∀ k, k < 16 → P k → Q k) ∧ (∀ k, k < 16 → (Q k ↔ k = key ∨ (rem k ∧ ∃ t, t < 16 ∧ P t ∧ tg k t)))
theorem rm_I0 {key : Nat} {tg : Nat → Nat → Prop} {rem : Nat → Prop} : rm_I key tg rem (fun _ => False) (fun k => k = key) := by
  refine ⟨?_, ?_, ?_⟩
  · intro C hC k _ hq
    rw [hq]
    exact hC.1
  · intro k _ h
    exact h.elim
  · intro k _
    refine ⟨Or.inl, ?_⟩
    intro h
    rcases h with h | ⟨_, t, _, h, _⟩
    · exact h
    · exact h.elim
theorem rm_Is {key t0 : Nat} {tg : Nat → Nat → Prop} {rem P Q : Nat → Prop} (h : rm_I key tg rem P Q) (ht : t0 < 16) (hq : Q t0) : rm_I key tg rem (fun k => P k ∨ k = t0) (fun k => Q k ∨ (rem k ∧ tg k t0)) := by
  obtain ⟨h1, h2, h3⟩ := h
  refine ⟨?_, ?_, ?_⟩
  · intro C hC k hk q
    rcases q with q | q
    · exact h1 C hC k hk q
    · exact hC.2 k t0 hk ht (h1 C hC t0 ht hq) q.2 q.1
  · intro k hk q
    rcases q with q | q
    · exact Or.inl (h2 k hk q)
    · rw [q]
      exact Or.inl hq
  · intro k hk
    constructor
    · intro q
      rcases q with q | q
      · rcases (h3 k hk).mp q with z | ⟨z, t, a, b, c⟩
        · exact Or.inl z
        · exact Or.inr ⟨z, t, a, Or.inl b, c⟩
      · exact Or.inr ⟨q.1, t0, ht, Or.inr rfl, q.2⟩
    · intro q
      rcases q with q | ⟨z, t, a, b | b, c⟩
      · exact Or.inl ((h3 k hk).mpr (Or.inl q))
      · exact Or.inl ((h3 k hk).mpr (Or.inr ⟨z, t, a, b, c⟩))
      · rw [b] at c
        exact Or.inr ⟨z, c⟩
theorem rm_Ic {key : Nat} {tg : Nat → Nat → Prop} {rem P Q : Nat → Prop} (hkey : key < 16) (h : rm_I key tg rem P Q) (he : ∀ k, k < 16 → Q k → P k) : rm_Cl key tg rem (fun k => k < 16 ∧ P k) := by
  refine ⟨⟨hkey, he key hkey ((h.2.2 key hkey).mpr (Or.inl rfl))⟩, ?_⟩
  intro k t hk ht q a b
  exact ⟨hk, he k hk ((h.2.2 k hk).mpr (Or.inr ⟨b, t, ht, q.2, a⟩))⟩
theorem rm_Iu {key : Nat} {tg : Nat → Nat → Prop} {rem P Q P' Q' : Nat → Prop} (hkey : key < 16) (h : rm_I key tg rem P Q) (he : ∀ k, k < 16 → Q k → P k) (h' : rm_I key tg rem P' Q') (he' : ∀ k, k < 16 → Q' k → P' k) : ∀ k, k < 16 → (P k ↔ P' k) := by
  intro k hk
  exact ⟨fun q => (h.1 _ (rm_Ic hkey h' he') k hk (h.2.1 k hk q)).2, fun q => (h'.1 _ (rm_Ic hkey h he) k hk (h'.2.1 k hk q)).2⟩
end
section
theorem re_rmd {md bk ch lk st rt rc wt wc en sn th ro nw bf ve : Nat → Int32} (R : re_R md bk ch lk st rt rc wt wc en sn th ro nw bf ve) : re_B md := R.1
theorem re_rbk {md bk ch lk st rt rc wt wc en sn th ro nw bf ve : Nat → Int32} (R : re_R md bk ch lk st rt rc wt wc en sn th ro nw bf ve) : re_B bk := R.2.1
theorem re_rch {md bk ch lk st rt rc wt wc en sn th ro nw bf ve : Nat → Int32} (R : re_R md bk ch lk st rt rc wt wc en sn th ro nw bf ve) : re_B ch := R.2.2.1
theorem re_rth {md bk ch lk st rt rc wt wc en sn th ro nw bf ve : Nat → Int32} (R : re_R md bk ch lk st rt rc wt wc en sn th ro nw bf ve) : re_B th := R.2.2.2.1
theorem re_rQ {md bk ch lk st rt rc wt wc en sn th ro nw bf ve : Nat → Int32} (R : re_R md bk ch lk st rt rc wt wc en sn th ro nw bf ve) : re_Q lk := R.2.2.2.2.1
theorem re_rK {md bk ch lk st rt rc wt wc en sn th ro nw bf ve : Nat → Int32} (R : re_R md bk ch lk st rt rc wt wc en sn th ro nw bf ve) : re_K st := R.2.2.2.2.2.1
theorem re_rT {md bk ch lk st rt rc wt wc en sn th ro nw bf ve : Nat → Int32} (R : re_R md bk ch lk st rt rc wt wc en sn th ro nw bf ve) : re_T rt wt th := R.2.2.2.2.2.2.1
theorem re_rC {md bk ch lk st rt rc wt wc en sn th ro nw bf ve : Nat → Int32} (R : re_R md bk ch lk st rt rc wt wc en sn th ro nw bf ve) : re_C rc wc ro := R.2.2.2.2.2.2.2.1
theorem re_rO {md bk ch lk st rt rc wt wc en sn th ro nw bf ve : Nat → Int32} (R : re_R md bk ch lk st rt rc wt wc en sn th ro nw bf ve) : re_O ro := R.2.2.2.2.2.2.2.2.1
theorem re_rE {md bk ch lk st rt rc wt wc en sn th ro nw bf ve : Nat → Int32} (R : re_R md bk ch lk st rt rc wt wc en sn th ro nw bf ve) : re_E en := R.2.2.2.2.2.2.2.2.2.1
theorem re_rN {md bk ch lk st rt rc wt wc en sn th ro nw bf ve : Nat → Int32} (R : re_R md bk ch lk st rt rc wt wc en sn th ro nw bf ve) : re_N st en nw := R.2.2.2.2.2.2.2.2.2.2.1
theorem re_rS {md bk ch lk st rt rc wt wc en sn th ro nw bf ve : Nat → Int32} (R : re_R md bk ch lk st rt rc wt wc en sn th ro nw bf ve) : re_S sn bf := R.2.2.2.2.2.2.2.2.2.2.2.1
theorem re_rV {md bk ch lk st rt rc wt wc en sn th ro nw bf ve : Nat → Int32} (R : re_R md bk ch lk st rt rc wt wc en sn th ro nw bf ve) : re_V st sn ve := R.2.2.2.2.2.2.2.2.2.2.2.2
/-- the least one below 16, or -1 -/
def le_S (P : Nat → Prop) (r : Int32) : Prop := (r = -1 ∧ ∀ k, k < 16 → ¬ P k) ∨ ∃ k, k < 16 ∧ r = nI k ∧ P k ∧ ∀ j, j < k → ¬ P j
theorem le_u {P : Nat → Prop} {r r' : Int32} (a : le_S P r) (b : le_S P r') : r = r' := by
  rcases a with ⟨rfl, a⟩ | ⟨k, hk, rfl, pk, mk⟩
  · rcases b with ⟨rfl, b⟩ | ⟨j, hj, rfl, pj, mj⟩
    · rfl
    · exact absurd pj (a j hj)
  · rcases b with ⟨rfl, b⟩ | ⟨j, hj, rfl, pj, mj⟩
    · exact absurd pk (b k hk)
    · have h1 : ¬ j < k := fun h => mk j h pj
      have h2 : ¬ k < j := fun h => mj k h pk
      rw [show j = k by omega]
theorem le_e {P Q : Nat → Prop} {r : Int32} (h : ∀ k, k < 16 → (P k ↔ Q k)) (a : le_S P r) : le_S Q r := by
  rcases a with ⟨rfl, a⟩ | ⟨k, hk, rfl, pk, mk⟩
  · exact Or.inl ⟨rfl, fun k hk q => a k hk ((h k hk).mpr q)⟩
  · exact Or.inr ⟨k, hk, rfl, (h k hk).mp pk, fun j hj q => mk j hj ((h j (by omega)).mpr q)⟩
def u3_f (f : Nat → Int32) (i : Nat) (a b c : Int32) : Nat → Int32 := upd (upd (upd f i a) (i + 1) b) (i + 2) c
def u4_f (f : Nat → Int32) (i : Nat) (a b c d : Int32) : Nat → Int32 := upd (upd (upd (upd f i a) (i + 1) b) (i + 2) c) (i + 3) d
theorem u4_o {f : Nat → Int32} {i j : Nat} {a b c d : Int32} (h : j < i ∨ i + 3 < j) : u4_f f i a b c d j = f j := by
  unfold u4_f
  rw [pk_un (by omega), pk_un (by omega), pk_un (by omega), pk_un (by omega)]
theorem u4_0 {f : Nat → Int32} {i : Nat} {a b c d : Int32} : u4_f f i a b c d i = a := by
  unfold u4_f
  rw [pk_un (by omega), pk_un (by omega), pk_un (by omega), pk_us]
theorem u4_1 {f : Nat → Int32} {i : Nat} {a b c d : Int32} : u4_f f i a b c d (i + 1) = b := by
  unfold u4_f
  rw [pk_un (by omega), pk_un (by omega), pk_us]
theorem u4_2 {f : Nat → Int32} {i : Nat} {a b c d : Int32} : u4_f f i a b c d (i + 2) = c := by
  unfold u4_f
  rw [pk_un (by omega), pk_us]
theorem u4_3 {f : Nat → Int32} {i : Nat} {a b c d : Int32} : u4_f f i a b c d (i + 3) = d := by
  unfold u4_f
  rw [pk_us]
theorem u3_o {f : Nat → Int32} {i j : Nat} {a b c : Int32} (h : j < i ∨ i + 2 < j) : u3_f f i a b c j = f j := by
  unfold u3_f
  rw [pk_un (by omega), pk_un (by omega), pk_un (by omega)]
theorem u3_0 {f : Nat → Int32} {i : Nat} {a b c : Int32} : u3_f f i a b c i = a := by
  unfold u3_f
  rw [pk_un (by omega), pk_un (by omega), pk_us]
theorem u3_1 {f : Nat → Int32} {i : Nat} {a b c : Int32} : u3_f f i a b c (i + 1) = b := by
  unfold u3_f
  rw [pk_un (by omega), pk_us]
theorem u3_2 {f : Nat → Int32} {i : Nat} {a b c : Int32} : u3_f f i a b c (i + 2) = c := by
  unfold u3_f
  rw [pk_us]
theorem re_K4 {st : Nat → Int32} {e : Nat} (h : re_K st) : re_K (upd st e 4) := re_Ku h (Or.inr (Or.inr (Or.inr (Or.inr (Or.inl rfl)))))
/-- an entity is managed from what its session sees -/
theorem mg_R {s k : Nat} {md bk ch lk st rt rc wt wc en sn th ro nw bf ve : Nat → Int32} (R : re_R md bk ch lk st rt rc wt wc en sn th ro nw bf ve) (hk : k < 16) :
    re_R md bk ch lk (upd st (16 * s + k) 4) rt rc wt wc
      (u4_f en (4 * (16 * s + k)) (si_c rc wc lk s k 0) (si_c rc wc lk s k 1) (si_c rc wc lk s k 2) (si_c rc wc lk s k 3))
      (u4_f sn (4 * (16 * s + k)) (si_c rc wc lk s k 0) (si_c rc wc lk s k 1) (si_c rc wc lk s k 2) (si_c rc wc lk s k 3)) th ro
      (u3_f nw (3 * (16 * s + k)) (si_c rc wc lk s k 0) (si_c rc wc lk s k 1) (si_c rc wc lk s k 2))
      (u3_f bf (3 * (16 * s + k)) (si_c rc wc lk s k 0) (si_c rc wc lk s k 1) (si_c rc wc lk s k 2)) (upd ve (16 * s + k) (si_c rc wc lk s k 3)) := by
  obtain ⟨a1, a2, a3, a4, a5, a6, a7, a8, a9, a10, a11, a12, a13⟩ := R
  exact ⟨a1, a2, a3, a4, a5, re_K4 a6, a7, a8, a9, re_Eu (c := 3) (re_Ew a10 (si_L a8 a9 hk)) (by decide) (fun q => absurd q (by decide)), re_N3 (re_Nw a11), re_S3 (re_Sw a12), re_Vw a13⟩
/-- the four cells of a row are written -/
theorem re_C4 {rc wc ro : Nat → Int32} {k : Nat} {a b c d : Int32} (h : re_C rc wc ro) : re_C rc (u4_f wc (4 * k) a b c d) (u4_f ro (4 * (16 + k)) a b c d) :=
  re_Cw (c := 3) (re_Cw (c := 2) (re_Cw (c := 1) (re_Cw (c := 0) h (by decide)) (by decide)) (by decide)) (by decide)
theorem re_Cp {rc wc ro : Nat → Int32} {k : Nat} {a b c d : Int32} (h : re_C rc wc ro) (hk : k < 16) : re_C (u4_f rc (4 * k) a b c d) wc (u4_f ro (4 * k) a b c d) :=
  re_Cr (c := 3) (re_Cr (c := 2) (re_Cr (c := 1) (re_Cr (c := 0) h hk (by decide)) hk (by decide)) hk (by decide)) hk (by decide)
theorem re_O4 {ro : Nat → Int32} {k : Nat} {a b c d : Int32} (h : re_O ro) (hc : re_L c) : re_O (u4_f ro (4 * k) a b c d) :=
  re_Ou (c := 3) (re_Ou (c := 2) (re_Ou (c := 1) (re_Ou (c := 0) h (by decide) (fun q => absurd q (by decide))) (by decide) (fun q => absurd q (by decide))) (by decide) (fun _ => hc)) (by decide) (fun q => absurd q (by decide))
theorem wr_R {s k : Nat} {v : Int32} {md bk ch lk st rt rc wt wc en sn th ro nw bf ve : Nat → Int32} (R : re_R md bk ch lk st rt rc wt wc en sn th ro nw bf ve) (hs : s < 3) (hk : k < 16) :
    re_R md bk (upd ch k 0) (upd lk k (nI s)) st rt rc (upd wt k 1) (u4_f wc (4 * k) (en (4 * (16 * s + k))) (en (4 * (16 * s + k) + 1)) (en (4 * (16 * s + k) + 2)) v) en sn
      (upd th (16 + k) 1) (u4_f ro (4 * (16 + k)) (en (4 * (16 * s + k))) (en (4 * (16 * s + k) + 1)) (en (4 * (16 * s + k) + 2)) v) nw bf ve := by
  obtain ⟨a1, a2, a3, a4, a5, a6, a7, a8, a9, a10, a11, a12, a13⟩ := R
  exact ⟨a1, a2, re_Bu a3 (Or.inl rfl), re_Bu a4 (Or.inr rfl), re_Qu a5 (Or.inr ⟨s, hs, rfl⟩), a6, re_Tw a7, re_C4 a8, re_O4 (k := 16 + k) a9 (a10 _ (by omega)), a10, a11, a12, a13⟩
theorem wr_cut {k : Nat} {md bk ch lk st rt rc wt wc en sn th ro nw bf ve : Nat → Int32} (R : re_R md bk ch lk st rt rc wt wc en sn th ro nw bf ve) :
    re_R md bk ch lk st rt rc wt (upd wc (4 * k + 2) (-1)) en sn th (upd ro (4 * (16 + k) + 2) (-1)) nw bf ve := by
  obtain ⟨a1, a2, a3, a4, a5, a6, a7, a8, a9, a10, a11, a12, a13⟩ := R
  exact ⟨a1, a2, a3, a4, a5, a6, a7, re_Cw a8 (by decide), re_Ou (k := 16 + k) a9 (by decide) (fun _ => Or.inl rfl), a10, a11, a12, a13⟩
theorem dl_R {s k : Nat} {md bk ch lk st rt rc wt wc en sn th ro nw bf ve : Nat → Int32} (R : re_R md bk ch lk st rt rc wt wc en sn th ro nw bf ve) (hs : s < 3) :
    re_R md bk (upd ch k 0) (upd lk k (nI s)) st rt rc (upd wt k 0) wc en sn (upd th (16 + k) 0) ro nw bf ve := by
  obtain ⟨a1, a2, a3, a4, a5, a6, a7, a8, a9, a10, a11, a12, a13⟩ := R
  exact ⟨a1, a2, re_Bu a3 (Or.inl rfl), re_Bu a4 (Or.inl rfl), re_Qu a5 (Or.inr ⟨s, hs, rfl⟩), a6, re_Tw a7, a8, a9, a10, a11, a12, a13⟩
theorem un_R {k : Nat} {md bk ch lk st rt rc wt wc en sn th ro nw bf ve : Nat → Int32} (R : re_R md bk ch lk st rt rc wt wc en sn th ro nw bf ve) :
    re_R md bk ch (upd lk k (-1)) st rt rc wt wc en sn th ro nw bf ve := by
  obtain ⟨a1, a2, a3, a4, a5, a6, a7, a8, a9, a10, a11, a12, a13⟩ := R
  exact ⟨a1, a2, a3, a4, re_Qu a5 (Or.inl rfl), a6, a7, a8, a9, a10, a11, a12, a13⟩
theorem pb_R {k : Nat} {md bk ch lk st rt rc wt wc en sn th ro nw bf ve : Nat → Int32} (R : re_R md bk ch lk st rt rc wt wc en sn th ro nw bf ve) (hk : k < 16) :
    re_R md bk (upd ch k (wt k)) (upd lk k (-1)) st (upd rt k (wt k)) (u4_f rc (4 * k) (wc (4 * k)) (wc (4 * k + 1)) (wc (4 * k + 2)) (wc (4 * k + 3))) wt wc en sn
      (upd th k (wt k)) (u4_f ro (4 * k) (wc (4 * k)) (wc (4 * k + 1)) (wc (4 * k + 2)) (wc (4 * k + 3))) nw bf ve := by
  obtain ⟨a1, a2, a3, a4, a5, a6, a7, a8, a9, a10, a11, a12, a13⟩ := R
  have hw : wt k = 0 ∨ wt k = 1 := by
    rw [(a7 k hk).2]
    exact a4 _
  have hl : re_L (wc (4 * k + 2)) := by
    rw [(a8 k hk 2 (by decide)).2]
    exact a9 (16 + k) (by omega)
  exact ⟨a1, a2, re_Bu a3 hw, re_Bu a4 hw, re_Qu a5 (Or.inl rfl), a6, re_Tr a7 hk, re_Cp a8 hk, re_O4 a9 hl, a10, a11, a12, a13⟩
/-- a kind is set -/
theorem kd_R {e : Nat} {x : Int32} {md bk ch lk st rt rc wt wc en sn th ro nw bf ve : Nat → Int32} (R : re_R md bk ch lk st rt rc wt wc en sn th ro nw bf ve) (hx : x = 0 ∨ x = 1 ∨ x = 2 ∨ x = 3 ∨ x = 4 ∨ x = 5)
    (hn : x = 0 ∨ x = 3 ∨ (¬ st e = 0 ∧ ¬ st e = 3)) (hv : x = 4 ∨ x = 5 → st e = 4 ∨ st e = 5) : re_R md bk ch lk (upd st e x) rt rc wt wc en sn th ro nw bf ve := by
  obtain ⟨a1, a2, a3, a4, a5, a6, a7, a8, a9, a10, a11, a12, a13⟩ := R
  exact ⟨a1, a2, a3, a4, a5, re_Ku a6 hx, a7, a8, a9, a10, re_Nk a11 hn, a12, re_Vk a13 hv⟩
/-- a row enters the cache -/
theorem ch_R {k : Nat} {x : Int32} {md bk ch lk st rt rc wt wc en sn th ro nw bf ve : Nat → Int32} (R : re_R md bk ch lk st rt rc wt wc en sn th ro nw bf ve) (hx : x = 0 ∨ x = 1) : re_R md bk (upd ch k x) lk st rt rc wt wc en sn th ro nw bf ve := by
  obtain ⟨a1, a2, a3, a4, a5, a6, a7, a8, a9, a10, a11, a12, a13⟩ := R
  exact ⟨a1, a2, re_Bu a3 hx, a4, a5, a6, a7, a8, a9, a10, a11, a12, a13⟩
theorem bk_R {k : Nat} {x : Int32} {md bk ch lk st rt rc wt wc en sn th ro nw bf ve : Nat → Int32} (R : re_R md bk ch lk st rt rc wt wc en sn th ro nw bf ve) (hx : x = 0 ∨ x = 1) : re_R md (upd bk k x) ch lk st rt rc wt wc en sn th ro nw bf ve := by
  obtain ⟨a1, a2, a3, a4, a5, a6, a7, a8, a9, a10, a11, a12, a13⟩ := R
  exact ⟨a1, re_Bu a2 hx, a3, a4, a5, a6, a7, a8, a9, a10, a11, a12, a13⟩
theorem md_R {k : Nat} {x : Int32} {md bk ch lk st rt rc wt wc en sn th ro nw bf ve : Nat → Int32} (R : re_R md bk ch lk st rt rc wt wc en sn th ro nw bf ve) (hx : x = 0 ∨ x = 1) : re_R (upd md k x) bk ch lk st rt rc wt wc en sn th ro nw bf ve := by
  obtain ⟨a1, a2, a3, a4, a5, a6, a7, a8, a9, a10, a11, a12, a13⟩ := R
  exact ⟨re_Bu a1 hx, a2, a3, a4, a5, a6, a7, a8, a9, a10, a11, a12, a13⟩
/-- a TRANSIENT one is made; a NEW one is filled -/
theorem mk_R {e : Nat} {x a b c y : Int32} {md bk ch lk st rt rc wt wc en sn th ro nw bf ve : Nat → Int32} (R : re_R md bk ch lk st rt rc wt wc en sn th ro nw bf ve) (hx : x = 1 ∨ x = 2) (hc : re_L c) :
    re_R md bk ch lk (upd st e x) rt rc wt wc (u3_f en (4 * e) a b c) sn th ro (u3_f nw (3 * e) a b c) bf (upd ve e y) := by
  obtain ⟨a1, a2, a3, a4, a5, a6, a7, a8, a9, a10, a11, a12, a13⟩ := R
  refine ⟨a1, a2, a3, a4, a5, re_Ku a6 ?_, a7, a8, a9, re_Ew a10 hc, re_Nw a11, a12, re_Vf a13 ?_⟩
  · rcases hx with h | h
    · exact Or.inr (Or.inl h)
    · exact Or.inr (Or.inr (Or.inl h))
  · rcases hx with h | h <;> rw [h] <;> decide
/-- a PROXY: the reference fills its cells, the component does not -/
theorem px_R {e : Nat} {a b c y : Int32} {md bk ch lk st rt rc wt wc en sn th ro nw bf ve : Nat → Int32} (R : re_R md bk ch lk st rt rc wt wc en sn th ro nw bf ve) :
    re_R md bk ch lk (upd st e 3) rt rc wt wc en sn th ro (u3_f nw (3 * e) a b c) bf (upd ve e y) := by
  obtain ⟨a1, a2, a3, a4, a5, a6, a7, a8, a9, a10, a11, a12, a13⟩ := R
  refine ⟨a1, a2, a3, a4, a5, re_Ku a6 (Or.inr (Or.inr (Or.inr (Or.inl rfl)))), a7, a8, a9, a10, ?_, a12, re_Vf a13 (by decide)⟩
  intro j hj h0 h3 d hd
  by_cases q : j = e
  · subst q
    rw [pk_us] at h3
    exact absurd rfl h3
  · rw [pk_un q] at h0 h3
    rw [u3_o (by omega)]
    exact a11 j hj h0 h3 d hd
/-- a cell is written -/
theorem ce_R {e c : Nat} {x : Int32} {md bk ch lk st rt rc wt wc en sn th ro nw bf ve : Nat → Int32} (R : re_R md bk ch lk st rt rc wt wc en sn th ro nw bf ve) (hc : c < 3) (hx : c = 2 → re_L x) :
    re_R md bk ch lk st rt rc wt wc (upd en (4 * e + c) x) sn th ro (upd nw (3 * e + c) x) bf ve := by
  obtain ⟨a1, a2, a3, a4, a5, a6, a7, a8, a9, a10, a11, a12, a13⟩ := R
  exact ⟨a1, a2, a3, a4, a5, a6, a7, a8, a9, re_Eu a10 (by omega) hx, re_Nu a11 hc, a12, a13⟩
/-- the three cells of an entity are written -/
theorem c3_R {e : Nat} {a b c : Int32} {md bk ch lk st rt rc wt wc en sn th ro nw bf ve : Nat → Int32} (R : re_R md bk ch lk st rt rc wt wc en sn th ro nw bf ve) (hc : re_L c) :
    re_R md bk ch lk st rt rc wt wc (u3_f en (4 * e) a b c) sn th ro (u3_f nw (3 * e) a b c) bf ve :=
  ce_R (c := 2) (ce_R (c := 1) (ce_R (c := 0) R (by decide) (fun q => absurd q (by decide))) (by decide) (fun q => absurd q (by decide))) (by decide) (fun _ => hc)
/-- what a call's first check answers -/
def er_v (bk : Nat → Int32) (s key : Int32) : Int32 := if key < 0 then -1 else if 16 ≤ key then -1 else if s < 0 then -1 else if 3 ≤ s then -1 else if bk s.toNatClampNeg = 0 then 0 else -2
theorem er_0 {bk : Nat → Int32} {s key : Int32} (h : er_v bk s key = 0) : ∃ i j, i < 3 ∧ j < 16 ∧ s = nI i ∧ key = nI j ∧ bk i = 0 := by
  unfold er_v at h
  by_cases h1 : key < 0
  · rw [if_pos h1] at h
    exact absurd h (by decide)
  rw [if_neg h1] at h
  by_cases h2 : 16 ≤ key
  · rw [if_pos h2] at h
    exact absurd h (by decide)
  rw [if_neg h2] at h
  by_cases h3 : s < 0
  · rw [if_pos h3] at h
    exact absurd h (by decide)
  rw [if_neg h3] at h
  by_cases h4 : 3 ≤ s
  · rw [if_pos h4] at h
    exact absurd h (by decide)
  rw [if_neg h4] at h
  rcases pk_ix key (n := 16) (by decide) with q | q | ⟨j, hj, rfl⟩
  · exact absurd q h1
  · exact absurd q h2
  rcases pk_ix s (n := 3) (by decide) with q | q | ⟨i, hi, rfl⟩
  · exact absurd q h3
  · exact absurd q h4
  refine ⟨i, j, hi, hj, rfl, rfl, ?_⟩
  rw [nI_clamp (by omega)] at h
  by_cases h5 : bk i = 0
  · exact h5
  · rw [if_neg h5] at h
    exact absurd h (by decide)
def lk_v (v : Int32) : Int32 := if v < -1 then 0 else if 16 ≤ v then 0 else 1
theorem lk_01 (v : Int32) : lk_v v = 0 ∨ lk_v v = 1 := by
  unfold lk_v
  split
  · exact Or.inl rfl
  · split
    · exact Or.inl rfl
    · exact Or.inr rfl
theorem lk_L {v : Int32} (h : ¬ lk_v v = 0) : re_L v := by
  unfold lk_v at h
  by_cases h1 : v < -1
  · rw [if_pos h1] at h
    exact absurd rfl h
  rw [if_neg h1] at h
  by_cases h2 : 16 ≤ v
  · rw [if_pos h2] at h
    exact absurd rfl h
  exact re_Lof h1 h2
end
section
section
variable {sc fc cc rq : Int32} {md bk ct rt rc lk wt wc ch st en sn sk sr fr lf cr rr th ro nw bf ve yl la od sm : Nat → Int32}
theorem vx_err {post : Int32 → Prop} {s key : Int32} : wpX_entityError post (sc, fc, cc, rq, md, bk, ct, rt, rc, lk, wt, wc, ch, st, en, sn, sk, sr, fr, lf, cr, rr) s key = post (er_v bk s key) := by
  unfold er_v
  by_cases h1 : key < 0
  · simp only [wpX_entityError, h1, if_true, forall_eq, true_implies, false_implies, implies_true, not_true_eq_false, not_false_eq_true, and_true, true_and, and_self, true_or, or_true, false_or, or_false, false_and, and_false, eq_self]
  by_cases h2 : 16 ≤ key
  · have h2' : ¬ key < 16 := Int32.not_lt.mpr h2
    simp only [wpX_entityError, h1, h2, h2', if_true, if_false, forall_eq, true_implies, false_implies, implies_true, not_true_eq_false, not_false_eq_true, and_true, true_and, and_self, true_or, or_true, false_or, or_false, false_and, and_false, eq_self]
  have h2' : key < 16 := Int32.not_le.mp h2
  by_cases h3 : s < 0
  · simp only [wpX_entityError, wpX_sessionError, h1, h2, h2', h3, if_true, if_false, forall_eq, true_implies, false_implies, implies_true, not_true_eq_false, not_false_eq_true, and_true, true_and, and_self, true_or, or_true, false_or, or_false, false_and, and_false, eq_self]
  by_cases h4 : 3 ≤ s
  · have h4' : ¬ s < 3 := Int32.not_lt.mpr h4
    simp only [wpX_entityError, wpX_sessionError, h1, h2, h2', h3, h4, h4', if_true, if_false, forall_eq, true_implies, false_implies, implies_true, not_true_eq_false, not_false_eq_true, and_true, true_and, and_self, true_or, or_true, false_or, or_false, false_and, and_false, eq_self]
  have h4' : s < 3 := Int32.not_le.mp h4
  rcases pk_ix s (n := 3) (by decide) with q | q | ⟨i, hi, rfl⟩
  · exact absurd q h3
  · exact absurd q h4
  by_cases h5 : bk i = 0
  · simp (disch := omega) only [wpX_entityError, wpX_sessionError, h1, h2, h2', h3, h4, h4', h5, nu_cl, nu_in, if_true, if_false, forall_eq, true_implies, false_implies, implies_true, not_true_eq_false, not_false_eq_true, and_true, true_and, and_self, true_or, or_true, false_or, or_false, false_and, and_false, eq_self]
  · simp (disch := omega) only [wpX_entityError, wpX_sessionError, h1, h2, h2', h3, h4, h4', h5, nu_cl, nu_in, if_true, if_false, forall_eq, true_implies, false_implies, implies_true, not_true_eq_false, not_false_eq_true, and_true, true_and, and_self, true_or, or_true, false_or, or_false, false_and, and_false, eq_self]
theorem vx_ser {post : Int32 → Prop} {s : Int32} : wpX_sessionError post (sc, fc, cc, rq, md, bk, ct, rt, rc, lk, wt, wc, ch, st, en, sn, sk, sr, fr, lf, cr, rr) s = post (er_v bk s 0) := by
  unfold er_v
  have z1 : ¬ (0 : Int32) < 0 := by decide
  have z2 : ¬ (16 : Int32) ≤ 0 := by decide
  by_cases h3 : s < 0
  · simp only [wpX_sessionError, z1, z2, h3, if_true, if_false, forall_eq, true_implies, false_implies, implies_true, not_true_eq_false, not_false_eq_true, and_true, true_and, and_self, true_or, or_true, false_or, or_false, false_and, and_false, eq_self]
  by_cases h4 : 3 ≤ s
  · have h4' : ¬ s < 3 := Int32.not_lt.mpr h4
    simp only [wpX_sessionError, z1, z2, h3, h4, h4', if_true, if_false, forall_eq, true_implies, false_implies, implies_true, not_true_eq_false, not_false_eq_true, and_true, true_and, and_self, true_or, or_true, false_or, or_false, false_and, and_false, eq_self]
  have h4' : s < 3 := Int32.not_le.mp h4
  rcases pk_ix s (n := 3) (by decide) with q | q | ⟨i, hi, rfl⟩
  · exact absurd q h3
  · exact absurd q h4
  by_cases h5 : bk i = 0
  · simp (disch := omega) only [wpX_sessionError, z1, z2, h3, h4, h4', h5, nu_cl, nu_in, if_true, if_false, forall_eq, true_implies, false_implies, implies_true, not_true_eq_false, not_false_eq_true, and_true, true_and, and_self, true_or, or_true, false_or, or_false, false_and, and_false, eq_self]
  · simp (disch := omega) only [wpX_sessionError, z1, z2, h3, h4, h4', h5, nu_cl, nu_in, if_true, if_false, forall_eq, true_implies, false_implies, implies_true, not_true_eq_false, not_false_eq_true, and_true, true_and, and_self, true_or, or_true, false_or, or_false, false_and, and_false, eq_self]
theorem vy_err {post : Int32 → Prop} {s key : Int32} : wpY_state post (sc, fc, th, ch, ro, lk, st, nw, bf, ve, bk, md, yl, la, od, sm, fr, ct) s key = post (er_v bk s key) := by
  unfold er_v
  have z1 : ¬ (1 : Int32) = 0 := by decide
  by_cases h3 : s < 0
  · have e : (if key < 0 then (-1 : Int32) else if 16 ≤ key then -1 else if s < 0 then -1 else if 3 ≤ s then -1 else if bk s.toNatClampNeg = 0 then 0 else -2) = -1 := by
      rw [if_pos h3]
      split
      · rfl
      · split <;> rfl
    rw [e]
    simp only [wpY_state, wpY_in, h3, nu_na0, nu_na1, z1, forall_eq, true_implies, false_implies, implies_true, not_true_eq_false, not_false_eq_true, and_true, true_and, and_self, true_or, or_true, false_or, or_false, false_and, and_false, eq_self]
  by_cases h4 : 3 ≤ s
  · have h4' : ¬ s < 3 := Int32.not_lt.mpr h4
    have e : (if key < 0 then (-1 : Int32) else if 16 ≤ key then -1 else if s < 0 then -1 else if 3 ≤ s then -1 else if bk s.toNatClampNeg = 0 then 0 else -2) = -1 := by
      rw [if_pos h4, if_neg h3]
      split
      · rfl
      · split <;> rfl
    rw [e]
    simp only [wpY_state, wpY_in, h3, h4, h4', nu_na0, nu_na1, z1, forall_eq, true_implies, false_implies, implies_true, not_true_eq_false, not_false_eq_true, and_true, true_and, and_self, true_or, or_true, false_or, or_false, false_and, and_false, eq_self]
  have h4' : s < 3 := Int32.not_le.mp h4
  by_cases h1 : key < 0
  · simp only [wpY_state, wpY_in, h1, h3, h4, h4', nu_na0, nu_na1, z1, if_true, forall_eq, true_implies, false_implies, implies_true, not_true_eq_false, not_false_eq_true, and_true, true_and, and_self, true_or, or_true, false_or, or_false, false_and, and_false, eq_self]
  by_cases h2 : 16 ≤ key
  · have h2' : ¬ key < 16 := Int32.not_lt.mpr h2
    simp only [wpY_state, wpY_in, h1, h2, h2', h3, h4, h4', nu_na0, nu_na1, z1, if_true, if_false, forall_eq, true_implies, false_implies, implies_true, not_true_eq_false, not_false_eq_true, and_true, true_and, and_self, true_or, or_true, false_or, or_false, false_and, and_false, eq_self]
  have h2' : key < 16 := Int32.not_le.mp h2
  rcases pk_ix s (n := 3) (by decide) with q | q | ⟨i, hi, rfl⟩
  · exact absurd q h3
  · exact absurd q h4
  by_cases h5 : bk i = 0
  · simp (disch := omega) only [wpY_state, wpY_in, h1, h2, h2', h3, h4, h4', h5, nu_na0, nu_na1, z1, nu_cl, nu_in, if_true, if_false, forall_eq, true_implies, false_implies, implies_true, not_true_eq_false, not_false_eq_true, and_true, true_and, and_self, true_or, or_true, false_or, or_false, false_and, and_false, eq_self]
  · simp (disch := omega) only [wpY_state, wpY_in, h1, h2, h2', h3, h4, h4', h5, nu_na0, nu_na1, z1, nu_cl, nu_in, if_true, if_false, forall_eq, true_implies, false_implies, implies_true, not_true_eq_false, not_false_eq_true, and_true, true_and, and_self, true_or, or_true, false_or, or_false, false_and, and_false, eq_self]
theorem vx_lnk {post : Int32 → Prop} {v : Int32} : wpX_isLink post (sc, fc, cc, rq, md, bk, ct, rt, rc, lk, wt, wc, ch, st, en, sn, sk, sr, fr, lf, cr, rr) v = post (lk_v v) := by
  unfold lk_v
  by_cases h1 : v < -1
  · have h1' : ¬ -1 ≤ v := Int32.not_le.mpr h1
    simp only [wpX_isLink, h1, h1', nu_na0, nu_na1, if_true, forall_eq, true_implies, false_implies, implies_true, not_true_eq_false, not_false_eq_true, and_true, true_and, and_self, true_or, or_true, false_or, or_false, false_and, and_false, eq_self]
  have h1' : -1 ≤ v := Int32.not_lt.mp h1
  by_cases h2 : 16 ≤ v
  · have h2' : ¬ v < 16 := Int32.not_lt.mpr h2
    simp only [wpX_isLink, h1, h1', h2, h2', nu_na0, nu_na1, if_true, if_false, forall_eq, true_implies, false_implies, implies_true, not_true_eq_false, not_false_eq_true, and_true, true_and, and_self, true_or, or_true, false_or, or_false, false_and, and_false, eq_self]
  have h2' : v < 16 := Int32.not_le.mp h2
  simp only [wpX_isLink, h1, h1', h2, h2', nu_na0, nu_na1, if_true, if_false, forall_eq, true_implies, false_implies, implies_true, not_true_eq_false, not_false_eq_true, and_true, true_and, and_self, true_or, or_true, false_or, or_false, false_and, and_false, eq_self]
theorem vy_lnk {post : Int32 → Prop} {v : Int32} : wpY_isLink post v = post (lk_v v) := by
  unfold lk_v
  by_cases h1 : v < -1
  · have h1' : ¬ -1 ≤ v := Int32.not_le.mpr h1
    simp only [wpY_isLink, h1, h1', nu_na0, nu_na1, if_true, forall_eq, true_implies, false_implies, implies_true, not_true_eq_false, not_false_eq_true, and_true, true_and, and_self, true_or, or_true, false_or, or_false, false_and, and_false, eq_self]
  have h1' : -1 ≤ v := Int32.not_lt.mp h1
  by_cases h2 : 16 ≤ v
  · have h2' : ¬ v < 16 := Int32.not_lt.mpr h2
    simp only [wpY_isLink, h1, h1', h2, h2', nu_na0, nu_na1, if_true, if_false, forall_eq, true_implies, false_implies, implies_true, not_true_eq_false, not_false_eq_true, and_true, true_and, and_self, true_or, or_true, false_or, or_false, false_and, and_false, eq_self]
  have h2' : v < 16 := Int32.not_le.mp h2
  simp only [wpY_isLink, h1, h1', h2, h2', nu_na0, nu_na1, if_true, if_false, forall_eq, true_implies, false_implies, implies_true, not_true_eq_false, not_false_eq_true, and_true, true_and, and_self, true_or, or_true, false_or, or_false, false_and, and_false, eq_self]
theorem vx_see {post : Int32 → Prop} {s k : Nat} (hk : k < 16) (hT : re_T rt wt th) (hB : re_B th) : wpX_isInSight post (sc, fc, cc, rq, md, bk, ct, rt, rc, lk, wt, wc, ch, st, en, sn, sk, sr, fr, lf, cr, rr) (nI s) (nI k) = post (si_t rt wt lk s k) := by
  have h1 := nu_na (b := wt k) (by rw [(hT k hk).2]; exact hB _)
  have h2 := nu_na (b := rt k) (by rw [(hT k hk).1]; exact hB _)
  unfold si_t
  by_cases h : lk k = nI s
  · simp (disch := omega) only [wpX_isInSight, nu_01, nu_40, nu_30, nu_20, nu_160, Int32.add_zero, Nat.reduceAdd, nu_m16, nu_16m, nu_m4, nu_4m, nu_m3, nu_3m, nu_m2, nu_2m, nI_1, nu_p2, nu_p3, nu_16p, nu_2p, nI_add, nu_cl, nu_in, Nat.add_zero, nu_l0, nu_l1, nu_l2, nu_l3, nu_l4, nu_i0_5, nu_i1_5, nu_i2_5, nu_i0_3, nu_i1_3, nu_i2_3, nu_n0, nu_n1, nu_na0, nu_na1, h, h1, h2, if_true, forall_eq, true_implies, false_implies, implies_true, not_true_eq_false, not_false_eq_true, and_true, true_and, and_self, true_or, or_true, false_or, or_false, false_and, and_false, eq_self]
  · simp (disch := omega) only [wpX_isInSight, nu_01, nu_40, nu_30, nu_20, nu_160, Int32.add_zero, Nat.reduceAdd, nu_m16, nu_16m, nu_m4, nu_4m, nu_m3, nu_3m, nu_m2, nu_2m, nI_1, nu_p2, nu_p3, nu_16p, nu_2p, nI_add, nu_cl, nu_in, Nat.add_zero, nu_l0, nu_l1, nu_l2, nu_l3, nu_l4, nu_i0_5, nu_i1_5, nu_i2_5, nu_i0_3, nu_i1_3, nu_i2_3, nu_n0, nu_n1, nu_na0, nu_na1, h, h1, h2, if_false, forall_eq, true_implies, false_implies, implies_true, not_true_eq_false, not_false_eq_true, and_true, true_and, and_self, true_or, or_true, false_or, or_false, false_and, and_false, eq_self]
theorem vx_sce {post : Int32 → Prop} {s k c : Nat} (hk : k < 16) (hc : c < 4) : wpX_sightCell post (sc, fc, cc, rq, md, bk, ct, rt, rc, lk, wt, wc, ch, st, en, sn, sk, sr, fr, lf, cr, rr) (nI s) (nI k) (nI c) = post (si_c rc wc lk s k c) := by
  unfold si_c
  by_cases h : lk k = nI s
  · simp (disch := omega) only [wpX_sightCell, nu_01, nu_40, nu_30, nu_20, nu_160, Int32.add_zero, Nat.reduceAdd, nu_m16, nu_16m, nu_m4, nu_4m, nu_m3, nu_3m, nu_m2, nu_2m, nI_1, nu_p2, nu_p3, nu_16p, nu_2p, nI_add, nu_cl, nu_in, Nat.add_zero, nu_l0, nu_l1, nu_l2, nu_l3, nu_l4, nu_i0_5, nu_i1_5, nu_i2_5, nu_i0_3, nu_i1_3, nu_i2_3, nu_n0, nu_n1, nu_na0, nu_na1, h, if_true, forall_eq, true_implies, false_implies, implies_true, not_true_eq_false, not_false_eq_true, and_true, true_and, and_self, true_or, or_true, false_or, or_false, false_and, and_false, eq_self]
  · simp (disch := omega) only [wpX_sightCell, nu_01, nu_40, nu_30, nu_20, nu_160, Int32.add_zero, Nat.reduceAdd, nu_m16, nu_16m, nu_m4, nu_4m, nu_m3, nu_3m, nu_m2, nu_2m, nI_1, nu_p2, nu_p3, nu_16p, nu_2p, nI_add, nu_cl, nu_in, Nat.add_zero, nu_l0, nu_l1, nu_l2, nu_l3, nu_l4, nu_i0_5, nu_i1_5, nu_i2_5, nu_i0_3, nu_i1_3, nu_i2_3, nu_n0, nu_n1, nu_na0, nu_na1, h, if_false, forall_eq, true_implies, false_implies, implies_true, not_true_eq_false, not_false_eq_true, and_true, true_and, and_self, true_or, or_true, false_or, or_false, false_and, and_false, eq_self]
theorem vy_see {post : Int32 → Prop} {s k : Nat} (hk : k < 16) : wpY_sight post (sc, fc, th, ch, ro, lk, st, nw, bf, ve, bk, md, yl, la, od, sm, fr, ct) (nI s) (nI k) = post (nI (si_f lk s k)) := by
  unfold si_f
  by_cases h : lk k = nI s
  · simp (disch := omega) only [wpY_sight, nu_01, nu_40, nu_30, nu_20, nu_160, Int32.add_zero, Nat.reduceAdd, nu_m16, nu_16m, nu_m4, nu_4m, nu_m3, nu_3m, nu_m2, nu_2m, nI_1, nu_p2, nu_p3, nu_16p, nu_2p, nI_add, nu_cl, nu_in, Nat.add_zero, nu_l0, nu_l1, nu_l2, nu_l3, nu_l4, nu_i0_5, nu_i1_5, nu_i2_5, nu_i0_3, nu_i1_3, nu_i2_3, nu_n0, nu_n1, nu_na0, nu_na1, h, if_true, forall_eq, true_implies, false_implies, implies_true, not_true_eq_false, not_false_eq_true, and_true, true_and, and_self, true_or, or_true, false_or, or_false, false_and, and_false, eq_self]
  · simp (disch := omega) only [wpY_sight, nu_01, nu_40, nu_30, nu_20, nu_160, Int32.add_zero, Nat.reduceAdd, nu_m16, nu_16m, nu_m4, nu_4m, nu_m3, nu_3m, nu_m2, nu_2m, nI_1, nu_p2, nu_p3, nu_16p, nu_2p, nI_add, nu_cl, nu_in, Nat.add_zero, nu_l0, nu_l1, nu_l2, nu_l3, nu_l4, nu_i0_5, nu_i1_5, nu_i2_5, nu_i0_3, nu_i1_3, nu_i2_3, nu_n0, nu_n1, nu_na0, nu_na1, h, if_false, forall_eq, true_implies, false_implies, implies_true, not_true_eq_false, not_false_eq_true, and_true, true_and, and_self, true_or, or_true, false_or, or_false, false_and, and_false, eq_self]
/-- locked by another session -/
noncomputable def bz_P (lk : Nat → Int32) (s k : Nat) : Prop := ¬ lk k = -1 ∧ ¬ lk k = nI s
theorem vx_bz {post : Int32 → Prop} {s k : Nat} (hk : k < 16) : wpX_isLockedByOther post (sc, fc, cc, rq, md, bk, ct, rt, rc, lk, wt, wc, ch, st, en, sn, sk, sr, fr, lf, cr, rr) (nI s) (nI k) = post (di_v (bz_P lk s k)) := by
  by_cases h : lk k = -1
  · rw [di_f (fun q => q.1 h)]
    simp (disch := omega) only [wpX_isLockedByOther, nu_01, nu_40, nu_30, nu_20, nu_160, Int32.add_zero, Nat.reduceAdd, nu_m16, nu_16m, nu_m4, nu_4m, nu_m3, nu_3m, nu_m2, nu_2m, nI_1, nu_p2, nu_p3, nu_16p, nu_2p, nI_add, nu_cl, nu_in, Nat.add_zero, nu_l0, nu_l1, nu_l2, nu_l3, nu_l4, nu_i0_5, nu_i1_5, nu_i2_5, nu_i0_3, nu_i1_3, nu_i2_3, nu_n0, nu_n1, nu_na0, nu_na1, h, forall_eq, true_implies, false_implies, implies_true, not_true_eq_false, not_false_eq_true, and_true, true_and, and_self, true_or, or_true, false_or, or_false, false_and, and_false, eq_self]
  by_cases h' : lk k = nI s
  · rw [di_f (fun q => q.2 h')]
    rw [h'] at h
    simp (disch := omega) only [wpX_isLockedByOther, nu_01, nu_40, nu_30, nu_20, nu_160, Int32.add_zero, Nat.reduceAdd, nu_m16, nu_16m, nu_m4, nu_4m, nu_m3, nu_3m, nu_m2, nu_2m, nI_1, nu_p2, nu_p3, nu_16p, nu_2p, nI_add, nu_cl, nu_in, Nat.add_zero, nu_l0, nu_l1, nu_l2, nu_l3, nu_l4, nu_i0_5, nu_i1_5, nu_i2_5, nu_i0_3, nu_i1_3, nu_i2_3, nu_n0, nu_n1, nu_na0, nu_na1, h, h', forall_eq, true_implies, false_implies, implies_true, not_true_eq_false, not_false_eq_true, and_true, true_and, and_self, true_or, or_true, false_or, or_false, false_and, and_false, eq_self]
  rw [di_t ⟨h, h'⟩]
  simp (disch := omega) only [wpX_isLockedByOther, nu_01, nu_40, nu_30, nu_20, nu_160, Int32.add_zero, Nat.reduceAdd, nu_m16, nu_16m, nu_m4, nu_4m, nu_m3, nu_3m, nu_m2, nu_2m, nI_1, nu_p2, nu_p3, nu_16p, nu_2p, nI_add, nu_cl, nu_in, Nat.add_zero, nu_l0, nu_l1, nu_l2, nu_l3, nu_l4, nu_i0_5, nu_i1_5, nu_i2_5, nu_i0_3, nu_i1_3, nu_i2_3, nu_n0, nu_n1, nu_na0, nu_na1, h, h', forall_eq, true_implies, false_implies, implies_true, not_true_eq_false, not_false_eq_true, and_true, true_and, and_self, true_or, or_true, false_or, or_false, false_and, and_false, eq_self]
theorem vx_dir {post : Int32 → Prop} {e : Nat} (he : e < 48) : wpX_isDirty post (sc, fc, cc, rq, md, bk, ct, rt, rc, lk, wt, wc, ch, st, en, sn, sk, sr, fr, lf, cr, rr) (nI e) = post (di_v (di_P st en sn e)) := by
  by_cases h4 : st e = 4
  · by_cases c0 : en (4 * e) = sn (4 * e)
    · by_cases c1 : en (4 * e + 1) = sn (4 * e + 1)
      · by_cases c2 : en (4 * e + 2) = sn (4 * e + 2)
        · rw [di_f (fun q => q.2 ⟨c0, c1, c2⟩)]
          simp (disch := omega) only [wpX_isDirty, nu_01, nu_40, nu_30, nu_20, nu_160, Int32.add_zero, Nat.reduceAdd, nu_m16, nu_16m, nu_m4, nu_4m, nu_m3, nu_3m, nu_m2, nu_2m, nI_1, nu_p2, nu_p3, nu_16p, nu_2p, nI_add, nu_cl, nu_in, Nat.add_zero, nu_l0, nu_l1, nu_l2, nu_l3, nu_l4, nu_i0_5, nu_i1_5, nu_i2_5, nu_i0_3, nu_i1_3, nu_i2_3, nu_n0, nu_n1, nu_na0, nu_na1, h4, c0, c1, c2, forall_eq, true_implies, false_implies, implies_true, not_true_eq_false, not_false_eq_true, and_true, true_and, and_self, true_or, or_true, false_or, or_false, false_and, and_false, eq_self]
        · rw [di_t ⟨h4, fun q => c2 q.2.2⟩]
          simp (disch := omega) only [wpX_isDirty, nu_01, nu_40, nu_30, nu_20, nu_160, Int32.add_zero, Nat.reduceAdd, nu_m16, nu_16m, nu_m4, nu_4m, nu_m3, nu_3m, nu_m2, nu_2m, nI_1, nu_p2, nu_p3, nu_16p, nu_2p, nI_add, nu_cl, nu_in, Nat.add_zero, nu_l0, nu_l1, nu_l2, nu_l3, nu_l4, nu_i0_5, nu_i1_5, nu_i2_5, nu_i0_3, nu_i1_3, nu_i2_3, nu_n0, nu_n1, nu_na0, nu_na1, h4, c0, c1, c2, forall_eq, true_implies, false_implies, implies_true, not_true_eq_false, not_false_eq_true, and_true, true_and, and_self, true_or, or_true, false_or, or_false, false_and, and_false, eq_self]
      · rw [di_t ⟨h4, fun q => c1 q.2.1⟩]
        simp (disch := omega) only [wpX_isDirty, nu_01, nu_40, nu_30, nu_20, nu_160, Int32.add_zero, Nat.reduceAdd, nu_m16, nu_16m, nu_m4, nu_4m, nu_m3, nu_3m, nu_m2, nu_2m, nI_1, nu_p2, nu_p3, nu_16p, nu_2p, nI_add, nu_cl, nu_in, Nat.add_zero, nu_l0, nu_l1, nu_l2, nu_l3, nu_l4, nu_i0_5, nu_i1_5, nu_i2_5, nu_i0_3, nu_i1_3, nu_i2_3, nu_n0, nu_n1, nu_na0, nu_na1, h4, c0, c1, forall_eq, true_implies, false_implies, implies_true, not_true_eq_false, not_false_eq_true, and_true, true_and, and_self, true_or, or_true, false_or, or_false, false_and, and_false, eq_self]
    · rw [di_t ⟨h4, fun q => c0 q.1⟩]
      simp (disch := omega) only [wpX_isDirty, nu_01, nu_40, nu_30, nu_20, nu_160, Int32.add_zero, Nat.reduceAdd, nu_m16, nu_16m, nu_m4, nu_4m, nu_m3, nu_3m, nu_m2, nu_2m, nI_1, nu_p2, nu_p3, nu_16p, nu_2p, nI_add, nu_cl, nu_in, Nat.add_zero, nu_l0, nu_l1, nu_l2, nu_l3, nu_l4, nu_i0_5, nu_i1_5, nu_i2_5, nu_i0_3, nu_i1_3, nu_i2_3, nu_n0, nu_n1, nu_na0, nu_na1, h4, c0, forall_eq, true_implies, false_implies, implies_true, not_true_eq_false, not_false_eq_true, and_true, true_and, and_self, true_or, or_true, false_or, or_false, false_and, and_false, eq_self]
  · rw [di_f (fun q => h4 q.1)]
    simp (disch := omega) only [wpX_isDirty, nu_01, nu_40, nu_30, nu_20, nu_160, Int32.add_zero, Nat.reduceAdd, nu_m16, nu_16m, nu_m4, nu_4m, nu_m3, nu_3m, nu_m2, nu_2m, nI_1, nu_p2, nu_p3, nu_16p, nu_2p, nI_add, nu_cl, nu_in, Nat.add_zero, nu_l0, nu_l1, nu_l2, nu_l3, nu_l4, nu_i0_5, nu_i1_5, nu_i2_5, nu_i0_3, nu_i1_3, nu_i2_3, nu_n0, nu_n1, nu_na0, nu_na1, h4, forall_eq, true_implies, false_implies, implies_true, not_true_eq_false, not_false_eq_true, and_true, true_and, and_self, true_or, or_true, false_or, or_false, false_and, and_false, eq_self]
end
end
section
section
variable {sc fc cc rq : Int32} {md bk ct rt rc lk wt wc ch st en sn sk sr fr lf cr rr th ro nw bf ve yl la od sm : Nat → Int32}
theorem vx_mg {post : SX → Prop} {s k : Nat} (hs : s < 3) (hk : k < 16)
    (hp : post (sc, fc, cc, rq, md, bk, ct, rt, rc, lk, wt, wc, ch, upd st (16 * s + k) 4, u4_f en (4 * (16 * s + k)) (si_c rc wc lk s k 0) (si_c rc wc lk s k 1) (si_c rc wc lk s k 2) (si_c rc wc lk s k 3), u4_f sn (4 * (16 * s + k)) (si_c rc wc lk s k 0) (si_c rc wc lk s k 1) (si_c rc wc lk s k 2) (si_c rc wc lk s k 3), sk, sr, fr, lf, cr, rr)) :
    wpX_manageFromSight post (sc, fc, cc, rq, md, bk, ct, rt, rc, lk, wt, wc, ch, st, en, sn, sk, sr, fr, lf, cr, rr) (nI s) (nI k) := by
  by_cases h : lk k = nI s
  · have e : ∀ c, si_c rc wc lk s k c = wc (4 * k + c) := fun c => if_pos h
    rw [e 0, e 1, e 2, e 3] at hp
    simp (disch := omega) only [wpX_manageFromSight, wX_manageFromSight_22, nu_01, nu_40, nu_30, nu_20, nu_160, Int32.add_zero, Nat.reduceAdd, nu_m16, nu_16m, nu_m4, nu_4m, nu_m3, nu_3m, nu_m2, nu_2m, nI_1, nu_p2, nu_p3, nu_16p, nu_2p, nI_add, nu_cl, nu_in, Nat.add_zero, nu_l0, nu_l1, nu_l2, nu_l3, nu_l4, nu_i0_5, nu_i1_5, nu_i2_5, nu_i0_3, nu_i1_3, nu_i2_3, nu_n0, nu_n1, nu_na0, nu_na1, h, forall_eq, true_implies, false_implies, implies_true, not_true_eq_false, not_false_eq_true, and_true, true_and, and_self, true_or, or_true, false_or, or_false, false_and, and_false, eq_self]
    refine ⟨5, ?_⟩
    simp (disch := omega) only [wX_manageFromSight_34, wX_manageFromSight_70, nu_k10, nu_a4, nu_b4, nu_01, nu_40, nu_30, nu_20, nu_160, Int32.add_zero, Nat.reduceAdd, nu_m16, nu_16m, nu_m4, nu_4m, nu_m3, nu_3m, nu_m2, nu_2m, nI_1, nu_p2, nu_p3, nu_16p, nu_2p, nI_add, nu_cl, nu_in, Nat.add_zero, nu_l0, nu_l1, nu_l2, nu_l3, nu_l4, nu_i0_5, nu_i1_5, nu_i2_5, nu_i0_3, nu_i1_3, nu_i2_3, nu_n0, nu_n1, nu_na0, nu_na1, forall_eq, true_implies, false_implies, implies_true, not_true_eq_false, not_false_eq_true, and_true, true_and, and_self, true_or, or_true, false_or, or_false, false_and, and_false, eq_self]
    exact hp
  · have e : ∀ c, si_c rc wc lk s k c = rc (4 * k + c) := fun c => if_neg h
    rw [e 0, e 1, e 2, e 3] at hp
    simp (disch := omega) only [wpX_manageFromSight, wX_manageFromSight_22, nu_01, nu_40, nu_30, nu_20, nu_160, Int32.add_zero, Nat.reduceAdd, nu_m16, nu_16m, nu_m4, nu_4m, nu_m3, nu_3m, nu_m2, nu_2m, nI_1, nu_p2, nu_p3, nu_16p, nu_2p, nI_add, nu_cl, nu_in, Nat.add_zero, nu_l0, nu_l1, nu_l2, nu_l3, nu_l4, nu_i0_5, nu_i1_5, nu_i2_5, nu_i0_3, nu_i1_3, nu_i2_3, nu_n0, nu_n1, nu_na0, nu_na1, h, forall_eq, true_implies, false_implies, implies_true, not_true_eq_false, not_false_eq_true, and_true, true_and, and_self, true_or, or_true, false_or, or_false, false_and, and_false, eq_self]
    refine ⟨5, ?_⟩
    simp (disch := omega) only [wX_manageFromSight_34, wX_manageFromSight_70, nu_k10, nu_a4, nu_b4, nu_01, nu_40, nu_30, nu_20, nu_160, Int32.add_zero, Nat.reduceAdd, nu_m16, nu_16m, nu_m4, nu_4m, nu_m3, nu_3m, nu_m2, nu_2m, nI_1, nu_p2, nu_p3, nu_16p, nu_2p, nI_add, nu_cl, nu_in, Nat.add_zero, nu_l0, nu_l1, nu_l2, nu_l3, nu_l4, nu_i0_5, nu_i1_5, nu_i2_5, nu_i0_3, nu_i1_3, nu_i2_3, nu_n0, nu_n1, nu_na0, nu_na1, forall_eq, true_implies, false_implies, implies_true, not_true_eq_false, not_false_eq_true, and_true, true_and, and_self, true_or, or_true, false_or, or_false, false_and, and_false, eq_self]
    exact hp
theorem vy_mg {post : SY → Prop} {s k : Nat} (hs : s < 3) (hk : k < 16) (hC : re_C rc wc ro)
    (hp : post (sc, fc, th, ch, ro, lk, upd st (16 * s + k) 4, u3_f nw (3 * (16 * s + k)) (si_c rc wc lk s k 0) (si_c rc wc lk s k 1) (si_c rc wc lk s k 2), u3_f bf (3 * (16 * s + k)) (si_c rc wc lk s k 0) (si_c rc wc lk s k 1) (si_c rc wc lk s k 2), upd ve (16 * s + k) (si_c rc wc lk s k 3), bk, md, yl, la, od, sm, fr, ct)) :
    wpY_manage post (sc, fc, th, ch, ro, lk, st, nw, bf, ve, bk, md, yl, la, od, sm, fr, ct) (nI s) (nI k) := by
  have hf := si_lt lk (s := s) hk
  have e := fun c (hc : c < 4) => si_fc (lk := lk) (s := s) hC hk hc
  have e0 := e 0 (by decide)
  rw [Nat.add_zero] at e0
  rw [← e0, ← e 1 (by decide), ← e 2 (by decide), ← e 3 (by decide)] at hp
  simp (disch := omega) only [wpY_manage, vy_see hk, nu_01, nu_40, nu_30, nu_20, nu_160, Int32.add_zero, Nat.reduceAdd, nu_m16, nu_16m, nu_m4, nu_4m, nu_m3, nu_3m, nu_m2, nu_2m, nI_1, nu_p2, nu_p3, nu_16p, nu_2p, nI_add, nu_cl, nu_in, Nat.add_zero, nu_l0, nu_l1, nu_l2, nu_l3, nu_l4, nu_i0_5, nu_i1_5, nu_i2_5, nu_i0_3, nu_i1_3, nu_i2_3, nu_n0, nu_n1, nu_na0, nu_na1, forall_eq, true_implies, false_implies, implies_true, not_true_eq_false, not_false_eq_true, and_true, true_and, and_self, true_or, or_true, false_or, or_false, false_and, and_false, eq_self]
  refine ⟨4, ?_⟩
  generalize hg : si_f lk s k = f at *
  simp (disch := omega) only [wY_manage_25, nu_a3, nu_b3, nu_01, nu_40, nu_30, nu_20, nu_160, Int32.add_zero, Nat.reduceAdd, nu_m16, nu_16m, nu_m4, nu_4m, nu_m3, nu_3m, nu_m2, nu_2m, nI_1, nu_p2, nu_p3, nu_16p, nu_2p, nI_add, nu_cl, nu_in, Nat.add_zero, nu_l0, nu_l1, nu_l2, nu_l3, nu_l4, nu_i0_5, nu_i1_5, nu_i2_5, nu_i0_3, nu_i1_3, nu_i2_3, nu_n0, nu_n1, nu_na0, nu_na1, forall_eq, true_implies, false_implies, implies_true, not_true_eq_false, not_false_eq_true, and_true, true_and, and_self, true_or, or_true, false_or, or_false, false_and, and_false, eq_self]
  exact hp
theorem vy_dir {post : Int32 → Prop} {e : Nat} (he : e < 48) (hN : re_N st en nw) (hS : re_S sn bf) (hp : post (di_v (di_P st en sn e))) : wpY_isDirty post (sc, fc, th, ch, ro, lk, st, nw, bf, ve, bk, md, yl, la, od, sm, fr, ct) (nI e) := by
  simp only [wpY_isDirty]
  refine ⟨4, ?_⟩
  by_cases h4 : st e = 4
  · have n0 := hN e he (by rw [h4]; decide) (by rw [h4]; decide) 0 (by decide)
    have n1 := hN e he (by rw [h4]; decide) (by rw [h4]; decide) 1 (by decide)
    have n2 := hN e he (by rw [h4]; decide) (by rw [h4]; decide) 2 (by decide)
    have s0 := hS e he 0 (by decide)
    have s1 := hS e he 1 (by decide)
    have s2 := hS e he 2 (by decide)
    rw [Nat.add_zero, Nat.add_zero] at n0 s0
    by_cases c0 : nw (3 * e) = bf (3 * e)
    · by_cases c1 : nw (3 * e + 1) = bf (3 * e + 1)
      · by_cases c2 : nw (3 * e + 2) = bf (3 * e + 2)
        · rw [di_f (fun q => q.2 ⟨by rw [n0, s0, c0], by rw [n1, s1, c1], by rw [n2, s2, c2]⟩)] at hp
          simp (disch := omega) only [wY_isDirty_2, nu_a3, nu_b3, nu_01, nu_40, nu_30, nu_20, nu_160, Int32.add_zero, Nat.reduceAdd, nu_m16, nu_16m, nu_m4, nu_4m, nu_m3, nu_3m, nu_m2, nu_2m, nI_1, nu_p2, nu_p3, nu_16p, nu_2p, nI_add, nu_cl, nu_in, Nat.add_zero, nu_l0, nu_l1, nu_l2, nu_l3, nu_l4, nu_i0_5, nu_i1_5, nu_i2_5, nu_i0_3, nu_i1_3, nu_i2_3, nu_n0, nu_n1, nu_na0, nu_na1, h4, c0, c1, c2, forall_eq, true_implies, false_implies, implies_true, not_true_eq_false, not_false_eq_true, and_true, true_and, and_self, true_or, or_true, false_or, or_false, false_and, and_false, eq_self]
          exact hp
        · rw [di_t ⟨h4, fun q => c2 (by rw [← n2, ← s2]; exact q.2.2)⟩] at hp
          simp (disch := omega) only [wY_isDirty_2, nu_a3, nu_b3, nu_01, nu_40, nu_30, nu_20, nu_160, Int32.add_zero, Nat.reduceAdd, nu_m16, nu_16m, nu_m4, nu_4m, nu_m3, nu_3m, nu_m2, nu_2m, nI_1, nu_p2, nu_p3, nu_16p, nu_2p, nI_add, nu_cl, nu_in, Nat.add_zero, nu_l0, nu_l1, nu_l2, nu_l3, nu_l4, nu_i0_5, nu_i1_5, nu_i2_5, nu_i0_3, nu_i1_3, nu_i2_3, nu_n0, nu_n1, nu_na0, nu_na1, h4, c0, c1, c2, forall_eq, true_implies, false_implies, implies_true, not_true_eq_false, not_false_eq_true, and_true, true_and, and_self, true_or, or_true, false_or, or_false, false_and, and_false, eq_self]
          exact hp
      · rw [di_t ⟨h4, fun q => c1 (by rw [← n1, ← s1]; exact q.2.1)⟩] at hp
        simp (disch := omega) only [wY_isDirty_2, nu_a3, nu_b3, nu_01, nu_40, nu_30, nu_20, nu_160, Int32.add_zero, Nat.reduceAdd, nu_m16, nu_16m, nu_m4, nu_4m, nu_m3, nu_3m, nu_m2, nu_2m, nI_1, nu_p2, nu_p3, nu_16p, nu_2p, nI_add, nu_cl, nu_in, Nat.add_zero, nu_l0, nu_l1, nu_l2, nu_l3, nu_l4, nu_i0_5, nu_i1_5, nu_i2_5, nu_i0_3, nu_i1_3, nu_i2_3, nu_n0, nu_n1, nu_na0, nu_na1, h4, c0, c1, forall_eq, true_implies, false_implies, implies_true, not_true_eq_false, not_false_eq_true, and_true, true_and, and_self, true_or, or_true, false_or, or_false, false_and, and_false, eq_self]
        exact hp
    · rw [di_t ⟨h4, fun q => c0 (by rw [← n0, ← s0]; exact q.1)⟩] at hp
      simp (disch := omega) only [wY_isDirty_2, nu_a3, nu_b3, nu_01, nu_40, nu_30, nu_20, nu_160, Int32.add_zero, Nat.reduceAdd, nu_m16, nu_16m, nu_m4, nu_4m, nu_m3, nu_3m, nu_m2, nu_2m, nI_1, nu_p2, nu_p3, nu_16p, nu_2p, nI_add, nu_cl, nu_in, Nat.add_zero, nu_l0, nu_l1, nu_l2, nu_l3, nu_l4, nu_i0_5, nu_i1_5, nu_i2_5, nu_i0_3, nu_i1_3, nu_i2_3, nu_n0, nu_n1, nu_na0, nu_na1, h4, c0, forall_eq, true_implies, false_implies, implies_true, not_true_eq_false, not_false_eq_true, and_true, true_and, and_self, true_or, or_true, false_or, or_false, false_and, and_false, eq_self]
      exact hp
  · rw [di_f (fun q => h4 q.1)] at hp
    simp (disch := omega) only [wY_isDirty_2, nu_a3, nu_b3, nu_01, nu_40, nu_30, nu_20, nu_160, Int32.add_zero, Nat.reduceAdd, nu_m16, nu_16m, nu_m4, nu_4m, nu_m3, nu_3m, nu_m2, nu_2m, nI_1, nu_p2, nu_p3, nu_16p, nu_2p, nI_add, nu_cl, nu_in, Nat.add_zero, nu_l0, nu_l1, nu_l2, nu_l3, nu_l4, nu_i0_5, nu_i1_5, nu_i2_5, nu_i0_3, nu_i1_3, nu_i2_3, nu_n0, nu_n1, nu_na0, nu_na1, h4, forall_eq, true_implies, false_implies, implies_true, not_true_eq_false, not_false_eq_true, and_true, true_and, and_self, true_or, or_true, false_or, or_false, false_and, and_false, eq_self]
    exact hp
end
end
section
section
variable {md bk rt rc lk wt wc ch st en sn th ro nw bf ve : Nat → Int32}
variable (sc fc cc rq : Int32) (ct sk sr fr lf cr rr yl la od sm : Nat → Int32)
/-- a row is taken from the store -/
theorem tk_S {s k : Nat} (hs : s < 3) (hk : k < 16) (R : re_R md bk ch lk st rt rc wt wc en sn th ro nw bf ve) :
    ∃ (b : Int32) (ch' st' en' sn' nw' bf' ve' : Nat → Int32), (b = 0 ∨ b = 1) ∧ re_R md bk ch' lk st' rt rc wt wc en' sn' th ro nw' bf' ve' ∧
      (b = 1 → st' = upd st (16 * s + k) 4) ∧ (b = 0 → ch' = ch ∧ st' = st ∧ en' = en ∧ sn' = sn ∧ nw' = nw ∧ bf' = bf ∧ ve' = ve) ∧
      (∀ post : Int32 → SX → Prop, post b (sc, fc, cc, rq, md, bk, ct, rt, rc, lk, wt, wc, ch', st', en', sn', sk, sr, fr, lf, cr, rr) → wpX_takeFromStore post (sc, fc, cc, rq, md, bk, ct, rt, rc, lk, wt, wc, ch, st, en, sn, sk, sr, fr, lf, cr, rr) (nI s) (nI k)) ∧
      (∀ post : Int32 → SY → Prop, post b (sc, fc, th, ch', ro, lk, st', nw', bf', ve', bk, md, yl, la, od, sm, fr, ct) → wpY_take post (sc, fc, th, ch, ro, lk, st, nw, bf, ve, bk, md, yl, la, od, sm, fr, ct) (nI s) (nI k)) := by
  have hT := re_rT R
  have hB := re_rth R
  have hC := re_rC R
  have hf := si_lt lk (s := s) hk
  have ht := si_ft (lk := lk) (s := s) hT hk
  by_cases t : si_t rt wt lk s k = 0
  · rw [t] at ht
    refine ⟨0, ch, st, en, sn, nw, bf, ve, Or.inl rfl, R, fun q => absurd q (by decide), fun _ => ⟨rfl, rfl, rfl, rfl, rfl, rfl, rfl⟩, fun post hp => ?_, fun post hp => ?_⟩
    · simp (disch := omega) only [wpX_takeFromStore, vx_see hk hT hB, nu_01, nu_40, nu_30, nu_20, nu_160, Int32.add_zero, Nat.reduceAdd, nu_m16, nu_16m, nu_m4, nu_4m, nu_m3, nu_3m, nu_m2, nu_2m, nI_1, nu_p2, nu_p3, nu_16p, nu_2p, nI_add, nu_cl, nu_in, Nat.add_zero, nu_l0, nu_l1, nu_l2, nu_l3, nu_l4, nu_i0_5, nu_i1_5, nu_i2_5, nu_i0_3, nu_i1_3, nu_i2_3, nu_n0, nu_n1, nu_na0, nu_na1, t, forall_eq, true_implies, false_implies, implies_true, not_true_eq_false, not_false_eq_true, and_true, true_and, and_self, true_or, or_true, false_or, or_false, false_and, and_false, eq_self]
      exact hp
    · simp (disch := omega) only [wpY_take, vy_see hk, nu_01, nu_40, nu_30, nu_20, nu_160, Int32.add_zero, Nat.reduceAdd, nu_m16, nu_16m, nu_m4, nu_4m, nu_m3, nu_3m, nu_m2, nu_2m, nI_1, nu_p2, nu_p3, nu_16p, nu_2p, nI_add, nu_cl, nu_in, Nat.add_zero, nu_l0, nu_l1, nu_l2, nu_l3, nu_l4, nu_i0_5, nu_i1_5, nu_i2_5, nu_i0_3, nu_i1_3, nu_i2_3, nu_n0, nu_n1, nu_na0, nu_na1, ht, forall_eq, true_implies, false_implies, implies_true, not_true_eq_false, not_false_eq_true, and_true, true_and, and_self, true_or, or_true, false_or, or_false, false_and, and_false, eq_self]
      exact hp
  · have ht' : ¬ th (si_f lk s k) = 0 := by
      rw [ht]
      exact t
    by_cases l : lk k = -1
    · refine ⟨1, upd ch k 1, _, _, _, _, _, _, Or.inr rfl, mg_R (s := s) (k := k) (ch_R R (Or.inr rfl)) hk, fun _ => rfl, fun q => absurd q (by decide), fun post hp => ?_, fun post hp => ?_⟩
      · simp (disch := omega) only [wpX_takeFromStore, vx_see hk hT hB, nu_01, nu_40, nu_30, nu_20, nu_160, Int32.add_zero, Nat.reduceAdd, nu_m16, nu_16m, nu_m4, nu_4m, nu_m3, nu_3m, nu_m2, nu_2m, nI_1, nu_p2, nu_p3, nu_16p, nu_2p, nI_add, nu_cl, nu_in, Nat.add_zero, nu_l0, nu_l1, nu_l2, nu_l3, nu_l4, nu_i0_5, nu_i1_5, nu_i2_5, nu_i0_3, nu_i1_3, nu_i2_3, nu_n0, nu_n1, nu_na0, nu_na1, t, forall_eq, true_implies, false_implies, implies_true, not_true_eq_false, not_false_eq_true, and_true, true_and, and_self, true_or, or_true, false_or, or_false, false_and, and_false, eq_self]
        refine vx_mg hs hk ?_
        simp (disch := omega) only [nu_01, nu_40, nu_30, nu_20, nu_160, Int32.add_zero, Nat.reduceAdd, nu_m16, nu_16m, nu_m4, nu_4m, nu_m3, nu_3m, nu_m2, nu_2m, nI_1, nu_p2, nu_p3, nu_16p, nu_2p, nI_add, nu_cl, nu_in, Nat.add_zero, nu_l0, nu_l1, nu_l2, nu_l3, nu_l4, nu_i0_5, nu_i1_5, nu_i2_5, nu_i0_3, nu_i1_3, nu_i2_3, nu_n0, nu_n1, nu_na0, nu_na1, l, forall_eq, true_implies, false_implies, implies_true, not_true_eq_false, not_false_eq_true, and_true, true_and, and_self, true_or, or_true, false_or, or_false, false_and, and_false, eq_self]
        exact hp
      · simp (disch := omega) only [wpY_take, vy_see hk, nu_01, nu_40, nu_30, nu_20, nu_160, Int32.add_zero, Nat.reduceAdd, nu_m16, nu_16m, nu_m4, nu_4m, nu_m3, nu_3m, nu_m2, nu_2m, nI_1, nu_p2, nu_p3, nu_16p, nu_2p, nI_add, nu_cl, nu_in, Nat.add_zero, nu_l0, nu_l1, nu_l2, nu_l3, nu_l4, nu_i0_5, nu_i1_5, nu_i2_5, nu_i0_3, nu_i1_3, nu_i2_3, nu_n0, nu_n1, nu_na0, nu_na1, ht', forall_eq, true_implies, false_implies, implies_true, not_true_eq_false, not_false_eq_true, and_true, true_and, and_self, true_or, or_true, false_or, or_false, false_and, and_false, eq_self]
        refine vy_mg hs hk hC ?_
        simp (disch := omega) only [nu_01, nu_40, nu_30, nu_20, nu_160, Int32.add_zero, Nat.reduceAdd, nu_m16, nu_16m, nu_m4, nu_4m, nu_m3, nu_3m, nu_m2, nu_2m, nI_1, nu_p2, nu_p3, nu_16p, nu_2p, nI_add, nu_cl, nu_in, Nat.add_zero, nu_l0, nu_l1, nu_l2, nu_l3, nu_l4, nu_i0_5, nu_i1_5, nu_i2_5, nu_i0_3, nu_i1_3, nu_i2_3, nu_n0, nu_n1, nu_na0, nu_na1, l, nu_m1ge, forall_eq, true_implies, false_implies, implies_true, not_true_eq_false, not_false_eq_true, and_true, true_and, and_self, true_or, or_true, false_or, or_false, false_and, and_false, eq_self]
        exact hp
    · have l0 : 0 ≤ lk k := by
        rcases re_rQ R k with q | ⟨j, hj, q⟩
        · exact absurd q l
        · rw [q]
          exact nI_pos' (by omega)
      refine ⟨1, ch, _, _, _, _, _, _, Or.inr rfl, mg_R (s := s) (k := k) R hk, fun _ => rfl, fun q => absurd q (by decide), fun post hp => ?_, fun post hp => ?_⟩
      · simp (disch := omega) only [wpX_takeFromStore, vx_see hk hT hB, nu_01, nu_40, nu_30, nu_20, nu_160, Int32.add_zero, Nat.reduceAdd, nu_m16, nu_16m, nu_m4, nu_4m, nu_m3, nu_3m, nu_m2, nu_2m, nI_1, nu_p2, nu_p3, nu_16p, nu_2p, nI_add, nu_cl, nu_in, Nat.add_zero, nu_l0, nu_l1, nu_l2, nu_l3, nu_l4, nu_i0_5, nu_i1_5, nu_i2_5, nu_i0_3, nu_i1_3, nu_i2_3, nu_n0, nu_n1, nu_na0, nu_na1, t, forall_eq, true_implies, false_implies, implies_true, not_true_eq_false, not_false_eq_true, and_true, true_and, and_self, true_or, or_true, false_or, or_false, false_and, and_false, eq_self]
        refine vx_mg hs hk ?_
        simp (disch := omega) only [nu_01, nu_40, nu_30, nu_20, nu_160, Int32.add_zero, Nat.reduceAdd, nu_m16, nu_16m, nu_m4, nu_4m, nu_m3, nu_3m, nu_m2, nu_2m, nI_1, nu_p2, nu_p3, nu_16p, nu_2p, nI_add, nu_cl, nu_in, Nat.add_zero, nu_l0, nu_l1, nu_l2, nu_l3, nu_l4, nu_i0_5, nu_i1_5, nu_i2_5, nu_i0_3, nu_i1_3, nu_i2_3, nu_n0, nu_n1, nu_na0, nu_na1, l, forall_eq, true_implies, false_implies, implies_true, not_true_eq_false, not_false_eq_true, and_true, true_and, and_self, true_or, or_true, false_or, or_false, false_and, and_false, eq_self]
        exact hp
      · simp (disch := omega) only [wpY_take, vy_see hk, nu_01, nu_40, nu_30, nu_20, nu_160, Int32.add_zero, Nat.reduceAdd, nu_m16, nu_16m, nu_m4, nu_4m, nu_m3, nu_3m, nu_m2, nu_2m, nI_1, nu_p2, nu_p3, nu_16p, nu_2p, nI_add, nu_cl, nu_in, Nat.add_zero, nu_l0, nu_l1, nu_l2, nu_l3, nu_l4, nu_i0_5, nu_i1_5, nu_i2_5, nu_i0_3, nu_i1_3, nu_i2_3, nu_n0, nu_n1, nu_na0, nu_na1, ht', forall_eq, true_implies, false_implies, implies_true, not_true_eq_false, not_false_eq_true, and_true, true_and, and_self, true_or, or_true, false_or, or_false, false_and, and_false, eq_self]
        refine vy_mg hs hk hC ?_
        simp (disch := omega) only [nu_01, nu_40, nu_30, nu_20, nu_160, Int32.add_zero, Nat.reduceAdd, nu_m16, nu_16m, nu_m4, nu_4m, nu_m3, nu_3m, nu_m2, nu_2m, nI_1, nu_p2, nu_p3, nu_16p, nu_2p, nI_add, nu_cl, nu_in, Nat.add_zero, nu_l0, nu_l1, nu_l2, nu_l3, nu_l4, nu_i0_5, nu_i1_5, nu_i2_5, nu_i0_3, nu_i1_3, nu_i2_3, nu_n0, nu_n1, nu_na0, nu_na1, l0, forall_eq, true_implies, false_implies, implies_true, not_true_eq_false, not_false_eq_true, and_true, true_and, and_self, true_or, or_true, false_or, or_false, false_and, and_false, eq_self]
        exact hp
/-- a LOAD whose READ is not counted yet -/
theorem ld_S {s k : Nat} (hs : s < 3) (hk : k < 16) (R : re_R md bk ch lk st rt rc wt wc en sn th ro nw bf ve) :
    ∃ (q : Int32) (ct' ch' st' en' sn' nw' bf' ve' : Nat → Int32), (q = 0 ∨ q = 1 ∨ q = 2) ∧ re_R md bk ch' lk st' rt rc wt wc en' sn' th ro nw' bf' ve' ∧
      (¬ q = 2 → st' = upd st (16 * s + k) 4) ∧ (q = 2 → st' = st) ∧
      (∀ post : Int32 → SX → Prop, post q (sc, fc, cc, rq, md, bk, ct', rt, rc, lk, wt, wc, ch', st', en', sn', sk, sr, fr, lf, cr, rr) → wpX_loadUncounted post (sc, fc, cc, rq, md, bk, ct, rt, rc, lk, wt, wc, ch, st, en, sn, sk, sr, fr, lf, cr, rr) (nI s) (nI k)) ∧
      (∀ post : Int32 → SY → Prop, post q (sc, fc, th, ch', ro, lk, st', nw', bf', ve', bk, md, yl, la, od, sm, fr, ct') → wpY_load post (sc, fc, th, ch, ro, lk, st, nw, bf, ve, bk, md, yl, la, od, sm, fr, ct) (nI s) (nI k)) := by
  have hC := re_rC R
  by_cases c : ch k = 0
  · obtain ⟨b, ch', st', en', sn', nw', bf', ve', hb, R', h1, h0, hX, hY⟩ := tk_S sc fc cc rq ct sk sr fr lf cr rr yl la od sm hs hk R
    rcases hb with rfl | rfl
    · refine ⟨2, ct, ch', st', en', sn', nw', bf', ve', Or.inr (Or.inr rfl), R', fun q => absurd rfl q, fun _ => (h0 rfl).2.1, fun post hp => ?_, fun post hp => ?_⟩
      · simp (disch := omega) only [wpX_loadUncounted, nu_01, nu_40, nu_30, nu_20, nu_160, Int32.add_zero, Nat.reduceAdd, nu_m16, nu_16m, nu_m4, nu_4m, nu_m3, nu_3m, nu_m2, nu_2m, nI_1, nu_p2, nu_p3, nu_16p, nu_2p, nI_add, nu_cl, nu_in, Nat.add_zero, nu_l0, nu_l1, nu_l2, nu_l3, nu_l4, nu_i0_5, nu_i1_5, nu_i2_5, nu_i0_3, nu_i1_3, nu_i2_3, nu_n0, nu_n1, nu_na0, nu_na1, c, forall_eq, true_implies, false_implies, implies_true, not_true_eq_false, not_false_eq_true, and_true, true_and, and_self, true_or, or_true, false_or, or_false, false_and, and_false, eq_self]
        refine hX _ ?_
        simp only [forall_eq, true_implies, false_implies, implies_true, not_true_eq_false, not_false_eq_true, and_true, true_and, and_self, true_or, or_true, false_or, or_false, false_and, and_false, eq_self]
        exact hp
      · simp (disch := omega) only [wpY_load, nu_01, nu_40, nu_30, nu_20, nu_160, Int32.add_zero, Nat.reduceAdd, nu_m16, nu_16m, nu_m4, nu_4m, nu_m3, nu_3m, nu_m2, nu_2m, nI_1, nu_p2, nu_p3, nu_16p, nu_2p, nI_add, nu_cl, nu_in, Nat.add_zero, nu_l0, nu_l1, nu_l2, nu_l3, nu_l4, nu_i0_5, nu_i1_5, nu_i2_5, nu_i0_3, nu_i1_3, nu_i2_3, nu_n0, nu_n1, nu_na0, nu_na1, c, forall_eq, true_implies, false_implies, implies_true, not_true_eq_false, not_false_eq_true, and_true, true_and, and_self, true_or, or_true, false_or, or_false, false_and, and_false, eq_self]
        refine hY _ ?_
        simp only [forall_eq, true_implies, false_implies, implies_true, not_true_eq_false, not_false_eq_true, and_true, true_and, and_self, true_or, or_true, false_or, or_false, false_and, and_false, eq_self]
        exact hp
    · refine ⟨1, ct, ch', st', en', sn', nw', bf', ve', Or.inr (Or.inl rfl), R', fun _ => h1 rfl, fun q => absurd q (by decide), fun post hp => ?_, fun post hp => ?_⟩
      · simp (disch := omega) only [wpX_loadUncounted, nu_01, nu_40, nu_30, nu_20, nu_160, Int32.add_zero, Nat.reduceAdd, nu_m16, nu_16m, nu_m4, nu_4m, nu_m3, nu_3m, nu_m2, nu_2m, nI_1, nu_p2, nu_p3, nu_16p, nu_2p, nI_add, nu_cl, nu_in, Nat.add_zero, nu_l0, nu_l1, nu_l2, nu_l3, nu_l4, nu_i0_5, nu_i1_5, nu_i2_5, nu_i0_3, nu_i1_3, nu_i2_3, nu_n0, nu_n1, nu_na0, nu_na1, c, forall_eq, true_implies, false_implies, implies_true, not_true_eq_false, not_false_eq_true, and_true, true_and, and_self, true_or, or_true, false_or, or_false, false_and, and_false, eq_self]
        refine hX _ ?_
        simp only [nu_k10, forall_eq, true_implies, false_implies, implies_true, not_true_eq_false, not_false_eq_true, and_true, true_and, and_self, true_or, or_true, false_or, or_false, false_and, and_false, eq_self]
        exact hp
      · simp (disch := omega) only [wpY_load, nu_01, nu_40, nu_30, nu_20, nu_160, Int32.add_zero, Nat.reduceAdd, nu_m16, nu_16m, nu_m4, nu_4m, nu_m3, nu_3m, nu_m2, nu_2m, nI_1, nu_p2, nu_p3, nu_16p, nu_2p, nI_add, nu_cl, nu_in, Nat.add_zero, nu_l0, nu_l1, nu_l2, nu_l3, nu_l4, nu_i0_5, nu_i1_5, nu_i2_5, nu_i0_3, nu_i1_3, nu_i2_3, nu_n0, nu_n1, nu_na0, nu_na1, c, forall_eq, true_implies, false_implies, implies_true, not_true_eq_false, not_false_eq_true, and_true, true_and, and_self, true_or, or_true, false_or, or_false, false_and, and_false, eq_self]
        refine hY _ ?_
        simp only [nu_k10, forall_eq, true_implies, false_implies, implies_true, not_true_eq_false, not_false_eq_true, and_true, true_and, and_self, true_or, or_true, false_or, or_false, false_and, and_false, eq_self]
        exact hp
  · refine ⟨0, upd ct 1 (ct 1 + 1), ch, _, _, _, _, _, _, Or.inl rfl, mg_R (s := s) (k := k) R hk, fun _ => rfl, fun q => absurd q (by decide), fun post hp => ?_, fun post hp => ?_⟩
    · simp (disch := omega) only [wpX_loadUncounted, nu_01, nu_40, nu_30, nu_20, nu_160, Int32.add_zero, Nat.reduceAdd, nu_m16, nu_16m, nu_m4, nu_4m, nu_m3, nu_3m, nu_m2, nu_2m, nI_1, nu_p2, nu_p3, nu_16p, nu_2p, nI_add, nu_cl, nu_in, Nat.add_zero, nu_l0, nu_l1, nu_l2, nu_l3, nu_l4, nu_i0_5, nu_i1_5, nu_i2_5, nu_i0_3, nu_i1_3, nu_i2_3, nu_n0, nu_n1, nu_na0, nu_na1, c, forall_eq, true_implies, false_implies, implies_true, not_true_eq_false, not_false_eq_true, and_true, true_and, and_self, true_or, or_true, false_or, or_false, false_and, and_false, eq_self]
      exact vx_mg hs hk hp
    · simp (disch := omega) only [wpY_load, nu_01, nu_40, nu_30, nu_20, nu_160, Int32.add_zero, Nat.reduceAdd, nu_m16, nu_16m, nu_m4, nu_4m, nu_m3, nu_3m, nu_m2, nu_2m, nI_1, nu_p2, nu_p3, nu_16p, nu_2p, nI_add, nu_cl, nu_in, Nat.add_zero, nu_l0, nu_l1, nu_l2, nu_l3, nu_l4, nu_i0_5, nu_i1_5, nu_i2_5, nu_i0_3, nu_i1_3, nu_i2_3, nu_n0, nu_n1, nu_na0, nu_na1, c, forall_eq, true_implies, false_implies, implies_true, not_true_eq_false, not_false_eq_true, and_true, true_and, and_self, true_or, or_true, false_or, or_false, false_and, and_false, eq_self]
      exact vy_mg hs hk hC hp
theorem al_S {s k : Nat} (hs : s < 3) (hk : k < 16) (R : re_R md bk ch lk st rt rc wt wc en sn th ro nw bf ve) :
    ∃ (b : Int32) (ct' ch' st' en' sn' nw' bf' ve' : Nat → Int32), (b = 0 ∨ b = 1) ∧ re_R md bk ch' lk st' rt rc wt wc en' sn' th ro nw' bf' ve' ∧
      (b = 1 → st' = upd st (16 * s + k) 4) ∧ (b = 0 → st' = st) ∧
      (∀ post : Int32 → SX → Prop, post b (sc, fc, cc, rq, md, bk, ct', rt, rc, lk, wt, wc, ch', st', en', sn', sk, sr, fr, lf, cr, rr) → wpX_loadAlone post (sc, fc, cc, rq, md, bk, ct, rt, rc, lk, wt, wc, ch, st, en, sn, sk, sr, fr, lf, cr, rr) (nI s) (nI k)) ∧
      (∀ post : Int32 → SY → Prop, post b (sc, fc, th, ch', ro, lk, st', nw', bf', ve', bk, md, yl, la, od, sm, fr, ct') → wpY_loadAlone post (sc, fc, th, ch, ro, lk, st, nw, bf, ve, bk, md, yl, la, od, sm, fr, ct) (nI s) (nI k)) := by
  obtain ⟨q, ct', ch', st', en', sn', nw', bf', ve', hq, R', h1, h2, hX, hY⟩ := ld_S sc fc cc rq ct sk sr fr lf cr rr yl la od sm hs hk R
  rcases hq with rfl | rfl | rfl
  · refine ⟨1, ct', ch', st', en', sn', nw', bf', ve', Or.inr rfl, R', fun _ => h1 (by decide), fun z => absurd z (by decide), fun post hp => ?_, fun post hp => ?_⟩
    · simp only [wpX_loadAlone]
      refine hX _ ?_
      simp only [wX_loadAlone_21, nu_k02, forall_eq, true_implies, false_implies, implies_true, not_true_eq_false, not_false_eq_true, and_true, true_and, and_self, true_or, or_true, false_or, or_false, false_and, and_false, eq_self]
      exact hp
    · simp only [wpY_loadAlone]
      refine hY _ ?_
      simp only [wY_loadAlone_21, nu_00, nu_2z, forall_eq, true_implies, false_implies, implies_true, not_true_eq_false, not_false_eq_true, and_true, true_and, and_self, true_or, or_true, false_or, or_false, false_and, and_false, eq_self]
      exact hp
  · refine ⟨1, upd ct' 0 (ct' 0 + 1), ch', st', en', sn', nw', bf', ve', Or.inr rfl, R', fun _ => h1 (by decide), fun z => absurd z (by decide), fun post hp => ?_, fun post hp => ?_⟩
    · simp only [wpX_loadAlone]
      refine hX _ ?_
      simp only [wX_loadAlone_21, nu_k12, nu_k10, forall_eq, true_implies, false_implies, implies_true, not_true_eq_false, not_false_eq_true, and_true, true_and, and_self, true_or, or_true, false_or, or_false, false_and, and_false, eq_self]
      exact hp
    · simp only [wpY_loadAlone]
      refine hY _ ?_
      simp only [wY_loadAlone_21, nu_10, nu_21, forall_eq, true_implies, false_implies, implies_true, not_true_eq_false, not_false_eq_true, and_true, true_and, and_self, true_or, or_true, false_or, or_false, false_and, and_false, eq_self]
      exact hp
  · refine ⟨0, upd ct' 0 (ct' 0 + 1), ch', st', en', sn', nw', bf', ve', Or.inl rfl, R', fun z => absurd z (by decide), fun _ => h2 rfl, fun post hp => ?_, fun post hp => ?_⟩
    · simp only [wpX_loadAlone]
      refine hX _ ?_
      simp only [wX_loadAlone_21, nu_k20, forall_eq, true_implies, false_implies, implies_true, not_true_eq_false, not_false_eq_true, and_true, true_and, and_self, true_or, or_true, false_or, or_false, false_and, and_false, eq_self]
      exact hp
    · simp only [wpY_loadAlone]
      refine hY _ ?_
      simp only [wY_loadAlone_21, nu_2z, nu_22, forall_eq, true_implies, false_implies, implies_true, not_true_eq_false, not_false_eq_true, and_true, true_and, and_self, true_or, or_true, false_or, or_false, false_and, and_false, eq_self]
      exact hp
end
end
section
section
variable {md bk rt rc lk wt wc th ro : Nat → Int32}
variable (sc fc cc rq : Int32) (sk sr fr lf cr rr yl la od sm : Nat → Int32)
/-- the batch of a TOUCH, in lockstep -/
theorem tl_S {s : Nat} {q : Int32} (hs : s < 3) (hq : q = 0 ∨ q = 1) (hm : ¬ md 2 = 0) : ∀ (d i : Nat), i + d = 16 → ∀ (m : Nat) (a : Int32), m ≤ 2 → (a = 0 ∨ a = 1) → ∀ (ct ch st en sn nw bf ve : Nat → Int32), re_R md bk ch lk st rt rc wt wc en sn th ro nw bf ve →
    ∃ (a' : Int32) (ct' ch' st' en' sn' nw' bf' ve' : Nat → Int32), (a' = 0 ∨ a' = 1) ∧ re_R md bk ch' lk st' rt rc wt wc en' sn' th ro nw' bf' ve' ∧ (∀ e, st e = 4 → st' e = 4) ∧
      (∀ (post : Int32 → SX → Prop) (n : Nat), d < n → wX_touch_105 post q a' sc fc cc rq md bk ct' rt rc lk wt wc ch' st' en' sn' sk sr fr lf cr rr → wX_touch_42 post (nI s) q n a (nI (2 - m)) (nI i) sc fc cc rq md bk ct rt rc lk wt wc ch st en sn sk sr fr lf cr rr) ∧
      (∀ (post : Int32 → SY → Prop) (n : Nat), d < n → wY_touch_96 post q a' sc fc th ch' ro lk st' nw' bf' ve' bk md yl la od sm fr ct' → wY_touch_24 post (nI s) q n a (nI m) (nI i) sc fc th ch ro lk st nw bf ve bk md yl la od sm fr ct) := by
  have hq2 : ¬ 2 ≤ q := by rcases hq with rfl | rfl <;> decide
  intro d
  induction d with
  | zero =>
    intro i hi m a hm2 ha ct ch st en sn nw bf ve R
    refine ⟨a, ct, ch, st, en, sn, nw, bf, ve, ha, R, fun _ h => h, fun post n hn hp => ?_, fun post n hn hp => ?_⟩
    · obtain ⟨n, rfl⟩ : ∃ n', n = n' + 1 := ⟨n - 1, by omega⟩
      simp (disch := omega) only [wX_touch_42, nu_a16, forall_eq, true_implies, false_implies, implies_true, not_true_eq_false, not_false_eq_true, and_true, true_and, and_self, true_or, or_true, false_or, or_false, false_and, and_false, eq_self]
      exact hp
    · obtain ⟨n, rfl⟩ : ∃ n', n = n' + 1 := ⟨n - 1, by omega⟩
      simp (disch := omega) only [wY_touch_24, nu_a16, forall_eq, true_implies, false_implies, implies_true, not_true_eq_false, not_false_eq_true, and_true, true_and, and_self, true_or, or_true, false_or, or_false, false_and, and_false, eq_self]
      exact hp
  | succ d ih =>
    intro i hi m a hm2 ha ct ch st en sn nw bf ve R
    by_cases m2 : m = 2
    · subst m2
      refine ⟨a, ct, ch, st, en, sn, nw, bf, ve, ha, R, fun _ h => h, fun post n hn hp => ?_, fun post n hn hp => ?_⟩
      · obtain ⟨n, rfl⟩ : ∃ n', n = n' + 1 := ⟨n - 1, by omega⟩
        simp (disch := omega) only [wX_touch_42, nu_b16, Nat.sub_self, nu_p0, forall_eq, true_implies, false_implies, implies_true, not_true_eq_false, not_false_eq_true, and_true, true_and, and_self, true_or, or_true, false_or, or_false, false_and, and_false, eq_self]
        exact hp
      · obtain ⟨n, rfl⟩ : ∃ n', n = n' + 1 := ⟨n - 1, by omega⟩
        simp (disch := omega) only [wY_touch_24, nu_b16, hq2, hm, nu_a2, forall_eq, true_implies, false_implies, implies_true, not_true_eq_false, not_false_eq_true, and_true, true_and, and_self, true_or, or_true, false_or, or_false, false_and, and_false, eq_self]
        exact hp
    · by_cases h3 : st (16 * s + i) = 3
      · obtain ⟨r, ct1, ch1, st1, en1, sn1, nw1, bf1, ve1, hr, R1, f1, f2, hX, hY⟩ := ld_S sc fc cc rq ct sk sr fr lf cr rr yl la od sm hs (show i < 16 by omega) R
        obtain ⟨a2, ct2, ch2, st2, en2, sn2, nw2, bf2, ve2, ha2, R2, g, hX2, hY2⟩ := ih (i + 1) (by omega) (m + 1) (if r = 0 then a else 1) (by omega) (by split; exact ha; exact Or.inr rfl) ct1 ch1 st1 en1 sn1 nw1 bf1 ve1 R1
        refine ⟨a2, ct2, ch2, st2, en2, sn2, nw2, bf2, ve2, ha2, R2, fun e h => g e ?_, fun post n hn hp => ?_, fun post n hn hp => ?_⟩
        · by_cases z : r = 2
          · rw [f2 z]
            exact h
          · rw [f1 z]
            by_cases y : e = 16 * s + i
            · rw [y, pk_us]
            · rw [pk_un y]
              exact h
        · obtain ⟨n, rfl⟩ : ∃ n', n = n' + 1 := ⟨n - 1, by omega⟩
          have hk := hX2 post n (by omega) hp
          simp (disch := omega) only [wX_touch_42, nu_b16, nu_pn, nu_dec, nu_01, nu_40, nu_30, nu_20, nu_160, Int32.add_zero, Nat.reduceAdd, nu_m16, nu_16m, nu_m4, nu_4m, nu_m3, nu_3m, nu_m2, nu_2m, nI_1, nu_p2, nu_p3, nu_16p, nu_2p, nI_add, nu_cl, nu_in, Nat.add_zero, nu_l0, nu_l1, nu_l2, nu_l3, nu_l4, nu_i0_5, nu_i1_5, nu_i2_5, nu_i0_3, nu_i1_3, nu_i2_3, nu_n0, nu_n1, nu_na0, nu_na1, h3, forall_eq, true_implies, false_implies, implies_true, not_true_eq_false, not_false_eq_true, and_true, true_and, and_self, true_or, or_true, false_or, or_false, false_and, and_false, eq_self]
          refine hX _ ?_
          rcases hr with rfl | rfl | rfl
          · rw [if_pos rfl] at hk
            rcases ha with rfl | rfl
            · simp only [forall_eq, true_implies, false_implies, implies_true, not_true_eq_false, not_false_eq_true, and_true, true_and, and_self, true_or, or_true, false_or, or_false, false_and, and_false, eq_self]
              exact hk
            · simp only [nu_k10, forall_eq, true_implies, false_implies, implies_true, not_true_eq_false, not_false_eq_true, and_true, true_and, and_self, true_or, or_true, false_or, or_false, false_and, and_false, eq_self]
              exact hk
          · rw [if_neg (by decide)] at hk
            rcases ha with rfl | rfl
            · simp only [nu_k10, forall_eq, true_implies, false_implies, implies_true, not_true_eq_false, not_false_eq_true, and_true, true_and, and_self, true_or, or_true, false_or, or_false, false_and, and_false, eq_self]
              exact hk
            · simp only [nu_k10, forall_eq, true_implies, false_implies, implies_true, not_true_eq_false, not_false_eq_true, and_true, true_and, and_self, true_or, or_true, false_or, or_false, false_and, and_false, eq_self]
              exact hk
          · rw [if_neg (by decide)] at hk
            rcases ha with rfl | rfl
            · simp only [nu_k20, nu_k10, forall_eq, true_implies, false_implies, implies_true, not_true_eq_false, not_false_eq_true, and_true, true_and, and_self, true_or, or_true, false_or, or_false, false_and, and_false, eq_self]
              exact hk
            · simp only [nu_k20, nu_k10, forall_eq, true_implies, false_implies, implies_true, not_true_eq_false, not_false_eq_true, and_true, true_and, and_self, true_or, or_true, false_or, or_false, false_and, and_false, eq_self]
              exact hk
        · obtain ⟨n, rfl⟩ : ∃ n', n = n' + 1 := ⟨n - 1, by omega⟩
          have hk := hY2 post n (by omega) hp
          simp (disch := omega) only [wY_touch_24, nu_b16, hq2, hm, nu_b2, nu_01, nu_40, nu_30, nu_20, nu_160, Int32.add_zero, Nat.reduceAdd, nu_m16, nu_16m, nu_m4, nu_4m, nu_m3, nu_3m, nu_m2, nu_2m, nI_1, nu_p2, nu_p3, nu_16p, nu_2p, nI_add, nu_cl, nu_in, Nat.add_zero, nu_l0, nu_l1, nu_l2, nu_l3, nu_l4, nu_i0_5, nu_i1_5, nu_i2_5, nu_i0_3, nu_i1_3, nu_i2_3, nu_n0, nu_n1, nu_na0, nu_na1, h3, forall_eq, true_implies, false_implies, implies_true, not_true_eq_false, not_false_eq_true, and_true, true_and, and_self, true_or, or_true, false_or, or_false, false_and, and_false, eq_self]
          refine hY _ ?_
          rcases hr with rfl | rfl | rfl
          · rw [if_pos rfl] at hk
            simp only [nu_00, forall_eq, true_implies, false_implies, implies_true, not_true_eq_false, not_false_eq_true, and_true, true_and, and_self, true_or, or_true, false_or, or_false, false_and, and_false, eq_self]
            exact hk
          · rw [if_neg (by decide)] at hk
            simp only [nu_10, forall_eq, true_implies, false_implies, implies_true, not_true_eq_false, not_false_eq_true, and_true, true_and, and_self, true_or, or_true, false_or, or_false, false_and, and_false, eq_self]
            exact hk
          · rw [if_neg (by decide)] at hk
            simp only [nu_2z, forall_eq, true_implies, false_implies, implies_true, not_true_eq_false, not_false_eq_true, and_true, true_and, and_self, true_or, or_true, false_or, or_false, false_and, and_false, eq_self]
            exact hk
      · obtain ⟨a2, ct2, ch2, st2, en2, sn2, nw2, bf2, ve2, ha2, R2, g, hX2, hY2⟩ := ih (i + 1) (by omega) m a hm2 ha ct ch st en sn nw bf ve R
        refine ⟨a2, ct2, ch2, st2, en2, sn2, nw2, bf2, ve2, ha2, R2, g, fun post n hn hp => ?_, fun post n hn hp => ?_⟩
        · obtain ⟨n, rfl⟩ : ∃ n', n = n' + 1 := ⟨n - 1, by omega⟩
          simp (disch := omega) only [wX_touch_42, nu_b16, nu_pn, nu_01, nu_40, nu_30, nu_20, nu_160, Int32.add_zero, Nat.reduceAdd, nu_m16, nu_16m, nu_m4, nu_4m, nu_m3, nu_3m, nu_m2, nu_2m, nI_1, nu_p2, nu_p3, nu_16p, nu_2p, nI_add, nu_cl, nu_in, Nat.add_zero, nu_l0, nu_l1, nu_l2, nu_l3, nu_l4, nu_i0_5, nu_i1_5, nu_i2_5, nu_i0_3, nu_i1_3, nu_i2_3, nu_n0, nu_n1, nu_na0, nu_na1, h3, forall_eq, true_implies, false_implies, implies_true, not_true_eq_false, not_false_eq_true, and_true, true_and, and_self, true_or, or_true, false_or, or_false, false_and, and_false, eq_self]
          exact hX2 post n (by omega) hp
        · obtain ⟨n, rfl⟩ : ∃ n', n = n' + 1 := ⟨n - 1, by omega⟩
          simp (disch := omega) only [wY_touch_24, nu_b16, hq2, hm, nu_b2, nu_01, nu_40, nu_30, nu_20, nu_160, Int32.add_zero, Nat.reduceAdd, nu_m16, nu_16m, nu_m4, nu_4m, nu_m3, nu_3m, nu_m2, nu_2m, nI_1, nu_p2, nu_p3, nu_16p, nu_2p, nI_add, nu_cl, nu_in, Nat.add_zero, nu_l0, nu_l1, nu_l2, nu_l3, nu_l4, nu_i0_5, nu_i1_5, nu_i2_5, nu_i0_3, nu_i1_3, nu_i2_3, nu_n0, nu_n1, nu_na0, nu_na1, h3, forall_eq, true_implies, false_implies, implies_true, not_true_eq_false, not_false_eq_true, and_true, true_and, and_self, true_or, or_true, false_or, or_false, false_and, and_false, eq_self]
          exact hY2 post n (by omega) hp
end
section
variable {sc fc cc rq : Int32} {md bk ct rt rc lk wt wc ch st en sn sk sr fr lf cr rr : Nat → Int32}
theorem tx_E {post : Int32 → SX → Prop} {q a : Int32} {b : Int32} (hb : (q = 2 ∧ b = 0) ∨ (¬ q = 2 ∧ b = 1)) (ha : a = 0 ∨ a = 1) (hp : post b (sc, fc, cc, rq, md, bk, upd ct 0 (ct 0 + a), rt, rc, lk, wt, wc, ch, st, en, sn, sk, sr, fr, lf, cr, rr)) : wX_touch_105 post q a sc fc cc rq md bk ct rt rc lk wt wc ch st en sn sk sr fr lf cr rr := by
  rcases ha with rfl | rfl
  · rw [nu_0a] at hp
    rcases hb with ⟨h, rfl⟩ | ⟨h, rfl⟩
    · simp only [wX_touch_105, wX_touch_120, h, forall_eq, true_implies, false_implies, implies_true, not_true_eq_false, not_false_eq_true, and_true, true_and, and_self, true_or, or_true, false_or, or_false, false_and, and_false, eq_self]
      exact hp
    · simp only [wX_touch_105, wX_touch_120, h, forall_eq, true_implies, false_implies, implies_true, not_true_eq_false, not_false_eq_true, and_true, true_and, and_self, true_or, or_true, false_or, or_false, false_and, and_false, eq_self]
      exact hp
  · rcases hb with ⟨h, rfl⟩ | ⟨h, rfl⟩
    · simp only [wX_touch_105, wX_touch_120, h, nu_k10, forall_eq, true_implies, false_implies, implies_true, not_true_eq_false, not_false_eq_true, and_true, true_and, and_self, true_or, or_true, false_or, or_false, false_and, and_false, eq_self]
      exact hp
    · simp only [wX_touch_105, wX_touch_120, h, nu_k10, forall_eq, true_implies, false_implies, implies_true, not_true_eq_false, not_false_eq_true, and_true, true_and, and_self, true_or, or_true, false_or, or_false, false_and, and_false, eq_self]
      exact hp
end
section
variable {md bk rt rc lk wt wc ch st en sn th ro nw bf ve : Nat → Int32}
variable (sc fc cc rq : Int32) (ct sk sr fr lf cr rr yl la od sm : Nat → Int32)
theorem to_S {s k : Nat} (hs : s < 3) (hk : k < 16) (R : re_R md bk ch lk st rt rc wt wc en sn th ro nw bf ve) :
    ∃ (b : Int32) (ct' ch' st' en' sn' nw' bf' ve' : Nat → Int32), (b = 0 ∨ b = 1) ∧ re_R md bk ch' lk st' rt rc wt wc en' sn' th ro nw' bf' ve' ∧
      (b = 1 → st' (16 * s + k) = 4) ∧
      (∀ post : Int32 → SX → Prop, post b (sc, fc, cc, rq, md, bk, ct', rt, rc, lk, wt, wc, ch', st', en', sn', sk, sr, fr, lf, cr, rr) → wpX_touch post (sc, fc, cc, rq, md, bk, ct, rt, rc, lk, wt, wc, ch, st, en, sn, sk, sr, fr, lf, cr, rr) (nI s) (nI k)) ∧
      (∀ post : Int32 → SY → Prop, post b (sc, fc, th, ch', ro, lk, st', nw', bf', ve', bk, md, yl, la, od, sm, fr, ct') → wpY_touch post (sc, fc, th, ch, ro, lk, st, nw, bf, ve, bk, md, yl, la, od, sm, fr, ct) (nI s) (nI k)) := by
  obtain ⟨q, ct1, ch1, st1, en1, sn1, nw1, bf1, ve1, hq, R1, h1, h2, hX, hY⟩ := ld_S sc fc cc rq ct sk sr fr lf cr rr yl la od sm hs hk R
  by_cases q2 : q = 2
  · subst q2
    refine ⟨0, upd ct1 0 (ct1 0 + 1), ch1, st1, en1, sn1, nw1, bf1, ve1, Or.inl rfl, R1, fun z => absurd z (by decide), fun post hp => ?_, fun post hp => ?_⟩
    · simp only [wpX_touch]
      refine hX _ ?_
      simp only [wX_touch_16, nu_k20, forall_eq, true_implies, false_implies, implies_true, not_true_eq_false, not_false_eq_true, and_true, true_and, and_self, true_or, or_true, false_or, or_false, false_and, and_false, eq_self]
      refine ⟨1, ?_⟩
      simp only [wX_touch_42, nu_160, nu_00, forall_eq, true_implies, false_implies, implies_true, not_true_eq_false, not_false_eq_true, and_true, true_and, and_self, true_or, or_true, false_or, or_false, false_and, and_false, eq_self]
      exact tx_E (Or.inl ⟨rfl, rfl⟩) (Or.inr rfl) hp
    · simp only [wpY_touch]
      refine hY _ ?_
      simp only [nu_2z, forall_eq, true_implies, false_implies, implies_true, not_true_eq_false, not_false_eq_true, and_true, true_and, and_self, true_or, or_true, false_or, or_false, false_and, and_false, eq_self]
      refine ⟨1, ?_⟩
      simp only [wY_touch_24, wY_touch_96, nu_160, nu_22, forall_eq, true_implies, false_implies, implies_true, not_true_eq_false, not_false_eq_true, and_true, true_and, and_self, true_or, or_true, false_or, or_false, false_and, and_false, eq_self]
      exact hp
  · have hq' : q = 0 ∨ q = 1 := by
      rcases hq with z | z | z
      · exact Or.inl z
      · exact Or.inr z
      · exact absurd z q2
    have hq2 : ¬ 2 ≤ q := by rcases hq' with rfl | rfl <;> decide
    have ha : (if q = 0 then (0 : Int32) else 1) = 0 ∨ (if q = 0 then (0 : Int32) else 1) = 1 := by
      split
      · exact Or.inl rfl
      · exact Or.inr rfl
    have h4 : st1 (16 * s + k) = 4 := by rw [h1 q2, pk_us]
    by_cases hm : md 2 = 0
    · refine ⟨1, upd ct1 0 (ct1 0 + if q = 0 then 0 else 1), ch1, st1, en1, sn1, nw1, bf1, ve1, Or.inr rfl, R1, fun _ => h4, fun post hp => ?_, fun post hp => ?_⟩
      · simp only [wpX_touch]
        refine hX _ ?_
        rcases hq' with rfl | rfl
        · simp only [wX_touch_16, nu_k02, hm, forall_eq, true_implies, false_implies, implies_true, not_true_eq_false, not_false_eq_true, and_true, true_and, and_self, true_or, or_true, false_or, or_false, false_and, and_false, eq_self]
          refine ⟨1, ?_⟩
          simp only [wX_touch_42, nu_160, nu_00, forall_eq, true_implies, false_implies, implies_true, not_true_eq_false, not_false_eq_true, and_true, true_and, and_self, true_or, or_true, false_or, or_false, false_and, and_false, eq_self]
          exact tx_E (Or.inr ⟨by decide, rfl⟩) (Or.inl rfl) hp
        · simp only [wX_touch_16, nu_k10, nu_k12, hm, forall_eq, true_implies, false_implies, implies_true, not_true_eq_false, not_false_eq_true, and_true, true_and, and_self, true_or, or_true, false_or, or_false, false_and, and_false, eq_self]
          refine ⟨1, ?_⟩
          simp only [wX_touch_42, nu_160, nu_00, forall_eq, true_implies, false_implies, implies_true, not_true_eq_false, not_false_eq_true, and_true, true_and, and_self, true_or, or_true, false_or, or_false, false_and, and_false, eq_self]
          exact tx_E (Or.inr ⟨by decide, rfl⟩) (Or.inr rfl) hp
      · simp only [wpY_touch]
        refine hY _ ?_
        rcases hq' with rfl | rfl
        · simp only [nu_00, forall_eq, true_implies, false_implies, implies_true, not_true_eq_false, not_false_eq_true, and_true, true_and, and_self, true_or, or_true, false_or, or_false, false_and, and_false, eq_self]
          refine ⟨1, ?_⟩
          simp only [wY_touch_24, wY_touch_96, nu_160, nu_2z, hm, forall_eq, true_implies, false_implies, implies_true, not_true_eq_false, not_false_eq_true, and_true, true_and, and_self, true_or, or_true, false_or, or_false, false_and, and_false, eq_self]
          exact hp
        · simp only [nu_10, forall_eq, true_implies, false_implies, implies_true, not_true_eq_false, not_false_eq_true, and_true, true_and, and_self, true_or, or_true, false_or, or_false, false_and, and_false, eq_self]
          refine ⟨1, ?_⟩
          simp only [wY_touch_24, wY_touch_96, nu_160, nu_21, hm, forall_eq, true_implies, false_implies, implies_true, not_true_eq_false, not_false_eq_true, and_true, true_and, and_self, true_or, or_true, false_or, or_false, false_and, and_false, eq_self]
          exact hp
    · obtain ⟨a2, ct2, ch2, st2, en2, sn2, nw2, bf2, ve2, ha2, R2, g, hX2, hY2⟩ := tl_S sc fc cc rq sk sr fr lf cr rr yl la od sm hs hq' hm 16 0 rfl 0 (if q = 0 then 0 else 1) (by decide) ha ct1 ch1 st1 en1 sn1 nw1 bf1 ve1 R1
      refine ⟨1, upd ct2 0 (ct2 0 + a2), ch2, st2, en2, sn2, nw2, bf2, ve2, Or.inr rfl, R2, fun _ => g _ h4, fun post hp => ?_, fun post hp => ?_⟩
      · simp only [wpX_touch]
        refine hX _ ?_
        have hk := hX2 post 17 (by decide) (tx_E (Or.inr ⟨q2, rfl⟩) ha2 hp)
        rcases hq' with rfl | rfl
        · simp only [wX_touch_16, nu_k02, hm, forall_eq, true_implies, false_implies, implies_true, not_true_eq_false, not_false_eq_true, and_true, true_and, and_self, true_or, or_true, false_or, or_false, false_and, and_false, eq_self]
          exact ⟨17, hk⟩
        · simp only [wX_touch_16, nu_k10, nu_k12, hm, forall_eq, true_implies, false_implies, implies_true, not_true_eq_false, not_false_eq_true, and_true, true_and, and_self, true_or, or_true, false_or, or_false, false_and, and_false, eq_self]
          exact ⟨17, hk⟩
      · simp only [wpY_touch]
        refine hY _ ?_
        have hp' : wY_touch_96 post q a2 sc fc th ch2 ro lk st2 nw2 bf2 ve2 bk md yl la od sm fr ct2 := by
          simp only [wY_touch_96, hq2, forall_eq, true_implies, false_implies, implies_true, not_true_eq_false, not_false_eq_true, and_true, true_and, and_self, true_or, or_true, false_or, or_false, false_and, and_false, eq_self]
          exact hp
        have hk := hY2 post 17 (by decide) hp'
        rcases hq' with rfl | rfl
        · simp only [nu_00, forall_eq, true_implies, false_implies, implies_true, not_true_eq_false, not_false_eq_true, and_true, true_and, and_self, true_or, or_true, false_or, or_false, false_and, and_false, eq_self]
          exact ⟨17, hk⟩
        · simp only [nu_10, forall_eq, true_implies, false_implies, implies_true, not_true_eq_false, not_false_eq_true, and_true, true_and, and_self, true_or, or_true, false_or, or_false, false_and, and_false, eq_self]
          exact ⟨17, hk⟩
end
end
section
def i_Rel (k : Nat) (u : SX) (v : SY) : Prop :=
  ∃ (n m : Nat) (cc rq : Int32) (md bk ct rt rc lk wt wc ch st en sn sk sr fr lf cr rr th ro nw bf ve yl la od sm : Nat → Int32),
    u = (nI n, nI m, cc, rq, md, bk, ct, rt, rc, lk, wt, wc, ch, st, en, sn, sk, sr, fr, lf, cr, rr) ∧ v = (nI n, nI m, th, ch, ro, lk, st, nw, bf, ve, bk, md, yl, la, od, sm, fr, ct) ∧ n ≤ 32 ∧ m ≤ 16 ∧ re_R md bk ch lk st rt rc wt wc en sn th ro nw bf ve ∧ re_P n sk sr sm
theorem i_up {k : Nat} {u : SX} {v : SY} (h : i_Rel k u v) : i_Rel (k + 6) u v := h
theorem ir_mk {k n m : Nat} {cc rq : Int32} {md bk ct rt rc lk wt wc ch st en sn sk sr fr lf cr rr th ro nw bf ve yl la od sm : Nat → Int32} (hn : n ≤ 32) (hm : m ≤ 16) (R : re_R md bk ch lk st rt rc wt wc en sn th ro nw bf ve) (hP : re_P n sk sr sm) :
    i_Rel k (nI n, nI m, cc, rq, md, bk, ct, rt, rc, lk, wt, wc, ch, st, en, sn, sk, sr, fr, lf, cr, rr) (nI n, nI m, th, ch, ro, lk, st, nw, bf, ve, bk, md, yl, la, od, sm, fr, ct) :=
  ⟨n, m, cc, rq, md, bk, ct, rt, rc, lk, wt, wc, ch, st, en, sn, sk, sr, fr, lf, cr, rr, th, ro, nw, bf, ve, yl, la, od, sm, rfl, rfl, hn, hm, R, hP⟩
/-- both sides end, with one answer, in related states -/
def sm_S {α : Type} (PX : (α → SX → Prop) → Prop) (PY : (α → SY → Prop) → Prop) : Prop :=
  ∃ (r : α) (u : SX) (v : SY), i_Rel 0 u v ∧ (∀ post : α → SX → Prop, post r u → PX post) ∧ (∀ post : α → SY → Prop, post r v → PY post)
theorem sm_o {α : Type} {PX : (α → SX → Prop) → Prop} {PY : (α → SY → Prop) → Prop} (h : sm_S PX PY) (k : Nat) : PX (fun r u' => PY (fun r' v' => r' = r ∧ i_Rel (k + 6) u' v')) := by
  obtain ⟨r, u, v, R, hX, hY⟩ := h
  exact hX _ (hY _ ⟨rfl, R⟩)
theorem mo_S {u : SX} {v : SY} (I : i_Rel 0 u v) (v1 v2 : Int32) (h2 : v2 = 0 ∨ v2 = 1) : sm_S (fun post => wpX_mode post u v1 v2) (fun post => wpY_mode post v v1 v2) := by
  obtain ⟨n, m, cc, rq, md, bk, ct, rt, rc, lk, wt, wc, ch, st, en, sn, sk, sr, fr, lf, cr, rr, th, ro, nw, bf, ve, yl, la, od, sm, rfl, rfl, hn, hm, R, hP⟩ := I
  by_cases h0 : v1 < 0
  · refine ⟨0, (nI n, nI m, cc, rq, md, bk, ct, rt, rc, lk, wt, wc, ch, st, en, sn, sk, sr, fr, lf, cr, rr), (nI n, nI m, th, ch, ro, lk, st, nw, bf, ve, bk, md, yl, la, od, sm, fr, ct), ir_mk hn hm (R) hP, fun post hp => ?_, fun post hp => ?_⟩
    · simp (disch := omega) only [wpX_mode, h0, nu_01, nu_40, nu_30, nu_20, nu_160, Int32.add_zero, Nat.reduceAdd, nu_m16, nu_16m, nu_m4, nu_4m, nu_m3, nu_3m, nu_m2, nu_2m, nI_1, nu_p2, nu_p3, nu_16p, nu_2p, nI_add, nu_cl, nu_in, Nat.add_zero, nu_l0, nu_l1, nu_l2, nu_l3, nu_l4, nu_i0_5, nu_i1_5, nu_i2_5, nu_i0_3, nu_i1_3, nu_i2_3, nu_n0, nu_n1, nu_na0, nu_na1, forall_eq, true_implies, false_implies, implies_true, not_true_eq_false, not_false_eq_true, and_true, true_and, and_self, true_or, or_true, false_or, or_false, false_and, and_false, eq_self]
      exact hp
    · simp (disch := omega) only [wpY_mode, wpY_in, h0, nu_01, nu_40, nu_30, nu_20, nu_160, Int32.add_zero, Nat.reduceAdd, nu_m16, nu_16m, nu_m4, nu_4m, nu_m3, nu_3m, nu_m2, nu_2m, nI_1, nu_p2, nu_p3, nu_16p, nu_2p, nI_add, nu_cl, nu_in, Nat.add_zero, nu_l0, nu_l1, nu_l2, nu_l3, nu_l4, nu_i0_5, nu_i1_5, nu_i2_5, nu_i0_3, nu_i1_3, nu_i2_3, nu_n0, nu_n1, nu_na0, nu_na1, forall_eq, true_implies, false_implies, implies_true, not_true_eq_false, not_false_eq_true, and_true, true_and, and_self, true_or, or_true, false_or, or_false, false_and, and_false, eq_self]
      exact hp
  · obtain ⟨j, hj, rfl⟩ := nI_of h0
    have e2 := nu_nb h2
    by_cases h3 : j < 3
    · refine ⟨1, (nI n, nI m, cc, rq, upd md j v2, bk, ct, rt, rc, lk, wt, wc, ch, st, en, sn, sk, sr, fr, lf, cr, rr), (nI n, nI m, th, ch, ro, lk, st, nw, bf, ve, bk, upd md j v2, yl, la, od, sm, fr, ct), ir_mk hn hm (md_R R h2) hP, fun post hp => ?_, fun post hp => ?_⟩
      · simp (disch := omega) only [wpX_mode, e2, nu_a1, nu_b1, nu_c1, nu_d1, nu_e1, nu_f1, nu_g1, nu_h1, nu_a2, nu_b2, nu_c2, nu_d2, nu_e2, nu_f2, nu_g2, nu_h2, nu_a3, nu_b3, nu_c3, nu_d3, nu_e3, nu_f3, nu_g3, nu_h3, nu_a4, nu_b4, nu_c4, nu_d4, nu_e4, nu_f4, nu_g4, nu_h4, nu_a5, nu_b5, nu_c5, nu_d5, nu_e5, nu_f5, nu_g5, nu_h5, nu_a6, nu_b6, nu_c6, nu_d6, nu_e6, nu_f6, nu_g6, nu_h6, nu_a7, nu_b7, nu_c7, nu_d7, nu_e7, nu_f7, nu_g7, nu_h7, nu_a16, nu_b16, nu_c16, nu_d16, nu_e16, nu_f16, nu_g16, nu_h16, nu_neg, nu_pos, nu_01, nu_40, nu_30, nu_20, nu_160, Int32.add_zero, Nat.reduceAdd, nu_m16, nu_16m, nu_m4, nu_4m, nu_m3, nu_3m, nu_m2, nu_2m, nI_1, nu_p2, nu_p3, nu_16p, nu_2p, nI_add, nu_cl, nu_in, Nat.add_zero, nu_l0, nu_l1, nu_l2, nu_l3, nu_l4, nu_i0_5, nu_i1_5, nu_i2_5, nu_i0_3, nu_i1_3, nu_i2_3, nu_n0, nu_n1, nu_na0, nu_na1, forall_eq, true_implies, false_implies, implies_true, not_true_eq_false, not_false_eq_true, and_true, true_and, and_self, true_or, or_true, false_or, or_false, false_and, and_false, eq_self]
        exact hp
      · simp (disch := omega) only [wpY_mode, wpY_in, e2, nu_k10, nu_a1, nu_b1, nu_c1, nu_d1, nu_e1, nu_f1, nu_g1, nu_h1, nu_a2, nu_b2, nu_c2, nu_d2, nu_e2, nu_f2, nu_g2, nu_h2, nu_a3, nu_b3, nu_c3, nu_d3, nu_e3, nu_f3, nu_g3, nu_h3, nu_a4, nu_b4, nu_c4, nu_d4, nu_e4, nu_f4, nu_g4, nu_h4, nu_a5, nu_b5, nu_c5, nu_d5, nu_e5, nu_f5, nu_g5, nu_h5, nu_a6, nu_b6, nu_c6, nu_d6, nu_e6, nu_f6, nu_g6, nu_h6, nu_a7, nu_b7, nu_c7, nu_d7, nu_e7, nu_f7, nu_g7, nu_h7, nu_a16, nu_b16, nu_c16, nu_d16, nu_e16, nu_f16, nu_g16, nu_h16, nu_neg, nu_pos, nu_01, nu_40, nu_30, nu_20, nu_160, Int32.add_zero, Nat.reduceAdd, nu_m16, nu_16m, nu_m4, nu_4m, nu_m3, nu_3m, nu_m2, nu_2m, nI_1, nu_p2, nu_p3, nu_16p, nu_2p, nI_add, nu_cl, nu_in, Nat.add_zero, nu_l0, nu_l1, nu_l2, nu_l3, nu_l4, nu_i0_5, nu_i1_5, nu_i2_5, nu_i0_3, nu_i1_3, nu_i2_3, nu_n0, nu_n1, nu_na0, nu_na1, forall_eq, true_implies, false_implies, implies_true, not_true_eq_false, not_false_eq_true, and_true, true_and, and_self, true_or, or_true, false_or, or_false, false_and, and_false, eq_self]
        exact hp
    · refine ⟨0, (nI n, nI m, cc, rq, md, bk, ct, rt, rc, lk, wt, wc, ch, st, en, sn, sk, sr, fr, lf, cr, rr), (nI n, nI m, th, ch, ro, lk, st, nw, bf, ve, bk, md, yl, la, od, sm, fr, ct), ir_mk hn hm (R) hP, fun post hp => ?_, fun post hp => ?_⟩
      · simp (disch := omega) only [wpX_mode, nu_a1, nu_b1, nu_c1, nu_d1, nu_e1, nu_f1, nu_g1, nu_h1, nu_a2, nu_b2, nu_c2, nu_d2, nu_e2, nu_f2, nu_g2, nu_h2, nu_a3, nu_b3, nu_c3, nu_d3, nu_e3, nu_f3, nu_g3, nu_h3, nu_a4, nu_b4, nu_c4, nu_d4, nu_e4, nu_f4, nu_g4, nu_h4, nu_a5, nu_b5, nu_c5, nu_d5, nu_e5, nu_f5, nu_g5, nu_h5, nu_a6, nu_b6, nu_c6, nu_d6, nu_e6, nu_f6, nu_g6, nu_h6, nu_a7, nu_b7, nu_c7, nu_d7, nu_e7, nu_f7, nu_g7, nu_h7, nu_a16, nu_b16, nu_c16, nu_d16, nu_e16, nu_f16, nu_g16, nu_h16, nu_neg, nu_pos, nu_01, nu_40, nu_30, nu_20, nu_160, Int32.add_zero, Nat.reduceAdd, nu_m16, nu_16m, nu_m4, nu_4m, nu_m3, nu_3m, nu_m2, nu_2m, nI_1, nu_p2, nu_p3, nu_16p, nu_2p, nI_add, nu_cl, nu_in, Nat.add_zero, nu_l0, nu_l1, nu_l2, nu_l3, nu_l4, nu_i0_5, nu_i1_5, nu_i2_5, nu_i0_3, nu_i1_3, nu_i2_3, nu_n0, nu_n1, nu_na0, nu_na1, forall_eq, true_implies, false_implies, implies_true, not_true_eq_false, not_false_eq_true, and_true, true_and, and_self, true_or, or_true, false_or, or_false, false_and, and_false, eq_self]
        exact hp
      · simp (disch := omega) only [wpY_mode, wpY_in, nu_k10, nu_a1, nu_b1, nu_c1, nu_d1, nu_e1, nu_f1, nu_g1, nu_h1, nu_a2, nu_b2, nu_c2, nu_d2, nu_e2, nu_f2, nu_g2, nu_h2, nu_a3, nu_b3, nu_c3, nu_d3, nu_e3, nu_f3, nu_g3, nu_h3, nu_a4, nu_b4, nu_c4, nu_d4, nu_e4, nu_f4, nu_g4, nu_h4, nu_a5, nu_b5, nu_c5, nu_d5, nu_e5, nu_f5, nu_g5, nu_h5, nu_a6, nu_b6, nu_c6, nu_d6, nu_e6, nu_f6, nu_g6, nu_h6, nu_a7, nu_b7, nu_c7, nu_d7, nu_e7, nu_f7, nu_g7, nu_h7, nu_a16, nu_b16, nu_c16, nu_d16, nu_e16, nu_f16, nu_g16, nu_h16, nu_neg, nu_pos, nu_01, nu_40, nu_30, nu_20, nu_160, Int32.add_zero, Nat.reduceAdd, nu_m16, nu_16m, nu_m4, nu_4m, nu_m3, nu_3m, nu_m2, nu_2m, nI_1, nu_p2, nu_p3, nu_16p, nu_2p, nI_add, nu_cl, nu_in, Nat.add_zero, nu_l0, nu_l1, nu_l2, nu_l3, nu_l4, nu_i0_5, nu_i1_5, nu_i2_5, nu_i0_3, nu_i1_3, nu_i2_3, nu_n0, nu_n1, nu_na0, nu_na1, forall_eq, true_implies, false_implies, implies_true, not_true_eq_false, not_false_eq_true, and_true, true_and, and_self, true_or, or_true, false_or, or_false, false_and, and_false, eq_self]
        exact hp
theorem mk_S {u : SX} {v : SY} (I : i_Rel 0 u v) (v1 v2 v3 v4 v5 : Int32) : sm_S (fun post => wpX_make post u v1 v2 v3 v4 v5) (fun post => wpY_make post v v1 v2 v3 v4 v5) := by
  obtain ⟨n, m, cc, rq, md, bk, ct, rt, rc, lk, wt, wc, ch, st, en, sn, sk, sr, fr, lf, cr, rr, th, ro, nw, bf, ve, yl, la, od, sm, rfl, rfl, hn, hm, R, hP⟩ := I
  by_cases h : er_v bk v1 v2 = 0
  · obtain ⟨s, k, hs, hk, rfl, rfl, hb⟩ := er_0 h
    by_cases h0 : st (16 * s + k) = 0
    · by_cases hl : lk_v v5 = 0
      · refine ⟨(-1), (nI n, nI m, cc, rq, md, bk, ct, rt, rc, lk, wt, wc, ch, st, en, sn, sk, sr, fr, lf, cr, rr), (nI n, nI m, th, ch, ro, lk, st, nw, bf, ve, bk, md, yl, la, od, sm, fr, ct), ir_mk hn hm (R) hP, fun post hp => ?_, fun post hp => ?_⟩
        · simp (disch := omega) only [wpX_make, vx_err, vx_lnk, h, h0, hl, nu_01, nu_40, nu_30, nu_20, nu_160, Int32.add_zero, Nat.reduceAdd, nu_m16, nu_16m, nu_m4, nu_4m, nu_m3, nu_3m, nu_m2, nu_2m, nI_1, nu_p2, nu_p3, nu_16p, nu_2p, nI_add, nu_cl, nu_in, Nat.add_zero, nu_l0, nu_l1, nu_l2, nu_l3, nu_l4, nu_i0_5, nu_i1_5, nu_i2_5, nu_i0_3, nu_i1_3, nu_i2_3, nu_n0, nu_n1, nu_na0, nu_na1, forall_eq, true_implies, false_implies, implies_true, not_true_eq_false, not_false_eq_true, and_true, true_and, and_self, true_or, or_true, false_or, or_false, false_and, and_false, eq_self]
          exact hp
        · simp (disch := omega) only [wpY_make, vy_err, vy_lnk, h, h0, hl, nu_01, nu_40, nu_30, nu_20, nu_160, Int32.add_zero, Nat.reduceAdd, nu_m16, nu_16m, nu_m4, nu_4m, nu_m3, nu_3m, nu_m2, nu_2m, nI_1, nu_p2, nu_p3, nu_16p, nu_2p, nI_add, nu_cl, nu_in, Nat.add_zero, nu_l0, nu_l1, nu_l2, nu_l3, nu_l4, nu_i0_5, nu_i1_5, nu_i2_5, nu_i0_3, nu_i1_3, nu_i2_3, nu_n0, nu_n1, nu_na0, nu_na1, forall_eq, true_implies, false_implies, implies_true, not_true_eq_false, not_false_eq_true, and_true, true_and, and_self, true_or, or_true, false_or, or_false, false_and, and_false, eq_self]
          exact hp
      · refine ⟨0, (nI n, nI m, cc, rq, md, bk, ct, rt, rc, lk, wt, wc, ch, upd st (16 * s + k) 1, u3_f en (4 * (16 * s + k)) v3 v4 v5, sn, sk, sr, fr, lf, cr, rr), (nI n, nI m, th, ch, ro, lk, upd st (16 * s + k) 1, u3_f nw (3 * (16 * s + k)) v3 v4 v5, bf, upd ve (16 * s + k) 0, bk, md, yl, la, od, sm, fr, ct), ir_mk hn hm (mk_R R (Or.inl rfl) (lk_L hl)) hP, fun post hp => ?_, fun post hp => ?_⟩
        · simp (disch := omega) only [wpX_make, vx_err, vx_lnk, h, h0, hl, nu_01, nu_40, nu_30, nu_20, nu_160, Int32.add_zero, Nat.reduceAdd, nu_m16, nu_16m, nu_m4, nu_4m, nu_m3, nu_3m, nu_m2, nu_2m, nI_1, nu_p2, nu_p3, nu_16p, nu_2p, nI_add, nu_cl, nu_in, Nat.add_zero, nu_l0, nu_l1, nu_l2, nu_l3, nu_l4, nu_i0_5, nu_i1_5, nu_i2_5, nu_i0_3, nu_i1_3, nu_i2_3, nu_n0, nu_n1, nu_na0, nu_na1, forall_eq, true_implies, false_implies, implies_true, not_true_eq_false, not_false_eq_true, and_true, true_and, and_self, true_or, or_true, false_or, or_false, false_and, and_false, eq_self]
          exact hp
        · simp (disch := omega) only [wpY_make, wpY_fill, vy_err, vy_lnk, h, h0, hl, nu_01, nu_40, nu_30, nu_20, nu_160, Int32.add_zero, Nat.reduceAdd, nu_m16, nu_16m, nu_m4, nu_4m, nu_m3, nu_3m, nu_m2, nu_2m, nI_1, nu_p2, nu_p3, nu_16p, nu_2p, nI_add, nu_cl, nu_in, Nat.add_zero, nu_l0, nu_l1, nu_l2, nu_l3, nu_l4, nu_i0_5, nu_i1_5, nu_i2_5, nu_i0_3, nu_i1_3, nu_i2_3, nu_n0, nu_n1, nu_na0, nu_na1, forall_eq, true_implies, false_implies, implies_true, not_true_eq_false, not_false_eq_true, and_true, true_and, and_self, true_or, or_true, false_or, or_false, false_and, and_false, eq_self]
          exact hp
    · refine ⟨(-1), (nI n, nI m, cc, rq, md, bk, ct, rt, rc, lk, wt, wc, ch, st, en, sn, sk, sr, fr, lf, cr, rr), (nI n, nI m, th, ch, ro, lk, st, nw, bf, ve, bk, md, yl, la, od, sm, fr, ct), ir_mk hn hm (R) hP, fun post hp => ?_, fun post hp => ?_⟩
      · simp (disch := omega) only [wpX_make, vx_err, h, h0, nu_01, nu_40, nu_30, nu_20, nu_160, Int32.add_zero, Nat.reduceAdd, nu_m16, nu_16m, nu_m4, nu_4m, nu_m3, nu_3m, nu_m2, nu_2m, nI_1, nu_p2, nu_p3, nu_16p, nu_2p, nI_add, nu_cl, nu_in, Nat.add_zero, nu_l0, nu_l1, nu_l2, nu_l3, nu_l4, nu_i0_5, nu_i1_5, nu_i2_5, nu_i0_3, nu_i1_3, nu_i2_3, nu_n0, nu_n1, nu_na0, nu_na1, forall_eq, true_implies, false_implies, implies_true, not_true_eq_false, not_false_eq_true, and_true, true_and, and_self, true_or, or_true, false_or, or_false, false_and, and_false, eq_self]
        exact hp
      · simp (disch := omega) only [wpY_make, vy_err, h, h0, nu_01, nu_40, nu_30, nu_20, nu_160, Int32.add_zero, Nat.reduceAdd, nu_m16, nu_16m, nu_m4, nu_4m, nu_m3, nu_3m, nu_m2, nu_2m, nI_1, nu_p2, nu_p3, nu_16p, nu_2p, nI_add, nu_cl, nu_in, Nat.add_zero, nu_l0, nu_l1, nu_l2, nu_l3, nu_l4, nu_i0_5, nu_i1_5, nu_i2_5, nu_i0_3, nu_i1_3, nu_i2_3, nu_n0, nu_n1, nu_na0, nu_na1, forall_eq, true_implies, false_implies, implies_true, not_true_eq_false, not_false_eq_true, and_true, true_and, and_self, true_or, or_true, false_or, or_false, false_and, and_false, eq_self]
        exact hp
  · refine ⟨(er_v bk v1 v2), (nI n, nI m, cc, rq, md, bk, ct, rt, rc, lk, wt, wc, ch, st, en, sn, sk, sr, fr, lf, cr, rr), (nI n, nI m, th, ch, ro, lk, st, nw, bf, ve, bk, md, yl, la, od, sm, fr, ct), ir_mk hn hm (R) hP, fun post hp => ?_, fun post hp => ?_⟩
    · simp (disch := omega) only [wpX_make, vx_err, h, nu_01, nu_40, nu_30, nu_20, nu_160, Int32.add_zero, Nat.reduceAdd, nu_m16, nu_16m, nu_m4, nu_4m, nu_m3, nu_3m, nu_m2, nu_2m, nI_1, nu_p2, nu_p3, nu_16p, nu_2p, nI_add, nu_cl, nu_in, Nat.add_zero, nu_l0, nu_l1, nu_l2, nu_l3, nu_l4, nu_i0_5, nu_i1_5, nu_i2_5, nu_i0_3, nu_i1_3, nu_i2_3, nu_n0, nu_n1, nu_na0, nu_na1, forall_eq, true_implies, false_implies, implies_true, not_true_eq_false, not_false_eq_true, and_true, true_and, and_self, true_or, or_true, false_or, or_false, false_and, and_false, eq_self]
      exact hp
    · simp (disch := omega) only [wpY_make, vy_err, h, nu_01, nu_40, nu_30, nu_20, nu_160, Int32.add_zero, Nat.reduceAdd, nu_m16, nu_16m, nu_m4, nu_4m, nu_m3, nu_3m, nu_m2, nu_2m, nI_1, nu_p2, nu_p3, nu_16p, nu_2p, nI_add, nu_cl, nu_in, Nat.add_zero, nu_l0, nu_l1, nu_l2, nu_l3, nu_l4, nu_i0_5, nu_i1_5, nu_i2_5, nu_i0_3, nu_i1_3, nu_i2_3, nu_n0, nu_n1, nu_na0, nu_na1, forall_eq, true_implies, false_implies, implies_true, not_true_eq_false, not_false_eq_true, and_true, true_and, and_self, true_or, or_true, false_or, or_false, false_and, and_false, eq_self]
      exact hp
theorem de_S {u : SX} {v : SY} (I : i_Rel 0 u v) (v1 v2 : Int32) : sm_S (fun post => wpX_detach post u v1 v2) (fun post => wpY_detach post v v1 v2) := by
  obtain ⟨n, m, cc, rq, md, bk, ct, rt, rc, lk, wt, wc, ch, st, en, sn, sk, sr, fr, lf, cr, rr, th, ro, nw, bf, ve, yl, la, od, sm, rfl, rfl, hn, hm, R, hP⟩ := I
  by_cases h : er_v bk v1 v2 = 0
  · obtain ⟨s, k, hs, hk, rfl, rfl, hb⟩ := er_0 h
    by_cases h0 : st (16 * s + k) = 0
    · refine ⟨(-1), (nI n, nI m, cc, rq, md, bk, ct, rt, rc, lk, wt, wc, ch, st, en, sn, sk, sr, fr, lf, cr, rr), (nI n, nI m, th, ch, ro, lk, st, nw, bf, ve, bk, md, yl, la, od, sm, fr, ct), ir_mk hn hm (R) hP, fun post hp => ?_, fun post hp => ?_⟩
      · simp (disch := omega) only [wpX_detach, vx_err, h, h0, nu_01, nu_40, nu_30, nu_20, nu_160, Int32.add_zero, Nat.reduceAdd, nu_m16, nu_16m, nu_m4, nu_4m, nu_m3, nu_3m, nu_m2, nu_2m, nI_1, nu_p2, nu_p3, nu_16p, nu_2p, nI_add, nu_cl, nu_in, Nat.add_zero, nu_l0, nu_l1, nu_l2, nu_l3, nu_l4, nu_i0_5, nu_i1_5, nu_i2_5, nu_i0_3, nu_i1_3, nu_i2_3, nu_n0, nu_n1, nu_na0, nu_na1, forall_eq, true_implies, false_implies, implies_true, not_true_eq_false, not_false_eq_true, and_true, true_and, and_self, true_or, or_true, false_or, or_false, false_and, and_false, eq_self]
        exact hp
      · simp (disch := omega) only [wpY_detach, vy_err, h, h0, nu_01, nu_40, nu_30, nu_20, nu_160, Int32.add_zero, Nat.reduceAdd, nu_m16, nu_16m, nu_m4, nu_4m, nu_m3, nu_3m, nu_m2, nu_2m, nI_1, nu_p2, nu_p3, nu_16p, nu_2p, nI_add, nu_cl, nu_in, Nat.add_zero, nu_l0, nu_l1, nu_l2, nu_l3, nu_l4, nu_i0_5, nu_i1_5, nu_i2_5, nu_i0_3, nu_i1_3, nu_i2_3, nu_n0, nu_n1, nu_na0, nu_na1, forall_eq, true_implies, false_implies, implies_true, not_true_eq_false, not_false_eq_true, and_true, true_and, and_self, true_or, or_true, false_or, or_false, false_and, and_false, eq_self]
        exact hp
    · refine ⟨0, (nI n, nI m, cc, rq, md, bk, ct, rt, rc, lk, wt, wc, ch, upd st (16 * s + k) 0, en, sn, sk, sr, fr, lf, cr, rr), (nI n, nI m, th, ch, ro, lk, upd st (16 * s + k) 0, nw, bf, ve, bk, md, yl, la, od, sm, fr, ct), ir_mk hn hm (kd_R R (Or.inl rfl) (Or.inl rfl) (fun q => absurd q (by decide))) hP, fun post hp => ?_, fun post hp => ?_⟩
      · simp (disch := omega) only [wpX_detach, vx_err, h, h0, nu_01, nu_40, nu_30, nu_20, nu_160, Int32.add_zero, Nat.reduceAdd, nu_m16, nu_16m, nu_m4, nu_4m, nu_m3, nu_3m, nu_m2, nu_2m, nI_1, nu_p2, nu_p3, nu_16p, nu_2p, nI_add, nu_cl, nu_in, Nat.add_zero, nu_l0, nu_l1, nu_l2, nu_l3, nu_l4, nu_i0_5, nu_i1_5, nu_i2_5, nu_i0_3, nu_i1_3, nu_i2_3, nu_n0, nu_n1, nu_na0, nu_na1, forall_eq, true_implies, false_implies, implies_true, not_true_eq_false, not_false_eq_true, and_true, true_and, and_self, true_or, or_true, false_or, or_false, false_and, and_false, eq_self]
        exact hp
      · simp (disch := omega) only [wpY_detach, vy_err, h, h0, nu_01, nu_40, nu_30, nu_20, nu_160, Int32.add_zero, Nat.reduceAdd, nu_m16, nu_16m, nu_m4, nu_4m, nu_m3, nu_3m, nu_m2, nu_2m, nI_1, nu_p2, nu_p3, nu_16p, nu_2p, nI_add, nu_cl, nu_in, Nat.add_zero, nu_l0, nu_l1, nu_l2, nu_l3, nu_l4, nu_i0_5, nu_i1_5, nu_i2_5, nu_i0_3, nu_i1_3, nu_i2_3, nu_n0, nu_n1, nu_na0, nu_na1, forall_eq, true_implies, false_implies, implies_true, not_true_eq_false, not_false_eq_true, and_true, true_and, and_self, true_or, or_true, false_or, or_false, false_and, and_false, eq_self]
        exact hp
  · refine ⟨(er_v bk v1 v2), (nI n, nI m, cc, rq, md, bk, ct, rt, rc, lk, wt, wc, ch, st, en, sn, sk, sr, fr, lf, cr, rr), (nI n, nI m, th, ch, ro, lk, st, nw, bf, ve, bk, md, yl, la, od, sm, fr, ct), ir_mk hn hm (R) hP, fun post hp => ?_, fun post hp => ?_⟩
    · simp (disch := omega) only [wpX_detach, vx_err, h, nu_01, nu_40, nu_30, nu_20, nu_160, Int32.add_zero, Nat.reduceAdd, nu_m16, nu_16m, nu_m4, nu_4m, nu_m3, nu_3m, nu_m2, nu_2m, nI_1, nu_p2, nu_p3, nu_16p, nu_2p, nI_add, nu_cl, nu_in, Nat.add_zero, nu_l0, nu_l1, nu_l2, nu_l3, nu_l4, nu_i0_5, nu_i1_5, nu_i2_5, nu_i0_3, nu_i1_3, nu_i2_3, nu_n0, nu_n1, nu_na0, nu_na1, forall_eq, true_implies, false_implies, implies_true, not_true_eq_false, not_false_eq_true, and_true, true_and, and_self, true_or, or_true, false_or, or_false, false_and, and_false, eq_self]
      exact hp
    · simp (disch := omega) only [wpY_detach, vy_err, h, nu_01, nu_40, nu_30, nu_20, nu_160, Int32.add_zero, Nat.reduceAdd, nu_m16, nu_16m, nu_m4, nu_4m, nu_m3, nu_3m, nu_m2, nu_2m, nI_1, nu_p2, nu_p3, nu_16p, nu_2p, nI_add, nu_cl, nu_in, Nat.add_zero, nu_l0, nu_l1, nu_l2, nu_l3, nu_l4, nu_i0_5, nu_i1_5, nu_i2_5, nu_i0_3, nu_i1_3, nu_i2_3, nu_n0, nu_n1, nu_na0, nu_na1, forall_eq, true_implies, false_implies, implies_true, not_true_eq_false, not_false_eq_true, and_true, true_and, and_self, true_or, or_true, false_or, or_false, false_and, and_false, eq_self]
      exact hp
theorem rf_S {u : SX} {v : SY} (I : i_Rel 0 u v) (v1 v2 : Int32) : sm_S (fun post => wpX_refer post u v1 v2) (fun post => wpY_refer post v v1 v2) := by
  obtain ⟨n, m, cc, rq, md, bk, ct, rt, rc, lk, wt, wc, ch, st, en, sn, sk, sr, fr, lf, cr, rr, th, ro, nw, bf, ve, yl, la, od, sm, rfl, rfl, hn, hm, R, hP⟩ := I
  by_cases h : er_v bk v1 v2 = 0
  · obtain ⟨s, k, hs, hk, rfl, rfl, hb⟩ := er_0 h
    by_cases h0 : st (16 * s + k) = 0
    · refine ⟨0, (nI n, nI m, cc, rq, md, bk, ct, rt, rc, lk, wt, wc, ch, upd st (16 * s + k) 3, en, sn, sk, sr, fr, lf, cr, rr), (nI n, nI m, th, ch, ro, lk, upd st (16 * s + k) 3, u3_f nw (3 * (16 * s + k)) 0 0 (-1), bf, upd ve (16 * s + k) 0, bk, md, yl, la, od, sm, fr, ct), ir_mk hn hm (px_R R) hP, fun post hp => ?_, fun post hp => ?_⟩
      · simp (disch := omega) only [wpX_refer, vx_err, h, h0, nu_01, nu_40, nu_30, nu_20, nu_160, Int32.add_zero, Nat.reduceAdd, nu_m16, nu_16m, nu_m4, nu_4m, nu_m3, nu_3m, nu_m2, nu_2m, nI_1, nu_p2, nu_p3, nu_16p, nu_2p, nI_add, nu_cl, nu_in, Nat.add_zero, nu_l0, nu_l1, nu_l2, nu_l3, nu_l4, nu_i0_5, nu_i1_5, nu_i2_5, nu_i0_3, nu_i1_3, nu_i2_3, nu_n0, nu_n1, nu_na0, nu_na1, forall_eq, true_implies, false_implies, implies_true, not_true_eq_false, not_false_eq_true, and_true, true_and, and_self, true_or, or_true, false_or, or_false, false_and, and_false, eq_self]
        exact hp
      · simp (disch := omega) only [wpY_refer, wpY_fill, vy_err, h, h0, nu_01, nu_40, nu_30, nu_20, nu_160, Int32.add_zero, Nat.reduceAdd, nu_m16, nu_16m, nu_m4, nu_4m, nu_m3, nu_3m, nu_m2, nu_2m, nI_1, nu_p2, nu_p3, nu_16p, nu_2p, nI_add, nu_cl, nu_in, Nat.add_zero, nu_l0, nu_l1, nu_l2, nu_l3, nu_l4, nu_i0_5, nu_i1_5, nu_i2_5, nu_i0_3, nu_i1_3, nu_i2_3, nu_n0, nu_n1, nu_na0, nu_na1, forall_eq, true_implies, false_implies, implies_true, not_true_eq_false, not_false_eq_true, and_true, true_and, and_self, true_or, or_true, false_or, or_false, false_and, and_false, eq_self]
        exact hp
    · refine ⟨0, (nI n, nI m, cc, rq, md, bk, ct, rt, rc, lk, wt, wc, ch, st, en, sn, sk, sr, fr, lf, cr, rr), (nI n, nI m, th, ch, ro, lk, st, nw, bf, ve, bk, md, yl, la, od, sm, fr, ct), ir_mk hn hm (R) hP, fun post hp => ?_, fun post hp => ?_⟩
      · simp (disch := omega) only [wpX_refer, vx_err, h, h0, nu_01, nu_40, nu_30, nu_20, nu_160, Int32.add_zero, Nat.reduceAdd, nu_m16, nu_16m, nu_m4, nu_4m, nu_m3, nu_3m, nu_m2, nu_2m, nI_1, nu_p2, nu_p3, nu_16p, nu_2p, nI_add, nu_cl, nu_in, Nat.add_zero, nu_l0, nu_l1, nu_l2, nu_l3, nu_l4, nu_i0_5, nu_i1_5, nu_i2_5, nu_i0_3, nu_i1_3, nu_i2_3, nu_n0, nu_n1, nu_na0, nu_na1, forall_eq, true_implies, false_implies, implies_true, not_true_eq_false, not_false_eq_true, and_true, true_and, and_self, true_or, or_true, false_or, or_false, false_and, and_false, eq_self]
        exact hp
      · simp (disch := omega) only [wpY_refer, vy_err, h, h0, nu_01, nu_40, nu_30, nu_20, nu_160, Int32.add_zero, Nat.reduceAdd, nu_m16, nu_16m, nu_m4, nu_4m, nu_m3, nu_3m, nu_m2, nu_2m, nI_1, nu_p2, nu_p3, nu_16p, nu_2p, nI_add, nu_cl, nu_in, Nat.add_zero, nu_l0, nu_l1, nu_l2, nu_l3, nu_l4, nu_i0_5, nu_i1_5, nu_i2_5, nu_i0_3, nu_i1_3, nu_i2_3, nu_n0, nu_n1, nu_na0, nu_na1, forall_eq, true_implies, false_implies, implies_true, not_true_eq_false, not_false_eq_true, and_true, true_and, and_self, true_or, or_true, false_or, or_false, false_and, and_false, eq_self]
        exact hp
  · refine ⟨(er_v bk v1 v2), (nI n, nI m, cc, rq, md, bk, ct, rt, rc, lk, wt, wc, ch, st, en, sn, sk, sr, fr, lf, cr, rr), (nI n, nI m, th, ch, ro, lk, st, nw, bf, ve, bk, md, yl, la, od, sm, fr, ct), ir_mk hn hm (R) hP, fun post hp => ?_, fun post hp => ?_⟩
    · simp (disch := omega) only [wpX_refer, vx_err, h, nu_01, nu_40, nu_30, nu_20, nu_160, Int32.add_zero, Nat.reduceAdd, nu_m16, nu_16m, nu_m4, nu_4m, nu_m3, nu_3m, nu_m2, nu_2m, nI_1, nu_p2, nu_p3, nu_16p, nu_2p, nI_add, nu_cl, nu_in, Nat.add_zero, nu_l0, nu_l1, nu_l2, nu_l3, nu_l4, nu_i0_5, nu_i1_5, nu_i2_5, nu_i0_3, nu_i1_3, nu_i2_3, nu_n0, nu_n1, nu_na0, nu_na1, forall_eq, true_implies, false_implies, implies_true, not_true_eq_false, not_false_eq_true, and_true, true_and, and_self, true_or, or_true, false_or, or_false, false_and, and_false, eq_self]
      exact hp
    · simp (disch := omega) only [wpY_refer, vy_err, h, nu_01, nu_40, nu_30, nu_20, nu_160, Int32.add_zero, Nat.reduceAdd, nu_m16, nu_16m, nu_m4, nu_4m, nu_m3, nu_3m, nu_m2, nu_2m, nI_1, nu_p2, nu_p3, nu_16p, nu_2p, nI_add, nu_cl, nu_in, Nat.add_zero, nu_l0, nu_l1, nu_l2, nu_l3, nu_l4, nu_i0_5, nu_i1_5, nu_i2_5, nu_i0_3, nu_i1_3, nu_i2_3, nu_n0, nu_n1, nu_na0, nu_na1, forall_eq, true_implies, false_implies, implies_true, not_true_eq_false, not_false_eq_true, and_true, true_and, and_self, true_or, or_true, false_or, or_false, false_and, and_false, eq_self]
      exact hp
end
section
theorem rd_110 {E j : Nat} {sc fc cc rq : Int32} {md bk ct rt rc lk wt wc ch st en sn sk sr fr lf cr rr th ro nw bf ve yl la od sm : Nat → Int32} (R : re_R md bk ch lk st rt rc wt wc en sn th ro nw bf ve) (hE : E < 48) (hj : j < 4) (h0 : ¬ st E = 0) (h3 : ¬ st E = 3) :
    ∃ r : Int64, (∀ post : Int64 → SX → Prop, post r (sc, fc, cc, rq, md, bk, ct, rt, rc, lk, wt, wc, ch, st, en, sn, sk, sr, fr, lf, cr, rr) → wX_read_110 post (nI j) (nI E) sc fc cc rq md bk ct rt rc lk wt wc ch st en sn sk sr fr lf cr rr) ∧ (∀ post : Int64 → SY → Prop, post r (sc, fc, th, ch, ro, lk, st, nw, bf, ve, bk, md, yl, la, od, sm, fr, ct) → wY_read_116 post (nI j) (nI E) 1 sc fc th ch ro lk st nw bf ve bk md yl la od sm fr ct) := by
  by_cases j3 : j = 3
  · have hV := re_rV R E hE
    rcases re_rK R E with a | a | a | a | a | a
    · exact absurd a h0
    · refine ⟨0, fun post hp => ?_, fun post hp => ?_⟩
      · simp (disch := omega) only [wX_read_110, wX_read_155, wX_read_150, a, nu_k01, nu_k02, nu_k03, nu_k04, nu_k05, nu_k10, nu_k12, nu_k13, nu_k14, nu_k15, nu_k20, nu_k21, nu_k23, nu_k24, nu_k25, nu_k30, nu_k31, nu_k32, nu_k34, nu_k35, nu_k40, nu_k41, nu_k42, nu_k43, nu_k45, nu_k50, nu_k51, nu_k52, nu_k53, nu_k54, nu_u0, nu_v0, nu_u1, nu_v1, nu_u2, nu_v2, nu_u3, nu_v3, nu_u4, nu_v4, nu_u5, nu_v5, nu_u6, nu_v6, nu_01, nu_40, nu_30, nu_20, nu_160, Int32.add_zero, Nat.reduceAdd, nu_m16, nu_16m, nu_m4, nu_4m, nu_m3, nu_3m, nu_m2, nu_2m, nI_1, nu_p2, nu_p3, nu_16p, nu_2p, nI_add, nu_cl, nu_in, Nat.add_zero, nu_l0, nu_l1, nu_l2, nu_l3, nu_l4, nu_i0_5, nu_i1_5, nu_i2_5, nu_i0_3, nu_i1_3, nu_i2_3, nu_n0, nu_n1, nu_na0, nu_na1, forall_eq, true_implies, false_implies, implies_true, not_true_eq_false, not_false_eq_true, and_true, true_and, and_self, true_or, or_true, false_or, or_false, false_and, and_false, eq_self]
        exact hp
      · simp (disch := omega) only [wY_read_116, a, nu_41, nu_k01, nu_k02, nu_k03, nu_k04, nu_k05, nu_k10, nu_k12, nu_k13, nu_k14, nu_k15, nu_k20, nu_k21, nu_k23, nu_k24, nu_k25, nu_k30, nu_k31, nu_k32, nu_k34, nu_k35, nu_k40, nu_k41, nu_k42, nu_k43, nu_k45, nu_k50, nu_k51, nu_k52, nu_k53, nu_k54, nu_a1, nu_b1, nu_c1, nu_d1, nu_e1, nu_f1, nu_g1, nu_h1, nu_a2, nu_b2, nu_c2, nu_d2, nu_e2, nu_f2, nu_g2, nu_h2, nu_a3, nu_b3, nu_c3, nu_d3, nu_e3, nu_f3, nu_g3, nu_h3, nu_a4, nu_b4, nu_c4, nu_d4, nu_e4, nu_f4, nu_g4, nu_h4, nu_a5, nu_b5, nu_c5, nu_d5, nu_e5, nu_f5, nu_g5, nu_h5, nu_a6, nu_b6, nu_c6, nu_d6, nu_e6, nu_f6, nu_g6, nu_h6, nu_a7, nu_b7, nu_c7, nu_d7, nu_e7, nu_f7, nu_g7, nu_h7, nu_a16, nu_b16, nu_c16, nu_d16, nu_e16, nu_f16, nu_g16, nu_h16, nu_neg, nu_pos, nu_01, nu_40, nu_30, nu_20, nu_160, Int32.add_zero, Nat.reduceAdd, nu_m16, nu_16m, nu_m4, nu_4m, nu_m3, nu_3m, nu_m2, nu_2m, nI_1, nu_p2, nu_p3, nu_16p, nu_2p, nI_add, nu_cl, nu_in, Nat.add_zero, nu_l0, nu_l1, nu_l2, nu_l3, nu_l4, nu_i0_5, nu_i1_5, nu_i2_5, nu_i0_3, nu_i1_3, nu_i2_3, nu_n0, nu_n1, nu_na0, nu_na1, forall_eq, true_implies, false_implies, implies_true, not_true_eq_false, not_false_eq_true, and_true, true_and, and_self, true_or, or_true, false_or, or_false, false_and, and_false, eq_self]
        exact hp
    · refine ⟨0, fun post hp => ?_, fun post hp => ?_⟩
      · simp (disch := omega) only [wX_read_110, wX_read_155, wX_read_150, a, nu_k01, nu_k02, nu_k03, nu_k04, nu_k05, nu_k10, nu_k12, nu_k13, nu_k14, nu_k15, nu_k20, nu_k21, nu_k23, nu_k24, nu_k25, nu_k30, nu_k31, nu_k32, nu_k34, nu_k35, nu_k40, nu_k41, nu_k42, nu_k43, nu_k45, nu_k50, nu_k51, nu_k52, nu_k53, nu_k54, nu_u0, nu_v0, nu_u1, nu_v1, nu_u2, nu_v2, nu_u3, nu_v3, nu_u4, nu_v4, nu_u5, nu_v5, nu_u6, nu_v6, nu_01, nu_40, nu_30, nu_20, nu_160, Int32.add_zero, Nat.reduceAdd, nu_m16, nu_16m, nu_m4, nu_4m, nu_m3, nu_3m, nu_m2, nu_2m, nI_1, nu_p2, nu_p3, nu_16p, nu_2p, nI_add, nu_cl, nu_in, Nat.add_zero, nu_l0, nu_l1, nu_l2, nu_l3, nu_l4, nu_i0_5, nu_i1_5, nu_i2_5, nu_i0_3, nu_i1_3, nu_i2_3, nu_n0, nu_n1, nu_na0, nu_na1, forall_eq, true_implies, false_implies, implies_true, not_true_eq_false, not_false_eq_true, and_true, true_and, and_self, true_or, or_true, false_or, or_false, false_and, and_false, eq_self]
        exact hp
      · simp (disch := omega) only [wY_read_116, a, nu_42, nu_k01, nu_k02, nu_k03, nu_k04, nu_k05, nu_k10, nu_k12, nu_k13, nu_k14, nu_k15, nu_k20, nu_k21, nu_k23, nu_k24, nu_k25, nu_k30, nu_k31, nu_k32, nu_k34, nu_k35, nu_k40, nu_k41, nu_k42, nu_k43, nu_k45, nu_k50, nu_k51, nu_k52, nu_k53, nu_k54, nu_a1, nu_b1, nu_c1, nu_d1, nu_e1, nu_f1, nu_g1, nu_h1, nu_a2, nu_b2, nu_c2, nu_d2, nu_e2, nu_f2, nu_g2, nu_h2, nu_a3, nu_b3, nu_c3, nu_d3, nu_e3, nu_f3, nu_g3, nu_h3, nu_a4, nu_b4, nu_c4, nu_d4, nu_e4, nu_f4, nu_g4, nu_h4, nu_a5, nu_b5, nu_c5, nu_d5, nu_e5, nu_f5, nu_g5, nu_h5, nu_a6, nu_b6, nu_c6, nu_d6, nu_e6, nu_f6, nu_g6, nu_h6, nu_a7, nu_b7, nu_c7, nu_d7, nu_e7, nu_f7, nu_g7, nu_h7, nu_a16, nu_b16, nu_c16, nu_d16, nu_e16, nu_f16, nu_g16, nu_h16, nu_neg, nu_pos, nu_01, nu_40, nu_30, nu_20, nu_160, Int32.add_zero, Nat.reduceAdd, nu_m16, nu_16m, nu_m4, nu_4m, nu_m3, nu_3m, nu_m2, nu_2m, nI_1, nu_p2, nu_p3, nu_16p, nu_2p, nI_add, nu_cl, nu_in, Nat.add_zero, nu_l0, nu_l1, nu_l2, nu_l3, nu_l4, nu_i0_5, nu_i1_5, nu_i2_5, nu_i0_3, nu_i1_3, nu_i2_3, nu_n0, nu_n1, nu_na0, nu_na1, forall_eq, true_implies, false_implies, implies_true, not_true_eq_false, not_false_eq_true, and_true, true_and, and_self, true_or, or_true, false_or, or_false, false_and, and_false, eq_self]
        exact hp
    · exact absurd a h3
    · have v := hV (Or.inl a)
      refine ⟨(ve E).toInt64, fun post hp => ?_, fun post hp => ?_⟩
      · simp (disch := omega) only [wX_read_110, wX_read_155, wX_read_150, a, v, nu_k01, nu_k02, nu_k03, nu_k04, nu_k05, nu_k10, nu_k12, nu_k13, nu_k14, nu_k15, nu_k20, nu_k21, nu_k23, nu_k24, nu_k25, nu_k30, nu_k31, nu_k32, nu_k34, nu_k35, nu_k40, nu_k41, nu_k42, nu_k43, nu_k45, nu_k50, nu_k51, nu_k52, nu_k53, nu_k54, nu_u0, nu_v0, nu_u1, nu_v1, nu_u2, nu_v2, nu_u3, nu_v3, nu_u4, nu_v4, nu_u5, nu_v5, nu_u6, nu_v6, nu_01, nu_40, nu_30, nu_20, nu_160, Int32.add_zero, Nat.reduceAdd, nu_m16, nu_16m, nu_m4, nu_4m, nu_m3, nu_3m, nu_m2, nu_2m, nI_1, nu_p2, nu_p3, nu_16p, nu_2p, nI_add, nu_cl, nu_in, Nat.add_zero, nu_l0, nu_l1, nu_l2, nu_l3, nu_l4, nu_i0_5, nu_i1_5, nu_i2_5, nu_i0_3, nu_i1_3, nu_i2_3, nu_n0, nu_n1, nu_na0, nu_na1, forall_eq, true_implies, false_implies, implies_true, not_true_eq_false, not_false_eq_true, and_true, true_and, and_self, true_or, or_true, false_or, or_false, false_and, and_false, eq_self]
        exact hp
      · simp (disch := omega) only [wY_read_116, a, nu_44, nu_k01, nu_k02, nu_k03, nu_k04, nu_k05, nu_k10, nu_k12, nu_k13, nu_k14, nu_k15, nu_k20, nu_k21, nu_k23, nu_k24, nu_k25, nu_k30, nu_k31, nu_k32, nu_k34, nu_k35, nu_k40, nu_k41, nu_k42, nu_k43, nu_k45, nu_k50, nu_k51, nu_k52, nu_k53, nu_k54, nu_a1, nu_b1, nu_c1, nu_d1, nu_e1, nu_f1, nu_g1, nu_h1, nu_a2, nu_b2, nu_c2, nu_d2, nu_e2, nu_f2, nu_g2, nu_h2, nu_a3, nu_b3, nu_c3, nu_d3, nu_e3, nu_f3, nu_g3, nu_h3, nu_a4, nu_b4, nu_c4, nu_d4, nu_e4, nu_f4, nu_g4, nu_h4, nu_a5, nu_b5, nu_c5, nu_d5, nu_e5, nu_f5, nu_g5, nu_h5, nu_a6, nu_b6, nu_c6, nu_d6, nu_e6, nu_f6, nu_g6, nu_h6, nu_a7, nu_b7, nu_c7, nu_d7, nu_e7, nu_f7, nu_g7, nu_h7, nu_a16, nu_b16, nu_c16, nu_d16, nu_e16, nu_f16, nu_g16, nu_h16, nu_neg, nu_pos, nu_01, nu_40, nu_30, nu_20, nu_160, Int32.add_zero, Nat.reduceAdd, nu_m16, nu_16m, nu_m4, nu_4m, nu_m3, nu_3m, nu_m2, nu_2m, nI_1, nu_p2, nu_p3, nu_16p, nu_2p, nI_add, nu_cl, nu_in, Nat.add_zero, nu_l0, nu_l1, nu_l2, nu_l3, nu_l4, nu_i0_5, nu_i1_5, nu_i2_5, nu_i0_3, nu_i1_3, nu_i2_3, nu_n0, nu_n1, nu_na0, nu_na1, forall_eq, true_implies, false_implies, implies_true, not_true_eq_false, not_false_eq_true, and_true, true_and, and_self, true_or, or_true, false_or, or_false, false_and, and_false, eq_self]
        exact hp
    · have v := hV (Or.inr a)
      refine ⟨(ve E).toInt64, fun post hp => ?_, fun post hp => ?_⟩
      · simp (disch := omega) only [wX_read_110, wX_read_155, wX_read_150, a, v, nu_k01, nu_k02, nu_k03, nu_k04, nu_k05, nu_k10, nu_k12, nu_k13, nu_k14, nu_k15, nu_k20, nu_k21, nu_k23, nu_k24, nu_k25, nu_k30, nu_k31, nu_k32, nu_k34, nu_k35, nu_k40, nu_k41, nu_k42, nu_k43, nu_k45, nu_k50, nu_k51, nu_k52, nu_k53, nu_k54, nu_u0, nu_v0, nu_u1, nu_v1, nu_u2, nu_v2, nu_u3, nu_v3, nu_u4, nu_v4, nu_u5, nu_v5, nu_u6, nu_v6, nu_01, nu_40, nu_30, nu_20, nu_160, Int32.add_zero, Nat.reduceAdd, nu_m16, nu_16m, nu_m4, nu_4m, nu_m3, nu_3m, nu_m2, nu_2m, nI_1, nu_p2, nu_p3, nu_16p, nu_2p, nI_add, nu_cl, nu_in, Nat.add_zero, nu_l0, nu_l1, nu_l2, nu_l3, nu_l4, nu_i0_5, nu_i1_5, nu_i2_5, nu_i0_3, nu_i1_3, nu_i2_3, nu_n0, nu_n1, nu_na0, nu_na1, forall_eq, true_implies, false_implies, implies_true, not_true_eq_false, not_false_eq_true, and_true, true_and, and_self, true_or, or_true, false_or, or_false, false_and, and_false, eq_self]
        exact hp
      · simp (disch := omega) only [wY_read_116, a, nu_45, nu_k01, nu_k02, nu_k03, nu_k04, nu_k05, nu_k10, nu_k12, nu_k13, nu_k14, nu_k15, nu_k20, nu_k21, nu_k23, nu_k24, nu_k25, nu_k30, nu_k31, nu_k32, nu_k34, nu_k35, nu_k40, nu_k41, nu_k42, nu_k43, nu_k45, nu_k50, nu_k51, nu_k52, nu_k53, nu_k54, nu_a1, nu_b1, nu_c1, nu_d1, nu_e1, nu_f1, nu_g1, nu_h1, nu_a2, nu_b2, nu_c2, nu_d2, nu_e2, nu_f2, nu_g2, nu_h2, nu_a3, nu_b3, nu_c3, nu_d3, nu_e3, nu_f3, nu_g3, nu_h3, nu_a4, nu_b4, nu_c4, nu_d4, nu_e4, nu_f4, nu_g4, nu_h4, nu_a5, nu_b5, nu_c5, nu_d5, nu_e5, nu_f5, nu_g5, nu_h5, nu_a6, nu_b6, nu_c6, nu_d6, nu_e6, nu_f6, nu_g6, nu_h6, nu_a7, nu_b7, nu_c7, nu_d7, nu_e7, nu_f7, nu_g7, nu_h7, nu_a16, nu_b16, nu_c16, nu_d16, nu_e16, nu_f16, nu_g16, nu_h16, nu_neg, nu_pos, nu_01, nu_40, nu_30, nu_20, nu_160, Int32.add_zero, Nat.reduceAdd, nu_m16, nu_16m, nu_m4, nu_4m, nu_m3, nu_3m, nu_m2, nu_2m, nI_1, nu_p2, nu_p3, nu_16p, nu_2p, nI_add, nu_cl, nu_in, Nat.add_zero, nu_l0, nu_l1, nu_l2, nu_l3, nu_l4, nu_i0_5, nu_i1_5, nu_i2_5, nu_i0_3, nu_i1_3, nu_i2_3, nu_n0, nu_n1, nu_na0, nu_na1, forall_eq, true_implies, false_implies, implies_true, not_true_eq_false, not_false_eq_true, and_true, true_and, and_self, true_or, or_true, false_or, or_false, false_and, and_false, eq_self]
        exact hp
  · have e := re_rN R E hE h0 h3 j (by omega)
    refine ⟨(nw (3 * E + j)).toInt64, fun post hp => ?_, fun post hp => ?_⟩
    · simp (disch := omega) only [wX_read_110, e, nu_u0, nu_v0, nu_u1, nu_v1, nu_u2, nu_v2, nu_u3, nu_v3, nu_u4, nu_v4, nu_u5, nu_v5, nu_u6, nu_v6, nu_01, nu_40, nu_30, nu_20, nu_160, Int32.add_zero, Nat.reduceAdd, nu_m16, nu_16m, nu_m4, nu_4m, nu_m3, nu_3m, nu_m2, nu_2m, nI_1, nu_p2, nu_p3, nu_16p, nu_2p, nI_add, nu_cl, nu_in, Nat.add_zero, nu_l0, nu_l1, nu_l2, nu_l3, nu_l4, nu_i0_5, nu_i1_5, nu_i2_5, nu_i0_3, nu_i1_3, nu_i2_3, nu_n0, nu_n1, nu_na0, nu_na1, forall_eq, true_implies, false_implies, implies_true, not_true_eq_false, not_false_eq_true, and_true, true_and, and_self, true_or, or_true, false_or, or_false, false_and, and_false, eq_self]
      exact hp
    · simp (disch := omega) only [wY_read_116, nu_k01, nu_k02, nu_k03, nu_k04, nu_k05, nu_k10, nu_k12, nu_k13, nu_k14, nu_k15, nu_k20, nu_k21, nu_k23, nu_k24, nu_k25, nu_k30, nu_k31, nu_k32, nu_k34, nu_k35, nu_k40, nu_k41, nu_k42, nu_k43, nu_k45, nu_k50, nu_k51, nu_k52, nu_k53, nu_k54, nu_a1, nu_b1, nu_c1, nu_d1, nu_e1, nu_f1, nu_g1, nu_h1, nu_a2, nu_b2, nu_c2, nu_d2, nu_e2, nu_f2, nu_g2, nu_h2, nu_a3, nu_b3, nu_c3, nu_d3, nu_e3, nu_f3, nu_g3, nu_h3, nu_a4, nu_b4, nu_c4, nu_d4, nu_e4, nu_f4, nu_g4, nu_h4, nu_a5, nu_b5, nu_c5, nu_d5, nu_e5, nu_f5, nu_g5, nu_h5, nu_a6, nu_b6, nu_c6, nu_d6, nu_e6, nu_f6, nu_g6, nu_h6, nu_a7, nu_b7, nu_c7, nu_d7, nu_e7, nu_f7, nu_g7, nu_h7, nu_a16, nu_b16, nu_c16, nu_d16, nu_e16, nu_f16, nu_g16, nu_h16, nu_neg, nu_pos, nu_01, nu_40, nu_30, nu_20, nu_160, Int32.add_zero, Nat.reduceAdd, nu_m16, nu_16m, nu_m4, nu_4m, nu_m3, nu_3m, nu_m2, nu_2m, nI_1, nu_p2, nu_p3, nu_16p, nu_2p, nI_add, nu_cl, nu_in, Nat.add_zero, nu_l0, nu_l1, nu_l2, nu_l3, nu_l4, nu_i0_5, nu_i1_5, nu_i2_5, nu_i0_3, nu_i1_3, nu_i2_3, nu_n0, nu_n1, nu_na0, nu_na1, forall_eq, true_implies, false_implies, implies_true, not_true_eq_false, not_false_eq_true, and_true, true_and, and_self, true_or, or_true, false_or, or_false, false_and, and_false, eq_self]
      exact hp
theorem ge_S {u : SX} {v : SY} (I : i_Rel 0 u v) (v1 v2 : Int32) : sm_S (fun post => wpX_get post u v1 v2) (fun post => wpY_get post v v1 v2) := by
  obtain ⟨n, m, cc, rq, md, bk, ct, rt, rc, lk, wt, wc, ch, st, en, sn, sk, sr, fr, lf, cr, rr, th, ro, nw, bf, ve, yl, la, od, sm, rfl, rfl, hn, hm, R, hP⟩ := I
  by_cases h : er_v bk v1 v2 = 0
  · obtain ⟨s, k, hs, hk, rfl, rfl, hb⟩ := er_0 h
    by_cases h0 : st (16 * s + k) = 0
    · obtain ⟨b, ct', ch', st', en', sn', nw', bf', ve', hb, R', h1, h2, hX, hY⟩ := al_S (nI n) (nI m) cc rq ct sk sr fr lf cr rr yl la od sm hs hk R
      rcases hb with rfl | rfl
      · refine ⟨(-3), (nI n, nI m, cc, rq, md, bk, ct', rt, rc, lk, wt, wc, ch', st', en', sn', sk, sr, fr, lf, cr, rr), (nI n, nI m, th, ch', ro, lk, st', nw', bf', ve', bk, md, yl, la, od, sm, fr, ct'), ir_mk hn hm (R') hP, fun post hp => ?_, fun post hp => ?_⟩
        · simp (disch := omega) only [wpX_get, wX_get_37, vx_err, h, h0, nu_k01, nu_k02, nu_k03, nu_k04, nu_k05, nu_k10, nu_k12, nu_k13, nu_k14, nu_k15, nu_k20, nu_k21, nu_k23, nu_k24, nu_k25, nu_k30, nu_k31, nu_k32, nu_k34, nu_k35, nu_k40, nu_k41, nu_k42, nu_k43, nu_k45, nu_k50, nu_k51, nu_k52, nu_k53, nu_k54, nu_01, nu_40, nu_30, nu_20, nu_160, Int32.add_zero, Nat.reduceAdd, nu_m16, nu_16m, nu_m4, nu_4m, nu_m3, nu_3m, nu_m2, nu_2m, nI_1, nu_p2, nu_p3, nu_16p, nu_2p, nI_add, nu_cl, nu_in, Nat.add_zero, nu_l0, nu_l1, nu_l2, nu_l3, nu_l4, nu_i0_5, nu_i1_5, nu_i2_5, nu_i0_3, nu_i1_3, nu_i2_3, nu_n0, nu_n1, nu_na0, nu_na1, forall_eq, true_implies, false_implies, implies_true, not_true_eq_false, not_false_eq_true, and_true, true_and, and_self, true_or, or_true, false_or, or_false, false_and, and_false, eq_self]
          refine hX _ ?_
          simp (disch := omega) only [wX_get_69, nu_01, nu_40, nu_30, nu_20, nu_160, Int32.add_zero, Nat.reduceAdd, nu_m16, nu_16m, nu_m4, nu_4m, nu_m3, nu_3m, nu_m2, nu_2m, nI_1, nu_p2, nu_p3, nu_16p, nu_2p, nI_add, nu_cl, nu_in, Nat.add_zero, nu_l0, nu_l1, nu_l2, nu_l3, nu_l4, nu_i0_5, nu_i1_5, nu_i2_5, nu_i0_3, nu_i1_3, nu_i2_3, nu_n0, nu_n1, nu_na0, nu_na1, forall_eq, true_implies, false_implies, implies_true, not_true_eq_false, not_false_eq_true, and_true, true_and, and_self, true_or, or_true, false_or, or_false, false_and, and_false, eq_self]
          exact hp
        · simp (disch := omega) only [wpY_get, vy_err, h, h0, nu_k01, nu_k02, nu_k03, nu_k04, nu_k05, nu_k10, nu_k12, nu_k13, nu_k14, nu_k15, nu_k20, nu_k21, nu_k23, nu_k24, nu_k25, nu_k30, nu_k31, nu_k32, nu_k34, nu_k35, nu_k40, nu_k41, nu_k42, nu_k43, nu_k45, nu_k50, nu_k51, nu_k52, nu_k53, nu_k54, nu_01, nu_40, nu_30, nu_20, nu_160, Int32.add_zero, Nat.reduceAdd, nu_m16, nu_16m, nu_m4, nu_4m, nu_m3, nu_3m, nu_m2, nu_2m, nI_1, nu_p2, nu_p3, nu_16p, nu_2p, nI_add, nu_cl, nu_in, Nat.add_zero, nu_l0, nu_l1, nu_l2, nu_l3, nu_l4, nu_i0_5, nu_i1_5, nu_i2_5, nu_i0_3, nu_i1_3, nu_i2_3, nu_n0, nu_n1, nu_na0, nu_na1, forall_eq, true_implies, false_implies, implies_true, not_true_eq_false, not_false_eq_true, and_true, true_and, and_self, true_or, or_true, false_or, or_false, false_and, and_false, eq_self]
          refine hY _ ?_
          simp (disch := omega) only [wY_get_76, nu_01, nu_40, nu_30, nu_20, nu_160, Int32.add_zero, Nat.reduceAdd, nu_m16, nu_16m, nu_m4, nu_4m, nu_m3, nu_3m, nu_m2, nu_2m, nI_1, nu_p2, nu_p3, nu_16p, nu_2p, nI_add, nu_cl, nu_in, Nat.add_zero, nu_l0, nu_l1, nu_l2, nu_l3, nu_l4, nu_i0_5, nu_i1_5, nu_i2_5, nu_i0_3, nu_i1_3, nu_i2_3, nu_n0, nu_n1, nu_na0, nu_na1, forall_eq, true_implies, false_implies, implies_true, not_true_eq_false, not_false_eq_true, and_true, true_and, and_self, true_or, or_true, false_or, or_false, false_and, and_false, eq_self]
          exact hp
      · refine ⟨0, (nI n, nI m, cc, rq, md, bk, ct', rt, rc, lk, wt, wc, ch', st', en', sn', sk, sr, fr, lf, cr, rr), (nI n, nI m, th, ch', ro, lk, st', nw', bf', ve', bk, md, yl, la, od, sm, fr, ct'), ir_mk hn hm (R') hP, fun post hp => ?_, fun post hp => ?_⟩
        · simp (disch := omega) only [wpX_get, wX_get_37, vx_err, h, h0, nu_k01, nu_k02, nu_k03, nu_k04, nu_k05, nu_k10, nu_k12, nu_k13, nu_k14, nu_k15, nu_k20, nu_k21, nu_k23, nu_k24, nu_k25, nu_k30, nu_k31, nu_k32, nu_k34, nu_k35, nu_k40, nu_k41, nu_k42, nu_k43, nu_k45, nu_k50, nu_k51, nu_k52, nu_k53, nu_k54, nu_01, nu_40, nu_30, nu_20, nu_160, Int32.add_zero, Nat.reduceAdd, nu_m16, nu_16m, nu_m4, nu_4m, nu_m3, nu_3m, nu_m2, nu_2m, nI_1, nu_p2, nu_p3, nu_16p, nu_2p, nI_add, nu_cl, nu_in, Nat.add_zero, nu_l0, nu_l1, nu_l2, nu_l3, nu_l4, nu_i0_5, nu_i1_5, nu_i2_5, nu_i0_3, nu_i1_3, nu_i2_3, nu_n0, nu_n1, nu_na0, nu_na1, forall_eq, true_implies, false_implies, implies_true, not_true_eq_false, not_false_eq_true, and_true, true_and, and_self, true_or, or_true, false_or, or_false, false_and, and_false, eq_self]
          refine hX _ ?_
          simp (disch := omega) only [wX_get_69, nu_k10, nu_01, nu_40, nu_30, nu_20, nu_160, Int32.add_zero, Nat.reduceAdd, nu_m16, nu_16m, nu_m4, nu_4m, nu_m3, nu_3m, nu_m2, nu_2m, nI_1, nu_p2, nu_p3, nu_16p, nu_2p, nI_add, nu_cl, nu_in, Nat.add_zero, nu_l0, nu_l1, nu_l2, nu_l3, nu_l4, nu_i0_5, nu_i1_5, nu_i2_5, nu_i0_3, nu_i1_3, nu_i2_3, nu_n0, nu_n1, nu_na0, nu_na1, forall_eq, true_implies, false_implies, implies_true, not_true_eq_false, not_false_eq_true, and_true, true_and, and_self, true_or, or_true, false_or, or_false, false_and, and_false, eq_self]
          exact hp
        · simp (disch := omega) only [wpY_get, vy_err, h, h0, nu_k01, nu_k02, nu_k03, nu_k04, nu_k05, nu_k10, nu_k12, nu_k13, nu_k14, nu_k15, nu_k20, nu_k21, nu_k23, nu_k24, nu_k25, nu_k30, nu_k31, nu_k32, nu_k34, nu_k35, nu_k40, nu_k41, nu_k42, nu_k43, nu_k45, nu_k50, nu_k51, nu_k52, nu_k53, nu_k54, nu_01, nu_40, nu_30, nu_20, nu_160, Int32.add_zero, Nat.reduceAdd, nu_m16, nu_16m, nu_m4, nu_4m, nu_m3, nu_3m, nu_m2, nu_2m, nI_1, nu_p2, nu_p3, nu_16p, nu_2p, nI_add, nu_cl, nu_in, Nat.add_zero, nu_l0, nu_l1, nu_l2, nu_l3, nu_l4, nu_i0_5, nu_i1_5, nu_i2_5, nu_i0_3, nu_i1_3, nu_i2_3, nu_n0, nu_n1, nu_na0, nu_na1, forall_eq, true_implies, false_implies, implies_true, not_true_eq_false, not_false_eq_true, and_true, true_and, and_self, true_or, or_true, false_or, or_false, false_and, and_false, eq_self]
          refine hY _ ?_
          simp (disch := omega) only [wY_get_76, nu_k10, nu_01, nu_40, nu_30, nu_20, nu_160, Int32.add_zero, Nat.reduceAdd, nu_m16, nu_16m, nu_m4, nu_4m, nu_m3, nu_3m, nu_m2, nu_2m, nI_1, nu_p2, nu_p3, nu_16p, nu_2p, nI_add, nu_cl, nu_in, Nat.add_zero, nu_l0, nu_l1, nu_l2, nu_l3, nu_l4, nu_i0_5, nu_i1_5, nu_i2_5, nu_i0_3, nu_i1_3, nu_i2_3, nu_n0, nu_n1, nu_na0, nu_na1, forall_eq, true_implies, false_implies, implies_true, not_true_eq_false, not_false_eq_true, and_true, true_and, and_self, true_or, or_true, false_or, or_false, false_and, and_false, eq_self]
          exact hp
    · by_cases h3 : st (16 * s + k) = 3
      · obtain ⟨b, ct', ch', st', en', sn', nw', bf', ve', hb, R', h1, hX, hY⟩ := to_S (nI n) (nI m) cc rq ct sk sr fr lf cr rr yl la od sm hs hk R
        rcases hb with rfl | rfl
        · refine ⟨(-3), (nI n, nI m, cc, rq, md, bk, ct', rt, rc, lk, wt, wc, ch', st', en', sn', sk, sr, fr, lf, cr, rr), (nI n, nI m, th, ch', ro, lk, st', nw', bf', ve', bk, md, yl, la, od, sm, fr, ct'), ir_mk hn hm (R') hP, fun post hp => ?_, fun post hp => ?_⟩
          · simp (disch := omega) only [wpX_get, wX_get_37, vx_err, h, h3, nu_k01, nu_k02, nu_k03, nu_k04, nu_k05, nu_k10, nu_k12, nu_k13, nu_k14, nu_k15, nu_k20, nu_k21, nu_k23, nu_k24, nu_k25, nu_k30, nu_k31, nu_k32, nu_k34, nu_k35, nu_k40, nu_k41, nu_k42, nu_k43, nu_k45, nu_k50, nu_k51, nu_k52, nu_k53, nu_k54, nu_01, nu_40, nu_30, nu_20, nu_160, Int32.add_zero, Nat.reduceAdd, nu_m16, nu_16m, nu_m4, nu_4m, nu_m3, nu_3m, nu_m2, nu_2m, nI_1, nu_p2, nu_p3, nu_16p, nu_2p, nI_add, nu_cl, nu_in, Nat.add_zero, nu_l0, nu_l1, nu_l2, nu_l3, nu_l4, nu_i0_5, nu_i1_5, nu_i2_5, nu_i0_3, nu_i1_3, nu_i2_3, nu_n0, nu_n1, nu_na0, nu_na1, forall_eq, true_implies, false_implies, implies_true, not_true_eq_false, not_false_eq_true, and_true, true_and, and_self, true_or, or_true, false_or, or_false, false_and, and_false, eq_self]
            refine hX _ ?_
            simp (disch := omega) only [wX_get_69, nu_01, nu_40, nu_30, nu_20, nu_160, Int32.add_zero, Nat.reduceAdd, nu_m16, nu_16m, nu_m4, nu_4m, nu_m3, nu_3m, nu_m2, nu_2m, nI_1, nu_p2, nu_p3, nu_16p, nu_2p, nI_add, nu_cl, nu_in, Nat.add_zero, nu_l0, nu_l1, nu_l2, nu_l3, nu_l4, nu_i0_5, nu_i1_5, nu_i2_5, nu_i0_3, nu_i1_3, nu_i2_3, nu_n0, nu_n1, nu_na0, nu_na1, forall_eq, true_implies, false_implies, implies_true, not_true_eq_false, not_false_eq_true, and_true, true_and, and_self, true_or, or_true, false_or, or_false, false_and, and_false, eq_self]
            exact hp
          · simp (disch := omega) only [wpY_get, vy_err, h, h3, nu_k01, nu_k02, nu_k03, nu_k04, nu_k05, nu_k10, nu_k12, nu_k13, nu_k14, nu_k15, nu_k20, nu_k21, nu_k23, nu_k24, nu_k25, nu_k30, nu_k31, nu_k32, nu_k34, nu_k35, nu_k40, nu_k41, nu_k42, nu_k43, nu_k45, nu_k50, nu_k51, nu_k52, nu_k53, nu_k54, nu_01, nu_40, nu_30, nu_20, nu_160, Int32.add_zero, Nat.reduceAdd, nu_m16, nu_16m, nu_m4, nu_4m, nu_m3, nu_3m, nu_m2, nu_2m, nI_1, nu_p2, nu_p3, nu_16p, nu_2p, nI_add, nu_cl, nu_in, Nat.add_zero, nu_l0, nu_l1, nu_l2, nu_l3, nu_l4, nu_i0_5, nu_i1_5, nu_i2_5, nu_i0_3, nu_i1_3, nu_i2_3, nu_n0, nu_n1, nu_na0, nu_na1, forall_eq, true_implies, false_implies, implies_true, not_true_eq_false, not_false_eq_true, and_true, true_and, and_self, true_or, or_true, false_or, or_false, false_and, and_false, eq_self]
            refine hY _ ?_
            simp (disch := omega) only [wY_get_76, nu_01, nu_40, nu_30, nu_20, nu_160, Int32.add_zero, Nat.reduceAdd, nu_m16, nu_16m, nu_m4, nu_4m, nu_m3, nu_3m, nu_m2, nu_2m, nI_1, nu_p2, nu_p3, nu_16p, nu_2p, nI_add, nu_cl, nu_in, Nat.add_zero, nu_l0, nu_l1, nu_l2, nu_l3, nu_l4, nu_i0_5, nu_i1_5, nu_i2_5, nu_i0_3, nu_i1_3, nu_i2_3, nu_n0, nu_n1, nu_na0, nu_na1, forall_eq, true_implies, false_implies, implies_true, not_true_eq_false, not_false_eq_true, and_true, true_and, and_self, true_or, or_true, false_or, or_false, false_and, and_false, eq_self]
            exact hp
        · refine ⟨0, (nI n, nI m, cc, rq, md, bk, ct', rt, rc, lk, wt, wc, ch', st', en', sn', sk, sr, fr, lf, cr, rr), (nI n, nI m, th, ch', ro, lk, st', nw', bf', ve', bk, md, yl, la, od, sm, fr, ct'), ir_mk hn hm (R') hP, fun post hp => ?_, fun post hp => ?_⟩
          · simp (disch := omega) only [wpX_get, wX_get_37, vx_err, h, h3, nu_k01, nu_k02, nu_k03, nu_k04, nu_k05, nu_k10, nu_k12, nu_k13, nu_k14, nu_k15, nu_k20, nu_k21, nu_k23, nu_k24, nu_k25, nu_k30, nu_k31, nu_k32, nu_k34, nu_k35, nu_k40, nu_k41, nu_k42, nu_k43, nu_k45, nu_k50, nu_k51, nu_k52, nu_k53, nu_k54, nu_01, nu_40, nu_30, nu_20, nu_160, Int32.add_zero, Nat.reduceAdd, nu_m16, nu_16m, nu_m4, nu_4m, nu_m3, nu_3m, nu_m2, nu_2m, nI_1, nu_p2, nu_p3, nu_16p, nu_2p, nI_add, nu_cl, nu_in, Nat.add_zero, nu_l0, nu_l1, nu_l2, nu_l3, nu_l4, nu_i0_5, nu_i1_5, nu_i2_5, nu_i0_3, nu_i1_3, nu_i2_3, nu_n0, nu_n1, nu_na0, nu_na1, forall_eq, true_implies, false_implies, implies_true, not_true_eq_false, not_false_eq_true, and_true, true_and, and_self, true_or, or_true, false_or, or_false, false_and, and_false, eq_self]
            refine hX _ ?_
            simp (disch := omega) only [wX_get_69, nu_k10, nu_01, nu_40, nu_30, nu_20, nu_160, Int32.add_zero, Nat.reduceAdd, nu_m16, nu_16m, nu_m4, nu_4m, nu_m3, nu_3m, nu_m2, nu_2m, nI_1, nu_p2, nu_p3, nu_16p, nu_2p, nI_add, nu_cl, nu_in, Nat.add_zero, nu_l0, nu_l1, nu_l2, nu_l3, nu_l4, nu_i0_5, nu_i1_5, nu_i2_5, nu_i0_3, nu_i1_3, nu_i2_3, nu_n0, nu_n1, nu_na0, nu_na1, forall_eq, true_implies, false_implies, implies_true, not_true_eq_false, not_false_eq_true, and_true, true_and, and_self, true_or, or_true, false_or, or_false, false_and, and_false, eq_self]
            exact hp
          · simp (disch := omega) only [wpY_get, vy_err, h, h3, nu_k01, nu_k02, nu_k03, nu_k04, nu_k05, nu_k10, nu_k12, nu_k13, nu_k14, nu_k15, nu_k20, nu_k21, nu_k23, nu_k24, nu_k25, nu_k30, nu_k31, nu_k32, nu_k34, nu_k35, nu_k40, nu_k41, nu_k42, nu_k43, nu_k45, nu_k50, nu_k51, nu_k52, nu_k53, nu_k54, nu_01, nu_40, nu_30, nu_20, nu_160, Int32.add_zero, Nat.reduceAdd, nu_m16, nu_16m, nu_m4, nu_4m, nu_m3, nu_3m, nu_m2, nu_2m, nI_1, nu_p2, nu_p3, nu_16p, nu_2p, nI_add, nu_cl, nu_in, Nat.add_zero, nu_l0, nu_l1, nu_l2, nu_l3, nu_l4, nu_i0_5, nu_i1_5, nu_i2_5, nu_i0_3, nu_i1_3, nu_i2_3, nu_n0, nu_n1, nu_na0, nu_na1, forall_eq, true_implies, false_implies, implies_true, not_true_eq_false, not_false_eq_true, and_true, true_and, and_self, true_or, or_true, false_or, or_false, false_and, and_false, eq_self]
            refine hY _ ?_
            simp (disch := omega) only [wY_get_76, nu_k10, nu_01, nu_40, nu_30, nu_20, nu_160, Int32.add_zero, Nat.reduceAdd, nu_m16, nu_16m, nu_m4, nu_4m, nu_m3, nu_3m, nu_m2, nu_2m, nI_1, nu_p2, nu_p3, nu_16p, nu_2p, nI_add, nu_cl, nu_in, Nat.add_zero, nu_l0, nu_l1, nu_l2, nu_l3, nu_l4, nu_i0_5, nu_i1_5, nu_i2_5, nu_i0_3, nu_i1_3, nu_i2_3, nu_n0, nu_n1, nu_na0, nu_na1, forall_eq, true_implies, false_implies, implies_true, not_true_eq_false, not_false_eq_true, and_true, true_and, and_self, true_or, or_true, false_or, or_false, false_and, and_false, eq_self]
            exact hp
      · by_cases h5 : st (16 * s + k) = 5
        · refine ⟨(-3), (nI n, nI m, cc, rq, md, bk, ct, rt, rc, lk, wt, wc, ch, st, en, sn, sk, sr, fr, lf, cr, rr), (nI n, nI m, th, ch, ro, lk, st, nw, bf, ve, bk, md, yl, la, od, sm, fr, ct), ir_mk hn hm (R) hP, fun post hp => ?_, fun post hp => ?_⟩
          · simp (disch := omega) only [wpX_get, wX_get_37, wX_get_69, vx_err, h, h5, nu_k01, nu_k02, nu_k03, nu_k04, nu_k05, nu_k10, nu_k12, nu_k13, nu_k14, nu_k15, nu_k20, nu_k21, nu_k23, nu_k24, nu_k25, nu_k30, nu_k31, nu_k32, nu_k34, nu_k35, nu_k40, nu_k41, nu_k42, nu_k43, nu_k45, nu_k50, nu_k51, nu_k52, nu_k53, nu_k54, nu_01, nu_40, nu_30, nu_20, nu_160, Int32.add_zero, Nat.reduceAdd, nu_m16, nu_16m, nu_m4, nu_4m, nu_m3, nu_3m, nu_m2, nu_2m, nI_1, nu_p2, nu_p3, nu_16p, nu_2p, nI_add, nu_cl, nu_in, Nat.add_zero, nu_l0, nu_l1, nu_l2, nu_l3, nu_l4, nu_i0_5, nu_i1_5, nu_i2_5, nu_i0_3, nu_i1_3, nu_i2_3, nu_n0, nu_n1, nu_na0, nu_na1, forall_eq, true_implies, false_implies, implies_true, not_true_eq_false, not_false_eq_true, and_true, true_and, and_self, true_or, or_true, false_or, or_false, false_and, and_false, eq_self]
            exact hp
          · simp (disch := omega) only [wpY_get, wY_get_76, vy_err, h, h5, nu_k01, nu_k02, nu_k03, nu_k04, nu_k05, nu_k10, nu_k12, nu_k13, nu_k14, nu_k15, nu_k20, nu_k21, nu_k23, nu_k24, nu_k25, nu_k30, nu_k31, nu_k32, nu_k34, nu_k35, nu_k40, nu_k41, nu_k42, nu_k43, nu_k45, nu_k50, nu_k51, nu_k52, nu_k53, nu_k54, nu_01, nu_40, nu_30, nu_20, nu_160, Int32.add_zero, Nat.reduceAdd, nu_m16, nu_16m, nu_m4, nu_4m, nu_m3, nu_3m, nu_m2, nu_2m, nI_1, nu_p2, nu_p3, nu_16p, nu_2p, nI_add, nu_cl, nu_in, Nat.add_zero, nu_l0, nu_l1, nu_l2, nu_l3, nu_l4, nu_i0_5, nu_i1_5, nu_i2_5, nu_i0_3, nu_i1_3, nu_i2_3, nu_n0, nu_n1, nu_na0, nu_na1, forall_eq, true_implies, false_implies, implies_true, not_true_eq_false, not_false_eq_true, and_true, true_and, and_self, true_or, or_true, false_or, or_false, false_and, and_false, eq_self]
            exact hp
        · refine ⟨0, (nI n, nI m, cc, rq, md, bk, ct, rt, rc, lk, wt, wc, ch, st, en, sn, sk, sr, fr, lf, cr, rr), (nI n, nI m, th, ch, ro, lk, st, nw, bf, ve, bk, md, yl, la, od, sm, fr, ct), ir_mk hn hm (R) hP, fun post hp => ?_, fun post hp => ?_⟩
          · simp (disch := omega) only [wpX_get, wX_get_37, wX_get_69, vx_err, h, h0, h3, h5, nu_k01, nu_k02, nu_k03, nu_k04, nu_k05, nu_k10, nu_k12, nu_k13, nu_k14, nu_k15, nu_k20, nu_k21, nu_k23, nu_k24, nu_k25, nu_k30, nu_k31, nu_k32, nu_k34, nu_k35, nu_k40, nu_k41, nu_k42, nu_k43, nu_k45, nu_k50, nu_k51, nu_k52, nu_k53, nu_k54, nu_01, nu_40, nu_30, nu_20, nu_160, Int32.add_zero, Nat.reduceAdd, nu_m16, nu_16m, nu_m4, nu_4m, nu_m3, nu_3m, nu_m2, nu_2m, nI_1, nu_p2, nu_p3, nu_16p, nu_2p, nI_add, nu_cl, nu_in, Nat.add_zero, nu_l0, nu_l1, nu_l2, nu_l3, nu_l4, nu_i0_5, nu_i1_5, nu_i2_5, nu_i0_3, nu_i1_3, nu_i2_3, nu_n0, nu_n1, nu_na0, nu_na1, forall_eq, true_implies, false_implies, implies_true, not_true_eq_false, not_false_eq_true, and_true, true_and, and_self, true_or, or_true, false_or, or_false, false_and, and_false, eq_self]
            exact hp
          · simp (disch := omega) only [wpY_get, wY_get_76, vy_err, h, h0, h3, h5, nu_k01, nu_k02, nu_k03, nu_k04, nu_k05, nu_k10, nu_k12, nu_k13, nu_k14, nu_k15, nu_k20, nu_k21, nu_k23, nu_k24, nu_k25, nu_k30, nu_k31, nu_k32, nu_k34, nu_k35, nu_k40, nu_k41, nu_k42, nu_k43, nu_k45, nu_k50, nu_k51, nu_k52, nu_k53, nu_k54, nu_01, nu_40, nu_30, nu_20, nu_160, Int32.add_zero, Nat.reduceAdd, nu_m16, nu_16m, nu_m4, nu_4m, nu_m3, nu_3m, nu_m2, nu_2m, nI_1, nu_p2, nu_p3, nu_16p, nu_2p, nI_add, nu_cl, nu_in, Nat.add_zero, nu_l0, nu_l1, nu_l2, nu_l3, nu_l4, nu_i0_5, nu_i1_5, nu_i2_5, nu_i0_3, nu_i1_3, nu_i2_3, nu_n0, nu_n1, nu_na0, nu_na1, forall_eq, true_implies, false_implies, implies_true, not_true_eq_false, not_false_eq_true, and_true, true_and, and_self, true_or, or_true, false_or, or_false, false_and, and_false, eq_self]
            exact hp
  · refine ⟨(er_v bk v1 v2), (nI n, nI m, cc, rq, md, bk, ct, rt, rc, lk, wt, wc, ch, st, en, sn, sk, sr, fr, lf, cr, rr), (nI n, nI m, th, ch, ro, lk, st, nw, bf, ve, bk, md, yl, la, od, sm, fr, ct), ir_mk hn hm (R) hP, fun post hp => ?_, fun post hp => ?_⟩
    · simp (disch := omega) only [wpX_get, vx_err, h, nu_01, nu_40, nu_30, nu_20, nu_160, Int32.add_zero, Nat.reduceAdd, nu_m16, nu_16m, nu_m4, nu_4m, nu_m3, nu_3m, nu_m2, nu_2m, nI_1, nu_p2, nu_p3, nu_16p, nu_2p, nI_add, nu_cl, nu_in, Nat.add_zero, nu_l0, nu_l1, nu_l2, nu_l3, nu_l4, nu_i0_5, nu_i1_5, nu_i2_5, nu_i0_3, nu_i1_3, nu_i2_3, nu_n0, nu_n1, nu_na0, nu_na1, forall_eq, true_implies, false_implies, implies_true, not_true_eq_false, not_false_eq_true, and_true, true_and, and_self, true_or, or_true, false_or, or_false, false_and, and_false, eq_self]
      exact hp
    · simp (disch := omega) only [wpY_get, vy_err, h, nu_01, nu_40, nu_30, nu_20, nu_160, Int32.add_zero, Nat.reduceAdd, nu_m16, nu_16m, nu_m4, nu_4m, nu_m3, nu_3m, nu_m2, nu_2m, nI_1, nu_p2, nu_p3, nu_16p, nu_2p, nI_add, nu_cl, nu_in, Nat.add_zero, nu_l0, nu_l1, nu_l2, nu_l3, nu_l4, nu_i0_5, nu_i1_5, nu_i2_5, nu_i0_3, nu_i1_3, nu_i2_3, nu_n0, nu_n1, nu_na0, nu_na1, forall_eq, true_implies, false_implies, implies_true, not_true_eq_false, not_false_eq_true, and_true, true_and, and_self, true_or, or_true, false_or, or_false, false_and, and_false, eq_self]
      exact hp
theorem rr_S {u : SX} {v : SY} (I : i_Rel 0 u v) (v1 v2 : Int32) : sm_S (fun post => wpX_refresh post u v1 v2) (fun post => wpY_refresh post v v1 v2) := by
  obtain ⟨n, m, cc, rq, md, bk, ct, rt, rc, lk, wt, wc, ch, st, en, sn, sk, sr, fr, lf, cr, rr, th, ro, nw, bf, ve, yl, la, od, sm, rfl, rfl, hn, hm, R, hP⟩ := I
  by_cases h : er_v bk v1 v2 = 0
  · obtain ⟨s, k, hs, hk, rfl, rfl, hb⟩ := er_0 h
    by_cases h4 : st (16 * s + k) = 4 ∨ st (16 * s + k) = 3
    · obtain ⟨b, ch', st', en', sn', nw', bf', ve', hb, R', h1, h2, hX, hY⟩ := tk_S (nI n) (nI m) cc rq (upd ct 0 (ct 0 + 1)) sk sr fr lf cr rr yl la od sm hs hk R
      rcases h4 with h4 | h4
      · rcases hb with rfl | rfl
        · refine ⟨(-3), (nI n, nI m, cc, rq, md, bk, upd ct 0 (ct 0 + 1), rt, rc, lk, wt, wc, ch', st', en', sn', sk, sr, fr, lf, cr, rr), (nI n, nI m, th, ch', ro, lk, st', nw', bf', ve', bk, md, yl, la, od, sm, fr, upd ct 0 (ct 0 + 1)), ir_mk hn hm (R') hP, fun post hp => ?_, fun post hp => ?_⟩
          · simp (disch := omega) only [wpX_refresh, wX_refresh_40, vx_err, h, h4, nu_k01, nu_k02, nu_k03, nu_k04, nu_k05, nu_k10, nu_k12, nu_k13, nu_k14, nu_k15, nu_k20, nu_k21, nu_k23, nu_k24, nu_k25, nu_k30, nu_k31, nu_k32, nu_k34, nu_k35, nu_k40, nu_k41, nu_k42, nu_k43, nu_k45, nu_k50, nu_k51, nu_k52, nu_k53, nu_k54, nu_01, nu_40, nu_30, nu_20, nu_160, Int32.add_zero, Nat.reduceAdd, nu_m16, nu_16m, nu_m4, nu_4m, nu_m3, nu_3m, nu_m2, nu_2m, nI_1, nu_p2, nu_p3, nu_16p, nu_2p, nI_add, nu_cl, nu_in, Nat.add_zero, nu_l0, nu_l1, nu_l2, nu_l3, nu_l4, nu_i0_5, nu_i1_5, nu_i2_5, nu_i0_3, nu_i1_3, nu_i2_3, nu_n0, nu_n1, nu_na0, nu_na1, forall_eq, true_implies, false_implies, implies_true, not_true_eq_false, not_false_eq_true, and_true, true_and, and_self, true_or, or_true, false_or, or_false, false_and, and_false, eq_self]
            refine hX _ ?_
            simp (disch := omega) only [nu_k10, nu_01, nu_40, nu_30, nu_20, nu_160, Int32.add_zero, Nat.reduceAdd, nu_m16, nu_16m, nu_m4, nu_4m, nu_m3, nu_3m, nu_m2, nu_2m, nI_1, nu_p2, nu_p3, nu_16p, nu_2p, nI_add, nu_cl, nu_in, Nat.add_zero, nu_l0, nu_l1, nu_l2, nu_l3, nu_l4, nu_i0_5, nu_i1_5, nu_i2_5, nu_i0_3, nu_i1_3, nu_i2_3, nu_n0, nu_n1, nu_na0, nu_na1, forall_eq, true_implies, false_implies, implies_true, not_true_eq_false, not_false_eq_true, and_true, true_and, and_self, true_or, or_true, false_or, or_false, false_and, and_false, eq_self]
            exact hp
          · simp (disch := omega) only [wpY_refresh, wY_refresh_45, vy_err, h, h4, nu_k01, nu_k02, nu_k03, nu_k04, nu_k05, nu_k10, nu_k12, nu_k13, nu_k14, nu_k15, nu_k20, nu_k21, nu_k23, nu_k24, nu_k25, nu_k30, nu_k31, nu_k32, nu_k34, nu_k35, nu_k40, nu_k41, nu_k42, nu_k43, nu_k45, nu_k50, nu_k51, nu_k52, nu_k53, nu_k54, nu_01, nu_40, nu_30, nu_20, nu_160, Int32.add_zero, Nat.reduceAdd, nu_m16, nu_16m, nu_m4, nu_4m, nu_m3, nu_3m, nu_m2, nu_2m, nI_1, nu_p2, nu_p3, nu_16p, nu_2p, nI_add, nu_cl, nu_in, Nat.add_zero, nu_l0, nu_l1, nu_l2, nu_l3, nu_l4, nu_i0_5, nu_i1_5, nu_i2_5, nu_i0_3, nu_i1_3, nu_i2_3, nu_n0, nu_n1, nu_na0, nu_na1, forall_eq, true_implies, false_implies, implies_true, not_true_eq_false, not_false_eq_true, and_true, true_and, and_self, true_or, or_true, false_or, or_false, false_and, and_false, eq_self]
            refine hY _ ?_
            simp (disch := omega) only [nu_k10, nu_01, nu_40, nu_30, nu_20, nu_160, Int32.add_zero, Nat.reduceAdd, nu_m16, nu_16m, nu_m4, nu_4m, nu_m3, nu_3m, nu_m2, nu_2m, nI_1, nu_p2, nu_p3, nu_16p, nu_2p, nI_add, nu_cl, nu_in, Nat.add_zero, nu_l0, nu_l1, nu_l2, nu_l3, nu_l4, nu_i0_5, nu_i1_5, nu_i2_5, nu_i0_3, nu_i1_3, nu_i2_3, nu_n0, nu_n1, nu_na0, nu_na1, forall_eq, true_implies, false_implies, implies_true, not_true_eq_false, not_false_eq_true, and_true, true_and, and_self, true_or, or_true, false_or, or_false, false_and, and_false, eq_self]
            exact hp
        · refine ⟨0, (nI n, nI m, cc, rq, md, bk, upd ct 0 (ct 0 + 1), rt, rc, lk, wt, wc, ch', st', en', sn', sk, sr, fr, lf, cr, rr), (nI n, nI m, th, ch', ro, lk, st', nw', bf', ve', bk, md, yl, la, od, sm, fr, upd ct 0 (ct 0 + 1)), ir_mk hn hm (R') hP, fun post hp => ?_, fun post hp => ?_⟩
          · simp (disch := omega) only [wpX_refresh, wX_refresh_40, vx_err, h, h4, nu_k01, nu_k02, nu_k03, nu_k04, nu_k05, nu_k10, nu_k12, nu_k13, nu_k14, nu_k15, nu_k20, nu_k21, nu_k23, nu_k24, nu_k25, nu_k30, nu_k31, nu_k32, nu_k34, nu_k35, nu_k40, nu_k41, nu_k42, nu_k43, nu_k45, nu_k50, nu_k51, nu_k52, nu_k53, nu_k54, nu_01, nu_40, nu_30, nu_20, nu_160, Int32.add_zero, Nat.reduceAdd, nu_m16, nu_16m, nu_m4, nu_4m, nu_m3, nu_3m, nu_m2, nu_2m, nI_1, nu_p2, nu_p3, nu_16p, nu_2p, nI_add, nu_cl, nu_in, Nat.add_zero, nu_l0, nu_l1, nu_l2, nu_l3, nu_l4, nu_i0_5, nu_i1_5, nu_i2_5, nu_i0_3, nu_i1_3, nu_i2_3, nu_n0, nu_n1, nu_na0, nu_na1, forall_eq, true_implies, false_implies, implies_true, not_true_eq_false, not_false_eq_true, and_true, true_and, and_self, true_or, or_true, false_or, or_false, false_and, and_false, eq_self]
            refine hX _ ?_
            simp (disch := omega) only [nu_k10, nu_01, nu_40, nu_30, nu_20, nu_160, Int32.add_zero, Nat.reduceAdd, nu_m16, nu_16m, nu_m4, nu_4m, nu_m3, nu_3m, nu_m2, nu_2m, nI_1, nu_p2, nu_p3, nu_16p, nu_2p, nI_add, nu_cl, nu_in, Nat.add_zero, nu_l0, nu_l1, nu_l2, nu_l3, nu_l4, nu_i0_5, nu_i1_5, nu_i2_5, nu_i0_3, nu_i1_3, nu_i2_3, nu_n0, nu_n1, nu_na0, nu_na1, forall_eq, true_implies, false_implies, implies_true, not_true_eq_false, not_false_eq_true, and_true, true_and, and_self, true_or, or_true, false_or, or_false, false_and, and_false, eq_self]
            exact hp
          · simp (disch := omega) only [wpY_refresh, wY_refresh_45, vy_err, h, h4, nu_k01, nu_k02, nu_k03, nu_k04, nu_k05, nu_k10, nu_k12, nu_k13, nu_k14, nu_k15, nu_k20, nu_k21, nu_k23, nu_k24, nu_k25, nu_k30, nu_k31, nu_k32, nu_k34, nu_k35, nu_k40, nu_k41, nu_k42, nu_k43, nu_k45, nu_k50, nu_k51, nu_k52, nu_k53, nu_k54, nu_01, nu_40, nu_30, nu_20, nu_160, Int32.add_zero, Nat.reduceAdd, nu_m16, nu_16m, nu_m4, nu_4m, nu_m3, nu_3m, nu_m2, nu_2m, nI_1, nu_p2, nu_p3, nu_16p, nu_2p, nI_add, nu_cl, nu_in, Nat.add_zero, nu_l0, nu_l1, nu_l2, nu_l3, nu_l4, nu_i0_5, nu_i1_5, nu_i2_5, nu_i0_3, nu_i1_3, nu_i2_3, nu_n0, nu_n1, nu_na0, nu_na1, forall_eq, true_implies, false_implies, implies_true, not_true_eq_false, not_false_eq_true, and_true, true_and, and_self, true_or, or_true, false_or, or_false, false_and, and_false, eq_self]
            refine hY _ ?_
            simp (disch := omega) only [nu_k10, nu_01, nu_40, nu_30, nu_20, nu_160, Int32.add_zero, Nat.reduceAdd, nu_m16, nu_16m, nu_m4, nu_4m, nu_m3, nu_3m, nu_m2, nu_2m, nI_1, nu_p2, nu_p3, nu_16p, nu_2p, nI_add, nu_cl, nu_in, Nat.add_zero, nu_l0, nu_l1, nu_l2, nu_l3, nu_l4, nu_i0_5, nu_i1_5, nu_i2_5, nu_i0_3, nu_i1_3, nu_i2_3, nu_n0, nu_n1, nu_na0, nu_na1, forall_eq, true_implies, false_implies, implies_true, not_true_eq_false, not_false_eq_true, and_true, true_and, and_self, true_or, or_true, false_or, or_false, false_and, and_false, eq_self]
            exact hp
      · rcases hb with rfl | rfl
        · refine ⟨(-3), (nI n, nI m, cc, rq, md, bk, upd ct 0 (ct 0 + 1), rt, rc, lk, wt, wc, ch', st', en', sn', sk, sr, fr, lf, cr, rr), (nI n, nI m, th, ch', ro, lk, st', nw', bf', ve', bk, md, yl, la, od, sm, fr, upd ct 0 (ct 0 + 1)), ir_mk hn hm (R') hP, fun post hp => ?_, fun post hp => ?_⟩
          · simp (disch := omega) only [wpX_refresh, wX_refresh_40, vx_err, h, h4, nu_k01, nu_k02, nu_k03, nu_k04, nu_k05, nu_k10, nu_k12, nu_k13, nu_k14, nu_k15, nu_k20, nu_k21, nu_k23, nu_k24, nu_k25, nu_k30, nu_k31, nu_k32, nu_k34, nu_k35, nu_k40, nu_k41, nu_k42, nu_k43, nu_k45, nu_k50, nu_k51, nu_k52, nu_k53, nu_k54, nu_01, nu_40, nu_30, nu_20, nu_160, Int32.add_zero, Nat.reduceAdd, nu_m16, nu_16m, nu_m4, nu_4m, nu_m3, nu_3m, nu_m2, nu_2m, nI_1, nu_p2, nu_p3, nu_16p, nu_2p, nI_add, nu_cl, nu_in, Nat.add_zero, nu_l0, nu_l1, nu_l2, nu_l3, nu_l4, nu_i0_5, nu_i1_5, nu_i2_5, nu_i0_3, nu_i1_3, nu_i2_3, nu_n0, nu_n1, nu_na0, nu_na1, forall_eq, true_implies, false_implies, implies_true, not_true_eq_false, not_false_eq_true, and_true, true_and, and_self, true_or, or_true, false_or, or_false, false_and, and_false, eq_self]
            refine hX _ ?_
            simp (disch := omega) only [nu_k10, nu_01, nu_40, nu_30, nu_20, nu_160, Int32.add_zero, Nat.reduceAdd, nu_m16, nu_16m, nu_m4, nu_4m, nu_m3, nu_3m, nu_m2, nu_2m, nI_1, nu_p2, nu_p3, nu_16p, nu_2p, nI_add, nu_cl, nu_in, Nat.add_zero, nu_l0, nu_l1, nu_l2, nu_l3, nu_l4, nu_i0_5, nu_i1_5, nu_i2_5, nu_i0_3, nu_i1_3, nu_i2_3, nu_n0, nu_n1, nu_na0, nu_na1, forall_eq, true_implies, false_implies, implies_true, not_true_eq_false, not_false_eq_true, and_true, true_and, and_self, true_or, or_true, false_or, or_false, false_and, and_false, eq_self]
            exact hp
          · simp (disch := omega) only [wpY_refresh, wY_refresh_45, vy_err, h, h4, nu_k01, nu_k02, nu_k03, nu_k04, nu_k05, nu_k10, nu_k12, nu_k13, nu_k14, nu_k15, nu_k20, nu_k21, nu_k23, nu_k24, nu_k25, nu_k30, nu_k31, nu_k32, nu_k34, nu_k35, nu_k40, nu_k41, nu_k42, nu_k43, nu_k45, nu_k50, nu_k51, nu_k52, nu_k53, nu_k54, nu_01, nu_40, nu_30, nu_20, nu_160, Int32.add_zero, Nat.reduceAdd, nu_m16, nu_16m, nu_m4, nu_4m, nu_m3, nu_3m, nu_m2, nu_2m, nI_1, nu_p2, nu_p3, nu_16p, nu_2p, nI_add, nu_cl, nu_in, Nat.add_zero, nu_l0, nu_l1, nu_l2, nu_l3, nu_l4, nu_i0_5, nu_i1_5, nu_i2_5, nu_i0_3, nu_i1_3, nu_i2_3, nu_n0, nu_n1, nu_na0, nu_na1, forall_eq, true_implies, false_implies, implies_true, not_true_eq_false, not_false_eq_true, and_true, true_and, and_self, true_or, or_true, false_or, or_false, false_and, and_false, eq_self]
            refine hY _ ?_
            simp (disch := omega) only [nu_k10, nu_01, nu_40, nu_30, nu_20, nu_160, Int32.add_zero, Nat.reduceAdd, nu_m16, nu_16m, nu_m4, nu_4m, nu_m3, nu_3m, nu_m2, nu_2m, nI_1, nu_p2, nu_p3, nu_16p, nu_2p, nI_add, nu_cl, nu_in, Nat.add_zero, nu_l0, nu_l1, nu_l2, nu_l3, nu_l4, nu_i0_5, nu_i1_5, nu_i2_5, nu_i0_3, nu_i1_3, nu_i2_3, nu_n0, nu_n1, nu_na0, nu_na1, forall_eq, true_implies, false_implies, implies_true, not_true_eq_false, not_false_eq_true, and_true, true_and, and_self, true_or, or_true, false_or, or_false, false_and, and_false, eq_self]
            exact hp
        · refine ⟨0, (nI n, nI m, cc, rq, md, bk, upd ct 0 (ct 0 + 1), rt, rc, lk, wt, wc, ch', st', en', sn', sk, sr, fr, lf, cr, rr), (nI n, nI m, th, ch', ro, lk, st', nw', bf', ve', bk, md, yl, la, od, sm, fr, upd ct 0 (ct 0 + 1)), ir_mk hn hm (R') hP, fun post hp => ?_, fun post hp => ?_⟩
          · simp (disch := omega) only [wpX_refresh, wX_refresh_40, vx_err, h, h4, nu_k01, nu_k02, nu_k03, nu_k04, nu_k05, nu_k10, nu_k12, nu_k13, nu_k14, nu_k15, nu_k20, nu_k21, nu_k23, nu_k24, nu_k25, nu_k30, nu_k31, nu_k32, nu_k34, nu_k35, nu_k40, nu_k41, nu_k42, nu_k43, nu_k45, nu_k50, nu_k51, nu_k52, nu_k53, nu_k54, nu_01, nu_40, nu_30, nu_20, nu_160, Int32.add_zero, Nat.reduceAdd, nu_m16, nu_16m, nu_m4, nu_4m, nu_m3, nu_3m, nu_m2, nu_2m, nI_1, nu_p2, nu_p3, nu_16p, nu_2p, nI_add, nu_cl, nu_in, Nat.add_zero, nu_l0, nu_l1, nu_l2, nu_l3, nu_l4, nu_i0_5, nu_i1_5, nu_i2_5, nu_i0_3, nu_i1_3, nu_i2_3, nu_n0, nu_n1, nu_na0, nu_na1, forall_eq, true_implies, false_implies, implies_true, not_true_eq_false, not_false_eq_true, and_true, true_and, and_self, true_or, or_true, false_or, or_false, false_and, and_false, eq_self]
            refine hX _ ?_
            simp (disch := omega) only [nu_k10, nu_01, nu_40, nu_30, nu_20, nu_160, Int32.add_zero, Nat.reduceAdd, nu_m16, nu_16m, nu_m4, nu_4m, nu_m3, nu_3m, nu_m2, nu_2m, nI_1, nu_p2, nu_p3, nu_16p, nu_2p, nI_add, nu_cl, nu_in, Nat.add_zero, nu_l0, nu_l1, nu_l2, nu_l3, nu_l4, nu_i0_5, nu_i1_5, nu_i2_5, nu_i0_3, nu_i1_3, nu_i2_3, nu_n0, nu_n1, nu_na0, nu_na1, forall_eq, true_implies, false_implies, implies_true, not_true_eq_false, not_false_eq_true, and_true, true_and, and_self, true_or, or_true, false_or, or_false, false_and, and_false, eq_self]
            exact hp
          · simp (disch := omega) only [wpY_refresh, wY_refresh_45, vy_err, h, h4, nu_k01, nu_k02, nu_k03, nu_k04, nu_k05, nu_k10, nu_k12, nu_k13, nu_k14, nu_k15, nu_k20, nu_k21, nu_k23, nu_k24, nu_k25, nu_k30, nu_k31, nu_k32, nu_k34, nu_k35, nu_k40, nu_k41, nu_k42, nu_k43, nu_k45, nu_k50, nu_k51, nu_k52, nu_k53, nu_k54, nu_01, nu_40, nu_30, nu_20, nu_160, Int32.add_zero, Nat.reduceAdd, nu_m16, nu_16m, nu_m4, nu_4m, nu_m3, nu_3m, nu_m2, nu_2m, nI_1, nu_p2, nu_p3, nu_16p, nu_2p, nI_add, nu_cl, nu_in, Nat.add_zero, nu_l0, nu_l1, nu_l2, nu_l3, nu_l4, nu_i0_5, nu_i1_5, nu_i2_5, nu_i0_3, nu_i1_3, nu_i2_3, nu_n0, nu_n1, nu_na0, nu_na1, forall_eq, true_implies, false_implies, implies_true, not_true_eq_false, not_false_eq_true, and_true, true_and, and_self, true_or, or_true, false_or, or_false, false_and, and_false, eq_self]
            refine hY _ ?_
            simp (disch := omega) only [nu_k10, nu_01, nu_40, nu_30, nu_20, nu_160, Int32.add_zero, Nat.reduceAdd, nu_m16, nu_16m, nu_m4, nu_4m, nu_m3, nu_3m, nu_m2, nu_2m, nI_1, nu_p2, nu_p3, nu_16p, nu_2p, nI_add, nu_cl, nu_in, Nat.add_zero, nu_l0, nu_l1, nu_l2, nu_l3, nu_l4, nu_i0_5, nu_i1_5, nu_i2_5, nu_i0_3, nu_i1_3, nu_i2_3, nu_n0, nu_n1, nu_na0, nu_na1, forall_eq, true_implies, false_implies, implies_true, not_true_eq_false, not_false_eq_true, and_true, true_and, and_self, true_or, or_true, false_or, or_false, false_and, and_false, eq_self]
            exact hp
    · have n4 : ¬ st (16 * s + k) = 4 := fun q => h4 (Or.inl q)
      have n3 : ¬ st (16 * s + k) = 3 := fun q => h4 (Or.inr q)
      refine ⟨(-1), (nI n, nI m, cc, rq, md, bk, ct, rt, rc, lk, wt, wc, ch, st, en, sn, sk, sr, fr, lf, cr, rr), (nI n, nI m, th, ch, ro, lk, st, nw, bf, ve, bk, md, yl, la, od, sm, fr, ct), ir_mk hn hm (R) hP, fun post hp => ?_, fun post hp => ?_⟩
      · simp (disch := omega) only [wpX_refresh, vx_err, h, n4, n3, nu_01, nu_40, nu_30, nu_20, nu_160, Int32.add_zero, Nat.reduceAdd, nu_m16, nu_16m, nu_m4, nu_4m, nu_m3, nu_3m, nu_m2, nu_2m, nI_1, nu_p2, nu_p3, nu_16p, nu_2p, nI_add, nu_cl, nu_in, Nat.add_zero, nu_l0, nu_l1, nu_l2, nu_l3, nu_l4, nu_i0_5, nu_i1_5, nu_i2_5, nu_i0_3, nu_i1_3, nu_i2_3, nu_n0, nu_n1, nu_na0, nu_na1, forall_eq, true_implies, false_implies, implies_true, not_true_eq_false, not_false_eq_true, and_true, true_and, and_self, true_or, or_true, false_or, or_false, false_and, and_false, eq_self]
        exact hp
      · simp (disch := omega) only [wpY_refresh, vy_err, h, n4, n3, nu_01, nu_40, nu_30, nu_20, nu_160, Int32.add_zero, Nat.reduceAdd, nu_m16, nu_16m, nu_m4, nu_4m, nu_m3, nu_3m, nu_m2, nu_2m, nI_1, nu_p2, nu_p3, nu_16p, nu_2p, nI_add, nu_cl, nu_in, Nat.add_zero, nu_l0, nu_l1, nu_l2, nu_l3, nu_l4, nu_i0_5, nu_i1_5, nu_i2_5, nu_i0_3, nu_i1_3, nu_i2_3, nu_n0, nu_n1, nu_na0, nu_na1, forall_eq, true_implies, false_implies, implies_true, not_true_eq_false, not_false_eq_true, and_true, true_and, and_self, true_or, or_true, false_or, or_false, false_and, and_false, eq_self]
        exact hp
  · refine ⟨(er_v bk v1 v2), (nI n, nI m, cc, rq, md, bk, ct, rt, rc, lk, wt, wc, ch, st, en, sn, sk, sr, fr, lf, cr, rr), (nI n, nI m, th, ch, ro, lk, st, nw, bf, ve, bk, md, yl, la, od, sm, fr, ct), ir_mk hn hm (R) hP, fun post hp => ?_, fun post hp => ?_⟩
    · simp (disch := omega) only [wpX_refresh, vx_err, h, nu_01, nu_40, nu_30, nu_20, nu_160, Int32.add_zero, Nat.reduceAdd, nu_m16, nu_16m, nu_m4, nu_4m, nu_m3, nu_3m, nu_m2, nu_2m, nI_1, nu_p2, nu_p3, nu_16p, nu_2p, nI_add, nu_cl, nu_in, Nat.add_zero, nu_l0, nu_l1, nu_l2, nu_l3, nu_l4, nu_i0_5, nu_i1_5, nu_i2_5, nu_i0_3, nu_i1_3, nu_i2_3, nu_n0, nu_n1, nu_na0, nu_na1, forall_eq, true_implies, false_implies, implies_true, not_true_eq_false, not_false_eq_true, and_true, true_and, and_self, true_or, or_true, false_or, or_false, false_and, and_false, eq_self]
      exact hp
    · simp (disch := omega) only [wpY_refresh, vy_err, h, nu_01, nu_40, nu_30, nu_20, nu_160, Int32.add_zero, Nat.reduceAdd, nu_m16, nu_16m, nu_m4, nu_4m, nu_m3, nu_3m, nu_m2, nu_2m, nI_1, nu_p2, nu_p3, nu_16p, nu_2p, nI_add, nu_cl, nu_in, Nat.add_zero, nu_l0, nu_l1, nu_l2, nu_l3, nu_l4, nu_i0_5, nu_i1_5, nu_i2_5, nu_i0_3, nu_i1_3, nu_i2_3, nu_n0, nu_n1, nu_na0, nu_na1, forall_eq, true_implies, false_implies, implies_true, not_true_eq_false, not_false_eq_true, and_true, true_and, and_self, true_or, or_true, false_or, or_false, false_and, and_false, eq_self]
      exact hp
theorem re_S_ {u : SX} {v : SY} (I : i_Rel 0 u v) (v1 v2 v3 : Int32) : sm_S (fun post => wpX_read post u v1 v2 v3) (fun post => wpY_read post v v1 v2 v3) := by
  obtain ⟨n, m, cc, rq, md, bk, ct, rt, rc, lk, wt, wc, ch, st, en, sn, sk, sr, fr, lf, cr, rr, th, ro, nw, bf, ve, yl, la, od, sm, rfl, rfl, hn, hm, R, hP⟩ := I
  by_cases h : er_v bk v1 v2 = 0
  · obtain ⟨s, k, hs, hk, rfl, rfl, hb⟩ := er_0 h
    by_cases c0 : v3 < 0
    · have c4 : ¬ v3 = 4 := fun q => absurd (q ▸ c0) (by decide)
      have c5 : ¬ v3 = 5 := fun q => absurd (q ▸ c0) (by decide)
      refine ⟨(-10000000001), (nI n, nI m, cc, rq, md, bk, ct, rt, rc, lk, wt, wc, ch, st, en, sn, sk, sr, fr, lf, cr, rr), (nI n, nI m, th, ch, ro, lk, st, nw, bf, ve, bk, md, yl, la, od, sm, fr, ct), ir_mk hn hm (R) hP, fun post hp => ?_, fun post hp => ?_⟩
      · simp (disch := omega) only [wpX_read, vx_err, h, c0, c4, c5, nu_01, nu_40, nu_30, nu_20, nu_160, Int32.add_zero, Nat.reduceAdd, nu_m16, nu_16m, nu_m4, nu_4m, nu_m3, nu_3m, nu_m2, nu_2m, nI_1, nu_p2, nu_p3, nu_16p, nu_2p, nI_add, nu_cl, nu_in, Nat.add_zero, nu_l0, nu_l1, nu_l2, nu_l3, nu_l4, nu_i0_5, nu_i1_5, nu_i2_5, nu_i0_3, nu_i1_3, nu_i2_3, nu_n0, nu_n1, nu_na0, nu_na1, forall_eq, true_implies, false_implies, implies_true, not_true_eq_false, not_false_eq_true, and_true, true_and, and_self, true_or, or_true, false_or, or_false, false_and, and_false, eq_self]
        exact hp
      · simp (disch := omega) only [wpY_read, wpY_in, vy_err, h, c0, nu_01, nu_40, nu_30, nu_20, nu_160, Int32.add_zero, Nat.reduceAdd, nu_m16, nu_16m, nu_m4, nu_4m, nu_m3, nu_3m, nu_m2, nu_2m, nI_1, nu_p2, nu_p3, nu_16p, nu_2p, nI_add, nu_cl, nu_in, Nat.add_zero, nu_l0, nu_l1, nu_l2, nu_l3, nu_l4, nu_i0_5, nu_i1_5, nu_i2_5, nu_i0_3, nu_i1_3, nu_i2_3, nu_n0, nu_n1, nu_na0, nu_na1, forall_eq, true_implies, false_implies, implies_true, not_true_eq_false, not_false_eq_true, and_true, true_and, and_self, true_or, or_true, false_or, or_false, false_and, and_false, eq_self]
        exact hp
    · obtain ⟨j, hj, rfl⟩ := nI_of c0
      by_cases j6 : 6 ≤ j
      · refine ⟨(-10000000001), (nI n, nI m, cc, rq, md, bk, ct, rt, rc, lk, wt, wc, ch, st, en, sn, sk, sr, fr, lf, cr, rr), (nI n, nI m, th, ch, ro, lk, st, nw, bf, ve, bk, md, yl, la, od, sm, fr, ct), ir_mk hn hm (R) hP, fun post hp => ?_, fun post hp => ?_⟩
        · simp (disch := omega) only [wpX_read, vx_err, h, nu_u0, nu_v0, nu_u1, nu_v1, nu_u2, nu_v2, nu_u3, nu_v3, nu_u4, nu_v4, nu_u5, nu_v5, nu_u6, nu_v6, nu_a1, nu_b1, nu_c1, nu_d1, nu_e1, nu_f1, nu_g1, nu_h1, nu_a2, nu_b2, nu_c2, nu_d2, nu_e2, nu_f2, nu_g2, nu_h2, nu_a3, nu_b3, nu_c3, nu_d3, nu_e3, nu_f3, nu_g3, nu_h3, nu_a4, nu_b4, nu_c4, nu_d4, nu_e4, nu_f4, nu_g4, nu_h4, nu_a5, nu_b5, nu_c5, nu_d5, nu_e5, nu_f5, nu_g5, nu_h5, nu_a6, nu_b6, nu_c6, nu_d6, nu_e6, nu_f6, nu_g6, nu_h6, nu_a7, nu_b7, nu_c7, nu_d7, nu_e7, nu_f7, nu_g7, nu_h7, nu_a16, nu_b16, nu_c16, nu_d16, nu_e16, nu_f16, nu_g16, nu_h16, nu_neg, nu_pos, nu_01, nu_40, nu_30, nu_20, nu_160, Int32.add_zero, Nat.reduceAdd, nu_m16, nu_16m, nu_m4, nu_4m, nu_m3, nu_3m, nu_m2, nu_2m, nI_1, nu_p2, nu_p3, nu_16p, nu_2p, nI_add, nu_cl, nu_in, Nat.add_zero, nu_l0, nu_l1, nu_l2, nu_l3, nu_l4, nu_i0_5, nu_i1_5, nu_i2_5, nu_i0_3, nu_i1_3, nu_i2_3, nu_n0, nu_n1, nu_na0, nu_na1, forall_eq, true_implies, false_implies, implies_true, not_true_eq_false, not_false_eq_true, and_true, true_and, and_self, true_or, or_true, false_or, or_false, false_and, and_false, eq_self]
          exact hp
        · simp (disch := omega) only [wpY_read, wpY_in, vy_err, h, nu_a1, nu_b1, nu_c1, nu_d1, nu_e1, nu_f1, nu_g1, nu_h1, nu_a2, nu_b2, nu_c2, nu_d2, nu_e2, nu_f2, nu_g2, nu_h2, nu_a3, nu_b3, nu_c3, nu_d3, nu_e3, nu_f3, nu_g3, nu_h3, nu_a4, nu_b4, nu_c4, nu_d4, nu_e4, nu_f4, nu_g4, nu_h4, nu_a5, nu_b5, nu_c5, nu_d5, nu_e5, nu_f5, nu_g5, nu_h5, nu_a6, nu_b6, nu_c6, nu_d6, nu_e6, nu_f6, nu_g6, nu_h6, nu_a7, nu_b7, nu_c7, nu_d7, nu_e7, nu_f7, nu_g7, nu_h7, nu_a16, nu_b16, nu_c16, nu_d16, nu_e16, nu_f16, nu_g16, nu_h16, nu_neg, nu_pos, nu_01, nu_40, nu_30, nu_20, nu_160, Int32.add_zero, Nat.reduceAdd, nu_m16, nu_16m, nu_m4, nu_4m, nu_m3, nu_3m, nu_m2, nu_2m, nI_1, nu_p2, nu_p3, nu_16p, nu_2p, nI_add, nu_cl, nu_in, Nat.add_zero, nu_l0, nu_l1, nu_l2, nu_l3, nu_l4, nu_i0_5, nu_i1_5, nu_i2_5, nu_i0_3, nu_i1_3, nu_i2_3, nu_n0, nu_n1, nu_na0, nu_na1, forall_eq, true_implies, false_implies, implies_true, not_true_eq_false, not_false_eq_true, and_true, true_and, and_self, true_or, or_true, false_or, or_false, false_and, and_false, eq_self]
          exact hp
      · by_cases j4 : j = 4
        · refine ⟨((st (16 * s + k)).toInt64), (nI n, nI m, cc, rq, md, bk, ct, rt, rc, lk, wt, wc, ch, st, en, sn, sk, sr, fr, lf, cr, rr), (nI n, nI m, th, ch, ro, lk, st, nw, bf, ve, bk, md, yl, la, od, sm, fr, ct), ir_mk hn hm (R) hP, fun post hp => ?_, fun post hp => ?_⟩
          · simp (disch := omega) only [wpX_read, vx_err, h, nu_u0, nu_v0, nu_u1, nu_v1, nu_u2, nu_v2, nu_u3, nu_v3, nu_u4, nu_v4, nu_u5, nu_v5, nu_u6, nu_v6, nu_a1, nu_b1, nu_c1, nu_d1, nu_e1, nu_f1, nu_g1, nu_h1, nu_a2, nu_b2, nu_c2, nu_d2, nu_e2, nu_f2, nu_g2, nu_h2, nu_a3, nu_b3, nu_c3, nu_d3, nu_e3, nu_f3, nu_g3, nu_h3, nu_a4, nu_b4, nu_c4, nu_d4, nu_e4, nu_f4, nu_g4, nu_h4, nu_a5, nu_b5, nu_c5, nu_d5, nu_e5, nu_f5, nu_g5, nu_h5, nu_a6, nu_b6, nu_c6, nu_d6, nu_e6, nu_f6, nu_g6, nu_h6, nu_a7, nu_b7, nu_c7, nu_d7, nu_e7, nu_f7, nu_g7, nu_h7, nu_a16, nu_b16, nu_c16, nu_d16, nu_e16, nu_f16, nu_g16, nu_h16, nu_neg, nu_pos, nu_01, nu_40, nu_30, nu_20, nu_160, Int32.add_zero, Nat.reduceAdd, nu_m16, nu_16m, nu_m4, nu_4m, nu_m3, nu_3m, nu_m2, nu_2m, nI_1, nu_p2, nu_p3, nu_16p, nu_2p, nI_add, nu_cl, nu_in, Nat.add_zero, nu_l0, nu_l1, nu_l2, nu_l3, nu_l4, nu_i0_5, nu_i1_5, nu_i2_5, nu_i0_3, nu_i1_3, nu_i2_3, nu_n0, nu_n1, nu_na0, nu_na1, forall_eq, true_implies, false_implies, implies_true, not_true_eq_false, not_false_eq_true, and_true, true_and, and_self, true_or, or_true, false_or, or_false, false_and, and_false, eq_self]
            exact hp
          · simp (disch := omega) only [wpY_read, wpY_in, wY_read_57, vy_err, h, nu_k10, nu_u0, nu_v0, nu_u1, nu_v1, nu_u2, nu_v2, nu_u3, nu_v3, nu_u4, nu_v4, nu_u5, nu_v5, nu_u6, nu_v6, nu_a1, nu_b1, nu_c1, nu_d1, nu_e1, nu_f1, nu_g1, nu_h1, nu_a2, nu_b2, nu_c2, nu_d2, nu_e2, nu_f2, nu_g2, nu_h2, nu_a3, nu_b3, nu_c3, nu_d3, nu_e3, nu_f3, nu_g3, nu_h3, nu_a4, nu_b4, nu_c4, nu_d4, nu_e4, nu_f4, nu_g4, nu_h4, nu_a5, nu_b5, nu_c5, nu_d5, nu_e5, nu_f5, nu_g5, nu_h5, nu_a6, nu_b6, nu_c6, nu_d6, nu_e6, nu_f6, nu_g6, nu_h6, nu_a7, nu_b7, nu_c7, nu_d7, nu_e7, nu_f7, nu_g7, nu_h7, nu_a16, nu_b16, nu_c16, nu_d16, nu_e16, nu_f16, nu_g16, nu_h16, nu_neg, nu_pos, nu_01, nu_40, nu_30, nu_20, nu_160, Int32.add_zero, Nat.reduceAdd, nu_m16, nu_16m, nu_m4, nu_4m, nu_m3, nu_3m, nu_m2, nu_2m, nI_1, nu_p2, nu_p3, nu_16p, nu_2p, nI_add, nu_cl, nu_in, Nat.add_zero, nu_l0, nu_l1, nu_l2, nu_l3, nu_l4, nu_i0_5, nu_i1_5, nu_i2_5, nu_i0_3, nu_i1_3, nu_i2_3, nu_n0, nu_n1, nu_na0, nu_na1, forall_eq, true_implies, false_implies, implies_true, not_true_eq_false, not_false_eq_true, and_true, true_and, and_self, true_or, or_true, false_or, or_false, false_and, and_false, eq_self]
            exact hp
        · by_cases j5 : j = 5
          · refine ⟨if di_v (di_P st en sn (16 * s + k)) = 0 then 0 else 1, (nI n, nI m, cc, rq, md, bk, ct, rt, rc, lk, wt, wc, ch, st, en, sn, sk, sr, fr, lf, cr, rr), (nI n, nI m, th, ch, ro, lk, st, nw, bf, ve, bk, md, yl, la, od, sm, fr, ct), ir_mk hn hm R hP, fun post hp => ?_, fun post hp => ?_⟩
            · by_cases d : di_v (di_P st en sn (16 * s + k)) = 0
              · rw [if_pos d] at hp
                simp (disch := omega) only [wpX_read, vx_err, vx_dir, h, d, nu_u0, nu_v0, nu_u1, nu_v1, nu_u2, nu_v2, nu_u3, nu_v3, nu_u4, nu_v4, nu_u5, nu_v5, nu_u6, nu_v6, nu_a1, nu_b1, nu_c1, nu_d1, nu_e1, nu_f1, nu_g1, nu_h1, nu_a2, nu_b2, nu_c2, nu_d2, nu_e2, nu_f2, nu_g2, nu_h2, nu_a3, nu_b3, nu_c3, nu_d3, nu_e3, nu_f3, nu_g3, nu_h3, nu_a4, nu_b4, nu_c4, nu_d4, nu_e4, nu_f4, nu_g4, nu_h4, nu_a5, nu_b5, nu_c5, nu_d5, nu_e5, nu_f5, nu_g5, nu_h5, nu_a6, nu_b6, nu_c6, nu_d6, nu_e6, nu_f6, nu_g6, nu_h6, nu_a7, nu_b7, nu_c7, nu_d7, nu_e7, nu_f7, nu_g7, nu_h7, nu_a16, nu_b16, nu_c16, nu_d16, nu_e16, nu_f16, nu_g16, nu_h16, nu_neg, nu_pos, nu_01, nu_40, nu_30, nu_20, nu_160, Int32.add_zero, Nat.reduceAdd, nu_m16, nu_16m, nu_m4, nu_4m, nu_m3, nu_3m, nu_m2, nu_2m, nI_1, nu_p2, nu_p3, nu_16p, nu_2p, nI_add, nu_cl, nu_in, Nat.add_zero, nu_l0, nu_l1, nu_l2, nu_l3, nu_l4, nu_i0_5, nu_i1_5, nu_i2_5, nu_i0_3, nu_i1_3, nu_i2_3, nu_n0, nu_n1, nu_na0, nu_na1, forall_eq, true_implies, false_implies, implies_true, not_true_eq_false, not_false_eq_true, and_true, true_and, and_self, true_or, or_true, false_or, or_false, false_and, and_false, eq_self]
                exact hp
              · rw [if_neg d] at hp
                simp (disch := omega) only [wpX_read, vx_err, vx_dir, h, d, nu_u0, nu_v0, nu_u1, nu_v1, nu_u2, nu_v2, nu_u3, nu_v3, nu_u4, nu_v4, nu_u5, nu_v5, nu_u6, nu_v6, nu_a1, nu_b1, nu_c1, nu_d1, nu_e1, nu_f1, nu_g1, nu_h1, nu_a2, nu_b2, nu_c2, nu_d2, nu_e2, nu_f2, nu_g2, nu_h2, nu_a3, nu_b3, nu_c3, nu_d3, nu_e3, nu_f3, nu_g3, nu_h3, nu_a4, nu_b4, nu_c4, nu_d4, nu_e4, nu_f4, nu_g4, nu_h4, nu_a5, nu_b5, nu_c5, nu_d5, nu_e5, nu_f5, nu_g5, nu_h5, nu_a6, nu_b6, nu_c6, nu_d6, nu_e6, nu_f6, nu_g6, nu_h6, nu_a7, nu_b7, nu_c7, nu_d7, nu_e7, nu_f7, nu_g7, nu_h7, nu_a16, nu_b16, nu_c16, nu_d16, nu_e16, nu_f16, nu_g16, nu_h16, nu_neg, nu_pos, nu_01, nu_40, nu_30, nu_20, nu_160, Int32.add_zero, Nat.reduceAdd, nu_m16, nu_16m, nu_m4, nu_4m, nu_m3, nu_3m, nu_m2, nu_2m, nI_1, nu_p2, nu_p3, nu_16p, nu_2p, nI_add, nu_cl, nu_in, Nat.add_zero, nu_l0, nu_l1, nu_l2, nu_l3, nu_l4, nu_i0_5, nu_i1_5, nu_i2_5, nu_i0_3, nu_i1_3, nu_i2_3, nu_n0, nu_n1, nu_na0, nu_na1, forall_eq, true_implies, false_implies, implies_true, not_true_eq_false, not_false_eq_true, and_true, true_and, and_self, true_or, or_true, false_or, or_false, false_and, and_false, eq_self]
                exact hp
            · simp (disch := omega) only [wpY_read, wpY_in, wY_read_57, vy_err, h, nu_k10, nu_u0, nu_v0, nu_u1, nu_v1, nu_u2, nu_v2, nu_u3, nu_v3, nu_u4, nu_v4, nu_u5, nu_v5, nu_u6, nu_v6, nu_a1, nu_b1, nu_c1, nu_d1, nu_e1, nu_f1, nu_g1, nu_h1, nu_a2, nu_b2, nu_c2, nu_d2, nu_e2, nu_f2, nu_g2, nu_h2, nu_a3, nu_b3, nu_c3, nu_d3, nu_e3, nu_f3, nu_g3, nu_h3, nu_a4, nu_b4, nu_c4, nu_d4, nu_e4, nu_f4, nu_g4, nu_h4, nu_a5, nu_b5, nu_c5, nu_d5, nu_e5, nu_f5, nu_g5, nu_h5, nu_a6, nu_b6, nu_c6, nu_d6, nu_e6, nu_f6, nu_g6, nu_h6, nu_a7, nu_b7, nu_c7, nu_d7, nu_e7, nu_f7, nu_g7, nu_h7, nu_a16, nu_b16, nu_c16, nu_d16, nu_e16, nu_f16, nu_g16, nu_h16, nu_neg, nu_pos, nu_01, nu_40, nu_30, nu_20, nu_160, Int32.add_zero, Nat.reduceAdd, nu_m16, nu_16m, nu_m4, nu_4m, nu_m3, nu_3m, nu_m2, nu_2m, nI_1, nu_p2, nu_p3, nu_16p, nu_2p, nI_add, nu_cl, nu_in, Nat.add_zero, nu_l0, nu_l1, nu_l2, nu_l3, nu_l4, nu_i0_5, nu_i1_5, nu_i2_5, nu_i0_3, nu_i1_3, nu_i2_3, nu_n0, nu_n1, nu_na0, nu_na1, forall_eq, true_implies, false_implies, implies_true, not_true_eq_false, not_false_eq_true, and_true, true_and, and_self, true_or, or_true, false_or, or_false, false_and, and_false, eq_self]
              refine vy_dir (by omega) (re_rN R) (re_rS R) ?_
              by_cases d : di_v (di_P st en sn (16 * s + k)) = 0
              · rw [if_pos d] at hp
                simp only [d, forall_eq, true_implies, false_implies, implies_true, not_true_eq_false, not_false_eq_true, and_true, true_and, and_self, true_or, or_true, false_or, or_false, false_and, and_false, eq_self]
                exact hp
              · rw [if_neg d] at hp
                simp only [d, forall_eq, true_implies, false_implies, implies_true, not_true_eq_false, not_false_eq_true, and_true, true_and, and_self, true_or, or_true, false_or, or_false, false_and, and_false, eq_self]
                exact hp
          · by_cases h0 : st (16 * s + k) = 0
            · refine ⟨(-10000000001), (nI n, nI m, cc, rq, md, bk, ct, rt, rc, lk, wt, wc, ch, st, en, sn, sk, sr, fr, lf, cr, rr), (nI n, nI m, th, ch, ro, lk, st, nw, bf, ve, bk, md, yl, la, od, sm, fr, ct), ir_mk hn hm (R) hP, fun post hp => ?_, fun post hp => ?_⟩
              · simp (disch := omega) only [wpX_read, vx_err, h, h0, nu_u0, nu_v0, nu_u1, nu_v1, nu_u2, nu_v2, nu_u3, nu_v3, nu_u4, nu_v4, nu_u5, nu_v5, nu_u6, nu_v6, nu_a1, nu_b1, nu_c1, nu_d1, nu_e1, nu_f1, nu_g1, nu_h1, nu_a2, nu_b2, nu_c2, nu_d2, nu_e2, nu_f2, nu_g2, nu_h2, nu_a3, nu_b3, nu_c3, nu_d3, nu_e3, nu_f3, nu_g3, nu_h3, nu_a4, nu_b4, nu_c4, nu_d4, nu_e4, nu_f4, nu_g4, nu_h4, nu_a5, nu_b5, nu_c5, nu_d5, nu_e5, nu_f5, nu_g5, nu_h5, nu_a6, nu_b6, nu_c6, nu_d6, nu_e6, nu_f6, nu_g6, nu_h6, nu_a7, nu_b7, nu_c7, nu_d7, nu_e7, nu_f7, nu_g7, nu_h7, nu_a16, nu_b16, nu_c16, nu_d16, nu_e16, nu_f16, nu_g16, nu_h16, nu_neg, nu_pos, nu_01, nu_40, nu_30, nu_20, nu_160, Int32.add_zero, Nat.reduceAdd, nu_m16, nu_16m, nu_m4, nu_4m, nu_m3, nu_3m, nu_m2, nu_2m, nI_1, nu_p2, nu_p3, nu_16p, nu_2p, nI_add, nu_cl, nu_in, Nat.add_zero, nu_l0, nu_l1, nu_l2, nu_l3, nu_l4, nu_i0_5, nu_i1_5, nu_i2_5, nu_i0_3, nu_i1_3, nu_i2_3, nu_n0, nu_n1, nu_na0, nu_na1, forall_eq, true_implies, false_implies, implies_true, not_true_eq_false, not_false_eq_true, and_true, true_and, and_self, true_or, or_true, false_or, or_false, false_and, and_false, eq_self]
                exact hp
              · simp (disch := omega) only [wpY_read, wpY_in, vy_err, h, h0, nu_k10, nu_u0, nu_v0, nu_u1, nu_v1, nu_u2, nu_v2, nu_u3, nu_v3, nu_u4, nu_v4, nu_u5, nu_v5, nu_u6, nu_v6, nu_a1, nu_b1, nu_c1, nu_d1, nu_e1, nu_f1, nu_g1, nu_h1, nu_a2, nu_b2, nu_c2, nu_d2, nu_e2, nu_f2, nu_g2, nu_h2, nu_a3, nu_b3, nu_c3, nu_d3, nu_e3, nu_f3, nu_g3, nu_h3, nu_a4, nu_b4, nu_c4, nu_d4, nu_e4, nu_f4, nu_g4, nu_h4, nu_a5, nu_b5, nu_c5, nu_d5, nu_e5, nu_f5, nu_g5, nu_h5, nu_a6, nu_b6, nu_c6, nu_d6, nu_e6, nu_f6, nu_g6, nu_h6, nu_a7, nu_b7, nu_c7, nu_d7, nu_e7, nu_f7, nu_g7, nu_h7, nu_a16, nu_b16, nu_c16, nu_d16, nu_e16, nu_f16, nu_g16, nu_h16, nu_neg, nu_pos, nu_01, nu_40, nu_30, nu_20, nu_160, Int32.add_zero, Nat.reduceAdd, nu_m16, nu_16m, nu_m4, nu_4m, nu_m3, nu_3m, nu_m2, nu_2m, nI_1, nu_p2, nu_p3, nu_16p, nu_2p, nI_add, nu_cl, nu_in, Nat.add_zero, nu_l0, nu_l1, nu_l2, nu_l3, nu_l4, nu_i0_5, nu_i1_5, nu_i2_5, nu_i0_3, nu_i1_3, nu_i2_3, nu_n0, nu_n1, nu_na0, nu_na1, forall_eq, true_implies, false_implies, implies_true, not_true_eq_false, not_false_eq_true, and_true, true_and, and_self, true_or, or_true, false_or, or_false, false_and, and_false, eq_self]
                exact hp
            · by_cases h3 : st (16 * s + k) = 3
              · obtain ⟨b, ct', ch', st', en', sn', nw', bf', ve', hb, R', h1, hX, hY⟩ := to_S (nI n) (nI m) cc rq ct sk sr fr lf cr rr yl la od sm hs hk R
                rcases hb with rfl | rfl
                · refine ⟨(-10000000003), (nI n, nI m, cc, rq, md, bk, ct', rt, rc, lk, wt, wc, ch', st', en', sn', sk, sr, fr, lf, cr, rr), (nI n, nI m, th, ch', ro, lk, st', nw', bf', ve', bk, md, yl, la, od, sm, fr, ct'), ir_mk hn hm (R') hP, fun post hp => ?_, fun post hp => ?_⟩
                  · simp (disch := omega) only [wpX_read, vx_err, h, h3, nu_k01, nu_k02, nu_k03, nu_k04, nu_k05, nu_k10, nu_k12, nu_k13, nu_k14, nu_k15, nu_k20, nu_k21, nu_k23, nu_k24, nu_k25, nu_k30, nu_k31, nu_k32, nu_k34, nu_k35, nu_k40, nu_k41, nu_k42, nu_k43, nu_k45, nu_k50, nu_k51, nu_k52, nu_k53, nu_k54, nu_u0, nu_v0, nu_u1, nu_v1, nu_u2, nu_v2, nu_u3, nu_v3, nu_u4, nu_v4, nu_u5, nu_v5, nu_u6, nu_v6, nu_a1, nu_b1, nu_c1, nu_d1, nu_e1, nu_f1, nu_g1, nu_h1, nu_a2, nu_b2, nu_c2, nu_d2, nu_e2, nu_f2, nu_g2, nu_h2, nu_a3, nu_b3, nu_c3, nu_d3, nu_e3, nu_f3, nu_g3, nu_h3, nu_a4, nu_b4, nu_c4, nu_d4, nu_e4, nu_f4, nu_g4, nu_h4, nu_a5, nu_b5, nu_c5, nu_d5, nu_e5, nu_f5, nu_g5, nu_h5, nu_a6, nu_b6, nu_c6, nu_d6, nu_e6, nu_f6, nu_g6, nu_h6, nu_a7, nu_b7, nu_c7, nu_d7, nu_e7, nu_f7, nu_g7, nu_h7, nu_a16, nu_b16, nu_c16, nu_d16, nu_e16, nu_f16, nu_g16, nu_h16, nu_neg, nu_pos, nu_01, nu_40, nu_30, nu_20, nu_160, Int32.add_zero, Nat.reduceAdd, nu_m16, nu_16m, nu_m4, nu_4m, nu_m3, nu_3m, nu_m2, nu_2m, nI_1, nu_p2, nu_p3, nu_16p, nu_2p, nI_add, nu_cl, nu_in, Nat.add_zero, nu_l0, nu_l1, nu_l2, nu_l3, nu_l4, nu_i0_5, nu_i1_5, nu_i2_5, nu_i0_3, nu_i1_3, nu_i2_3, nu_n0, nu_n1, nu_na0, nu_na1, forall_eq, true_implies, false_implies, implies_true, not_true_eq_false, not_false_eq_true, and_true, true_and, and_self, true_or, or_true, false_or, or_false, false_and, and_false, eq_self]
                    refine hX _ ?_
                    simp (disch := omega) only [nu_k10, nu_01, nu_40, nu_30, nu_20, nu_160, Int32.add_zero, Nat.reduceAdd, nu_m16, nu_16m, nu_m4, nu_4m, nu_m3, nu_3m, nu_m2, nu_2m, nI_1, nu_p2, nu_p3, nu_16p, nu_2p, nI_add, nu_cl, nu_in, Nat.add_zero, nu_l0, nu_l1, nu_l2, nu_l3, nu_l4, nu_i0_5, nu_i1_5, nu_i2_5, nu_i0_3, nu_i1_3, nu_i2_3, nu_n0, nu_n1, nu_na0, nu_na1, forall_eq, true_implies, false_implies, implies_true, not_true_eq_false, not_false_eq_true, and_true, true_and, and_self, true_or, or_true, false_or, or_false, false_and, and_false, eq_self]
                    exact hp
                  · simp (disch := omega) only [wpY_read, wpY_in, wY_read_57, vy_err, h, h3, nu_k01, nu_k02, nu_k03, nu_k04, nu_k05, nu_k10, nu_k12, nu_k13, nu_k14, nu_k15, nu_k20, nu_k21, nu_k23, nu_k24, nu_k25, nu_k30, nu_k31, nu_k32, nu_k34, nu_k35, nu_k40, nu_k41, nu_k42, nu_k43, nu_k45, nu_k50, nu_k51, nu_k52, nu_k53, nu_k54, nu_u0, nu_v0, nu_u1, nu_v1, nu_u2, nu_v2, nu_u3, nu_v3, nu_u4, nu_v4, nu_u5, nu_v5, nu_u6, nu_v6, nu_a1, nu_b1, nu_c1, nu_d1, nu_e1, nu_f1, nu_g1, nu_h1, nu_a2, nu_b2, nu_c2, nu_d2, nu_e2, nu_f2, nu_g2, nu_h2, nu_a3, nu_b3, nu_c3, nu_d3, nu_e3, nu_f3, nu_g3, nu_h3, nu_a4, nu_b4, nu_c4, nu_d4, nu_e4, nu_f4, nu_g4, nu_h4, nu_a5, nu_b5, nu_c5, nu_d5, nu_e5, nu_f5, nu_g5, nu_h5, nu_a6, nu_b6, nu_c6, nu_d6, nu_e6, nu_f6, nu_g6, nu_h6, nu_a7, nu_b7, nu_c7, nu_d7, nu_e7, nu_f7, nu_g7, nu_h7, nu_a16, nu_b16, nu_c16, nu_d16, nu_e16, nu_f16, nu_g16, nu_h16, nu_neg, nu_pos, nu_01, nu_40, nu_30, nu_20, nu_160, Int32.add_zero, Nat.reduceAdd, nu_m16, nu_16m, nu_m4, nu_4m, nu_m3, nu_3m, nu_m2, nu_2m, nI_1, nu_p2, nu_p3, nu_16p, nu_2p, nI_add, nu_cl, nu_in, Nat.add_zero, nu_l0, nu_l1, nu_l2, nu_l3, nu_l4, nu_i0_5, nu_i1_5, nu_i2_5, nu_i0_3, nu_i1_3, nu_i2_3, nu_n0, nu_n1, nu_na0, nu_na1, forall_eq, true_implies, false_implies, implies_true, not_true_eq_false, not_false_eq_true, and_true, true_and, and_self, true_or, or_true, false_or, or_false, false_and, and_false, eq_self]
                    refine hY _ ?_
                    simp (disch := omega) only [wY_read_116, nu_k10, nu_01, nu_40, nu_30, nu_20, nu_160, Int32.add_zero, Nat.reduceAdd, nu_m16, nu_16m, nu_m4, nu_4m, nu_m3, nu_3m, nu_m2, nu_2m, nI_1, nu_p2, nu_p3, nu_16p, nu_2p, nI_add, nu_cl, nu_in, Nat.add_zero, nu_l0, nu_l1, nu_l2, nu_l3, nu_l4, nu_i0_5, nu_i1_5, nu_i2_5, nu_i0_3, nu_i1_3, nu_i2_3, nu_n0, nu_n1, nu_na0, nu_na1, forall_eq, true_implies, false_implies, implies_true, not_true_eq_false, not_false_eq_true, and_true, true_and, and_self, true_or, or_true, false_or, or_false, false_and, and_false, eq_self]
                    exact hp
                · have f4 := h1 rfl
                  obtain ⟨r, gX, gY⟩ := rd_110 (sc := nI n) (fc := nI m) (cc := cc) (rq := rq) (ct := ct') (sk := sk) (sr := sr) (fr := fr) (lf := lf) (cr := cr) (rr := rr) (yl := yl) (la := la) (od := od) (sm := sm) (E := 16 * s + k) (j := j) R' (by omega) (by omega) (by rw [f4]; decide) (by rw [f4]; decide)
                  refine ⟨r, (nI n, nI m, cc, rq, md, bk, ct', rt, rc, lk, wt, wc, ch', st', en', sn', sk, sr, fr, lf, cr, rr), (nI n, nI m, th, ch', ro, lk, st', nw', bf', ve', bk, md, yl, la, od, sm, fr, ct'), ir_mk hn hm R' hP, fun post hp => ?_, fun post hp => ?_⟩
                  · simp (disch := omega) only [wpX_read, vx_err, h, h3, nu_k01, nu_k02, nu_k03, nu_k04, nu_k05, nu_k10, nu_k12, nu_k13, nu_k14, nu_k15, nu_k20, nu_k21, nu_k23, nu_k24, nu_k25, nu_k30, nu_k31, nu_k32, nu_k34, nu_k35, nu_k40, nu_k41, nu_k42, nu_k43, nu_k45, nu_k50, nu_k51, nu_k52, nu_k53, nu_k54, nu_u0, nu_v0, nu_u1, nu_v1, nu_u2, nu_v2, nu_u3, nu_v3, nu_u4, nu_v4, nu_u5, nu_v5, nu_u6, nu_v6, nu_a1, nu_b1, nu_c1, nu_d1, nu_e1, nu_f1, nu_g1, nu_h1, nu_a2, nu_b2, nu_c2, nu_d2, nu_e2, nu_f2, nu_g2, nu_h2, nu_a3, nu_b3, nu_c3, nu_d3, nu_e3, nu_f3, nu_g3, nu_h3, nu_a4, nu_b4, nu_c4, nu_d4, nu_e4, nu_f4, nu_g4, nu_h4, nu_a5, nu_b5, nu_c5, nu_d5, nu_e5, nu_f5, nu_g5, nu_h5, nu_a6, nu_b6, nu_c6, nu_d6, nu_e6, nu_f6, nu_g6, nu_h6, nu_a7, nu_b7, nu_c7, nu_d7, nu_e7, nu_f7, nu_g7, nu_h7, nu_a16, nu_b16, nu_c16, nu_d16, nu_e16, nu_f16, nu_g16, nu_h16, nu_neg, nu_pos, nu_01, nu_40, nu_30, nu_20, nu_160, Int32.add_zero, Nat.reduceAdd, nu_m16, nu_16m, nu_m4, nu_4m, nu_m3, nu_3m, nu_m2, nu_2m, nI_1, nu_p2, nu_p3, nu_16p, nu_2p, nI_add, nu_cl, nu_in, Nat.add_zero, nu_l0, nu_l1, nu_l2, nu_l3, nu_l4, nu_i0_5, nu_i1_5, nu_i2_5, nu_i0_3, nu_i1_3, nu_i2_3, nu_n0, nu_n1, nu_na0, nu_na1, forall_eq, true_implies, false_implies, implies_true, not_true_eq_false, not_false_eq_true, and_true, true_and, and_self, true_or, or_true, false_or, or_false, false_and, and_false, eq_self]
                    refine hX _ ?_
                    simp only [nu_k10, forall_eq, true_implies, false_implies, implies_true, not_true_eq_false, not_false_eq_true, and_true, true_and, and_self, true_or, or_true, false_or, or_false, false_and, and_false, eq_self]
                    exact gX post hp
                  · simp (disch := omega) only [wpY_read, wpY_in, wY_read_57, vy_err, h, h3, nu_k01, nu_k02, nu_k03, nu_k04, nu_k05, nu_k10, nu_k12, nu_k13, nu_k14, nu_k15, nu_k20, nu_k21, nu_k23, nu_k24, nu_k25, nu_k30, nu_k31, nu_k32, nu_k34, nu_k35, nu_k40, nu_k41, nu_k42, nu_k43, nu_k45, nu_k50, nu_k51, nu_k52, nu_k53, nu_k54, nu_u0, nu_v0, nu_u1, nu_v1, nu_u2, nu_v2, nu_u3, nu_v3, nu_u4, nu_v4, nu_u5, nu_v5, nu_u6, nu_v6, nu_a1, nu_b1, nu_c1, nu_d1, nu_e1, nu_f1, nu_g1, nu_h1, nu_a2, nu_b2, nu_c2, nu_d2, nu_e2, nu_f2, nu_g2, nu_h2, nu_a3, nu_b3, nu_c3, nu_d3, nu_e3, nu_f3, nu_g3, nu_h3, nu_a4, nu_b4, nu_c4, nu_d4, nu_e4, nu_f4, nu_g4, nu_h4, nu_a5, nu_b5, nu_c5, nu_d5, nu_e5, nu_f5, nu_g5, nu_h5, nu_a6, nu_b6, nu_c6, nu_d6, nu_e6, nu_f6, nu_g6, nu_h6, nu_a7, nu_b7, nu_c7, nu_d7, nu_e7, nu_f7, nu_g7, nu_h7, nu_a16, nu_b16, nu_c16, nu_d16, nu_e16, nu_f16, nu_g16, nu_h16, nu_neg, nu_pos, nu_01, nu_40, nu_30, nu_20, nu_160, Int32.add_zero, Nat.reduceAdd, nu_m16, nu_16m, nu_m4, nu_4m, nu_m3, nu_3m, nu_m2, nu_2m, nI_1, nu_p2, nu_p3, nu_16p, nu_2p, nI_add, nu_cl, nu_in, Nat.add_zero, nu_l0, nu_l1, nu_l2, nu_l3, nu_l4, nu_i0_5, nu_i1_5, nu_i2_5, nu_i0_3, nu_i1_3, nu_i2_3, nu_n0, nu_n1, nu_na0, nu_na1, forall_eq, true_implies, false_implies, implies_true, not_true_eq_false, not_false_eq_true, and_true, true_and, and_self, true_or, or_true, false_or, or_false, false_and, and_false, eq_self]
                    refine hY _ ?_
                    simp only [nu_k10, wY_read_111, forall_eq, true_implies, false_implies, implies_true, not_true_eq_false, not_false_eq_true, and_true, true_and, and_self, true_or, or_true, false_or, or_false, false_and, and_false, eq_self]
                    exact gY post hp
              · obtain ⟨r, gX, gY⟩ := rd_110 (sc := nI n) (fc := nI m) (cc := cc) (rq := rq) (ct := ct) (sk := sk) (sr := sr) (fr := fr) (lf := lf) (cr := cr) (rr := rr) (yl := yl) (la := la) (od := od) (sm := sm) (E := 16 * s + k) (j := j) R (by omega) (by omega) h0 h3
                refine ⟨r, (nI n, nI m, cc, rq, md, bk, ct, rt, rc, lk, wt, wc, ch, st, en, sn, sk, sr, fr, lf, cr, rr), (nI n, nI m, th, ch, ro, lk, st, nw, bf, ve, bk, md, yl, la, od, sm, fr, ct), ir_mk hn hm R hP, fun post hp => ?_, fun post hp => ?_⟩
                · simp (disch := omega) only [wpX_read, vx_err, h, h0, h3, nu_k01, nu_k02, nu_k03, nu_k04, nu_k05, nu_k10, nu_k12, nu_k13, nu_k14, nu_k15, nu_k20, nu_k21, nu_k23, nu_k24, nu_k25, nu_k30, nu_k31, nu_k32, nu_k34, nu_k35, nu_k40, nu_k41, nu_k42, nu_k43, nu_k45, nu_k50, nu_k51, nu_k52, nu_k53, nu_k54, nu_u0, nu_v0, nu_u1, nu_v1, nu_u2, nu_v2, nu_u3, nu_v3, nu_u4, nu_v4, nu_u5, nu_v5, nu_u6, nu_v6, nu_a1, nu_b1, nu_c1, nu_d1, nu_e1, nu_f1, nu_g1, nu_h1, nu_a2, nu_b2, nu_c2, nu_d2, nu_e2, nu_f2, nu_g2, nu_h2, nu_a3, nu_b3, nu_c3, nu_d3, nu_e3, nu_f3, nu_g3, nu_h3, nu_a4, nu_b4, nu_c4, nu_d4, nu_e4, nu_f4, nu_g4, nu_h4, nu_a5, nu_b5, nu_c5, nu_d5, nu_e5, nu_f5, nu_g5, nu_h5, nu_a6, nu_b6, nu_c6, nu_d6, nu_e6, nu_f6, nu_g6, nu_h6, nu_a7, nu_b7, nu_c7, nu_d7, nu_e7, nu_f7, nu_g7, nu_h7, nu_a16, nu_b16, nu_c16, nu_d16, nu_e16, nu_f16, nu_g16, nu_h16, nu_neg, nu_pos, nu_01, nu_40, nu_30, nu_20, nu_160, Int32.add_zero, Nat.reduceAdd, nu_m16, nu_16m, nu_m4, nu_4m, nu_m3, nu_3m, nu_m2, nu_2m, nI_1, nu_p2, nu_p3, nu_16p, nu_2p, nI_add, nu_cl, nu_in, Nat.add_zero, nu_l0, nu_l1, nu_l2, nu_l3, nu_l4, nu_i0_5, nu_i1_5, nu_i2_5, nu_i0_3, nu_i1_3, nu_i2_3, nu_n0, nu_n1, nu_na0, nu_na1, forall_eq, true_implies, false_implies, implies_true, not_true_eq_false, not_false_eq_true, and_true, true_and, and_self, true_or, or_true, false_or, or_false, false_and, and_false, eq_self]
                  exact gX post hp
                · simp (disch := omega) only [wpY_read, wpY_in, wY_read_57, wY_read_111, vy_err, h, h0, h3, nu_k01, nu_k02, nu_k03, nu_k04, nu_k05, nu_k10, nu_k12, nu_k13, nu_k14, nu_k15, nu_k20, nu_k21, nu_k23, nu_k24, nu_k25, nu_k30, nu_k31, nu_k32, nu_k34, nu_k35, nu_k40, nu_k41, nu_k42, nu_k43, nu_k45, nu_k50, nu_k51, nu_k52, nu_k53, nu_k54, nu_u0, nu_v0, nu_u1, nu_v1, nu_u2, nu_v2, nu_u3, nu_v3, nu_u4, nu_v4, nu_u5, nu_v5, nu_u6, nu_v6, nu_a1, nu_b1, nu_c1, nu_d1, nu_e1, nu_f1, nu_g1, nu_h1, nu_a2, nu_b2, nu_c2, nu_d2, nu_e2, nu_f2, nu_g2, nu_h2, nu_a3, nu_b3, nu_c3, nu_d3, nu_e3, nu_f3, nu_g3, nu_h3, nu_a4, nu_b4, nu_c4, nu_d4, nu_e4, nu_f4, nu_g4, nu_h4, nu_a5, nu_b5, nu_c5, nu_d5, nu_e5, nu_f5, nu_g5, nu_h5, nu_a6, nu_b6, nu_c6, nu_d6, nu_e6, nu_f6, nu_g6, nu_h6, nu_a7, nu_b7, nu_c7, nu_d7, nu_e7, nu_f7, nu_g7, nu_h7, nu_a16, nu_b16, nu_c16, nu_d16, nu_e16, nu_f16, nu_g16, nu_h16, nu_neg, nu_pos, nu_01, nu_40, nu_30, nu_20, nu_160, Int32.add_zero, Nat.reduceAdd, nu_m16, nu_16m, nu_m4, nu_4m, nu_m3, nu_3m, nu_m2, nu_2m, nI_1, nu_p2, nu_p3, nu_16p, nu_2p, nI_add, nu_cl, nu_in, Nat.add_zero, nu_l0, nu_l1, nu_l2, nu_l3, nu_l4, nu_i0_5, nu_i1_5, nu_i2_5, nu_i0_3, nu_i1_3, nu_i2_3, nu_n0, nu_n1, nu_na0, nu_na1, forall_eq, true_implies, false_implies, implies_true, not_true_eq_false, not_false_eq_true, and_true, true_and, and_self, true_or, or_true, false_or, or_false, false_and, and_false, eq_self]
                  exact gY post hp
  · refine ⟨((er_v bk v1 v2).toInt64 + (-10000000000)), (nI n, nI m, cc, rq, md, bk, ct, rt, rc, lk, wt, wc, ch, st, en, sn, sk, sr, fr, lf, cr, rr), (nI n, nI m, th, ch, ro, lk, st, nw, bf, ve, bk, md, yl, la, od, sm, fr, ct), ir_mk hn hm (R) hP, fun post hp => ?_, fun post hp => ?_⟩
    · simp (disch := omega) only [wpX_read, vx_err, h, nu_01, nu_40, nu_30, nu_20, nu_160, Int32.add_zero, Nat.reduceAdd, nu_m16, nu_16m, nu_m4, nu_4m, nu_m3, nu_3m, nu_m2, nu_2m, nI_1, nu_p2, nu_p3, nu_16p, nu_2p, nI_add, nu_cl, nu_in, Nat.add_zero, nu_l0, nu_l1, nu_l2, nu_l3, nu_l4, nu_i0_5, nu_i1_5, nu_i2_5, nu_i0_3, nu_i1_3, nu_i2_3, nu_n0, nu_n1, nu_na0, nu_na1, forall_eq, true_implies, false_implies, implies_true, not_true_eq_false, not_false_eq_true, and_true, true_and, and_self, true_or, or_true, false_or, or_false, false_and, and_false, eq_self]
      exact hp
    · simp (disch := omega) only [wpY_read, vy_err, h, nu_01, nu_40, nu_30, nu_20, nu_160, Int32.add_zero, Nat.reduceAdd, nu_m16, nu_16m, nu_m4, nu_4m, nu_m3, nu_3m, nu_m2, nu_2m, nI_1, nu_p2, nu_p3, nu_16p, nu_2p, nI_add, nu_cl, nu_in, Nat.add_zero, nu_l0, nu_l1, nu_l2, nu_l3, nu_l4, nu_i0_5, nu_i1_5, nu_i2_5, nu_i0_3, nu_i1_3, nu_i2_3, nu_n0, nu_n1, nu_na0, nu_na1, forall_eq, true_implies, false_implies, implies_true, not_true_eq_false, not_false_eq_true, and_true, true_and, and_self, true_or, or_true, false_or, or_false, false_and, and_false, eq_self]
      exact hp
end
section
theorem wr_S {u : SX} {v : SY} (I : i_Rel 0 u v) (v1 v2 v3 v4 : Int32) : sm_S (fun post => wpX_write post u v1 v2 v3 v4) (fun post => wpY_write post v v1 v2 v3 v4) := by
  obtain ⟨n, m, cc, rq, md, bk, ct, rt, rc, lk, wt, wc, ch, st, en, sn, sk, sr, fr, lf, cr, rr, th, ro, nw, bf, ve, yl, la, od, sm, rfl, rfl, hn, hm, R, hP⟩ := I
  by_cases h : er_v bk v1 v2 = 0
  · obtain ⟨s, k, hs, hk, rfl, rfl, hb⟩ := er_0 h
    by_cases c0 : v3 < 0
    · refine ⟨(-1), (nI n, nI m, cc, rq, md, bk, ct, rt, rc, lk, wt, wc, ch, st, en, sn, sk, sr, fr, lf, cr, rr), (nI n, nI m, th, ch, ro, lk, st, nw, bf, ve, bk, md, yl, la, od, sm, fr, ct), ir_mk hn hm (R) hP, fun post hp => ?_, fun post hp => ?_⟩
      · simp (disch := omega) only [wpX_write, vx_err, h, c0, nu_01, nu_40, nu_30, nu_20, nu_160, Int32.add_zero, Nat.reduceAdd, nu_m16, nu_16m, nu_m4, nu_4m, nu_m3, nu_3m, nu_m2, nu_2m, nI_1, nu_p2, nu_p3, nu_16p, nu_2p, nI_add, nu_cl, nu_in, Nat.add_zero, nu_l0, nu_l1, nu_l2, nu_l3, nu_l4, nu_i0_5, nu_i1_5, nu_i2_5, nu_i0_3, nu_i1_3, nu_i2_3, nu_n0, nu_n1, nu_na0, nu_na1, forall_eq, true_implies, false_implies, implies_true, not_true_eq_false, not_false_eq_true, and_true, true_and, and_self, true_or, or_true, false_or, or_false, false_and, and_false, eq_self]
        exact hp
      · simp (disch := omega) only [wpY_write, wpY_in, vy_err, h, c0, nu_01, nu_40, nu_30, nu_20, nu_160, Int32.add_zero, Nat.reduceAdd, nu_m16, nu_16m, nu_m4, nu_4m, nu_m3, nu_3m, nu_m2, nu_2m, nI_1, nu_p2, nu_p3, nu_16p, nu_2p, nI_add, nu_cl, nu_in, Nat.add_zero, nu_l0, nu_l1, nu_l2, nu_l3, nu_l4, nu_i0_5, nu_i1_5, nu_i2_5, nu_i0_3, nu_i1_3, nu_i2_3, nu_n0, nu_n1, nu_na0, nu_na1, forall_eq, true_implies, false_implies, implies_true, not_true_eq_false, not_false_eq_true, and_true, true_and, and_self, true_or, or_true, false_or, or_false, false_and, and_false, eq_self]
        exact hp
    · obtain ⟨j, hj, rfl⟩ := nI_of c0
      by_cases j3 : 3 ≤ j
      · refine ⟨(-1), (nI n, nI m, cc, rq, md, bk, ct, rt, rc, lk, wt, wc, ch, st, en, sn, sk, sr, fr, lf, cr, rr), (nI n, nI m, th, ch, ro, lk, st, nw, bf, ve, bk, md, yl, la, od, sm, fr, ct), ir_mk hn hm (R) hP, fun post hp => ?_, fun post hp => ?_⟩
        · simp (disch := omega) only [wpX_write, vx_err, h, nu_u0, nu_v0, nu_u1, nu_v1, nu_u2, nu_v2, nu_u3, nu_v3, nu_u4, nu_v4, nu_u5, nu_v5, nu_u6, nu_v6, nu_a1, nu_b1, nu_c1, nu_d1, nu_e1, nu_f1, nu_g1, nu_h1, nu_a2, nu_b2, nu_c2, nu_d2, nu_e2, nu_f2, nu_g2, nu_h2, nu_a3, nu_b3, nu_c3, nu_d3, nu_e3, nu_f3, nu_g3, nu_h3, nu_a4, nu_b4, nu_c4, nu_d4, nu_e4, nu_f4, nu_g4, nu_h4, nu_a5, nu_b5, nu_c5, nu_d5, nu_e5, nu_f5, nu_g5, nu_h5, nu_a6, nu_b6, nu_c6, nu_d6, nu_e6, nu_f6, nu_g6, nu_h6, nu_a7, nu_b7, nu_c7, nu_d7, nu_e7, nu_f7, nu_g7, nu_h7, nu_a16, nu_b16, nu_c16, nu_d16, nu_e16, nu_f16, nu_g16, nu_h16, nu_neg, nu_pos, nu_01, nu_40, nu_30, nu_20, nu_160, Int32.add_zero, Nat.reduceAdd, nu_m16, nu_16m, nu_m4, nu_4m, nu_m3, nu_3m, nu_m2, nu_2m, nI_1, nu_p2, nu_p3, nu_16p, nu_2p, nI_add, nu_cl, nu_in, Nat.add_zero, nu_l0, nu_l1, nu_l2, nu_l3, nu_l4, nu_i0_5, nu_i1_5, nu_i2_5, nu_i0_3, nu_i1_3, nu_i2_3, nu_n0, nu_n1, nu_na0, nu_na1, forall_eq, true_implies, false_implies, implies_true, not_true_eq_false, not_false_eq_true, and_true, true_and, and_self, true_or, or_true, false_or, or_false, false_and, and_false, eq_self]
          exact hp
        · simp (disch := omega) only [wpY_write, wpY_in, vy_err, h, nu_a1, nu_b1, nu_c1, nu_d1, nu_e1, nu_f1, nu_g1, nu_h1, nu_a2, nu_b2, nu_c2, nu_d2, nu_e2, nu_f2, nu_g2, nu_h2, nu_a3, nu_b3, nu_c3, nu_d3, nu_e3, nu_f3, nu_g3, nu_h3, nu_a4, nu_b4, nu_c4, nu_d4, nu_e4, nu_f4, nu_g4, nu_h4, nu_a5, nu_b5, nu_c5, nu_d5, nu_e5, nu_f5, nu_g5, nu_h5, nu_a6, nu_b6, nu_c6, nu_d6, nu_e6, nu_f6, nu_g6, nu_h6, nu_a7, nu_b7, nu_c7, nu_d7, nu_e7, nu_f7, nu_g7, nu_h7, nu_a16, nu_b16, nu_c16, nu_d16, nu_e16, nu_f16, nu_g16, nu_h16, nu_neg, nu_pos, nu_01, nu_40, nu_30, nu_20, nu_160, Int32.add_zero, Nat.reduceAdd, nu_m16, nu_16m, nu_m4, nu_4m, nu_m3, nu_3m, nu_m2, nu_2m, nI_1, nu_p2, nu_p3, nu_16p, nu_2p, nI_add, nu_cl, nu_in, Nat.add_zero, nu_l0, nu_l1, nu_l2, nu_l3, nu_l4, nu_i0_5, nu_i1_5, nu_i2_5, nu_i0_3, nu_i1_3, nu_i2_3, nu_n0, nu_n1, nu_na0, nu_na1, forall_eq, true_implies, false_implies, implies_true, not_true_eq_false, not_false_eq_true, and_true, true_and, and_self, true_or, or_true, false_or, or_false, false_and, and_false, eq_self]
          exact hp
      · by_cases h0 : st (16 * s + k) = 0
        · by_cases jl : j = 2 ∧ lk_v v4 = 0
          · refine ⟨(-1), (nI n, nI m, cc, rq, md, bk, ct, rt, rc, lk, wt, wc, ch, st, en, sn, sk, sr, fr, lf, cr, rr), (nI n, nI m, th, ch, ro, lk, st, nw, bf, ve, bk, md, yl, la, od, sm, fr, ct), ir_mk hn hm (R) hP, fun post hp => ?_, fun post hp => ?_⟩
            · simp (disch := omega) only [wpX_write, vx_err, h, h0, nu_u0, nu_v0, nu_u1, nu_v1, nu_u2, nu_v2, nu_u3, nu_v3, nu_u4, nu_v4, nu_u5, nu_v5, nu_u6, nu_v6, nu_a1, nu_b1, nu_c1, nu_d1, nu_e1, nu_f1, nu_g1, nu_h1, nu_a2, nu_b2, nu_c2, nu_d2, nu_e2, nu_f2, nu_g2, nu_h2, nu_a3, nu_b3, nu_c3, nu_d3, nu_e3, nu_f3, nu_g3, nu_h3, nu_a4, nu_b4, nu_c4, nu_d4, nu_e4, nu_f4, nu_g4, nu_h4, nu_a5, nu_b5, nu_c5, nu_d5, nu_e5, nu_f5, nu_g5, nu_h5, nu_a6, nu_b6, nu_c6, nu_d6, nu_e6, nu_f6, nu_g6, nu_h6, nu_a7, nu_b7, nu_c7, nu_d7, nu_e7, nu_f7, nu_g7, nu_h7, nu_a16, nu_b16, nu_c16, nu_d16, nu_e16, nu_f16, nu_g16, nu_h16, nu_neg, nu_pos, nu_01, nu_40, nu_30, nu_20, nu_160, Int32.add_zero, Nat.reduceAdd, nu_m16, nu_16m, nu_m4, nu_4m, nu_m3, nu_3m, nu_m2, nu_2m, nI_1, nu_p2, nu_p3, nu_16p, nu_2p, nI_add, nu_cl, nu_in, Nat.add_zero, nu_l0, nu_l1, nu_l2, nu_l3, nu_l4, nu_i0_5, nu_i1_5, nu_i2_5, nu_i0_3, nu_i1_3, nu_i2_3, nu_n0, nu_n1, nu_na0, nu_na1, forall_eq, true_implies, false_implies, implies_true, not_true_eq_false, not_false_eq_true, and_true, true_and, and_self, true_or, or_true, false_or, or_false, false_and, and_false, eq_self]
              exact hp
            · simp (disch := omega) only [wpY_write, wpY_in, vy_err, vy_lnk, h, h0, jl.2, nu_k10, nu_u0, nu_v0, nu_u1, nu_v1, nu_u2, nu_v2, nu_u3, nu_v3, nu_u4, nu_v4, nu_u5, nu_v5, nu_u6, nu_v6, nu_a1, nu_b1, nu_c1, nu_d1, nu_e1, nu_f1, nu_g1, nu_h1, nu_a2, nu_b2, nu_c2, nu_d2, nu_e2, nu_f2, nu_g2, nu_h2, nu_a3, nu_b3, nu_c3, nu_d3, nu_e3, nu_f3, nu_g3, nu_h3, nu_a4, nu_b4, nu_c4, nu_d4, nu_e4, nu_f4, nu_g4, nu_h4, nu_a5, nu_b5, nu_c5, nu_d5, nu_e5, nu_f5, nu_g5, nu_h5, nu_a6, nu_b6, nu_c6, nu_d6, nu_e6, nu_f6, nu_g6, nu_h6, nu_a7, nu_b7, nu_c7, nu_d7, nu_e7, nu_f7, nu_g7, nu_h7, nu_a16, nu_b16, nu_c16, nu_d16, nu_e16, nu_f16, nu_g16, nu_h16, nu_neg, nu_pos, nu_01, nu_40, nu_30, nu_20, nu_160, Int32.add_zero, Nat.reduceAdd, nu_m16, nu_16m, nu_m4, nu_4m, nu_m3, nu_3m, nu_m2, nu_2m, nI_1, nu_p2, nu_p3, nu_16p, nu_2p, nI_add, nu_cl, nu_in, Nat.add_zero, nu_l0, nu_l1, nu_l2, nu_l3, nu_l4, nu_i0_5, nu_i1_5, nu_i2_5, nu_i0_3, nu_i1_3, nu_i2_3, nu_n0, nu_n1, nu_na0, nu_na1, forall_eq, true_implies, false_implies, implies_true, not_true_eq_false, not_false_eq_true, and_true, true_and, and_self, true_or, or_true, false_or, or_false, false_and, and_false, eq_self]
              exact hp
          · by_cases j2 : j = 2
            · have hl : ¬ lk_v v4 = 0 := fun q => jl ⟨j2, q⟩
              refine ⟨(-1), (nI n, nI m, cc, rq, md, bk, ct, rt, rc, lk, wt, wc, ch, st, en, sn, sk, sr, fr, lf, cr, rr), (nI n, nI m, th, ch, ro, lk, st, nw, bf, ve, bk, md, yl, la, od, sm, fr, ct), ir_mk hn hm (R) hP, fun post hp => ?_, fun post hp => ?_⟩
              · simp (disch := omega) only [wpX_write, vx_err, h, h0, nu_u0, nu_v0, nu_u1, nu_v1, nu_u2, nu_v2, nu_u3, nu_v3, nu_u4, nu_v4, nu_u5, nu_v5, nu_u6, nu_v6, nu_a1, nu_b1, nu_c1, nu_d1, nu_e1, nu_f1, nu_g1, nu_h1, nu_a2, nu_b2, nu_c2, nu_d2, nu_e2, nu_f2, nu_g2, nu_h2, nu_a3, nu_b3, nu_c3, nu_d3, nu_e3, nu_f3, nu_g3, nu_h3, nu_a4, nu_b4, nu_c4, nu_d4, nu_e4, nu_f4, nu_g4, nu_h4, nu_a5, nu_b5, nu_c5, nu_d5, nu_e5, nu_f5, nu_g5, nu_h5, nu_a6, nu_b6, nu_c6, nu_d6, nu_e6, nu_f6, nu_g6, nu_h6, nu_a7, nu_b7, nu_c7, nu_d7, nu_e7, nu_f7, nu_g7, nu_h7, nu_a16, nu_b16, nu_c16, nu_d16, nu_e16, nu_f16, nu_g16, nu_h16, nu_neg, nu_pos, nu_01, nu_40, nu_30, nu_20, nu_160, Int32.add_zero, Nat.reduceAdd, nu_m16, nu_16m, nu_m4, nu_4m, nu_m3, nu_3m, nu_m2, nu_2m, nI_1, nu_p2, nu_p3, nu_16p, nu_2p, nI_add, nu_cl, nu_in, Nat.add_zero, nu_l0, nu_l1, nu_l2, nu_l3, nu_l4, nu_i0_5, nu_i1_5, nu_i2_5, nu_i0_3, nu_i1_3, nu_i2_3, nu_n0, nu_n1, nu_na0, nu_na1, forall_eq, true_implies, false_implies, implies_true, not_true_eq_false, not_false_eq_true, and_true, true_and, and_self, true_or, or_true, false_or, or_false, false_and, and_false, eq_self]
                exact hp
              · simp (disch := omega) only [wpY_write, wpY_in, wY_write_45, vy_err, vy_lnk, h, h0, hl, nu_k10, nu_u0, nu_v0, nu_u1, nu_v1, nu_u2, nu_v2, nu_u3, nu_v3, nu_u4, nu_v4, nu_u5, nu_v5, nu_u6, nu_v6, nu_a1, nu_b1, nu_c1, nu_d1, nu_e1, nu_f1, nu_g1, nu_h1, nu_a2, nu_b2, nu_c2, nu_d2, nu_e2, nu_f2, nu_g2, nu_h2, nu_a3, nu_b3, nu_c3, nu_d3, nu_e3, nu_f3, nu_g3, nu_h3, nu_a4, nu_b4, nu_c4, nu_d4, nu_e4, nu_f4, nu_g4, nu_h4, nu_a5, nu_b5, nu_c5, nu_d5, nu_e5, nu_f5, nu_g5, nu_h5, nu_a6, nu_b6, nu_c6, nu_d6, nu_e6, nu_f6, nu_g6, nu_h6, nu_a7, nu_b7, nu_c7, nu_d7, nu_e7, nu_f7, nu_g7, nu_h7, nu_a16, nu_b16, nu_c16, nu_d16, nu_e16, nu_f16, nu_g16, nu_h16, nu_neg, nu_pos, nu_01, nu_40, nu_30, nu_20, nu_160, Int32.add_zero, Nat.reduceAdd, nu_m16, nu_16m, nu_m4, nu_4m, nu_m3, nu_3m, nu_m2, nu_2m, nI_1, nu_p2, nu_p3, nu_16p, nu_2p, nI_add, nu_cl, nu_in, Nat.add_zero, nu_l0, nu_l1, nu_l2, nu_l3, nu_l4, nu_i0_5, nu_i1_5, nu_i2_5, nu_i0_3, nu_i1_3, nu_i2_3, nu_n0, nu_n1, nu_na0, nu_na1, forall_eq, true_implies, false_implies, implies_true, not_true_eq_false, not_false_eq_true, and_true, true_and, and_self, true_or, or_true, false_or, or_false, false_and, and_false, eq_self]
                exact hp
            · refine ⟨(-1), (nI n, nI m, cc, rq, md, bk, ct, rt, rc, lk, wt, wc, ch, st, en, sn, sk, sr, fr, lf, cr, rr), (nI n, nI m, th, ch, ro, lk, st, nw, bf, ve, bk, md, yl, la, od, sm, fr, ct), ir_mk hn hm (R) hP, fun post hp => ?_, fun post hp => ?_⟩
              · simp (disch := omega) only [wpX_write, vx_err, h, h0, nu_u0, nu_v0, nu_u1, nu_v1, nu_u2, nu_v2, nu_u3, nu_v3, nu_u4, nu_v4, nu_u5, nu_v5, nu_u6, nu_v6, nu_a1, nu_b1, nu_c1, nu_d1, nu_e1, nu_f1, nu_g1, nu_h1, nu_a2, nu_b2, nu_c2, nu_d2, nu_e2, nu_f2, nu_g2, nu_h2, nu_a3, nu_b3, nu_c3, nu_d3, nu_e3, nu_f3, nu_g3, nu_h3, nu_a4, nu_b4, nu_c4, nu_d4, nu_e4, nu_f4, nu_g4, nu_h4, nu_a5, nu_b5, nu_c5, nu_d5, nu_e5, nu_f5, nu_g5, nu_h5, nu_a6, nu_b6, nu_c6, nu_d6, nu_e6, nu_f6, nu_g6, nu_h6, nu_a7, nu_b7, nu_c7, nu_d7, nu_e7, nu_f7, nu_g7, nu_h7, nu_a16, nu_b16, nu_c16, nu_d16, nu_e16, nu_f16, nu_g16, nu_h16, nu_neg, nu_pos, nu_01, nu_40, nu_30, nu_20, nu_160, Int32.add_zero, Nat.reduceAdd, nu_m16, nu_16m, nu_m4, nu_4m, nu_m3, nu_3m, nu_m2, nu_2m, nI_1, nu_p2, nu_p3, nu_16p, nu_2p, nI_add, nu_cl, nu_in, Nat.add_zero, nu_l0, nu_l1, nu_l2, nu_l3, nu_l4, nu_i0_5, nu_i1_5, nu_i2_5, nu_i0_3, nu_i1_3, nu_i2_3, nu_n0, nu_n1, nu_na0, nu_na1, forall_eq, true_implies, false_implies, implies_true, not_true_eq_false, not_false_eq_true, and_true, true_and, and_self, true_or, or_true, false_or, or_false, false_and, and_false, eq_self]
                exact hp
              · simp (disch := omega) only [wpY_write, wpY_in, wY_write_45, vy_err, vy_lnk, h, h0, nu_k10, nu_u0, nu_v0, nu_u1, nu_v1, nu_u2, nu_v2, nu_u3, nu_v3, nu_u4, nu_v4, nu_u5, nu_v5, nu_u6, nu_v6, nu_a1, nu_b1, nu_c1, nu_d1, nu_e1, nu_f1, nu_g1, nu_h1, nu_a2, nu_b2, nu_c2, nu_d2, nu_e2, nu_f2, nu_g2, nu_h2, nu_a3, nu_b3, nu_c3, nu_d3, nu_e3, nu_f3, nu_g3, nu_h3, nu_a4, nu_b4, nu_c4, nu_d4, nu_e4, nu_f4, nu_g4, nu_h4, nu_a5, nu_b5, nu_c5, nu_d5, nu_e5, nu_f5, nu_g5, nu_h5, nu_a6, nu_b6, nu_c6, nu_d6, nu_e6, nu_f6, nu_g6, nu_h6, nu_a7, nu_b7, nu_c7, nu_d7, nu_e7, nu_f7, nu_g7, nu_h7, nu_a16, nu_b16, nu_c16, nu_d16, nu_e16, nu_f16, nu_g16, nu_h16, nu_neg, nu_pos, nu_01, nu_40, nu_30, nu_20, nu_160, Int32.add_zero, Nat.reduceAdd, nu_m16, nu_16m, nu_m4, nu_4m, nu_m3, nu_3m, nu_m2, nu_2m, nI_1, nu_p2, nu_p3, nu_16p, nu_2p, nI_add, nu_cl, nu_in, Nat.add_zero, nu_l0, nu_l1, nu_l2, nu_l3, nu_l4, nu_i0_5, nu_i1_5, nu_i2_5, nu_i0_3, nu_i1_3, nu_i2_3, nu_n0, nu_n1, nu_na0, nu_na1, forall_eq, true_implies, false_implies, implies_true, not_true_eq_false, not_false_eq_true, and_true, true_and, and_self, true_or, or_true, false_or, or_false, false_and, and_false, eq_self]
                exact hp
        · by_cases h5 : st (16 * s + k) = 5
          · by_cases jl : j = 2 ∧ lk_v v4 = 0
            · refine ⟨(-1), (nI n, nI m, cc, rq, md, bk, ct, rt, rc, lk, wt, wc, ch, st, en, sn, sk, sr, fr, lf, cr, rr), (nI n, nI m, th, ch, ro, lk, st, nw, bf, ve, bk, md, yl, la, od, sm, fr, ct), ir_mk hn hm (R) hP, fun post hp => ?_, fun post hp => ?_⟩
              · simp (disch := omega) only [wpX_write, vx_err, h, h5, nu_k01, nu_k02, nu_k03, nu_k04, nu_k05, nu_k10, nu_k12, nu_k13, nu_k14, nu_k15, nu_k20, nu_k21, nu_k23, nu_k24, nu_k25, nu_k30, nu_k31, nu_k32, nu_k34, nu_k35, nu_k40, nu_k41, nu_k42, nu_k43, nu_k45, nu_k50, nu_k51, nu_k52, nu_k53, nu_k54, nu_u0, nu_v0, nu_u1, nu_v1, nu_u2, nu_v2, nu_u3, nu_v3, nu_u4, nu_v4, nu_u5, nu_v5, nu_u6, nu_v6, nu_a1, nu_b1, nu_c1, nu_d1, nu_e1, nu_f1, nu_g1, nu_h1, nu_a2, nu_b2, nu_c2, nu_d2, nu_e2, nu_f2, nu_g2, nu_h2, nu_a3, nu_b3, nu_c3, nu_d3, nu_e3, nu_f3, nu_g3, nu_h3, nu_a4, nu_b4, nu_c4, nu_d4, nu_e4, nu_f4, nu_g4, nu_h4, nu_a5, nu_b5, nu_c5, nu_d5, nu_e5, nu_f5, nu_g5, nu_h5, nu_a6, nu_b6, nu_c6, nu_d6, nu_e6, nu_f6, nu_g6, nu_h6, nu_a7, nu_b7, nu_c7, nu_d7, nu_e7, nu_f7, nu_g7, nu_h7, nu_a16, nu_b16, nu_c16, nu_d16, nu_e16, nu_f16, nu_g16, nu_h16, nu_neg, nu_pos, nu_01, nu_40, nu_30, nu_20, nu_160, Int32.add_zero, Nat.reduceAdd, nu_m16, nu_16m, nu_m4, nu_4m, nu_m3, nu_3m, nu_m2, nu_2m, nI_1, nu_p2, nu_p3, nu_16p, nu_2p, nI_add, nu_cl, nu_in, Nat.add_zero, nu_l0, nu_l1, nu_l2, nu_l3, nu_l4, nu_i0_5, nu_i1_5, nu_i2_5, nu_i0_3, nu_i1_3, nu_i2_3, nu_n0, nu_n1, nu_na0, nu_na1, forall_eq, true_implies, false_implies, implies_true, not_true_eq_false, not_false_eq_true, and_true, true_and, and_self, true_or, or_true, false_or, or_false, false_and, and_false, eq_self]
                exact hp
              · simp (disch := omega) only [wpY_write, wpY_in, vy_err, vy_lnk, h, h0, jl.2, nu_k10, nu_u0, nu_v0, nu_u1, nu_v1, nu_u2, nu_v2, nu_u3, nu_v3, nu_u4, nu_v4, nu_u5, nu_v5, nu_u6, nu_v6, nu_a1, nu_b1, nu_c1, nu_d1, nu_e1, nu_f1, nu_g1, nu_h1, nu_a2, nu_b2, nu_c2, nu_d2, nu_e2, nu_f2, nu_g2, nu_h2, nu_a3, nu_b3, nu_c3, nu_d3, nu_e3, nu_f3, nu_g3, nu_h3, nu_a4, nu_b4, nu_c4, nu_d4, nu_e4, nu_f4, nu_g4, nu_h4, nu_a5, nu_b5, nu_c5, nu_d5, nu_e5, nu_f5, nu_g5, nu_h5, nu_a6, nu_b6, nu_c6, nu_d6, nu_e6, nu_f6, nu_g6, nu_h6, nu_a7, nu_b7, nu_c7, nu_d7, nu_e7, nu_f7, nu_g7, nu_h7, nu_a16, nu_b16, nu_c16, nu_d16, nu_e16, nu_f16, nu_g16, nu_h16, nu_neg, nu_pos, nu_01, nu_40, nu_30, nu_20, nu_160, Int32.add_zero, Nat.reduceAdd, nu_m16, nu_16m, nu_m4, nu_4m, nu_m3, nu_3m, nu_m2, nu_2m, nI_1, nu_p2, nu_p3, nu_16p, nu_2p, nI_add, nu_cl, nu_in, Nat.add_zero, nu_l0, nu_l1, nu_l2, nu_l3, nu_l4, nu_i0_5, nu_i1_5, nu_i2_5, nu_i0_3, nu_i1_3, nu_i2_3, nu_n0, nu_n1, nu_na0, nu_na1, forall_eq, true_implies, false_implies, implies_true, not_true_eq_false, not_false_eq_true, and_true, true_and, and_self, true_or, or_true, false_or, or_false, false_and, and_false, eq_self]
                exact hp
            · by_cases j2 : j = 2
              · have hl : ¬ lk_v v4 = 0 := fun q => jl ⟨j2, q⟩
                refine ⟨(-1), (nI n, nI m, cc, rq, md, bk, ct, rt, rc, lk, wt, wc, ch, st, en, sn, sk, sr, fr, lf, cr, rr), (nI n, nI m, th, ch, ro, lk, st, nw, bf, ve, bk, md, yl, la, od, sm, fr, ct), ir_mk hn hm (R) hP, fun post hp => ?_, fun post hp => ?_⟩
                · simp (disch := omega) only [wpX_write, vx_err, h, h5, nu_k01, nu_k02, nu_k03, nu_k04, nu_k05, nu_k10, nu_k12, nu_k13, nu_k14, nu_k15, nu_k20, nu_k21, nu_k23, nu_k24, nu_k25, nu_k30, nu_k31, nu_k32, nu_k34, nu_k35, nu_k40, nu_k41, nu_k42, nu_k43, nu_k45, nu_k50, nu_k51, nu_k52, nu_k53, nu_k54, nu_u0, nu_v0, nu_u1, nu_v1, nu_u2, nu_v2, nu_u3, nu_v3, nu_u4, nu_v4, nu_u5, nu_v5, nu_u6, nu_v6, nu_a1, nu_b1, nu_c1, nu_d1, nu_e1, nu_f1, nu_g1, nu_h1, nu_a2, nu_b2, nu_c2, nu_d2, nu_e2, nu_f2, nu_g2, nu_h2, nu_a3, nu_b3, nu_c3, nu_d3, nu_e3, nu_f3, nu_g3, nu_h3, nu_a4, nu_b4, nu_c4, nu_d4, nu_e4, nu_f4, nu_g4, nu_h4, nu_a5, nu_b5, nu_c5, nu_d5, nu_e5, nu_f5, nu_g5, nu_h5, nu_a6, nu_b6, nu_c6, nu_d6, nu_e6, nu_f6, nu_g6, nu_h6, nu_a7, nu_b7, nu_c7, nu_d7, nu_e7, nu_f7, nu_g7, nu_h7, nu_a16, nu_b16, nu_c16, nu_d16, nu_e16, nu_f16, nu_g16, nu_h16, nu_neg, nu_pos, nu_01, nu_40, nu_30, nu_20, nu_160, Int32.add_zero, Nat.reduceAdd, nu_m16, nu_16m, nu_m4, nu_4m, nu_m3, nu_3m, nu_m2, nu_2m, nI_1, nu_p2, nu_p3, nu_16p, nu_2p, nI_add, nu_cl, nu_in, Nat.add_zero, nu_l0, nu_l1, nu_l2, nu_l3, nu_l4, nu_i0_5, nu_i1_5, nu_i2_5, nu_i0_3, nu_i1_3, nu_i2_3, nu_n0, nu_n1, nu_na0, nu_na1, forall_eq, true_implies, false_implies, implies_true, not_true_eq_false, not_false_eq_true, and_true, true_and, and_self, true_or, or_true, false_or, or_false, false_and, and_false, eq_self]
                  exact hp
                · simp (disch := omega) only [wpY_write, wpY_in, wY_write_45, vy_err, vy_lnk, h, h5, hl, nu_k01, nu_k02, nu_k03, nu_k04, nu_k05, nu_k10, nu_k12, nu_k13, nu_k14, nu_k15, nu_k20, nu_k21, nu_k23, nu_k24, nu_k25, nu_k30, nu_k31, nu_k32, nu_k34, nu_k35, nu_k40, nu_k41, nu_k42, nu_k43, nu_k45, nu_k50, nu_k51, nu_k52, nu_k53, nu_k54, nu_u0, nu_v0, nu_u1, nu_v1, nu_u2, nu_v2, nu_u3, nu_v3, nu_u4, nu_v4, nu_u5, nu_v5, nu_u6, nu_v6, nu_a1, nu_b1, nu_c1, nu_d1, nu_e1, nu_f1, nu_g1, nu_h1, nu_a2, nu_b2, nu_c2, nu_d2, nu_e2, nu_f2, nu_g2, nu_h2, nu_a3, nu_b3, nu_c3, nu_d3, nu_e3, nu_f3, nu_g3, nu_h3, nu_a4, nu_b4, nu_c4, nu_d4, nu_e4, nu_f4, nu_g4, nu_h4, nu_a5, nu_b5, nu_c5, nu_d5, nu_e5, nu_f5, nu_g5, nu_h5, nu_a6, nu_b6, nu_c6, nu_d6, nu_e6, nu_f6, nu_g6, nu_h6, nu_a7, nu_b7, nu_c7, nu_d7, nu_e7, nu_f7, nu_g7, nu_h7, nu_a16, nu_b16, nu_c16, nu_d16, nu_e16, nu_f16, nu_g16, nu_h16, nu_neg, nu_pos, nu_01, nu_40, nu_30, nu_20, nu_160, Int32.add_zero, Nat.reduceAdd, nu_m16, nu_16m, nu_m4, nu_4m, nu_m3, nu_3m, nu_m2, nu_2m, nI_1, nu_p2, nu_p3, nu_16p, nu_2p, nI_add, nu_cl, nu_in, Nat.add_zero, nu_l0, nu_l1, nu_l2, nu_l3, nu_l4, nu_i0_5, nu_i1_5, nu_i2_5, nu_i0_3, nu_i1_3, nu_i2_3, nu_n0, nu_n1, nu_na0, nu_na1, forall_eq, true_implies, false_implies, implies_true, not_true_eq_false, not_false_eq_true, and_true, true_and, and_self, true_or, or_true, false_or, or_false, false_and, and_false, eq_self]
                  exact hp
              · refine ⟨(-1), (nI n, nI m, cc, rq, md, bk, ct, rt, rc, lk, wt, wc, ch, st, en, sn, sk, sr, fr, lf, cr, rr), (nI n, nI m, th, ch, ro, lk, st, nw, bf, ve, bk, md, yl, la, od, sm, fr, ct), ir_mk hn hm (R) hP, fun post hp => ?_, fun post hp => ?_⟩
                · simp (disch := omega) only [wpX_write, vx_err, h, h5, nu_k01, nu_k02, nu_k03, nu_k04, nu_k05, nu_k10, nu_k12, nu_k13, nu_k14, nu_k15, nu_k20, nu_k21, nu_k23, nu_k24, nu_k25, nu_k30, nu_k31, nu_k32, nu_k34, nu_k35, nu_k40, nu_k41, nu_k42, nu_k43, nu_k45, nu_k50, nu_k51, nu_k52, nu_k53, nu_k54, nu_u0, nu_v0, nu_u1, nu_v1, nu_u2, nu_v2, nu_u3, nu_v3, nu_u4, nu_v4, nu_u5, nu_v5, nu_u6, nu_v6, nu_a1, nu_b1, nu_c1, nu_d1, nu_e1, nu_f1, nu_g1, nu_h1, nu_a2, nu_b2, nu_c2, nu_d2, nu_e2, nu_f2, nu_g2, nu_h2, nu_a3, nu_b3, nu_c3, nu_d3, nu_e3, nu_f3, nu_g3, nu_h3, nu_a4, nu_b4, nu_c4, nu_d4, nu_e4, nu_f4, nu_g4, nu_h4, nu_a5, nu_b5, nu_c5, nu_d5, nu_e5, nu_f5, nu_g5, nu_h5, nu_a6, nu_b6, nu_c6, nu_d6, nu_e6, nu_f6, nu_g6, nu_h6, nu_a7, nu_b7, nu_c7, nu_d7, nu_e7, nu_f7, nu_g7, nu_h7, nu_a16, nu_b16, nu_c16, nu_d16, nu_e16, nu_f16, nu_g16, nu_h16, nu_neg, nu_pos, nu_01, nu_40, nu_30, nu_20, nu_160, Int32.add_zero, Nat.reduceAdd, nu_m16, nu_16m, nu_m4, nu_4m, nu_m3, nu_3m, nu_m2, nu_2m, nI_1, nu_p2, nu_p3, nu_16p, nu_2p, nI_add, nu_cl, nu_in, Nat.add_zero, nu_l0, nu_l1, nu_l2, nu_l3, nu_l4, nu_i0_5, nu_i1_5, nu_i2_5, nu_i0_3, nu_i1_3, nu_i2_3, nu_n0, nu_n1, nu_na0, nu_na1, forall_eq, true_implies, false_implies, implies_true, not_true_eq_false, not_false_eq_true, and_true, true_and, and_self, true_or, or_true, false_or, or_false, false_and, and_false, eq_self]
                  exact hp
                · simp (disch := omega) only [wpY_write, wpY_in, wY_write_45, vy_err, vy_lnk, h, h5, nu_k01, nu_k02, nu_k03, nu_k04, nu_k05, nu_k10, nu_k12, nu_k13, nu_k14, nu_k15, nu_k20, nu_k21, nu_k23, nu_k24, nu_k25, nu_k30, nu_k31, nu_k32, nu_k34, nu_k35, nu_k40, nu_k41, nu_k42, nu_k43, nu_k45, nu_k50, nu_k51, nu_k52, nu_k53, nu_k54, nu_u0, nu_v0, nu_u1, nu_v1, nu_u2, nu_v2, nu_u3, nu_v3, nu_u4, nu_v4, nu_u5, nu_v5, nu_u6, nu_v6, nu_a1, nu_b1, nu_c1, nu_d1, nu_e1, nu_f1, nu_g1, nu_h1, nu_a2, nu_b2, nu_c2, nu_d2, nu_e2, nu_f2, nu_g2, nu_h2, nu_a3, nu_b3, nu_c3, nu_d3, nu_e3, nu_f3, nu_g3, nu_h3, nu_a4, nu_b4, nu_c4, nu_d4, nu_e4, nu_f4, nu_g4, nu_h4, nu_a5, nu_b5, nu_c5, nu_d5, nu_e5, nu_f5, nu_g5, nu_h5, nu_a6, nu_b6, nu_c6, nu_d6, nu_e6, nu_f6, nu_g6, nu_h6, nu_a7, nu_b7, nu_c7, nu_d7, nu_e7, nu_f7, nu_g7, nu_h7, nu_a16, nu_b16, nu_c16, nu_d16, nu_e16, nu_f16, nu_g16, nu_h16, nu_neg, nu_pos, nu_01, nu_40, nu_30, nu_20, nu_160, Int32.add_zero, Nat.reduceAdd, nu_m16, nu_16m, nu_m4, nu_4m, nu_m3, nu_3m, nu_m2, nu_2m, nI_1, nu_p2, nu_p3, nu_16p, nu_2p, nI_add, nu_cl, nu_in, Nat.add_zero, nu_l0, nu_l1, nu_l2, nu_l3, nu_l4, nu_i0_5, nu_i1_5, nu_i2_5, nu_i0_3, nu_i1_3, nu_i2_3, nu_n0, nu_n1, nu_na0, nu_na1, forall_eq, true_implies, false_implies, implies_true, not_true_eq_false, not_false_eq_true, and_true, true_and, and_self, true_or, or_true, false_or, or_false, false_and, and_false, eq_self]
                  exact hp
          · by_cases jl : j = 2 ∧ lk_v v4 = 0
            · refine ⟨(-1), (nI n, nI m, cc, rq, md, bk, ct, rt, rc, lk, wt, wc, ch, st, en, sn, sk, sr, fr, lf, cr, rr), (nI n, nI m, th, ch, ro, lk, st, nw, bf, ve, bk, md, yl, la, od, sm, fr, ct), ir_mk hn hm (R) hP, fun post hp => ?_, fun post hp => ?_⟩
              · simp (disch := omega) only [wpX_write, vx_err, vx_lnk, h, h0, h5, jl.2, nu_u0, nu_v0, nu_u1, nu_v1, nu_u2, nu_v2, nu_u3, nu_v3, nu_u4, nu_v4, nu_u5, nu_v5, nu_u6, nu_v6, nu_a1, nu_b1, nu_c1, nu_d1, nu_e1, nu_f1, nu_g1, nu_h1, nu_a2, nu_b2, nu_c2, nu_d2, nu_e2, nu_f2, nu_g2, nu_h2, nu_a3, nu_b3, nu_c3, nu_d3, nu_e3, nu_f3, nu_g3, nu_h3, nu_a4, nu_b4, nu_c4, nu_d4, nu_e4, nu_f4, nu_g4, nu_h4, nu_a5, nu_b5, nu_c5, nu_d5, nu_e5, nu_f5, nu_g5, nu_h5, nu_a6, nu_b6, nu_c6, nu_d6, nu_e6, nu_f6, nu_g6, nu_h6, nu_a7, nu_b7, nu_c7, nu_d7, nu_e7, nu_f7, nu_g7, nu_h7, nu_a16, nu_b16, nu_c16, nu_d16, nu_e16, nu_f16, nu_g16, nu_h16, nu_neg, nu_pos, nu_01, nu_40, nu_30, nu_20, nu_160, Int32.add_zero, Nat.reduceAdd, nu_m16, nu_16m, nu_m4, nu_4m, nu_m3, nu_3m, nu_m2, nu_2m, nI_1, nu_p2, nu_p3, nu_16p, nu_2p, nI_add, nu_cl, nu_in, Nat.add_zero, nu_l0, nu_l1, nu_l2, nu_l3, nu_l4, nu_i0_5, nu_i1_5, nu_i2_5, nu_i0_3, nu_i1_3, nu_i2_3, nu_n0, nu_n1, nu_na0, nu_na1, forall_eq, true_implies, false_implies, implies_true, not_true_eq_false, not_false_eq_true, and_true, true_and, and_self, true_or, or_true, false_or, or_false, false_and, and_false, eq_self]
                exact hp
              · simp (disch := omega) only [wpY_write, wpY_in, vy_err, vy_lnk, h, jl.2, nu_k10, nu_u0, nu_v0, nu_u1, nu_v1, nu_u2, nu_v2, nu_u3, nu_v3, nu_u4, nu_v4, nu_u5, nu_v5, nu_u6, nu_v6, nu_a1, nu_b1, nu_c1, nu_d1, nu_e1, nu_f1, nu_g1, nu_h1, nu_a2, nu_b2, nu_c2, nu_d2, nu_e2, nu_f2, nu_g2, nu_h2, nu_a3, nu_b3, nu_c3, nu_d3, nu_e3, nu_f3, nu_g3, nu_h3, nu_a4, nu_b4, nu_c4, nu_d4, nu_e4, nu_f4, nu_g4, nu_h4, nu_a5, nu_b5, nu_c5, nu_d5, nu_e5, nu_f5, nu_g5, nu_h5, nu_a6, nu_b6, nu_c6, nu_d6, nu_e6, nu_f6, nu_g6, nu_h6, nu_a7, nu_b7, nu_c7, nu_d7, nu_e7, nu_f7, nu_g7, nu_h7, nu_a16, nu_b16, nu_c16, nu_d16, nu_e16, nu_f16, nu_g16, nu_h16, nu_neg, nu_pos, nu_01, nu_40, nu_30, nu_20, nu_160, Int32.add_zero, Nat.reduceAdd, nu_m16, nu_16m, nu_m4, nu_4m, nu_m3, nu_3m, nu_m2, nu_2m, nI_1, nu_p2, nu_p3, nu_16p, nu_2p, nI_add, nu_cl, nu_in, Nat.add_zero, nu_l0, nu_l1, nu_l2, nu_l3, nu_l4, nu_i0_5, nu_i1_5, nu_i2_5, nu_i0_3, nu_i1_3, nu_i2_3, nu_n0, nu_n1, nu_na0, nu_na1, forall_eq, true_implies, false_implies, implies_true, not_true_eq_false, not_false_eq_true, and_true, true_and, and_self, true_or, or_true, false_or, or_false, false_and, and_false, eq_self]
                exact hp
            · have hL : j = 2 → re_L v4 := fun q => lk_L (fun z => jl ⟨q, z⟩)
              by_cases h3 : st (16 * s + k) = 3
              · obtain ⟨b, ct', ch', st', en', sn', nw', bf', ve', hb, R', h1, hX, hY⟩ := to_S (nI n) (nI m) cc rq ct sk sr fr lf cr rr yl la od sm hs hk R
                by_cases j2 : j = 2
                · have hl : ¬ lk_v v4 = 0 := fun q => jl ⟨j2, q⟩
                  rcases hb with rfl | rfl
                  · refine ⟨(-3), (nI n, nI m, cc, rq, md, bk, ct', rt, rc, lk, wt, wc, ch', st', en', sn', sk, sr, fr, lf, cr, rr), (nI n, nI m, th, ch', ro, lk, st', nw', bf', ve', bk, md, yl, la, od, sm, fr, ct'), ir_mk hn hm (R') hP, fun post hp => ?_, fun post hp => ?_⟩
                    · simp (disch := omega) only [wpX_write, wX_write_72, vx_err, vx_lnk, h, h3, hl, nu_k01, nu_k02, nu_k03, nu_k04, nu_k05, nu_k10, nu_k12, nu_k13, nu_k14, nu_k15, nu_k20, nu_k21, nu_k23, nu_k24, nu_k25, nu_k30, nu_k31, nu_k32, nu_k34, nu_k35, nu_k40, nu_k41, nu_k42, nu_k43, nu_k45, nu_k50, nu_k51, nu_k52, nu_k53, nu_k54, nu_u0, nu_v0, nu_u1, nu_v1, nu_u2, nu_v2, nu_u3, nu_v3, nu_u4, nu_v4, nu_u5, nu_v5, nu_u6, nu_v6, nu_a1, nu_b1, nu_c1, nu_d1, nu_e1, nu_f1, nu_g1, nu_h1, nu_a2, nu_b2, nu_c2, nu_d2, nu_e2, nu_f2, nu_g2, nu_h2, nu_a3, nu_b3, nu_c3, nu_d3, nu_e3, nu_f3, nu_g3, nu_h3, nu_a4, nu_b4, nu_c4, nu_d4, nu_e4, nu_f4, nu_g4, nu_h4, nu_a5, nu_b5, nu_c5, nu_d5, nu_e5, nu_f5, nu_g5, nu_h5, nu_a6, nu_b6, nu_c6, nu_d6, nu_e6, nu_f6, nu_g6, nu_h6, nu_a7, nu_b7, nu_c7, nu_d7, nu_e7, nu_f7, nu_g7, nu_h7, nu_a16, nu_b16, nu_c16, nu_d16, nu_e16, nu_f16, nu_g16, nu_h16, nu_neg, nu_pos, nu_01, nu_40, nu_30, nu_20, nu_160, Int32.add_zero, Nat.reduceAdd, nu_m16, nu_16m, nu_m4, nu_4m, nu_m3, nu_3m, nu_m2, nu_2m, nI_1, nu_p2, nu_p3, nu_16p, nu_2p, nI_add, nu_cl, nu_in, Nat.add_zero, nu_l0, nu_l1, nu_l2, nu_l3, nu_l4, nu_i0_5, nu_i1_5, nu_i2_5, nu_i0_3, nu_i1_3, nu_i2_3, nu_n0, nu_n1, nu_na0, nu_na1, forall_eq, true_implies, false_implies, implies_true, not_true_eq_false, not_false_eq_true, and_true, true_and, and_self, true_or, or_true, false_or, or_false, false_and, and_false, eq_self]
                      refine hX _ ?_
                      simp (disch := omega) only [nu_k10, nu_01, nu_40, nu_30, nu_20, nu_160, Int32.add_zero, Nat.reduceAdd, nu_m16, nu_16m, nu_m4, nu_4m, nu_m3, nu_3m, nu_m2, nu_2m, nI_1, nu_p2, nu_p3, nu_16p, nu_2p, nI_add, nu_cl, nu_in, Nat.add_zero, nu_l0, nu_l1, nu_l2, nu_l3, nu_l4, nu_i0_5, nu_i1_5, nu_i2_5, nu_i0_3, nu_i1_3, nu_i2_3, nu_n0, nu_n1, nu_na0, nu_na1, forall_eq, true_implies, false_implies, implies_true, not_true_eq_false, not_false_eq_true, and_true, true_and, and_self, true_or, or_true, false_or, or_false, false_and, and_false, eq_self]
                      exact hp
                    · simp (disch := omega) only [wpY_write, wpY_in, wY_write_45, vy_err, vy_lnk, h, h3, hl, nu_k01, nu_k02, nu_k03, nu_k04, nu_k05, nu_k10, nu_k12, nu_k13, nu_k14, nu_k15, nu_k20, nu_k21, nu_k23, nu_k24, nu_k25, nu_k30, nu_k31, nu_k32, nu_k34, nu_k35, nu_k40, nu_k41, nu_k42, nu_k43, nu_k45, nu_k50, nu_k51, nu_k52, nu_k53, nu_k54, nu_u0, nu_v0, nu_u1, nu_v1, nu_u2, nu_v2, nu_u3, nu_v3, nu_u4, nu_v4, nu_u5, nu_v5, nu_u6, nu_v6, nu_a1, nu_b1, nu_c1, nu_d1, nu_e1, nu_f1, nu_g1, nu_h1, nu_a2, nu_b2, nu_c2, nu_d2, nu_e2, nu_f2, nu_g2, nu_h2, nu_a3, nu_b3, nu_c3, nu_d3, nu_e3, nu_f3, nu_g3, nu_h3, nu_a4, nu_b4, nu_c4, nu_d4, nu_e4, nu_f4, nu_g4, nu_h4, nu_a5, nu_b5, nu_c5, nu_d5, nu_e5, nu_f5, nu_g5, nu_h5, nu_a6, nu_b6, nu_c6, nu_d6, nu_e6, nu_f6, nu_g6, nu_h6, nu_a7, nu_b7, nu_c7, nu_d7, nu_e7, nu_f7, nu_g7, nu_h7, nu_a16, nu_b16, nu_c16, nu_d16, nu_e16, nu_f16, nu_g16, nu_h16, nu_neg, nu_pos, nu_01, nu_40, nu_30, nu_20, nu_160, Int32.add_zero, Nat.reduceAdd, nu_m16, nu_16m, nu_m4, nu_4m, nu_m3, nu_3m, nu_m2, nu_2m, nI_1, nu_p2, nu_p3, nu_16p, nu_2p, nI_add, nu_cl, nu_in, Nat.add_zero, nu_l0, nu_l1, nu_l2, nu_l3, nu_l4, nu_i0_5, nu_i1_5, nu_i2_5, nu_i0_3, nu_i1_3, nu_i2_3, nu_n0, nu_n1, nu_na0, nu_na1, forall_eq, true_implies, false_implies, implies_true, not_true_eq_false, not_false_eq_true, and_true, true_and, and_self, true_or, or_true, false_or, or_false, false_and, and_false, eq_self]
                      refine hY _ ?_
                      simp (disch := omega) only [wY_write_93, wY_write_88, nu_k10, nu_01, nu_40, nu_30, nu_20, nu_160, Int32.add_zero, Nat.reduceAdd, nu_m16, nu_16m, nu_m4, nu_4m, nu_m3, nu_3m, nu_m2, nu_2m, nI_1, nu_p2, nu_p3, nu_16p, nu_2p, nI_add, nu_cl, nu_in, Nat.add_zero, nu_l0, nu_l1, nu_l2, nu_l3, nu_l4, nu_i0_5, nu_i1_5, nu_i2_5, nu_i0_3, nu_i1_3, nu_i2_3, nu_n0, nu_n1, nu_na0, nu_na1, forall_eq, true_implies, false_implies, implies_true, not_true_eq_false, not_false_eq_true, and_true, true_and, and_self, true_or, or_true, false_or, or_false, false_and, and_false, eq_self]
                      exact hp
                  · refine ⟨0, (nI n, nI m, cc, rq, md, bk, ct', rt, rc, lk, wt, wc, ch', st', upd en' (4 * (16 * s + k) + j) v4, sn', sk, sr, fr, lf, cr, rr), (nI n, nI m, th, ch', ro, lk, st', upd nw' (3 * (16 * s + k) + j) v4, bf', ve', bk, md, yl, la, od, sm, fr, ct'), ir_mk hn hm (ce_R R' (by omega) hL) hP, fun post hp => ?_, fun post hp => ?_⟩
                    · simp (disch := omega) only [wpX_write, wX_write_72, vx_err, vx_lnk, h, h3, hl, nu_k01, nu_k02, nu_k03, nu_k04, nu_k05, nu_k10, nu_k12, nu_k13, nu_k14, nu_k15, nu_k20, nu_k21, nu_k23, nu_k24, nu_k25, nu_k30, nu_k31, nu_k32, nu_k34, nu_k35, nu_k40, nu_k41, nu_k42, nu_k43, nu_k45, nu_k50, nu_k51, nu_k52, nu_k53, nu_k54, nu_u0, nu_v0, nu_u1, nu_v1, nu_u2, nu_v2, nu_u3, nu_v3, nu_u4, nu_v4, nu_u5, nu_v5, nu_u6, nu_v6, nu_a1, nu_b1, nu_c1, nu_d1, nu_e1, nu_f1, nu_g1, nu_h1, nu_a2, nu_b2, nu_c2, nu_d2, nu_e2, nu_f2, nu_g2, nu_h2, nu_a3, nu_b3, nu_c3, nu_d3, nu_e3, nu_f3, nu_g3, nu_h3, nu_a4, nu_b4, nu_c4, nu_d4, nu_e4, nu_f4, nu_g4, nu_h4, nu_a5, nu_b5, nu_c5, nu_d5, nu_e5, nu_f5, nu_g5, nu_h5, nu_a6, nu_b6, nu_c6, nu_d6, nu_e6, nu_f6, nu_g6, nu_h6, nu_a7, nu_b7, nu_c7, nu_d7, nu_e7, nu_f7, nu_g7, nu_h7, nu_a16, nu_b16, nu_c16, nu_d16, nu_e16, nu_f16, nu_g16, nu_h16, nu_neg, nu_pos, nu_01, nu_40, nu_30, nu_20, nu_160, Int32.add_zero, Nat.reduceAdd, nu_m16, nu_16m, nu_m4, nu_4m, nu_m3, nu_3m, nu_m2, nu_2m, nI_1, nu_p2, nu_p3, nu_16p, nu_2p, nI_add, nu_cl, nu_in, Nat.add_zero, nu_l0, nu_l1, nu_l2, nu_l3, nu_l4, nu_i0_5, nu_i1_5, nu_i2_5, nu_i0_3, nu_i1_3, nu_i2_3, nu_n0, nu_n1, nu_na0, nu_na1, forall_eq, true_implies, false_implies, implies_true, not_true_eq_false, not_false_eq_true, and_true, true_and, and_self, true_or, or_true, false_or, or_false, false_and, and_false, eq_self]
                      refine hX _ ?_
                      simp (disch := omega) only [wX_write_95, nu_k10, nu_01, nu_40, nu_30, nu_20, nu_160, Int32.add_zero, Nat.reduceAdd, nu_m16, nu_16m, nu_m4, nu_4m, nu_m3, nu_3m, nu_m2, nu_2m, nI_1, nu_p2, nu_p3, nu_16p, nu_2p, nI_add, nu_cl, nu_in, Nat.add_zero, nu_l0, nu_l1, nu_l2, nu_l3, nu_l4, nu_i0_5, nu_i1_5, nu_i2_5, nu_i0_3, nu_i1_3, nu_i2_3, nu_n0, nu_n1, nu_na0, nu_na1, forall_eq, true_implies, false_implies, implies_true, not_true_eq_false, not_false_eq_true, and_true, true_and, and_self, true_or, or_true, false_or, or_false, false_and, and_false, eq_self]
                      exact hp
                    · simp (disch := omega) only [wpY_write, wpY_in, wY_write_45, vy_err, vy_lnk, h, h3, hl, nu_k01, nu_k02, nu_k03, nu_k04, nu_k05, nu_k10, nu_k12, nu_k13, nu_k14, nu_k15, nu_k20, nu_k21, nu_k23, nu_k24, nu_k25, nu_k30, nu_k31, nu_k32, nu_k34, nu_k35, nu_k40, nu_k41, nu_k42, nu_k43, nu_k45, nu_k50, nu_k51, nu_k52, nu_k53, nu_k54, nu_u0, nu_v0, nu_u1, nu_v1, nu_u2, nu_v2, nu_u3, nu_v3, nu_u4, nu_v4, nu_u5, nu_v5, nu_u6, nu_v6, nu_a1, nu_b1, nu_c1, nu_d1, nu_e1, nu_f1, nu_g1, nu_h1, nu_a2, nu_b2, nu_c2, nu_d2, nu_e2, nu_f2, nu_g2, nu_h2, nu_a3, nu_b3, nu_c3, nu_d3, nu_e3, nu_f3, nu_g3, nu_h3, nu_a4, nu_b4, nu_c4, nu_d4, nu_e4, nu_f4, nu_g4, nu_h4, nu_a5, nu_b5, nu_c5, nu_d5, nu_e5, nu_f5, nu_g5, nu_h5, nu_a6, nu_b6, nu_c6, nu_d6, nu_e6, nu_f6, nu_g6, nu_h6, nu_a7, nu_b7, nu_c7, nu_d7, nu_e7, nu_f7, nu_g7, nu_h7, nu_a16, nu_b16, nu_c16, nu_d16, nu_e16, nu_f16, nu_g16, nu_h16, nu_neg, nu_pos, nu_01, nu_40, nu_30, nu_20, nu_160, Int32.add_zero, Nat.reduceAdd, nu_m16, nu_16m, nu_m4, nu_4m, nu_m3, nu_3m, nu_m2, nu_2m, nI_1, nu_p2, nu_p3, nu_16p, nu_2p, nI_add, nu_cl, nu_in, Nat.add_zero, nu_l0, nu_l1, nu_l2, nu_l3, nu_l4, nu_i0_5, nu_i1_5, nu_i2_5, nu_i0_3, nu_i1_3, nu_i2_3, nu_n0, nu_n1, nu_na0, nu_na1, forall_eq, true_implies, false_implies, implies_true, not_true_eq_false, not_false_eq_true, and_true, true_and, and_self, true_or, or_true, false_or, or_false, false_and, and_false, eq_self]
                      refine hY _ ?_
                      simp (disch := omega) only [wY_write_93, wY_write_88, nu_k10, nu_01, nu_40, nu_30, nu_20, nu_160, Int32.add_zero, Nat.reduceAdd, nu_m16, nu_16m, nu_m4, nu_4m, nu_m3, nu_3m, nu_m2, nu_2m, nI_1, nu_p2, nu_p3, nu_16p, nu_2p, nI_add, nu_cl, nu_in, Nat.add_zero, nu_l0, nu_l1, nu_l2, nu_l3, nu_l4, nu_i0_5, nu_i1_5, nu_i2_5, nu_i0_3, nu_i1_3, nu_i2_3, nu_n0, nu_n1, nu_na0, nu_na1, forall_eq, true_implies, false_implies, implies_true, not_true_eq_false, not_false_eq_true, and_true, true_and, and_self, true_or, or_true, false_or, or_false, false_and, and_false, eq_self]
                      exact hp
                · rcases hb with rfl | rfl
                  · refine ⟨(-3), (nI n, nI m, cc, rq, md, bk, ct', rt, rc, lk, wt, wc, ch', st', en', sn', sk, sr, fr, lf, cr, rr), (nI n, nI m, th, ch', ro, lk, st', nw', bf', ve', bk, md, yl, la, od, sm, fr, ct'), ir_mk hn hm (R') hP, fun post hp => ?_, fun post hp => ?_⟩
                    · simp (disch := omega) only [wpX_write, wX_write_72, vx_err, vx_lnk, h, h3, nu_k01, nu_k02, nu_k03, nu_k04, nu_k05, nu_k10, nu_k12, nu_k13, nu_k14, nu_k15, nu_k20, nu_k21, nu_k23, nu_k24, nu_k25, nu_k30, nu_k31, nu_k32, nu_k34, nu_k35, nu_k40, nu_k41, nu_k42, nu_k43, nu_k45, nu_k50, nu_k51, nu_k52, nu_k53, nu_k54, nu_u0, nu_v0, nu_u1, nu_v1, nu_u2, nu_v2, nu_u3, nu_v3, nu_u4, nu_v4, nu_u5, nu_v5, nu_u6, nu_v6, nu_a1, nu_b1, nu_c1, nu_d1, nu_e1, nu_f1, nu_g1, nu_h1, nu_a2, nu_b2, nu_c2, nu_d2, nu_e2, nu_f2, nu_g2, nu_h2, nu_a3, nu_b3, nu_c3, nu_d3, nu_e3, nu_f3, nu_g3, nu_h3, nu_a4, nu_b4, nu_c4, nu_d4, nu_e4, nu_f4, nu_g4, nu_h4, nu_a5, nu_b5, nu_c5, nu_d5, nu_e5, nu_f5, nu_g5, nu_h5, nu_a6, nu_b6, nu_c6, nu_d6, nu_e6, nu_f6, nu_g6, nu_h6, nu_a7, nu_b7, nu_c7, nu_d7, nu_e7, nu_f7, nu_g7, nu_h7, nu_a16, nu_b16, nu_c16, nu_d16, nu_e16, nu_f16, nu_g16, nu_h16, nu_neg, nu_pos, nu_01, nu_40, nu_30, nu_20, nu_160, Int32.add_zero, Nat.reduceAdd, nu_m16, nu_16m, nu_m4, nu_4m, nu_m3, nu_3m, nu_m2, nu_2m, nI_1, nu_p2, nu_p3, nu_16p, nu_2p, nI_add, nu_cl, nu_in, Nat.add_zero, nu_l0, nu_l1, nu_l2, nu_l3, nu_l4, nu_i0_5, nu_i1_5, nu_i2_5, nu_i0_3, nu_i1_3, nu_i2_3, nu_n0, nu_n1, nu_na0, nu_na1, forall_eq, true_implies, false_implies, implies_true, not_true_eq_false, not_false_eq_true, and_true, true_and, and_self, true_or, or_true, false_or, or_false, false_and, and_false, eq_self]
                      refine hX _ ?_
                      simp (disch := omega) only [nu_k10, nu_01, nu_40, nu_30, nu_20, nu_160, Int32.add_zero, Nat.reduceAdd, nu_m16, nu_16m, nu_m4, nu_4m, nu_m3, nu_3m, nu_m2, nu_2m, nI_1, nu_p2, nu_p3, nu_16p, nu_2p, nI_add, nu_cl, nu_in, Nat.add_zero, nu_l0, nu_l1, nu_l2, nu_l3, nu_l4, nu_i0_5, nu_i1_5, nu_i2_5, nu_i0_3, nu_i1_3, nu_i2_3, nu_n0, nu_n1, nu_na0, nu_na1, forall_eq, true_implies, false_implies, implies_true, not_true_eq_false, not_false_eq_true, and_true, true_and, and_self, true_or, or_true, false_or, or_false, false_and, and_false, eq_self]
                      exact hp
                    · simp (disch := omega) only [wpY_write, wpY_in, wY_write_45, vy_err, vy_lnk, h, h3, nu_k01, nu_k02, nu_k03, nu_k04, nu_k05, nu_k10, nu_k12, nu_k13, nu_k14, nu_k15, nu_k20, nu_k21, nu_k23, nu_k24, nu_k25, nu_k30, nu_k31, nu_k32, nu_k34, nu_k35, nu_k40, nu_k41, nu_k42, nu_k43, nu_k45, nu_k50, nu_k51, nu_k52, nu_k53, nu_k54, nu_u0, nu_v0, nu_u1, nu_v1, nu_u2, nu_v2, nu_u3, nu_v3, nu_u4, nu_v4, nu_u5, nu_v5, nu_u6, nu_v6, nu_a1, nu_b1, nu_c1, nu_d1, nu_e1, nu_f1, nu_g1, nu_h1, nu_a2, nu_b2, nu_c2, nu_d2, nu_e2, nu_f2, nu_g2, nu_h2, nu_a3, nu_b3, nu_c3, nu_d3, nu_e3, nu_f3, nu_g3, nu_h3, nu_a4, nu_b4, nu_c4, nu_d4, nu_e4, nu_f4, nu_g4, nu_h4, nu_a5, nu_b5, nu_c5, nu_d5, nu_e5, nu_f5, nu_g5, nu_h5, nu_a6, nu_b6, nu_c6, nu_d6, nu_e6, nu_f6, nu_g6, nu_h6, nu_a7, nu_b7, nu_c7, nu_d7, nu_e7, nu_f7, nu_g7, nu_h7, nu_a16, nu_b16, nu_c16, nu_d16, nu_e16, nu_f16, nu_g16, nu_h16, nu_neg, nu_pos, nu_01, nu_40, nu_30, nu_20, nu_160, Int32.add_zero, Nat.reduceAdd, nu_m16, nu_16m, nu_m4, nu_4m, nu_m3, nu_3m, nu_m2, nu_2m, nI_1, nu_p2, nu_p3, nu_16p, nu_2p, nI_add, nu_cl, nu_in, Nat.add_zero, nu_l0, nu_l1, nu_l2, nu_l3, nu_l4, nu_i0_5, nu_i1_5, nu_i2_5, nu_i0_3, nu_i1_3, nu_i2_3, nu_n0, nu_n1, nu_na0, nu_na1, forall_eq, true_implies, false_implies, implies_true, not_true_eq_false, not_false_eq_true, and_true, true_and, and_self, true_or, or_true, false_or, or_false, false_and, and_false, eq_self]
                      refine hY _ ?_
                      simp (disch := omega) only [wY_write_93, wY_write_88, nu_k10, nu_01, nu_40, nu_30, nu_20, nu_160, Int32.add_zero, Nat.reduceAdd, nu_m16, nu_16m, nu_m4, nu_4m, nu_m3, nu_3m, nu_m2, nu_2m, nI_1, nu_p2, nu_p3, nu_16p, nu_2p, nI_add, nu_cl, nu_in, Nat.add_zero, nu_l0, nu_l1, nu_l2, nu_l3, nu_l4, nu_i0_5, nu_i1_5, nu_i2_5, nu_i0_3, nu_i1_3, nu_i2_3, nu_n0, nu_n1, nu_na0, nu_na1, forall_eq, true_implies, false_implies, implies_true, not_true_eq_false, not_false_eq_true, and_true, true_and, and_self, true_or, or_true, false_or, or_false, false_and, and_false, eq_self]
                      exact hp
                  · refine ⟨0, (nI n, nI m, cc, rq, md, bk, ct', rt, rc, lk, wt, wc, ch', st', upd en' (4 * (16 * s + k) + j) v4, sn', sk, sr, fr, lf, cr, rr), (nI n, nI m, th, ch', ro, lk, st', upd nw' (3 * (16 * s + k) + j) v4, bf', ve', bk, md, yl, la, od, sm, fr, ct'), ir_mk hn hm (ce_R R' (by omega) hL) hP, fun post hp => ?_, fun post hp => ?_⟩
                    · simp (disch := omega) only [wpX_write, wX_write_72, vx_err, vx_lnk, h, h3, nu_k01, nu_k02, nu_k03, nu_k04, nu_k05, nu_k10, nu_k12, nu_k13, nu_k14, nu_k15, nu_k20, nu_k21, nu_k23, nu_k24, nu_k25, nu_k30, nu_k31, nu_k32, nu_k34, nu_k35, nu_k40, nu_k41, nu_k42, nu_k43, nu_k45, nu_k50, nu_k51, nu_k52, nu_k53, nu_k54, nu_u0, nu_v0, nu_u1, nu_v1, nu_u2, nu_v2, nu_u3, nu_v3, nu_u4, nu_v4, nu_u5, nu_v5, nu_u6, nu_v6, nu_a1, nu_b1, nu_c1, nu_d1, nu_e1, nu_f1, nu_g1, nu_h1, nu_a2, nu_b2, nu_c2, nu_d2, nu_e2, nu_f2, nu_g2, nu_h2, nu_a3, nu_b3, nu_c3, nu_d3, nu_e3, nu_f3, nu_g3, nu_h3, nu_a4, nu_b4, nu_c4, nu_d4, nu_e4, nu_f4, nu_g4, nu_h4, nu_a5, nu_b5, nu_c5, nu_d5, nu_e5, nu_f5, nu_g5, nu_h5, nu_a6, nu_b6, nu_c6, nu_d6, nu_e6, nu_f6, nu_g6, nu_h6, nu_a7, nu_b7, nu_c7, nu_d7, nu_e7, nu_f7, nu_g7, nu_h7, nu_a16, nu_b16, nu_c16, nu_d16, nu_e16, nu_f16, nu_g16, nu_h16, nu_neg, nu_pos, nu_01, nu_40, nu_30, nu_20, nu_160, Int32.add_zero, Nat.reduceAdd, nu_m16, nu_16m, nu_m4, nu_4m, nu_m3, nu_3m, nu_m2, nu_2m, nI_1, nu_p2, nu_p3, nu_16p, nu_2p, nI_add, nu_cl, nu_in, Nat.add_zero, nu_l0, nu_l1, nu_l2, nu_l3, nu_l4, nu_i0_5, nu_i1_5, nu_i2_5, nu_i0_3, nu_i1_3, nu_i2_3, nu_n0, nu_n1, nu_na0, nu_na1, forall_eq, true_implies, false_implies, implies_true, not_true_eq_false, not_false_eq_true, and_true, true_and, and_self, true_or, or_true, false_or, or_false, false_and, and_false, eq_self]
                      refine hX _ ?_
                      simp (disch := omega) only [wX_write_95, nu_k10, nu_01, nu_40, nu_30, nu_20, nu_160, Int32.add_zero, Nat.reduceAdd, nu_m16, nu_16m, nu_m4, nu_4m, nu_m3, nu_3m, nu_m2, nu_2m, nI_1, nu_p2, nu_p3, nu_16p, nu_2p, nI_add, nu_cl, nu_in, Nat.add_zero, nu_l0, nu_l1, nu_l2, nu_l3, nu_l4, nu_i0_5, nu_i1_5, nu_i2_5, nu_i0_3, nu_i1_3, nu_i2_3, nu_n0, nu_n1, nu_na0, nu_na1, forall_eq, true_implies, false_implies, implies_true, not_true_eq_false, not_false_eq_true, and_true, true_and, and_self, true_or, or_true, false_or, or_false, false_and, and_false, eq_self]
                      exact hp
                    · simp (disch := omega) only [wpY_write, wpY_in, wY_write_45, vy_err, vy_lnk, h, h3, nu_k01, nu_k02, nu_k03, nu_k04, nu_k05, nu_k10, nu_k12, nu_k13, nu_k14, nu_k15, nu_k20, nu_k21, nu_k23, nu_k24, nu_k25, nu_k30, nu_k31, nu_k32, nu_k34, nu_k35, nu_k40, nu_k41, nu_k42, nu_k43, nu_k45, nu_k50, nu_k51, nu_k52, nu_k53, nu_k54, nu_u0, nu_v0, nu_u1, nu_v1, nu_u2, nu_v2, nu_u3, nu_v3, nu_u4, nu_v4, nu_u5, nu_v5, nu_u6, nu_v6, nu_a1, nu_b1, nu_c1, nu_d1, nu_e1, nu_f1, nu_g1, nu_h1, nu_a2, nu_b2, nu_c2, nu_d2, nu_e2, nu_f2, nu_g2, nu_h2, nu_a3, nu_b3, nu_c3, nu_d3, nu_e3, nu_f3, nu_g3, nu_h3, nu_a4, nu_b4, nu_c4, nu_d4, nu_e4, nu_f4, nu_g4, nu_h4, nu_a5, nu_b5, nu_c5, nu_d5, nu_e5, nu_f5, nu_g5, nu_h5, nu_a6, nu_b6, nu_c6, nu_d6, nu_e6, nu_f6, nu_g6, nu_h6, nu_a7, nu_b7, nu_c7, nu_d7, nu_e7, nu_f7, nu_g7, nu_h7, nu_a16, nu_b16, nu_c16, nu_d16, nu_e16, nu_f16, nu_g16, nu_h16, nu_neg, nu_pos, nu_01, nu_40, nu_30, nu_20, nu_160, Int32.add_zero, Nat.reduceAdd, nu_m16, nu_16m, nu_m4, nu_4m, nu_m3, nu_3m, nu_m2, nu_2m, nI_1, nu_p2, nu_p3, nu_16p, nu_2p, nI_add, nu_cl, nu_in, Nat.add_zero, nu_l0, nu_l1, nu_l2, nu_l3, nu_l4, nu_i0_5, nu_i1_5, nu_i2_5, nu_i0_3, nu_i1_3, nu_i2_3, nu_n0, nu_n1, nu_na0, nu_na1, forall_eq, true_implies, false_implies, implies_true, not_true_eq_false, not_false_eq_true, and_true, true_and, and_self, true_or, or_true, false_or, or_false, false_and, and_false, eq_self]
                      refine hY _ ?_
                      simp (disch := omega) only [wY_write_93, wY_write_88, nu_k10, nu_01, nu_40, nu_30, nu_20, nu_160, Int32.add_zero, Nat.reduceAdd, nu_m16, nu_16m, nu_m4, nu_4m, nu_m3, nu_3m, nu_m2, nu_2m, nI_1, nu_p2, nu_p3, nu_16p, nu_2p, nI_add, nu_cl, nu_in, Nat.add_zero, nu_l0, nu_l1, nu_l2, nu_l3, nu_l4, nu_i0_5, nu_i1_5, nu_i2_5, nu_i0_3, nu_i1_3, nu_i2_3, nu_n0, nu_n1, nu_na0, nu_na1, forall_eq, true_implies, false_implies, implies_true, not_true_eq_false, not_false_eq_true, and_true, true_and, and_self, true_or, or_true, false_or, or_false, false_and, and_false, eq_self]
                      exact hp
              · by_cases j2 : j = 2
                · have hl : ¬ lk_v v4 = 0 := fun q => jl ⟨j2, q⟩
                  refine ⟨0, (nI n, nI m, cc, rq, md, bk, ct, rt, rc, lk, wt, wc, ch, st, upd en (4 * (16 * s + k) + j) v4, sn, sk, sr, fr, lf, cr, rr), (nI n, nI m, th, ch, ro, lk, st, upd nw (3 * (16 * s + k) + j) v4, bf, ve, bk, md, yl, la, od, sm, fr, ct), ir_mk hn hm (ce_R R (by omega) hL) hP, fun post hp => ?_, fun post hp => ?_⟩
                  · simp (disch := omega) only [wpX_write, wX_write_72, wX_write_95, vx_err, vx_lnk, h, h0, h3, h5, hl, nu_k01, nu_k02, nu_k03, nu_k04, nu_k05, nu_k10, nu_k12, nu_k13, nu_k14, nu_k15, nu_k20, nu_k21, nu_k23, nu_k24, nu_k25, nu_k30, nu_k31, nu_k32, nu_k34, nu_k35, nu_k40, nu_k41, nu_k42, nu_k43, nu_k45, nu_k50, nu_k51, nu_k52, nu_k53, nu_k54, nu_u0, nu_v0, nu_u1, nu_v1, nu_u2, nu_v2, nu_u3, nu_v3, nu_u4, nu_v4, nu_u5, nu_v5, nu_u6, nu_v6, nu_a1, nu_b1, nu_c1, nu_d1, nu_e1, nu_f1, nu_g1, nu_h1, nu_a2, nu_b2, nu_c2, nu_d2, nu_e2, nu_f2, nu_g2, nu_h2, nu_a3, nu_b3, nu_c3, nu_d3, nu_e3, nu_f3, nu_g3, nu_h3, nu_a4, nu_b4, nu_c4, nu_d4, nu_e4, nu_f4, nu_g4, nu_h4, nu_a5, nu_b5, nu_c5, nu_d5, nu_e5, nu_f5, nu_g5, nu_h5, nu_a6, nu_b6, nu_c6, nu_d6, nu_e6, nu_f6, nu_g6, nu_h6, nu_a7, nu_b7, nu_c7, nu_d7, nu_e7, nu_f7, nu_g7, nu_h7, nu_a16, nu_b16, nu_c16, nu_d16, nu_e16, nu_f16, nu_g16, nu_h16, nu_neg, nu_pos, nu_01, nu_40, nu_30, nu_20, nu_160, Int32.add_zero, Nat.reduceAdd, nu_m16, nu_16m, nu_m4, nu_4m, nu_m3, nu_3m, nu_m2, nu_2m, nI_1, nu_p2, nu_p3, nu_16p, nu_2p, nI_add, nu_cl, nu_in, Nat.add_zero, nu_l0, nu_l1, nu_l2, nu_l3, nu_l4, nu_i0_5, nu_i1_5, nu_i2_5, nu_i0_3, nu_i1_3, nu_i2_3, nu_n0, nu_n1, nu_na0, nu_na1, forall_eq, true_implies, false_implies, implies_true, not_true_eq_false, not_false_eq_true, and_true, true_and, and_self, true_or, or_true, false_or, or_false, false_and, and_false, eq_self]
                    exact hp
                  · simp (disch := omega) only [wpY_write, wpY_in, wY_write_45, wY_write_93, wY_write_88, vy_err, vy_lnk, h, h0, h3, h5, hl, nu_k01, nu_k02, nu_k03, nu_k04, nu_k05, nu_k10, nu_k12, nu_k13, nu_k14, nu_k15, nu_k20, nu_k21, nu_k23, nu_k24, nu_k25, nu_k30, nu_k31, nu_k32, nu_k34, nu_k35, nu_k40, nu_k41, nu_k42, nu_k43, nu_k45, nu_k50, nu_k51, nu_k52, nu_k53, nu_k54, nu_u0, nu_v0, nu_u1, nu_v1, nu_u2, nu_v2, nu_u3, nu_v3, nu_u4, nu_v4, nu_u5, nu_v5, nu_u6, nu_v6, nu_a1, nu_b1, nu_c1, nu_d1, nu_e1, nu_f1, nu_g1, nu_h1, nu_a2, nu_b2, nu_c2, nu_d2, nu_e2, nu_f2, nu_g2, nu_h2, nu_a3, nu_b3, nu_c3, nu_d3, nu_e3, nu_f3, nu_g3, nu_h3, nu_a4, nu_b4, nu_c4, nu_d4, nu_e4, nu_f4, nu_g4, nu_h4, nu_a5, nu_b5, nu_c5, nu_d5, nu_e5, nu_f5, nu_g5, nu_h5, nu_a6, nu_b6, nu_c6, nu_d6, nu_e6, nu_f6, nu_g6, nu_h6, nu_a7, nu_b7, nu_c7, nu_d7, nu_e7, nu_f7, nu_g7, nu_h7, nu_a16, nu_b16, nu_c16, nu_d16, nu_e16, nu_f16, nu_g16, nu_h16, nu_neg, nu_pos, nu_01, nu_40, nu_30, nu_20, nu_160, Int32.add_zero, Nat.reduceAdd, nu_m16, nu_16m, nu_m4, nu_4m, nu_m3, nu_3m, nu_m2, nu_2m, nI_1, nu_p2, nu_p3, nu_16p, nu_2p, nI_add, nu_cl, nu_in, Nat.add_zero, nu_l0, nu_l1, nu_l2, nu_l3, nu_l4, nu_i0_5, nu_i1_5, nu_i2_5, nu_i0_3, nu_i1_3, nu_i2_3, nu_n0, nu_n1, nu_na0, nu_na1, forall_eq, true_implies, false_implies, implies_true, not_true_eq_false, not_false_eq_true, and_true, true_and, and_self, true_or, or_true, false_or, or_false, false_and, and_false, eq_self]
                    exact hp
                · refine ⟨0, (nI n, nI m, cc, rq, md, bk, ct, rt, rc, lk, wt, wc, ch, st, upd en (4 * (16 * s + k) + j) v4, sn, sk, sr, fr, lf, cr, rr), (nI n, nI m, th, ch, ro, lk, st, upd nw (3 * (16 * s + k) + j) v4, bf, ve, bk, md, yl, la, od, sm, fr, ct), ir_mk hn hm (ce_R R (by omega) hL) hP, fun post hp => ?_, fun post hp => ?_⟩
                  · simp (disch := omega) only [wpX_write, wX_write_72, wX_write_95, vx_err, vx_lnk, h, h0, h3, h5, nu_k01, nu_k02, nu_k03, nu_k04, nu_k05, nu_k10, nu_k12, nu_k13, nu_k14, nu_k15, nu_k20, nu_k21, nu_k23, nu_k24, nu_k25, nu_k30, nu_k31, nu_k32, nu_k34, nu_k35, nu_k40, nu_k41, nu_k42, nu_k43, nu_k45, nu_k50, nu_k51, nu_k52, nu_k53, nu_k54, nu_u0, nu_v0, nu_u1, nu_v1, nu_u2, nu_v2, nu_u3, nu_v3, nu_u4, nu_v4, nu_u5, nu_v5, nu_u6, nu_v6, nu_a1, nu_b1, nu_c1, nu_d1, nu_e1, nu_f1, nu_g1, nu_h1, nu_a2, nu_b2, nu_c2, nu_d2, nu_e2, nu_f2, nu_g2, nu_h2, nu_a3, nu_b3, nu_c3, nu_d3, nu_e3, nu_f3, nu_g3, nu_h3, nu_a4, nu_b4, nu_c4, nu_d4, nu_e4, nu_f4, nu_g4, nu_h4, nu_a5, nu_b5, nu_c5, nu_d5, nu_e5, nu_f5, nu_g5, nu_h5, nu_a6, nu_b6, nu_c6, nu_d6, nu_e6, nu_f6, nu_g6, nu_h6, nu_a7, nu_b7, nu_c7, nu_d7, nu_e7, nu_f7, nu_g7, nu_h7, nu_a16, nu_b16, nu_c16, nu_d16, nu_e16, nu_f16, nu_g16, nu_h16, nu_neg, nu_pos, nu_01, nu_40, nu_30, nu_20, nu_160, Int32.add_zero, Nat.reduceAdd, nu_m16, nu_16m, nu_m4, nu_4m, nu_m3, nu_3m, nu_m2, nu_2m, nI_1, nu_p2, nu_p3, nu_16p, nu_2p, nI_add, nu_cl, nu_in, Nat.add_zero, nu_l0, nu_l1, nu_l2, nu_l3, nu_l4, nu_i0_5, nu_i1_5, nu_i2_5, nu_i0_3, nu_i1_3, nu_i2_3, nu_n0, nu_n1, nu_na0, nu_na1, forall_eq, true_implies, false_implies, implies_true, not_true_eq_false, not_false_eq_true, and_true, true_and, and_self, true_or, or_true, false_or, or_false, false_and, and_false, eq_self]
                    exact hp
                  · simp (disch := omega) only [wpY_write, wpY_in, wY_write_45, wY_write_93, wY_write_88, vy_err, vy_lnk, h, h0, h3, h5, nu_k01, nu_k02, nu_k03, nu_k04, nu_k05, nu_k10, nu_k12, nu_k13, nu_k14, nu_k15, nu_k20, nu_k21, nu_k23, nu_k24, nu_k25, nu_k30, nu_k31, nu_k32, nu_k34, nu_k35, nu_k40, nu_k41, nu_k42, nu_k43, nu_k45, nu_k50, nu_k51, nu_k52, nu_k53, nu_k54, nu_u0, nu_v0, nu_u1, nu_v1, nu_u2, nu_v2, nu_u3, nu_v3, nu_u4, nu_v4, nu_u5, nu_v5, nu_u6, nu_v6, nu_a1, nu_b1, nu_c1, nu_d1, nu_e1, nu_f1, nu_g1, nu_h1, nu_a2, nu_b2, nu_c2, nu_d2, nu_e2, nu_f2, nu_g2, nu_h2, nu_a3, nu_b3, nu_c3, nu_d3, nu_e3, nu_f3, nu_g3, nu_h3, nu_a4, nu_b4, nu_c4, nu_d4, nu_e4, nu_f4, nu_g4, nu_h4, nu_a5, nu_b5, nu_c5, nu_d5, nu_e5, nu_f5, nu_g5, nu_h5, nu_a6, nu_b6, nu_c6, nu_d6, nu_e6, nu_f6, nu_g6, nu_h6, nu_a7, nu_b7, nu_c7, nu_d7, nu_e7, nu_f7, nu_g7, nu_h7, nu_a16, nu_b16, nu_c16, nu_d16, nu_e16, nu_f16, nu_g16, nu_h16, nu_neg, nu_pos, nu_01, nu_40, nu_30, nu_20, nu_160, Int32.add_zero, Nat.reduceAdd, nu_m16, nu_16m, nu_m4, nu_4m, nu_m3, nu_3m, nu_m2, nu_2m, nI_1, nu_p2, nu_p3, nu_16p, nu_2p, nI_add, nu_cl, nu_in, Nat.add_zero, nu_l0, nu_l1, nu_l2, nu_l3, nu_l4, nu_i0_5, nu_i1_5, nu_i2_5, nu_i0_3, nu_i1_3, nu_i2_3, nu_n0, nu_n1, nu_na0, nu_na1, forall_eq, true_implies, false_implies, implies_true, not_true_eq_false, not_false_eq_true, and_true, true_and, and_self, true_or, or_true, false_or, or_false, false_and, and_false, eq_self]
                    exact hp
  · refine ⟨(er_v bk v1 v2), (nI n, nI m, cc, rq, md, bk, ct, rt, rc, lk, wt, wc, ch, st, en, sn, sk, sr, fr, lf, cr, rr), (nI n, nI m, th, ch, ro, lk, st, nw, bf, ve, bk, md, yl, la, od, sm, fr, ct), ir_mk hn hm (R) hP, fun post hp => ?_, fun post hp => ?_⟩
    · simp (disch := omega) only [wpX_write, vx_err, h, nu_01, nu_40, nu_30, nu_20, nu_160, Int32.add_zero, Nat.reduceAdd, nu_m16, nu_16m, nu_m4, nu_4m, nu_m3, nu_3m, nu_m2, nu_2m, nI_1, nu_p2, nu_p3, nu_16p, nu_2p, nI_add, nu_cl, nu_in, Nat.add_zero, nu_l0, nu_l1, nu_l2, nu_l3, nu_l4, nu_i0_5, nu_i1_5, nu_i2_5, nu_i0_3, nu_i1_3, nu_i2_3, nu_n0, nu_n1, nu_na0, nu_na1, forall_eq, true_implies, false_implies, implies_true, not_true_eq_false, not_false_eq_true, and_true, true_and, and_self, true_or, or_true, false_or, or_false, false_and, and_false, eq_self]
      exact hp
    · simp (disch := omega) only [wpY_write, vy_err, h, nu_01, nu_40, nu_30, nu_20, nu_160, Int32.add_zero, Nat.reduceAdd, nu_m16, nu_16m, nu_m4, nu_4m, nu_m3, nu_3m, nu_m2, nu_2m, nI_1, nu_p2, nu_p3, nu_16p, nu_2p, nI_add, nu_cl, nu_in, Nat.add_zero, nu_l0, nu_l1, nu_l2, nu_l3, nu_l4, nu_i0_5, nu_i1_5, nu_i2_5, nu_i0_3, nu_i1_3, nu_i2_3, nu_n0, nu_n1, nu_na0, nu_na1, forall_eq, true_implies, false_implies, implies_true, not_true_eq_false, not_false_eq_true, and_true, true_and, and_self, true_or, or_true, false_or, or_false, false_and, and_false, eq_self]
      exact hp
/-- the calls that only read -/
def sm_R {α : Type} (PX : (α → Prop) → Prop) (PY : (α → Prop) → Prop) : Prop := ∃ r : α, (∀ post : α → Prop, post r → PX post) ∧ (∀ post : α → Prop, post r → PY post)
theorem sm_r {α : Type} {PX : (α → Prop) → Prop} {PY : (α → Prop) → Prop} {Q : Prop} (h : sm_R PX PY) (q : Q) : PX (fun r => PY (fun r' => r' = r ∧ Q)) := by
  obtain ⟨r, hX, hY⟩ := h
  exact hX _ (hY _ ⟨rfl, q⟩)
theorem fo_S {u : SX} {v : SY} (I : i_Rel 0 u v) (v1 : Int32) : sm_R (fun post => wpX_found post u v1) (fun post => wpY_found post v v1) := by
  obtain ⟨n, m, cc, rq, md, bk, ct, rt, rc, lk, wt, wc, ch, st, en, sn, sk, sr, fr, lf, cr, rr, th, ro, nw, bf, ve, yl, la, od, sm, rfl, rfl, hn, hm, R, hP⟩ := I
  by_cases c0 : v1 < 0
  · refine ⟨-1, fun post hp => ?_, fun post hp => ?_⟩
    · simp only [wpX_found, c0, forall_eq, true_implies, false_implies, implies_true, not_true_eq_false, not_false_eq_true, and_true, true_and, and_self, true_or, or_true, false_or, or_false, false_and, and_false, eq_self]
      exact hp
    · simp only [wpY_found, wpY_in, c0, forall_eq, true_implies, false_implies, implies_true, not_true_eq_false, not_false_eq_true, and_true, true_and, and_self, true_or, or_true, false_or, or_false, false_and, and_false, eq_self]
      exact hp
  · obtain ⟨j, hj, rfl⟩ := nI_of c0
    by_cases h : m ≤ j
    · refine ⟨-1, fun post hp => ?_, fun post hp => ?_⟩
      · simp (disch := omega) only [wpX_found, nu_le, nu_neg, h, forall_eq, true_implies, false_implies, implies_true, not_true_eq_false, not_false_eq_true, and_true, true_and, and_self, true_or, or_true, false_or, or_false, false_and, and_false, eq_self]
        exact hp
      · simp (disch := omega) only [wpY_found, wpY_in, nu_le, nu_neg, h, forall_eq, true_implies, false_implies, implies_true, not_true_eq_false, not_false_eq_true, and_true, true_and, and_self, true_or, or_true, false_or, or_false, false_and, and_false, eq_self]
        exact hp
    · refine ⟨fr j, fun post hp => ?_, fun post hp => ?_⟩
      · simp (disch := omega) only [wpX_found, nu_le, nu_neg, h, nu_01, nu_40, nu_30, nu_20, nu_160, Int32.add_zero, Nat.reduceAdd, nu_m16, nu_16m, nu_m4, nu_4m, nu_m3, nu_3m, nu_m2, nu_2m, nI_1, nu_p2, nu_p3, nu_16p, nu_2p, nI_add, nu_cl, nu_in, Nat.add_zero, nu_l0, nu_l1, nu_l2, nu_l3, nu_l4, nu_i0_5, nu_i1_5, nu_i2_5, nu_i0_3, nu_i1_3, nu_i2_3, nu_n0, nu_n1, nu_na0, nu_na1, forall_eq, true_implies, false_implies, implies_true, not_true_eq_false, not_false_eq_true, and_true, true_and, and_self, true_or, or_true, false_or, or_false, false_and, and_false, eq_self]
        exact hp
      · simp (disch := omega) only [wpY_found, wpY_in, nu_le, nu_neg, h, nu_k10, nu_01, nu_40, nu_30, nu_20, nu_160, Int32.add_zero, Nat.reduceAdd, nu_m16, nu_16m, nu_m4, nu_4m, nu_m3, nu_3m, nu_m2, nu_2m, nI_1, nu_p2, nu_p3, nu_16p, nu_2p, nI_add, nu_cl, nu_in, Nat.add_zero, nu_l0, nu_l1, nu_l2, nu_l3, nu_l4, nu_i0_5, nu_i1_5, nu_i2_5, nu_i0_3, nu_i1_3, nu_i2_3, nu_n0, nu_n1, nu_na0, nu_na1, forall_eq, true_implies, false_implies, implies_true, not_true_eq_false, not_false_eq_true, and_true, true_and, and_self, true_or, or_true, false_or, or_false, false_and, and_false, eq_self]
        exact hp
theorem sx_S {u : SX} {v : SY} (I : i_Rel 0 u v) (v1 v2 : Int32) : sm_R (fun post => wpX_statement post u v1 v2) (fun post => wpY_statement post v v1 v2) := by
  obtain ⟨n, m, cc, rq, md, bk, ct, rt, rc, lk, wt, wc, ch, st, en, sn, sk, sr, fr, lf, cr, rr, th, ro, nw, bf, ve, yl, la, od, sm, rfl, rfl, hn, hm, R, hP⟩ := I
  by_cases c0 : v1 < 0
  · refine ⟨-1, fun post hp => ?_, fun post hp => ?_⟩
    · simp only [wpX_statement, c0, forall_eq, true_implies, false_implies, implies_true, not_true_eq_false, not_false_eq_true, and_true, true_and, and_self, true_or, or_true, false_or, or_false, false_and, and_false, eq_self]
      exact hp
    · simp only [wpY_statement, wpY_in, c0, forall_eq, true_implies, false_implies, implies_true, not_true_eq_false, not_false_eq_true, and_true, true_and, and_self, true_or, or_true, false_or, or_false, false_and, and_false, eq_self]
      exact hp
  · obtain ⟨j, hj, rfl⟩ := nI_of c0
    by_cases h : n ≤ j
    · refine ⟨-1, fun post hp => ?_, fun post hp => ?_⟩
      · simp (disch := omega) only [wpX_statement, nu_le, nu_neg, h, forall_eq, true_implies, false_implies, implies_true, not_true_eq_false, not_false_eq_true, and_true, true_and, and_self, true_or, or_true, false_or, or_false, false_and, and_false, eq_self]
        exact hp
      · simp (disch := omega) only [wpY_statement, wpY_in, nu_le, nu_neg, h, forall_eq, true_implies, false_implies, implies_true, not_true_eq_false, not_false_eq_true, and_true, true_and, and_self, true_or, or_true, false_or, or_false, false_and, and_false, eq_self]
        exact hp
    · by_cases d0 : v2 < 0
      · refine ⟨-1, fun post hp => ?_, fun post hp => ?_⟩
        · simp (disch := omega) only [wpX_statement, nu_le, nu_neg, h, d0, forall_eq, true_implies, false_implies, implies_true, not_true_eq_false, not_false_eq_true, and_true, true_and, and_self, true_or, or_true, false_or, or_false, false_and, and_false, eq_self]
          exact hp
        · simp (disch := omega) only [wpY_statement, wpY_in, nu_le, nu_neg, h, d0, nu_k10, forall_eq, true_implies, false_implies, implies_true, not_true_eq_false, not_false_eq_true, and_true, true_and, and_self, true_or, or_true, false_or, or_false, false_and, and_false, eq_self]
          exact hp
      · obtain ⟨i, hi, rfl⟩ := nI_of d0
        by_cases i2 : 2 ≤ i
        · refine ⟨-1, fun post hp => ?_, fun post hp => ?_⟩
          · simp (disch := omega) only [wpX_statement, nu_le, h, nu_a1, nu_b1, nu_c1, nu_d1, nu_e1, nu_f1, nu_g1, nu_h1, nu_a2, nu_b2, nu_c2, nu_d2, nu_e2, nu_f2, nu_g2, nu_h2, nu_a3, nu_b3, nu_c3, nu_d3, nu_e3, nu_f3, nu_g3, nu_h3, nu_a4, nu_b4, nu_c4, nu_d4, nu_e4, nu_f4, nu_g4, nu_h4, nu_a5, nu_b5, nu_c5, nu_d5, nu_e5, nu_f5, nu_g5, nu_h5, nu_a6, nu_b6, nu_c6, nu_d6, nu_e6, nu_f6, nu_g6, nu_h6, nu_a7, nu_b7, nu_c7, nu_d7, nu_e7, nu_f7, nu_g7, nu_h7, nu_a16, nu_b16, nu_c16, nu_d16, nu_e16, nu_f16, nu_g16, nu_h16, nu_neg, nu_pos, forall_eq, true_implies, false_implies, implies_true, not_true_eq_false, not_false_eq_true, and_true, true_and, and_self, true_or, or_true, false_or, or_false, false_and, and_false, eq_self]
            exact hp
          · simp (disch := omega) only [wpY_statement, wpY_in, nu_le, h, nu_k10, nu_a1, nu_b1, nu_c1, nu_d1, nu_e1, nu_f1, nu_g1, nu_h1, nu_a2, nu_b2, nu_c2, nu_d2, nu_e2, nu_f2, nu_g2, nu_h2, nu_a3, nu_b3, nu_c3, nu_d3, nu_e3, nu_f3, nu_g3, nu_h3, nu_a4, nu_b4, nu_c4, nu_d4, nu_e4, nu_f4, nu_g4, nu_h4, nu_a5, nu_b5, nu_c5, nu_d5, nu_e5, nu_f5, nu_g5, nu_h5, nu_a6, nu_b6, nu_c6, nu_d6, nu_e6, nu_f6, nu_g6, nu_h6, nu_a7, nu_b7, nu_c7, nu_d7, nu_e7, nu_f7, nu_g7, nu_h7, nu_a16, nu_b16, nu_c16, nu_d16, nu_e16, nu_f16, nu_g16, nu_h16, nu_neg, nu_pos, forall_eq, true_implies, false_implies, implies_true, not_true_eq_false, not_false_eq_true, and_true, true_and, and_self, true_or, or_true, false_or, or_false, false_and, and_false, eq_self]
            exact hp
        · have hp' := hP j (by omega)
          rcases (show i = 0 ∨ i = 1 by omega) with rfl | rfl
          · refine ⟨sm (2 * j), fun post hp => ?_, fun post hp => ?_⟩
            · rw [← hp'.1] at hp
              simp (disch := omega) only [wpX_statement, nu_le, h, nu_u0, nu_v0, nu_u1, nu_v1, nu_u2, nu_v2, nu_u3, nu_v3, nu_u4, nu_v4, nu_u5, nu_v5, nu_u6, nu_v6, nu_a1, nu_b1, nu_c1, nu_d1, nu_e1, nu_f1, nu_g1, nu_h1, nu_a2, nu_b2, nu_c2, nu_d2, nu_e2, nu_f2, nu_g2, nu_h2, nu_a3, nu_b3, nu_c3, nu_d3, nu_e3, nu_f3, nu_g3, nu_h3, nu_a4, nu_b4, nu_c4, nu_d4, nu_e4, nu_f4, nu_g4, nu_h4, nu_a5, nu_b5, nu_c5, nu_d5, nu_e5, nu_f5, nu_g5, nu_h5, nu_a6, nu_b6, nu_c6, nu_d6, nu_e6, nu_f6, nu_g6, nu_h6, nu_a7, nu_b7, nu_c7, nu_d7, nu_e7, nu_f7, nu_g7, nu_h7, nu_a16, nu_b16, nu_c16, nu_d16, nu_e16, nu_f16, nu_g16, nu_h16, nu_neg, nu_pos, nu_01, nu_40, nu_30, nu_20, nu_160, Int32.add_zero, Nat.reduceAdd, nu_m16, nu_16m, nu_m4, nu_4m, nu_m3, nu_3m, nu_m2, nu_2m, nI_1, nu_p2, nu_p3, nu_16p, nu_2p, nI_add, nu_cl, nu_in, Nat.add_zero, nu_l0, nu_l1, nu_l2, nu_l3, nu_l4, nu_i0_5, nu_i1_5, nu_i2_5, nu_i0_3, nu_i1_3, nu_i2_3, nu_n0, nu_n1, nu_na0, nu_na1, forall_eq, true_implies, false_implies, implies_true, not_true_eq_false, not_false_eq_true, and_true, true_and, and_self, true_or, or_true, false_or, or_false, false_and, and_false, eq_self]
              exact hp
            · simp (disch := omega) only [wpY_statement, wpY_in, nu_le, h, nu_k10, nu_a1, nu_b1, nu_c1, nu_d1, nu_e1, nu_f1, nu_g1, nu_h1, nu_a2, nu_b2, nu_c2, nu_d2, nu_e2, nu_f2, nu_g2, nu_h2, nu_a3, nu_b3, nu_c3, nu_d3, nu_e3, nu_f3, nu_g3, nu_h3, nu_a4, nu_b4, nu_c4, nu_d4, nu_e4, nu_f4, nu_g4, nu_h4, nu_a5, nu_b5, nu_c5, nu_d5, nu_e5, nu_f5, nu_g5, nu_h5, nu_a6, nu_b6, nu_c6, nu_d6, nu_e6, nu_f6, nu_g6, nu_h6, nu_a7, nu_b7, nu_c7, nu_d7, nu_e7, nu_f7, nu_g7, nu_h7, nu_a16, nu_b16, nu_c16, nu_d16, nu_e16, nu_f16, nu_g16, nu_h16, nu_neg, nu_pos, nu_01, nu_40, nu_30, nu_20, nu_160, Int32.add_zero, Nat.reduceAdd, nu_m16, nu_16m, nu_m4, nu_4m, nu_m3, nu_3m, nu_m2, nu_2m, nI_1, nu_p2, nu_p3, nu_16p, nu_2p, nI_add, nu_cl, nu_in, Nat.add_zero, nu_l0, nu_l1, nu_l2, nu_l3, nu_l4, nu_i0_5, nu_i1_5, nu_i2_5, nu_i0_3, nu_i1_3, nu_i2_3, nu_n0, nu_n1, nu_na0, nu_na1, forall_eq, true_implies, false_implies, implies_true, not_true_eq_false, not_false_eq_true, and_true, true_and, and_self, true_or, or_true, false_or, or_false, false_and, and_false, eq_self]
              exact hp
          · refine ⟨sm (2 * j + 1), fun post hp => ?_, fun post hp => ?_⟩
            · rw [← hp'.2] at hp
              simp (disch := omega) only [wpX_statement, nu_le, h, nu_u0, nu_v0, nu_u1, nu_v1, nu_u2, nu_v2, nu_u3, nu_v3, nu_u4, nu_v4, nu_u5, nu_v5, nu_u6, nu_v6, nu_a1, nu_b1, nu_c1, nu_d1, nu_e1, nu_f1, nu_g1, nu_h1, nu_a2, nu_b2, nu_c2, nu_d2, nu_e2, nu_f2, nu_g2, nu_h2, nu_a3, nu_b3, nu_c3, nu_d3, nu_e3, nu_f3, nu_g3, nu_h3, nu_a4, nu_b4, nu_c4, nu_d4, nu_e4, nu_f4, nu_g4, nu_h4, nu_a5, nu_b5, nu_c5, nu_d5, nu_e5, nu_f5, nu_g5, nu_h5, nu_a6, nu_b6, nu_c6, nu_d6, nu_e6, nu_f6, nu_g6, nu_h6, nu_a7, nu_b7, nu_c7, nu_d7, nu_e7, nu_f7, nu_g7, nu_h7, nu_a16, nu_b16, nu_c16, nu_d16, nu_e16, nu_f16, nu_g16, nu_h16, nu_neg, nu_pos, nu_01, nu_40, nu_30, nu_20, nu_160, Int32.add_zero, Nat.reduceAdd, nu_m16, nu_16m, nu_m4, nu_4m, nu_m3, nu_3m, nu_m2, nu_2m, nI_1, nu_p2, nu_p3, nu_16p, nu_2p, nI_add, nu_cl, nu_in, Nat.add_zero, nu_l0, nu_l1, nu_l2, nu_l3, nu_l4, nu_i0_5, nu_i1_5, nu_i2_5, nu_i0_3, nu_i1_3, nu_i2_3, nu_n0, nu_n1, nu_na0, nu_na1, forall_eq, true_implies, false_implies, implies_true, not_true_eq_false, not_false_eq_true, and_true, true_and, and_self, true_or, or_true, false_or, or_false, false_and, and_false, eq_self]
              exact hp
            · simp (disch := omega) only [wpY_statement, wpY_in, nu_le, h, nu_k10, nu_a1, nu_b1, nu_c1, nu_d1, nu_e1, nu_f1, nu_g1, nu_h1, nu_a2, nu_b2, nu_c2, nu_d2, nu_e2, nu_f2, nu_g2, nu_h2, nu_a3, nu_b3, nu_c3, nu_d3, nu_e3, nu_f3, nu_g3, nu_h3, nu_a4, nu_b4, nu_c4, nu_d4, nu_e4, nu_f4, nu_g4, nu_h4, nu_a5, nu_b5, nu_c5, nu_d5, nu_e5, nu_f5, nu_g5, nu_h5, nu_a6, nu_b6, nu_c6, nu_d6, nu_e6, nu_f6, nu_g6, nu_h6, nu_a7, nu_b7, nu_c7, nu_d7, nu_e7, nu_f7, nu_g7, nu_h7, nu_a16, nu_b16, nu_c16, nu_d16, nu_e16, nu_f16, nu_g16, nu_h16, nu_neg, nu_pos, nu_01, nu_40, nu_30, nu_20, nu_160, Int32.add_zero, Nat.reduceAdd, nu_m16, nu_16m, nu_m4, nu_4m, nu_m3, nu_3m, nu_m2, nu_2m, nI_1, nu_p2, nu_p3, nu_16p, nu_2p, nI_add, nu_cl, nu_in, Nat.add_zero, nu_l0, nu_l1, nu_l2, nu_l3, nu_l4, nu_i0_5, nu_i1_5, nu_i2_5, nu_i0_3, nu_i1_3, nu_i2_3, nu_n0, nu_n1, nu_na0, nu_na1, forall_eq, true_implies, false_implies, implies_true, not_true_eq_false, not_false_eq_true, and_true, true_and, and_self, true_or, or_true, false_or, or_false, false_and, and_false, eq_self]
              exact hp
theorem co_S {u : SX} {v : SY} (I : i_Rel 0 u v) (v1 : Int32) : sm_R (fun post => wpX_count post u v1) (fun post => wpY_count post v v1) := by
  obtain ⟨n, m, cc, rq, md, bk, ct, rt, rc, lk, wt, wc, ch, st, en, sn, sk, sr, fr, lf, cr, rr, th, ro, nw, bf, ve, yl, la, od, sm, rfl, rfl, hn, hm, R, hP⟩ := I
  by_cases c0 : v1 < 0
  · refine ⟨-1, fun post hp => ?_, fun post hp => ?_⟩
    · simp only [wpX_count, c0, forall_eq, true_implies, false_implies, implies_true, not_true_eq_false, not_false_eq_true, and_true, true_and, and_self, true_or, or_true, false_or, or_false, false_and, and_false, eq_self]
      exact hp
    · simp only [wpY_count, wpY_in, c0, forall_eq, true_implies, false_implies, implies_true, not_true_eq_false, not_false_eq_true, and_true, true_and, and_self, true_or, or_true, false_or, or_false, false_and, and_false, eq_self]
      exact hp
  · obtain ⟨j, hj, rfl⟩ := nI_of c0
    by_cases h : 5 ≤ j
    · refine ⟨-1, fun post hp => ?_, fun post hp => ?_⟩
      · simp (disch := omega) only [wpX_count, nu_a1, nu_b1, nu_c1, nu_d1, nu_e1, nu_f1, nu_g1, nu_h1, nu_a2, nu_b2, nu_c2, nu_d2, nu_e2, nu_f2, nu_g2, nu_h2, nu_a3, nu_b3, nu_c3, nu_d3, nu_e3, nu_f3, nu_g3, nu_h3, nu_a4, nu_b4, nu_c4, nu_d4, nu_e4, nu_f4, nu_g4, nu_h4, nu_a5, nu_b5, nu_c5, nu_d5, nu_e5, nu_f5, nu_g5, nu_h5, nu_a6, nu_b6, nu_c6, nu_d6, nu_e6, nu_f6, nu_g6, nu_h6, nu_a7, nu_b7, nu_c7, nu_d7, nu_e7, nu_f7, nu_g7, nu_h7, nu_a16, nu_b16, nu_c16, nu_d16, nu_e16, nu_f16, nu_g16, nu_h16, nu_neg, nu_pos, forall_eq, true_implies, false_implies, implies_true, not_true_eq_false, not_false_eq_true, and_true, true_and, and_self, true_or, or_true, false_or, or_false, false_and, and_false, eq_self]
        exact hp
      · simp (disch := omega) only [wpY_count, wpY_in, nu_a1, nu_b1, nu_c1, nu_d1, nu_e1, nu_f1, nu_g1, nu_h1, nu_a2, nu_b2, nu_c2, nu_d2, nu_e2, nu_f2, nu_g2, nu_h2, nu_a3, nu_b3, nu_c3, nu_d3, nu_e3, nu_f3, nu_g3, nu_h3, nu_a4, nu_b4, nu_c4, nu_d4, nu_e4, nu_f4, nu_g4, nu_h4, nu_a5, nu_b5, nu_c5, nu_d5, nu_e5, nu_f5, nu_g5, nu_h5, nu_a6, nu_b6, nu_c6, nu_d6, nu_e6, nu_f6, nu_g6, nu_h6, nu_a7, nu_b7, nu_c7, nu_d7, nu_e7, nu_f7, nu_g7, nu_h7, nu_a16, nu_b16, nu_c16, nu_d16, nu_e16, nu_f16, nu_g16, nu_h16, nu_neg, nu_pos, forall_eq, true_implies, false_implies, implies_true, not_true_eq_false, not_false_eq_true, and_true, true_and, and_self, true_or, or_true, false_or, or_false, false_and, and_false, eq_self]
        exact hp
    · refine ⟨ct j, fun post hp => ?_, fun post hp => ?_⟩
      · simp (disch := omega) only [wpX_count, nu_a1, nu_b1, nu_c1, nu_d1, nu_e1, nu_f1, nu_g1, nu_h1, nu_a2, nu_b2, nu_c2, nu_d2, nu_e2, nu_f2, nu_g2, nu_h2, nu_a3, nu_b3, nu_c3, nu_d3, nu_e3, nu_f3, nu_g3, nu_h3, nu_a4, nu_b4, nu_c4, nu_d4, nu_e4, nu_f4, nu_g4, nu_h4, nu_a5, nu_b5, nu_c5, nu_d5, nu_e5, nu_f5, nu_g5, nu_h5, nu_a6, nu_b6, nu_c6, nu_d6, nu_e6, nu_f6, nu_g6, nu_h6, nu_a7, nu_b7, nu_c7, nu_d7, nu_e7, nu_f7, nu_g7, nu_h7, nu_a16, nu_b16, nu_c16, nu_d16, nu_e16, nu_f16, nu_g16, nu_h16, nu_neg, nu_pos, nu_01, nu_40, nu_30, nu_20, nu_160, Int32.add_zero, Nat.reduceAdd, nu_m16, nu_16m, nu_m4, nu_4m, nu_m3, nu_3m, nu_m2, nu_2m, nI_1, nu_p2, nu_p3, nu_16p, nu_2p, nI_add, nu_cl, nu_in, Nat.add_zero, nu_l0, nu_l1, nu_l2, nu_l3, nu_l4, nu_i0_5, nu_i1_5, nu_i2_5, nu_i0_3, nu_i1_3, nu_i2_3, nu_n0, nu_n1, nu_na0, nu_na1, forall_eq, true_implies, false_implies, implies_true, not_true_eq_false, not_false_eq_true, and_true, true_and, and_self, true_or, or_true, false_or, or_false, false_and, and_false, eq_self]
        exact hp
      · simp (disch := omega) only [wpY_count, wpY_in, nu_k10, nu_a1, nu_b1, nu_c1, nu_d1, nu_e1, nu_f1, nu_g1, nu_h1, nu_a2, nu_b2, nu_c2, nu_d2, nu_e2, nu_f2, nu_g2, nu_h2, nu_a3, nu_b3, nu_c3, nu_d3, nu_e3, nu_f3, nu_g3, nu_h3, nu_a4, nu_b4, nu_c4, nu_d4, nu_e4, nu_f4, nu_g4, nu_h4, nu_a5, nu_b5, nu_c5, nu_d5, nu_e5, nu_f5, nu_g5, nu_h5, nu_a6, nu_b6, nu_c6, nu_d6, nu_e6, nu_f6, nu_g6, nu_h6, nu_a7, nu_b7, nu_c7, nu_d7, nu_e7, nu_f7, nu_g7, nu_h7, nu_a16, nu_b16, nu_c16, nu_d16, nu_e16, nu_f16, nu_g16, nu_h16, nu_neg, nu_pos, nu_01, nu_40, nu_30, nu_20, nu_160, Int32.add_zero, Nat.reduceAdd, nu_m16, nu_16m, nu_m4, nu_4m, nu_m3, nu_3m, nu_m2, nu_2m, nI_1, nu_p2, nu_p3, nu_16p, nu_2p, nI_add, nu_cl, nu_in, Nat.add_zero, nu_l0, nu_l1, nu_l2, nu_l3, nu_l4, nu_i0_5, nu_i1_5, nu_i2_5, nu_i0_3, nu_i1_3, nu_i2_3, nu_n0, nu_n1, nu_na0, nu_na1, forall_eq, true_implies, false_implies, implies_true, not_true_eq_false, not_false_eq_true, and_true, true_and, and_self, true_or, or_true, false_or, or_false, false_and, and_false, eq_self]
        exact hp
theorem ro_S {u : SX} {v : SY} (I : i_Rel 0 u v) (v1 v2 : Int32) : sm_R (fun post => wpX_row post u v1 v2) (fun post => wpY_row post v v1 v2) := by
  obtain ⟨n, m, cc, rq, md, bk, ct, rt, rc, lk, wt, wc, ch, st, en, sn, sk, sr, fr, lf, cr, rr, th, ro, nw, bf, ve, yl, la, od, sm, rfl, rfl, hn, hm, R, hP⟩ := I
  by_cases c0 : v1 < 0
  · refine ⟨-10000000001, fun post hp => ?_, fun post hp => ?_⟩
    · simp only [wpX_row, c0, forall_eq, true_implies, false_implies, implies_true, not_true_eq_false, not_false_eq_true, and_true, true_and, and_self, true_or, or_true, false_or, or_false, false_and, and_false, eq_self]
      exact hp
    · simp only [wpY_row, wpY_in, c0, forall_eq, true_implies, false_implies, implies_true, not_true_eq_false, not_false_eq_true, and_true, true_and, and_self, true_or, or_true, false_or, or_false, false_and, and_false, eq_self]
      exact hp
  · obtain ⟨k, hk, rfl⟩ := nI_of c0
    by_cases h : 16 ≤ k
    · refine ⟨-10000000001, fun post hp => ?_, fun post hp => ?_⟩
      · simp (disch := omega) only [wpX_row, nu_a1, nu_b1, nu_c1, nu_d1, nu_e1, nu_f1, nu_g1, nu_h1, nu_a2, nu_b2, nu_c2, nu_d2, nu_e2, nu_f2, nu_g2, nu_h2, nu_a3, nu_b3, nu_c3, nu_d3, nu_e3, nu_f3, nu_g3, nu_h3, nu_a4, nu_b4, nu_c4, nu_d4, nu_e4, nu_f4, nu_g4, nu_h4, nu_a5, nu_b5, nu_c5, nu_d5, nu_e5, nu_f5, nu_g5, nu_h5, nu_a6, nu_b6, nu_c6, nu_d6, nu_e6, nu_f6, nu_g6, nu_h6, nu_a7, nu_b7, nu_c7, nu_d7, nu_e7, nu_f7, nu_g7, nu_h7, nu_a16, nu_b16, nu_c16, nu_d16, nu_e16, nu_f16, nu_g16, nu_h16, nu_neg, nu_pos, forall_eq, true_implies, false_implies, implies_true, not_true_eq_false, not_false_eq_true, and_true, true_and, and_self, true_or, or_true, false_or, or_false, false_and, and_false, eq_self]
        exact hp
      · simp (disch := omega) only [wpY_row, wpY_in, nu_a1, nu_b1, nu_c1, nu_d1, nu_e1, nu_f1, nu_g1, nu_h1, nu_a2, nu_b2, nu_c2, nu_d2, nu_e2, nu_f2, nu_g2, nu_h2, nu_a3, nu_b3, nu_c3, nu_d3, nu_e3, nu_f3, nu_g3, nu_h3, nu_a4, nu_b4, nu_c4, nu_d4, nu_e4, nu_f4, nu_g4, nu_h4, nu_a5, nu_b5, nu_c5, nu_d5, nu_e5, nu_f5, nu_g5, nu_h5, nu_a6, nu_b6, nu_c6, nu_d6, nu_e6, nu_f6, nu_g6, nu_h6, nu_a7, nu_b7, nu_c7, nu_d7, nu_e7, nu_f7, nu_g7, nu_h7, nu_a16, nu_b16, nu_c16, nu_d16, nu_e16, nu_f16, nu_g16, nu_h16, nu_neg, nu_pos, forall_eq, true_implies, false_implies, implies_true, not_true_eq_false, not_false_eq_true, and_true, true_and, and_self, true_or, or_true, false_or, or_false, false_and, and_false, eq_self]
        exact hp
    · by_cases d0 : v2 < 0
      · refine ⟨-10000000001, fun post hp => ?_, fun post hp => ?_⟩
        · simp (disch := omega) only [wpX_row, d0, nu_a1, nu_b1, nu_c1, nu_d1, nu_e1, nu_f1, nu_g1, nu_h1, nu_a2, nu_b2, nu_c2, nu_d2, nu_e2, nu_f2, nu_g2, nu_h2, nu_a3, nu_b3, nu_c3, nu_d3, nu_e3, nu_f3, nu_g3, nu_h3, nu_a4, nu_b4, nu_c4, nu_d4, nu_e4, nu_f4, nu_g4, nu_h4, nu_a5, nu_b5, nu_c5, nu_d5, nu_e5, nu_f5, nu_g5, nu_h5, nu_a6, nu_b6, nu_c6, nu_d6, nu_e6, nu_f6, nu_g6, nu_h6, nu_a7, nu_b7, nu_c7, nu_d7, nu_e7, nu_f7, nu_g7, nu_h7, nu_a16, nu_b16, nu_c16, nu_d16, nu_e16, nu_f16, nu_g16, nu_h16, nu_neg, nu_pos, forall_eq, true_implies, false_implies, implies_true, not_true_eq_false, not_false_eq_true, and_true, true_and, and_self, true_or, or_true, false_or, or_false, false_and, and_false, eq_self]
          exact hp
        · simp (disch := omega) only [wpY_row, wpY_in, d0, nu_k10, nu_a1, nu_b1, nu_c1, nu_d1, nu_e1, nu_f1, nu_g1, nu_h1, nu_a2, nu_b2, nu_c2, nu_d2, nu_e2, nu_f2, nu_g2, nu_h2, nu_a3, nu_b3, nu_c3, nu_d3, nu_e3, nu_f3, nu_g3, nu_h3, nu_a4, nu_b4, nu_c4, nu_d4, nu_e4, nu_f4, nu_g4, nu_h4, nu_a5, nu_b5, nu_c5, nu_d5, nu_e5, nu_f5, nu_g5, nu_h5, nu_a6, nu_b6, nu_c6, nu_d6, nu_e6, nu_f6, nu_g6, nu_h6, nu_a7, nu_b7, nu_c7, nu_d7, nu_e7, nu_f7, nu_g7, nu_h7, nu_a16, nu_b16, nu_c16, nu_d16, nu_e16, nu_f16, nu_g16, nu_h16, nu_neg, nu_pos, forall_eq, true_implies, false_implies, implies_true, not_true_eq_false, not_false_eq_true, and_true, true_and, and_self, true_or, or_true, false_or, or_false, false_and, and_false, eq_self]
          exact hp
      · obtain ⟨i, hi, rfl⟩ := nI_of d0
        have ht := (re_rT R k (by omega)).1
        by_cases i7 : 7 ≤ i
        · refine ⟨-10000000001, fun post hp => ?_, fun post hp => ?_⟩
          · simp (disch := omega) only [wpX_row, nu_a1, nu_b1, nu_c1, nu_d1, nu_e1, nu_f1, nu_g1, nu_h1, nu_a2, nu_b2, nu_c2, nu_d2, nu_e2, nu_f2, nu_g2, nu_h2, nu_a3, nu_b3, nu_c3, nu_d3, nu_e3, nu_f3, nu_g3, nu_h3, nu_a4, nu_b4, nu_c4, nu_d4, nu_e4, nu_f4, nu_g4, nu_h4, nu_a5, nu_b5, nu_c5, nu_d5, nu_e5, nu_f5, nu_g5, nu_h5, nu_a6, nu_b6, nu_c6, nu_d6, nu_e6, nu_f6, nu_g6, nu_h6, nu_a7, nu_b7, nu_c7, nu_d7, nu_e7, nu_f7, nu_g7, nu_h7, nu_a16, nu_b16, nu_c16, nu_d16, nu_e16, nu_f16, nu_g16, nu_h16, nu_neg, nu_pos, forall_eq, true_implies, false_implies, implies_true, not_true_eq_false, not_false_eq_true, and_true, true_and, and_self, true_or, or_true, false_or, or_false, false_and, and_false, eq_self]
            exact hp
          · simp (disch := omega) only [wpY_row, wpY_in, nu_k10, nu_a1, nu_b1, nu_c1, nu_d1, nu_e1, nu_f1, nu_g1, nu_h1, nu_a2, nu_b2, nu_c2, nu_d2, nu_e2, nu_f2, nu_g2, nu_h2, nu_a3, nu_b3, nu_c3, nu_d3, nu_e3, nu_f3, nu_g3, nu_h3, nu_a4, nu_b4, nu_c4, nu_d4, nu_e4, nu_f4, nu_g4, nu_h4, nu_a5, nu_b5, nu_c5, nu_d5, nu_e5, nu_f5, nu_g5, nu_h5, nu_a6, nu_b6, nu_c6, nu_d6, nu_e6, nu_f6, nu_g6, nu_h6, nu_a7, nu_b7, nu_c7, nu_d7, nu_e7, nu_f7, nu_g7, nu_h7, nu_a16, nu_b16, nu_c16, nu_d16, nu_e16, nu_f16, nu_g16, nu_h16, nu_neg, nu_pos, forall_eq, true_implies, false_implies, implies_true, not_true_eq_false, not_false_eq_true, and_true, true_and, and_self, true_or, or_true, false_or, or_false, false_and, and_false, eq_self]
            exact hp
        · by_cases i4 : i < 4
          · have hc := (re_rC R k (by omega) i i4).1
            by_cases t0 : th k = 0
            · have t1 : rt k = 0 := by rw [ht, t0]
              refine ⟨-10000000001, fun post hp => ?_, fun post hp => ?_⟩
              · simp (disch := omega) only [wpX_row, t1, nu_u0, nu_v0, nu_u1, nu_v1, nu_u2, nu_v2, nu_u3, nu_v3, nu_u4, nu_v4, nu_u5, nu_v5, nu_u6, nu_v6, nu_a1, nu_b1, nu_c1, nu_d1, nu_e1, nu_f1, nu_g1, nu_h1, nu_a2, nu_b2, nu_c2, nu_d2, nu_e2, nu_f2, nu_g2, nu_h2, nu_a3, nu_b3, nu_c3, nu_d3, nu_e3, nu_f3, nu_g3, nu_h3, nu_a4, nu_b4, nu_c4, nu_d4, nu_e4, nu_f4, nu_g4, nu_h4, nu_a5, nu_b5, nu_c5, nu_d5, nu_e5, nu_f5, nu_g5, nu_h5, nu_a6, nu_b6, nu_c6, nu_d6, nu_e6, nu_f6, nu_g6, nu_h6, nu_a7, nu_b7, nu_c7, nu_d7, nu_e7, nu_f7, nu_g7, nu_h7, nu_a16, nu_b16, nu_c16, nu_d16, nu_e16, nu_f16, nu_g16, nu_h16, nu_neg, nu_pos, nu_01, nu_40, nu_30, nu_20, nu_160, Int32.add_zero, Nat.reduceAdd, nu_m16, nu_16m, nu_m4, nu_4m, nu_m3, nu_3m, nu_m2, nu_2m, nI_1, nu_p2, nu_p3, nu_16p, nu_2p, nI_add, nu_cl, nu_in, Nat.add_zero, nu_l0, nu_l1, nu_l2, nu_l3, nu_l4, nu_i0_5, nu_i1_5, nu_i2_5, nu_i0_3, nu_i1_3, nu_i2_3, nu_n0, nu_n1, nu_na0, nu_na1, forall_eq, true_implies, false_implies, implies_true, not_true_eq_false, not_false_eq_true, and_true, true_and, and_self, true_or, or_true, false_or, or_false, false_and, and_false, eq_self]
                exact hp
              · simp (disch := omega) only [wpY_row, wpY_in, t0, nu_k10, nu_a1, nu_b1, nu_c1, nu_d1, nu_e1, nu_f1, nu_g1, nu_h1, nu_a2, nu_b2, nu_c2, nu_d2, nu_e2, nu_f2, nu_g2, nu_h2, nu_a3, nu_b3, nu_c3, nu_d3, nu_e3, nu_f3, nu_g3, nu_h3, nu_a4, nu_b4, nu_c4, nu_d4, nu_e4, nu_f4, nu_g4, nu_h4, nu_a5, nu_b5, nu_c5, nu_d5, nu_e5, nu_f5, nu_g5, nu_h5, nu_a6, nu_b6, nu_c6, nu_d6, nu_e6, nu_f6, nu_g6, nu_h6, nu_a7, nu_b7, nu_c7, nu_d7, nu_e7, nu_f7, nu_g7, nu_h7, nu_a16, nu_b16, nu_c16, nu_d16, nu_e16, nu_f16, nu_g16, nu_h16, nu_neg, nu_pos, nu_01, nu_40, nu_30, nu_20, nu_160, Int32.add_zero, Nat.reduceAdd, nu_m16, nu_16m, nu_m4, nu_4m, nu_m3, nu_3m, nu_m2, nu_2m, nI_1, nu_p2, nu_p3, nu_16p, nu_2p, nI_add, nu_cl, nu_in, Nat.add_zero, nu_l0, nu_l1, nu_l2, nu_l3, nu_l4, nu_i0_5, nu_i1_5, nu_i2_5, nu_i0_3, nu_i1_3, nu_i2_3, nu_n0, nu_n1, nu_na0, nu_na1, forall_eq, true_implies, false_implies, implies_true, not_true_eq_false, not_false_eq_true, and_true, true_and, and_self, true_or, or_true, false_or, or_false, false_and, and_false, eq_self]
                exact hp
            · have t1 : ¬ rt k = 0 := by
                rw [ht]
                exact t0
              refine ⟨(ro (4 * k + i)).toInt64, fun post hp => ?_, fun post hp => ?_⟩
              · simp (disch := omega) only [wpX_row, t1, hc, nu_u0, nu_v0, nu_u1, nu_v1, nu_u2, nu_v2, nu_u3, nu_v3, nu_u4, nu_v4, nu_u5, nu_v5, nu_u6, nu_v6, nu_a1, nu_b1, nu_c1, nu_d1, nu_e1, nu_f1, nu_g1, nu_h1, nu_a2, nu_b2, nu_c2, nu_d2, nu_e2, nu_f2, nu_g2, nu_h2, nu_a3, nu_b3, nu_c3, nu_d3, nu_e3, nu_f3, nu_g3, nu_h3, nu_a4, nu_b4, nu_c4, nu_d4, nu_e4, nu_f4, nu_g4, nu_h4, nu_a5, nu_b5, nu_c5, nu_d5, nu_e5, nu_f5, nu_g5, nu_h5, nu_a6, nu_b6, nu_c6, nu_d6, nu_e6, nu_f6, nu_g6, nu_h6, nu_a7, nu_b7, nu_c7, nu_d7, nu_e7, nu_f7, nu_g7, nu_h7, nu_a16, nu_b16, nu_c16, nu_d16, nu_e16, nu_f16, nu_g16, nu_h16, nu_neg, nu_pos, nu_01, nu_40, nu_30, nu_20, nu_160, Int32.add_zero, Nat.reduceAdd, nu_m16, nu_16m, nu_m4, nu_4m, nu_m3, nu_3m, nu_m2, nu_2m, nI_1, nu_p2, nu_p3, nu_16p, nu_2p, nI_add, nu_cl, nu_in, Nat.add_zero, nu_l0, nu_l1, nu_l2, nu_l3, nu_l4, nu_i0_5, nu_i1_5, nu_i2_5, nu_i0_3, nu_i1_3, nu_i2_3, nu_n0, nu_n1, nu_na0, nu_na1, forall_eq, true_implies, false_implies, implies_true, not_true_eq_false, not_false_eq_true, and_true, true_and, and_self, true_or, or_true, false_or, or_false, false_and, and_false, eq_self]
                exact hp
              · simp (disch := omega) only [wpY_row, wpY_in, wY_row_36, t0, nu_k10, nu_a1, nu_b1, nu_c1, nu_d1, nu_e1, nu_f1, nu_g1, nu_h1, nu_a2, nu_b2, nu_c2, nu_d2, nu_e2, nu_f2, nu_g2, nu_h2, nu_a3, nu_b3, nu_c3, nu_d3, nu_e3, nu_f3, nu_g3, nu_h3, nu_a4, nu_b4, nu_c4, nu_d4, nu_e4, nu_f4, nu_g4, nu_h4, nu_a5, nu_b5, nu_c5, nu_d5, nu_e5, nu_f5, nu_g5, nu_h5, nu_a6, nu_b6, nu_c6, nu_d6, nu_e6, nu_f6, nu_g6, nu_h6, nu_a7, nu_b7, nu_c7, nu_d7, nu_e7, nu_f7, nu_g7, nu_h7, nu_a16, nu_b16, nu_c16, nu_d16, nu_e16, nu_f16, nu_g16, nu_h16, nu_neg, nu_pos, nu_01, nu_40, nu_30, nu_20, nu_160, Int32.add_zero, Nat.reduceAdd, nu_m16, nu_16m, nu_m4, nu_4m, nu_m3, nu_3m, nu_m2, nu_2m, nI_1, nu_p2, nu_p3, nu_16p, nu_2p, nI_add, nu_cl, nu_in, Nat.add_zero, nu_l0, nu_l1, nu_l2, nu_l3, nu_l4, nu_i0_5, nu_i1_5, nu_i2_5, nu_i0_3, nu_i1_3, nu_i2_3, nu_n0, nu_n1, nu_na0, nu_na1, forall_eq, true_implies, false_implies, implies_true, not_true_eq_false, not_false_eq_true, and_true, true_and, and_self, true_or, or_true, false_or, or_false, false_and, and_false, eq_self]
                exact hp
          · by_cases i4 : i = 4
            · by_cases t0 : th k = 0
              · have t1 : rt k = 0 := by rw [ht, t0]
                refine ⟨0, fun post hp => ?_, fun post hp => ?_⟩
                · simp (disch := omega) only [wpX_row, t1, nu_u0, nu_v0, nu_u1, nu_v1, nu_u2, nu_v2, nu_u3, nu_v3, nu_u4, nu_v4, nu_u5, nu_v5, nu_u6, nu_v6, nu_a1, nu_b1, nu_c1, nu_d1, nu_e1, nu_f1, nu_g1, nu_h1, nu_a2, nu_b2, nu_c2, nu_d2, nu_e2, nu_f2, nu_g2, nu_h2, nu_a3, nu_b3, nu_c3, nu_d3, nu_e3, nu_f3, nu_g3, nu_h3, nu_a4, nu_b4, nu_c4, nu_d4, nu_e4, nu_f4, nu_g4, nu_h4, nu_a5, nu_b5, nu_c5, nu_d5, nu_e5, nu_f5, nu_g5, nu_h5, nu_a6, nu_b6, nu_c6, nu_d6, nu_e6, nu_f6, nu_g6, nu_h6, nu_a7, nu_b7, nu_c7, nu_d7, nu_e7, nu_f7, nu_g7, nu_h7, nu_a16, nu_b16, nu_c16, nu_d16, nu_e16, nu_f16, nu_g16, nu_h16, nu_neg, nu_pos, nu_01, nu_40, nu_30, nu_20, nu_160, Int32.add_zero, Nat.reduceAdd, nu_m16, nu_16m, nu_m4, nu_4m, nu_m3, nu_3m, nu_m2, nu_2m, nI_1, nu_p2, nu_p3, nu_16p, nu_2p, nI_add, nu_cl, nu_in, Nat.add_zero, nu_l0, nu_l1, nu_l2, nu_l3, nu_l4, nu_i0_5, nu_i1_5, nu_i2_5, nu_i0_3, nu_i1_3, nu_i2_3, nu_n0, nu_n1, nu_na0, nu_na1, forall_eq, true_implies, false_implies, implies_true, not_true_eq_false, not_false_eq_true, and_true, true_and, and_self, true_or, or_true, false_or, or_false, false_and, and_false, eq_self]
                  exact hp
                · simp (disch := omega) only [wpY_row, wpY_in, wY_row_36, t0, nu_k10, nu_u0, nu_v0, nu_u1, nu_v1, nu_u2, nu_v2, nu_u3, nu_v3, nu_u4, nu_v4, nu_u5, nu_v5, nu_u6, nu_v6, nu_a1, nu_b1, nu_c1, nu_d1, nu_e1, nu_f1, nu_g1, nu_h1, nu_a2, nu_b2, nu_c2, nu_d2, nu_e2, nu_f2, nu_g2, nu_h2, nu_a3, nu_b3, nu_c3, nu_d3, nu_e3, nu_f3, nu_g3, nu_h3, nu_a4, nu_b4, nu_c4, nu_d4, nu_e4, nu_f4, nu_g4, nu_h4, nu_a5, nu_b5, nu_c5, nu_d5, nu_e5, nu_f5, nu_g5, nu_h5, nu_a6, nu_b6, nu_c6, nu_d6, nu_e6, nu_f6, nu_g6, nu_h6, nu_a7, nu_b7, nu_c7, nu_d7, nu_e7, nu_f7, nu_g7, nu_h7, nu_a16, nu_b16, nu_c16, nu_d16, nu_e16, nu_f16, nu_g16, nu_h16, nu_neg, nu_pos, nu_01, nu_40, nu_30, nu_20, nu_160, Int32.add_zero, Nat.reduceAdd, nu_m16, nu_16m, nu_m4, nu_4m, nu_m3, nu_3m, nu_m2, nu_2m, nI_1, nu_p2, nu_p3, nu_16p, nu_2p, nI_add, nu_cl, nu_in, Nat.add_zero, nu_l0, nu_l1, nu_l2, nu_l3, nu_l4, nu_i0_5, nu_i1_5, nu_i2_5, nu_i0_3, nu_i1_3, nu_i2_3, nu_n0, nu_n1, nu_na0, nu_na1, forall_eq, true_implies, false_implies, implies_true, not_true_eq_false, not_false_eq_true, and_true, true_and, and_self, true_or, or_true, false_or, or_false, false_and, and_false, eq_self]
                  exact hp
              · have t1 : ¬ rt k = 0 := by
                  rw [ht]
                  exact t0
                refine ⟨1, fun post hp => ?_, fun post hp => ?_⟩
                · simp (disch := omega) only [wpX_row, t1, nu_u0, nu_v0, nu_u1, nu_v1, nu_u2, nu_v2, nu_u3, nu_v3, nu_u4, nu_v4, nu_u5, nu_v5, nu_u6, nu_v6, nu_a1, nu_b1, nu_c1, nu_d1, nu_e1, nu_f1, nu_g1, nu_h1, nu_a2, nu_b2, nu_c2, nu_d2, nu_e2, nu_f2, nu_g2, nu_h2, nu_a3, nu_b3, nu_c3, nu_d3, nu_e3, nu_f3, nu_g3, nu_h3, nu_a4, nu_b4, nu_c4, nu_d4, nu_e4, nu_f4, nu_g4, nu_h4, nu_a5, nu_b5, nu_c5, nu_d5, nu_e5, nu_f5, nu_g5, nu_h5, nu_a6, nu_b6, nu_c6, nu_d6, nu_e6, nu_f6, nu_g6, nu_h6, nu_a7, nu_b7, nu_c7, nu_d7, nu_e7, nu_f7, nu_g7, nu_h7, nu_a16, nu_b16, nu_c16, nu_d16, nu_e16, nu_f16, nu_g16, nu_h16, nu_neg, nu_pos, nu_01, nu_40, nu_30, nu_20, nu_160, Int32.add_zero, Nat.reduceAdd, nu_m16, nu_16m, nu_m4, nu_4m, nu_m3, nu_3m, nu_m2, nu_2m, nI_1, nu_p2, nu_p3, nu_16p, nu_2p, nI_add, nu_cl, nu_in, Nat.add_zero, nu_l0, nu_l1, nu_l2, nu_l3, nu_l4, nu_i0_5, nu_i1_5, nu_i2_5, nu_i0_3, nu_i1_3, nu_i2_3, nu_n0, nu_n1, nu_na0, nu_na1, forall_eq, true_implies, false_implies, implies_true, not_true_eq_false, not_false_eq_true, and_true, true_and, and_self, true_or, or_true, false_or, or_false, false_and, and_false, eq_self]
                  exact hp
                · simp (disch := omega) only [wpY_row, wpY_in, wY_row_36, t0, nu_k10, nu_u0, nu_v0, nu_u1, nu_v1, nu_u2, nu_v2, nu_u3, nu_v3, nu_u4, nu_v4, nu_u5, nu_v5, nu_u6, nu_v6, nu_a1, nu_b1, nu_c1, nu_d1, nu_e1, nu_f1, nu_g1, nu_h1, nu_a2, nu_b2, nu_c2, nu_d2, nu_e2, nu_f2, nu_g2, nu_h2, nu_a3, nu_b3, nu_c3, nu_d3, nu_e3, nu_f3, nu_g3, nu_h3, nu_a4, nu_b4, nu_c4, nu_d4, nu_e4, nu_f4, nu_g4, nu_h4, nu_a5, nu_b5, nu_c5, nu_d5, nu_e5, nu_f5, nu_g5, nu_h5, nu_a6, nu_b6, nu_c6, nu_d6, nu_e6, nu_f6, nu_g6, nu_h6, nu_a7, nu_b7, nu_c7, nu_d7, nu_e7, nu_f7, nu_g7, nu_h7, nu_a16, nu_b16, nu_c16, nu_d16, nu_e16, nu_f16, nu_g16, nu_h16, nu_neg, nu_pos, nu_01, nu_40, nu_30, nu_20, nu_160, Int32.add_zero, Nat.reduceAdd, nu_m16, nu_16m, nu_m4, nu_4m, nu_m3, nu_3m, nu_m2, nu_2m, nI_1, nu_p2, nu_p3, nu_16p, nu_2p, nI_add, nu_cl, nu_in, Nat.add_zero, nu_l0, nu_l1, nu_l2, nu_l3, nu_l4, nu_i0_5, nu_i1_5, nu_i2_5, nu_i0_3, nu_i1_3, nu_i2_3, nu_n0, nu_n1, nu_na0, nu_na1, forall_eq, true_implies, false_implies, implies_true, not_true_eq_false, not_false_eq_true, and_true, true_and, and_self, true_or, or_true, false_or, or_false, false_and, and_false, eq_self]
                  exact hp
            · by_cases i5 : i = 5
              · refine ⟨(lk k).toInt64, fun post hp => ?_, fun post hp => ?_⟩
                · simp (disch := omega) only [wpX_row, nu_u0, nu_v0, nu_u1, nu_v1, nu_u2, nu_v2, nu_u3, nu_v3, nu_u4, nu_v4, nu_u5, nu_v5, nu_u6, nu_v6, nu_a1, nu_b1, nu_c1, nu_d1, nu_e1, nu_f1, nu_g1, nu_h1, nu_a2, nu_b2, nu_c2, nu_d2, nu_e2, nu_f2, nu_g2, nu_h2, nu_a3, nu_b3, nu_c3, nu_d3, nu_e3, nu_f3, nu_g3, nu_h3, nu_a4, nu_b4, nu_c4, nu_d4, nu_e4, nu_f4, nu_g4, nu_h4, nu_a5, nu_b5, nu_c5, nu_d5, nu_e5, nu_f5, nu_g5, nu_h5, nu_a6, nu_b6, nu_c6, nu_d6, nu_e6, nu_f6, nu_g6, nu_h6, nu_a7, nu_b7, nu_c7, nu_d7, nu_e7, nu_f7, nu_g7, nu_h7, nu_a16, nu_b16, nu_c16, nu_d16, nu_e16, nu_f16, nu_g16, nu_h16, nu_neg, nu_pos, nu_01, nu_40, nu_30, nu_20, nu_160, Int32.add_zero, Nat.reduceAdd, nu_m16, nu_16m, nu_m4, nu_4m, nu_m3, nu_3m, nu_m2, nu_2m, nI_1, nu_p2, nu_p3, nu_16p, nu_2p, nI_add, nu_cl, nu_in, Nat.add_zero, nu_l0, nu_l1, nu_l2, nu_l3, nu_l4, nu_i0_5, nu_i1_5, nu_i2_5, nu_i0_3, nu_i1_3, nu_i2_3, nu_n0, nu_n1, nu_na0, nu_na1, forall_eq, true_implies, false_implies, implies_true, not_true_eq_false, not_false_eq_true, and_true, true_and, and_self, true_or, or_true, false_or, or_false, false_and, and_false, eq_self]
                  exact hp
                · simp (disch := omega) only [wpY_row, wpY_in, wY_row_36, nu_k10, nu_u0, nu_v0, nu_u1, nu_v1, nu_u2, nu_v2, nu_u3, nu_v3, nu_u4, nu_v4, nu_u5, nu_v5, nu_u6, nu_v6, nu_a1, nu_b1, nu_c1, nu_d1, nu_e1, nu_f1, nu_g1, nu_h1, nu_a2, nu_b2, nu_c2, nu_d2, nu_e2, nu_f2, nu_g2, nu_h2, nu_a3, nu_b3, nu_c3, nu_d3, nu_e3, nu_f3, nu_g3, nu_h3, nu_a4, nu_b4, nu_c4, nu_d4, nu_e4, nu_f4, nu_g4, nu_h4, nu_a5, nu_b5, nu_c5, nu_d5, nu_e5, nu_f5, nu_g5, nu_h5, nu_a6, nu_b6, nu_c6, nu_d6, nu_e6, nu_f6, nu_g6, nu_h6, nu_a7, nu_b7, nu_c7, nu_d7, nu_e7, nu_f7, nu_g7, nu_h7, nu_a16, nu_b16, nu_c16, nu_d16, nu_e16, nu_f16, nu_g16, nu_h16, nu_neg, nu_pos, nu_01, nu_40, nu_30, nu_20, nu_160, Int32.add_zero, Nat.reduceAdd, nu_m16, nu_16m, nu_m4, nu_4m, nu_m3, nu_3m, nu_m2, nu_2m, nI_1, nu_p2, nu_p3, nu_16p, nu_2p, nI_add, nu_cl, nu_in, Nat.add_zero, nu_l0, nu_l1, nu_l2, nu_l3, nu_l4, nu_i0_5, nu_i1_5, nu_i2_5, nu_i0_3, nu_i1_3, nu_i2_3, nu_n0, nu_n1, nu_na0, nu_na1, forall_eq, true_implies, false_implies, implies_true, not_true_eq_false, not_false_eq_true, and_true, true_and, and_self, true_or, or_true, false_or, or_false, false_and, and_false, eq_self]
                  exact hp
              · by_cases t0 : ch k = 0
                · refine ⟨0, fun post hp => ?_, fun post hp => ?_⟩
                  · simp (disch := omega) only [wpX_row, t0, nu_u0, nu_v0, nu_u1, nu_v1, nu_u2, nu_v2, nu_u3, nu_v3, nu_u4, nu_v4, nu_u5, nu_v5, nu_u6, nu_v6, nu_a1, nu_b1, nu_c1, nu_d1, nu_e1, nu_f1, nu_g1, nu_h1, nu_a2, nu_b2, nu_c2, nu_d2, nu_e2, nu_f2, nu_g2, nu_h2, nu_a3, nu_b3, nu_c3, nu_d3, nu_e3, nu_f3, nu_g3, nu_h3, nu_a4, nu_b4, nu_c4, nu_d4, nu_e4, nu_f4, nu_g4, nu_h4, nu_a5, nu_b5, nu_c5, nu_d5, nu_e5, nu_f5, nu_g5, nu_h5, nu_a6, nu_b6, nu_c6, nu_d6, nu_e6, nu_f6, nu_g6, nu_h6, nu_a7, nu_b7, nu_c7, nu_d7, nu_e7, nu_f7, nu_g7, nu_h7, nu_a16, nu_b16, nu_c16, nu_d16, nu_e16, nu_f16, nu_g16, nu_h16, nu_neg, nu_pos, nu_01, nu_40, nu_30, nu_20, nu_160, Int32.add_zero, Nat.reduceAdd, nu_m16, nu_16m, nu_m4, nu_4m, nu_m3, nu_3m, nu_m2, nu_2m, nI_1, nu_p2, nu_p3, nu_16p, nu_2p, nI_add, nu_cl, nu_in, Nat.add_zero, nu_l0, nu_l1, nu_l2, nu_l3, nu_l4, nu_i0_5, nu_i1_5, nu_i2_5, nu_i0_3, nu_i1_3, nu_i2_3, nu_n0, nu_n1, nu_na0, nu_na1, forall_eq, true_implies, false_implies, implies_true, not_true_eq_false, not_false_eq_true, and_true, true_and, and_self, true_or, or_true, false_or, or_false, false_and, and_false, eq_self]
                    exact hp
                  · simp (disch := omega) only [wpY_row, wpY_in, wY_row_36, t0, nu_k10, nu_u0, nu_v0, nu_u1, nu_v1, nu_u2, nu_v2, nu_u3, nu_v3, nu_u4, nu_v4, nu_u5, nu_v5, nu_u6, nu_v6, nu_a1, nu_b1, nu_c1, nu_d1, nu_e1, nu_f1, nu_g1, nu_h1, nu_a2, nu_b2, nu_c2, nu_d2, nu_e2, nu_f2, nu_g2, nu_h2, nu_a3, nu_b3, nu_c3, nu_d3, nu_e3, nu_f3, nu_g3, nu_h3, nu_a4, nu_b4, nu_c4, nu_d4, nu_e4, nu_f4, nu_g4, nu_h4, nu_a5, nu_b5, nu_c5, nu_d5, nu_e5, nu_f5, nu_g5, nu_h5, nu_a6, nu_b6, nu_c6, nu_d6, nu_e6, nu_f6, nu_g6, nu_h6, nu_a7, nu_b7, nu_c7, nu_d7, nu_e7, nu_f7, nu_g7, nu_h7, nu_a16, nu_b16, nu_c16, nu_d16, nu_e16, nu_f16, nu_g16, nu_h16, nu_neg, nu_pos, nu_01, nu_40, nu_30, nu_20, nu_160, Int32.add_zero, Nat.reduceAdd, nu_m16, nu_16m, nu_m4, nu_4m, nu_m3, nu_3m, nu_m2, nu_2m, nI_1, nu_p2, nu_p3, nu_16p, nu_2p, nI_add, nu_cl, nu_in, Nat.add_zero, nu_l0, nu_l1, nu_l2, nu_l3, nu_l4, nu_i0_5, nu_i1_5, nu_i2_5, nu_i0_3, nu_i1_3, nu_i2_3, nu_n0, nu_n1, nu_na0, nu_na1, forall_eq, true_implies, false_implies, implies_true, not_true_eq_false, not_false_eq_true, and_true, true_and, and_self, true_or, or_true, false_or, or_false, false_and, and_false, eq_self]
                    exact hp
                · refine ⟨1, fun post hp => ?_, fun post hp => ?_⟩
                  · simp (disch := omega) only [wpX_row, t0, nu_u0, nu_v0, nu_u1, nu_v1, nu_u2, nu_v2, nu_u3, nu_v3, nu_u4, nu_v4, nu_u5, nu_v5, nu_u6, nu_v6, nu_a1, nu_b1, nu_c1, nu_d1, nu_e1, nu_f1, nu_g1, nu_h1, nu_a2, nu_b2, nu_c2, nu_d2, nu_e2, nu_f2, nu_g2, nu_h2, nu_a3, nu_b3, nu_c3, nu_d3, nu_e3, nu_f3, nu_g3, nu_h3, nu_a4, nu_b4, nu_c4, nu_d4, nu_e4, nu_f4, nu_g4, nu_h4, nu_a5, nu_b5, nu_c5, nu_d5, nu_e5, nu_f5, nu_g5, nu_h5, nu_a6, nu_b6, nu_c6, nu_d6, nu_e6, nu_f6, nu_g6, nu_h6, nu_a7, nu_b7, nu_c7, nu_d7, nu_e7, nu_f7, nu_g7, nu_h7, nu_a16, nu_b16, nu_c16, nu_d16, nu_e16, nu_f16, nu_g16, nu_h16, nu_neg, nu_pos, nu_01, nu_40, nu_30, nu_20, nu_160, Int32.add_zero, Nat.reduceAdd, nu_m16, nu_16m, nu_m4, nu_4m, nu_m3, nu_3m, nu_m2, nu_2m, nI_1, nu_p2, nu_p3, nu_16p, nu_2p, nI_add, nu_cl, nu_in, Nat.add_zero, nu_l0, nu_l1, nu_l2, nu_l3, nu_l4, nu_i0_5, nu_i1_5, nu_i2_5, nu_i0_3, nu_i1_3, nu_i2_3, nu_n0, nu_n1, nu_na0, nu_na1, forall_eq, true_implies, false_implies, implies_true, not_true_eq_false, not_false_eq_true, and_true, true_and, and_self, true_or, or_true, false_or, or_false, false_and, and_false, eq_self]
                    exact hp
                  · simp (disch := omega) only [wpY_row, wpY_in, wY_row_36, t0, nu_k10, nu_u0, nu_v0, nu_u1, nu_v1, nu_u2, nu_v2, nu_u3, nu_v3, nu_u4, nu_v4, nu_u5, nu_v5, nu_u6, nu_v6, nu_a1, nu_b1, nu_c1, nu_d1, nu_e1, nu_f1, nu_g1, nu_h1, nu_a2, nu_b2, nu_c2, nu_d2, nu_e2, nu_f2, nu_g2, nu_h2, nu_a3, nu_b3, nu_c3, nu_d3, nu_e3, nu_f3, nu_g3, nu_h3, nu_a4, nu_b4, nu_c4, nu_d4, nu_e4, nu_f4, nu_g4, nu_h4, nu_a5, nu_b5, nu_c5, nu_d5, nu_e5, nu_f5, nu_g5, nu_h5, nu_a6, nu_b6, nu_c6, nu_d6, nu_e6, nu_f6, nu_g6, nu_h6, nu_a7, nu_b7, nu_c7, nu_d7, nu_e7, nu_f7, nu_g7, nu_h7, nu_a16, nu_b16, nu_c16, nu_d16, nu_e16, nu_f16, nu_g16, nu_h16, nu_neg, nu_pos, nu_01, nu_40, nu_30, nu_20, nu_160, Int32.add_zero, Nat.reduceAdd, nu_m16, nu_16m, nu_m4, nu_4m, nu_m3, nu_3m, nu_m2, nu_2m, nI_1, nu_p2, nu_p3, nu_16p, nu_2p, nI_add, nu_cl, nu_in, Nat.add_zero, nu_l0, nu_l1, nu_l2, nu_l3, nu_l4, nu_i0_5, nu_i1_5, nu_i2_5, nu_i0_3, nu_i1_3, nu_i2_3, nu_n0, nu_n1, nu_na0, nu_na1, forall_eq, true_implies, false_implies, implies_true, not_true_eq_false, not_false_eq_true, and_true, true_and, and_self, true_or, or_true, false_or, or_false, false_and, and_false, eq_self]
                    exact hp
end
section
section
variable {sc fc cc rq : Int32} {md bk ct rt rc lk wt wc ch en sn sk sr fr lf cr rr th ro nw bf ve yl la od sm : Nat → Int32}
theorem vx_ch5 {post : SX → Prop} {s : Nat} (hs : s < 3) (hE : re_E en) : ∀ (d i : Nat), i + d = 16 → ∀ (x : Int32) (st : Nat → Int32), re_L x → ∀ n, d < n → post (sc, fc, cc, rq, md, bk, ct, rt, rc, lk, wt, wc, ch, sv_ch s (fun j => en (4 * (16 * s + j) + 2)) d st x, en, sn, sk, sr, fr, lf, cr, rr) → wX_saveChain_5 post (nI s) sc fc cc rq n x (nI i) md bk ct rt rc lk wt wc ch st en sn sk sr fr lf cr rr := by
  intro d
  induction d with
  | zero =>
    intro i hi x st _ n hn hp
    obtain ⟨n, rfl⟩ : ∃ n', n = n' + 1 := ⟨n - 1, by omega⟩
    simp (disch := omega) only [wX_saveChain_5, nu_a16, forall_eq, true_implies, false_implies, implies_true, not_true_eq_false, not_false_eq_true, and_true, true_and, and_self, true_or, or_true, false_or, or_false, false_and, and_false, eq_self]
    exact hp
  | succ d ih =>
    intro i hi x st hL n hn hp
    obtain ⟨n, rfl⟩ : ∃ n', n = n' + 1 := ⟨n - 1, by omega⟩
    rcases hL with rfl | ⟨l, hl, rfl⟩
    · rw [sv_chm] at hp
      simp (disch := omega) only [wX_saveChain_5, nu_b16, nu_m1lt, forall_eq, true_implies, false_implies, implies_true, not_true_eq_false, not_false_eq_true, and_true, true_and, and_self, true_or, or_true, false_or, or_false, false_and, and_false, eq_self]
      exact hp
    · by_cases h : st (16 * s + l) = 1
      · rw [sv_ch1 hl h] at hp
        simp (disch := omega) only [wX_saveChain_5, nu_b16, nu_neg, h, nu_01, nu_40, nu_30, nu_20, nu_160, Int32.add_zero, Nat.reduceAdd, nu_m16, nu_16m, nu_m4, nu_4m, nu_m3, nu_3m, nu_m2, nu_2m, nI_1, nu_p2, nu_p3, nu_16p, nu_2p, nI_add, nu_cl, nu_in, Nat.add_zero, nu_l0, nu_l1, nu_l2, nu_l3, nu_l4, nu_i0_5, nu_i1_5, nu_i2_5, nu_i0_3, nu_i1_3, nu_i2_3, nu_n0, nu_n1, nu_na0, nu_na1, forall_eq, true_implies, false_implies, implies_true, not_true_eq_false, not_false_eq_true, and_true, true_and, and_self, true_or, or_true, false_or, or_false, false_and, and_false, eq_self]
        exact ih (i + 1) (by omega) _ _ (hE (16 * s + l) (by omega)) n (by omega) hp
      · rw [sv_ch0 hl h] at hp
        simp (disch := omega) only [wX_saveChain_5, nu_b16, nu_neg, h, nu_01, nu_40, nu_30, nu_20, nu_160, Int32.add_zero, Nat.reduceAdd, nu_m16, nu_16m, nu_m4, nu_4m, nu_m3, nu_3m, nu_m2, nu_2m, nI_1, nu_p2, nu_p3, nu_16p, nu_2p, nI_add, nu_cl, nu_in, Nat.add_zero, nu_l0, nu_l1, nu_l2, nu_l3, nu_l4, nu_i0_5, nu_i1_5, nu_i2_5, nu_i0_3, nu_i1_3, nu_i2_3, nu_n0, nu_n1, nu_na0, nu_na1, forall_eq, true_implies, false_implies, implies_true, not_true_eq_false, not_false_eq_true, and_true, true_and, and_self, true_or, or_true, false_or, or_false, false_and, and_false, eq_self]
        exact hp
theorem vx_ch {post : SX → Prop} {s : Nat} {x : Int32} {st : Nat → Int32} (hs : s < 3) (hE : re_E en) (hL : re_L x) (hp : post (sc, fc, cc, rq, md, bk, ct, rt, rc, lk, wt, wc, ch, sv_ch s (fun j => en (4 * (16 * s + j) + 2)) 16 st x, en, sn, sk, sr, fr, lf, cr, rr)) : wpX_saveChain post (sc, fc, cc, rq, md, bk, ct, rt, rc, lk, wt, wc, ch, st, en, sn, sk, sr, fr, lf, cr, rr) (nI s) x := by
  simp only [wpX_saveChain]
  exact ⟨17, vx_ch5 hs hE 16 0 rfl x st hL 17 (by decide) hp⟩
theorem vy_ch {post : Int32 → SY → Prop} {s : Nat} (hs : s < 3) (hE : re_E en) (hm : ¬ md 0 = 0) : ∀ (d : Nat) (x : Int32) (st : Nat → Int32), re_L x → sv_1 s st ≤ d → (∀ j, j < 16 → st (16 * s + j) = 1 → nw (3 * (16 * s + j) + 2) = en (4 * (16 * s + j) + 2)) → ∀ n, d < n →
    post 0 (sc, fc, th, ch, ro, lk, sv_ch s (fun j => en (4 * (16 * s + j) + 2)) d st x, nw, bf, ve, bk, md, yl, la, od, sm, fr, ct) → wY_persist_86 post (nI s) sc fc n x th ch ro lk st nw bf ve bk md yl la od sm fr ct := by
  intro d
  induction d with
  | zero =>
    intro x st hL h1 _ n hn hp
    obtain ⟨n, rfl⟩ : ∃ n', n = n' + 1 := ⟨n - 1, by omega⟩
    rcases hL with rfl | ⟨l, hl, rfl⟩
    · simp (disch := omega) only [wY_persist_86, hm, nu_m1lt, forall_eq, true_implies, false_implies, implies_true, not_true_eq_false, not_false_eq_true, and_true, true_and, and_self, true_or, or_true, false_or, or_false, false_and, and_false, eq_self]
      exact hp
    · have h := sv_10 (s := s) (st := st) (by omega) l hl
      simp (disch := omega) only [wY_persist_86, hm, nu_neg, h, nu_01, nu_40, nu_30, nu_20, nu_160, Int32.add_zero, Nat.reduceAdd, nu_m16, nu_16m, nu_m4, nu_4m, nu_m3, nu_3m, nu_m2, nu_2m, nI_1, nu_p2, nu_p3, nu_16p, nu_2p, nI_add, nu_cl, nu_in, Nat.add_zero, nu_l0, nu_l1, nu_l2, nu_l3, nu_l4, nu_i0_5, nu_i1_5, nu_i2_5, nu_i0_3, nu_i1_3, nu_i2_3, nu_n0, nu_n1, nu_na0, nu_na1, forall_eq, true_implies, false_implies, implies_true, not_true_eq_false, not_false_eq_true, and_true, true_and, and_self, true_or, or_true, false_or, or_false, false_and, and_false, eq_self]
      exact hp
  | succ d ih =>
    intro x st hL h1 hw n hn hp
    obtain ⟨n, rfl⟩ : ∃ n', n = n' + 1 := ⟨n - 1, by omega⟩
    rcases hL with rfl | ⟨l, hl, rfl⟩
    · rw [sv_chm] at hp
      simp (disch := omega) only [wY_persist_86, hm, nu_m1lt, forall_eq, true_implies, false_implies, implies_true, not_true_eq_false, not_false_eq_true, and_true, true_and, and_self, true_or, or_true, false_or, or_false, false_and, and_false, eq_self]
      exact hp
    · by_cases h : st (16 * s + l) = 1
      · rw [sv_ch1 hl h] at hp
        have hc := sv_1u hl h
        simp (disch := omega) only [wY_persist_86, hm, nu_neg, h, nu_01, nu_40, nu_30, nu_20, nu_160, Int32.add_zero, Nat.reduceAdd, nu_m16, nu_16m, nu_m4, nu_4m, nu_m3, nu_3m, nu_m2, nu_2m, nI_1, nu_p2, nu_p3, nu_16p, nu_2p, nI_add, nu_cl, nu_in, Nat.add_zero, nu_l0, nu_l1, nu_l2, nu_l3, nu_l4, nu_i0_5, nu_i1_5, nu_i2_5, nu_i0_3, nu_i1_3, nu_i2_3, nu_n0, nu_n1, nu_na0, nu_na1, forall_eq, true_implies, false_implies, implies_true, not_true_eq_false, not_false_eq_true, and_true, true_and, and_self, true_or, or_true, false_or, or_false, false_and, and_false, eq_self]
        rw [hw l hl h]
        refine ih _ _ (hE (16 * s + l) (by omega)) (by omega) ?_ n (by omega) hp
        intro j hj q
        by_cases z : j = l
        · subst z
          exact hw j hj h
        · rw [pk_un (by omega)] at q
          exact hw j hj q
      · rw [sv_ch0 hl h] at hp
        simp (disch := omega) only [wY_persist_86, hm, nu_neg, h, nu_01, nu_40, nu_30, nu_20, nu_160, Int32.add_zero, Nat.reduceAdd, nu_m16, nu_16m, nu_m4, nu_4m, nu_m3, nu_3m, nu_m2, nu_2m, nI_1, nu_p2, nu_p3, nu_16p, nu_2p, nI_add, nu_cl, nu_in, Nat.add_zero, nu_l0, nu_l1, nu_l2, nu_l3, nu_l4, nu_i0_5, nu_i1_5, nu_i2_5, nu_i0_3, nu_i1_3, nu_i2_3, nu_n0, nu_n1, nu_na0, nu_na1, forall_eq, true_implies, false_implies, implies_true, not_true_eq_false, not_false_eq_true, and_true, true_and, and_self, true_or, or_true, false_or, or_false, false_and, and_false, eq_self]
        exact hp
end
/-- the relation lasts where TRANSIENT ones become NEW -/
theorem sv_R {s : Nat} {st' : Nat → Int32} {md bk ch lk st rt rc wt wc en sn th ro nw bf ve : Nat → Int32} (R : re_R md bk ch lk st rt rc wt wc en sn th ro nw bf ve) (x : sv_X s st st') : re_R md bk ch lk st' rt rc wt wc en sn th ro nw bf ve := by
  obtain ⟨a1, a2, a3, a4, a5, a6, a7, a8, a9, a10, a11, a12, a13⟩ := R
  exact ⟨a1, a2, a3, a4, a5, sv_K x a6, a7, a8, a9, a10, sv_N x a11, a12, sv_V x a13⟩
theorem pe_S {u : SX} {v : SY} (I : i_Rel 0 u v) (v1 v2 : Int32) : sm_S (fun post => wpX_persist post u v1 v2) (fun post => wpY_persist post v v1 v2) := by
  obtain ⟨n, m, cc, rq, md, bk, ct, rt, rc, lk, wt, wc, ch, st, en, sn, sk, sr, fr, lf, cr, rr, th, ro, nw, bf, ve, yl, la, od, sm, rfl, rfl, hn, hm, R, hP⟩ := I
  by_cases h : er_v bk v1 v2 = 0
  · obtain ⟨s, k, hs, hk, rfl, rfl, hb⟩ := er_0 h
    by_cases h0 : st (16 * s + k) = 0
    · refine ⟨(-1), (nI n, nI m, cc, rq, md, bk, ct, rt, rc, lk, wt, wc, ch, st, en, sn, sk, sr, fr, lf, cr, rr), (nI n, nI m, th, ch, ro, lk, st, nw, bf, ve, bk, md, yl, la, od, sm, fr, ct), ir_mk hn hm (R) hP, fun post hp => ?_, fun post hp => ?_⟩
      · simp (disch := omega) only [wpX_persist, vx_err, h, h0, nu_01, nu_40, nu_30, nu_20, nu_160, Int32.add_zero, Nat.reduceAdd, nu_m16, nu_16m, nu_m4, nu_4m, nu_m3, nu_3m, nu_m2, nu_2m, nI_1, nu_p2, nu_p3, nu_16p, nu_2p, nI_add, nu_cl, nu_in, Nat.add_zero, nu_l0, nu_l1, nu_l2, nu_l3, nu_l4, nu_i0_5, nu_i1_5, nu_i2_5, nu_i0_3, nu_i1_3, nu_i2_3, nu_n0, nu_n1, nu_na0, nu_na1, forall_eq, true_implies, false_implies, implies_true, not_true_eq_false, not_false_eq_true, and_true, true_and, and_self, true_or, or_true, false_or, or_false, false_and, and_false, eq_self]
        exact hp
      · simp (disch := omega) only [wpY_persist, vy_err, h, h0, nu_01, nu_40, nu_30, nu_20, nu_160, Int32.add_zero, Nat.reduceAdd, nu_m16, nu_16m, nu_m4, nu_4m, nu_m3, nu_3m, nu_m2, nu_2m, nI_1, nu_p2, nu_p3, nu_16p, nu_2p, nI_add, nu_cl, nu_in, Nat.add_zero, nu_l0, nu_l1, nu_l2, nu_l3, nu_l4, nu_i0_5, nu_i1_5, nu_i2_5, nu_i0_3, nu_i1_3, nu_i2_3, nu_n0, nu_n1, nu_na0, nu_na1, forall_eq, true_implies, false_implies, implies_true, not_true_eq_false, not_false_eq_true, and_true, true_and, and_self, true_or, or_true, false_or, or_false, false_and, and_false, eq_self]
        exact hp
    · by_cases h5 : st (16 * s + k) = 5
      · refine ⟨0, (nI n, nI m, cc, rq, md, bk, ct, rt, rc, lk, wt, wc, ch, upd st (16 * s + k) 4, en, sn, sk, sr, fr, lf, cr, rr), (nI n, nI m, th, ch, ro, lk, upd st (16 * s + k) 4, nw, bf, ve, bk, md, yl, la, od, sm, fr, ct), ir_mk hn hm (kd_R R (by decide) (Or.inr (Or.inr ⟨h0, by rw [h5]; decide⟩)) (fun _ => Or.inr h5)) hP, fun post hp => ?_, fun post hp => ?_⟩
        · simp (disch := omega) only [wpX_persist, vx_err, h, h5, nu_k01, nu_k02, nu_k03, nu_k04, nu_k05, nu_k10, nu_k12, nu_k13, nu_k14, nu_k15, nu_k20, nu_k21, nu_k23, nu_k24, nu_k25, nu_k30, nu_k31, nu_k32, nu_k34, nu_k35, nu_k40, nu_k41, nu_k42, nu_k43, nu_k45, nu_k50, nu_k51, nu_k52, nu_k53, nu_k54, nu_01, nu_40, nu_30, nu_20, nu_160, Int32.add_zero, Nat.reduceAdd, nu_m16, nu_16m, nu_m4, nu_4m, nu_m3, nu_3m, nu_m2, nu_2m, nI_1, nu_p2, nu_p3, nu_16p, nu_2p, nI_add, nu_cl, nu_in, Nat.add_zero, nu_l0, nu_l1, nu_l2, nu_l3, nu_l4, nu_i0_5, nu_i1_5, nu_i2_5, nu_i0_3, nu_i1_3, nu_i2_3, nu_n0, nu_n1, nu_na0, nu_na1, forall_eq, true_implies, false_implies, implies_true, not_true_eq_false, not_false_eq_true, and_true, true_and, and_self, true_or, or_true, false_or, or_false, false_and, and_false, eq_self]
          exact hp
        · simp (disch := omega) only [wpY_persist, wY_persist_52, vy_err, h, h5, pk_us, nu_k01, nu_k02, nu_k03, nu_k04, nu_k05, nu_k10, nu_k12, nu_k13, nu_k14, nu_k15, nu_k20, nu_k21, nu_k23, nu_k24, nu_k25, nu_k30, nu_k31, nu_k32, nu_k34, nu_k35, nu_k40, nu_k41, nu_k42, nu_k43, nu_k45, nu_k50, nu_k51, nu_k52, nu_k53, nu_k54, nu_01, nu_40, nu_30, nu_20, nu_160, Int32.add_zero, Nat.reduceAdd, nu_m16, nu_16m, nu_m4, nu_4m, nu_m3, nu_3m, nu_m2, nu_2m, nI_1, nu_p2, nu_p3, nu_16p, nu_2p, nI_add, nu_cl, nu_in, Nat.add_zero, nu_l0, nu_l1, nu_l2, nu_l3, nu_l4, nu_i0_5, nu_i1_5, nu_i2_5, nu_i0_3, nu_i1_3, nu_i2_3, nu_n0, nu_n1, nu_na0, nu_na1, forall_eq, true_implies, false_implies, implies_true, not_true_eq_false, not_false_eq_true, and_true, true_and, and_self, true_or, or_true, false_or, or_false, false_and, and_false, eq_self]
          exact hp
      · by_cases h1 : st (16 * s + k) = 1
        · by_cases hu : md 0 = 0
          · refine ⟨0, (nI n, nI m, cc, rq, md, bk, ct, rt, rc, lk, wt, wc, ch, upd st (16 * s + k) 2, en, sn, sk, sr, fr, lf, cr, rr), (nI n, nI m, th, ch, ro, lk, upd st (16 * s + k) 2, nw, bf, ve, bk, md, yl, la, od, sm, fr, ct), ir_mk hn hm (kd_R R (by decide) (Or.inr (Or.inr ⟨h0, by rw [h1]; decide⟩)) (fun q => absurd q (by decide))) hP, fun post hp => ?_, fun post hp => ?_⟩
            · simp (disch := omega) only [wpX_persist, wX_persist_84, vx_err, h, h1, hu, nu_k01, nu_k02, nu_k03, nu_k04, nu_k05, nu_k10, nu_k12, nu_k13, nu_k14, nu_k15, nu_k20, nu_k21, nu_k23, nu_k24, nu_k25, nu_k30, nu_k31, nu_k32, nu_k34, nu_k35, nu_k40, nu_k41, nu_k42, nu_k43, nu_k45, nu_k50, nu_k51, nu_k52, nu_k53, nu_k54, nu_01, nu_40, nu_30, nu_20, nu_160, Int32.add_zero, Nat.reduceAdd, nu_m16, nu_16m, nu_m4, nu_4m, nu_m3, nu_3m, nu_m2, nu_2m, nI_1, nu_p2, nu_p3, nu_16p, nu_2p, nI_add, nu_cl, nu_in, Nat.add_zero, nu_l0, nu_l1, nu_l2, nu_l3, nu_l4, nu_i0_5, nu_i1_5, nu_i2_5, nu_i0_3, nu_i1_3, nu_i2_3, nu_n0, nu_n1, nu_na0, nu_na1, forall_eq, true_implies, false_implies, implies_true, not_true_eq_false, not_false_eq_true, and_true, true_and, and_self, true_or, or_true, false_or, or_false, false_and, and_false, eq_self]
              exact hp
            · simp (disch := omega) only [wpY_persist, wY_persist_52, vy_err, h, h1, nu_k01, nu_k02, nu_k03, nu_k04, nu_k05, nu_k10, nu_k12, nu_k13, nu_k14, nu_k15, nu_k20, nu_k21, nu_k23, nu_k24, nu_k25, nu_k30, nu_k31, nu_k32, nu_k34, nu_k35, nu_k40, nu_k41, nu_k42, nu_k43, nu_k45, nu_k50, nu_k51, nu_k52, nu_k53, nu_k54, nu_01, nu_40, nu_30, nu_20, nu_160, Int32.add_zero, Nat.reduceAdd, nu_m16, nu_16m, nu_m4, nu_4m, nu_m3, nu_3m, nu_m2, nu_2m, nI_1, nu_p2, nu_p3, nu_16p, nu_2p, nI_add, nu_cl, nu_in, Nat.add_zero, nu_l0, nu_l1, nu_l2, nu_l3, nu_l4, nu_i0_5, nu_i1_5, nu_i2_5, nu_i0_3, nu_i1_3, nu_i2_3, nu_n0, nu_n1, nu_na0, nu_na1, forall_eq, true_implies, false_implies, implies_true, not_true_eq_false, not_false_eq_true, and_true, true_and, and_self, true_or, or_true, false_or, or_false, false_and, and_false, eq_self]
              refine ⟨1, ?_⟩
              simp only [wY_persist_86, hu, forall_eq, true_implies, false_implies, implies_true, not_true_eq_false, not_false_eq_true, and_true, true_and, and_self, true_or, or_true, false_or, or_false, false_and, and_false, eq_self]
              exact hp
          · have hE := re_rE R
            have hg : ∀ j, j < 16 → re_L (en (4 * (16 * s + j) + 2)) := fun j hj => hE (16 * s + j) (by omega)
            have hx := sv_chX (s := s) hg 16 st st (nI k) (Or.inr ⟨k, hk, rfl⟩) (sv_X0 s st)
            have hN : ∀ j, j < 16 → st (16 * s + j) = 1 → nw (3 * (16 * s + j) + 2) = en (4 * (16 * s + j) + 2) := fun j hj q => (re_rN R (16 * s + j) (by omega) (by rw [q]; decide) (by rw [q]; decide) 2 (by decide)).symm
            refine ⟨0, (nI n, nI m, cc, rq, md, bk, ct, rt, rc, lk, wt, wc, ch, sv_ch s (fun j => en (4 * (16 * s + j) + 2)) 16 st (nI k), en, sn, sk, sr, fr, lf, cr, rr), (nI n, nI m, th, ch, ro, lk, sv_ch s (fun j => en (4 * (16 * s + j) + 2)) 16 st (nI k), nw, bf, ve, bk, md, yl, la, od, sm, fr, ct), ir_mk hn hm (sv_R R hx) hP, fun post hp => ?_, fun post hp => ?_⟩
            · simp (disch := omega) only [wpX_persist, vx_err, h, h1, hu, nu_k01, nu_k02, nu_k03, nu_k04, nu_k05, nu_k10, nu_k12, nu_k13, nu_k14, nu_k15, nu_k20, nu_k21, nu_k23, nu_k24, nu_k25, nu_k30, nu_k31, nu_k32, nu_k34, nu_k35, nu_k40, nu_k41, nu_k42, nu_k43, nu_k45, nu_k50, nu_k51, nu_k52, nu_k53, nu_k54, nu_01, nu_40, nu_30, nu_20, nu_160, Int32.add_zero, Nat.reduceAdd, nu_m16, nu_16m, nu_m4, nu_4m, nu_m3, nu_3m, nu_m2, nu_2m, nI_1, nu_p2, nu_p3, nu_16p, nu_2p, nI_add, nu_cl, nu_in, Nat.add_zero, nu_l0, nu_l1, nu_l2, nu_l3, nu_l4, nu_i0_5, nu_i1_5, nu_i2_5, nu_i0_3, nu_i1_3, nu_i2_3, nu_n0, nu_n1, nu_na0, nu_na1, forall_eq, true_implies, false_implies, implies_true, not_true_eq_false, not_false_eq_true, and_true, true_and, and_self, true_or, or_true, false_or, or_false, false_and, and_false, eq_self]
              refine vx_ch hs hE (Or.inr ⟨k, hk, rfl⟩) ?_
              exact hp
            · simp (disch := omega) only [wpY_persist, wY_persist_52, vy_err, h, h1, nu_k01, nu_k02, nu_k03, nu_k04, nu_k05, nu_k10, nu_k12, nu_k13, nu_k14, nu_k15, nu_k20, nu_k21, nu_k23, nu_k24, nu_k25, nu_k30, nu_k31, nu_k32, nu_k34, nu_k35, nu_k40, nu_k41, nu_k42, nu_k43, nu_k45, nu_k50, nu_k51, nu_k52, nu_k53, nu_k54, nu_01, nu_40, nu_30, nu_20, nu_160, Int32.add_zero, Nat.reduceAdd, nu_m16, nu_16m, nu_m4, nu_4m, nu_m3, nu_3m, nu_m2, nu_2m, nI_1, nu_p2, nu_p3, nu_16p, nu_2p, nI_add, nu_cl, nu_in, Nat.add_zero, nu_l0, nu_l1, nu_l2, nu_l3, nu_l4, nu_i0_5, nu_i1_5, nu_i2_5, nu_i0_3, nu_i1_3, nu_i2_3, nu_n0, nu_n1, nu_na0, nu_na1, forall_eq, true_implies, false_implies, implies_true, not_true_eq_false, not_false_eq_true, and_true, true_and, and_self, true_or, or_true, false_or, or_false, false_and, and_false, eq_self]
              rw [sv_ch1 hk h1] at hp
              have hc := sv_1u (s := s) hk h1
              have h16 : sv_1 s st ≤ 16 := cn_le _ 16
              rw [hN k hk h1]
              refine ⟨16, vy_ch hs hE hu 15 _ _ (hg k hk) (by omega) ?_ 16 (by decide) hp⟩
              intro j hj q
              by_cases z : j = k
              · subst z
                exact hN j hj h1
              · rw [pk_un (by omega)] at q
                exact hN j hj q
        · refine ⟨0, (nI n, nI m, cc, rq, md, bk, ct, rt, rc, lk, wt, wc, ch, st, en, sn, sk, sr, fr, lf, cr, rr), (nI n, nI m, th, ch, ro, lk, st, nw, bf, ve, bk, md, yl, la, od, sm, fr, ct), ir_mk hn hm (R) hP, fun post hp => ?_, fun post hp => ?_⟩
          · simp (disch := omega) only [wpX_persist, wX_persist_84, vx_err, h, h0, h1, h5, nu_01, nu_40, nu_30, nu_20, nu_160, Int32.add_zero, Nat.reduceAdd, nu_m16, nu_16m, nu_m4, nu_4m, nu_m3, nu_3m, nu_m2, nu_2m, nI_1, nu_p2, nu_p3, nu_16p, nu_2p, nI_add, nu_cl, nu_in, Nat.add_zero, nu_l0, nu_l1, nu_l2, nu_l3, nu_l4, nu_i0_5, nu_i1_5, nu_i2_5, nu_i0_3, nu_i1_3, nu_i2_3, nu_n0, nu_n1, nu_na0, nu_na1, forall_eq, true_implies, false_implies, implies_true, not_true_eq_false, not_false_eq_true, and_true, true_and, and_self, true_or, or_true, false_or, or_false, false_and, and_false, eq_self]
            exact hp
          · simp (disch := omega) only [wpY_persist, wY_persist_52, vy_err, h, h0, h1, h5, nu_01, nu_40, nu_30, nu_20, nu_160, Int32.add_zero, Nat.reduceAdd, nu_m16, nu_16m, nu_m4, nu_4m, nu_m3, nu_3m, nu_m2, nu_2m, nI_1, nu_p2, nu_p3, nu_16p, nu_2p, nI_add, nu_cl, nu_in, Nat.add_zero, nu_l0, nu_l1, nu_l2, nu_l3, nu_l4, nu_i0_5, nu_i1_5, nu_i2_5, nu_i0_3, nu_i1_3, nu_i2_3, nu_n0, nu_n1, nu_na0, nu_na1, forall_eq, true_implies, false_implies, implies_true, not_true_eq_false, not_false_eq_true, and_true, true_and, and_self, true_or, or_true, false_or, or_false, false_and, and_false, eq_self]
            exact hp
  · refine ⟨(er_v bk v1 v2), (nI n, nI m, cc, rq, md, bk, ct, rt, rc, lk, wt, wc, ch, st, en, sn, sk, sr, fr, lf, cr, rr), (nI n, nI m, th, ch, ro, lk, st, nw, bf, ve, bk, md, yl, la, od, sm, fr, ct), ir_mk hn hm (R) hP, fun post hp => ?_, fun post hp => ?_⟩
    · simp (disch := omega) only [wpX_persist, vx_err, h, nu_01, nu_40, nu_30, nu_20, nu_160, Int32.add_zero, Nat.reduceAdd, nu_m16, nu_16m, nu_m4, nu_4m, nu_m3, nu_3m, nu_m2, nu_2m, nI_1, nu_p2, nu_p3, nu_16p, nu_2p, nI_add, nu_cl, nu_in, Nat.add_zero, nu_l0, nu_l1, nu_l2, nu_l3, nu_l4, nu_i0_5, nu_i1_5, nu_i2_5, nu_i0_3, nu_i1_3, nu_i2_3, nu_n0, nu_n1, nu_na0, nu_na1, forall_eq, true_implies, false_implies, implies_true, not_true_eq_false, not_false_eq_true, and_true, true_and, and_self, true_or, or_true, false_or, or_false, false_and, and_false, eq_self]
      exact hp
    · simp (disch := omega) only [wpY_persist, vy_err, h, nu_01, nu_40, nu_30, nu_20, nu_160, Int32.add_zero, Nat.reduceAdd, nu_m16, nu_16m, nu_m4, nu_4m, nu_m3, nu_3m, nu_m2, nu_2m, nI_1, nu_p2, nu_p3, nu_16p, nu_2p, nI_add, nu_cl, nu_in, Nat.add_zero, nu_l0, nu_l1, nu_l2, nu_l3, nu_l4, nu_i0_5, nu_i1_5, nu_i2_5, nu_i0_3, nu_i1_3, nu_i2_3, nu_n0, nu_n1, nu_na0, nu_na1, forall_eq, true_implies, false_implies, implies_true, not_true_eq_false, not_false_eq_true, and_true, true_and, and_self, true_or, or_true, false_or, or_false, false_and, and_false, eq_self]
      exact hp
end
section
theorem u3_u3 (f : Nat → Int32) (i : Nat) (a b c a' b' c' : Int32) : u3_f (u3_f f i a b c) i a' b' c' = u3_f f i a' b' c' := by
  funext j
  by_cases h0 : j = i
  · subst h0
    rw [u3_0, u3_0]
  · by_cases h1 : j = i + 1
    · subst h1
      rw [u3_1, u3_1]
    · by_cases h2 : j = i + 2
      · subst h2
        rw [u3_2, u3_2]
      · rw [u3_o (by omega), u3_o (by omega), u3_o (by omega)]
section
variable {sc fc cc rq : Int32} {md bk ct rt rc lk wt wc ch st en sn sk sr fr lf cr rr th ro nw bf ve yl la od sm : Nat → Int32}
theorem vx_mc {post : Int32 → SX → Prop} {E F : Nat} (hE : E < 48) (hF : F < 48) (hEF : E ≠ F) (hp : post 0 (sc, fc, cc, rq, md, bk, ct, rt, rc, lk, wt, wc, ch, st, u3_f en (4 * E) (en (4 * F)) (en (4 * F + 1)) (en (4 * F + 2)), sn, sk, sr, fr, lf, cr, rr)) : ∃ n, wX_merge_235 post (nI E) (nI F) sc fc cc rq n 0 md bk ct rt rc lk wt wc ch st en sn sk sr fr lf cr rr := by
  refine ⟨4, ?_⟩
  simp (disch := omega) only [wX_merge_235, nu_g2, nu_h2, pk_un, nu_01, nu_40, nu_30, nu_20, nu_160, Int32.add_zero, Nat.reduceAdd, nu_m16, nu_16m, nu_m4, nu_4m, nu_m3, nu_3m, nu_m2, nu_2m, nI_1, nu_p2, nu_p3, nu_16p, nu_2p, nI_add, nu_cl, nu_in, Nat.add_zero, nu_l0, nu_l1, nu_l2, nu_l3, nu_l4, nu_i0_5, nu_i1_5, nu_i2_5, nu_i0_3, nu_i1_3, nu_i2_3, nu_n0, nu_n1, nu_na0, nu_na1, forall_eq, true_implies, false_implies, implies_true, not_true_eq_false, not_false_eq_true, and_true, true_and, and_self, true_or, or_true, false_or, or_false, false_and, and_false, eq_self]
  exact hp
theorem vy_mc {post : Int32 → SY → Prop} {E F : Nat} (hE : E < 48) (hF : F < 48) (hEF : E ≠ F) (hp : post 0 (sc, fc, th, ch, ro, lk, st, u3_f nw (3 * E) (nw (3 * F)) (nw (3 * F + 1)) (nw (3 * F + 2)), bf, ve, bk, md, yl, la, od, sm, fr, ct)) : ∃ n, wY_merge_208 post (nI E) (nI F) sc fc n 0 th ch ro lk st nw bf ve bk md yl la od sm fr ct := by
  refine ⟨4, ?_⟩
  simp (disch := omega) only [wY_merge_208, nu_a3, nu_b3, pk_un, nu_01, nu_40, nu_30, nu_20, nu_160, Int32.add_zero, Nat.reduceAdd, nu_m16, nu_16m, nu_m4, nu_4m, nu_m3, nu_3m, nu_m2, nu_2m, nI_1, nu_p2, nu_p3, nu_16p, nu_2p, nI_add, nu_cl, nu_in, Nat.add_zero, nu_l0, nu_l1, nu_l2, nu_l3, nu_l4, nu_i0_5, nu_i1_5, nu_i2_5, nu_i0_3, nu_i1_3, nu_i2_3, nu_n0, nu_n1, nu_na0, nu_na1, forall_eq, true_implies, false_implies, implies_true, not_true_eq_false, not_false_eq_true, and_true, true_and, and_self, true_or, or_true, false_or, or_false, false_and, and_false, eq_self]
  exact hp
end
/-- the end of a merge: the versions, then the cells -/
theorem me_170 {n m E F : Nat} {cc rq : Int32} {md bk ct rt rc lk wt wc ch st en sn sk sr fr lf cr rr th ro nw bf ve yl la od sm : Nat → Int32} (hn : n ≤ 32) (hm : m ≤ 16) (R : re_R md bk ch lk st rt rc wt wc en sn th ro nw bf ve) (hP : re_P n sk sr sm) (hE : E < 48) (hF : F < 48) (hEF : E ≠ F) (h0 : ¬ st F = 0) (h3 : ¬ st F = 3) :
    sm_S (fun post => wX_merge_170 post (nI E) (nI F) (nI n) (nI m) cc rq md bk ct rt rc lk wt wc ch st en sn sk sr fr lf cr rr) (fun post => wY_merge_163 post (nI E) (nI F) (nI n) (nI m) th ch ro lk st nw bf ve bk md yl la od sm fr ct) := by
  have c0 := re_rN R F hF h0 h3 0 (by decide)
  have c1 := re_rN R F hF h0 h3 1 (by decide)
  have c2 := re_rN R F hF h0 h3 2 (by decide)
  rw [Nat.add_zero, Nat.add_zero] at c0
  have R' := c3_R (e := E) (a := en (4 * F)) (b := en (4 * F + 1)) (c := en (4 * F + 2)) R (re_rE R F hF)
  have cp : sm_S (fun post => ∃ k, wX_merge_235 post (nI E) (nI F) (nI n) (nI m) cc rq k 0 md bk ct rt rc lk wt wc ch st en sn sk sr fr lf cr rr) (fun post => ∃ k, wY_merge_208 post (nI E) (nI F) (nI n) (nI m) k 0 th ch ro lk st nw bf ve bk md yl la od sm fr ct) := by
    refine ⟨0, (nI n, nI m, cc, rq, md, bk, ct, rt, rc, lk, wt, wc, ch, st, u3_f en (4 * E) (en (4 * F)) (en (4 * F + 1)) (en (4 * F + 2)), sn, sk, sr, fr, lf, cr, rr), (nI n, nI m, th, ch, ro, lk, st, u3_f nw (3 * E) (en (4 * F)) (en (4 * F + 1)) (en (4 * F + 2)), bf, ve, bk, md, yl, la, od, sm, fr, ct), ir_mk hn hm R' hP, fun post hp => vx_mc hE hF hEF hp, fun post hp => vy_mc hE hF hEF ?_⟩
    rw [c0, c1, c2] at hp
    exact hp
  obtain ⟨r, u, v, I, hX, hY⟩ := cp
  by_cases f4 : st F = 4
  · by_cases e4 : st E = 4
    · have vF := re_rV R F hF (Or.inl f4)
      have vE := re_rV R E hE (Or.inl e4)
      by_cases q : ve E = ve F
      · have q' : ve F = ve E := q.symm
        refine ⟨r, u, v, I, fun post hp => ?_, fun post hp => ?_⟩
        · simp (disch := omega) only [wX_merge_170, wX_merge_197, f4, e4, vF, vE, q', nu_k10, nu_01, nu_40, nu_30, nu_20, nu_160, Int32.add_zero, Nat.reduceAdd, nu_m16, nu_16m, nu_m4, nu_4m, nu_m3, nu_3m, nu_m2, nu_2m, nI_1, nu_p2, nu_p3, nu_16p, nu_2p, nI_add, nu_cl, nu_in, Nat.add_zero, nu_l0, nu_l1, nu_l2, nu_l3, nu_l4, nu_i0_5, nu_i1_5, nu_i2_5, nu_i0_3, nu_i1_3, nu_i2_3, nu_n0, nu_n1, nu_na0, nu_na1, forall_eq, true_implies, false_implies, implies_true, not_true_eq_false, not_false_eq_true, and_true, true_and, and_self, true_or, or_true, false_or, or_false, false_and, and_false, eq_self]
          exact hX post hp
        · simp (disch := omega) only [wY_merge_163, f4, e4, q, nu_01, nu_40, nu_30, nu_20, nu_160, Int32.add_zero, Nat.reduceAdd, nu_m16, nu_16m, nu_m4, nu_4m, nu_m3, nu_3m, nu_m2, nu_2m, nI_1, nu_p2, nu_p3, nu_16p, nu_2p, nI_add, nu_cl, nu_in, Nat.add_zero, nu_l0, nu_l1, nu_l2, nu_l3, nu_l4, nu_i0_5, nu_i1_5, nu_i2_5, nu_i0_3, nu_i1_3, nu_i2_3, nu_n0, nu_n1, nu_na0, nu_na1, forall_eq, true_implies, false_implies, implies_true, not_true_eq_false, not_false_eq_true, and_true, true_and, and_self, true_or, or_true, false_or, or_false, false_and, and_false, eq_self]
          exact hY post hp
      · have q' : ¬ ve F = ve E := fun z => q z.symm
        refine ⟨-4, (nI n, nI m, cc, rq, md, bk, ct, rt, rc, lk, wt, wc, ch, st, en, sn, sk, sr, fr, lf, cr, rr), (nI n, nI m, th, ch, ro, lk, st, nw, bf, ve, bk, md, yl, la, od, sm, fr, ct), ir_mk hn hm R hP, fun post hp => ?_, fun post hp => ?_⟩
        · simp (disch := omega) only [wX_merge_170, wX_merge_197, f4, e4, vF, vE, q', nu_k10, nu_01, nu_40, nu_30, nu_20, nu_160, Int32.add_zero, Nat.reduceAdd, nu_m16, nu_16m, nu_m4, nu_4m, nu_m3, nu_3m, nu_m2, nu_2m, nI_1, nu_p2, nu_p3, nu_16p, nu_2p, nI_add, nu_cl, nu_in, Nat.add_zero, nu_l0, nu_l1, nu_l2, nu_l3, nu_l4, nu_i0_5, nu_i1_5, nu_i2_5, nu_i0_3, nu_i1_3, nu_i2_3, nu_n0, nu_n1, nu_na0, nu_na1, forall_eq, true_implies, false_implies, implies_true, not_true_eq_false, not_false_eq_true, and_true, true_and, and_self, true_or, or_true, false_or, or_false, false_and, and_false, eq_self]
          exact hp
        · simp (disch := omega) only [wY_merge_163, f4, e4, q, nu_01, nu_40, nu_30, nu_20, nu_160, Int32.add_zero, Nat.reduceAdd, nu_m16, nu_16m, nu_m4, nu_4m, nu_m3, nu_3m, nu_m2, nu_2m, nI_1, nu_p2, nu_p3, nu_16p, nu_2p, nI_add, nu_cl, nu_in, Nat.add_zero, nu_l0, nu_l1, nu_l2, nu_l3, nu_l4, nu_i0_5, nu_i1_5, nu_i2_5, nu_i0_3, nu_i1_3, nu_i2_3, nu_n0, nu_n1, nu_na0, nu_na1, forall_eq, true_implies, false_implies, implies_true, not_true_eq_false, not_false_eq_true, and_true, true_and, and_self, true_or, or_true, false_or, or_false, false_and, and_false, eq_self]
          exact hp
    · refine ⟨r, u, v, I, fun post hp => ?_, fun post hp => ?_⟩
      · simp (disch := omega) only [wX_merge_170, wX_merge_196, wX_merge_197, f4, e4, nu_01, nu_40, nu_30, nu_20, nu_160, Int32.add_zero, Nat.reduceAdd, nu_m16, nu_16m, nu_m4, nu_4m, nu_m3, nu_3m, nu_m2, nu_2m, nI_1, nu_p2, nu_p3, nu_16p, nu_2p, nI_add, nu_cl, nu_in, Nat.add_zero, nu_l0, nu_l1, nu_l2, nu_l3, nu_l4, nu_i0_5, nu_i1_5, nu_i2_5, nu_i0_3, nu_i1_3, nu_i2_3, nu_n0, nu_n1, nu_na0, nu_na1, forall_eq, true_implies, false_implies, implies_true, not_true_eq_false, not_false_eq_true, and_true, true_and, and_self, true_or, or_true, false_or, or_false, false_and, and_false, eq_self]
        exact hX post hp
      · simp (disch := omega) only [wY_merge_163, f4, e4, nu_01, nu_40, nu_30, nu_20, nu_160, Int32.add_zero, Nat.reduceAdd, nu_m16, nu_16m, nu_m4, nu_4m, nu_m3, nu_3m, nu_m2, nu_2m, nI_1, nu_p2, nu_p3, nu_16p, nu_2p, nI_add, nu_cl, nu_in, Nat.add_zero, nu_l0, nu_l1, nu_l2, nu_l3, nu_l4, nu_i0_5, nu_i1_5, nu_i2_5, nu_i0_3, nu_i1_3, nu_i2_3, nu_n0, nu_n1, nu_na0, nu_na1, forall_eq, true_implies, false_implies, implies_true, not_true_eq_false, not_false_eq_true, and_true, true_and, and_self, true_or, or_true, false_or, or_false, false_and, and_false, eq_self]
        exact hY post hp
  · by_cases e4 : st E = 4
    · refine ⟨r, u, v, I, fun post hp => ?_, fun post hp => ?_⟩
      · simp (disch := omega) only [wX_merge_170, wX_merge_196, wX_merge_197, f4, e4, nu_01, nu_40, nu_30, nu_20, nu_160, Int32.add_zero, Nat.reduceAdd, nu_m16, nu_16m, nu_m4, nu_4m, nu_m3, nu_3m, nu_m2, nu_2m, nI_1, nu_p2, nu_p3, nu_16p, nu_2p, nI_add, nu_cl, nu_in, Nat.add_zero, nu_l0, nu_l1, nu_l2, nu_l3, nu_l4, nu_i0_5, nu_i1_5, nu_i2_5, nu_i0_3, nu_i1_3, nu_i2_3, nu_n0, nu_n1, nu_na0, nu_na1, forall_eq, true_implies, false_implies, implies_true, not_true_eq_false, not_false_eq_true, and_true, true_and, and_self, true_or, or_true, false_or, or_false, false_and, and_false, eq_self]
        exact hX post hp
      · simp (disch := omega) only [wY_merge_163, f4, e4, nu_01, nu_40, nu_30, nu_20, nu_160, Int32.add_zero, Nat.reduceAdd, nu_m16, nu_16m, nu_m4, nu_4m, nu_m3, nu_3m, nu_m2, nu_2m, nI_1, nu_p2, nu_p3, nu_16p, nu_2p, nI_add, nu_cl, nu_in, Nat.add_zero, nu_l0, nu_l1, nu_l2, nu_l3, nu_l4, nu_i0_5, nu_i1_5, nu_i2_5, nu_i0_3, nu_i1_3, nu_i2_3, nu_n0, nu_n1, nu_na0, nu_na1, forall_eq, true_implies, false_implies, implies_true, not_true_eq_false, not_false_eq_true, and_true, true_and, and_self, true_or, or_true, false_or, or_false, false_and, and_false, eq_self]
        exact hY post hp
    · refine ⟨r, u, v, I, fun post hp => ?_, fun post hp => ?_⟩
      · simp (disch := omega) only [wX_merge_170, wX_merge_196, wX_merge_197, f4, e4, nu_01, nu_40, nu_30, nu_20, nu_160, Int32.add_zero, Nat.reduceAdd, nu_m16, nu_16m, nu_m4, nu_4m, nu_m3, nu_3m, nu_m2, nu_2m, nI_1, nu_p2, nu_p3, nu_16p, nu_2p, nI_add, nu_cl, nu_in, Nat.add_zero, nu_l0, nu_l1, nu_l2, nu_l3, nu_l4, nu_i0_5, nu_i1_5, nu_i2_5, nu_i0_3, nu_i1_3, nu_i2_3, nu_n0, nu_n1, nu_na0, nu_na1, forall_eq, true_implies, false_implies, implies_true, not_true_eq_false, not_false_eq_true, and_true, true_and, and_self, true_or, or_true, false_or, or_false, false_and, and_false, eq_self]
        exact hX post hp
      · simp (disch := omega) only [wY_merge_163, f4, e4, nu_01, nu_40, nu_30, nu_20, nu_160, Int32.add_zero, Nat.reduceAdd, nu_m16, nu_16m, nu_m4, nu_4m, nu_m3, nu_3m, nu_m2, nu_2m, nI_1, nu_p2, nu_p3, nu_16p, nu_2p, nI_add, nu_cl, nu_in, Nat.add_zero, nu_l0, nu_l1, nu_l2, nu_l3, nu_l4, nu_i0_5, nu_i1_5, nu_i2_5, nu_i0_3, nu_i1_3, nu_i2_3, nu_n0, nu_n1, nu_na0, nu_na1, forall_eq, true_implies, false_implies, implies_true, not_true_eq_false, not_false_eq_true, and_true, true_and, and_self, true_or, or_true, false_or, or_false, false_and, and_false, eq_self]
        exact hY post hp
/-- a NEW one is filled by the reference, and its cells are merged over -/
theorem me_new {n m E F : Nat} {cc rq : Int32} {md bk ct rt rc lk wt wc ch st en sn sk sr fr lf cr rr th ro nw bf ve yl la od sm : Nat → Int32} (hn : n ≤ 32) (hm : m ≤ 16) (R : re_R md bk ch lk st rt rc wt wc en sn th ro nw bf ve) (hP : re_P n sk sr sm) (hE : E < 48) (hF : F < 48) (hEF : E ≠ F) (h0 : ¬ st F = 0) (h3 : ¬ st F = 3) (h4 : ¬ st F = 4) :
    sm_S (fun post => wX_merge_170 post (nI E) (nI F) (nI n) (nI m) cc rq md bk ct rt rc lk wt wc ch (upd st E 2) en sn sk sr fr lf cr rr) (fun post => wY_merge_148 post (nI E) (nI F) 0 (nI n) (nI m) th ch ro lk st nw bf ve bk md yl la od sm fr ct) := by
  have c0 := re_rN R F hF h0 h3 0 (by decide)
  have c1 := re_rN R F hF h0 h3 1 (by decide)
  have c2 := re_rN R F hF h0 h3 2 (by decide)
  rw [Nat.add_zero, Nat.add_zero] at c0
  have hne : F ≠ E := fun q => hEF q.symm
  have R' := mk_R (e := E) (x := 2) (a := en (4 * F)) (b := en (4 * F + 1)) (c := en (4 * F + 2)) (y := 0) R (Or.inr rfl) (re_rE R F hF)
  refine ⟨0, (nI n, nI m, cc, rq, md, bk, ct, rt, rc, lk, wt, wc, ch, upd st E 2, u3_f en (4 * E) (en (4 * F)) (en (4 * F + 1)) (en (4 * F + 2)), sn, sk, sr, fr, lf, cr, rr), (nI n, nI m, th, ch, ro, lk, upd st E 2, u3_f nw (3 * E) (en (4 * F)) (en (4 * F + 1)) (en (4 * F + 2)), bf, upd ve E 0, bk, md, yl, la, od, sm, fr, ct), ir_mk hn hm R' hP, fun post hp => ?_, fun post hp => ?_⟩
  · simp (disch := omega) only [wX_merge_170, wX_merge_196, wX_merge_197, pk_un, h4, nu_01, nu_40, nu_30, nu_20, nu_160, Int32.add_zero, Nat.reduceAdd, nu_m16, nu_16m, nu_m4, nu_4m, nu_m3, nu_3m, nu_m2, nu_2m, nI_1, nu_p2, nu_p3, nu_16p, nu_2p, nI_add, nu_cl, nu_in, Nat.add_zero, nu_l0, nu_l1, nu_l2, nu_l3, nu_l4, nu_i0_5, nu_i1_5, nu_i2_5, nu_i0_3, nu_i1_3, nu_i2_3, nu_n0, nu_n1, nu_na0, nu_na1, forall_eq, true_implies, false_implies, implies_true, not_true_eq_false, not_false_eq_true, and_true, true_and, and_self, true_or, or_true, false_or, or_false, false_and, and_false, eq_self]
    exact vx_mc hE hF hEF hp
  · simp (disch := omega) only [wY_merge_148, wpY_fill, wY_merge_163, pk_us, nu_k24, nu_01, nu_40, nu_30, nu_20, nu_160, Int32.add_zero, Nat.reduceAdd, nu_m16, nu_16m, nu_m4, nu_4m, nu_m3, nu_3m, nu_m2, nu_2m, nI_1, nu_p2, nu_p3, nu_16p, nu_2p, nI_add, nu_cl, nu_in, Nat.add_zero, nu_l0, nu_l1, nu_l2, nu_l3, nu_l4, nu_i0_5, nu_i1_5, nu_i2_5, nu_i0_3, nu_i1_3, nu_i2_3, nu_n0, nu_n1, nu_na0, nu_na1, forall_eq, true_implies, false_implies, implies_true, not_true_eq_false, not_false_eq_true, and_true, true_and, and_self, true_or, or_true, false_or, or_false, false_and, and_false, eq_self]
    refine vy_mc hE hF hEF ?_
    rw [c0, c1, c2] at hp
    have z := u3_u3 nw (3 * E) 0 0 (-1) (nw (3 * F)) (nw (3 * F + 1)) (nw (3 * F + 2))
    rw [← z] at hp
    have e0 : u3_f nw (3 * E) 0 0 (-1) (3 * F) = nw (3 * F) := u3_o (by omega)
    have e1 : u3_f nw (3 * E) 0 0 (-1) (3 * F + 1) = nw (3 * F + 1) := u3_o (by omega)
    have e2 : u3_f nw (3 * E) 0 0 (-1) (3 * F + 2) = nw (3 * F + 2) := u3_o (by omega)
    rw [← e0, ← e1, ← e2] at hp
    exact hp
end
section
theorem me_S {u : SX} {v : SY} (I : i_Rel 0 u v) (v1 v2 v3 : Int32) : sm_S (fun post => wpX_merge post u v1 v2 v3) (fun post => wpY_merge post v v1 v2 v3) := by
  obtain ⟨n, m, cc, rq, md, bk, ct, rt, rc, lk, wt, wc, ch, st, en, sn, sk, sr, fr, lf, cr, rr, th, ro, nw, bf, ve, yl, la, od, sm, rfl, rfl, hn, hm, R, hP⟩ := I
  by_cases t0 : v2 < 0
  · refine ⟨(-1), (nI n, nI m, cc, rq, md, bk, ct, rt, rc, lk, wt, wc, ch, st, en, sn, sk, sr, fr, lf, cr, rr), (nI n, nI m, th, ch, ro, lk, st, nw, bf, ve, bk, md, yl, la, od, sm, fr, ct), ir_mk hn hm (R) hP, fun post hp => ?_, fun post hp => ?_⟩
    · simp (disch := omega) only [wpX_merge, t0, nu_01, nu_40, nu_30, nu_20, nu_160, Int32.add_zero, Nat.reduceAdd, nu_m16, nu_16m, nu_m4, nu_4m, nu_m3, nu_3m, nu_m2, nu_2m, nI_1, nu_p2, nu_p3, nu_16p, nu_2p, nI_add, nu_cl, nu_in, Nat.add_zero, nu_l0, nu_l1, nu_l2, nu_l3, nu_l4, nu_i0_5, nu_i1_5, nu_i2_5, nu_i0_3, nu_i1_3, nu_i2_3, nu_n0, nu_n1, nu_na0, nu_na1, forall_eq, true_implies, false_implies, implies_true, not_true_eq_false, not_false_eq_true, and_true, true_and, and_self, true_or, or_true, false_or, or_false, false_and, and_false, eq_self]
      exact hp
    · simp (disch := omega) only [wpY_merge, wpY_in, t0, nu_01, nu_40, nu_30, nu_20, nu_160, Int32.add_zero, Nat.reduceAdd, nu_m16, nu_16m, nu_m4, nu_4m, nu_m3, nu_3m, nu_m2, nu_2m, nI_1, nu_p2, nu_p3, nu_16p, nu_2p, nI_add, nu_cl, nu_in, Nat.add_zero, nu_l0, nu_l1, nu_l2, nu_l3, nu_l4, nu_i0_5, nu_i1_5, nu_i2_5, nu_i0_3, nu_i1_3, nu_i2_3, nu_n0, nu_n1, nu_na0, nu_na1, forall_eq, true_implies, false_implies, implies_true, not_true_eq_false, not_false_eq_true, and_true, true_and, and_self, true_or, or_true, false_or, or_false, false_and, and_false, eq_self]
      exact hp
  obtain ⟨t, ht, rfl⟩ := nI_of t0
  by_cases t3 : 3 ≤ t
  · refine ⟨(-1), (nI n, nI m, cc, rq, md, bk, ct, rt, rc, lk, wt, wc, ch, st, en, sn, sk, sr, fr, lf, cr, rr), (nI n, nI m, th, ch, ro, lk, st, nw, bf, ve, bk, md, yl, la, od, sm, fr, ct), ir_mk hn hm (R) hP, fun post hp => ?_, fun post hp => ?_⟩
    · simp (disch := omega) only [wpX_merge, nu_a1, nu_b1, nu_c1, nu_d1, nu_e1, nu_f1, nu_g1, nu_h1, nu_a2, nu_b2, nu_c2, nu_d2, nu_e2, nu_f2, nu_g2, nu_h2, nu_a3, nu_b3, nu_c3, nu_d3, nu_e3, nu_f3, nu_g3, nu_h3, nu_a4, nu_b4, nu_c4, nu_d4, nu_e4, nu_f4, nu_g4, nu_h4, nu_a5, nu_b5, nu_c5, nu_d5, nu_e5, nu_f5, nu_g5, nu_h5, nu_a6, nu_b6, nu_c6, nu_d6, nu_e6, nu_f6, nu_g6, nu_h6, nu_a7, nu_b7, nu_c7, nu_d7, nu_e7, nu_f7, nu_g7, nu_h7, nu_a16, nu_b16, nu_c16, nu_d16, nu_e16, nu_f16, nu_g16, nu_h16, nu_neg, nu_pos, nu_01, nu_40, nu_30, nu_20, nu_160, Int32.add_zero, Nat.reduceAdd, nu_m16, nu_16m, nu_m4, nu_4m, nu_m3, nu_3m, nu_m2, nu_2m, nI_1, nu_p2, nu_p3, nu_16p, nu_2p, nI_add, nu_cl, nu_in, Nat.add_zero, nu_l0, nu_l1, nu_l2, nu_l3, nu_l4, nu_i0_5, nu_i1_5, nu_i2_5, nu_i0_3, nu_i1_3, nu_i2_3, nu_n0, nu_n1, nu_na0, nu_na1, forall_eq, true_implies, false_implies, implies_true, not_true_eq_false, not_false_eq_true, and_true, true_and, and_self, true_or, or_true, false_or, or_false, false_and, and_false, eq_self]
      exact hp
    · simp (disch := omega) only [wpY_merge, wpY_in, nu_a1, nu_b1, nu_c1, nu_d1, nu_e1, nu_f1, nu_g1, nu_h1, nu_a2, nu_b2, nu_c2, nu_d2, nu_e2, nu_f2, nu_g2, nu_h2, nu_a3, nu_b3, nu_c3, nu_d3, nu_e3, nu_f3, nu_g3, nu_h3, nu_a4, nu_b4, nu_c4, nu_d4, nu_e4, nu_f4, nu_g4, nu_h4, nu_a5, nu_b5, nu_c5, nu_d5, nu_e5, nu_f5, nu_g5, nu_h5, nu_a6, nu_b6, nu_c6, nu_d6, nu_e6, nu_f6, nu_g6, nu_h6, nu_a7, nu_b7, nu_c7, nu_d7, nu_e7, nu_f7, nu_g7, nu_h7, nu_a16, nu_b16, nu_c16, nu_d16, nu_e16, nu_f16, nu_g16, nu_h16, nu_neg, nu_pos, nu_01, nu_40, nu_30, nu_20, nu_160, Int32.add_zero, Nat.reduceAdd, nu_m16, nu_16m, nu_m4, nu_4m, nu_m3, nu_3m, nu_m2, nu_2m, nI_1, nu_p2, nu_p3, nu_16p, nu_2p, nI_add, nu_cl, nu_in, Nat.add_zero, nu_l0, nu_l1, nu_l2, nu_l3, nu_l4, nu_i0_5, nu_i1_5, nu_i2_5, nu_i0_3, nu_i1_3, nu_i2_3, nu_n0, nu_n1, nu_na0, nu_na1, forall_eq, true_implies, false_implies, implies_true, not_true_eq_false, not_false_eq_true, and_true, true_and, and_self, true_or, or_true, false_or, or_false, false_and, and_false, eq_self]
      exact hp
  by_cases h : er_v bk v1 v3 = 0
  · obtain ⟨s, k, hs, hk, rfl, rfl, hb⟩ := er_0 h
    have hE : 16 * s + k < 48 := by omega
    have hF : 16 * t + k < 48 := by omega
    rcases re_rK R (16 * t + k) with f | f | f | f | f | f
    · by_cases q : s = t
      · subst q
        refine ⟨(-1), (nI n, nI m, cc, rq, md, bk, ct, rt, rc, lk, wt, wc, ch, st, en, sn, sk, sr, fr, lf, cr, rr), (nI n, nI m, th, ch, ro, lk, st, nw, bf, ve, bk, md, yl, la, od, sm, fr, ct), ir_mk hn hm (R) hP, fun post hp => ?_, fun post hp => ?_⟩
        · simp (disch := omega) only [wpX_merge, wX_merge_76, wX_merge_81, vx_err, h, f, nu_eq, nu_k01, nu_k02, nu_k03, nu_k04, nu_k05, nu_k10, nu_k12, nu_k13, nu_k14, nu_k15, nu_k20, nu_k21, nu_k23, nu_k24, nu_k25, nu_k30, nu_k31, nu_k32, nu_k34, nu_k35, nu_k40, nu_k41, nu_k42, nu_k43, nu_k45, nu_k50, nu_k51, nu_k52, nu_k53, nu_k54, nu_a1, nu_b1, nu_c1, nu_d1, nu_e1, nu_f1, nu_g1, nu_h1, nu_a2, nu_b2, nu_c2, nu_d2, nu_e2, nu_f2, nu_g2, nu_h2, nu_a3, nu_b3, nu_c3, nu_d3, nu_e3, nu_f3, nu_g3, nu_h3, nu_a4, nu_b4, nu_c4, nu_d4, nu_e4, nu_f4, nu_g4, nu_h4, nu_a5, nu_b5, nu_c5, nu_d5, nu_e5, nu_f5, nu_g5, nu_h5, nu_a6, nu_b6, nu_c6, nu_d6, nu_e6, nu_f6, nu_g6, nu_h6, nu_a7, nu_b7, nu_c7, nu_d7, nu_e7, nu_f7, nu_g7, nu_h7, nu_a16, nu_b16, nu_c16, nu_d16, nu_e16, nu_f16, nu_g16, nu_h16, nu_neg, nu_pos, nu_01, nu_40, nu_30, nu_20, nu_160, Int32.add_zero, Nat.reduceAdd, nu_m16, nu_16m, nu_m4, nu_4m, nu_m3, nu_3m, nu_m2, nu_2m, nI_1, nu_p2, nu_p3, nu_16p, nu_2p, nI_add, nu_cl, nu_in, Nat.add_zero, nu_l0, nu_l1, nu_l2, nu_l3, nu_l4, nu_i0_5, nu_i1_5, nu_i2_5, nu_i0_3, nu_i1_3, nu_i2_3, nu_n0, nu_n1, nu_na0, nu_na1, forall_eq, true_implies, false_implies, implies_true, not_true_eq_false, not_false_eq_true, and_true, true_and, and_self, true_or, or_true, false_or, or_false, false_and, and_false, eq_self]
          exact hp
        · simp (disch := omega) only [wpY_merge, wpY_in, vy_err, h, f, nu_eq, nu_k01, nu_k02, nu_k03, nu_k04, nu_k05, nu_k10, nu_k12, nu_k13, nu_k14, nu_k15, nu_k20, nu_k21, nu_k23, nu_k24, nu_k25, nu_k30, nu_k31, nu_k32, nu_k34, nu_k35, nu_k40, nu_k41, nu_k42, nu_k43, nu_k45, nu_k50, nu_k51, nu_k52, nu_k53, nu_k54, nu_a1, nu_b1, nu_c1, nu_d1, nu_e1, nu_f1, nu_g1, nu_h1, nu_a2, nu_b2, nu_c2, nu_d2, nu_e2, nu_f2, nu_g2, nu_h2, nu_a3, nu_b3, nu_c3, nu_d3, nu_e3, nu_f3, nu_g3, nu_h3, nu_a4, nu_b4, nu_c4, nu_d4, nu_e4, nu_f4, nu_g4, nu_h4, nu_a5, nu_b5, nu_c5, nu_d5, nu_e5, nu_f5, nu_g5, nu_h5, nu_a6, nu_b6, nu_c6, nu_d6, nu_e6, nu_f6, nu_g6, nu_h6, nu_a7, nu_b7, nu_c7, nu_d7, nu_e7, nu_f7, nu_g7, nu_h7, nu_a16, nu_b16, nu_c16, nu_d16, nu_e16, nu_f16, nu_g16, nu_h16, nu_neg, nu_pos, nu_01, nu_40, nu_30, nu_20, nu_160, Int32.add_zero, Nat.reduceAdd, nu_m16, nu_16m, nu_m4, nu_4m, nu_m3, nu_3m, nu_m2, nu_2m, nI_1, nu_p2, nu_p3, nu_16p, nu_2p, nI_add, nu_cl, nu_in, Nat.add_zero, nu_l0, nu_l1, nu_l2, nu_l3, nu_l4, nu_i0_5, nu_i1_5, nu_i2_5, nu_i0_3, nu_i1_3, nu_i2_3, nu_n0, nu_n1, nu_na0, nu_na1, forall_eq, true_implies, false_implies, implies_true, not_true_eq_false, not_false_eq_true, and_true, true_and, and_self, true_or, or_true, false_or, or_false, false_and, and_false, eq_self]
          exact hp
      · refine ⟨(-1), (nI n, nI m, cc, rq, md, bk, ct, rt, rc, lk, wt, wc, ch, st, en, sn, sk, sr, fr, lf, cr, rr), (nI n, nI m, th, ch, ro, lk, st, nw, bf, ve, bk, md, yl, la, od, sm, fr, ct), ir_mk hn hm (R) hP, fun post hp => ?_, fun post hp => ?_⟩
        · simp (disch := omega) only [wpX_merge, wX_merge_76, wX_merge_81, vx_err, h, f, nu_eq, nu_k01, nu_k02, nu_k03, nu_k04, nu_k05, nu_k10, nu_k12, nu_k13, nu_k14, nu_k15, nu_k20, nu_k21, nu_k23, nu_k24, nu_k25, nu_k30, nu_k31, nu_k32, nu_k34, nu_k35, nu_k40, nu_k41, nu_k42, nu_k43, nu_k45, nu_k50, nu_k51, nu_k52, nu_k53, nu_k54, nu_a1, nu_b1, nu_c1, nu_d1, nu_e1, nu_f1, nu_g1, nu_h1, nu_a2, nu_b2, nu_c2, nu_d2, nu_e2, nu_f2, nu_g2, nu_h2, nu_a3, nu_b3, nu_c3, nu_d3, nu_e3, nu_f3, nu_g3, nu_h3, nu_a4, nu_b4, nu_c4, nu_d4, nu_e4, nu_f4, nu_g4, nu_h4, nu_a5, nu_b5, nu_c5, nu_d5, nu_e5, nu_f5, nu_g5, nu_h5, nu_a6, nu_b6, nu_c6, nu_d6, nu_e6, nu_f6, nu_g6, nu_h6, nu_a7, nu_b7, nu_c7, nu_d7, nu_e7, nu_f7, nu_g7, nu_h7, nu_a16, nu_b16, nu_c16, nu_d16, nu_e16, nu_f16, nu_g16, nu_h16, nu_neg, nu_pos, q, nu_01, nu_40, nu_30, nu_20, nu_160, Int32.add_zero, Nat.reduceAdd, nu_m16, nu_16m, nu_m4, nu_4m, nu_m3, nu_3m, nu_m2, nu_2m, nI_1, nu_p2, nu_p3, nu_16p, nu_2p, nI_add, nu_cl, nu_in, Nat.add_zero, nu_l0, nu_l1, nu_l2, nu_l3, nu_l4, nu_i0_5, nu_i1_5, nu_i2_5, nu_i0_3, nu_i1_3, nu_i2_3, nu_n0, nu_n1, nu_na0, nu_na1, forall_eq, true_implies, false_implies, implies_true, not_true_eq_false, not_false_eq_true, and_true, true_and, and_self, true_or, or_true, false_or, or_false, false_and, and_false, eq_self]
          exact hp
        · simp (disch := omega) only [wpY_merge, wpY_in, vy_err, h, f, nu_eq, nu_k01, nu_k02, nu_k03, nu_k04, nu_k05, nu_k10, nu_k12, nu_k13, nu_k14, nu_k15, nu_k20, nu_k21, nu_k23, nu_k24, nu_k25, nu_k30, nu_k31, nu_k32, nu_k34, nu_k35, nu_k40, nu_k41, nu_k42, nu_k43, nu_k45, nu_k50, nu_k51, nu_k52, nu_k53, nu_k54, nu_a1, nu_b1, nu_c1, nu_d1, nu_e1, nu_f1, nu_g1, nu_h1, nu_a2, nu_b2, nu_c2, nu_d2, nu_e2, nu_f2, nu_g2, nu_h2, nu_a3, nu_b3, nu_c3, nu_d3, nu_e3, nu_f3, nu_g3, nu_h3, nu_a4, nu_b4, nu_c4, nu_d4, nu_e4, nu_f4, nu_g4, nu_h4, nu_a5, nu_b5, nu_c5, nu_d5, nu_e5, nu_f5, nu_g5, nu_h5, nu_a6, nu_b6, nu_c6, nu_d6, nu_e6, nu_f6, nu_g6, nu_h6, nu_a7, nu_b7, nu_c7, nu_d7, nu_e7, nu_f7, nu_g7, nu_h7, nu_a16, nu_b16, nu_c16, nu_d16, nu_e16, nu_f16, nu_g16, nu_h16, nu_neg, nu_pos, q, nu_01, nu_40, nu_30, nu_20, nu_160, Int32.add_zero, Nat.reduceAdd, nu_m16, nu_16m, nu_m4, nu_4m, nu_m3, nu_3m, nu_m2, nu_2m, nI_1, nu_p2, nu_p3, nu_16p, nu_2p, nI_add, nu_cl, nu_in, Nat.add_zero, nu_l0, nu_l1, nu_l2, nu_l3, nu_l4, nu_i0_5, nu_i1_5, nu_i2_5, nu_i0_3, nu_i1_3, nu_i2_3, nu_n0, nu_n1, nu_na0, nu_na1, forall_eq, true_implies, false_implies, implies_true, not_true_eq_false, not_false_eq_true, and_true, true_and, and_self, true_or, or_true, false_or, or_false, false_and, and_false, eq_self]
          exact hp
    · by_cases q : s = t
      · subst q
        refine ⟨(-1), (nI n, nI m, cc, rq, md, bk, ct, rt, rc, lk, wt, wc, ch, st, en, sn, sk, sr, fr, lf, cr, rr), (nI n, nI m, th, ch, ro, lk, st, nw, bf, ve, bk, md, yl, la, od, sm, fr, ct), ir_mk hn hm (R) hP, fun post hp => ?_, fun post hp => ?_⟩
        · simp (disch := omega) only [wpX_merge, wX_merge_76, wX_merge_81, vx_err, h, f, nu_eq, nu_k01, nu_k02, nu_k03, nu_k04, nu_k05, nu_k10, nu_k12, nu_k13, nu_k14, nu_k15, nu_k20, nu_k21, nu_k23, nu_k24, nu_k25, nu_k30, nu_k31, nu_k32, nu_k34, nu_k35, nu_k40, nu_k41, nu_k42, nu_k43, nu_k45, nu_k50, nu_k51, nu_k52, nu_k53, nu_k54, nu_a1, nu_b1, nu_c1, nu_d1, nu_e1, nu_f1, nu_g1, nu_h1, nu_a2, nu_b2, nu_c2, nu_d2, nu_e2, nu_f2, nu_g2, nu_h2, nu_a3, nu_b3, nu_c3, nu_d3, nu_e3, nu_f3, nu_g3, nu_h3, nu_a4, nu_b4, nu_c4, nu_d4, nu_e4, nu_f4, nu_g4, nu_h4, nu_a5, nu_b5, nu_c5, nu_d5, nu_e5, nu_f5, nu_g5, nu_h5, nu_a6, nu_b6, nu_c6, nu_d6, nu_e6, nu_f6, nu_g6, nu_h6, nu_a7, nu_b7, nu_c7, nu_d7, nu_e7, nu_f7, nu_g7, nu_h7, nu_a16, nu_b16, nu_c16, nu_d16, nu_e16, nu_f16, nu_g16, nu_h16, nu_neg, nu_pos, nu_01, nu_40, nu_30, nu_20, nu_160, Int32.add_zero, Nat.reduceAdd, nu_m16, nu_16m, nu_m4, nu_4m, nu_m3, nu_3m, nu_m2, nu_2m, nI_1, nu_p2, nu_p3, nu_16p, nu_2p, nI_add, nu_cl, nu_in, Nat.add_zero, nu_l0, nu_l1, nu_l2, nu_l3, nu_l4, nu_i0_5, nu_i1_5, nu_i2_5, nu_i0_3, nu_i1_3, nu_i2_3, nu_n0, nu_n1, nu_na0, nu_na1, forall_eq, true_implies, false_implies, implies_true, not_true_eq_false, not_false_eq_true, and_true, true_and, and_self, true_or, or_true, false_or, or_false, false_and, and_false, eq_self]
          exact hp
        · simp (disch := omega) only [wpY_merge, wpY_in, vy_err, h, f, nu_eq, nu_k01, nu_k02, nu_k03, nu_k04, nu_k05, nu_k10, nu_k12, nu_k13, nu_k14, nu_k15, nu_k20, nu_k21, nu_k23, nu_k24, nu_k25, nu_k30, nu_k31, nu_k32, nu_k34, nu_k35, nu_k40, nu_k41, nu_k42, nu_k43, nu_k45, nu_k50, nu_k51, nu_k52, nu_k53, nu_k54, nu_a1, nu_b1, nu_c1, nu_d1, nu_e1, nu_f1, nu_g1, nu_h1, nu_a2, nu_b2, nu_c2, nu_d2, nu_e2, nu_f2, nu_g2, nu_h2, nu_a3, nu_b3, nu_c3, nu_d3, nu_e3, nu_f3, nu_g3, nu_h3, nu_a4, nu_b4, nu_c4, nu_d4, nu_e4, nu_f4, nu_g4, nu_h4, nu_a5, nu_b5, nu_c5, nu_d5, nu_e5, nu_f5, nu_g5, nu_h5, nu_a6, nu_b6, nu_c6, nu_d6, nu_e6, nu_f6, nu_g6, nu_h6, nu_a7, nu_b7, nu_c7, nu_d7, nu_e7, nu_f7, nu_g7, nu_h7, nu_a16, nu_b16, nu_c16, nu_d16, nu_e16, nu_f16, nu_g16, nu_h16, nu_neg, nu_pos, nu_01, nu_40, nu_30, nu_20, nu_160, Int32.add_zero, Nat.reduceAdd, nu_m16, nu_16m, nu_m4, nu_4m, nu_m3, nu_3m, nu_m2, nu_2m, nI_1, nu_p2, nu_p3, nu_16p, nu_2p, nI_add, nu_cl, nu_in, Nat.add_zero, nu_l0, nu_l1, nu_l2, nu_l3, nu_l4, nu_i0_5, nu_i1_5, nu_i2_5, nu_i0_3, nu_i1_3, nu_i2_3, nu_n0, nu_n1, nu_na0, nu_na1, forall_eq, true_implies, false_implies, implies_true, not_true_eq_false, not_false_eq_true, and_true, true_and, and_self, true_or, or_true, false_or, or_false, false_and, and_false, eq_self]
          exact hp
      · have hEF : 16 * s + k ≠ 16 * t + k := by omega
        have f0 : ¬ st (16 * t + k) = 0 := by rw [f]; decide
        have f3 : ¬ st (16 * t + k) = 3 := by rw [f]; decide
        rcases re_rK R (16 * s + k) with e | e | e | e | e | e
        · obtain ⟨b, ct', ch', st', en', sn', nw', bf', ve', hb, R', h1, h2, hX, hY⟩ := al_S (nI n) (nI m) cc rq ct sk sr fr lf cr rr yl la od sm hs hk R
          rcases hb with rfl | rfl
          · have z := h2 rfl
            subst z
            obtain ⟨r, u, v, I, gX, gY⟩ := me_new (cc := cc) (rq := rq) (ct := ct') (fr := fr) (lf := lf) (cr := cr) (rr := rr) (yl := yl) (la := la) (od := od) hn hm R' hP hE hF hEF f0 f3 (by rw [f]; decide)
            refine ⟨r, u, v, I, fun post hp => ?_, fun post hp => ?_⟩
            · simp (disch := omega) only [wpX_merge, wX_merge_76, wX_merge_81, vx_err, h, f, nu_eq, nu_k01, nu_k02, nu_k03, nu_k04, nu_k05, nu_k10, nu_k12, nu_k13, nu_k14, nu_k15, nu_k20, nu_k21, nu_k23, nu_k24, nu_k25, nu_k30, nu_k31, nu_k32, nu_k34, nu_k35, nu_k40, nu_k41, nu_k42, nu_k43, nu_k45, nu_k50, nu_k51, nu_k52, nu_k53, nu_k54, nu_a1, nu_b1, nu_c1, nu_d1, nu_e1, nu_f1, nu_g1, nu_h1, nu_a2, nu_b2, nu_c2, nu_d2, nu_e2, nu_f2, nu_g2, nu_h2, nu_a3, nu_b3, nu_c3, nu_d3, nu_e3, nu_f3, nu_g3, nu_h3, nu_a4, nu_b4, nu_c4, nu_d4, nu_e4, nu_f4, nu_g4, nu_h4, nu_a5, nu_b5, nu_c5, nu_d5, nu_e5, nu_f5, nu_g5, nu_h5, nu_a6, nu_b6, nu_c6, nu_d6, nu_e6, nu_f6, nu_g6, nu_h6, nu_a7, nu_b7, nu_c7, nu_d7, nu_e7, nu_f7, nu_g7, nu_h7, nu_a16, nu_b16, nu_c16, nu_d16, nu_e16, nu_f16, nu_g16, nu_h16, nu_neg, nu_pos, wX_merge_127, wX_merge_132, q, e, nu_01, nu_40, nu_30, nu_20, nu_160, Int32.add_zero, Nat.reduceAdd, nu_m16, nu_16m, nu_m4, nu_4m, nu_m3, nu_3m, nu_m2, nu_2m, nI_1, nu_p2, nu_p3, nu_16p, nu_2p, nI_add, nu_cl, nu_in, Nat.add_zero, nu_l0, nu_l1, nu_l2, nu_l3, nu_l4, nu_i0_5, nu_i1_5, nu_i2_5, nu_i0_3, nu_i1_3, nu_i2_3, nu_n0, nu_n1, nu_na0, nu_na1, forall_eq, true_implies, false_implies, implies_true, not_true_eq_false, not_false_eq_true, and_true, true_and, and_self, true_or, or_true, false_or, or_false, false_and, and_false, eq_self]
              refine hX _ ?_
              simp (disch := omega) only [f, nu_k01, nu_k02, nu_k03, nu_k04, nu_k05, nu_k10, nu_k12, nu_k13, nu_k14, nu_k15, nu_k20, nu_k21, nu_k23, nu_k24, nu_k25, nu_k30, nu_k31, nu_k32, nu_k34, nu_k35, nu_k40, nu_k41, nu_k42, nu_k43, nu_k45, nu_k50, nu_k51, nu_k52, nu_k53, nu_k54, nu_01, nu_40, nu_30, nu_20, nu_160, Int32.add_zero, Nat.reduceAdd, nu_m16, nu_16m, nu_m4, nu_4m, nu_m3, nu_3m, nu_m2, nu_2m, nI_1, nu_p2, nu_p3, nu_16p, nu_2p, nI_add, nu_cl, nu_in, Nat.add_zero, nu_l0, nu_l1, nu_l2, nu_l3, nu_l4, nu_i0_5, nu_i1_5, nu_i2_5, nu_i0_3, nu_i1_3, nu_i2_3, nu_n0, nu_n1, nu_na0, nu_na1, forall_eq, true_implies, false_implies, implies_true, not_true_eq_false, not_false_eq_true, and_true, true_and, and_self, true_or, or_true, false_or, or_false, false_and, and_false, eq_self]
              exact gX post hp
            · simp (disch := omega) only [wpY_merge, wpY_in, vy_err, h, f, nu_eq, nu_k01, nu_k02, nu_k03, nu_k04, nu_k05, nu_k10, nu_k12, nu_k13, nu_k14, nu_k15, nu_k20, nu_k21, nu_k23, nu_k24, nu_k25, nu_k30, nu_k31, nu_k32, nu_k34, nu_k35, nu_k40, nu_k41, nu_k42, nu_k43, nu_k45, nu_k50, nu_k51, nu_k52, nu_k53, nu_k54, nu_a1, nu_b1, nu_c1, nu_d1, nu_e1, nu_f1, nu_g1, nu_h1, nu_a2, nu_b2, nu_c2, nu_d2, nu_e2, nu_f2, nu_g2, nu_h2, nu_a3, nu_b3, nu_c3, nu_d3, nu_e3, nu_f3, nu_g3, nu_h3, nu_a4, nu_b4, nu_c4, nu_d4, nu_e4, nu_f4, nu_g4, nu_h4, nu_a5, nu_b5, nu_c5, nu_d5, nu_e5, nu_f5, nu_g5, nu_h5, nu_a6, nu_b6, nu_c6, nu_d6, nu_e6, nu_f6, nu_g6, nu_h6, nu_a7, nu_b7, nu_c7, nu_d7, nu_e7, nu_f7, nu_g7, nu_h7, nu_a16, nu_b16, nu_c16, nu_d16, nu_e16, nu_f16, nu_g16, nu_h16, nu_neg, nu_pos, wY_merge_113, q, e, nu_01, nu_40, nu_30, nu_20, nu_160, Int32.add_zero, Nat.reduceAdd, nu_m16, nu_16m, nu_m4, nu_4m, nu_m3, nu_3m, nu_m2, nu_2m, nI_1, nu_p2, nu_p3, nu_16p, nu_2p, nI_add, nu_cl, nu_in, Nat.add_zero, nu_l0, nu_l1, nu_l2, nu_l3, nu_l4, nu_i0_5, nu_i1_5, nu_i2_5, nu_i0_3, nu_i1_3, nu_i2_3, nu_n0, nu_n1, nu_na0, nu_na1, forall_eq, true_implies, false_implies, implies_true, not_true_eq_false, not_false_eq_true, and_true, true_and, and_self, true_or, or_true, false_or, or_false, false_and, and_false, eq_self]
              refine hY _ ?_
              simp (disch := omega) only [wY_merge_127, f, nu_k01, nu_k02, nu_k03, nu_k04, nu_k05, nu_k10, nu_k12, nu_k13, nu_k14, nu_k15, nu_k20, nu_k21, nu_k23, nu_k24, nu_k25, nu_k30, nu_k31, nu_k32, nu_k34, nu_k35, nu_k40, nu_k41, nu_k42, nu_k43, nu_k45, nu_k50, nu_k51, nu_k52, nu_k53, nu_k54, nu_01, nu_40, nu_30, nu_20, nu_160, Int32.add_zero, Nat.reduceAdd, nu_m16, nu_16m, nu_m4, nu_4m, nu_m3, nu_3m, nu_m2, nu_2m, nI_1, nu_p2, nu_p3, nu_16p, nu_2p, nI_add, nu_cl, nu_in, Nat.add_zero, nu_l0, nu_l1, nu_l2, nu_l3, nu_l4, nu_i0_5, nu_i1_5, nu_i2_5, nu_i0_3, nu_i1_3, nu_i2_3, nu_n0, nu_n1, nu_na0, nu_na1, forall_eq, true_implies, false_implies, implies_true, not_true_eq_false, not_false_eq_true, and_true, true_and, and_self, true_or, or_true, false_or, or_false, false_and, and_false, eq_self]
              exact gY post hp
          · have z := h1 rfl
            have f0' : ¬ st' (16 * t + k) = 0 := by rw [z, pk_un (by omega)]; exact f0
            have f3' : ¬ st' (16 * t + k) = 3 := by rw [z, pk_un (by omega)]; exact f3
            obtain ⟨r, u, v, I, gX, gY⟩ := me_170 (cc := cc) (rq := rq) (ct := ct') (fr := fr) (lf := lf) (cr := cr) (rr := rr) (yl := yl) (la := la) (od := od) hn hm R' hP hE hF hEF f0' f3'
            refine ⟨r, u, v, I, fun post hp => ?_, fun post hp => ?_⟩
            · simp (disch := omega) only [wpX_merge, wX_merge_76, wX_merge_81, vx_err, h, f, nu_eq, nu_k01, nu_k02, nu_k03, nu_k04, nu_k05, nu_k10, nu_k12, nu_k13, nu_k14, nu_k15, nu_k20, nu_k21, nu_k23, nu_k24, nu_k25, nu_k30, nu_k31, nu_k32, nu_k34, nu_k35, nu_k40, nu_k41, nu_k42, nu_k43, nu_k45, nu_k50, nu_k51, nu_k52, nu_k53, nu_k54, nu_a1, nu_b1, nu_c1, nu_d1, nu_e1, nu_f1, nu_g1, nu_h1, nu_a2, nu_b2, nu_c2, nu_d2, nu_e2, nu_f2, nu_g2, nu_h2, nu_a3, nu_b3, nu_c3, nu_d3, nu_e3, nu_f3, nu_g3, nu_h3, nu_a4, nu_b4, nu_c4, nu_d4, nu_e4, nu_f4, nu_g4, nu_h4, nu_a5, nu_b5, nu_c5, nu_d5, nu_e5, nu_f5, nu_g5, nu_h5, nu_a6, nu_b6, nu_c6, nu_d6, nu_e6, nu_f6, nu_g6, nu_h6, nu_a7, nu_b7, nu_c7, nu_d7, nu_e7, nu_f7, nu_g7, nu_h7, nu_a16, nu_b16, nu_c16, nu_d16, nu_e16, nu_f16, nu_g16, nu_h16, nu_neg, nu_pos, wX_merge_127, wX_merge_132, q, e, nu_01, nu_40, nu_30, nu_20, nu_160, Int32.add_zero, Nat.reduceAdd, nu_m16, nu_16m, nu_m4, nu_4m, nu_m3, nu_3m, nu_m2, nu_2m, nI_1, nu_p2, nu_p3, nu_16p, nu_2p, nI_add, nu_cl, nu_in, Nat.add_zero, nu_l0, nu_l1, nu_l2, nu_l3, nu_l4, nu_i0_5, nu_i1_5, nu_i2_5, nu_i0_3, nu_i1_3, nu_i2_3, nu_n0, nu_n1, nu_na0, nu_na1, forall_eq, true_implies, false_implies, implies_true, not_true_eq_false, not_false_eq_true, and_true, true_and, and_self, true_or, or_true, false_or, or_false, false_and, and_false, eq_self]
              refine hX _ ?_
              simp (disch := omega) only [nu_k10, forall_eq, true_implies, false_implies, implies_true, not_true_eq_false, not_false_eq_true, and_true, true_and, and_self, true_or, or_true, false_or, or_false, false_and, and_false, eq_self]
              exact gX post hp
            · simp (disch := omega) only [wpY_merge, wpY_in, vy_err, h, f, nu_eq, nu_k01, nu_k02, nu_k03, nu_k04, nu_k05, nu_k10, nu_k12, nu_k13, nu_k14, nu_k15, nu_k20, nu_k21, nu_k23, nu_k24, nu_k25, nu_k30, nu_k31, nu_k32, nu_k34, nu_k35, nu_k40, nu_k41, nu_k42, nu_k43, nu_k45, nu_k50, nu_k51, nu_k52, nu_k53, nu_k54, nu_a1, nu_b1, nu_c1, nu_d1, nu_e1, nu_f1, nu_g1, nu_h1, nu_a2, nu_b2, nu_c2, nu_d2, nu_e2, nu_f2, nu_g2, nu_h2, nu_a3, nu_b3, nu_c3, nu_d3, nu_e3, nu_f3, nu_g3, nu_h3, nu_a4, nu_b4, nu_c4, nu_d4, nu_e4, nu_f4, nu_g4, nu_h4, nu_a5, nu_b5, nu_c5, nu_d5, nu_e5, nu_f5, nu_g5, nu_h5, nu_a6, nu_b6, nu_c6, nu_d6, nu_e6, nu_f6, nu_g6, nu_h6, nu_a7, nu_b7, nu_c7, nu_d7, nu_e7, nu_f7, nu_g7, nu_h7, nu_a16, nu_b16, nu_c16, nu_d16, nu_e16, nu_f16, nu_g16, nu_h16, nu_neg, nu_pos, wY_merge_113, q, e, nu_01, nu_40, nu_30, nu_20, nu_160, Int32.add_zero, Nat.reduceAdd, nu_m16, nu_16m, nu_m4, nu_4m, nu_m3, nu_3m, nu_m2, nu_2m, nI_1, nu_p2, nu_p3, nu_16p, nu_2p, nI_add, nu_cl, nu_in, Nat.add_zero, nu_l0, nu_l1, nu_l2, nu_l3, nu_l4, nu_i0_5, nu_i1_5, nu_i2_5, nu_i0_3, nu_i1_3, nu_i2_3, nu_n0, nu_n1, nu_na0, nu_na1, forall_eq, true_implies, false_implies, implies_true, not_true_eq_false, not_false_eq_true, and_true, true_and, and_self, true_or, or_true, false_or, or_false, false_and, and_false, eq_self]
              refine hY _ ?_
              simp (disch := omega) only [wY_merge_122, wY_merge_127, wY_merge_148, nu_k10, forall_eq, true_implies, false_implies, implies_true, not_true_eq_false, not_false_eq_true, and_true, true_and, and_self, true_or, or_true, false_or, or_false, false_and, and_false, eq_self]
              exact gY post hp
        · obtain ⟨r, u, v, I, gX, gY⟩ := me_170 (cc := cc) (rq := rq) (ct := ct) (fr := fr) (lf := lf) (cr := cr) (rr := rr) (yl := yl) (la := la) (od := od) hn hm R hP hE hF hEF f0 f3
          refine ⟨r, u, v, I, fun post hp => ?_, fun post hp => ?_⟩
          · simp (disch := omega) only [wpX_merge, wX_merge_76, wX_merge_81, vx_err, h, f, nu_eq, nu_k01, nu_k02, nu_k03, nu_k04, nu_k05, nu_k10, nu_k12, nu_k13, nu_k14, nu_k15, nu_k20, nu_k21, nu_k23, nu_k24, nu_k25, nu_k30, nu_k31, nu_k32, nu_k34, nu_k35, nu_k40, nu_k41, nu_k42, nu_k43, nu_k45, nu_k50, nu_k51, nu_k52, nu_k53, nu_k54, nu_a1, nu_b1, nu_c1, nu_d1, nu_e1, nu_f1, nu_g1, nu_h1, nu_a2, nu_b2, nu_c2, nu_d2, nu_e2, nu_f2, nu_g2, nu_h2, nu_a3, nu_b3, nu_c3, nu_d3, nu_e3, nu_f3, nu_g3, nu_h3, nu_a4, nu_b4, nu_c4, nu_d4, nu_e4, nu_f4, nu_g4, nu_h4, nu_a5, nu_b5, nu_c5, nu_d5, nu_e5, nu_f5, nu_g5, nu_h5, nu_a6, nu_b6, nu_c6, nu_d6, nu_e6, nu_f6, nu_g6, nu_h6, nu_a7, nu_b7, nu_c7, nu_d7, nu_e7, nu_f7, nu_g7, nu_h7, nu_a16, nu_b16, nu_c16, nu_d16, nu_e16, nu_f16, nu_g16, nu_h16, nu_neg, nu_pos, wX_merge_132, q, e, nu_01, nu_40, nu_30, nu_20, nu_160, Int32.add_zero, Nat.reduceAdd, nu_m16, nu_16m, nu_m4, nu_4m, nu_m3, nu_3m, nu_m2, nu_2m, nI_1, nu_p2, nu_p3, nu_16p, nu_2p, nI_add, nu_cl, nu_in, Nat.add_zero, nu_l0, nu_l1, nu_l2, nu_l3, nu_l4, nu_i0_5, nu_i1_5, nu_i2_5, nu_i0_3, nu_i1_3, nu_i2_3, nu_n0, nu_n1, nu_na0, nu_na1, forall_eq, true_implies, false_implies, implies_true, not_true_eq_false, not_false_eq_true, and_true, true_and, and_self, true_or, or_true, false_or, or_false, false_and, and_false, eq_self]
            exact gX post hp
          · simp (disch := omega) only [wpY_merge, wpY_in, vy_err, h, f, nu_eq, nu_k01, nu_k02, nu_k03, nu_k04, nu_k05, nu_k10, nu_k12, nu_k13, nu_k14, nu_k15, nu_k20, nu_k21, nu_k23, nu_k24, nu_k25, nu_k30, nu_k31, nu_k32, nu_k34, nu_k35, nu_k40, nu_k41, nu_k42, nu_k43, nu_k45, nu_k50, nu_k51, nu_k52, nu_k53, nu_k54, nu_a1, nu_b1, nu_c1, nu_d1, nu_e1, nu_f1, nu_g1, nu_h1, nu_a2, nu_b2, nu_c2, nu_d2, nu_e2, nu_f2, nu_g2, nu_h2, nu_a3, nu_b3, nu_c3, nu_d3, nu_e3, nu_f3, nu_g3, nu_h3, nu_a4, nu_b4, nu_c4, nu_d4, nu_e4, nu_f4, nu_g4, nu_h4, nu_a5, nu_b5, nu_c5, nu_d5, nu_e5, nu_f5, nu_g5, nu_h5, nu_a6, nu_b6, nu_c6, nu_d6, nu_e6, nu_f6, nu_g6, nu_h6, nu_a7, nu_b7, nu_c7, nu_d7, nu_e7, nu_f7, nu_g7, nu_h7, nu_a16, nu_b16, nu_c16, nu_d16, nu_e16, nu_f16, nu_g16, nu_h16, nu_neg, nu_pos, wY_merge_122, wY_merge_127, wY_merge_148, q, e, nu_01, nu_40, nu_30, nu_20, nu_160, Int32.add_zero, Nat.reduceAdd, nu_m16, nu_16m, nu_m4, nu_4m, nu_m3, nu_3m, nu_m2, nu_2m, nI_1, nu_p2, nu_p3, nu_16p, nu_2p, nI_add, nu_cl, nu_in, Nat.add_zero, nu_l0, nu_l1, nu_l2, nu_l3, nu_l4, nu_i0_5, nu_i1_5, nu_i2_5, nu_i0_3, nu_i1_3, nu_i2_3, nu_n0, nu_n1, nu_na0, nu_na1, forall_eq, true_implies, false_implies, implies_true, not_true_eq_false, not_false_eq_true, and_true, true_and, and_self, true_or, or_true, false_or, or_false, false_and, and_false, eq_self]
            exact gY post hp
        · obtain ⟨r, u, v, I, gX, gY⟩ := me_170 (cc := cc) (rq := rq) (ct := ct) (fr := fr) (lf := lf) (cr := cr) (rr := rr) (yl := yl) (la := la) (od := od) hn hm R hP hE hF hEF f0 f3
          refine ⟨r, u, v, I, fun post hp => ?_, fun post hp => ?_⟩
          · simp (disch := omega) only [wpX_merge, wX_merge_76, wX_merge_81, vx_err, h, f, nu_eq, nu_k01, nu_k02, nu_k03, nu_k04, nu_k05, nu_k10, nu_k12, nu_k13, nu_k14, nu_k15, nu_k20, nu_k21, nu_k23, nu_k24, nu_k25, nu_k30, nu_k31, nu_k32, nu_k34, nu_k35, nu_k40, nu_k41, nu_k42, nu_k43, nu_k45, nu_k50, nu_k51, nu_k52, nu_k53, nu_k54, nu_a1, nu_b1, nu_c1, nu_d1, nu_e1, nu_f1, nu_g1, nu_h1, nu_a2, nu_b2, nu_c2, nu_d2, nu_e2, nu_f2, nu_g2, nu_h2, nu_a3, nu_b3, nu_c3, nu_d3, nu_e3, nu_f3, nu_g3, nu_h3, nu_a4, nu_b4, nu_c4, nu_d4, nu_e4, nu_f4, nu_g4, nu_h4, nu_a5, nu_b5, nu_c5, nu_d5, nu_e5, nu_f5, nu_g5, nu_h5, nu_a6, nu_b6, nu_c6, nu_d6, nu_e6, nu_f6, nu_g6, nu_h6, nu_a7, nu_b7, nu_c7, nu_d7, nu_e7, nu_f7, nu_g7, nu_h7, nu_a16, nu_b16, nu_c16, nu_d16, nu_e16, nu_f16, nu_g16, nu_h16, nu_neg, nu_pos, wX_merge_132, q, e, nu_01, nu_40, nu_30, nu_20, nu_160, Int32.add_zero, Nat.reduceAdd, nu_m16, nu_16m, nu_m4, nu_4m, nu_m3, nu_3m, nu_m2, nu_2m, nI_1, nu_p2, nu_p3, nu_16p, nu_2p, nI_add, nu_cl, nu_in, Nat.add_zero, nu_l0, nu_l1, nu_l2, nu_l3, nu_l4, nu_i0_5, nu_i1_5, nu_i2_5, nu_i0_3, nu_i1_3, nu_i2_3, nu_n0, nu_n1, nu_na0, nu_na1, forall_eq, true_implies, false_implies, implies_true, not_true_eq_false, not_false_eq_true, and_true, true_and, and_self, true_or, or_true, false_or, or_false, false_and, and_false, eq_self]
            exact gX post hp
          · simp (disch := omega) only [wpY_merge, wpY_in, vy_err, h, f, nu_eq, nu_k01, nu_k02, nu_k03, nu_k04, nu_k05, nu_k10, nu_k12, nu_k13, nu_k14, nu_k15, nu_k20, nu_k21, nu_k23, nu_k24, nu_k25, nu_k30, nu_k31, nu_k32, nu_k34, nu_k35, nu_k40, nu_k41, nu_k42, nu_k43, nu_k45, nu_k50, nu_k51, nu_k52, nu_k53, nu_k54, nu_a1, nu_b1, nu_c1, nu_d1, nu_e1, nu_f1, nu_g1, nu_h1, nu_a2, nu_b2, nu_c2, nu_d2, nu_e2, nu_f2, nu_g2, nu_h2, nu_a3, nu_b3, nu_c3, nu_d3, nu_e3, nu_f3, nu_g3, nu_h3, nu_a4, nu_b4, nu_c4, nu_d4, nu_e4, nu_f4, nu_g4, nu_h4, nu_a5, nu_b5, nu_c5, nu_d5, nu_e5, nu_f5, nu_g5, nu_h5, nu_a6, nu_b6, nu_c6, nu_d6, nu_e6, nu_f6, nu_g6, nu_h6, nu_a7, nu_b7, nu_c7, nu_d7, nu_e7, nu_f7, nu_g7, nu_h7, nu_a16, nu_b16, nu_c16, nu_d16, nu_e16, nu_f16, nu_g16, nu_h16, nu_neg, nu_pos, wY_merge_122, wY_merge_127, wY_merge_148, q, e, nu_01, nu_40, nu_30, nu_20, nu_160, Int32.add_zero, Nat.reduceAdd, nu_m16, nu_16m, nu_m4, nu_4m, nu_m3, nu_3m, nu_m2, nu_2m, nI_1, nu_p2, nu_p3, nu_16p, nu_2p, nI_add, nu_cl, nu_in, Nat.add_zero, nu_l0, nu_l1, nu_l2, nu_l3, nu_l4, nu_i0_5, nu_i1_5, nu_i2_5, nu_i0_3, nu_i1_3, nu_i2_3, nu_n0, nu_n1, nu_na0, nu_na1, forall_eq, true_implies, false_implies, implies_true, not_true_eq_false, not_false_eq_true, and_true, true_and, and_self, true_or, or_true, false_or, or_false, false_and, and_false, eq_self]
            exact gY post hp
        · obtain ⟨b, ct', ch', st', en', sn', nw', bf', ve', hb, R', h1, h2, hX, hY⟩ := al_S (nI n) (nI m) cc rq ct sk sr fr lf cr rr yl la od sm hs hk R
          rcases hb with rfl | rfl
          · have z := h2 rfl
            subst z
            obtain ⟨r, u, v, I, gX, gY⟩ := me_new (cc := cc) (rq := rq) (ct := ct') (fr := fr) (lf := lf) (cr := cr) (rr := rr) (yl := yl) (la := la) (od := od) hn hm R' hP hE hF hEF f0 f3 (by rw [f]; decide)
            refine ⟨r, u, v, I, fun post hp => ?_, fun post hp => ?_⟩
            · simp (disch := omega) only [wpX_merge, wX_merge_76, wX_merge_81, vx_err, h, f, nu_eq, nu_k01, nu_k02, nu_k03, nu_k04, nu_k05, nu_k10, nu_k12, nu_k13, nu_k14, nu_k15, nu_k20, nu_k21, nu_k23, nu_k24, nu_k25, nu_k30, nu_k31, nu_k32, nu_k34, nu_k35, nu_k40, nu_k41, nu_k42, nu_k43, nu_k45, nu_k50, nu_k51, nu_k52, nu_k53, nu_k54, nu_a1, nu_b1, nu_c1, nu_d1, nu_e1, nu_f1, nu_g1, nu_h1, nu_a2, nu_b2, nu_c2, nu_d2, nu_e2, nu_f2, nu_g2, nu_h2, nu_a3, nu_b3, nu_c3, nu_d3, nu_e3, nu_f3, nu_g3, nu_h3, nu_a4, nu_b4, nu_c4, nu_d4, nu_e4, nu_f4, nu_g4, nu_h4, nu_a5, nu_b5, nu_c5, nu_d5, nu_e5, nu_f5, nu_g5, nu_h5, nu_a6, nu_b6, nu_c6, nu_d6, nu_e6, nu_f6, nu_g6, nu_h6, nu_a7, nu_b7, nu_c7, nu_d7, nu_e7, nu_f7, nu_g7, nu_h7, nu_a16, nu_b16, nu_c16, nu_d16, nu_e16, nu_f16, nu_g16, nu_h16, nu_neg, nu_pos, wX_merge_127, wX_merge_132, q, e, nu_01, nu_40, nu_30, nu_20, nu_160, Int32.add_zero, Nat.reduceAdd, nu_m16, nu_16m, nu_m4, nu_4m, nu_m3, nu_3m, nu_m2, nu_2m, nI_1, nu_p2, nu_p3, nu_16p, nu_2p, nI_add, nu_cl, nu_in, Nat.add_zero, nu_l0, nu_l1, nu_l2, nu_l3, nu_l4, nu_i0_5, nu_i1_5, nu_i2_5, nu_i0_3, nu_i1_3, nu_i2_3, nu_n0, nu_n1, nu_na0, nu_na1, forall_eq, true_implies, false_implies, implies_true, not_true_eq_false, not_false_eq_true, and_true, true_and, and_self, true_or, or_true, false_or, or_false, false_and, and_false, eq_self]
              refine hX _ ?_
              simp (disch := omega) only [f, nu_k01, nu_k02, nu_k03, nu_k04, nu_k05, nu_k10, nu_k12, nu_k13, nu_k14, nu_k15, nu_k20, nu_k21, nu_k23, nu_k24, nu_k25, nu_k30, nu_k31, nu_k32, nu_k34, nu_k35, nu_k40, nu_k41, nu_k42, nu_k43, nu_k45, nu_k50, nu_k51, nu_k52, nu_k53, nu_k54, nu_01, nu_40, nu_30, nu_20, nu_160, Int32.add_zero, Nat.reduceAdd, nu_m16, nu_16m, nu_m4, nu_4m, nu_m3, nu_3m, nu_m2, nu_2m, nI_1, nu_p2, nu_p3, nu_16p, nu_2p, nI_add, nu_cl, nu_in, Nat.add_zero, nu_l0, nu_l1, nu_l2, nu_l3, nu_l4, nu_i0_5, nu_i1_5, nu_i2_5, nu_i0_3, nu_i1_3, nu_i2_3, nu_n0, nu_n1, nu_na0, nu_na1, forall_eq, true_implies, false_implies, implies_true, not_true_eq_false, not_false_eq_true, and_true, true_and, and_self, true_or, or_true, false_or, or_false, false_and, and_false, eq_self]
              exact gX post hp
            · simp (disch := omega) only [wpY_merge, wpY_in, vy_err, h, f, nu_eq, nu_k01, nu_k02, nu_k03, nu_k04, nu_k05, nu_k10, nu_k12, nu_k13, nu_k14, nu_k15, nu_k20, nu_k21, nu_k23, nu_k24, nu_k25, nu_k30, nu_k31, nu_k32, nu_k34, nu_k35, nu_k40, nu_k41, nu_k42, nu_k43, nu_k45, nu_k50, nu_k51, nu_k52, nu_k53, nu_k54, nu_a1, nu_b1, nu_c1, nu_d1, nu_e1, nu_f1, nu_g1, nu_h1, nu_a2, nu_b2, nu_c2, nu_d2, nu_e2, nu_f2, nu_g2, nu_h2, nu_a3, nu_b3, nu_c3, nu_d3, nu_e3, nu_f3, nu_g3, nu_h3, nu_a4, nu_b4, nu_c4, nu_d4, nu_e4, nu_f4, nu_g4, nu_h4, nu_a5, nu_b5, nu_c5, nu_d5, nu_e5, nu_f5, nu_g5, nu_h5, nu_a6, nu_b6, nu_c6, nu_d6, nu_e6, nu_f6, nu_g6, nu_h6, nu_a7, nu_b7, nu_c7, nu_d7, nu_e7, nu_f7, nu_g7, nu_h7, nu_a16, nu_b16, nu_c16, nu_d16, nu_e16, nu_f16, nu_g16, nu_h16, nu_neg, nu_pos, wY_merge_113, q, e, nu_01, nu_40, nu_30, nu_20, nu_160, Int32.add_zero, Nat.reduceAdd, nu_m16, nu_16m, nu_m4, nu_4m, nu_m3, nu_3m, nu_m2, nu_2m, nI_1, nu_p2, nu_p3, nu_16p, nu_2p, nI_add, nu_cl, nu_in, Nat.add_zero, nu_l0, nu_l1, nu_l2, nu_l3, nu_l4, nu_i0_5, nu_i1_5, nu_i2_5, nu_i0_3, nu_i1_3, nu_i2_3, nu_n0, nu_n1, nu_na0, nu_na1, forall_eq, true_implies, false_implies, implies_true, not_true_eq_false, not_false_eq_true, and_true, true_and, and_self, true_or, or_true, false_or, or_false, false_and, and_false, eq_self]
              refine hY _ ?_
              simp (disch := omega) only [wY_merge_127, f, nu_k01, nu_k02, nu_k03, nu_k04, nu_k05, nu_k10, nu_k12, nu_k13, nu_k14, nu_k15, nu_k20, nu_k21, nu_k23, nu_k24, nu_k25, nu_k30, nu_k31, nu_k32, nu_k34, nu_k35, nu_k40, nu_k41, nu_k42, nu_k43, nu_k45, nu_k50, nu_k51, nu_k52, nu_k53, nu_k54, nu_01, nu_40, nu_30, nu_20, nu_160, Int32.add_zero, Nat.reduceAdd, nu_m16, nu_16m, nu_m4, nu_4m, nu_m3, nu_3m, nu_m2, nu_2m, nI_1, nu_p2, nu_p3, nu_16p, nu_2p, nI_add, nu_cl, nu_in, Nat.add_zero, nu_l0, nu_l1, nu_l2, nu_l3, nu_l4, nu_i0_5, nu_i1_5, nu_i2_5, nu_i0_3, nu_i1_3, nu_i2_3, nu_n0, nu_n1, nu_na0, nu_na1, forall_eq, true_implies, false_implies, implies_true, not_true_eq_false, not_false_eq_true, and_true, true_and, and_self, true_or, or_true, false_or, or_false, false_and, and_false, eq_self]
              exact gY post hp
          · have z := h1 rfl
            have f0' : ¬ st' (16 * t + k) = 0 := by rw [z, pk_un (by omega)]; exact f0
            have f3' : ¬ st' (16 * t + k) = 3 := by rw [z, pk_un (by omega)]; exact f3
            obtain ⟨r, u, v, I, gX, gY⟩ := me_170 (cc := cc) (rq := rq) (ct := ct') (fr := fr) (lf := lf) (cr := cr) (rr := rr) (yl := yl) (la := la) (od := od) hn hm R' hP hE hF hEF f0' f3'
            refine ⟨r, u, v, I, fun post hp => ?_, fun post hp => ?_⟩
            · simp (disch := omega) only [wpX_merge, wX_merge_76, wX_merge_81, vx_err, h, f, nu_eq, nu_k01, nu_k02, nu_k03, nu_k04, nu_k05, nu_k10, nu_k12, nu_k13, nu_k14, nu_k15, nu_k20, nu_k21, nu_k23, nu_k24, nu_k25, nu_k30, nu_k31, nu_k32, nu_k34, nu_k35, nu_k40, nu_k41, nu_k42, nu_k43, nu_k45, nu_k50, nu_k51, nu_k52, nu_k53, nu_k54, nu_a1, nu_b1, nu_c1, nu_d1, nu_e1, nu_f1, nu_g1, nu_h1, nu_a2, nu_b2, nu_c2, nu_d2, nu_e2, nu_f2, nu_g2, nu_h2, nu_a3, nu_b3, nu_c3, nu_d3, nu_e3, nu_f3, nu_g3, nu_h3, nu_a4, nu_b4, nu_c4, nu_d4, nu_e4, nu_f4, nu_g4, nu_h4, nu_a5, nu_b5, nu_c5, nu_d5, nu_e5, nu_f5, nu_g5, nu_h5, nu_a6, nu_b6, nu_c6, nu_d6, nu_e6, nu_f6, nu_g6, nu_h6, nu_a7, nu_b7, nu_c7, nu_d7, nu_e7, nu_f7, nu_g7, nu_h7, nu_a16, nu_b16, nu_c16, nu_d16, nu_e16, nu_f16, nu_g16, nu_h16, nu_neg, nu_pos, wX_merge_127, wX_merge_132, q, e, nu_01, nu_40, nu_30, nu_20, nu_160, Int32.add_zero, Nat.reduceAdd, nu_m16, nu_16m, nu_m4, nu_4m, nu_m3, nu_3m, nu_m2, nu_2m, nI_1, nu_p2, nu_p3, nu_16p, nu_2p, nI_add, nu_cl, nu_in, Nat.add_zero, nu_l0, nu_l1, nu_l2, nu_l3, nu_l4, nu_i0_5, nu_i1_5, nu_i2_5, nu_i0_3, nu_i1_3, nu_i2_3, nu_n0, nu_n1, nu_na0, nu_na1, forall_eq, true_implies, false_implies, implies_true, not_true_eq_false, not_false_eq_true, and_true, true_and, and_self, true_or, or_true, false_or, or_false, false_and, and_false, eq_self]
              refine hX _ ?_
              simp (disch := omega) only [nu_k10, forall_eq, true_implies, false_implies, implies_true, not_true_eq_false, not_false_eq_true, and_true, true_and, and_self, true_or, or_true, false_or, or_false, false_and, and_false, eq_self]
              exact gX post hp
            · simp (disch := omega) only [wpY_merge, wpY_in, vy_err, h, f, nu_eq, nu_k01, nu_k02, nu_k03, nu_k04, nu_k05, nu_k10, nu_k12, nu_k13, nu_k14, nu_k15, nu_k20, nu_k21, nu_k23, nu_k24, nu_k25, nu_k30, nu_k31, nu_k32, nu_k34, nu_k35, nu_k40, nu_k41, nu_k42, nu_k43, nu_k45, nu_k50, nu_k51, nu_k52, nu_k53, nu_k54, nu_a1, nu_b1, nu_c1, nu_d1, nu_e1, nu_f1, nu_g1, nu_h1, nu_a2, nu_b2, nu_c2, nu_d2, nu_e2, nu_f2, nu_g2, nu_h2, nu_a3, nu_b3, nu_c3, nu_d3, nu_e3, nu_f3, nu_g3, nu_h3, nu_a4, nu_b4, nu_c4, nu_d4, nu_e4, nu_f4, nu_g4, nu_h4, nu_a5, nu_b5, nu_c5, nu_d5, nu_e5, nu_f5, nu_g5, nu_h5, nu_a6, nu_b6, nu_c6, nu_d6, nu_e6, nu_f6, nu_g6, nu_h6, nu_a7, nu_b7, nu_c7, nu_d7, nu_e7, nu_f7, nu_g7, nu_h7, nu_a16, nu_b16, nu_c16, nu_d16, nu_e16, nu_f16, nu_g16, nu_h16, nu_neg, nu_pos, wY_merge_113, q, e, nu_01, nu_40, nu_30, nu_20, nu_160, Int32.add_zero, Nat.reduceAdd, nu_m16, nu_16m, nu_m4, nu_4m, nu_m3, nu_3m, nu_m2, nu_2m, nI_1, nu_p2, nu_p3, nu_16p, nu_2p, nI_add, nu_cl, nu_in, Nat.add_zero, nu_l0, nu_l1, nu_l2, nu_l3, nu_l4, nu_i0_5, nu_i1_5, nu_i2_5, nu_i0_3, nu_i1_3, nu_i2_3, nu_n0, nu_n1, nu_na0, nu_na1, forall_eq, true_implies, false_implies, implies_true, not_true_eq_false, not_false_eq_true, and_true, true_and, and_self, true_or, or_true, false_or, or_false, false_and, and_false, eq_self]
              refine hY _ ?_
              simp (disch := omega) only [wY_merge_122, wY_merge_127, wY_merge_148, nu_k10, forall_eq, true_implies, false_implies, implies_true, not_true_eq_false, not_false_eq_true, and_true, true_and, and_self, true_or, or_true, false_or, or_false, false_and, and_false, eq_self]
              exact gY post hp
        · obtain ⟨r, u, v, I, gX, gY⟩ := me_170 (cc := cc) (rq := rq) (ct := ct) (fr := fr) (lf := lf) (cr := cr) (rr := rr) (yl := yl) (la := la) (od := od) hn hm R hP hE hF hEF f0 f3
          refine ⟨r, u, v, I, fun post hp => ?_, fun post hp => ?_⟩
          · simp (disch := omega) only [wpX_merge, wX_merge_76, wX_merge_81, vx_err, h, f, nu_eq, nu_k01, nu_k02, nu_k03, nu_k04, nu_k05, nu_k10, nu_k12, nu_k13, nu_k14, nu_k15, nu_k20, nu_k21, nu_k23, nu_k24, nu_k25, nu_k30, nu_k31, nu_k32, nu_k34, nu_k35, nu_k40, nu_k41, nu_k42, nu_k43, nu_k45, nu_k50, nu_k51, nu_k52, nu_k53, nu_k54, nu_a1, nu_b1, nu_c1, nu_d1, nu_e1, nu_f1, nu_g1, nu_h1, nu_a2, nu_b2, nu_c2, nu_d2, nu_e2, nu_f2, nu_g2, nu_h2, nu_a3, nu_b3, nu_c3, nu_d3, nu_e3, nu_f3, nu_g3, nu_h3, nu_a4, nu_b4, nu_c4, nu_d4, nu_e4, nu_f4, nu_g4, nu_h4, nu_a5, nu_b5, nu_c5, nu_d5, nu_e5, nu_f5, nu_g5, nu_h5, nu_a6, nu_b6, nu_c6, nu_d6, nu_e6, nu_f6, nu_g6, nu_h6, nu_a7, nu_b7, nu_c7, nu_d7, nu_e7, nu_f7, nu_g7, nu_h7, nu_a16, nu_b16, nu_c16, nu_d16, nu_e16, nu_f16, nu_g16, nu_h16, nu_neg, nu_pos, wX_merge_132, q, e, nu_01, nu_40, nu_30, nu_20, nu_160, Int32.add_zero, Nat.reduceAdd, nu_m16, nu_16m, nu_m4, nu_4m, nu_m3, nu_3m, nu_m2, nu_2m, nI_1, nu_p2, nu_p3, nu_16p, nu_2p, nI_add, nu_cl, nu_in, Nat.add_zero, nu_l0, nu_l1, nu_l2, nu_l3, nu_l4, nu_i0_5, nu_i1_5, nu_i2_5, nu_i0_3, nu_i1_3, nu_i2_3, nu_n0, nu_n1, nu_na0, nu_na1, forall_eq, true_implies, false_implies, implies_true, not_true_eq_false, not_false_eq_true, and_true, true_and, and_self, true_or, or_true, false_or, or_false, false_and, and_false, eq_self]
            exact gX post hp
          · simp (disch := omega) only [wpY_merge, wpY_in, vy_err, h, f, nu_eq, nu_k01, nu_k02, nu_k03, nu_k04, nu_k05, nu_k10, nu_k12, nu_k13, nu_k14, nu_k15, nu_k20, nu_k21, nu_k23, nu_k24, nu_k25, nu_k30, nu_k31, nu_k32, nu_k34, nu_k35, nu_k40, nu_k41, nu_k42, nu_k43, nu_k45, nu_k50, nu_k51, nu_k52, nu_k53, nu_k54, nu_a1, nu_b1, nu_c1, nu_d1, nu_e1, nu_f1, nu_g1, nu_h1, nu_a2, nu_b2, nu_c2, nu_d2, nu_e2, nu_f2, nu_g2, nu_h2, nu_a3, nu_b3, nu_c3, nu_d3, nu_e3, nu_f3, nu_g3, nu_h3, nu_a4, nu_b4, nu_c4, nu_d4, nu_e4, nu_f4, nu_g4, nu_h4, nu_a5, nu_b5, nu_c5, nu_d5, nu_e5, nu_f5, nu_g5, nu_h5, nu_a6, nu_b6, nu_c6, nu_d6, nu_e6, nu_f6, nu_g6, nu_h6, nu_a7, nu_b7, nu_c7, nu_d7, nu_e7, nu_f7, nu_g7, nu_h7, nu_a16, nu_b16, nu_c16, nu_d16, nu_e16, nu_f16, nu_g16, nu_h16, nu_neg, nu_pos, wY_merge_122, wY_merge_127, wY_merge_148, q, e, nu_01, nu_40, nu_30, nu_20, nu_160, Int32.add_zero, Nat.reduceAdd, nu_m16, nu_16m, nu_m4, nu_4m, nu_m3, nu_3m, nu_m2, nu_2m, nI_1, nu_p2, nu_p3, nu_16p, nu_2p, nI_add, nu_cl, nu_in, Nat.add_zero, nu_l0, nu_l1, nu_l2, nu_l3, nu_l4, nu_i0_5, nu_i1_5, nu_i2_5, nu_i0_3, nu_i1_3, nu_i2_3, nu_n0, nu_n1, nu_na0, nu_na1, forall_eq, true_implies, false_implies, implies_true, not_true_eq_false, not_false_eq_true, and_true, true_and, and_self, true_or, or_true, false_or, or_false, false_and, and_false, eq_self]
            exact gY post hp
        · refine ⟨(-1), (nI n, nI m, cc, rq, md, bk, ct, rt, rc, lk, wt, wc, ch, st, en, sn, sk, sr, fr, lf, cr, rr), (nI n, nI m, th, ch, ro, lk, st, nw, bf, ve, bk, md, yl, la, od, sm, fr, ct), ir_mk hn hm (R) hP, fun post hp => ?_, fun post hp => ?_⟩
          · simp (disch := omega) only [wpX_merge, wX_merge_76, wX_merge_81, vx_err, h, f, nu_eq, nu_k01, nu_k02, nu_k03, nu_k04, nu_k05, nu_k10, nu_k12, nu_k13, nu_k14, nu_k15, nu_k20, nu_k21, nu_k23, nu_k24, nu_k25, nu_k30, nu_k31, nu_k32, nu_k34, nu_k35, nu_k40, nu_k41, nu_k42, nu_k43, nu_k45, nu_k50, nu_k51, nu_k52, nu_k53, nu_k54, nu_a1, nu_b1, nu_c1, nu_d1, nu_e1, nu_f1, nu_g1, nu_h1, nu_a2, nu_b2, nu_c2, nu_d2, nu_e2, nu_f2, nu_g2, nu_h2, nu_a3, nu_b3, nu_c3, nu_d3, nu_e3, nu_f3, nu_g3, nu_h3, nu_a4, nu_b4, nu_c4, nu_d4, nu_e4, nu_f4, nu_g4, nu_h4, nu_a5, nu_b5, nu_c5, nu_d5, nu_e5, nu_f5, nu_g5, nu_h5, nu_a6, nu_b6, nu_c6, nu_d6, nu_e6, nu_f6, nu_g6, nu_h6, nu_a7, nu_b7, nu_c7, nu_d7, nu_e7, nu_f7, nu_g7, nu_h7, nu_a16, nu_b16, nu_c16, nu_d16, nu_e16, nu_f16, nu_g16, nu_h16, nu_neg, nu_pos, q, e, nu_01, nu_40, nu_30, nu_20, nu_160, Int32.add_zero, Nat.reduceAdd, nu_m16, nu_16m, nu_m4, nu_4m, nu_m3, nu_3m, nu_m2, nu_2m, nI_1, nu_p2, nu_p3, nu_16p, nu_2p, nI_add, nu_cl, nu_in, Nat.add_zero, nu_l0, nu_l1, nu_l2, nu_l3, nu_l4, nu_i0_5, nu_i1_5, nu_i2_5, nu_i0_3, nu_i1_3, nu_i2_3, nu_n0, nu_n1, nu_na0, nu_na1, forall_eq, true_implies, false_implies, implies_true, not_true_eq_false, not_false_eq_true, and_true, true_and, and_self, true_or, or_true, false_or, or_false, false_and, and_false, eq_self]
            exact hp
          · simp (disch := omega) only [wpY_merge, wpY_in, vy_err, h, f, nu_eq, nu_k01, nu_k02, nu_k03, nu_k04, nu_k05, nu_k10, nu_k12, nu_k13, nu_k14, nu_k15, nu_k20, nu_k21, nu_k23, nu_k24, nu_k25, nu_k30, nu_k31, nu_k32, nu_k34, nu_k35, nu_k40, nu_k41, nu_k42, nu_k43, nu_k45, nu_k50, nu_k51, nu_k52, nu_k53, nu_k54, nu_a1, nu_b1, nu_c1, nu_d1, nu_e1, nu_f1, nu_g1, nu_h1, nu_a2, nu_b2, nu_c2, nu_d2, nu_e2, nu_f2, nu_g2, nu_h2, nu_a3, nu_b3, nu_c3, nu_d3, nu_e3, nu_f3, nu_g3, nu_h3, nu_a4, nu_b4, nu_c4, nu_d4, nu_e4, nu_f4, nu_g4, nu_h4, nu_a5, nu_b5, nu_c5, nu_d5, nu_e5, nu_f5, nu_g5, nu_h5, nu_a6, nu_b6, nu_c6, nu_d6, nu_e6, nu_f6, nu_g6, nu_h6, nu_a7, nu_b7, nu_c7, nu_d7, nu_e7, nu_f7, nu_g7, nu_h7, nu_a16, nu_b16, nu_c16, nu_d16, nu_e16, nu_f16, nu_g16, nu_h16, nu_neg, nu_pos, q, e, nu_01, nu_40, nu_30, nu_20, nu_160, Int32.add_zero, Nat.reduceAdd, nu_m16, nu_16m, nu_m4, nu_4m, nu_m3, nu_3m, nu_m2, nu_2m, nI_1, nu_p2, nu_p3, nu_16p, nu_2p, nI_add, nu_cl, nu_in, Nat.add_zero, nu_l0, nu_l1, nu_l2, nu_l3, nu_l4, nu_i0_5, nu_i1_5, nu_i2_5, nu_i0_3, nu_i1_3, nu_i2_3, nu_n0, nu_n1, nu_na0, nu_na1, forall_eq, true_implies, false_implies, implies_true, not_true_eq_false, not_false_eq_true, and_true, true_and, and_self, true_or, or_true, false_or, or_false, false_and, and_false, eq_self]
            exact hp
    · by_cases q : s = t
      · subst q
        refine ⟨(-1), (nI n, nI m, cc, rq, md, bk, ct, rt, rc, lk, wt, wc, ch, st, en, sn, sk, sr, fr, lf, cr, rr), (nI n, nI m, th, ch, ro, lk, st, nw, bf, ve, bk, md, yl, la, od, sm, fr, ct), ir_mk hn hm (R) hP, fun post hp => ?_, fun post hp => ?_⟩
        · simp (disch := omega) only [wpX_merge, wX_merge_76, wX_merge_81, vx_err, h, f, nu_eq, nu_k01, nu_k02, nu_k03, nu_k04, nu_k05, nu_k10, nu_k12, nu_k13, nu_k14, nu_k15, nu_k20, nu_k21, nu_k23, nu_k24, nu_k25, nu_k30, nu_k31, nu_k32, nu_k34, nu_k35, nu_k40, nu_k41, nu_k42, nu_k43, nu_k45, nu_k50, nu_k51, nu_k52, nu_k53, nu_k54, nu_a1, nu_b1, nu_c1, nu_d1, nu_e1, nu_f1, nu_g1, nu_h1, nu_a2, nu_b2, nu_c2, nu_d2, nu_e2, nu_f2, nu_g2, nu_h2, nu_a3, nu_b3, nu_c3, nu_d3, nu_e3, nu_f3, nu_g3, nu_h3, nu_a4, nu_b4, nu_c4, nu_d4, nu_e4, nu_f4, nu_g4, nu_h4, nu_a5, nu_b5, nu_c5, nu_d5, nu_e5, nu_f5, nu_g5, nu_h5, nu_a6, nu_b6, nu_c6, nu_d6, nu_e6, nu_f6, nu_g6, nu_h6, nu_a7, nu_b7, nu_c7, nu_d7, nu_e7, nu_f7, nu_g7, nu_h7, nu_a16, nu_b16, nu_c16, nu_d16, nu_e16, nu_f16, nu_g16, nu_h16, nu_neg, nu_pos, nu_01, nu_40, nu_30, nu_20, nu_160, Int32.add_zero, Nat.reduceAdd, nu_m16, nu_16m, nu_m4, nu_4m, nu_m3, nu_3m, nu_m2, nu_2m, nI_1, nu_p2, nu_p3, nu_16p, nu_2p, nI_add, nu_cl, nu_in, Nat.add_zero, nu_l0, nu_l1, nu_l2, nu_l3, nu_l4, nu_i0_5, nu_i1_5, nu_i2_5, nu_i0_3, nu_i1_3, nu_i2_3, nu_n0, nu_n1, nu_na0, nu_na1, forall_eq, true_implies, false_implies, implies_true, not_true_eq_false, not_false_eq_true, and_true, true_and, and_self, true_or, or_true, false_or, or_false, false_and, and_false, eq_self]
          exact hp
        · simp (disch := omega) only [wpY_merge, wpY_in, vy_err, h, f, nu_eq, nu_k01, nu_k02, nu_k03, nu_k04, nu_k05, nu_k10, nu_k12, nu_k13, nu_k14, nu_k15, nu_k20, nu_k21, nu_k23, nu_k24, nu_k25, nu_k30, nu_k31, nu_k32, nu_k34, nu_k35, nu_k40, nu_k41, nu_k42, nu_k43, nu_k45, nu_k50, nu_k51, nu_k52, nu_k53, nu_k54, nu_a1, nu_b1, nu_c1, nu_d1, nu_e1, nu_f1, nu_g1, nu_h1, nu_a2, nu_b2, nu_c2, nu_d2, nu_e2, nu_f2, nu_g2, nu_h2, nu_a3, nu_b3, nu_c3, nu_d3, nu_e3, nu_f3, nu_g3, nu_h3, nu_a4, nu_b4, nu_c4, nu_d4, nu_e4, nu_f4, nu_g4, nu_h4, nu_a5, nu_b5, nu_c5, nu_d5, nu_e5, nu_f5, nu_g5, nu_h5, nu_a6, nu_b6, nu_c6, nu_d6, nu_e6, nu_f6, nu_g6, nu_h6, nu_a7, nu_b7, nu_c7, nu_d7, nu_e7, nu_f7, nu_g7, nu_h7, nu_a16, nu_b16, nu_c16, nu_d16, nu_e16, nu_f16, nu_g16, nu_h16, nu_neg, nu_pos, nu_01, nu_40, nu_30, nu_20, nu_160, Int32.add_zero, Nat.reduceAdd, nu_m16, nu_16m, nu_m4, nu_4m, nu_m3, nu_3m, nu_m2, nu_2m, nI_1, nu_p2, nu_p3, nu_16p, nu_2p, nI_add, nu_cl, nu_in, Nat.add_zero, nu_l0, nu_l1, nu_l2, nu_l3, nu_l4, nu_i0_5, nu_i1_5, nu_i2_5, nu_i0_3, nu_i1_3, nu_i2_3, nu_n0, nu_n1, nu_na0, nu_na1, forall_eq, true_implies, false_implies, implies_true, not_true_eq_false, not_false_eq_true, and_true, true_and, and_self, true_or, or_true, false_or, or_false, false_and, and_false, eq_self]
          exact hp
      · have hEF : 16 * s + k ≠ 16 * t + k := by omega
        have f0 : ¬ st (16 * t + k) = 0 := by rw [f]; decide
        have f3 : ¬ st (16 * t + k) = 3 := by rw [f]; decide
        rcases re_rK R (16 * s + k) with e | e | e | e | e | e
        · obtain ⟨b, ct', ch', st', en', sn', nw', bf', ve', hb, R', h1, h2, hX, hY⟩ := al_S (nI n) (nI m) cc rq ct sk sr fr lf cr rr yl la od sm hs hk R
          rcases hb with rfl | rfl
          · have z := h2 rfl
            subst z
            obtain ⟨r, u, v, I, gX, gY⟩ := me_new (cc := cc) (rq := rq) (ct := ct') (fr := fr) (lf := lf) (cr := cr) (rr := rr) (yl := yl) (la := la) (od := od) hn hm R' hP hE hF hEF f0 f3 (by rw [f]; decide)
            refine ⟨r, u, v, I, fun post hp => ?_, fun post hp => ?_⟩
            · simp (disch := omega) only [wpX_merge, wX_merge_76, wX_merge_81, vx_err, h, f, nu_eq, nu_k01, nu_k02, nu_k03, nu_k04, nu_k05, nu_k10, nu_k12, nu_k13, nu_k14, nu_k15, nu_k20, nu_k21, nu_k23, nu_k24, nu_k25, nu_k30, nu_k31, nu_k32, nu_k34, nu_k35, nu_k40, nu_k41, nu_k42, nu_k43, nu_k45, nu_k50, nu_k51, nu_k52, nu_k53, nu_k54, nu_a1, nu_b1, nu_c1, nu_d1, nu_e1, nu_f1, nu_g1, nu_h1, nu_a2, nu_b2, nu_c2, nu_d2, nu_e2, nu_f2, nu_g2, nu_h2, nu_a3, nu_b3, nu_c3, nu_d3, nu_e3, nu_f3, nu_g3, nu_h3, nu_a4, nu_b4, nu_c4, nu_d4, nu_e4, nu_f4, nu_g4, nu_h4, nu_a5, nu_b5, nu_c5, nu_d5, nu_e5, nu_f5, nu_g5, nu_h5, nu_a6, nu_b6, nu_c6, nu_d6, nu_e6, nu_f6, nu_g6, nu_h6, nu_a7, nu_b7, nu_c7, nu_d7, nu_e7, nu_f7, nu_g7, nu_h7, nu_a16, nu_b16, nu_c16, nu_d16, nu_e16, nu_f16, nu_g16, nu_h16, nu_neg, nu_pos, wX_merge_127, wX_merge_132, q, e, nu_01, nu_40, nu_30, nu_20, nu_160, Int32.add_zero, Nat.reduceAdd, nu_m16, nu_16m, nu_m4, nu_4m, nu_m3, nu_3m, nu_m2, nu_2m, nI_1, nu_p2, nu_p3, nu_16p, nu_2p, nI_add, nu_cl, nu_in, Nat.add_zero, nu_l0, nu_l1, nu_l2, nu_l3, nu_l4, nu_i0_5, nu_i1_5, nu_i2_5, nu_i0_3, nu_i1_3, nu_i2_3, nu_n0, nu_n1, nu_na0, nu_na1, forall_eq, true_implies, false_implies, implies_true, not_true_eq_false, not_false_eq_true, and_true, true_and, and_self, true_or, or_true, false_or, or_false, false_and, and_false, eq_self]
              refine hX _ ?_
              simp (disch := omega) only [f, nu_k01, nu_k02, nu_k03, nu_k04, nu_k05, nu_k10, nu_k12, nu_k13, nu_k14, nu_k15, nu_k20, nu_k21, nu_k23, nu_k24, nu_k25, nu_k30, nu_k31, nu_k32, nu_k34, nu_k35, nu_k40, nu_k41, nu_k42, nu_k43, nu_k45, nu_k50, nu_k51, nu_k52, nu_k53, nu_k54, nu_01, nu_40, nu_30, nu_20, nu_160, Int32.add_zero, Nat.reduceAdd, nu_m16, nu_16m, nu_m4, nu_4m, nu_m3, nu_3m, nu_m2, nu_2m, nI_1, nu_p2, nu_p3, nu_16p, nu_2p, nI_add, nu_cl, nu_in, Nat.add_zero, nu_l0, nu_l1, nu_l2, nu_l3, nu_l4, nu_i0_5, nu_i1_5, nu_i2_5, nu_i0_3, nu_i1_3, nu_i2_3, nu_n0, nu_n1, nu_na0, nu_na1, forall_eq, true_implies, false_implies, implies_true, not_true_eq_false, not_false_eq_true, and_true, true_and, and_self, true_or, or_true, false_or, or_false, false_and, and_false, eq_self]
              exact gX post hp
            · simp (disch := omega) only [wpY_merge, wpY_in, vy_err, h, f, nu_eq, nu_k01, nu_k02, nu_k03, nu_k04, nu_k05, nu_k10, nu_k12, nu_k13, nu_k14, nu_k15, nu_k20, nu_k21, nu_k23, nu_k24, nu_k25, nu_k30, nu_k31, nu_k32, nu_k34, nu_k35, nu_k40, nu_k41, nu_k42, nu_k43, nu_k45, nu_k50, nu_k51, nu_k52, nu_k53, nu_k54, nu_a1, nu_b1, nu_c1, nu_d1, nu_e1, nu_f1, nu_g1, nu_h1, nu_a2, nu_b2, nu_c2, nu_d2, nu_e2, nu_f2, nu_g2, nu_h2, nu_a3, nu_b3, nu_c3, nu_d3, nu_e3, nu_f3, nu_g3, nu_h3, nu_a4, nu_b4, nu_c4, nu_d4, nu_e4, nu_f4, nu_g4, nu_h4, nu_a5, nu_b5, nu_c5, nu_d5, nu_e5, nu_f5, nu_g5, nu_h5, nu_a6, nu_b6, nu_c6, nu_d6, nu_e6, nu_f6, nu_g6, nu_h6, nu_a7, nu_b7, nu_c7, nu_d7, nu_e7, nu_f7, nu_g7, nu_h7, nu_a16, nu_b16, nu_c16, nu_d16, nu_e16, nu_f16, nu_g16, nu_h16, nu_neg, nu_pos, wY_merge_113, q, e, nu_01, nu_40, nu_30, nu_20, nu_160, Int32.add_zero, Nat.reduceAdd, nu_m16, nu_16m, nu_m4, nu_4m, nu_m3, nu_3m, nu_m2, nu_2m, nI_1, nu_p2, nu_p3, nu_16p, nu_2p, nI_add, nu_cl, nu_in, Nat.add_zero, nu_l0, nu_l1, nu_l2, nu_l3, nu_l4, nu_i0_5, nu_i1_5, nu_i2_5, nu_i0_3, nu_i1_3, nu_i2_3, nu_n0, nu_n1, nu_na0, nu_na1, forall_eq, true_implies, false_implies, implies_true, not_true_eq_false, not_false_eq_true, and_true, true_and, and_self, true_or, or_true, false_or, or_false, false_and, and_false, eq_self]
              refine hY _ ?_
              simp (disch := omega) only [wY_merge_127, f, nu_k01, nu_k02, nu_k03, nu_k04, nu_k05, nu_k10, nu_k12, nu_k13, nu_k14, nu_k15, nu_k20, nu_k21, nu_k23, nu_k24, nu_k25, nu_k30, nu_k31, nu_k32, nu_k34, nu_k35, nu_k40, nu_k41, nu_k42, nu_k43, nu_k45, nu_k50, nu_k51, nu_k52, nu_k53, nu_k54, nu_01, nu_40, nu_30, nu_20, nu_160, Int32.add_zero, Nat.reduceAdd, nu_m16, nu_16m, nu_m4, nu_4m, nu_m3, nu_3m, nu_m2, nu_2m, nI_1, nu_p2, nu_p3, nu_16p, nu_2p, nI_add, nu_cl, nu_in, Nat.add_zero, nu_l0, nu_l1, nu_l2, nu_l3, nu_l4, nu_i0_5, nu_i1_5, nu_i2_5, nu_i0_3, nu_i1_3, nu_i2_3, nu_n0, nu_n1, nu_na0, nu_na1, forall_eq, true_implies, false_implies, implies_true, not_true_eq_false, not_false_eq_true, and_true, true_and, and_self, true_or, or_true, false_or, or_false, false_and, and_false, eq_self]
              exact gY post hp
          · have z := h1 rfl
            have f0' : ¬ st' (16 * t + k) = 0 := by rw [z, pk_un (by omega)]; exact f0
            have f3' : ¬ st' (16 * t + k) = 3 := by rw [z, pk_un (by omega)]; exact f3
            obtain ⟨r, u, v, I, gX, gY⟩ := me_170 (cc := cc) (rq := rq) (ct := ct') (fr := fr) (lf := lf) (cr := cr) (rr := rr) (yl := yl) (la := la) (od := od) hn hm R' hP hE hF hEF f0' f3'
            refine ⟨r, u, v, I, fun post hp => ?_, fun post hp => ?_⟩
            · simp (disch := omega) only [wpX_merge, wX_merge_76, wX_merge_81, vx_err, h, f, nu_eq, nu_k01, nu_k02, nu_k03, nu_k04, nu_k05, nu_k10, nu_k12, nu_k13, nu_k14, nu_k15, nu_k20, nu_k21, nu_k23, nu_k24, nu_k25, nu_k30, nu_k31, nu_k32, nu_k34, nu_k35, nu_k40, nu_k41, nu_k42, nu_k43, nu_k45, nu_k50, nu_k51, nu_k52, nu_k53, nu_k54, nu_a1, nu_b1, nu_c1, nu_d1, nu_e1, nu_f1, nu_g1, nu_h1, nu_a2, nu_b2, nu_c2, nu_d2, nu_e2, nu_f2, nu_g2, nu_h2, nu_a3, nu_b3, nu_c3, nu_d3, nu_e3, nu_f3, nu_g3, nu_h3, nu_a4, nu_b4, nu_c4, nu_d4, nu_e4, nu_f4, nu_g4, nu_h4, nu_a5, nu_b5, nu_c5, nu_d5, nu_e5, nu_f5, nu_g5, nu_h5, nu_a6, nu_b6, nu_c6, nu_d6, nu_e6, nu_f6, nu_g6, nu_h6, nu_a7, nu_b7, nu_c7, nu_d7, nu_e7, nu_f7, nu_g7, nu_h7, nu_a16, nu_b16, nu_c16, nu_d16, nu_e16, nu_f16, nu_g16, nu_h16, nu_neg, nu_pos, wX_merge_127, wX_merge_132, q, e, nu_01, nu_40, nu_30, nu_20, nu_160, Int32.add_zero, Nat.reduceAdd, nu_m16, nu_16m, nu_m4, nu_4m, nu_m3, nu_3m, nu_m2, nu_2m, nI_1, nu_p2, nu_p3, nu_16p, nu_2p, nI_add, nu_cl, nu_in, Nat.add_zero, nu_l0, nu_l1, nu_l2, nu_l3, nu_l4, nu_i0_5, nu_i1_5, nu_i2_5, nu_i0_3, nu_i1_3, nu_i2_3, nu_n0, nu_n1, nu_na0, nu_na1, forall_eq, true_implies, false_implies, implies_true, not_true_eq_false, not_false_eq_true, and_true, true_and, and_self, true_or, or_true, false_or, or_false, false_and, and_false, eq_self]
              refine hX _ ?_
              simp (disch := omega) only [nu_k10, forall_eq, true_implies, false_implies, implies_true, not_true_eq_false, not_false_eq_true, and_true, true_and, and_self, true_or, or_true, false_or, or_false, false_and, and_false, eq_self]
              exact gX post hp
            · simp (disch := omega) only [wpY_merge, wpY_in, vy_err, h, f, nu_eq, nu_k01, nu_k02, nu_k03, nu_k04, nu_k05, nu_k10, nu_k12, nu_k13, nu_k14, nu_k15, nu_k20, nu_k21, nu_k23, nu_k24, nu_k25, nu_k30, nu_k31, nu_k32, nu_k34, nu_k35, nu_k40, nu_k41, nu_k42, nu_k43, nu_k45, nu_k50, nu_k51, nu_k52, nu_k53, nu_k54, nu_a1, nu_b1, nu_c1, nu_d1, nu_e1, nu_f1, nu_g1, nu_h1, nu_a2, nu_b2, nu_c2, nu_d2, nu_e2, nu_f2, nu_g2, nu_h2, nu_a3, nu_b3, nu_c3, nu_d3, nu_e3, nu_f3, nu_g3, nu_h3, nu_a4, nu_b4, nu_c4, nu_d4, nu_e4, nu_f4, nu_g4, nu_h4, nu_a5, nu_b5, nu_c5, nu_d5, nu_e5, nu_f5, nu_g5, nu_h5, nu_a6, nu_b6, nu_c6, nu_d6, nu_e6, nu_f6, nu_g6, nu_h6, nu_a7, nu_b7, nu_c7, nu_d7, nu_e7, nu_f7, nu_g7, nu_h7, nu_a16, nu_b16, nu_c16, nu_d16, nu_e16, nu_f16, nu_g16, nu_h16, nu_neg, nu_pos, wY_merge_113, q, e, nu_01, nu_40, nu_30, nu_20, nu_160, Int32.add_zero, Nat.reduceAdd, nu_m16, nu_16m, nu_m4, nu_4m, nu_m3, nu_3m, nu_m2, nu_2m, nI_1, nu_p2, nu_p3, nu_16p, nu_2p, nI_add, nu_cl, nu_in, Nat.add_zero, nu_l0, nu_l1, nu_l2, nu_l3, nu_l4, nu_i0_5, nu_i1_5, nu_i2_5, nu_i0_3, nu_i1_3, nu_i2_3, nu_n0, nu_n1, nu_na0, nu_na1, forall_eq, true_implies, false_implies, implies_true, not_true_eq_false, not_false_eq_true, and_true, true_and, and_self, true_or, or_true, false_or, or_false, false_and, and_false, eq_self]
              refine hY _ ?_
              simp (disch := omega) only [wY_merge_122, wY_merge_127, wY_merge_148, nu_k10, forall_eq, true_implies, false_implies, implies_true, not_true_eq_false, not_false_eq_true, and_true, true_and, and_self, true_or, or_true, false_or, or_false, false_and, and_false, eq_self]
              exact gY post hp
        · obtain ⟨r, u, v, I, gX, gY⟩ := me_170 (cc := cc) (rq := rq) (ct := ct) (fr := fr) (lf := lf) (cr := cr) (rr := rr) (yl := yl) (la := la) (od := od) hn hm R hP hE hF hEF f0 f3
          refine ⟨r, u, v, I, fun post hp => ?_, fun post hp => ?_⟩
          · simp (disch := omega) only [wpX_merge, wX_merge_76, wX_merge_81, vx_err, h, f, nu_eq, nu_k01, nu_k02, nu_k03, nu_k04, nu_k05, nu_k10, nu_k12, nu_k13, nu_k14, nu_k15, nu_k20, nu_k21, nu_k23, nu_k24, nu_k25, nu_k30, nu_k31, nu_k32, nu_k34, nu_k35, nu_k40, nu_k41, nu_k42, nu_k43, nu_k45, nu_k50, nu_k51, nu_k52, nu_k53, nu_k54, nu_a1, nu_b1, nu_c1, nu_d1, nu_e1, nu_f1, nu_g1, nu_h1, nu_a2, nu_b2, nu_c2, nu_d2, nu_e2, nu_f2, nu_g2, nu_h2, nu_a3, nu_b3, nu_c3, nu_d3, nu_e3, nu_f3, nu_g3, nu_h3, nu_a4, nu_b4, nu_c4, nu_d4, nu_e4, nu_f4, nu_g4, nu_h4, nu_a5, nu_b5, nu_c5, nu_d5, nu_e5, nu_f5, nu_g5, nu_h5, nu_a6, nu_b6, nu_c6, nu_d6, nu_e6, nu_f6, nu_g6, nu_h6, nu_a7, nu_b7, nu_c7, nu_d7, nu_e7, nu_f7, nu_g7, nu_h7, nu_a16, nu_b16, nu_c16, nu_d16, nu_e16, nu_f16, nu_g16, nu_h16, nu_neg, nu_pos, wX_merge_132, q, e, nu_01, nu_40, nu_30, nu_20, nu_160, Int32.add_zero, Nat.reduceAdd, nu_m16, nu_16m, nu_m4, nu_4m, nu_m3, nu_3m, nu_m2, nu_2m, nI_1, nu_p2, nu_p3, nu_16p, nu_2p, nI_add, nu_cl, nu_in, Nat.add_zero, nu_l0, nu_l1, nu_l2, nu_l3, nu_l4, nu_i0_5, nu_i1_5, nu_i2_5, nu_i0_3, nu_i1_3, nu_i2_3, nu_n0, nu_n1, nu_na0, nu_na1, forall_eq, true_implies, false_implies, implies_true, not_true_eq_false, not_false_eq_true, and_true, true_and, and_self, true_or, or_true, false_or, or_false, false_and, and_false, eq_self]
            exact gX post hp
          · simp (disch := omega) only [wpY_merge, wpY_in, vy_err, h, f, nu_eq, nu_k01, nu_k02, nu_k03, nu_k04, nu_k05, nu_k10, nu_k12, nu_k13, nu_k14, nu_k15, nu_k20, nu_k21, nu_k23, nu_k24, nu_k25, nu_k30, nu_k31, nu_k32, nu_k34, nu_k35, nu_k40, nu_k41, nu_k42, nu_k43, nu_k45, nu_k50, nu_k51, nu_k52, nu_k53, nu_k54, nu_a1, nu_b1, nu_c1, nu_d1, nu_e1, nu_f1, nu_g1, nu_h1, nu_a2, nu_b2, nu_c2, nu_d2, nu_e2, nu_f2, nu_g2, nu_h2, nu_a3, nu_b3, nu_c3, nu_d3, nu_e3, nu_f3, nu_g3, nu_h3, nu_a4, nu_b4, nu_c4, nu_d4, nu_e4, nu_f4, nu_g4, nu_h4, nu_a5, nu_b5, nu_c5, nu_d5, nu_e5, nu_f5, nu_g5, nu_h5, nu_a6, nu_b6, nu_c6, nu_d6, nu_e6, nu_f6, nu_g6, nu_h6, nu_a7, nu_b7, nu_c7, nu_d7, nu_e7, nu_f7, nu_g7, nu_h7, nu_a16, nu_b16, nu_c16, nu_d16, nu_e16, nu_f16, nu_g16, nu_h16, nu_neg, nu_pos, wY_merge_122, wY_merge_127, wY_merge_148, q, e, nu_01, nu_40, nu_30, nu_20, nu_160, Int32.add_zero, Nat.reduceAdd, nu_m16, nu_16m, nu_m4, nu_4m, nu_m3, nu_3m, nu_m2, nu_2m, nI_1, nu_p2, nu_p3, nu_16p, nu_2p, nI_add, nu_cl, nu_in, Nat.add_zero, nu_l0, nu_l1, nu_l2, nu_l3, nu_l4, nu_i0_5, nu_i1_5, nu_i2_5, nu_i0_3, nu_i1_3, nu_i2_3, nu_n0, nu_n1, nu_na0, nu_na1, forall_eq, true_implies, false_implies, implies_true, not_true_eq_false, not_false_eq_true, and_true, true_and, and_self, true_or, or_true, false_or, or_false, false_and, and_false, eq_self]
            exact gY post hp
        · obtain ⟨r, u, v, I, gX, gY⟩ := me_170 (cc := cc) (rq := rq) (ct := ct) (fr := fr) (lf := lf) (cr := cr) (rr := rr) (yl := yl) (la := la) (od := od) hn hm R hP hE hF hEF f0 f3
          refine ⟨r, u, v, I, fun post hp => ?_, fun post hp => ?_⟩
          · simp (disch := omega) only [wpX_merge, wX_merge_76, wX_merge_81, vx_err, h, f, nu_eq, nu_k01, nu_k02, nu_k03, nu_k04, nu_k05, nu_k10, nu_k12, nu_k13, nu_k14, nu_k15, nu_k20, nu_k21, nu_k23, nu_k24, nu_k25, nu_k30, nu_k31, nu_k32, nu_k34, nu_k35, nu_k40, nu_k41, nu_k42, nu_k43, nu_k45, nu_k50, nu_k51, nu_k52, nu_k53, nu_k54, nu_a1, nu_b1, nu_c1, nu_d1, nu_e1, nu_f1, nu_g1, nu_h1, nu_a2, nu_b2, nu_c2, nu_d2, nu_e2, nu_f2, nu_g2, nu_h2, nu_a3, nu_b3, nu_c3, nu_d3, nu_e3, nu_f3, nu_g3, nu_h3, nu_a4, nu_b4, nu_c4, nu_d4, nu_e4, nu_f4, nu_g4, nu_h4, nu_a5, nu_b5, nu_c5, nu_d5, nu_e5, nu_f5, nu_g5, nu_h5, nu_a6, nu_b6, nu_c6, nu_d6, nu_e6, nu_f6, nu_g6, nu_h6, nu_a7, nu_b7, nu_c7, nu_d7, nu_e7, nu_f7, nu_g7, nu_h7, nu_a16, nu_b16, nu_c16, nu_d16, nu_e16, nu_f16, nu_g16, nu_h16, nu_neg, nu_pos, wX_merge_132, q, e, nu_01, nu_40, nu_30, nu_20, nu_160, Int32.add_zero, Nat.reduceAdd, nu_m16, nu_16m, nu_m4, nu_4m, nu_m3, nu_3m, nu_m2, nu_2m, nI_1, nu_p2, nu_p3, nu_16p, nu_2p, nI_add, nu_cl, nu_in, Nat.add_zero, nu_l0, nu_l1, nu_l2, nu_l3, nu_l4, nu_i0_5, nu_i1_5, nu_i2_5, nu_i0_3, nu_i1_3, nu_i2_3, nu_n0, nu_n1, nu_na0, nu_na1, forall_eq, true_implies, false_implies, implies_true, not_true_eq_false, not_false_eq_true, and_true, true_and, and_self, true_or, or_true, false_or, or_false, false_and, and_false, eq_self]
            exact gX post hp
          · simp (disch := omega) only [wpY_merge, wpY_in, vy_err, h, f, nu_eq, nu_k01, nu_k02, nu_k03, nu_k04, nu_k05, nu_k10, nu_k12, nu_k13, nu_k14, nu_k15, nu_k20, nu_k21, nu_k23, nu_k24, nu_k25, nu_k30, nu_k31, nu_k32, nu_k34, nu_k35, nu_k40, nu_k41, nu_k42, nu_k43, nu_k45, nu_k50, nu_k51, nu_k52, nu_k53, nu_k54, nu_a1, nu_b1, nu_c1, nu_d1, nu_e1, nu_f1, nu_g1, nu_h1, nu_a2, nu_b2, nu_c2, nu_d2, nu_e2, nu_f2, nu_g2, nu_h2, nu_a3, nu_b3, nu_c3, nu_d3, nu_e3, nu_f3, nu_g3, nu_h3, nu_a4, nu_b4, nu_c4, nu_d4, nu_e4, nu_f4, nu_g4, nu_h4, nu_a5, nu_b5, nu_c5, nu_d5, nu_e5, nu_f5, nu_g5, nu_h5, nu_a6, nu_b6, nu_c6, nu_d6, nu_e6, nu_f6, nu_g6, nu_h6, nu_a7, nu_b7, nu_c7, nu_d7, nu_e7, nu_f7, nu_g7, nu_h7, nu_a16, nu_b16, nu_c16, nu_d16, nu_e16, nu_f16, nu_g16, nu_h16, nu_neg, nu_pos, wY_merge_122, wY_merge_127, wY_merge_148, q, e, nu_01, nu_40, nu_30, nu_20, nu_160, Int32.add_zero, Nat.reduceAdd, nu_m16, nu_16m, nu_m4, nu_4m, nu_m3, nu_3m, nu_m2, nu_2m, nI_1, nu_p2, nu_p3, nu_16p, nu_2p, nI_add, nu_cl, nu_in, Nat.add_zero, nu_l0, nu_l1, nu_l2, nu_l3, nu_l4, nu_i0_5, nu_i1_5, nu_i2_5, nu_i0_3, nu_i1_3, nu_i2_3, nu_n0, nu_n1, nu_na0, nu_na1, forall_eq, true_implies, false_implies, implies_true, not_true_eq_false, not_false_eq_true, and_true, true_and, and_self, true_or, or_true, false_or, or_false, false_and, and_false, eq_self]
            exact gY post hp
        · obtain ⟨b, ct', ch', st', en', sn', nw', bf', ve', hb, R', h1, h2, hX, hY⟩ := al_S (nI n) (nI m) cc rq ct sk sr fr lf cr rr yl la od sm hs hk R
          rcases hb with rfl | rfl
          · have z := h2 rfl
            subst z
            obtain ⟨r, u, v, I, gX, gY⟩ := me_new (cc := cc) (rq := rq) (ct := ct') (fr := fr) (lf := lf) (cr := cr) (rr := rr) (yl := yl) (la := la) (od := od) hn hm R' hP hE hF hEF f0 f3 (by rw [f]; decide)
            refine ⟨r, u, v, I, fun post hp => ?_, fun post hp => ?_⟩
            · simp (disch := omega) only [wpX_merge, wX_merge_76, wX_merge_81, vx_err, h, f, nu_eq, nu_k01, nu_k02, nu_k03, nu_k04, nu_k05, nu_k10, nu_k12, nu_k13, nu_k14, nu_k15, nu_k20, nu_k21, nu_k23, nu_k24, nu_k25, nu_k30, nu_k31, nu_k32, nu_k34, nu_k35, nu_k40, nu_k41, nu_k42, nu_k43, nu_k45, nu_k50, nu_k51, nu_k52, nu_k53, nu_k54, nu_a1, nu_b1, nu_c1, nu_d1, nu_e1, nu_f1, nu_g1, nu_h1, nu_a2, nu_b2, nu_c2, nu_d2, nu_e2, nu_f2, nu_g2, nu_h2, nu_a3, nu_b3, nu_c3, nu_d3, nu_e3, nu_f3, nu_g3, nu_h3, nu_a4, nu_b4, nu_c4, nu_d4, nu_e4, nu_f4, nu_g4, nu_h4, nu_a5, nu_b5, nu_c5, nu_d5, nu_e5, nu_f5, nu_g5, nu_h5, nu_a6, nu_b6, nu_c6, nu_d6, nu_e6, nu_f6, nu_g6, nu_h6, nu_a7, nu_b7, nu_c7, nu_d7, nu_e7, nu_f7, nu_g7, nu_h7, nu_a16, nu_b16, nu_c16, nu_d16, nu_e16, nu_f16, nu_g16, nu_h16, nu_neg, nu_pos, wX_merge_127, wX_merge_132, q, e, nu_01, nu_40, nu_30, nu_20, nu_160, Int32.add_zero, Nat.reduceAdd, nu_m16, nu_16m, nu_m4, nu_4m, nu_m3, nu_3m, nu_m2, nu_2m, nI_1, nu_p2, nu_p3, nu_16p, nu_2p, nI_add, nu_cl, nu_in, Nat.add_zero, nu_l0, nu_l1, nu_l2, nu_l3, nu_l4, nu_i0_5, nu_i1_5, nu_i2_5, nu_i0_3, nu_i1_3, nu_i2_3, nu_n0, nu_n1, nu_na0, nu_na1, forall_eq, true_implies, false_implies, implies_true, not_true_eq_false, not_false_eq_true, and_true, true_and, and_self, true_or, or_true, false_or, or_false, false_and, and_false, eq_self]
              refine hX _ ?_
              simp (disch := omega) only [f, nu_k01, nu_k02, nu_k03, nu_k04, nu_k05, nu_k10, nu_k12, nu_k13, nu_k14, nu_k15, nu_k20, nu_k21, nu_k23, nu_k24, nu_k25, nu_k30, nu_k31, nu_k32, nu_k34, nu_k35, nu_k40, nu_k41, nu_k42, nu_k43, nu_k45, nu_k50, nu_k51, nu_k52, nu_k53, nu_k54, nu_01, nu_40, nu_30, nu_20, nu_160, Int32.add_zero, Nat.reduceAdd, nu_m16, nu_16m, nu_m4, nu_4m, nu_m3, nu_3m, nu_m2, nu_2m, nI_1, nu_p2, nu_p3, nu_16p, nu_2p, nI_add, nu_cl, nu_in, Nat.add_zero, nu_l0, nu_l1, nu_l2, nu_l3, nu_l4, nu_i0_5, nu_i1_5, nu_i2_5, nu_i0_3, nu_i1_3, nu_i2_3, nu_n0, nu_n1, nu_na0, nu_na1, forall_eq, true_implies, false_implies, implies_true, not_true_eq_false, not_false_eq_true, and_true, true_and, and_self, true_or, or_true, false_or, or_false, false_and, and_false, eq_self]
              exact gX post hp
            · simp (disch := omega) only [wpY_merge, wpY_in, vy_err, h, f, nu_eq, nu_k01, nu_k02, nu_k03, nu_k04, nu_k05, nu_k10, nu_k12, nu_k13, nu_k14, nu_k15, nu_k20, nu_k21, nu_k23, nu_k24, nu_k25, nu_k30, nu_k31, nu_k32, nu_k34, nu_k35, nu_k40, nu_k41, nu_k42, nu_k43, nu_k45, nu_k50, nu_k51, nu_k52, nu_k53, nu_k54, nu_a1, nu_b1, nu_c1, nu_d1, nu_e1, nu_f1, nu_g1, nu_h1, nu_a2, nu_b2, nu_c2, nu_d2, nu_e2, nu_f2, nu_g2, nu_h2, nu_a3, nu_b3, nu_c3, nu_d3, nu_e3, nu_f3, nu_g3, nu_h3, nu_a4, nu_b4, nu_c4, nu_d4, nu_e4, nu_f4, nu_g4, nu_h4, nu_a5, nu_b5, nu_c5, nu_d5, nu_e5, nu_f5, nu_g5, nu_h5, nu_a6, nu_b6, nu_c6, nu_d6, nu_e6, nu_f6, nu_g6, nu_h6, nu_a7, nu_b7, nu_c7, nu_d7, nu_e7, nu_f7, nu_g7, nu_h7, nu_a16, nu_b16, nu_c16, nu_d16, nu_e16, nu_f16, nu_g16, nu_h16, nu_neg, nu_pos, wY_merge_113, q, e, nu_01, nu_40, nu_30, nu_20, nu_160, Int32.add_zero, Nat.reduceAdd, nu_m16, nu_16m, nu_m4, nu_4m, nu_m3, nu_3m, nu_m2, nu_2m, nI_1, nu_p2, nu_p3, nu_16p, nu_2p, nI_add, nu_cl, nu_in, Nat.add_zero, nu_l0, nu_l1, nu_l2, nu_l3, nu_l4, nu_i0_5, nu_i1_5, nu_i2_5, nu_i0_3, nu_i1_3, nu_i2_3, nu_n0, nu_n1, nu_na0, nu_na1, forall_eq, true_implies, false_implies, implies_true, not_true_eq_false, not_false_eq_true, and_true, true_and, and_self, true_or, or_true, false_or, or_false, false_and, and_false, eq_self]
              refine hY _ ?_
              simp (disch := omega) only [wY_merge_127, f, nu_k01, nu_k02, nu_k03, nu_k04, nu_k05, nu_k10, nu_k12, nu_k13, nu_k14, nu_k15, nu_k20, nu_k21, nu_k23, nu_k24, nu_k25, nu_k30, nu_k31, nu_k32, nu_k34, nu_k35, nu_k40, nu_k41, nu_k42, nu_k43, nu_k45, nu_k50, nu_k51, nu_k52, nu_k53, nu_k54, nu_01, nu_40, nu_30, nu_20, nu_160, Int32.add_zero, Nat.reduceAdd, nu_m16, nu_16m, nu_m4, nu_4m, nu_m3, nu_3m, nu_m2, nu_2m, nI_1, nu_p2, nu_p3, nu_16p, nu_2p, nI_add, nu_cl, nu_in, Nat.add_zero, nu_l0, nu_l1, nu_l2, nu_l3, nu_l4, nu_i0_5, nu_i1_5, nu_i2_5, nu_i0_3, nu_i1_3, nu_i2_3, nu_n0, nu_n1, nu_na0, nu_na1, forall_eq, true_implies, false_implies, implies_true, not_true_eq_false, not_false_eq_true, and_true, true_and, and_self, true_or, or_true, false_or, or_false, false_and, and_false, eq_self]
              exact gY post hp
          · have z := h1 rfl
            have f0' : ¬ st' (16 * t + k) = 0 := by rw [z, pk_un (by omega)]; exact f0
            have f3' : ¬ st' (16 * t + k) = 3 := by rw [z, pk_un (by omega)]; exact f3
            obtain ⟨r, u, v, I, gX, gY⟩ := me_170 (cc := cc) (rq := rq) (ct := ct') (fr := fr) (lf := lf) (cr := cr) (rr := rr) (yl := yl) (la := la) (od := od) hn hm R' hP hE hF hEF f0' f3'
            refine ⟨r, u, v, I, fun post hp => ?_, fun post hp => ?_⟩
            · simp (disch := omega) only [wpX_merge, wX_merge_76, wX_merge_81, vx_err, h, f, nu_eq, nu_k01, nu_k02, nu_k03, nu_k04, nu_k05, nu_k10, nu_k12, nu_k13, nu_k14, nu_k15, nu_k20, nu_k21, nu_k23, nu_k24, nu_k25, nu_k30, nu_k31, nu_k32, nu_k34, nu_k35, nu_k40, nu_k41, nu_k42, nu_k43, nu_k45, nu_k50, nu_k51, nu_k52, nu_k53, nu_k54, nu_a1, nu_b1, nu_c1, nu_d1, nu_e1, nu_f1, nu_g1, nu_h1, nu_a2, nu_b2, nu_c2, nu_d2, nu_e2, nu_f2, nu_g2, nu_h2, nu_a3, nu_b3, nu_c3, nu_d3, nu_e3, nu_f3, nu_g3, nu_h3, nu_a4, nu_b4, nu_c4, nu_d4, nu_e4, nu_f4, nu_g4, nu_h4, nu_a5, nu_b5, nu_c5, nu_d5, nu_e5, nu_f5, nu_g5, nu_h5, nu_a6, nu_b6, nu_c6, nu_d6, nu_e6, nu_f6, nu_g6, nu_h6, nu_a7, nu_b7, nu_c7, nu_d7, nu_e7, nu_f7, nu_g7, nu_h7, nu_a16, nu_b16, nu_c16, nu_d16, nu_e16, nu_f16, nu_g16, nu_h16, nu_neg, nu_pos, wX_merge_127, wX_merge_132, q, e, nu_01, nu_40, nu_30, nu_20, nu_160, Int32.add_zero, Nat.reduceAdd, nu_m16, nu_16m, nu_m4, nu_4m, nu_m3, nu_3m, nu_m2, nu_2m, nI_1, nu_p2, nu_p3, nu_16p, nu_2p, nI_add, nu_cl, nu_in, Nat.add_zero, nu_l0, nu_l1, nu_l2, nu_l3, nu_l4, nu_i0_5, nu_i1_5, nu_i2_5, nu_i0_3, nu_i1_3, nu_i2_3, nu_n0, nu_n1, nu_na0, nu_na1, forall_eq, true_implies, false_implies, implies_true, not_true_eq_false, not_false_eq_true, and_true, true_and, and_self, true_or, or_true, false_or, or_false, false_and, and_false, eq_self]
              refine hX _ ?_
              simp (disch := omega) only [nu_k10, forall_eq, true_implies, false_implies, implies_true, not_true_eq_false, not_false_eq_true, and_true, true_and, and_self, true_or, or_true, false_or, or_false, false_and, and_false, eq_self]
              exact gX post hp
            · simp (disch := omega) only [wpY_merge, wpY_in, vy_err, h, f, nu_eq, nu_k01, nu_k02, nu_k03, nu_k04, nu_k05, nu_k10, nu_k12, nu_k13, nu_k14, nu_k15, nu_k20, nu_k21, nu_k23, nu_k24, nu_k25, nu_k30, nu_k31, nu_k32, nu_k34, nu_k35, nu_k40, nu_k41, nu_k42, nu_k43, nu_k45, nu_k50, nu_k51, nu_k52, nu_k53, nu_k54, nu_a1, nu_b1, nu_c1, nu_d1, nu_e1, nu_f1, nu_g1, nu_h1, nu_a2, nu_b2, nu_c2, nu_d2, nu_e2, nu_f2, nu_g2, nu_h2, nu_a3, nu_b3, nu_c3, nu_d3, nu_e3, nu_f3, nu_g3, nu_h3, nu_a4, nu_b4, nu_c4, nu_d4, nu_e4, nu_f4, nu_g4, nu_h4, nu_a5, nu_b5, nu_c5, nu_d5, nu_e5, nu_f5, nu_g5, nu_h5, nu_a6, nu_b6, nu_c6, nu_d6, nu_e6, nu_f6, nu_g6, nu_h6, nu_a7, nu_b7, nu_c7, nu_d7, nu_e7, nu_f7, nu_g7, nu_h7, nu_a16, nu_b16, nu_c16, nu_d16, nu_e16, nu_f16, nu_g16, nu_h16, nu_neg, nu_pos, wY_merge_113, q, e, nu_01, nu_40, nu_30, nu_20, nu_160, Int32.add_zero, Nat.reduceAdd, nu_m16, nu_16m, nu_m4, nu_4m, nu_m3, nu_3m, nu_m2, nu_2m, nI_1, nu_p2, nu_p3, nu_16p, nu_2p, nI_add, nu_cl, nu_in, Nat.add_zero, nu_l0, nu_l1, nu_l2, nu_l3, nu_l4, nu_i0_5, nu_i1_5, nu_i2_5, nu_i0_3, nu_i1_3, nu_i2_3, nu_n0, nu_n1, nu_na0, nu_na1, forall_eq, true_implies, false_implies, implies_true, not_true_eq_false, not_false_eq_true, and_true, true_and, and_self, true_or, or_true, false_or, or_false, false_and, and_false, eq_self]
              refine hY _ ?_
              simp (disch := omega) only [wY_merge_122, wY_merge_127, wY_merge_148, nu_k10, forall_eq, true_implies, false_implies, implies_true, not_true_eq_false, not_false_eq_true, and_true, true_and, and_self, true_or, or_true, false_or, or_false, false_and, and_false, eq_self]
              exact gY post hp
        · obtain ⟨r, u, v, I, gX, gY⟩ := me_170 (cc := cc) (rq := rq) (ct := ct) (fr := fr) (lf := lf) (cr := cr) (rr := rr) (yl := yl) (la := la) (od := od) hn hm R hP hE hF hEF f0 f3
          refine ⟨r, u, v, I, fun post hp => ?_, fun post hp => ?_⟩
          · simp (disch := omega) only [wpX_merge, wX_merge_76, wX_merge_81, vx_err, h, f, nu_eq, nu_k01, nu_k02, nu_k03, nu_k04, nu_k05, nu_k10, nu_k12, nu_k13, nu_k14, nu_k15, nu_k20, nu_k21, nu_k23, nu_k24, nu_k25, nu_k30, nu_k31, nu_k32, nu_k34, nu_k35, nu_k40, nu_k41, nu_k42, nu_k43, nu_k45, nu_k50, nu_k51, nu_k52, nu_k53, nu_k54, nu_a1, nu_b1, nu_c1, nu_d1, nu_e1, nu_f1, nu_g1, nu_h1, nu_a2, nu_b2, nu_c2, nu_d2, nu_e2, nu_f2, nu_g2, nu_h2, nu_a3, nu_b3, nu_c3, nu_d3, nu_e3, nu_f3, nu_g3, nu_h3, nu_a4, nu_b4, nu_c4, nu_d4, nu_e4, nu_f4, nu_g4, nu_h4, nu_a5, nu_b5, nu_c5, nu_d5, nu_e5, nu_f5, nu_g5, nu_h5, nu_a6, nu_b6, nu_c6, nu_d6, nu_e6, nu_f6, nu_g6, nu_h6, nu_a7, nu_b7, nu_c7, nu_d7, nu_e7, nu_f7, nu_g7, nu_h7, nu_a16, nu_b16, nu_c16, nu_d16, nu_e16, nu_f16, nu_g16, nu_h16, nu_neg, nu_pos, wX_merge_132, q, e, nu_01, nu_40, nu_30, nu_20, nu_160, Int32.add_zero, Nat.reduceAdd, nu_m16, nu_16m, nu_m4, nu_4m, nu_m3, nu_3m, nu_m2, nu_2m, nI_1, nu_p2, nu_p3, nu_16p, nu_2p, nI_add, nu_cl, nu_in, Nat.add_zero, nu_l0, nu_l1, nu_l2, nu_l3, nu_l4, nu_i0_5, nu_i1_5, nu_i2_5, nu_i0_3, nu_i1_3, nu_i2_3, nu_n0, nu_n1, nu_na0, nu_na1, forall_eq, true_implies, false_implies, implies_true, not_true_eq_false, not_false_eq_true, and_true, true_and, and_self, true_or, or_true, false_or, or_false, false_and, and_false, eq_self]
            exact gX post hp
          · simp (disch := omega) only [wpY_merge, wpY_in, vy_err, h, f, nu_eq, nu_k01, nu_k02, nu_k03, nu_k04, nu_k05, nu_k10, nu_k12, nu_k13, nu_k14, nu_k15, nu_k20, nu_k21, nu_k23, nu_k24, nu_k25, nu_k30, nu_k31, nu_k32, nu_k34, nu_k35, nu_k40, nu_k41, nu_k42, nu_k43, nu_k45, nu_k50, nu_k51, nu_k52, nu_k53, nu_k54, nu_a1, nu_b1, nu_c1, nu_d1, nu_e1, nu_f1, nu_g1, nu_h1, nu_a2, nu_b2, nu_c2, nu_d2, nu_e2, nu_f2, nu_g2, nu_h2, nu_a3, nu_b3, nu_c3, nu_d3, nu_e3, nu_f3, nu_g3, nu_h3, nu_a4, nu_b4, nu_c4, nu_d4, nu_e4, nu_f4, nu_g4, nu_h4, nu_a5, nu_b5, nu_c5, nu_d5, nu_e5, nu_f5, nu_g5, nu_h5, nu_a6, nu_b6, nu_c6, nu_d6, nu_e6, nu_f6, nu_g6, nu_h6, nu_a7, nu_b7, nu_c7, nu_d7, nu_e7, nu_f7, nu_g7, nu_h7, nu_a16, nu_b16, nu_c16, nu_d16, nu_e16, nu_f16, nu_g16, nu_h16, nu_neg, nu_pos, wY_merge_122, wY_merge_127, wY_merge_148, q, e, nu_01, nu_40, nu_30, nu_20, nu_160, Int32.add_zero, Nat.reduceAdd, nu_m16, nu_16m, nu_m4, nu_4m, nu_m3, nu_3m, nu_m2, nu_2m, nI_1, nu_p2, nu_p3, nu_16p, nu_2p, nI_add, nu_cl, nu_in, Nat.add_zero, nu_l0, nu_l1, nu_l2, nu_l3, nu_l4, nu_i0_5, nu_i1_5, nu_i2_5, nu_i0_3, nu_i1_3, nu_i2_3, nu_n0, nu_n1, nu_na0, nu_na1, forall_eq, true_implies, false_implies, implies_true, not_true_eq_false, not_false_eq_true, and_true, true_and, and_self, true_or, or_true, false_or, or_false, false_and, and_false, eq_self]
            exact gY post hp
        · refine ⟨(-1), (nI n, nI m, cc, rq, md, bk, ct, rt, rc, lk, wt, wc, ch, st, en, sn, sk, sr, fr, lf, cr, rr), (nI n, nI m, th, ch, ro, lk, st, nw, bf, ve, bk, md, yl, la, od, sm, fr, ct), ir_mk hn hm (R) hP, fun post hp => ?_, fun post hp => ?_⟩
          · simp (disch := omega) only [wpX_merge, wX_merge_76, wX_merge_81, vx_err, h, f, nu_eq, nu_k01, nu_k02, nu_k03, nu_k04, nu_k05, nu_k10, nu_k12, nu_k13, nu_k14, nu_k15, nu_k20, nu_k21, nu_k23, nu_k24, nu_k25, nu_k30, nu_k31, nu_k32, nu_k34, nu_k35, nu_k40, nu_k41, nu_k42, nu_k43, nu_k45, nu_k50, nu_k51, nu_k52, nu_k53, nu_k54, nu_a1, nu_b1, nu_c1, nu_d1, nu_e1, nu_f1, nu_g1, nu_h1, nu_a2, nu_b2, nu_c2, nu_d2, nu_e2, nu_f2, nu_g2, nu_h2, nu_a3, nu_b3, nu_c3, nu_d3, nu_e3, nu_f3, nu_g3, nu_h3, nu_a4, nu_b4, nu_c4, nu_d4, nu_e4, nu_f4, nu_g4, nu_h4, nu_a5, nu_b5, nu_c5, nu_d5, nu_e5, nu_f5, nu_g5, nu_h5, nu_a6, nu_b6, nu_c6, nu_d6, nu_e6, nu_f6, nu_g6, nu_h6, nu_a7, nu_b7, nu_c7, nu_d7, nu_e7, nu_f7, nu_g7, nu_h7, nu_a16, nu_b16, nu_c16, nu_d16, nu_e16, nu_f16, nu_g16, nu_h16, nu_neg, nu_pos, q, e, nu_01, nu_40, nu_30, nu_20, nu_160, Int32.add_zero, Nat.reduceAdd, nu_m16, nu_16m, nu_m4, nu_4m, nu_m3, nu_3m, nu_m2, nu_2m, nI_1, nu_p2, nu_p3, nu_16p, nu_2p, nI_add, nu_cl, nu_in, Nat.add_zero, nu_l0, nu_l1, nu_l2, nu_l3, nu_l4, nu_i0_5, nu_i1_5, nu_i2_5, nu_i0_3, nu_i1_3, nu_i2_3, nu_n0, nu_n1, nu_na0, nu_na1, forall_eq, true_implies, false_implies, implies_true, not_true_eq_false, not_false_eq_true, and_true, true_and, and_self, true_or, or_true, false_or, or_false, false_and, and_false, eq_self]
            exact hp
          · simp (disch := omega) only [wpY_merge, wpY_in, vy_err, h, f, nu_eq, nu_k01, nu_k02, nu_k03, nu_k04, nu_k05, nu_k10, nu_k12, nu_k13, nu_k14, nu_k15, nu_k20, nu_k21, nu_k23, nu_k24, nu_k25, nu_k30, nu_k31, nu_k32, nu_k34, nu_k35, nu_k40, nu_k41, nu_k42, nu_k43, nu_k45, nu_k50, nu_k51, nu_k52, nu_k53, nu_k54, nu_a1, nu_b1, nu_c1, nu_d1, nu_e1, nu_f1, nu_g1, nu_h1, nu_a2, nu_b2, nu_c2, nu_d2, nu_e2, nu_f2, nu_g2, nu_h2, nu_a3, nu_b3, nu_c3, nu_d3, nu_e3, nu_f3, nu_g3, nu_h3, nu_a4, nu_b4, nu_c4, nu_d4, nu_e4, nu_f4, nu_g4, nu_h4, nu_a5, nu_b5, nu_c5, nu_d5, nu_e5, nu_f5, nu_g5, nu_h5, nu_a6, nu_b6, nu_c6, nu_d6, nu_e6, nu_f6, nu_g6, nu_h6, nu_a7, nu_b7, nu_c7, nu_d7, nu_e7, nu_f7, nu_g7, nu_h7, nu_a16, nu_b16, nu_c16, nu_d16, nu_e16, nu_f16, nu_g16, nu_h16, nu_neg, nu_pos, q, e, nu_01, nu_40, nu_30, nu_20, nu_160, Int32.add_zero, Nat.reduceAdd, nu_m16, nu_16m, nu_m4, nu_4m, nu_m3, nu_3m, nu_m2, nu_2m, nI_1, nu_p2, nu_p3, nu_16p, nu_2p, nI_add, nu_cl, nu_in, Nat.add_zero, nu_l0, nu_l1, nu_l2, nu_l3, nu_l4, nu_i0_5, nu_i1_5, nu_i2_5, nu_i0_3, nu_i1_3, nu_i2_3, nu_n0, nu_n1, nu_na0, nu_na1, forall_eq, true_implies, false_implies, implies_true, not_true_eq_false, not_false_eq_true, and_true, true_and, and_self, true_or, or_true, false_or, or_false, false_and, and_false, eq_self]
            exact hp
    · by_cases q : s = t
      · subst q
        refine ⟨(-1), (nI n, nI m, cc, rq, md, bk, ct, rt, rc, lk, wt, wc, ch, st, en, sn, sk, sr, fr, lf, cr, rr), (nI n, nI m, th, ch, ro, lk, st, nw, bf, ve, bk, md, yl, la, od, sm, fr, ct), ir_mk hn hm (R) hP, fun post hp => ?_, fun post hp => ?_⟩
        · simp (disch := omega) only [wpX_merge, wX_merge_76, wX_merge_81, vx_err, h, f, nu_eq, nu_k01, nu_k02, nu_k03, nu_k04, nu_k05, nu_k10, nu_k12, nu_k13, nu_k14, nu_k15, nu_k20, nu_k21, nu_k23, nu_k24, nu_k25, nu_k30, nu_k31, nu_k32, nu_k34, nu_k35, nu_k40, nu_k41, nu_k42, nu_k43, nu_k45, nu_k50, nu_k51, nu_k52, nu_k53, nu_k54, nu_a1, nu_b1, nu_c1, nu_d1, nu_e1, nu_f1, nu_g1, nu_h1, nu_a2, nu_b2, nu_c2, nu_d2, nu_e2, nu_f2, nu_g2, nu_h2, nu_a3, nu_b3, nu_c3, nu_d3, nu_e3, nu_f3, nu_g3, nu_h3, nu_a4, nu_b4, nu_c4, nu_d4, nu_e4, nu_f4, nu_g4, nu_h4, nu_a5, nu_b5, nu_c5, nu_d5, nu_e5, nu_f5, nu_g5, nu_h5, nu_a6, nu_b6, nu_c6, nu_d6, nu_e6, nu_f6, nu_g6, nu_h6, nu_a7, nu_b7, nu_c7, nu_d7, nu_e7, nu_f7, nu_g7, nu_h7, nu_a16, nu_b16, nu_c16, nu_d16, nu_e16, nu_f16, nu_g16, nu_h16, nu_neg, nu_pos, nu_01, nu_40, nu_30, nu_20, nu_160, Int32.add_zero, Nat.reduceAdd, nu_m16, nu_16m, nu_m4, nu_4m, nu_m3, nu_3m, nu_m2, nu_2m, nI_1, nu_p2, nu_p3, nu_16p, nu_2p, nI_add, nu_cl, nu_in, Nat.add_zero, nu_l0, nu_l1, nu_l2, nu_l3, nu_l4, nu_i0_5, nu_i1_5, nu_i2_5, nu_i0_3, nu_i1_3, nu_i2_3, nu_n0, nu_n1, nu_na0, nu_na1, forall_eq, true_implies, false_implies, implies_true, not_true_eq_false, not_false_eq_true, and_true, true_and, and_self, true_or, or_true, false_or, or_false, false_and, and_false, eq_self]
          exact hp
        · simp (disch := omega) only [wpY_merge, wpY_in, vy_err, h, f, nu_eq, nu_k01, nu_k02, nu_k03, nu_k04, nu_k05, nu_k10, nu_k12, nu_k13, nu_k14, nu_k15, nu_k20, nu_k21, nu_k23, nu_k24, nu_k25, nu_k30, nu_k31, nu_k32, nu_k34, nu_k35, nu_k40, nu_k41, nu_k42, nu_k43, nu_k45, nu_k50, nu_k51, nu_k52, nu_k53, nu_k54, nu_a1, nu_b1, nu_c1, nu_d1, nu_e1, nu_f1, nu_g1, nu_h1, nu_a2, nu_b2, nu_c2, nu_d2, nu_e2, nu_f2, nu_g2, nu_h2, nu_a3, nu_b3, nu_c3, nu_d3, nu_e3, nu_f3, nu_g3, nu_h3, nu_a4, nu_b4, nu_c4, nu_d4, nu_e4, nu_f4, nu_g4, nu_h4, nu_a5, nu_b5, nu_c5, nu_d5, nu_e5, nu_f5, nu_g5, nu_h5, nu_a6, nu_b6, nu_c6, nu_d6, nu_e6, nu_f6, nu_g6, nu_h6, nu_a7, nu_b7, nu_c7, nu_d7, nu_e7, nu_f7, nu_g7, nu_h7, nu_a16, nu_b16, nu_c16, nu_d16, nu_e16, nu_f16, nu_g16, nu_h16, nu_neg, nu_pos, nu_01, nu_40, nu_30, nu_20, nu_160, Int32.add_zero, Nat.reduceAdd, nu_m16, nu_16m, nu_m4, nu_4m, nu_m3, nu_3m, nu_m2, nu_2m, nI_1, nu_p2, nu_p3, nu_16p, nu_2p, nI_add, nu_cl, nu_in, Nat.add_zero, nu_l0, nu_l1, nu_l2, nu_l3, nu_l4, nu_i0_5, nu_i1_5, nu_i2_5, nu_i0_3, nu_i1_3, nu_i2_3, nu_n0, nu_n1, nu_na0, nu_na1, forall_eq, true_implies, false_implies, implies_true, not_true_eq_false, not_false_eq_true, and_true, true_and, and_self, true_or, or_true, false_or, or_false, false_and, and_false, eq_self]
          exact hp
      · refine ⟨(-1), (nI n, nI m, cc, rq, md, bk, ct, rt, rc, lk, wt, wc, ch, st, en, sn, sk, sr, fr, lf, cr, rr), (nI n, nI m, th, ch, ro, lk, st, nw, bf, ve, bk, md, yl, la, od, sm, fr, ct), ir_mk hn hm (R) hP, fun post hp => ?_, fun post hp => ?_⟩
        · simp (disch := omega) only [wpX_merge, wX_merge_76, wX_merge_81, vx_err, h, f, nu_eq, nu_k01, nu_k02, nu_k03, nu_k04, nu_k05, nu_k10, nu_k12, nu_k13, nu_k14, nu_k15, nu_k20, nu_k21, nu_k23, nu_k24, nu_k25, nu_k30, nu_k31, nu_k32, nu_k34, nu_k35, nu_k40, nu_k41, nu_k42, nu_k43, nu_k45, nu_k50, nu_k51, nu_k52, nu_k53, nu_k54, nu_a1, nu_b1, nu_c1, nu_d1, nu_e1, nu_f1, nu_g1, nu_h1, nu_a2, nu_b2, nu_c2, nu_d2, nu_e2, nu_f2, nu_g2, nu_h2, nu_a3, nu_b3, nu_c3, nu_d3, nu_e3, nu_f3, nu_g3, nu_h3, nu_a4, nu_b4, nu_c4, nu_d4, nu_e4, nu_f4, nu_g4, nu_h4, nu_a5, nu_b5, nu_c5, nu_d5, nu_e5, nu_f5, nu_g5, nu_h5, nu_a6, nu_b6, nu_c6, nu_d6, nu_e6, nu_f6, nu_g6, nu_h6, nu_a7, nu_b7, nu_c7, nu_d7, nu_e7, nu_f7, nu_g7, nu_h7, nu_a16, nu_b16, nu_c16, nu_d16, nu_e16, nu_f16, nu_g16, nu_h16, nu_neg, nu_pos, q, nu_01, nu_40, nu_30, nu_20, nu_160, Int32.add_zero, Nat.reduceAdd, nu_m16, nu_16m, nu_m4, nu_4m, nu_m3, nu_3m, nu_m2, nu_2m, nI_1, nu_p2, nu_p3, nu_16p, nu_2p, nI_add, nu_cl, nu_in, Nat.add_zero, nu_l0, nu_l1, nu_l2, nu_l3, nu_l4, nu_i0_5, nu_i1_5, nu_i2_5, nu_i0_3, nu_i1_3, nu_i2_3, nu_n0, nu_n1, nu_na0, nu_na1, forall_eq, true_implies, false_implies, implies_true, not_true_eq_false, not_false_eq_true, and_true, true_and, and_self, true_or, or_true, false_or, or_false, false_and, and_false, eq_self]
          exact hp
        · simp (disch := omega) only [wpY_merge, wpY_in, vy_err, h, f, nu_eq, nu_k01, nu_k02, nu_k03, nu_k04, nu_k05, nu_k10, nu_k12, nu_k13, nu_k14, nu_k15, nu_k20, nu_k21, nu_k23, nu_k24, nu_k25, nu_k30, nu_k31, nu_k32, nu_k34, nu_k35, nu_k40, nu_k41, nu_k42, nu_k43, nu_k45, nu_k50, nu_k51, nu_k52, nu_k53, nu_k54, nu_a1, nu_b1, nu_c1, nu_d1, nu_e1, nu_f1, nu_g1, nu_h1, nu_a2, nu_b2, nu_c2, nu_d2, nu_e2, nu_f2, nu_g2, nu_h2, nu_a3, nu_b3, nu_c3, nu_d3, nu_e3, nu_f3, nu_g3, nu_h3, nu_a4, nu_b4, nu_c4, nu_d4, nu_e4, nu_f4, nu_g4, nu_h4, nu_a5, nu_b5, nu_c5, nu_d5, nu_e5, nu_f5, nu_g5, nu_h5, nu_a6, nu_b6, nu_c6, nu_d6, nu_e6, nu_f6, nu_g6, nu_h6, nu_a7, nu_b7, nu_c7, nu_d7, nu_e7, nu_f7, nu_g7, nu_h7, nu_a16, nu_b16, nu_c16, nu_d16, nu_e16, nu_f16, nu_g16, nu_h16, nu_neg, nu_pos, q, nu_01, nu_40, nu_30, nu_20, nu_160, Int32.add_zero, Nat.reduceAdd, nu_m16, nu_16m, nu_m4, nu_4m, nu_m3, nu_3m, nu_m2, nu_2m, nI_1, nu_p2, nu_p3, nu_16p, nu_2p, nI_add, nu_cl, nu_in, Nat.add_zero, nu_l0, nu_l1, nu_l2, nu_l3, nu_l4, nu_i0_5, nu_i1_5, nu_i2_5, nu_i0_3, nu_i1_3, nu_i2_3, nu_n0, nu_n1, nu_na0, nu_na1, forall_eq, true_implies, false_implies, implies_true, not_true_eq_false, not_false_eq_true, and_true, true_and, and_self, true_or, or_true, false_or, or_false, false_and, and_false, eq_self]
          exact hp
    · by_cases q : s = t
      · subst q
        refine ⟨(-1), (nI n, nI m, cc, rq, md, bk, ct, rt, rc, lk, wt, wc, ch, st, en, sn, sk, sr, fr, lf, cr, rr), (nI n, nI m, th, ch, ro, lk, st, nw, bf, ve, bk, md, yl, la, od, sm, fr, ct), ir_mk hn hm (R) hP, fun post hp => ?_, fun post hp => ?_⟩
        · simp (disch := omega) only [wpX_merge, wX_merge_76, wX_merge_81, vx_err, h, f, nu_eq, nu_k01, nu_k02, nu_k03, nu_k04, nu_k05, nu_k10, nu_k12, nu_k13, nu_k14, nu_k15, nu_k20, nu_k21, nu_k23, nu_k24, nu_k25, nu_k30, nu_k31, nu_k32, nu_k34, nu_k35, nu_k40, nu_k41, nu_k42, nu_k43, nu_k45, nu_k50, nu_k51, nu_k52, nu_k53, nu_k54, nu_a1, nu_b1, nu_c1, nu_d1, nu_e1, nu_f1, nu_g1, nu_h1, nu_a2, nu_b2, nu_c2, nu_d2, nu_e2, nu_f2, nu_g2, nu_h2, nu_a3, nu_b3, nu_c3, nu_d3, nu_e3, nu_f3, nu_g3, nu_h3, nu_a4, nu_b4, nu_c4, nu_d4, nu_e4, nu_f4, nu_g4, nu_h4, nu_a5, nu_b5, nu_c5, nu_d5, nu_e5, nu_f5, nu_g5, nu_h5, nu_a6, nu_b6, nu_c6, nu_d6, nu_e6, nu_f6, nu_g6, nu_h6, nu_a7, nu_b7, nu_c7, nu_d7, nu_e7, nu_f7, nu_g7, nu_h7, nu_a16, nu_b16, nu_c16, nu_d16, nu_e16, nu_f16, nu_g16, nu_h16, nu_neg, nu_pos, nu_01, nu_40, nu_30, nu_20, nu_160, Int32.add_zero, Nat.reduceAdd, nu_m16, nu_16m, nu_m4, nu_4m, nu_m3, nu_3m, nu_m2, nu_2m, nI_1, nu_p2, nu_p3, nu_16p, nu_2p, nI_add, nu_cl, nu_in, Nat.add_zero, nu_l0, nu_l1, nu_l2, nu_l3, nu_l4, nu_i0_5, nu_i1_5, nu_i2_5, nu_i0_3, nu_i1_3, nu_i2_3, nu_n0, nu_n1, nu_na0, nu_na1, forall_eq, true_implies, false_implies, implies_true, not_true_eq_false, not_false_eq_true, and_true, true_and, and_self, true_or, or_true, false_or, or_false, false_and, and_false, eq_self]
          exact hp
        · simp (disch := omega) only [wpY_merge, wpY_in, vy_err, h, f, nu_eq, nu_k01, nu_k02, nu_k03, nu_k04, nu_k05, nu_k10, nu_k12, nu_k13, nu_k14, nu_k15, nu_k20, nu_k21, nu_k23, nu_k24, nu_k25, nu_k30, nu_k31, nu_k32, nu_k34, nu_k35, nu_k40, nu_k41, nu_k42, nu_k43, nu_k45, nu_k50, nu_k51, nu_k52, nu_k53, nu_k54, nu_a1, nu_b1, nu_c1, nu_d1, nu_e1, nu_f1, nu_g1, nu_h1, nu_a2, nu_b2, nu_c2, nu_d2, nu_e2, nu_f2, nu_g2, nu_h2, nu_a3, nu_b3, nu_c3, nu_d3, nu_e3, nu_f3, nu_g3, nu_h3, nu_a4, nu_b4, nu_c4, nu_d4, nu_e4, nu_f4, nu_g4, nu_h4, nu_a5, nu_b5, nu_c5, nu_d5, nu_e5, nu_f5, nu_g5, nu_h5, nu_a6, nu_b6, nu_c6, nu_d6, nu_e6, nu_f6, nu_g6, nu_h6, nu_a7, nu_b7, nu_c7, nu_d7, nu_e7, nu_f7, nu_g7, nu_h7, nu_a16, nu_b16, nu_c16, nu_d16, nu_e16, nu_f16, nu_g16, nu_h16, nu_neg, nu_pos, nu_01, nu_40, nu_30, nu_20, nu_160, Int32.add_zero, Nat.reduceAdd, nu_m16, nu_16m, nu_m4, nu_4m, nu_m3, nu_3m, nu_m2, nu_2m, nI_1, nu_p2, nu_p3, nu_16p, nu_2p, nI_add, nu_cl, nu_in, Nat.add_zero, nu_l0, nu_l1, nu_l2, nu_l3, nu_l4, nu_i0_5, nu_i1_5, nu_i2_5, nu_i0_3, nu_i1_3, nu_i2_3, nu_n0, nu_n1, nu_na0, nu_na1, forall_eq, true_implies, false_implies, implies_true, not_true_eq_false, not_false_eq_true, and_true, true_and, and_self, true_or, or_true, false_or, or_false, false_and, and_false, eq_self]
          exact hp
      · have hEF : 16 * s + k ≠ 16 * t + k := by omega
        have f0 : ¬ st (16 * t + k) = 0 := by rw [f]; decide
        have f3 : ¬ st (16 * t + k) = 3 := by rw [f]; decide
        rcases re_rK R (16 * s + k) with e | e | e | e | e | e
        · obtain ⟨b, ct', ch', st', en', sn', nw', bf', ve', hb, R', h1, h2, hX, hY⟩ := al_S (nI n) (nI m) cc rq ct sk sr fr lf cr rr yl la od sm hs hk R
          rcases hb with rfl | rfl
          · have z := h2 rfl
            subst z
            refine ⟨(-4), (nI n, nI m, cc, rq, md, bk, ct', rt, rc, lk, wt, wc, ch', st', en', sn', sk, sr, fr, lf, cr, rr), (nI n, nI m, th, ch', ro, lk, st', nw', bf', ve', bk, md, yl, la, od, sm, fr, ct'), ir_mk hn hm (R') hP, fun post hp => ?_, fun post hp => ?_⟩
            · simp (disch := omega) only [wpX_merge, wX_merge_76, wX_merge_81, vx_err, h, f, nu_eq, nu_k01, nu_k02, nu_k03, nu_k04, nu_k05, nu_k10, nu_k12, nu_k13, nu_k14, nu_k15, nu_k20, nu_k21, nu_k23, nu_k24, nu_k25, nu_k30, nu_k31, nu_k32, nu_k34, nu_k35, nu_k40, nu_k41, nu_k42, nu_k43, nu_k45, nu_k50, nu_k51, nu_k52, nu_k53, nu_k54, nu_a1, nu_b1, nu_c1, nu_d1, nu_e1, nu_f1, nu_g1, nu_h1, nu_a2, nu_b2, nu_c2, nu_d2, nu_e2, nu_f2, nu_g2, nu_h2, nu_a3, nu_b3, nu_c3, nu_d3, nu_e3, nu_f3, nu_g3, nu_h3, nu_a4, nu_b4, nu_c4, nu_d4, nu_e4, nu_f4, nu_g4, nu_h4, nu_a5, nu_b5, nu_c5, nu_d5, nu_e5, nu_f5, nu_g5, nu_h5, nu_a6, nu_b6, nu_c6, nu_d6, nu_e6, nu_f6, nu_g6, nu_h6, nu_a7, nu_b7, nu_c7, nu_d7, nu_e7, nu_f7, nu_g7, nu_h7, nu_a16, nu_b16, nu_c16, nu_d16, nu_e16, nu_f16, nu_g16, nu_h16, nu_neg, nu_pos, wX_merge_127, wX_merge_132, q, e, nu_01, nu_40, nu_30, nu_20, nu_160, Int32.add_zero, Nat.reduceAdd, nu_m16, nu_16m, nu_m4, nu_4m, nu_m3, nu_3m, nu_m2, nu_2m, nI_1, nu_p2, nu_p3, nu_16p, nu_2p, nI_add, nu_cl, nu_in, Nat.add_zero, nu_l0, nu_l1, nu_l2, nu_l3, nu_l4, nu_i0_5, nu_i1_5, nu_i2_5, nu_i0_3, nu_i1_3, nu_i2_3, nu_n0, nu_n1, nu_na0, nu_na1, forall_eq, true_implies, false_implies, implies_true, not_true_eq_false, not_false_eq_true, and_true, true_and, and_self, true_or, or_true, false_or, or_false, false_and, and_false, eq_self]
              refine hX _ ?_
              simp (disch := omega) only [f, nu_k01, nu_k02, nu_k03, nu_k04, nu_k05, nu_k10, nu_k12, nu_k13, nu_k14, nu_k15, nu_k20, nu_k21, nu_k23, nu_k24, nu_k25, nu_k30, nu_k31, nu_k32, nu_k34, nu_k35, nu_k40, nu_k41, nu_k42, nu_k43, nu_k45, nu_k50, nu_k51, nu_k52, nu_k53, nu_k54, nu_01, nu_40, nu_30, nu_20, nu_160, Int32.add_zero, Nat.reduceAdd, nu_m16, nu_16m, nu_m4, nu_4m, nu_m3, nu_3m, nu_m2, nu_2m, nI_1, nu_p2, nu_p3, nu_16p, nu_2p, nI_add, nu_cl, nu_in, Nat.add_zero, nu_l0, nu_l1, nu_l2, nu_l3, nu_l4, nu_i0_5, nu_i1_5, nu_i2_5, nu_i0_3, nu_i1_3, nu_i2_3, nu_n0, nu_n1, nu_na0, nu_na1, forall_eq, true_implies, false_implies, implies_true, not_true_eq_false, not_false_eq_true, and_true, true_and, and_self, true_or, or_true, false_or, or_false, false_and, and_false, eq_self]
              exact hp
            · simp (disch := omega) only [wpY_merge, wpY_in, vy_err, h, f, nu_eq, nu_k01, nu_k02, nu_k03, nu_k04, nu_k05, nu_k10, nu_k12, nu_k13, nu_k14, nu_k15, nu_k20, nu_k21, nu_k23, nu_k24, nu_k25, nu_k30, nu_k31, nu_k32, nu_k34, nu_k35, nu_k40, nu_k41, nu_k42, nu_k43, nu_k45, nu_k50, nu_k51, nu_k52, nu_k53, nu_k54, nu_a1, nu_b1, nu_c1, nu_d1, nu_e1, nu_f1, nu_g1, nu_h1, nu_a2, nu_b2, nu_c2, nu_d2, nu_e2, nu_f2, nu_g2, nu_h2, nu_a3, nu_b3, nu_c3, nu_d3, nu_e3, nu_f3, nu_g3, nu_h3, nu_a4, nu_b4, nu_c4, nu_d4, nu_e4, nu_f4, nu_g4, nu_h4, nu_a5, nu_b5, nu_c5, nu_d5, nu_e5, nu_f5, nu_g5, nu_h5, nu_a6, nu_b6, nu_c6, nu_d6, nu_e6, nu_f6, nu_g6, nu_h6, nu_a7, nu_b7, nu_c7, nu_d7, nu_e7, nu_f7, nu_g7, nu_h7, nu_a16, nu_b16, nu_c16, nu_d16, nu_e16, nu_f16, nu_g16, nu_h16, nu_neg, nu_pos, wY_merge_113, q, e, nu_01, nu_40, nu_30, nu_20, nu_160, Int32.add_zero, Nat.reduceAdd, nu_m16, nu_16m, nu_m4, nu_4m, nu_m3, nu_3m, nu_m2, nu_2m, nI_1, nu_p2, nu_p3, nu_16p, nu_2p, nI_add, nu_cl, nu_in, Nat.add_zero, nu_l0, nu_l1, nu_l2, nu_l3, nu_l4, nu_i0_5, nu_i1_5, nu_i2_5, nu_i0_3, nu_i1_3, nu_i2_3, nu_n0, nu_n1, nu_na0, nu_na1, forall_eq, true_implies, false_implies, implies_true, not_true_eq_false, not_false_eq_true, and_true, true_and, and_self, true_or, or_true, false_or, or_false, false_and, and_false, eq_self]
              refine hY _ ?_
              simp (disch := omega) only [wY_merge_127, f, nu_k01, nu_k02, nu_k03, nu_k04, nu_k05, nu_k10, nu_k12, nu_k13, nu_k14, nu_k15, nu_k20, nu_k21, nu_k23, nu_k24, nu_k25, nu_k30, nu_k31, nu_k32, nu_k34, nu_k35, nu_k40, nu_k41, nu_k42, nu_k43, nu_k45, nu_k50, nu_k51, nu_k52, nu_k53, nu_k54, nu_01, nu_40, nu_30, nu_20, nu_160, Int32.add_zero, Nat.reduceAdd, nu_m16, nu_16m, nu_m4, nu_4m, nu_m3, nu_3m, nu_m2, nu_2m, nI_1, nu_p2, nu_p3, nu_16p, nu_2p, nI_add, nu_cl, nu_in, Nat.add_zero, nu_l0, nu_l1, nu_l2, nu_l3, nu_l4, nu_i0_5, nu_i1_5, nu_i2_5, nu_i0_3, nu_i1_3, nu_i2_3, nu_n0, nu_n1, nu_na0, nu_na1, forall_eq, true_implies, false_implies, implies_true, not_true_eq_false, not_false_eq_true, and_true, true_and, and_self, true_or, or_true, false_or, or_false, false_and, and_false, eq_self]
              exact hp
          · have z := h1 rfl
            have f0' : ¬ st' (16 * t + k) = 0 := by rw [z, pk_un (by omega)]; exact f0
            have f3' : ¬ st' (16 * t + k) = 3 := by rw [z, pk_un (by omega)]; exact f3
            obtain ⟨r, u, v, I, gX, gY⟩ := me_170 (cc := cc) (rq := rq) (ct := ct') (fr := fr) (lf := lf) (cr := cr) (rr := rr) (yl := yl) (la := la) (od := od) hn hm R' hP hE hF hEF f0' f3'
            refine ⟨r, u, v, I, fun post hp => ?_, fun post hp => ?_⟩
            · simp (disch := omega) only [wpX_merge, wX_merge_76, wX_merge_81, vx_err, h, f, nu_eq, nu_k01, nu_k02, nu_k03, nu_k04, nu_k05, nu_k10, nu_k12, nu_k13, nu_k14, nu_k15, nu_k20, nu_k21, nu_k23, nu_k24, nu_k25, nu_k30, nu_k31, nu_k32, nu_k34, nu_k35, nu_k40, nu_k41, nu_k42, nu_k43, nu_k45, nu_k50, nu_k51, nu_k52, nu_k53, nu_k54, nu_a1, nu_b1, nu_c1, nu_d1, nu_e1, nu_f1, nu_g1, nu_h1, nu_a2, nu_b2, nu_c2, nu_d2, nu_e2, nu_f2, nu_g2, nu_h2, nu_a3, nu_b3, nu_c3, nu_d3, nu_e3, nu_f3, nu_g3, nu_h3, nu_a4, nu_b4, nu_c4, nu_d4, nu_e4, nu_f4, nu_g4, nu_h4, nu_a5, nu_b5, nu_c5, nu_d5, nu_e5, nu_f5, nu_g5, nu_h5, nu_a6, nu_b6, nu_c6, nu_d6, nu_e6, nu_f6, nu_g6, nu_h6, nu_a7, nu_b7, nu_c7, nu_d7, nu_e7, nu_f7, nu_g7, nu_h7, nu_a16, nu_b16, nu_c16, nu_d16, nu_e16, nu_f16, nu_g16, nu_h16, nu_neg, nu_pos, wX_merge_127, wX_merge_132, q, e, nu_01, nu_40, nu_30, nu_20, nu_160, Int32.add_zero, Nat.reduceAdd, nu_m16, nu_16m, nu_m4, nu_4m, nu_m3, nu_3m, nu_m2, nu_2m, nI_1, nu_p2, nu_p3, nu_16p, nu_2p, nI_add, nu_cl, nu_in, Nat.add_zero, nu_l0, nu_l1, nu_l2, nu_l3, nu_l4, nu_i0_5, nu_i1_5, nu_i2_5, nu_i0_3, nu_i1_3, nu_i2_3, nu_n0, nu_n1, nu_na0, nu_na1, forall_eq, true_implies, false_implies, implies_true, not_true_eq_false, not_false_eq_true, and_true, true_and, and_self, true_or, or_true, false_or, or_false, false_and, and_false, eq_self]
              refine hX _ ?_
              simp (disch := omega) only [nu_k10, forall_eq, true_implies, false_implies, implies_true, not_true_eq_false, not_false_eq_true, and_true, true_and, and_self, true_or, or_true, false_or, or_false, false_and, and_false, eq_self]
              exact gX post hp
            · simp (disch := omega) only [wpY_merge, wpY_in, vy_err, h, f, nu_eq, nu_k01, nu_k02, nu_k03, nu_k04, nu_k05, nu_k10, nu_k12, nu_k13, nu_k14, nu_k15, nu_k20, nu_k21, nu_k23, nu_k24, nu_k25, nu_k30, nu_k31, nu_k32, nu_k34, nu_k35, nu_k40, nu_k41, nu_k42, nu_k43, nu_k45, nu_k50, nu_k51, nu_k52, nu_k53, nu_k54, nu_a1, nu_b1, nu_c1, nu_d1, nu_e1, nu_f1, nu_g1, nu_h1, nu_a2, nu_b2, nu_c2, nu_d2, nu_e2, nu_f2, nu_g2, nu_h2, nu_a3, nu_b3, nu_c3, nu_d3, nu_e3, nu_f3, nu_g3, nu_h3, nu_a4, nu_b4, nu_c4, nu_d4, nu_e4, nu_f4, nu_g4, nu_h4, nu_a5, nu_b5, nu_c5, nu_d5, nu_e5, nu_f5, nu_g5, nu_h5, nu_a6, nu_b6, nu_c6, nu_d6, nu_e6, nu_f6, nu_g6, nu_h6, nu_a7, nu_b7, nu_c7, nu_d7, nu_e7, nu_f7, nu_g7, nu_h7, nu_a16, nu_b16, nu_c16, nu_d16, nu_e16, nu_f16, nu_g16, nu_h16, nu_neg, nu_pos, wY_merge_113, q, e, nu_01, nu_40, nu_30, nu_20, nu_160, Int32.add_zero, Nat.reduceAdd, nu_m16, nu_16m, nu_m4, nu_4m, nu_m3, nu_3m, nu_m2, nu_2m, nI_1, nu_p2, nu_p3, nu_16p, nu_2p, nI_add, nu_cl, nu_in, Nat.add_zero, nu_l0, nu_l1, nu_l2, nu_l3, nu_l4, nu_i0_5, nu_i1_5, nu_i2_5, nu_i0_3, nu_i1_3, nu_i2_3, nu_n0, nu_n1, nu_na0, nu_na1, forall_eq, true_implies, false_implies, implies_true, not_true_eq_false, not_false_eq_true, and_true, true_and, and_self, true_or, or_true, false_or, or_false, false_and, and_false, eq_self]
              refine hY _ ?_
              simp (disch := omega) only [wY_merge_122, wY_merge_127, wY_merge_148, nu_k10, forall_eq, true_implies, false_implies, implies_true, not_true_eq_false, not_false_eq_true, and_true, true_and, and_self, true_or, or_true, false_or, or_false, false_and, and_false, eq_self]
              exact gY post hp
        · obtain ⟨r, u, v, I, gX, gY⟩ := me_170 (cc := cc) (rq := rq) (ct := ct) (fr := fr) (lf := lf) (cr := cr) (rr := rr) (yl := yl) (la := la) (od := od) hn hm R hP hE hF hEF f0 f3
          refine ⟨r, u, v, I, fun post hp => ?_, fun post hp => ?_⟩
          · simp (disch := omega) only [wpX_merge, wX_merge_76, wX_merge_81, vx_err, h, f, nu_eq, nu_k01, nu_k02, nu_k03, nu_k04, nu_k05, nu_k10, nu_k12, nu_k13, nu_k14, nu_k15, nu_k20, nu_k21, nu_k23, nu_k24, nu_k25, nu_k30, nu_k31, nu_k32, nu_k34, nu_k35, nu_k40, nu_k41, nu_k42, nu_k43, nu_k45, nu_k50, nu_k51, nu_k52, nu_k53, nu_k54, nu_a1, nu_b1, nu_c1, nu_d1, nu_e1, nu_f1, nu_g1, nu_h1, nu_a2, nu_b2, nu_c2, nu_d2, nu_e2, nu_f2, nu_g2, nu_h2, nu_a3, nu_b3, nu_c3, nu_d3, nu_e3, nu_f3, nu_g3, nu_h3, nu_a4, nu_b4, nu_c4, nu_d4, nu_e4, nu_f4, nu_g4, nu_h4, nu_a5, nu_b5, nu_c5, nu_d5, nu_e5, nu_f5, nu_g5, nu_h5, nu_a6, nu_b6, nu_c6, nu_d6, nu_e6, nu_f6, nu_g6, nu_h6, nu_a7, nu_b7, nu_c7, nu_d7, nu_e7, nu_f7, nu_g7, nu_h7, nu_a16, nu_b16, nu_c16, nu_d16, nu_e16, nu_f16, nu_g16, nu_h16, nu_neg, nu_pos, wX_merge_132, q, e, nu_01, nu_40, nu_30, nu_20, nu_160, Int32.add_zero, Nat.reduceAdd, nu_m16, nu_16m, nu_m4, nu_4m, nu_m3, nu_3m, nu_m2, nu_2m, nI_1, nu_p2, nu_p3, nu_16p, nu_2p, nI_add, nu_cl, nu_in, Nat.add_zero, nu_l0, nu_l1, nu_l2, nu_l3, nu_l4, nu_i0_5, nu_i1_5, nu_i2_5, nu_i0_3, nu_i1_3, nu_i2_3, nu_n0, nu_n1, nu_na0, nu_na1, forall_eq, true_implies, false_implies, implies_true, not_true_eq_false, not_false_eq_true, and_true, true_and, and_self, true_or, or_true, false_or, or_false, false_and, and_false, eq_self]
            exact gX post hp
          · simp (disch := omega) only [wpY_merge, wpY_in, vy_err, h, f, nu_eq, nu_k01, nu_k02, nu_k03, nu_k04, nu_k05, nu_k10, nu_k12, nu_k13, nu_k14, nu_k15, nu_k20, nu_k21, nu_k23, nu_k24, nu_k25, nu_k30, nu_k31, nu_k32, nu_k34, nu_k35, nu_k40, nu_k41, nu_k42, nu_k43, nu_k45, nu_k50, nu_k51, nu_k52, nu_k53, nu_k54, nu_a1, nu_b1, nu_c1, nu_d1, nu_e1, nu_f1, nu_g1, nu_h1, nu_a2, nu_b2, nu_c2, nu_d2, nu_e2, nu_f2, nu_g2, nu_h2, nu_a3, nu_b3, nu_c3, nu_d3, nu_e3, nu_f3, nu_g3, nu_h3, nu_a4, nu_b4, nu_c4, nu_d4, nu_e4, nu_f4, nu_g4, nu_h4, nu_a5, nu_b5, nu_c5, nu_d5, nu_e5, nu_f5, nu_g5, nu_h5, nu_a6, nu_b6, nu_c6, nu_d6, nu_e6, nu_f6, nu_g6, nu_h6, nu_a7, nu_b7, nu_c7, nu_d7, nu_e7, nu_f7, nu_g7, nu_h7, nu_a16, nu_b16, nu_c16, nu_d16, nu_e16, nu_f16, nu_g16, nu_h16, nu_neg, nu_pos, wY_merge_122, wY_merge_127, wY_merge_148, q, e, nu_01, nu_40, nu_30, nu_20, nu_160, Int32.add_zero, Nat.reduceAdd, nu_m16, nu_16m, nu_m4, nu_4m, nu_m3, nu_3m, nu_m2, nu_2m, nI_1, nu_p2, nu_p3, nu_16p, nu_2p, nI_add, nu_cl, nu_in, Nat.add_zero, nu_l0, nu_l1, nu_l2, nu_l3, nu_l4, nu_i0_5, nu_i1_5, nu_i2_5, nu_i0_3, nu_i1_3, nu_i2_3, nu_n0, nu_n1, nu_na0, nu_na1, forall_eq, true_implies, false_implies, implies_true, not_true_eq_false, not_false_eq_true, and_true, true_and, and_self, true_or, or_true, false_or, or_false, false_and, and_false, eq_self]
            exact gY post hp
        · obtain ⟨r, u, v, I, gX, gY⟩ := me_170 (cc := cc) (rq := rq) (ct := ct) (fr := fr) (lf := lf) (cr := cr) (rr := rr) (yl := yl) (la := la) (od := od) hn hm R hP hE hF hEF f0 f3
          refine ⟨r, u, v, I, fun post hp => ?_, fun post hp => ?_⟩
          · simp (disch := omega) only [wpX_merge, wX_merge_76, wX_merge_81, vx_err, h, f, nu_eq, nu_k01, nu_k02, nu_k03, nu_k04, nu_k05, nu_k10, nu_k12, nu_k13, nu_k14, nu_k15, nu_k20, nu_k21, nu_k23, nu_k24, nu_k25, nu_k30, nu_k31, nu_k32, nu_k34, nu_k35, nu_k40, nu_k41, nu_k42, nu_k43, nu_k45, nu_k50, nu_k51, nu_k52, nu_k53, nu_k54, nu_a1, nu_b1, nu_c1, nu_d1, nu_e1, nu_f1, nu_g1, nu_h1, nu_a2, nu_b2, nu_c2, nu_d2, nu_e2, nu_f2, nu_g2, nu_h2, nu_a3, nu_b3, nu_c3, nu_d3, nu_e3, nu_f3, nu_g3, nu_h3, nu_a4, nu_b4, nu_c4, nu_d4, nu_e4, nu_f4, nu_g4, nu_h4, nu_a5, nu_b5, nu_c5, nu_d5, nu_e5, nu_f5, nu_g5, nu_h5, nu_a6, nu_b6, nu_c6, nu_d6, nu_e6, nu_f6, nu_g6, nu_h6, nu_a7, nu_b7, nu_c7, nu_d7, nu_e7, nu_f7, nu_g7, nu_h7, nu_a16, nu_b16, nu_c16, nu_d16, nu_e16, nu_f16, nu_g16, nu_h16, nu_neg, nu_pos, wX_merge_132, q, e, nu_01, nu_40, nu_30, nu_20, nu_160, Int32.add_zero, Nat.reduceAdd, nu_m16, nu_16m, nu_m4, nu_4m, nu_m3, nu_3m, nu_m2, nu_2m, nI_1, nu_p2, nu_p3, nu_16p, nu_2p, nI_add, nu_cl, nu_in, Nat.add_zero, nu_l0, nu_l1, nu_l2, nu_l3, nu_l4, nu_i0_5, nu_i1_5, nu_i2_5, nu_i0_3, nu_i1_3, nu_i2_3, nu_n0, nu_n1, nu_na0, nu_na1, forall_eq, true_implies, false_implies, implies_true, not_true_eq_false, not_false_eq_true, and_true, true_and, and_self, true_or, or_true, false_or, or_false, false_and, and_false, eq_self]
            exact gX post hp
          · simp (disch := omega) only [wpY_merge, wpY_in, vy_err, h, f, nu_eq, nu_k01, nu_k02, nu_k03, nu_k04, nu_k05, nu_k10, nu_k12, nu_k13, nu_k14, nu_k15, nu_k20, nu_k21, nu_k23, nu_k24, nu_k25, nu_k30, nu_k31, nu_k32, nu_k34, nu_k35, nu_k40, nu_k41, nu_k42, nu_k43, nu_k45, nu_k50, nu_k51, nu_k52, nu_k53, nu_k54, nu_a1, nu_b1, nu_c1, nu_d1, nu_e1, nu_f1, nu_g1, nu_h1, nu_a2, nu_b2, nu_c2, nu_d2, nu_e2, nu_f2, nu_g2, nu_h2, nu_a3, nu_b3, nu_c3, nu_d3, nu_e3, nu_f3, nu_g3, nu_h3, nu_a4, nu_b4, nu_c4, nu_d4, nu_e4, nu_f4, nu_g4, nu_h4, nu_a5, nu_b5, nu_c5, nu_d5, nu_e5, nu_f5, nu_g5, nu_h5, nu_a6, nu_b6, nu_c6, nu_d6, nu_e6, nu_f6, nu_g6, nu_h6, nu_a7, nu_b7, nu_c7, nu_d7, nu_e7, nu_f7, nu_g7, nu_h7, nu_a16, nu_b16, nu_c16, nu_d16, nu_e16, nu_f16, nu_g16, nu_h16, nu_neg, nu_pos, wY_merge_122, wY_merge_127, wY_merge_148, q, e, nu_01, nu_40, nu_30, nu_20, nu_160, Int32.add_zero, Nat.reduceAdd, nu_m16, nu_16m, nu_m4, nu_4m, nu_m3, nu_3m, nu_m2, nu_2m, nI_1, nu_p2, nu_p3, nu_16p, nu_2p, nI_add, nu_cl, nu_in, Nat.add_zero, nu_l0, nu_l1, nu_l2, nu_l3, nu_l4, nu_i0_5, nu_i1_5, nu_i2_5, nu_i0_3, nu_i1_3, nu_i2_3, nu_n0, nu_n1, nu_na0, nu_na1, forall_eq, true_implies, false_implies, implies_true, not_true_eq_false, not_false_eq_true, and_true, true_and, and_self, true_or, or_true, false_or, or_false, false_and, and_false, eq_self]
            exact gY post hp
        · obtain ⟨b, ct', ch', st', en', sn', nw', bf', ve', hb, R', h1, h2, hX, hY⟩ := al_S (nI n) (nI m) cc rq ct sk sr fr lf cr rr yl la od sm hs hk R
          rcases hb with rfl | rfl
          · have z := h2 rfl
            subst z
            refine ⟨(-4), (nI n, nI m, cc, rq, md, bk, ct', rt, rc, lk, wt, wc, ch', st', en', sn', sk, sr, fr, lf, cr, rr), (nI n, nI m, th, ch', ro, lk, st', nw', bf', ve', bk, md, yl, la, od, sm, fr, ct'), ir_mk hn hm (R') hP, fun post hp => ?_, fun post hp => ?_⟩
            · simp (disch := omega) only [wpX_merge, wX_merge_76, wX_merge_81, vx_err, h, f, nu_eq, nu_k01, nu_k02, nu_k03, nu_k04, nu_k05, nu_k10, nu_k12, nu_k13, nu_k14, nu_k15, nu_k20, nu_k21, nu_k23, nu_k24, nu_k25, nu_k30, nu_k31, nu_k32, nu_k34, nu_k35, nu_k40, nu_k41, nu_k42, nu_k43, nu_k45, nu_k50, nu_k51, nu_k52, nu_k53, nu_k54, nu_a1, nu_b1, nu_c1, nu_d1, nu_e1, nu_f1, nu_g1, nu_h1, nu_a2, nu_b2, nu_c2, nu_d2, nu_e2, nu_f2, nu_g2, nu_h2, nu_a3, nu_b3, nu_c3, nu_d3, nu_e3, nu_f3, nu_g3, nu_h3, nu_a4, nu_b4, nu_c4, nu_d4, nu_e4, nu_f4, nu_g4, nu_h4, nu_a5, nu_b5, nu_c5, nu_d5, nu_e5, nu_f5, nu_g5, nu_h5, nu_a6, nu_b6, nu_c6, nu_d6, nu_e6, nu_f6, nu_g6, nu_h6, nu_a7, nu_b7, nu_c7, nu_d7, nu_e7, nu_f7, nu_g7, nu_h7, nu_a16, nu_b16, nu_c16, nu_d16, nu_e16, nu_f16, nu_g16, nu_h16, nu_neg, nu_pos, wX_merge_127, wX_merge_132, q, e, nu_01, nu_40, nu_30, nu_20, nu_160, Int32.add_zero, Nat.reduceAdd, nu_m16, nu_16m, nu_m4, nu_4m, nu_m3, nu_3m, nu_m2, nu_2m, nI_1, nu_p2, nu_p3, nu_16p, nu_2p, nI_add, nu_cl, nu_in, Nat.add_zero, nu_l0, nu_l1, nu_l2, nu_l3, nu_l4, nu_i0_5, nu_i1_5, nu_i2_5, nu_i0_3, nu_i1_3, nu_i2_3, nu_n0, nu_n1, nu_na0, nu_na1, forall_eq, true_implies, false_implies, implies_true, not_true_eq_false, not_false_eq_true, and_true, true_and, and_self, true_or, or_true, false_or, or_false, false_and, and_false, eq_self]
              refine hX _ ?_
              simp (disch := omega) only [f, nu_k01, nu_k02, nu_k03, nu_k04, nu_k05, nu_k10, nu_k12, nu_k13, nu_k14, nu_k15, nu_k20, nu_k21, nu_k23, nu_k24, nu_k25, nu_k30, nu_k31, nu_k32, nu_k34, nu_k35, nu_k40, nu_k41, nu_k42, nu_k43, nu_k45, nu_k50, nu_k51, nu_k52, nu_k53, nu_k54, nu_01, nu_40, nu_30, nu_20, nu_160, Int32.add_zero, Nat.reduceAdd, nu_m16, nu_16m, nu_m4, nu_4m, nu_m3, nu_3m, nu_m2, nu_2m, nI_1, nu_p2, nu_p3, nu_16p, nu_2p, nI_add, nu_cl, nu_in, Nat.add_zero, nu_l0, nu_l1, nu_l2, nu_l3, nu_l4, nu_i0_5, nu_i1_5, nu_i2_5, nu_i0_3, nu_i1_3, nu_i2_3, nu_n0, nu_n1, nu_na0, nu_na1, forall_eq, true_implies, false_implies, implies_true, not_true_eq_false, not_false_eq_true, and_true, true_and, and_self, true_or, or_true, false_or, or_false, false_and, and_false, eq_self]
              exact hp
            · simp (disch := omega) only [wpY_merge, wpY_in, vy_err, h, f, nu_eq, nu_k01, nu_k02, nu_k03, nu_k04, nu_k05, nu_k10, nu_k12, nu_k13, nu_k14, nu_k15, nu_k20, nu_k21, nu_k23, nu_k24, nu_k25, nu_k30, nu_k31, nu_k32, nu_k34, nu_k35, nu_k40, nu_k41, nu_k42, nu_k43, nu_k45, nu_k50, nu_k51, nu_k52, nu_k53, nu_k54, nu_a1, nu_b1, nu_c1, nu_d1, nu_e1, nu_f1, nu_g1, nu_h1, nu_a2, nu_b2, nu_c2, nu_d2, nu_e2, nu_f2, nu_g2, nu_h2, nu_a3, nu_b3, nu_c3, nu_d3, nu_e3, nu_f3, nu_g3, nu_h3, nu_a4, nu_b4, nu_c4, nu_d4, nu_e4, nu_f4, nu_g4, nu_h4, nu_a5, nu_b5, nu_c5, nu_d5, nu_e5, nu_f5, nu_g5, nu_h5, nu_a6, nu_b6, nu_c6, nu_d6, nu_e6, nu_f6, nu_g6, nu_h6, nu_a7, nu_b7, nu_c7, nu_d7, nu_e7, nu_f7, nu_g7, nu_h7, nu_a16, nu_b16, nu_c16, nu_d16, nu_e16, nu_f16, nu_g16, nu_h16, nu_neg, nu_pos, wY_merge_113, q, e, nu_01, nu_40, nu_30, nu_20, nu_160, Int32.add_zero, Nat.reduceAdd, nu_m16, nu_16m, nu_m4, nu_4m, nu_m3, nu_3m, nu_m2, nu_2m, nI_1, nu_p2, nu_p3, nu_16p, nu_2p, nI_add, nu_cl, nu_in, Nat.add_zero, nu_l0, nu_l1, nu_l2, nu_l3, nu_l4, nu_i0_5, nu_i1_5, nu_i2_5, nu_i0_3, nu_i1_3, nu_i2_3, nu_n0, nu_n1, nu_na0, nu_na1, forall_eq, true_implies, false_implies, implies_true, not_true_eq_false, not_false_eq_true, and_true, true_and, and_self, true_or, or_true, false_or, or_false, false_and, and_false, eq_self]
              refine hY _ ?_
              simp (disch := omega) only [wY_merge_127, f, nu_k01, nu_k02, nu_k03, nu_k04, nu_k05, nu_k10, nu_k12, nu_k13, nu_k14, nu_k15, nu_k20, nu_k21, nu_k23, nu_k24, nu_k25, nu_k30, nu_k31, nu_k32, nu_k34, nu_k35, nu_k40, nu_k41, nu_k42, nu_k43, nu_k45, nu_k50, nu_k51, nu_k52, nu_k53, nu_k54, nu_01, nu_40, nu_30, nu_20, nu_160, Int32.add_zero, Nat.reduceAdd, nu_m16, nu_16m, nu_m4, nu_4m, nu_m3, nu_3m, nu_m2, nu_2m, nI_1, nu_p2, nu_p3, nu_16p, nu_2p, nI_add, nu_cl, nu_in, Nat.add_zero, nu_l0, nu_l1, nu_l2, nu_l3, nu_l4, nu_i0_5, nu_i1_5, nu_i2_5, nu_i0_3, nu_i1_3, nu_i2_3, nu_n0, nu_n1, nu_na0, nu_na1, forall_eq, true_implies, false_implies, implies_true, not_true_eq_false, not_false_eq_true, and_true, true_and, and_self, true_or, or_true, false_or, or_false, false_and, and_false, eq_self]
              exact hp
          · have z := h1 rfl
            have f0' : ¬ st' (16 * t + k) = 0 := by rw [z, pk_un (by omega)]; exact f0
            have f3' : ¬ st' (16 * t + k) = 3 := by rw [z, pk_un (by omega)]; exact f3
            obtain ⟨r, u, v, I, gX, gY⟩ := me_170 (cc := cc) (rq := rq) (ct := ct') (fr := fr) (lf := lf) (cr := cr) (rr := rr) (yl := yl) (la := la) (od := od) hn hm R' hP hE hF hEF f0' f3'
            refine ⟨r, u, v, I, fun post hp => ?_, fun post hp => ?_⟩
            · simp (disch := omega) only [wpX_merge, wX_merge_76, wX_merge_81, vx_err, h, f, nu_eq, nu_k01, nu_k02, nu_k03, nu_k04, nu_k05, nu_k10, nu_k12, nu_k13, nu_k14, nu_k15, nu_k20, nu_k21, nu_k23, nu_k24, nu_k25, nu_k30, nu_k31, nu_k32, nu_k34, nu_k35, nu_k40, nu_k41, nu_k42, nu_k43, nu_k45, nu_k50, nu_k51, nu_k52, nu_k53, nu_k54, nu_a1, nu_b1, nu_c1, nu_d1, nu_e1, nu_f1, nu_g1, nu_h1, nu_a2, nu_b2, nu_c2, nu_d2, nu_e2, nu_f2, nu_g2, nu_h2, nu_a3, nu_b3, nu_c3, nu_d3, nu_e3, nu_f3, nu_g3, nu_h3, nu_a4, nu_b4, nu_c4, nu_d4, nu_e4, nu_f4, nu_g4, nu_h4, nu_a5, nu_b5, nu_c5, nu_d5, nu_e5, nu_f5, nu_g5, nu_h5, nu_a6, nu_b6, nu_c6, nu_d6, nu_e6, nu_f6, nu_g6, nu_h6, nu_a7, nu_b7, nu_c7, nu_d7, nu_e7, nu_f7, nu_g7, nu_h7, nu_a16, nu_b16, nu_c16, nu_d16, nu_e16, nu_f16, nu_g16, nu_h16, nu_neg, nu_pos, wX_merge_127, wX_merge_132, q, e, nu_01, nu_40, nu_30, nu_20, nu_160, Int32.add_zero, Nat.reduceAdd, nu_m16, nu_16m, nu_m4, nu_4m, nu_m3, nu_3m, nu_m2, nu_2m, nI_1, nu_p2, nu_p3, nu_16p, nu_2p, nI_add, nu_cl, nu_in, Nat.add_zero, nu_l0, nu_l1, nu_l2, nu_l3, nu_l4, nu_i0_5, nu_i1_5, nu_i2_5, nu_i0_3, nu_i1_3, nu_i2_3, nu_n0, nu_n1, nu_na0, nu_na1, forall_eq, true_implies, false_implies, implies_true, not_true_eq_false, not_false_eq_true, and_true, true_and, and_self, true_or, or_true, false_or, or_false, false_and, and_false, eq_self]
              refine hX _ ?_
              simp (disch := omega) only [nu_k10, forall_eq, true_implies, false_implies, implies_true, not_true_eq_false, not_false_eq_true, and_true, true_and, and_self, true_or, or_true, false_or, or_false, false_and, and_false, eq_self]
              exact gX post hp
            · simp (disch := omega) only [wpY_merge, wpY_in, vy_err, h, f, nu_eq, nu_k01, nu_k02, nu_k03, nu_k04, nu_k05, nu_k10, nu_k12, nu_k13, nu_k14, nu_k15, nu_k20, nu_k21, nu_k23, nu_k24, nu_k25, nu_k30, nu_k31, nu_k32, nu_k34, nu_k35, nu_k40, nu_k41, nu_k42, nu_k43, nu_k45, nu_k50, nu_k51, nu_k52, nu_k53, nu_k54, nu_a1, nu_b1, nu_c1, nu_d1, nu_e1, nu_f1, nu_g1, nu_h1, nu_a2, nu_b2, nu_c2, nu_d2, nu_e2, nu_f2, nu_g2, nu_h2, nu_a3, nu_b3, nu_c3, nu_d3, nu_e3, nu_f3, nu_g3, nu_h3, nu_a4, nu_b4, nu_c4, nu_d4, nu_e4, nu_f4, nu_g4, nu_h4, nu_a5, nu_b5, nu_c5, nu_d5, nu_e5, nu_f5, nu_g5, nu_h5, nu_a6, nu_b6, nu_c6, nu_d6, nu_e6, nu_f6, nu_g6, nu_h6, nu_a7, nu_b7, nu_c7, nu_d7, nu_e7, nu_f7, nu_g7, nu_h7, nu_a16, nu_b16, nu_c16, nu_d16, nu_e16, nu_f16, nu_g16, nu_h16, nu_neg, nu_pos, wY_merge_113, q, e, nu_01, nu_40, nu_30, nu_20, nu_160, Int32.add_zero, Nat.reduceAdd, nu_m16, nu_16m, nu_m4, nu_4m, nu_m3, nu_3m, nu_m2, nu_2m, nI_1, nu_p2, nu_p3, nu_16p, nu_2p, nI_add, nu_cl, nu_in, Nat.add_zero, nu_l0, nu_l1, nu_l2, nu_l3, nu_l4, nu_i0_5, nu_i1_5, nu_i2_5, nu_i0_3, nu_i1_3, nu_i2_3, nu_n0, nu_n1, nu_na0, nu_na1, forall_eq, true_implies, false_implies, implies_true, not_true_eq_false, not_false_eq_true, and_true, true_and, and_self, true_or, or_true, false_or, or_false, false_and, and_false, eq_self]
              refine hY _ ?_
              simp (disch := omega) only [wY_merge_122, wY_merge_127, wY_merge_148, nu_k10, forall_eq, true_implies, false_implies, implies_true, not_true_eq_false, not_false_eq_true, and_true, true_and, and_self, true_or, or_true, false_or, or_false, false_and, and_false, eq_self]
              exact gY post hp
        · obtain ⟨r, u, v, I, gX, gY⟩ := me_170 (cc := cc) (rq := rq) (ct := ct) (fr := fr) (lf := lf) (cr := cr) (rr := rr) (yl := yl) (la := la) (od := od) hn hm R hP hE hF hEF f0 f3
          refine ⟨r, u, v, I, fun post hp => ?_, fun post hp => ?_⟩
          · simp (disch := omega) only [wpX_merge, wX_merge_76, wX_merge_81, vx_err, h, f, nu_eq, nu_k01, nu_k02, nu_k03, nu_k04, nu_k05, nu_k10, nu_k12, nu_k13, nu_k14, nu_k15, nu_k20, nu_k21, nu_k23, nu_k24, nu_k25, nu_k30, nu_k31, nu_k32, nu_k34, nu_k35, nu_k40, nu_k41, nu_k42, nu_k43, nu_k45, nu_k50, nu_k51, nu_k52, nu_k53, nu_k54, nu_a1, nu_b1, nu_c1, nu_d1, nu_e1, nu_f1, nu_g1, nu_h1, nu_a2, nu_b2, nu_c2, nu_d2, nu_e2, nu_f2, nu_g2, nu_h2, nu_a3, nu_b3, nu_c3, nu_d3, nu_e3, nu_f3, nu_g3, nu_h3, nu_a4, nu_b4, nu_c4, nu_d4, nu_e4, nu_f4, nu_g4, nu_h4, nu_a5, nu_b5, nu_c5, nu_d5, nu_e5, nu_f5, nu_g5, nu_h5, nu_a6, nu_b6, nu_c6, nu_d6, nu_e6, nu_f6, nu_g6, nu_h6, nu_a7, nu_b7, nu_c7, nu_d7, nu_e7, nu_f7, nu_g7, nu_h7, nu_a16, nu_b16, nu_c16, nu_d16, nu_e16, nu_f16, nu_g16, nu_h16, nu_neg, nu_pos, wX_merge_132, q, e, nu_01, nu_40, nu_30, nu_20, nu_160, Int32.add_zero, Nat.reduceAdd, nu_m16, nu_16m, nu_m4, nu_4m, nu_m3, nu_3m, nu_m2, nu_2m, nI_1, nu_p2, nu_p3, nu_16p, nu_2p, nI_add, nu_cl, nu_in, Nat.add_zero, nu_l0, nu_l1, nu_l2, nu_l3, nu_l4, nu_i0_5, nu_i1_5, nu_i2_5, nu_i0_3, nu_i1_3, nu_i2_3, nu_n0, nu_n1, nu_na0, nu_na1, forall_eq, true_implies, false_implies, implies_true, not_true_eq_false, not_false_eq_true, and_true, true_and, and_self, true_or, or_true, false_or, or_false, false_and, and_false, eq_self]
            exact gX post hp
          · simp (disch := omega) only [wpY_merge, wpY_in, vy_err, h, f, nu_eq, nu_k01, nu_k02, nu_k03, nu_k04, nu_k05, nu_k10, nu_k12, nu_k13, nu_k14, nu_k15, nu_k20, nu_k21, nu_k23, nu_k24, nu_k25, nu_k30, nu_k31, nu_k32, nu_k34, nu_k35, nu_k40, nu_k41, nu_k42, nu_k43, nu_k45, nu_k50, nu_k51, nu_k52, nu_k53, nu_k54, nu_a1, nu_b1, nu_c1, nu_d1, nu_e1, nu_f1, nu_g1, nu_h1, nu_a2, nu_b2, nu_c2, nu_d2, nu_e2, nu_f2, nu_g2, nu_h2, nu_a3, nu_b3, nu_c3, nu_d3, nu_e3, nu_f3, nu_g3, nu_h3, nu_a4, nu_b4, nu_c4, nu_d4, nu_e4, nu_f4, nu_g4, nu_h4, nu_a5, nu_b5, nu_c5, nu_d5, nu_e5, nu_f5, nu_g5, nu_h5, nu_a6, nu_b6, nu_c6, nu_d6, nu_e6, nu_f6, nu_g6, nu_h6, nu_a7, nu_b7, nu_c7, nu_d7, nu_e7, nu_f7, nu_g7, nu_h7, nu_a16, nu_b16, nu_c16, nu_d16, nu_e16, nu_f16, nu_g16, nu_h16, nu_neg, nu_pos, wY_merge_122, wY_merge_127, wY_merge_148, q, e, nu_01, nu_40, nu_30, nu_20, nu_160, Int32.add_zero, Nat.reduceAdd, nu_m16, nu_16m, nu_m4, nu_4m, nu_m3, nu_3m, nu_m2, nu_2m, nI_1, nu_p2, nu_p3, nu_16p, nu_2p, nI_add, nu_cl, nu_in, Nat.add_zero, nu_l0, nu_l1, nu_l2, nu_l3, nu_l4, nu_i0_5, nu_i1_5, nu_i2_5, nu_i0_3, nu_i1_3, nu_i2_3, nu_n0, nu_n1, nu_na0, nu_na1, forall_eq, true_implies, false_implies, implies_true, not_true_eq_false, not_false_eq_true, and_true, true_and, and_self, true_or, or_true, false_or, or_false, false_and, and_false, eq_self]
            exact gY post hp
        · refine ⟨(-1), (nI n, nI m, cc, rq, md, bk, ct, rt, rc, lk, wt, wc, ch, st, en, sn, sk, sr, fr, lf, cr, rr), (nI n, nI m, th, ch, ro, lk, st, nw, bf, ve, bk, md, yl, la, od, sm, fr, ct), ir_mk hn hm (R) hP, fun post hp => ?_, fun post hp => ?_⟩
          · simp (disch := omega) only [wpX_merge, wX_merge_76, wX_merge_81, vx_err, h, f, nu_eq, nu_k01, nu_k02, nu_k03, nu_k04, nu_k05, nu_k10, nu_k12, nu_k13, nu_k14, nu_k15, nu_k20, nu_k21, nu_k23, nu_k24, nu_k25, nu_k30, nu_k31, nu_k32, nu_k34, nu_k35, nu_k40, nu_k41, nu_k42, nu_k43, nu_k45, nu_k50, nu_k51, nu_k52, nu_k53, nu_k54, nu_a1, nu_b1, nu_c1, nu_d1, nu_e1, nu_f1, nu_g1, nu_h1, nu_a2, nu_b2, nu_c2, nu_d2, nu_e2, nu_f2, nu_g2, nu_h2, nu_a3, nu_b3, nu_c3, nu_d3, nu_e3, nu_f3, nu_g3, nu_h3, nu_a4, nu_b4, nu_c4, nu_d4, nu_e4, nu_f4, nu_g4, nu_h4, nu_a5, nu_b5, nu_c5, nu_d5, nu_e5, nu_f5, nu_g5, nu_h5, nu_a6, nu_b6, nu_c6, nu_d6, nu_e6, nu_f6, nu_g6, nu_h6, nu_a7, nu_b7, nu_c7, nu_d7, nu_e7, nu_f7, nu_g7, nu_h7, nu_a16, nu_b16, nu_c16, nu_d16, nu_e16, nu_f16, nu_g16, nu_h16, nu_neg, nu_pos, q, e, nu_01, nu_40, nu_30, nu_20, nu_160, Int32.add_zero, Nat.reduceAdd, nu_m16, nu_16m, nu_m4, nu_4m, nu_m3, nu_3m, nu_m2, nu_2m, nI_1, nu_p2, nu_p3, nu_16p, nu_2p, nI_add, nu_cl, nu_in, Nat.add_zero, nu_l0, nu_l1, nu_l2, nu_l3, nu_l4, nu_i0_5, nu_i1_5, nu_i2_5, nu_i0_3, nu_i1_3, nu_i2_3, nu_n0, nu_n1, nu_na0, nu_na1, forall_eq, true_implies, false_implies, implies_true, not_true_eq_false, not_false_eq_true, and_true, true_and, and_self, true_or, or_true, false_or, or_false, false_and, and_false, eq_self]
            exact hp
          · simp (disch := omega) only [wpY_merge, wpY_in, vy_err, h, f, nu_eq, nu_k01, nu_k02, nu_k03, nu_k04, nu_k05, nu_k10, nu_k12, nu_k13, nu_k14, nu_k15, nu_k20, nu_k21, nu_k23, nu_k24, nu_k25, nu_k30, nu_k31, nu_k32, nu_k34, nu_k35, nu_k40, nu_k41, nu_k42, nu_k43, nu_k45, nu_k50, nu_k51, nu_k52, nu_k53, nu_k54, nu_a1, nu_b1, nu_c1, nu_d1, nu_e1, nu_f1, nu_g1, nu_h1, nu_a2, nu_b2, nu_c2, nu_d2, nu_e2, nu_f2, nu_g2, nu_h2, nu_a3, nu_b3, nu_c3, nu_d3, nu_e3, nu_f3, nu_g3, nu_h3, nu_a4, nu_b4, nu_c4, nu_d4, nu_e4, nu_f4, nu_g4, nu_h4, nu_a5, nu_b5, nu_c5, nu_d5, nu_e5, nu_f5, nu_g5, nu_h5, nu_a6, nu_b6, nu_c6, nu_d6, nu_e6, nu_f6, nu_g6, nu_h6, nu_a7, nu_b7, nu_c7, nu_d7, nu_e7, nu_f7, nu_g7, nu_h7, nu_a16, nu_b16, nu_c16, nu_d16, nu_e16, nu_f16, nu_g16, nu_h16, nu_neg, nu_pos, q, e, nu_01, nu_40, nu_30, nu_20, nu_160, Int32.add_zero, Nat.reduceAdd, nu_m16, nu_16m, nu_m4, nu_4m, nu_m3, nu_3m, nu_m2, nu_2m, nI_1, nu_p2, nu_p3, nu_16p, nu_2p, nI_add, nu_cl, nu_in, Nat.add_zero, nu_l0, nu_l1, nu_l2, nu_l3, nu_l4, nu_i0_5, nu_i1_5, nu_i2_5, nu_i0_3, nu_i1_3, nu_i2_3, nu_n0, nu_n1, nu_na0, nu_na1, forall_eq, true_implies, false_implies, implies_true, not_true_eq_false, not_false_eq_true, and_true, true_and, and_self, true_or, or_true, false_or, or_false, false_and, and_false, eq_self]
            exact hp
    · by_cases q : s = t
      · subst q
        refine ⟨(-1), (nI n, nI m, cc, rq, md, bk, ct, rt, rc, lk, wt, wc, ch, st, en, sn, sk, sr, fr, lf, cr, rr), (nI n, nI m, th, ch, ro, lk, st, nw, bf, ve, bk, md, yl, la, od, sm, fr, ct), ir_mk hn hm (R) hP, fun post hp => ?_, fun post hp => ?_⟩
        · simp (disch := omega) only [wpX_merge, wX_merge_76, wX_merge_81, vx_err, h, f, nu_eq, nu_k01, nu_k02, nu_k03, nu_k04, nu_k05, nu_k10, nu_k12, nu_k13, nu_k14, nu_k15, nu_k20, nu_k21, nu_k23, nu_k24, nu_k25, nu_k30, nu_k31, nu_k32, nu_k34, nu_k35, nu_k40, nu_k41, nu_k42, nu_k43, nu_k45, nu_k50, nu_k51, nu_k52, nu_k53, nu_k54, nu_a1, nu_b1, nu_c1, nu_d1, nu_e1, nu_f1, nu_g1, nu_h1, nu_a2, nu_b2, nu_c2, nu_d2, nu_e2, nu_f2, nu_g2, nu_h2, nu_a3, nu_b3, nu_c3, nu_d3, nu_e3, nu_f3, nu_g3, nu_h3, nu_a4, nu_b4, nu_c4, nu_d4, nu_e4, nu_f4, nu_g4, nu_h4, nu_a5, nu_b5, nu_c5, nu_d5, nu_e5, nu_f5, nu_g5, nu_h5, nu_a6, nu_b6, nu_c6, nu_d6, nu_e6, nu_f6, nu_g6, nu_h6, nu_a7, nu_b7, nu_c7, nu_d7, nu_e7, nu_f7, nu_g7, nu_h7, nu_a16, nu_b16, nu_c16, nu_d16, nu_e16, nu_f16, nu_g16, nu_h16, nu_neg, nu_pos, nu_01, nu_40, nu_30, nu_20, nu_160, Int32.add_zero, Nat.reduceAdd, nu_m16, nu_16m, nu_m4, nu_4m, nu_m3, nu_3m, nu_m2, nu_2m, nI_1, nu_p2, nu_p3, nu_16p, nu_2p, nI_add, nu_cl, nu_in, Nat.add_zero, nu_l0, nu_l1, nu_l2, nu_l3, nu_l4, nu_i0_5, nu_i1_5, nu_i2_5, nu_i0_3, nu_i1_3, nu_i2_3, nu_n0, nu_n1, nu_na0, nu_na1, forall_eq, true_implies, false_implies, implies_true, not_true_eq_false, not_false_eq_true, and_true, true_and, and_self, true_or, or_true, false_or, or_false, false_and, and_false, eq_self]
          exact hp
        · simp (disch := omega) only [wpY_merge, wpY_in, vy_err, h, f, nu_eq, nu_k01, nu_k02, nu_k03, nu_k04, nu_k05, nu_k10, nu_k12, nu_k13, nu_k14, nu_k15, nu_k20, nu_k21, nu_k23, nu_k24, nu_k25, nu_k30, nu_k31, nu_k32, nu_k34, nu_k35, nu_k40, nu_k41, nu_k42, nu_k43, nu_k45, nu_k50, nu_k51, nu_k52, nu_k53, nu_k54, nu_a1, nu_b1, nu_c1, nu_d1, nu_e1, nu_f1, nu_g1, nu_h1, nu_a2, nu_b2, nu_c2, nu_d2, nu_e2, nu_f2, nu_g2, nu_h2, nu_a3, nu_b3, nu_c3, nu_d3, nu_e3, nu_f3, nu_g3, nu_h3, nu_a4, nu_b4, nu_c4, nu_d4, nu_e4, nu_f4, nu_g4, nu_h4, nu_a5, nu_b5, nu_c5, nu_d5, nu_e5, nu_f5, nu_g5, nu_h5, nu_a6, nu_b6, nu_c6, nu_d6, nu_e6, nu_f6, nu_g6, nu_h6, nu_a7, nu_b7, nu_c7, nu_d7, nu_e7, nu_f7, nu_g7, nu_h7, nu_a16, nu_b16, nu_c16, nu_d16, nu_e16, nu_f16, nu_g16, nu_h16, nu_neg, nu_pos, nu_01, nu_40, nu_30, nu_20, nu_160, Int32.add_zero, Nat.reduceAdd, nu_m16, nu_16m, nu_m4, nu_4m, nu_m3, nu_3m, nu_m2, nu_2m, nI_1, nu_p2, nu_p3, nu_16p, nu_2p, nI_add, nu_cl, nu_in, Nat.add_zero, nu_l0, nu_l1, nu_l2, nu_l3, nu_l4, nu_i0_5, nu_i1_5, nu_i2_5, nu_i0_3, nu_i1_3, nu_i2_3, nu_n0, nu_n1, nu_na0, nu_na1, forall_eq, true_implies, false_implies, implies_true, not_true_eq_false, not_false_eq_true, and_true, true_and, and_self, true_or, or_true, false_or, or_false, false_and, and_false, eq_self]
          exact hp
      · refine ⟨(-1), (nI n, nI m, cc, rq, md, bk, ct, rt, rc, lk, wt, wc, ch, st, en, sn, sk, sr, fr, lf, cr, rr), (nI n, nI m, th, ch, ro, lk, st, nw, bf, ve, bk, md, yl, la, od, sm, fr, ct), ir_mk hn hm (R) hP, fun post hp => ?_, fun post hp => ?_⟩
        · simp (disch := omega) only [wpX_merge, wX_merge_76, wX_merge_81, vx_err, h, f, nu_eq, nu_k01, nu_k02, nu_k03, nu_k04, nu_k05, nu_k10, nu_k12, nu_k13, nu_k14, nu_k15, nu_k20, nu_k21, nu_k23, nu_k24, nu_k25, nu_k30, nu_k31, nu_k32, nu_k34, nu_k35, nu_k40, nu_k41, nu_k42, nu_k43, nu_k45, nu_k50, nu_k51, nu_k52, nu_k53, nu_k54, nu_a1, nu_b1, nu_c1, nu_d1, nu_e1, nu_f1, nu_g1, nu_h1, nu_a2, nu_b2, nu_c2, nu_d2, nu_e2, nu_f2, nu_g2, nu_h2, nu_a3, nu_b3, nu_c3, nu_d3, nu_e3, nu_f3, nu_g3, nu_h3, nu_a4, nu_b4, nu_c4, nu_d4, nu_e4, nu_f4, nu_g4, nu_h4, nu_a5, nu_b5, nu_c5, nu_d5, nu_e5, nu_f5, nu_g5, nu_h5, nu_a6, nu_b6, nu_c6, nu_d6, nu_e6, nu_f6, nu_g6, nu_h6, nu_a7, nu_b7, nu_c7, nu_d7, nu_e7, nu_f7, nu_g7, nu_h7, nu_a16, nu_b16, nu_c16, nu_d16, nu_e16, nu_f16, nu_g16, nu_h16, nu_neg, nu_pos, q, nu_01, nu_40, nu_30, nu_20, nu_160, Int32.add_zero, Nat.reduceAdd, nu_m16, nu_16m, nu_m4, nu_4m, nu_m3, nu_3m, nu_m2, nu_2m, nI_1, nu_p2, nu_p3, nu_16p, nu_2p, nI_add, nu_cl, nu_in, Nat.add_zero, nu_l0, nu_l1, nu_l2, nu_l3, nu_l4, nu_i0_5, nu_i1_5, nu_i2_5, nu_i0_3, nu_i1_3, nu_i2_3, nu_n0, nu_n1, nu_na0, nu_na1, forall_eq, true_implies, false_implies, implies_true, not_true_eq_false, not_false_eq_true, and_true, true_and, and_self, true_or, or_true, false_or, or_false, false_and, and_false, eq_self]
          exact hp
        · simp (disch := omega) only [wpY_merge, wpY_in, vy_err, h, f, nu_eq, nu_k01, nu_k02, nu_k03, nu_k04, nu_k05, nu_k10, nu_k12, nu_k13, nu_k14, nu_k15, nu_k20, nu_k21, nu_k23, nu_k24, nu_k25, nu_k30, nu_k31, nu_k32, nu_k34, nu_k35, nu_k40, nu_k41, nu_k42, nu_k43, nu_k45, nu_k50, nu_k51, nu_k52, nu_k53, nu_k54, nu_a1, nu_b1, nu_c1, nu_d1, nu_e1, nu_f1, nu_g1, nu_h1, nu_a2, nu_b2, nu_c2, nu_d2, nu_e2, nu_f2, nu_g2, nu_h2, nu_a3, nu_b3, nu_c3, nu_d3, nu_e3, nu_f3, nu_g3, nu_h3, nu_a4, nu_b4, nu_c4, nu_d4, nu_e4, nu_f4, nu_g4, nu_h4, nu_a5, nu_b5, nu_c5, nu_d5, nu_e5, nu_f5, nu_g5, nu_h5, nu_a6, nu_b6, nu_c6, nu_d6, nu_e6, nu_f6, nu_g6, nu_h6, nu_a7, nu_b7, nu_c7, nu_d7, nu_e7, nu_f7, nu_g7, nu_h7, nu_a16, nu_b16, nu_c16, nu_d16, nu_e16, nu_f16, nu_g16, nu_h16, nu_neg, nu_pos, q, nu_01, nu_40, nu_30, nu_20, nu_160, Int32.add_zero, Nat.reduceAdd, nu_m16, nu_16m, nu_m4, nu_4m, nu_m3, nu_3m, nu_m2, nu_2m, nI_1, nu_p2, nu_p3, nu_16p, nu_2p, nI_add, nu_cl, nu_in, Nat.add_zero, nu_l0, nu_l1, nu_l2, nu_l3, nu_l4, nu_i0_5, nu_i1_5, nu_i2_5, nu_i0_3, nu_i1_3, nu_i2_3, nu_n0, nu_n1, nu_na0, nu_na1, forall_eq, true_implies, false_implies, implies_true, not_true_eq_false, not_false_eq_true, and_true, true_and, and_self, true_or, or_true, false_or, or_false, false_and, and_false, eq_self]
          exact hp
  · refine ⟨(er_v bk v1 v3), (nI n, nI m, cc, rq, md, bk, ct, rt, rc, lk, wt, wc, ch, st, en, sn, sk, sr, fr, lf, cr, rr), (nI n, nI m, th, ch, ro, lk, st, nw, bf, ve, bk, md, yl, la, od, sm, fr, ct), ir_mk hn hm (R) hP, fun post hp => ?_, fun post hp => ?_⟩
    · simp (disch := omega) only [wpX_merge, vx_err, h, nu_a1, nu_b1, nu_c1, nu_d1, nu_e1, nu_f1, nu_g1, nu_h1, nu_a2, nu_b2, nu_c2, nu_d2, nu_e2, nu_f2, nu_g2, nu_h2, nu_a3, nu_b3, nu_c3, nu_d3, nu_e3, nu_f3, nu_g3, nu_h3, nu_a4, nu_b4, nu_c4, nu_d4, nu_e4, nu_f4, nu_g4, nu_h4, nu_a5, nu_b5, nu_c5, nu_d5, nu_e5, nu_f5, nu_g5, nu_h5, nu_a6, nu_b6, nu_c6, nu_d6, nu_e6, nu_f6, nu_g6, nu_h6, nu_a7, nu_b7, nu_c7, nu_d7, nu_e7, nu_f7, nu_g7, nu_h7, nu_a16, nu_b16, nu_c16, nu_d16, nu_e16, nu_f16, nu_g16, nu_h16, nu_neg, nu_pos, nu_01, nu_40, nu_30, nu_20, nu_160, Int32.add_zero, Nat.reduceAdd, nu_m16, nu_16m, nu_m4, nu_4m, nu_m3, nu_3m, nu_m2, nu_2m, nI_1, nu_p2, nu_p3, nu_16p, nu_2p, nI_add, nu_cl, nu_in, Nat.add_zero, nu_l0, nu_l1, nu_l2, nu_l3, nu_l4, nu_i0_5, nu_i1_5, nu_i2_5, nu_i0_3, nu_i1_3, nu_i2_3, nu_n0, nu_n1, nu_na0, nu_na1, forall_eq, true_implies, false_implies, implies_true, not_true_eq_false, not_false_eq_true, and_true, true_and, and_self, true_or, or_true, false_or, or_false, false_and, and_false, eq_self]
      exact hp
    · simp (disch := omega) only [wpY_merge, wpY_in, vy_err, h, nu_k10, nu_a1, nu_b1, nu_c1, nu_d1, nu_e1, nu_f1, nu_g1, nu_h1, nu_a2, nu_b2, nu_c2, nu_d2, nu_e2, nu_f2, nu_g2, nu_h2, nu_a3, nu_b3, nu_c3, nu_d3, nu_e3, nu_f3, nu_g3, nu_h3, nu_a4, nu_b4, nu_c4, nu_d4, nu_e4, nu_f4, nu_g4, nu_h4, nu_a5, nu_b5, nu_c5, nu_d5, nu_e5, nu_f5, nu_g5, nu_h5, nu_a6, nu_b6, nu_c6, nu_d6, nu_e6, nu_f6, nu_g6, nu_h6, nu_a7, nu_b7, nu_c7, nu_d7, nu_e7, nu_f7, nu_g7, nu_h7, nu_a16, nu_b16, nu_c16, nu_d16, nu_e16, nu_f16, nu_g16, nu_h16, nu_neg, nu_pos, nu_01, nu_40, nu_30, nu_20, nu_160, Int32.add_zero, Nat.reduceAdd, nu_m16, nu_16m, nu_m4, nu_4m, nu_m3, nu_3m, nu_m2, nu_2m, nI_1, nu_p2, nu_p3, nu_16p, nu_2p, nI_add, nu_cl, nu_in, Nat.add_zero, nu_l0, nu_l1, nu_l2, nu_l3, nu_l4, nu_i0_5, nu_i1_5, nu_i2_5, nu_i0_3, nu_i1_3, nu_i2_3, nu_n0, nu_n1, nu_na0, nu_na1, forall_eq, true_implies, false_implies, implies_true, not_true_eq_false, not_false_eq_true, and_true, true_and, and_self, true_or, or_true, false_or, or_false, false_and, and_false, eq_self]
      exact hp
end
section
section
variable {sc fc cc rq : Int32} {md bk ct rt rc wt wc ch st en sn sk sr fr lf cr rr th ro nw bf ve yl la od sm : Nat → Int32}
/-- both constructors -/
theorem in_L : ∀ (d i : Nat), i + d = 16 → ∀ lk : Nat → Int32, re_Q lk → ∃ lk', re_Q lk' ∧
    (∀ (post : SX → Prop) n, d < n → post (sc, fc, cc, rq, md, bk, ct, rt, rc, lk', wt, wc, ch, st, en, sn, sk, sr, fr, lf, cr, rr) → wX_init_169 post sc fc cc rq n (nI i) md bk ct rt rc lk wt wc ch st en sn sk sr fr lf cr rr) ∧
    (∀ (post : SY → Prop) n, d < n → post (sc, fc, th, ch, ro, lk', st, nw, bf, ve, bk, md, yl, la, od, sm, fr, ct) → wY_init_134 post sc fc n (nI i) th ch ro lk st nw bf ve bk md yl la od sm fr ct) := by
  intro d
  induction d with
  | zero =>
    intro i hi lk hQ
    refine ⟨lk, hQ, fun post n hn hp => ?_, fun post n hn hp => ?_⟩
    · obtain ⟨n, rfl⟩ : ∃ n', n = n' + 1 := ⟨n - 1, by omega⟩
      simp (disch := omega) only [wX_init_169, nu_a16, forall_eq, true_implies, false_implies, implies_true, not_true_eq_false, not_false_eq_true, and_true, true_and, and_self, true_or, or_true, false_or, or_false, false_and, and_false, eq_self]
      exact hp
    · obtain ⟨n, rfl⟩ : ∃ n', n = n' + 1 := ⟨n - 1, by omega⟩
      simp (disch := omega) only [wY_init_134, nu_a16, forall_eq, true_implies, false_implies, implies_true, not_true_eq_false, not_false_eq_true, and_true, true_and, and_self, true_or, or_true, false_or, or_false, false_and, and_false, eq_self]
      exact hp
  | succ d ih =>
    intro i hi lk hQ
    obtain ⟨lk', hQ', hX, hY⟩ := ih (i + 1) (by omega) (upd lk i (-1)) (re_Qu hQ (Or.inl rfl))
    refine ⟨lk', hQ', fun post n hn hp => ?_, fun post n hn hp => ?_⟩
    · obtain ⟨n, rfl⟩ : ∃ n', n = n' + 1 := ⟨n - 1, by omega⟩
      simp (disch := omega) only [wX_init_169, nu_b16, nu_01, nu_40, nu_30, nu_20, nu_160, Int32.add_zero, Nat.reduceAdd, nu_m16, nu_16m, nu_m4, nu_4m, nu_m3, nu_3m, nu_m2, nu_2m, nI_1, nu_p2, nu_p3, nu_16p, nu_2p, nI_add, nu_cl, nu_in, Nat.add_zero, nu_l0, nu_l1, nu_l2, nu_l3, nu_l4, nu_i0_5, nu_i1_5, nu_i2_5, nu_i0_3, nu_i1_3, nu_i2_3, nu_n0, nu_n1, nu_na0, nu_na1, forall_eq, true_implies, false_implies, implies_true, not_true_eq_false, not_false_eq_true, and_true, true_and, and_self, true_or, or_true, false_or, or_false, false_and, and_false, eq_self]
      exact hX post n (by omega) hp
    · obtain ⟨n, rfl⟩ : ∃ n', n = n' + 1 := ⟨n - 1, by omega⟩
      simp (disch := omega) only [wY_init_134, nu_b16, nu_01, nu_40, nu_30, nu_20, nu_160, Int32.add_zero, Nat.reduceAdd, nu_m16, nu_16m, nu_m4, nu_4m, nu_m3, nu_3m, nu_m2, nu_2m, nI_1, nu_p2, nu_p3, nu_16p, nu_2p, nI_add, nu_cl, nu_in, Nat.add_zero, nu_l0, nu_l1, nu_l2, nu_l3, nu_l4, nu_i0_5, nu_i1_5, nu_i2_5, nu_i0_3, nu_i1_3, nu_i2_3, nu_n0, nu_n1, nu_na0, nu_na1, forall_eq, true_implies, false_implies, implies_true, not_true_eq_false, not_false_eq_true, and_true, true_and, and_self, true_or, or_true, false_or, or_false, false_and, and_false, eq_self]
      exact hY post n (by omega) hp
end
theorem i_vc0 : wpX_init (fun u => wpY_init (fun v => i_Rel 0 u v)) := by
  obtain ⟨lk', hQ', hX, hY⟩ := in_L (sc := 0) (fc := 0) (cc := 0) (rq := 0) (md := fun _ => 0) (bk := fun _ => 0) (ct := fun _ => 0) (rt := fun _ => 0) (rc := fun _ => 0) (wt := fun _ => 0) (wc := fun _ => 0) (ch := fun _ => 0) (st := fun _ => 0) (en := fun _ => 0) (sn := fun _ => 0) (sk := fun _ => 0) (sr := fun _ => 0) (fr := fun _ => 0) (lf := fun _ => 0) (cr := fun _ => 0) (rr := fun _ => 0) (th := fun _ => 0) (ro := fun _ => 0) (nw := fun _ => 0) (bf := fun _ => 0) (ve := fun _ => 0) (yl := fun _ => 0) (la := fun _ => 0) (od := fun _ => 0) (sm := fun _ => 0) 16 0 rfl (fun _ => 0) (fun _ => Or.inr ⟨0, by decide, rfl⟩)
  have hR : re_R (fun _ => 0) (fun _ => 0) (fun _ => 0) lk' (fun _ => 0) (fun _ => 0) (fun _ => 0) (fun _ => 0) (fun _ => 0) (fun _ => 0) (fun _ => 0) (fun _ => 0) (fun _ => 0) (fun _ => 0) (fun _ => 0) (fun _ => 0) := by
    refine ⟨fun _ => Or.inl rfl, fun _ => Or.inl rfl, fun _ => Or.inl rfl, fun _ => Or.inl rfl, hQ', fun _ => Or.inl rfl, fun _ _ => ⟨rfl, rfl⟩, fun _ _ _ _ => ⟨rfl, rfl⟩, fun _ _ => Or.inr ⟨0, by decide, rfl⟩, fun _ _ => Or.inr ⟨0, by decide, rfl⟩, fun _ _ _ _ _ _ => rfl, fun _ _ _ _ => rfl, fun _ _ _ => rfl⟩
  simp only [wpX_init, wpY_init]
  refine ⟨17, hX _ 17 (by decide) ⟨17, hY _ 17 (by decide) ?_⟩⟩
  exact ir_mk (n := 0) (m := 0) (by decide) (by decide) hR re_P0
section
variable {sc fc cc rq : Int32} {md bk ct rt rc wt wc ch st en sn sk sr fr lf cr rr th ro nw bf ve yl la od sm : Nat → Int32}
theorem un_L {s : Nat} (hs : s < 3) : ∀ (d i : Nat), i + d = 16 → ∀ lk : Nat → Int32, re_Q lk → ∃ lk', re_Q lk' ∧
    (∀ (post : SX → Prop) n, d < n → post (sc, fc, cc, rq, md, bk, ct, rt, rc, lk', wt, wc, ch, st, en, sn, sk, sr, fr, lf, cr, rr) → wX_undoWritten_2 post (nI s) sc fc cc rq n (nI i) md bk ct rt rc lk wt wc ch st en sn sk sr fr lf cr rr) ∧
    (∀ (post : SY → Prop) n, d < n → post (sc, fc, th, ch, ro, lk', st, nw, bf, ve, bk, md, yl, la, od, sm, fr, ct) → wY_undo_2 post (nI s) sc fc n (nI i) th ch ro lk st nw bf ve bk md yl la od sm fr ct) := by
  intro d
  induction d with
  | zero =>
    intro i hi lk hQ
    refine ⟨lk, hQ, fun post n hn hp => ?_, fun post n hn hp => ?_⟩
    · obtain ⟨n, rfl⟩ : ∃ n', n = n' + 1 := ⟨n - 1, by omega⟩
      simp (disch := omega) only [wX_undoWritten_2, nu_a16, forall_eq, true_implies, false_implies, implies_true, not_true_eq_false, not_false_eq_true, and_true, true_and, and_self, true_or, or_true, false_or, or_false, false_and, and_false, eq_self]
      exact hp
    · obtain ⟨n, rfl⟩ : ∃ n', n = n' + 1 := ⟨n - 1, by omega⟩
      simp (disch := omega) only [wY_undo_2, nu_a16, forall_eq, true_implies, false_implies, implies_true, not_true_eq_false, not_false_eq_true, and_true, true_and, and_self, true_or, or_true, false_or, or_false, false_and, and_false, eq_self]
      exact hp
  | succ d ih =>
    intro i hi lk hQ
    by_cases h : lk i = nI s
    · obtain ⟨lk', hQ', hX, hY⟩ := ih (i + 1) (by omega) (upd lk i (-1)) (re_Qu hQ (Or.inl rfl))
      refine ⟨lk', hQ', fun post n hn hp => ?_, fun post n hn hp => ?_⟩
      · obtain ⟨n, rfl⟩ : ∃ n', n = n' + 1 := ⟨n - 1, by omega⟩
        simp (disch := omega) only [wX_undoWritten_2, nu_b16, h, nu_01, nu_40, nu_30, nu_20, nu_160, Int32.add_zero, Nat.reduceAdd, nu_m16, nu_16m, nu_m4, nu_4m, nu_m3, nu_3m, nu_m2, nu_2m, nI_1, nu_p2, nu_p3, nu_16p, nu_2p, nI_add, nu_cl, nu_in, Nat.add_zero, nu_l0, nu_l1, nu_l2, nu_l3, nu_l4, nu_i0_5, nu_i1_5, nu_i2_5, nu_i0_3, nu_i1_3, nu_i2_3, nu_n0, nu_n1, nu_na0, nu_na1, forall_eq, true_implies, false_implies, implies_true, not_true_eq_false, not_false_eq_true, and_true, true_and, and_self, true_or, or_true, false_or, or_false, false_and, and_false, eq_self]
        exact hX post n (by omega) hp
      · obtain ⟨n, rfl⟩ : ∃ n', n = n' + 1 := ⟨n - 1, by omega⟩
        simp (disch := omega) only [wY_undo_2, nu_b16, h, nu_01, nu_40, nu_30, nu_20, nu_160, Int32.add_zero, Nat.reduceAdd, nu_m16, nu_16m, nu_m4, nu_4m, nu_m3, nu_3m, nu_m2, nu_2m, nI_1, nu_p2, nu_p3, nu_16p, nu_2p, nI_add, nu_cl, nu_in, Nat.add_zero, nu_l0, nu_l1, nu_l2, nu_l3, nu_l4, nu_i0_5, nu_i1_5, nu_i2_5, nu_i0_3, nu_i1_3, nu_i2_3, nu_n0, nu_n1, nu_na0, nu_na1, forall_eq, true_implies, false_implies, implies_true, not_true_eq_false, not_false_eq_true, and_true, true_and, and_self, true_or, or_true, false_or, or_false, false_and, and_false, eq_self]
        exact hY post n (by omega) hp
    · obtain ⟨lk', hQ', hX, hY⟩ := ih (i + 1) (by omega) lk hQ
      refine ⟨lk', hQ', fun post n hn hp => ?_, fun post n hn hp => ?_⟩
      · obtain ⟨n, rfl⟩ : ∃ n', n = n' + 1 := ⟨n - 1, by omega⟩
        simp (disch := omega) only [wX_undoWritten_2, nu_b16, h, nu_01, nu_40, nu_30, nu_20, nu_160, Int32.add_zero, Nat.reduceAdd, nu_m16, nu_16m, nu_m4, nu_4m, nu_m3, nu_3m, nu_m2, nu_2m, nI_1, nu_p2, nu_p3, nu_16p, nu_2p, nI_add, nu_cl, nu_in, Nat.add_zero, nu_l0, nu_l1, nu_l2, nu_l3, nu_l4, nu_i0_5, nu_i1_5, nu_i2_5, nu_i0_3, nu_i1_3, nu_i2_3, nu_n0, nu_n1, nu_na0, nu_na1, forall_eq, true_implies, false_implies, implies_true, not_true_eq_false, not_false_eq_true, and_true, true_and, and_self, true_or, or_true, false_or, or_false, false_and, and_false, eq_self]
        exact hX post n (by omega) hp
      · obtain ⟨n, rfl⟩ : ∃ n', n = n' + 1 := ⟨n - 1, by omega⟩
        simp (disch := omega) only [wY_undo_2, nu_b16, h, nu_01, nu_40, nu_30, nu_20, nu_160, Int32.add_zero, Nat.reduceAdd, nu_m16, nu_16m, nu_m4, nu_4m, nu_m3, nu_3m, nu_m2, nu_2m, nI_1, nu_p2, nu_p3, nu_16p, nu_2p, nI_add, nu_cl, nu_in, Nat.add_zero, nu_l0, nu_l1, nu_l2, nu_l3, nu_l4, nu_i0_5, nu_i1_5, nu_i2_5, nu_i0_3, nu_i1_3, nu_i2_3, nu_n0, nu_n1, nu_na0, nu_na1, forall_eq, true_implies, false_implies, implies_true, not_true_eq_false, not_false_eq_true, and_true, true_and, and_self, true_or, or_true, false_or, or_false, false_and, and_false, eq_self]
        exact hY post n (by omega) hp
end
section
variable {md bk rt rc lk wt wc ch st en sn th ro nw bf ve : Nat → Int32}
variable (sc fc cc rq : Int32) (ct sk sr fr lf cr rr yl la od sm : Nat → Int32)
theorem un_S {s : Nat} (hs : s < 3) (R : re_R md bk ch lk st rt rc wt wc en sn th ro nw bf ve) : ∃ lk', re_R md bk ch lk' st rt rc wt wc en sn th ro nw bf ve ∧
    (∀ post : SX → Prop, post (sc, fc, cc, rq, md, bk, ct, rt, rc, lk', wt, wc, ch, st, en, sn, sk, sr, fr, lf, cr, rr) → wpX_undoWritten post (sc, fc, cc, rq, md, bk, ct, rt, rc, lk, wt, wc, ch, st, en, sn, sk, sr, fr, lf, cr, rr) (nI s)) ∧ (∀ post : SY → Prop, post (sc, fc, th, ch, ro, lk', st, nw, bf, ve, bk, md, yl, la, od, sm, fr, ct) → wpY_undo post (sc, fc, th, ch, ro, lk, st, nw, bf, ve, bk, md, yl, la, od, sm, fr, ct) (nI s)) := by
  obtain ⟨lk', hQ', hX, hY⟩ := un_L (sc := sc) (fc := fc) (cc := cc) (rq := rq) (md := md) (bk := bk) (ct := ct) (rt := rt) (rc := rc) (wt := wt) (wc := wc) (ch := ch) (st := st) (en := en) (sn := sn) (sk := sk) (sr := sr) (fr := fr) (lf := lf) (cr := cr) (rr := rr) (th := th) (ro := ro) (nw := nw) (bf := bf) (ve := ve) (yl := yl) (la := la) (od := od) (sm := sm) hs 16 0 rfl lk (re_rQ R)
  refine ⟨lk', ?_, fun post hp => ?_, fun post hp => ?_⟩
  · obtain ⟨a1, a2, a3, a4, a5, a6, a7, a8, a9, a10, a11, a12, a13⟩ := R
    exact ⟨a1, a2, a3, a4, hQ', a6, a7, a8, a9, a10, a11, a12, a13⟩
  · simp only [wpX_undoWritten]
    exact ⟨17, hX post 17 (by decide) hp⟩
  · simp only [wpY_undo]
    exact ⟨17, hY post 17 (by decide) hp⟩
end
section
variable {sc fc cc rq : Int32} {md ct rt rc wt wc ch lk en sn sk sr fr lf cr rr th ro nw bf ve yl la od sm : Nat → Int32}
/-- a rollback takes a session's entities away -/
theorem rb_L {s : Nat} {bk : Nat → Int32} (hs : s < 3) : ∀ (d i : Nat), i + d = 16 → ∀ st : Nat → Int32, re_R md bk ch lk st rt rc wt wc en sn th ro nw bf ve → ∃ st', re_R md (upd bk s 0) ch lk st' rt rc wt wc en sn th ro nw bf ve ∧
    (∀ (post : Int32 → SX → Prop) n, d < n → post 0 (sc, fc, cc, rq, md, upd bk s 0, ct, rt, rc, lk, wt, wc, ch, st', en, sn, sk, sr, fr, lf, cr, rr) → wX_rollback_18 post (nI s) sc fc cc rq n (nI i) md bk ct rt rc lk wt wc ch st en sn sk sr fr lf cr rr) ∧
    (∀ (post : Int32 → SY → Prop) n, d < n → post 0 (sc, fc, th, ch, ro, lk, st', nw, bf, ve, upd bk s 0, md, yl, la, od, sm, fr, ct) → wY_rollback_27 post (nI s) sc fc n (nI (16 * s + i)) th ch ro lk st nw bf ve (upd bk s 0) md yl la od sm fr ct) := by
  intro d
  induction d with
  | zero =>
    intro i hi st R
    refine ⟨st, bk_R R (Or.inl rfl), fun post n hn hp => ?_, fun post n hn hp => ?_⟩
    · obtain ⟨n, rfl⟩ : ∃ n', n = n' + 1 := ⟨n - 1, by omega⟩
      simp (disch := omega) only [wX_rollback_18, nu_a16, nu_01, nu_40, nu_30, nu_20, nu_160, Int32.add_zero, Nat.reduceAdd, nu_m16, nu_16m, nu_m4, nu_4m, nu_m3, nu_3m, nu_m2, nu_2m, nI_1, nu_p2, nu_p3, nu_16p, nu_2p, nI_add, nu_cl, nu_in, Nat.add_zero, nu_l0, nu_l1, nu_l2, nu_l3, nu_l4, nu_i0_5, nu_i1_5, nu_i2_5, nu_i0_3, nu_i1_3, nu_i2_3, nu_n0, nu_n1, nu_na0, nu_na1, forall_eq, true_implies, false_implies, implies_true, not_true_eq_false, not_false_eq_true, and_true, true_and, and_self, true_or, or_true, false_or, or_false, false_and, and_false, eq_self]
      exact hp
    · obtain ⟨n, rfl⟩ : ∃ n', n = n' + 1 := ⟨n - 1, by omega⟩
      have z : 16 * s + 16 ≤ 16 * s + i := by omega
      simp (disch := omega) only [wY_rollback_27, nu_16m, nu_p16, nu_le, z, forall_eq, true_implies, false_implies, implies_true, not_true_eq_false, not_false_eq_true, and_true, true_and, and_self, true_or, or_true, false_or, or_false, false_and, and_false, eq_self]
      exact hp
  | succ d ih =>
    intro i hi st R
    obtain ⟨st', R', hX, hY⟩ := ih (i + 1) (by omega) (upd st (16 * s + i) 0) (kd_R R (Or.inl rfl) (Or.inl rfl) (fun q => absurd q (by decide)))
    refine ⟨st', R', fun post n hn hp => ?_, fun post n hn hp => ?_⟩
    · obtain ⟨n, rfl⟩ : ∃ n', n = n' + 1 := ⟨n - 1, by omega⟩
      simp (disch := omega) only [wX_rollback_18, nu_b16, nu_01, nu_40, nu_30, nu_20, nu_160, Int32.add_zero, Nat.reduceAdd, nu_m16, nu_16m, nu_m4, nu_4m, nu_m3, nu_3m, nu_m2, nu_2m, nI_1, nu_p2, nu_p3, nu_16p, nu_2p, nI_add, nu_cl, nu_in, Nat.add_zero, nu_l0, nu_l1, nu_l2, nu_l3, nu_l4, nu_i0_5, nu_i1_5, nu_i2_5, nu_i0_3, nu_i1_3, nu_i2_3, nu_n0, nu_n1, nu_na0, nu_na1, forall_eq, true_implies, false_implies, implies_true, not_true_eq_false, not_false_eq_true, and_true, true_and, and_self, true_or, or_true, false_or, or_false, false_and, and_false, eq_self]
      exact hX post n (by omega) hp
    · obtain ⟨n, rfl⟩ : ∃ n', n = n' + 1 := ⟨n - 1, by omega⟩
      have z : ¬ 16 * s + 16 ≤ 16 * s + i := by omega
      simp (disch := omega) only [wY_rollback_27, nu_p16, nu_le, z, nu_01, nu_40, nu_30, nu_20, nu_160, Int32.add_zero, Nat.reduceAdd, nu_m16, nu_16m, nu_m4, nu_4m, nu_m3, nu_3m, nu_m2, nu_2m, nI_1, nu_p2, nu_p3, nu_16p, nu_2p, nI_add, nu_cl, nu_in, Nat.add_zero, nu_l0, nu_l1, nu_l2, nu_l3, nu_l4, nu_i0_5, nu_i1_5, nu_i2_5, nu_i0_3, nu_i1_3, nu_i2_3, nu_n0, nu_n1, nu_na0, nu_na1, forall_eq, true_implies, false_implies, implies_true, not_true_eq_false, not_false_eq_true, and_true, true_and, and_self, true_or, or_true, false_or, or_false, false_and, and_false, eq_self]
      exact hY post n (by omega) hp
end
theorem rb_S {u : SX} {v : SY} (I : i_Rel 0 u v) (v1 : Int32) : sm_S (fun post => wpX_rollback post u v1) (fun post => wpY_rollback post v v1) := by
  obtain ⟨n, m, cc, rq, md, bk, ct, rt, rc, lk, wt, wc, ch, st, en, sn, sk, sr, fr, lf, cr, rr, th, ro, nw, bf, ve, yl, la, od, sm, rfl, rfl, hn, hm, R, hP⟩ := I
  by_cases t0 : v1 < 0
  · refine ⟨(-1), (nI n, nI m, cc, rq, md, bk, ct, rt, rc, lk, wt, wc, ch, st, en, sn, sk, sr, fr, lf, cr, rr), (nI n, nI m, th, ch, ro, lk, st, nw, bf, ve, bk, md, yl, la, od, sm, fr, ct), ir_mk hn hm (R) hP, fun post hp => ?_, fun post hp => ?_⟩
    · simp (disch := omega) only [wpX_rollback, t0, nu_01, nu_40, nu_30, nu_20, nu_160, Int32.add_zero, Nat.reduceAdd, nu_m16, nu_16m, nu_m4, nu_4m, nu_m3, nu_3m, nu_m2, nu_2m, nI_1, nu_p2, nu_p3, nu_16p, nu_2p, nI_add, nu_cl, nu_in, Nat.add_zero, nu_l0, nu_l1, nu_l2, nu_l3, nu_l4, nu_i0_5, nu_i1_5, nu_i2_5, nu_i0_3, nu_i1_3, nu_i2_3, nu_n0, nu_n1, nu_na0, nu_na1, forall_eq, true_implies, false_implies, implies_true, not_true_eq_false, not_false_eq_true, and_true, true_and, and_self, true_or, or_true, false_or, or_false, false_and, and_false, eq_self]
      exact hp
    · simp (disch := omega) only [wpY_rollback, wpY_in, t0, nu_01, nu_40, nu_30, nu_20, nu_160, Int32.add_zero, Nat.reduceAdd, nu_m16, nu_16m, nu_m4, nu_4m, nu_m3, nu_3m, nu_m2, nu_2m, nI_1, nu_p2, nu_p3, nu_16p, nu_2p, nI_add, nu_cl, nu_in, Nat.add_zero, nu_l0, nu_l1, nu_l2, nu_l3, nu_l4, nu_i0_5, nu_i1_5, nu_i2_5, nu_i0_3, nu_i1_3, nu_i2_3, nu_n0, nu_n1, nu_na0, nu_na1, forall_eq, true_implies, false_implies, implies_true, not_true_eq_false, not_false_eq_true, and_true, true_and, and_self, true_or, or_true, false_or, or_false, false_and, and_false, eq_self]
      exact hp
  obtain ⟨s, hs9, rfl⟩ := nI_of t0
  by_cases t3 : 3 ≤ s
  · refine ⟨(-1), (nI n, nI m, cc, rq, md, bk, ct, rt, rc, lk, wt, wc, ch, st, en, sn, sk, sr, fr, lf, cr, rr), (nI n, nI m, th, ch, ro, lk, st, nw, bf, ve, bk, md, yl, la, od, sm, fr, ct), ir_mk hn hm (R) hP, fun post hp => ?_, fun post hp => ?_⟩
    · simp (disch := omega) only [wpX_rollback, nu_a1, nu_b1, nu_c1, nu_d1, nu_e1, nu_f1, nu_g1, nu_h1, nu_a2, nu_b2, nu_c2, nu_d2, nu_e2, nu_f2, nu_g2, nu_h2, nu_a3, nu_b3, nu_c3, nu_d3, nu_e3, nu_f3, nu_g3, nu_h3, nu_a4, nu_b4, nu_c4, nu_d4, nu_e4, nu_f4, nu_g4, nu_h4, nu_a5, nu_b5, nu_c5, nu_d5, nu_e5, nu_f5, nu_g5, nu_h5, nu_a6, nu_b6, nu_c6, nu_d6, nu_e6, nu_f6, nu_g6, nu_h6, nu_a7, nu_b7, nu_c7, nu_d7, nu_e7, nu_f7, nu_g7, nu_h7, nu_a16, nu_b16, nu_c16, nu_d16, nu_e16, nu_f16, nu_g16, nu_h16, nu_neg, nu_pos, nu_01, nu_40, nu_30, nu_20, nu_160, Int32.add_zero, Nat.reduceAdd, nu_m16, nu_16m, nu_m4, nu_4m, nu_m3, nu_3m, nu_m2, nu_2m, nI_1, nu_p2, nu_p3, nu_16p, nu_2p, nI_add, nu_cl, nu_in, Nat.add_zero, nu_l0, nu_l1, nu_l2, nu_l3, nu_l4, nu_i0_5, nu_i1_5, nu_i2_5, nu_i0_3, nu_i1_3, nu_i2_3, nu_n0, nu_n1, nu_na0, nu_na1, forall_eq, true_implies, false_implies, implies_true, not_true_eq_false, not_false_eq_true, and_true, true_and, and_self, true_or, or_true, false_or, or_false, false_and, and_false, eq_self]
      exact hp
    · simp (disch := omega) only [wpY_rollback, wpY_in, nu_a1, nu_b1, nu_c1, nu_d1, nu_e1, nu_f1, nu_g1, nu_h1, nu_a2, nu_b2, nu_c2, nu_d2, nu_e2, nu_f2, nu_g2, nu_h2, nu_a3, nu_b3, nu_c3, nu_d3, nu_e3, nu_f3, nu_g3, nu_h3, nu_a4, nu_b4, nu_c4, nu_d4, nu_e4, nu_f4, nu_g4, nu_h4, nu_a5, nu_b5, nu_c5, nu_d5, nu_e5, nu_f5, nu_g5, nu_h5, nu_a6, nu_b6, nu_c6, nu_d6, nu_e6, nu_f6, nu_g6, nu_h6, nu_a7, nu_b7, nu_c7, nu_d7, nu_e7, nu_f7, nu_g7, nu_h7, nu_a16, nu_b16, nu_c16, nu_d16, nu_e16, nu_f16, nu_g16, nu_h16, nu_neg, nu_pos, nu_01, nu_40, nu_30, nu_20, nu_160, Int32.add_zero, Nat.reduceAdd, nu_m16, nu_16m, nu_m4, nu_4m, nu_m3, nu_3m, nu_m2, nu_2m, nI_1, nu_p2, nu_p3, nu_16p, nu_2p, nI_add, nu_cl, nu_in, Nat.add_zero, nu_l0, nu_l1, nu_l2, nu_l3, nu_l4, nu_i0_5, nu_i1_5, nu_i2_5, nu_i0_3, nu_i1_3, nu_i2_3, nu_n0, nu_n1, nu_na0, nu_na1, forall_eq, true_implies, false_implies, implies_true, not_true_eq_false, not_false_eq_true, and_true, true_and, and_self, true_or, or_true, false_or, or_false, false_and, and_false, eq_self]
      exact hp
  have hs : s < 3 := by omega
  obtain ⟨lk', R1, hX1, hY1⟩ := un_S (nI n) (nI m) cc rq ct sk sr fr lf cr rr yl la od sm hs R
  obtain ⟨st', R2, hX2, hY2⟩ := rb_L (sc := nI n) (fc := nI m) (cc := cc) (rq := rq) (ct := ct) (sk := sk) (sr := sr) (fr := fr) (lf := lf) (cr := cr) (rr := rr) (yl := yl) (la := la) (od := od) (sm := sm) hs 16 0 rfl st R1
  refine ⟨0, (nI n, nI m, cc, rq, md, upd bk s 0, ct, rt, rc, lk', wt, wc, ch, st', en, sn, sk, sr, fr, lf, cr, rr), (nI n, nI m, th, ch, ro, lk', st', nw, bf, ve, upd bk s 0, md, yl, la, od, sm, fr, ct), ir_mk hn hm R2 hP, fun post hp => ?_, fun post hp => ?_⟩
  · simp (disch := omega) only [wpX_rollback, nu_a1, nu_b1, nu_c1, nu_d1, nu_e1, nu_f1, nu_g1, nu_h1, nu_a2, nu_b2, nu_c2, nu_d2, nu_e2, nu_f2, nu_g2, nu_h2, nu_a3, nu_b3, nu_c3, nu_d3, nu_e3, nu_f3, nu_g3, nu_h3, nu_a4, nu_b4, nu_c4, nu_d4, nu_e4, nu_f4, nu_g4, nu_h4, nu_a5, nu_b5, nu_c5, nu_d5, nu_e5, nu_f5, nu_g5, nu_h5, nu_a6, nu_b6, nu_c6, nu_d6, nu_e6, nu_f6, nu_g6, nu_h6, nu_a7, nu_b7, nu_c7, nu_d7, nu_e7, nu_f7, nu_g7, nu_h7, nu_a16, nu_b16, nu_c16, nu_d16, nu_e16, nu_f16, nu_g16, nu_h16, nu_neg, nu_pos, forall_eq, true_implies, false_implies, implies_true, not_true_eq_false, not_false_eq_true, and_true, true_and, and_self, true_or, or_true, false_or, or_false, false_and, and_false, eq_self]
    refine hX1 _ ?_
    exact ⟨17, hX2 post 17 (by decide) hp⟩
  · simp (disch := omega) only [wpY_rollback, wpY_in, nu_k10, nu_a1, nu_b1, nu_c1, nu_d1, nu_e1, nu_f1, nu_g1, nu_h1, nu_a2, nu_b2, nu_c2, nu_d2, nu_e2, nu_f2, nu_g2, nu_h2, nu_a3, nu_b3, nu_c3, nu_d3, nu_e3, nu_f3, nu_g3, nu_h3, nu_a4, nu_b4, nu_c4, nu_d4, nu_e4, nu_f4, nu_g4, nu_h4, nu_a5, nu_b5, nu_c5, nu_d5, nu_e5, nu_f5, nu_g5, nu_h5, nu_a6, nu_b6, nu_c6, nu_d6, nu_e6, nu_f6, nu_g6, nu_h6, nu_a7, nu_b7, nu_c7, nu_d7, nu_e7, nu_f7, nu_g7, nu_h7, nu_a16, nu_b16, nu_c16, nu_d16, nu_e16, nu_f16, nu_g16, nu_h16, nu_neg, nu_pos, forall_eq, true_implies, false_implies, implies_true, not_true_eq_false, not_false_eq_true, and_true, true_and, and_self, true_or, or_true, false_or, or_false, false_and, and_false, eq_self]
    refine hY1 _ ?_
    simp (disch := omega) only [nu_01, nu_40, nu_30, nu_20, nu_160, Int32.add_zero, Nat.reduceAdd, nu_m16, nu_16m, nu_m4, nu_4m, nu_m3, nu_3m, nu_m2, nu_2m, nI_1, nu_p2, nu_p3, nu_16p, nu_2p, nI_add, nu_cl, nu_in, Nat.add_zero, nu_l0, nu_l1, nu_l2, nu_l3, nu_l4, nu_i0_5, nu_i1_5, nu_i2_5, nu_i0_3, nu_i1_3, nu_i2_3, nu_n0, nu_n1, nu_na0, nu_na1, forall_eq, true_implies, false_implies, implies_true, not_true_eq_false, not_false_eq_true, and_true, true_and, and_self, true_or, or_true, false_or, or_false, false_and, and_false, eq_self]
    exact ⟨17, hY2 post 17 (by decide) hp⟩
end
section
def sa_O (s : Nat) (st en sn : Nat → Int32) (j : Nat) : Prop := (st (16 * s + j) = 2 ∨ di_P st en sn (16 * s + j)) ∧ ∃ l, l < 16 ∧ en (4 * (16 * s + j) + 2) = nI l ∧ st (16 * s + l) = 1
def sa_V (s : Nat) (st en sn : Nat → Int32) (r : Int32) : Prop := (r = -7 ∧ ∃ j, j < 16 ∧ sa_O s st en sn j) ∨ (r = 0 ∧ ∀ j, j < 16 → ¬ sa_O s st en sn j)
theorem sa_u {s : Nat} {st en sn : Nat → Int32} {r r' : Int32} (a : sa_V s st en sn r) (b : sa_V s st en sn r') : r = r' := by
  rcases a with ⟨rfl, j, hj, a⟩ | ⟨rfl, a⟩
  · rcases b with ⟨rfl, _⟩ | ⟨rfl, b⟩
    · rfl
    · exact absurd a (b j hj)
  · rcases b with ⟨rfl, j, hj, b⟩ | ⟨rfl, _⟩
    · exact absurd b (a j hj)
    · rfl
section
variable {sc fc cc rq : Int32} {md bk ct rt rc lk wt wc ch en sn sk sr fr lf cr rr th ro nw bf ve yl la od sm : Nat → Int32}
theorem vx_sl {s : Nat} {st0 : Nat → Int32} (hs : s < 3) (hE : re_E en) (hm : ¬ md 0 = 0) : ∀ (d i : Nat), i + d = 16 → ∀ st : Nat → Int32, sv_I s (fun j => di_P st0 en sn (16 * s + j)) (fun j => en (4 * (16 * s + j) + 2)) st0 i st →
    ∃ st', sv_I s (fun j => di_P st0 en sn (16 * s + j)) (fun j => en (4 * (16 * s + j) + 2)) st0 16 st' ∧ (∀ (post : Int32 → SX → Prop) n, d < n → post 0 (sc, fc, cc, rq, md, bk, ct, rt, rc, lk, wt, wc, ch, st', en, sn, sk, sr, fr, lf, cr, rr) → wX_saveLinked_2 post (nI s) n (nI i) sc fc cc rq md bk ct rt rc lk wt wc ch st en sn sk sr fr lf cr rr) := by
  have hg : ∀ j, j < 16 → re_L (en (4 * (16 * s + j) + 2)) := fun j hj => hE (16 * s + j) (by omega)
  intro d
  induction d with
  | zero =>
    intro i hi st hI
    have e : i = 16 := by omega
    subst e
    refine ⟨st, hI, fun post n hn hp => ?_⟩
    obtain ⟨n, rfl⟩ : ∃ n', n = n' + 1 := ⟨n - 1, by omega⟩
    simp (disch := omega) only [wX_saveLinked_2, nu_a16, forall_eq, true_implies, false_implies, implies_true, not_true_eq_false, not_false_eq_true, and_true, true_and, and_self, true_or, or_true, false_or, or_false, false_and, and_false, eq_self]
    exact hp
  | succ d ih =>
    intro i hi st hI
    have hi' : i < 16 := by omega
    have hD := sv_D (en := en) (sn := sn) hI.1 (16 * s + i)
    -- the walk where nothing is written, and where something is
    by_cases w2 : st (16 * s + i) = 2
    · rcases hg i hi' with l | ⟨l, hl, gl⟩
      · obtain ⟨st', hI', hX⟩ := ih (i + 1) (by omega) st (sv_In hI (fun _ l' hl' q => absurd (l.symm.trans q) (by rw [nu_men (by omega)]; exact id)))
        refine ⟨st', hI', fun post n hn hp => ?_⟩
        obtain ⟨n, rfl⟩ : ∃ n', n = n' + 1 := ⟨n - 1, by omega⟩
        simp (disch := omega) only [wX_saveLinked_2, wX_saveLinked_45, wX_saveLinked_50, nu_b16, nu_k10, nu_m1lt, w2, l, nu_01, nu_40, nu_30, nu_20, nu_160, Int32.add_zero, Nat.reduceAdd, nu_m16, nu_16m, nu_m4, nu_4m, nu_m3, nu_3m, nu_m2, nu_2m, nI_1, nu_p2, nu_p3, nu_16p, nu_2p, nI_add, nu_cl, nu_in, Nat.add_zero, nu_l0, nu_l1, nu_l2, nu_l3, nu_l4, nu_i0_5, nu_i1_5, nu_i2_5, nu_i0_3, nu_i1_3, nu_i2_3, nu_n0, nu_n1, nu_na0, nu_na1, forall_eq, true_implies, false_implies, implies_true, not_true_eq_false, not_false_eq_true, and_true, true_and, and_self, true_or, or_true, false_or, or_false, false_and, and_false, eq_self]
        exact hX post n (by omega) hp
      · by_cases h1 : st (16 * s + l) = 1
        · obtain ⟨st', hI', hX⟩ := ih (i + 1) (by omega) _ (sv_Is hg hi' hI (Or.inl w2))
          refine ⟨st', hI', fun post n hn hp => ?_⟩
          obtain ⟨n, rfl⟩ : ∃ n', n = n' + 1 := ⟨n - 1, by omega⟩
          simp (disch := omega) only [wX_saveLinked_2, wX_saveLinked_45, wX_saveLinked_50, nu_b16, nu_k10, nu_neg, w2, gl, h1, hm, nu_01, nu_40, nu_30, nu_20, nu_160, Int32.add_zero, Nat.reduceAdd, nu_m16, nu_16m, nu_m4, nu_4m, nu_m3, nu_3m, nu_m2, nu_2m, nI_1, nu_p2, nu_p3, nu_16p, nu_2p, nI_add, nu_cl, nu_in, Nat.add_zero, nu_l0, nu_l1, nu_l2, nu_l3, nu_l4, nu_i0_5, nu_i1_5, nu_i2_5, nu_i0_3, nu_i1_3, nu_i2_3, nu_n0, nu_n1, nu_na0, nu_na1, forall_eq, true_implies, false_implies, implies_true, not_true_eq_false, not_false_eq_true, and_true, true_and, and_self, true_or, or_true, false_or, or_false, false_and, and_false, eq_self]
          refine vx_ch hs hE (Or.inr ⟨l, hl, rfl⟩) ?_
          have hx := hX post n (by omega) hp
          rw [gl] at hx
          simp (disch := omega) only [nu_01, nu_40, nu_30, nu_20, nu_160, Int32.add_zero, Nat.reduceAdd, nu_m16, nu_16m, nu_m4, nu_4m, nu_m3, nu_3m, nu_m2, nu_2m, nI_1, nu_p2, nu_p3, nu_16p, nu_2p, nI_add, nu_cl, nu_in, Nat.add_zero, nu_l0, nu_l1, nu_l2, nu_l3, nu_l4, nu_i0_5, nu_i1_5, nu_i2_5, nu_i0_3, nu_i1_3, nu_i2_3, nu_n0, nu_n1, nu_na0, nu_na1, forall_eq, true_implies, false_implies, implies_true, not_true_eq_false, not_false_eq_true, and_true, true_and, and_self, true_or, or_true, false_or, or_false, false_and, and_false, eq_self]
          exact hx
        · obtain ⟨st', hI', hX⟩ := ih (i + 1) (by omega) st (sv_In hI (fun _ l' hl' q => by
            have e : l = l' := (nI_eq (by omega) (by omega)).mp (gl.symm.trans q)
            rw [← e]
            exact h1))
          refine ⟨st', hI', fun post n hn hp => ?_⟩
          obtain ⟨n, rfl⟩ : ∃ n', n = n' + 1 := ⟨n - 1, by omega⟩
          simp (disch := omega) only [wX_saveLinked_2, wX_saveLinked_45, wX_saveLinked_50, nu_b16, nu_k10, nu_neg, w2, gl, h1, nu_01, nu_40, nu_30, nu_20, nu_160, Int32.add_zero, Nat.reduceAdd, nu_m16, nu_16m, nu_m4, nu_4m, nu_m3, nu_3m, nu_m2, nu_2m, nI_1, nu_p2, nu_p3, nu_16p, nu_2p, nI_add, nu_cl, nu_in, Nat.add_zero, nu_l0, nu_l1, nu_l2, nu_l3, nu_l4, nu_i0_5, nu_i1_5, nu_i2_5, nu_i0_3, nu_i1_3, nu_i2_3, nu_n0, nu_n1, nu_na0, nu_na1, forall_eq, true_implies, false_implies, implies_true, not_true_eq_false, not_false_eq_true, and_true, true_and, and_self, true_or, or_true, false_or, or_false, false_and, and_false, eq_self]
          exact hX post n (by omega) hp
    · by_cases wd : di_P st en sn (16 * s + i)
      · have wv := di_t wd
        rcases hg i hi' with l | ⟨l, hl, gl⟩
        · obtain ⟨st', hI', hX⟩ := ih (i + 1) (by omega) st (sv_In hI (fun _ l' hl' q => absurd (l.symm.trans q) (by rw [nu_men (by omega)]; exact id)))
          refine ⟨st', hI', fun post n hn hp => ?_⟩
          obtain ⟨n, rfl⟩ : ∃ n', n = n' + 1 := ⟨n - 1, by omega⟩
          simp (disch := omega) only [wX_saveLinked_2, wX_saveLinked_45, wX_saveLinked_50, vx_dir, nu_b16, nu_k10, nu_m1lt, w2, wv, l, nu_01, nu_40, nu_30, nu_20, nu_160, Int32.add_zero, Nat.reduceAdd, nu_m16, nu_16m, nu_m4, nu_4m, nu_m3, nu_3m, nu_m2, nu_2m, nI_1, nu_p2, nu_p3, nu_16p, nu_2p, nI_add, nu_cl, nu_in, Nat.add_zero, nu_l0, nu_l1, nu_l2, nu_l3, nu_l4, nu_i0_5, nu_i1_5, nu_i2_5, nu_i0_3, nu_i1_3, nu_i2_3, nu_n0, nu_n1, nu_na0, nu_na1, forall_eq, true_implies, false_implies, implies_true, not_true_eq_false, not_false_eq_true, and_true, true_and, and_self, true_or, or_true, false_or, or_false, false_and, and_false, eq_self]
          exact hX post n (by omega) hp
        · by_cases h1 : st (16 * s + l) = 1
          · obtain ⟨st', hI', hX⟩ := ih (i + 1) (by omega) _ (sv_Is hg hi' hI (Or.inr (hD.mp wd)))
            refine ⟨st', hI', fun post n hn hp => ?_⟩
            obtain ⟨n, rfl⟩ : ∃ n', n = n' + 1 := ⟨n - 1, by omega⟩
            simp (disch := omega) only [wX_saveLinked_2, wX_saveLinked_45, wX_saveLinked_50, vx_dir, nu_b16, nu_k10, nu_neg, w2, wv, gl, h1, hm, nu_01, nu_40, nu_30, nu_20, nu_160, Int32.add_zero, Nat.reduceAdd, nu_m16, nu_16m, nu_m4, nu_4m, nu_m3, nu_3m, nu_m2, nu_2m, nI_1, nu_p2, nu_p3, nu_16p, nu_2p, nI_add, nu_cl, nu_in, Nat.add_zero, nu_l0, nu_l1, nu_l2, nu_l3, nu_l4, nu_i0_5, nu_i1_5, nu_i2_5, nu_i0_3, nu_i1_3, nu_i2_3, nu_n0, nu_n1, nu_na0, nu_na1, forall_eq, true_implies, false_implies, implies_true, not_true_eq_false, not_false_eq_true, and_true, true_and, and_self, true_or, or_true, false_or, or_false, false_and, and_false, eq_self]
            refine vx_ch hs hE (Or.inr ⟨l, hl, rfl⟩) ?_
            have hx := hX post n (by omega) hp
            rw [gl] at hx
            simp (disch := omega) only [nu_01, nu_40, nu_30, nu_20, nu_160, Int32.add_zero, Nat.reduceAdd, nu_m16, nu_16m, nu_m4, nu_4m, nu_m3, nu_3m, nu_m2, nu_2m, nI_1, nu_p2, nu_p3, nu_16p, nu_2p, nI_add, nu_cl, nu_in, Nat.add_zero, nu_l0, nu_l1, nu_l2, nu_l3, nu_l4, nu_i0_5, nu_i1_5, nu_i2_5, nu_i0_3, nu_i1_3, nu_i2_3, nu_n0, nu_n1, nu_na0, nu_na1, forall_eq, true_implies, false_implies, implies_true, not_true_eq_false, not_false_eq_true, and_true, true_and, and_self, true_or, or_true, false_or, or_false, false_and, and_false, eq_self]
            exact hx
          · obtain ⟨st', hI', hX⟩ := ih (i + 1) (by omega) st (sv_In hI (fun _ l' hl' q => by
              have e : l = l' := (nI_eq (by omega) (by omega)).mp (gl.symm.trans q)
              rw [← e]
              exact h1))
            refine ⟨st', hI', fun post n hn hp => ?_⟩
            obtain ⟨n, rfl⟩ : ∃ n', n = n' + 1 := ⟨n - 1, by omega⟩
            simp (disch := omega) only [wX_saveLinked_2, wX_saveLinked_45, wX_saveLinked_50, vx_dir, nu_b16, nu_k10, nu_neg, w2, wv, gl, h1, nu_01, nu_40, nu_30, nu_20, nu_160, Int32.add_zero, Nat.reduceAdd, nu_m16, nu_16m, nu_m4, nu_4m, nu_m3, nu_3m, nu_m2, nu_2m, nI_1, nu_p2, nu_p3, nu_16p, nu_2p, nI_add, nu_cl, nu_in, Nat.add_zero, nu_l0, nu_l1, nu_l2, nu_l3, nu_l4, nu_i0_5, nu_i1_5, nu_i2_5, nu_i0_3, nu_i1_3, nu_i2_3, nu_n0, nu_n1, nu_na0, nu_na1, forall_eq, true_implies, false_implies, implies_true, not_true_eq_false, not_false_eq_true, and_true, true_and, and_self, true_or, or_true, false_or, or_false, false_and, and_false, eq_self]
            exact hX post n (by omega) hp
      · have wv := di_f wd
        obtain ⟨st', hI', hX⟩ := ih (i + 1) (by omega) st (sv_In hI (fun w => by
          rcases w with w | w
          · exact absurd w w2
          · exact absurd (hD.mpr w) wd))
        refine ⟨st', hI', fun post n hn hp => ?_⟩
        obtain ⟨n, rfl⟩ : ∃ n', n = n' + 1 := ⟨n - 1, by omega⟩
        simp (disch := omega) only [wX_saveLinked_2, wX_saveLinked_45, wX_saveLinked_50, vx_dir, nu_b16, w2, wv, nu_01, nu_40, nu_30, nu_20, nu_160, Int32.add_zero, Nat.reduceAdd, nu_m16, nu_16m, nu_m4, nu_4m, nu_m3, nu_3m, nu_m2, nu_2m, nI_1, nu_p2, nu_p3, nu_16p, nu_2p, nI_add, nu_cl, nu_in, Nat.add_zero, nu_l0, nu_l1, nu_l2, nu_l3, nu_l4, nu_i0_5, nu_i1_5, nu_i2_5, nu_i0_3, nu_i1_3, nu_i2_3, nu_n0, nu_n1, nu_na0, nu_na1, forall_eq, true_implies, false_implies, implies_true, not_true_eq_false, not_false_eq_true, and_true, true_and, and_self, true_or, or_true, false_or, or_false, false_and, and_false, eq_self]
        exact hX post n (by omega) hp
/-- without UP: the first that links to a TRANSIENT one -/
theorem vx_sn {s : Nat} {st : Nat → Int32} (hs : s < 3) (hE : re_E en) (hm : md 0 = 0) : ∀ (d i : Nat), i + d = 16 → (∀ j, j < i → ¬ sa_O s st en sn j) →
    ∃ r, sa_V s st en sn r ∧ (∀ (post : Int32 → SX → Prop) n, d < n → post r (sc, fc, cc, rq, md, bk, ct, rt, rc, lk, wt, wc, ch, st, en, sn, sk, sr, fr, lf, cr, rr) → wX_saveLinked_2 post (nI s) n (nI i) sc fc cc rq md bk ct rt rc lk wt wc ch st en sn sk sr fr lf cr rr) := by
  have hg : ∀ j, j < 16 → re_L (en (4 * (16 * s + j) + 2)) := fun j hj => hE (16 * s + j) (by omega)
  intro d
  induction d with
  | zero =>
    intro i hi hI
    refine ⟨0, Or.inr ⟨rfl, fun j hj => hI j (by omega)⟩, fun post n hn hp => ?_⟩
    obtain ⟨n, rfl⟩ : ∃ n', n = n' + 1 := ⟨n - 1, by omega⟩
    simp (disch := omega) only [wX_saveLinked_2, nu_a16, forall_eq, true_implies, false_implies, implies_true, not_true_eq_false, not_false_eq_true, and_true, true_and, and_self, true_or, or_true, false_or, or_false, false_and, and_false, eq_self]
    exact hp
  | succ d ih =>
    intro i hi hI
    have hi' : i < 16 := by omega
    have hgi := hg i hi'
    by_cases o : sa_O s st en sn i
    · refine ⟨-7, Or.inl ⟨rfl, i, hi', o⟩, fun post n hn hp => ?_⟩
      obtain ⟨n, rfl⟩ : ∃ n', n = n' + 1 := ⟨n - 1, by omega⟩
      obtain ⟨w, l, hl, gl, h1⟩ := o
      by_cases w2 : st (16 * s + i) = 2
      · simp (disch := omega) only [wX_saveLinked_2, wX_saveLinked_45, wX_saveLinked_50, nu_b16, nu_k10, nu_neg, w2, gl, h1, hm, nu_01, nu_40, nu_30, nu_20, nu_160, Int32.add_zero, Nat.reduceAdd, nu_m16, nu_16m, nu_m4, nu_4m, nu_m3, nu_3m, nu_m2, nu_2m, nI_1, nu_p2, nu_p3, nu_16p, nu_2p, nI_add, nu_cl, nu_in, Nat.add_zero, nu_l0, nu_l1, nu_l2, nu_l3, nu_l4, nu_i0_5, nu_i1_5, nu_i2_5, nu_i0_3, nu_i1_3, nu_i2_3, nu_n0, nu_n1, nu_na0, nu_na1, forall_eq, true_implies, false_implies, implies_true, not_true_eq_false, not_false_eq_true, and_true, true_and, and_self, true_or, or_true, false_or, or_false, false_and, and_false, eq_self]
        exact hp
      · have wv := di_t (w.resolve_left w2)
        simp (disch := omega) only [wX_saveLinked_2, wX_saveLinked_45, wX_saveLinked_50, vx_dir, nu_b16, nu_k10, nu_neg, w2, wv, gl, h1, hm, nu_01, nu_40, nu_30, nu_20, nu_160, Int32.add_zero, Nat.reduceAdd, nu_m16, nu_16m, nu_m4, nu_4m, nu_m3, nu_3m, nu_m2, nu_2m, nI_1, nu_p2, nu_p3, nu_16p, nu_2p, nI_add, nu_cl, nu_in, Nat.add_zero, nu_l0, nu_l1, nu_l2, nu_l3, nu_l4, nu_i0_5, nu_i1_5, nu_i2_5, nu_i0_3, nu_i1_3, nu_i2_3, nu_n0, nu_n1, nu_na0, nu_na1, forall_eq, true_implies, false_implies, implies_true, not_true_eq_false, not_false_eq_true, and_true, true_and, and_self, true_or, or_true, false_or, or_false, false_and, and_false, eq_self]
        exact hp
    · obtain ⟨r, hV, hX⟩ := ih (i + 1) (by omega) (fun j hj => by
        by_cases q : j = i
        · subst q
          exact o
        · exact hI j (by omega))
      refine ⟨r, hV, fun post n hn hp => ?_⟩
      have hx := hX post
      obtain ⟨n, rfl⟩ : ∃ n', n = n' + 1 := ⟨n - 1, by omega⟩
      by_cases w2 : st (16 * s + i) = 2
      · rcases hgi with l | ⟨l, hl, gl⟩
        · simp (disch := omega) only [wX_saveLinked_2, wX_saveLinked_45, wX_saveLinked_50, nu_b16, nu_k10, nu_m1lt, w2, l, nu_01, nu_40, nu_30, nu_20, nu_160, Int32.add_zero, Nat.reduceAdd, nu_m16, nu_16m, nu_m4, nu_4m, nu_m3, nu_3m, nu_m2, nu_2m, nI_1, nu_p2, nu_p3, nu_16p, nu_2p, nI_add, nu_cl, nu_in, Nat.add_zero, nu_l0, nu_l1, nu_l2, nu_l3, nu_l4, nu_i0_5, nu_i1_5, nu_i2_5, nu_i0_3, nu_i1_3, nu_i2_3, nu_n0, nu_n1, nu_na0, nu_na1, forall_eq, true_implies, false_implies, implies_true, not_true_eq_false, not_false_eq_true, and_true, true_and, and_self, true_or, or_true, false_or, or_false, false_and, and_false, eq_self]
          exact hX post n (by omega) hp
        · have h1 : ¬ st (16 * s + l) = 1 := fun q => o ⟨Or.inl w2, l, hl, gl, q⟩
          simp (disch := omega) only [wX_saveLinked_2, wX_saveLinked_45, wX_saveLinked_50, nu_b16, nu_k10, nu_neg, w2, gl, h1, nu_01, nu_40, nu_30, nu_20, nu_160, Int32.add_zero, Nat.reduceAdd, nu_m16, nu_16m, nu_m4, nu_4m, nu_m3, nu_3m, nu_m2, nu_2m, nI_1, nu_p2, nu_p3, nu_16p, nu_2p, nI_add, nu_cl, nu_in, Nat.add_zero, nu_l0, nu_l1, nu_l2, nu_l3, nu_l4, nu_i0_5, nu_i1_5, nu_i2_5, nu_i0_3, nu_i1_3, nu_i2_3, nu_n0, nu_n1, nu_na0, nu_na1, forall_eq, true_implies, false_implies, implies_true, not_true_eq_false, not_false_eq_true, and_true, true_and, and_self, true_or, or_true, false_or, or_false, false_and, and_false, eq_self]
          exact hX post n (by omega) hp
      · by_cases wd : di_P st en sn (16 * s + i)
        · have wv := di_t wd
          rcases hgi with l | ⟨l, hl, gl⟩
          · simp (disch := omega) only [wX_saveLinked_2, wX_saveLinked_45, wX_saveLinked_50, vx_dir, nu_b16, nu_k10, nu_m1lt, w2, wv, l, nu_01, nu_40, nu_30, nu_20, nu_160, Int32.add_zero, Nat.reduceAdd, nu_m16, nu_16m, nu_m4, nu_4m, nu_m3, nu_3m, nu_m2, nu_2m, nI_1, nu_p2, nu_p3, nu_16p, nu_2p, nI_add, nu_cl, nu_in, Nat.add_zero, nu_l0, nu_l1, nu_l2, nu_l3, nu_l4, nu_i0_5, nu_i1_5, nu_i2_5, nu_i0_3, nu_i1_3, nu_i2_3, nu_n0, nu_n1, nu_na0, nu_na1, forall_eq, true_implies, false_implies, implies_true, not_true_eq_false, not_false_eq_true, and_true, true_and, and_self, true_or, or_true, false_or, or_false, false_and, and_false, eq_self]
            exact hX post n (by omega) hp
          · have h1 : ¬ st (16 * s + l) = 1 := fun q => o ⟨Or.inr wd, l, hl, gl, q⟩
            simp (disch := omega) only [wX_saveLinked_2, wX_saveLinked_45, wX_saveLinked_50, vx_dir, nu_b16, nu_k10, nu_neg, w2, wv, gl, h1, nu_01, nu_40, nu_30, nu_20, nu_160, Int32.add_zero, Nat.reduceAdd, nu_m16, nu_16m, nu_m4, nu_4m, nu_m3, nu_3m, nu_m2, nu_2m, nI_1, nu_p2, nu_p3, nu_16p, nu_2p, nI_add, nu_cl, nu_in, Nat.add_zero, nu_l0, nu_l1, nu_l2, nu_l3, nu_l4, nu_i0_5, nu_i1_5, nu_i2_5, nu_i0_3, nu_i1_3, nu_i2_3, nu_n0, nu_n1, nu_na0, nu_na1, forall_eq, true_implies, false_implies, implies_true, not_true_eq_false, not_false_eq_true, and_true, true_and, and_self, true_or, or_true, false_or, or_false, false_and, and_false, eq_self]
            exact hX post n (by omega) hp
        · have wv := di_f wd
          simp (disch := omega) only [wX_saveLinked_2, wX_saveLinked_45, wX_saveLinked_50, vx_dir, nu_b16, w2, wv, nu_01, nu_40, nu_30, nu_20, nu_160, Int32.add_zero, Nat.reduceAdd, nu_m16, nu_16m, nu_m4, nu_4m, nu_m3, nu_3m, nu_m2, nu_2m, nI_1, nu_p2, nu_p3, nu_16p, nu_2p, nI_add, nu_cl, nu_in, Nat.add_zero, nu_l0, nu_l1, nu_l2, nu_l3, nu_l4, nu_i0_5, nu_i1_5, nu_i2_5, nu_i0_3, nu_i1_3, nu_i2_3, nu_n0, nu_n1, nu_na0, nu_na1, forall_eq, true_implies, false_implies, implies_true, not_true_eq_false, not_false_eq_true, and_true, true_and, and_self, true_or, or_true, false_or, or_false, false_and, and_false, eq_self]
          exact hX post n (by omega) hp
end
end
section
section
variable {sc fc : Int32} {md bk ct lk ch en sn fr th ro nw bf ve yl la od sm : Nat → Int32}
/-- one of the reference's sweeps -/
theorem vy_sw {s : Nat} {st0 st1 : Nat → Int32} {post : Int32 → SY → Prop} (hs : s < 3) (hE : re_E en) (hN0 : re_N st0 en nw) (hS : re_S sn bf) (hm : ¬ md 0 = 0) : ∀ (d i : Nat), i + d = 16 → ∀ (x : Int32) (st : Nat → Int32), sv_X s st0 st → sv_M s (fun j => di_P st0 en sn (16 * s + j)) (fun j => en (4 * (16 * s + j) + 2)) st0 st →
    ((x = 0 ∧ st = st1 ∧ ∀ j, j < i → (st1 (16 * s + j) = 2 ∨ di_P st0 en sn (16 * s + j)) → ∀ l, l < 16 → en (4 * (16 * s + j) + 2) = nI l → ¬ st1 (16 * s + l) = 1) ∨ (x = 1 ∧ sv_1 s st < sv_1 s st1)) →
    ∃ (x' : Int32) (st' : Nat → Int32), sv_X s st0 st' ∧ sv_M s (fun j => di_P st0 en sn (16 * s + j)) (fun j => en (4 * (16 * s + j) + 2)) st0 st' ∧
      ((x' = 0 ∧ sv_C s (fun j => di_P st0 en sn (16 * s + j)) (fun j => en (4 * (16 * s + j) + 2)) st') ∨ (x' = 1 ∧ sv_1 s st' < sv_1 s st1)) ∧
      (∀ (J : Int32 → (Nat → Int32) → (Nat → Int32) → (Nat → Int32) → (Nat → Int32) → (Nat → Int32) → (Nat → Int32) → (Nat → Int32) → (Nat → Int32) → (Nat → Int32) → (Nat → Int32) → (Nat → Int32) → (Nat → Int32) → (Nat → Int32) → (Nat → Int32) → (Nat → Int32) → (Nat → Int32) → Prop) n, d < n → J x' th ch ro lk st' nw bf ve bk md yl la od sm fr ct → wY_save_13 post J (nI s) sc fc n x (nI (16 * s + i)) th ch ro lk st nw bf ve bk md yl la od sm fr ct) := by
  have hg : ∀ j, j < 16 → re_L (en (4 * (16 * s + j) + 2)) := fun j hj => hE (16 * s + j) (by omega)
  intro d
  induction d with
  | zero =>
    intro i hi x st hx hM hc
    refine ⟨x, st, hx, hM, ?_, fun J n hn hp => ?_⟩
    · rcases hc with ⟨q1, q2, q3⟩ | q
      · refine Or.inl ⟨q1, ?_⟩
        rw [q2]
        exact fun j hj => q3 j (by omega)
      · exact Or.inr q
    · obtain ⟨n, rfl⟩ : ∃ n', n = n' + 1 := ⟨n - 1, by omega⟩
      have z : 16 * s + 16 ≤ 16 * s + i := by omega
      simp (disch := omega) only [wY_save_13, nu_16m, nu_p16, nu_le, z, forall_eq, true_implies, false_implies, implies_true, not_true_eq_false, not_false_eq_true, and_true, true_and, and_self, true_or, or_true, false_or, or_false, false_and, and_false, eq_self]
      exact hp
  | succ d ih =>
    intro i hi x st hx hM hc
    have hi' : i < 16 := by omega
    have z : ¬ 16 * s + 16 ≤ 16 * s + i := by omega
    have hD := sv_D (en := en) (sn := sn) hx (16 * s + i)
    have hN := sv_N hx hN0
    have hgi := hg i hi'
    have nx : ∀ (h : (st (16 * s + i) = 2 ∨ di_P st0 en sn (16 * s + i)) → ∀ l, l < 16 → en (4 * (16 * s + i) + 2) = nI l → ¬ st (16 * s + l) = 1), ((x = 0 ∧ st = st1 ∧ ∀ j, j < i + 1 → (st1 (16 * s + j) = 2 ∨ di_P st0 en sn (16 * s + j)) → ∀ l, l < 16 → en (4 * (16 * s + j) + 2) = nI l → ¬ st1 (16 * s + l) = 1) ∨ (x = 1 ∧ sv_1 s st < sv_1 s st1)) := by
      intro h
      rcases hc with ⟨q1, q2, q3⟩ | q
      · refine Or.inl ⟨q1, q2, fun j hj => ?_⟩
        by_cases e : j = i
        · subst e
          rw [← q2]
          exact h
        · exact q3 j (by omega)
      · exact Or.inr q
    by_cases w : st (16 * s + i) = 2 ∨ di_P st en sn (16 * s + i)
    · have n0 : ¬ st (16 * s + i) = 0 := by
        rcases w with w | w
        · rw [w]; decide
        · rw [w.1]; decide
      have n3 : ¬ st (16 * s + i) = 3 := by
        rcases w with w | w
        · rw [w]; decide
        · rw [w.1]; decide
      have en2 := hN (16 * s + i) (by omega) n0 n3 2 (by decide)
      rcases hgi with l | ⟨l, hl, gl⟩
      · rw [l] at en2
        obtain ⟨x', st', a1, a2, a3, hY⟩ := ih (i + 1) (by omega) x st hx hM (nx (fun _ l' hl' q => absurd (l.symm.trans q) (by rw [nu_men (by omega)]; exact id)))
        refine ⟨x', st', a1, a2, a3, fun J n hn hp => ?_⟩
        obtain ⟨n, rfl⟩ : ∃ n', n = n' + 1 := ⟨n - 1, by omega⟩
        simp (disch := omega) only [wY_save_13, nu_p16, nu_le, z, ← en2, nu_01, nu_40, nu_30, nu_20, nu_160, Int32.add_zero, Nat.reduceAdd, nu_m16, nu_16m, nu_m4, nu_4m, nu_m3, nu_3m, nu_m2, nu_2m, nI_1, nu_p2, nu_p3, nu_16p, nu_2p, nI_add, nu_cl, nu_in, Nat.add_zero, nu_l0, nu_l1, nu_l2, nu_l3, nu_l4, nu_i0_5, nu_i1_5, nu_i2_5, nu_i0_3, nu_i1_3, nu_i2_3, nu_n0, nu_n1, nu_na0, nu_na1, forall_eq, true_implies, false_implies, implies_true, not_true_eq_false, not_false_eq_true, and_true, true_and, and_self, true_or, or_true, false_or, or_false, false_and, and_false, eq_self]
        refine vy_dir (by omega) hN hS ?_
        by_cases w2 : st (16 * s + i) = 2
        · simp (disch := omega) only [wY_save_63, w2, nu_lm, nu_01, nu_40, nu_30, nu_20, nu_160, Int32.add_zero, Nat.reduceAdd, nu_m16, nu_16m, nu_m4, nu_4m, nu_m3, nu_3m, nu_m2, nu_2m, nI_1, nu_p2, nu_p3, nu_16p, nu_2p, nI_add, nu_cl, nu_in, Nat.add_zero, nu_l0, nu_l1, nu_l2, nu_l3, nu_l4, nu_i0_5, nu_i1_5, nu_i2_5, nu_i0_3, nu_i1_3, nu_i2_3, nu_n0, nu_n1, nu_na0, nu_na1, forall_eq, true_implies, false_implies, implies_true, not_true_eq_false, not_false_eq_true, and_true, true_and, and_self, true_or, or_true, false_or, or_false, false_and, and_false, eq_self]
          exact hY J n (by omega) hp
        · have wv := di_t (w.resolve_left w2)
          simp (disch := omega) only [wY_save_63, w2, wv, nu_k10, nu_lm, nu_01, nu_40, nu_30, nu_20, nu_160, Int32.add_zero, Nat.reduceAdd, nu_m16, nu_16m, nu_m4, nu_4m, nu_m3, nu_3m, nu_m2, nu_2m, nI_1, nu_p2, nu_p3, nu_16p, nu_2p, nI_add, nu_cl, nu_in, Nat.add_zero, nu_l0, nu_l1, nu_l2, nu_l3, nu_l4, nu_i0_5, nu_i1_5, nu_i2_5, nu_i0_3, nu_i1_3, nu_i2_3, nu_n0, nu_n1, nu_na0, nu_na1, forall_eq, true_implies, false_implies, implies_true, not_true_eq_false, not_false_eq_true, and_true, true_and, and_self, true_or, or_true, false_or, or_false, false_and, and_false, eq_self]
          exact hY J n (by omega) hp
      · rw [gl] at en2
        by_cases h1 : st (16 * s + l) = 1
        · have hf : ∀ st', sv_X s st0 st' → sv_C s (fun j => di_P st0 en sn (16 * s + j)) (fun j => en (4 * (16 * s + j) + 2)) st' → ¬ st' (16 * s + l) = 1 := by
            intro st' x' c'
            refine c' i hi' ?_ l hl gl
            rcases w with w | w
            · exact Or.inl (hM st' x' c' _ w)
            · exact Or.inr (hD.mp w)
          have hlt : sv_1 s (upd st (16 * s + l) 2) < sv_1 s st1 := by
            have := sv_1u (s := s) hl h1
            rcases hc with ⟨_, q2, _⟩ | q
            · rw [← q2]
              exact this
            · have := q.2
              omega
          obtain ⟨x', st', a1, a2, a3, hY⟩ := ih (i + 1) (by omega) 1 (upd st (16 * s + l) 2) (sv_X1 hx hl h1) (sv_M1 hM hx h1 hf) (Or.inr ⟨rfl, hlt⟩)
          refine ⟨x', st', a1, a2, a3, fun J n hn hp => ?_⟩
          obtain ⟨n, rfl⟩ : ∃ n', n = n' + 1 := ⟨n - 1, by omega⟩
          simp (disch := omega) only [wY_save_13, nu_p16, nu_le, z, ← en2, nu_01, nu_40, nu_30, nu_20, nu_160, Int32.add_zero, Nat.reduceAdd, nu_m16, nu_16m, nu_m4, nu_4m, nu_m3, nu_3m, nu_m2, nu_2m, nI_1, nu_p2, nu_p3, nu_16p, nu_2p, nI_add, nu_cl, nu_in, Nat.add_zero, nu_l0, nu_l1, nu_l2, nu_l3, nu_l4, nu_i0_5, nu_i1_5, nu_i2_5, nu_i0_3, nu_i1_3, nu_i2_3, nu_n0, nu_n1, nu_na0, nu_na1, forall_eq, true_implies, false_implies, implies_true, not_true_eq_false, not_false_eq_true, and_true, true_and, and_self, true_or, or_true, false_or, or_false, false_and, and_false, eq_self]
          refine vy_dir (by omega) hN hS ?_
          by_cases w2 : st (16 * s + i) = 2
          · simp (disch := omega) only [wY_save_63, w2, h1, hm, nu_nl, nu_01, nu_40, nu_30, nu_20, nu_160, Int32.add_zero, Nat.reduceAdd, nu_m16, nu_16m, nu_m4, nu_4m, nu_m3, nu_3m, nu_m2, nu_2m, nI_1, nu_p2, nu_p3, nu_16p, nu_2p, nI_add, nu_cl, nu_in, Nat.add_zero, nu_l0, nu_l1, nu_l2, nu_l3, nu_l4, nu_i0_5, nu_i1_5, nu_i2_5, nu_i0_3, nu_i1_3, nu_i2_3, nu_n0, nu_n1, nu_na0, nu_na1, forall_eq, true_implies, false_implies, implies_true, not_true_eq_false, not_false_eq_true, and_true, true_and, and_self, true_or, or_true, false_or, or_false, false_and, and_false, eq_self]
            exact hY J n (by omega) hp
          · have wv := di_t (w.resolve_left w2)
            simp (disch := omega) only [wY_save_63, w2, wv, h1, hm, nu_k10, nu_nl, nu_01, nu_40, nu_30, nu_20, nu_160, Int32.add_zero, Nat.reduceAdd, nu_m16, nu_16m, nu_m4, nu_4m, nu_m3, nu_3m, nu_m2, nu_2m, nI_1, nu_p2, nu_p3, nu_16p, nu_2p, nI_add, nu_cl, nu_in, Nat.add_zero, nu_l0, nu_l1, nu_l2, nu_l3, nu_l4, nu_i0_5, nu_i1_5, nu_i2_5, nu_i0_3, nu_i1_3, nu_i2_3, nu_n0, nu_n1, nu_na0, nu_na1, forall_eq, true_implies, false_implies, implies_true, not_true_eq_false, not_false_eq_true, and_true, true_and, and_self, true_or, or_true, false_or, or_false, false_and, and_false, eq_self]
            exact hY J n (by omega) hp
        · obtain ⟨x', st', a1, a2, a3, hY⟩ := ih (i + 1) (by omega) x st hx hM (nx (fun _ l' hl' q => by
            have e : l = l' := (nI_eq (by omega) (by omega)).mp (gl.symm.trans q)
            rw [← e]
            exact h1))
          refine ⟨x', st', a1, a2, a3, fun J n hn hp => ?_⟩
          obtain ⟨n, rfl⟩ : ∃ n', n = n' + 1 := ⟨n - 1, by omega⟩
          simp (disch := omega) only [wY_save_13, nu_p16, nu_le, z, ← en2, nu_01, nu_40, nu_30, nu_20, nu_160, Int32.add_zero, Nat.reduceAdd, nu_m16, nu_16m, nu_m4, nu_4m, nu_m3, nu_3m, nu_m2, nu_2m, nI_1, nu_p2, nu_p3, nu_16p, nu_2p, nI_add, nu_cl, nu_in, Nat.add_zero, nu_l0, nu_l1, nu_l2, nu_l3, nu_l4, nu_i0_5, nu_i1_5, nu_i2_5, nu_i0_3, nu_i1_3, nu_i2_3, nu_n0, nu_n1, nu_na0, nu_na1, forall_eq, true_implies, false_implies, implies_true, not_true_eq_false, not_false_eq_true, and_true, true_and, and_self, true_or, or_true, false_or, or_false, false_and, and_false, eq_self]
          refine vy_dir (by omega) hN hS ?_
          by_cases w2 : st (16 * s + i) = 2
          · simp (disch := omega) only [wY_save_63, w2, h1, nu_nl, nu_01, nu_40, nu_30, nu_20, nu_160, Int32.add_zero, Nat.reduceAdd, nu_m16, nu_16m, nu_m4, nu_4m, nu_m3, nu_3m, nu_m2, nu_2m, nI_1, nu_p2, nu_p3, nu_16p, nu_2p, nI_add, nu_cl, nu_in, Nat.add_zero, nu_l0, nu_l1, nu_l2, nu_l3, nu_l4, nu_i0_5, nu_i1_5, nu_i2_5, nu_i0_3, nu_i1_3, nu_i2_3, nu_n0, nu_n1, nu_na0, nu_na1, forall_eq, true_implies, false_implies, implies_true, not_true_eq_false, not_false_eq_true, and_true, true_and, and_self, true_or, or_true, false_or, or_false, false_and, and_false, eq_self]
            exact hY J n (by omega) hp
          · have wv := di_t (w.resolve_left w2)
            simp (disch := omega) only [wY_save_63, w2, wv, h1, nu_k10, nu_nl, nu_01, nu_40, nu_30, nu_20, nu_160, Int32.add_zero, Nat.reduceAdd, nu_m16, nu_16m, nu_m4, nu_4m, nu_m3, nu_3m, nu_m2, nu_2m, nI_1, nu_p2, nu_p3, nu_16p, nu_2p, nI_add, nu_cl, nu_in, Nat.add_zero, nu_l0, nu_l1, nu_l2, nu_l3, nu_l4, nu_i0_5, nu_i1_5, nu_i2_5, nu_i0_3, nu_i1_3, nu_i2_3, nu_n0, nu_n1, nu_na0, nu_na1, forall_eq, true_implies, false_implies, implies_true, not_true_eq_false, not_false_eq_true, and_true, true_and, and_self, true_or, or_true, false_or, or_false, false_and, and_false, eq_self]
            exact hY J n (by omega) hp
    · have w2 : ¬ st (16 * s + i) = 2 := fun q => w (Or.inl q)
      have wv := di_f (fun q => w (Or.inr q))
      obtain ⟨x', st', a1, a2, a3, hY⟩ := ih (i + 1) (by omega) x st hx hM (nx (fun q => absurd (by
        rcases q with q | q
        · exact Or.inl q
        · exact Or.inr (hD.mpr q)) w))
      refine ⟨x', st', a1, a2, a3, fun J n hn hp => ?_⟩
      obtain ⟨n, rfl⟩ : ∃ n', n = n' + 1 := ⟨n - 1, by omega⟩
      simp (disch := omega) only [wY_save_13, nu_p16, nu_le, z, nu_01, nu_40, nu_30, nu_20, nu_160, Int32.add_zero, Nat.reduceAdd, nu_m16, nu_16m, nu_m4, nu_4m, nu_m3, nu_3m, nu_m2, nu_2m, nI_1, nu_p2, nu_p3, nu_16p, nu_2p, nI_add, nu_cl, nu_in, Nat.add_zero, nu_l0, nu_l1, nu_l2, nu_l3, nu_l4, nu_i0_5, nu_i1_5, nu_i2_5, nu_i0_3, nu_i1_3, nu_i2_3, nu_n0, nu_n1, nu_na0, nu_na1, forall_eq, true_implies, false_implies, implies_true, not_true_eq_false, not_false_eq_true, and_true, true_and, and_self, true_or, or_true, false_or, or_false, false_and, and_false, eq_self]
      refine vy_dir (by omega) hN hS ?_
      simp (disch := omega) only [w2, wv, nu_01, nu_40, nu_30, nu_20, nu_160, Int32.add_zero, Nat.reduceAdd, nu_m16, nu_16m, nu_m4, nu_4m, nu_m3, nu_3m, nu_m2, nu_2m, nI_1, nu_p2, nu_p3, nu_16p, nu_2p, nI_add, nu_cl, nu_in, Nat.add_zero, nu_l0, nu_l1, nu_l2, nu_l3, nu_l4, nu_i0_5, nu_i1_5, nu_i2_5, nu_i0_3, nu_i1_3, nu_i2_3, nu_n0, nu_n1, nu_na0, nu_na1, forall_eq, true_implies, false_implies, implies_true, not_true_eq_false, not_false_eq_true, and_true, true_and, and_self, true_or, or_true, false_or, or_false, false_and, and_false, eq_self]
      exact hY J n (by omega) hp
theorem vy_sl {s : Nat} {st0 : Nat → Int32} (hs : s < 3) (hE : re_E en) (hN0 : re_N st0 en nw) (hS : re_S sn bf) (hm : ¬ md 0 = 0) : ∀ (d : Nat) (st : Nat → Int32), sv_1 s st ≤ d → sv_X s st0 st → sv_M s (fun j => di_P st0 en sn (16 * s + j)) (fun j => en (4 * (16 * s + j) + 2)) st0 st →
    ∃ st', sv_X s st0 st' ∧ sv_M s (fun j => di_P st0 en sn (16 * s + j)) (fun j => en (4 * (16 * s + j) + 2)) st0 st' ∧ sv_C s (fun j => di_P st0 en sn (16 * s + j)) (fun j => en (4 * (16 * s + j) + 2)) st' ∧
      (∀ (post : Int32 → SY → Prop) n, d + 1 < n → post 0 (sc, fc, th, ch, ro, lk, st', nw, bf, ve, bk, md, yl, la, od, sm, fr, ct) → wY_save_2 post (nI s) sc fc n 1 th ch ro lk st nw bf ve bk md yl la od sm fr ct) := by
  intro d
  induction d with
  | zero =>
    intro st h1 hx hM
    have hw := fun post => vy_sw (sc := sc) (fc := fc) (md := md) (bk := bk) (ct := ct) (lk := lk) (ch := ch) (fr := fr) (th := th) (ro := ro) (ve := ve) (yl := yl) (la := la) (od := od) (sm := sm) (post := post) (st1 := st) hs hE hN0 hS hm 16 0 rfl 0 st hx hM (Or.inl ⟨rfl, rfl, fun j hj => by omega⟩)
    obtain ⟨x', st', a1, a2, a3, _⟩ := hw (fun _ _ => True)
    have hC : sv_C s (fun j => di_P st0 en sn (16 * s + j)) (fun j => en (4 * (16 * s + j) + 2)) st := fun j hj w l hl gl => sv_10 (s := s) (st := st) (by omega) l hl
    refine ⟨st, hx, hM, hC, fun post n hn hp => ?_⟩
    obtain ⟨x', st', a1, a2, a3, hY⟩ := hw post
    obtain ⟨n, rfl⟩ : ∃ n', n = n' + 1 := ⟨n - 1, by omega⟩
    simp (disch := omega) only [wY_save_2, nu_k10, nu_01, nu_40, nu_30, nu_20, nu_160, Int32.add_zero, Nat.reduceAdd, nu_m16, nu_16m, nu_m4, nu_4m, nu_m3, nu_3m, nu_m2, nu_2m, nI_1, nu_p2, nu_p3, nu_16p, nu_2p, nI_add, nu_cl, nu_in, Nat.add_zero, nu_l0, nu_l1, nu_l2, nu_l3, nu_l4, nu_i0_5, nu_i1_5, nu_i2_5, nu_i0_3, nu_i1_3, nu_i2_3, nu_n0, nu_n1, nu_na0, nu_na1, forall_eq, true_implies, false_implies, implies_true, not_true_eq_false, not_false_eq_true, and_true, true_and, and_self, true_or, or_true, false_or, or_false, false_and, and_false, eq_self]
    refine ⟨17, hY _ 17 (by decide) ?_⟩
    rcases a3 with ⟨rfl, c3⟩ | ⟨_, q⟩
    · obtain ⟨n, rfl⟩ : ∃ n', n = n' + 1 := ⟨n - 1, by omega⟩
      rw [sv_uniq a1 c3 a2 hx hC hM]
      simp only [wY_save_2, forall_eq, true_implies, false_implies, implies_true, not_true_eq_false, not_false_eq_true, and_true, true_and, and_self, true_or, or_true, false_or, or_false, false_and, and_false, eq_self]
      exact hp
    · omega
  | succ d ih =>
    intro st h1 hx hM
    have hw := fun post => vy_sw (sc := sc) (fc := fc) (md := md) (bk := bk) (ct := ct) (lk := lk) (ch := ch) (fr := fr) (th := th) (ro := ro) (ve := ve) (yl := yl) (la := la) (od := od) (sm := sm) (post := post) (st1 := st) hs hE hN0 hS hm 16 0 rfl 0 st hx hM (Or.inl ⟨rfl, rfl, fun j hj => by omega⟩)
    obtain ⟨x', st', a1, a2, a3, _⟩ := hw (fun _ _ => True)
    have key : ∃ st2, sv_X s st0 st2 ∧ sv_M s (fun j => di_P st0 en sn (16 * s + j)) (fun j => en (4 * (16 * s + j) + 2)) st0 st2 ∧ sv_C s (fun j => di_P st0 en sn (16 * s + j)) (fun j => en (4 * (16 * s + j) + 2)) st2 := by
      rcases a3 with ⟨_, c3⟩ | ⟨_, q⟩
      · exact ⟨st', a1, a2, c3⟩
      · obtain ⟨st2, b1, b2, b3, _⟩ := ih st' (by omega) a1 a2
        exact ⟨st2, b1, b2, b3⟩
    obtain ⟨st2, b1, b2, b3⟩ := key
    refine ⟨st2, b1, b2, b3, fun post n hn hp => ?_⟩
    obtain ⟨x', st', a1, a2, a3, hY⟩ := hw post
    obtain ⟨n, rfl⟩ : ∃ n', n = n' + 1 := ⟨n - 1, by omega⟩
    simp (disch := omega) only [wY_save_2, nu_k10, nu_01, nu_40, nu_30, nu_20, nu_160, Int32.add_zero, Nat.reduceAdd, nu_m16, nu_16m, nu_m4, nu_4m, nu_m3, nu_3m, nu_m2, nu_2m, nI_1, nu_p2, nu_p3, nu_16p, nu_2p, nI_add, nu_cl, nu_in, Nat.add_zero, nu_l0, nu_l1, nu_l2, nu_l3, nu_l4, nu_i0_5, nu_i1_5, nu_i2_5, nu_i0_3, nu_i1_3, nu_i2_3, nu_n0, nu_n1, nu_na0, nu_na1, forall_eq, true_implies, false_implies, implies_true, not_true_eq_false, not_false_eq_true, and_true, true_and, and_self, true_or, or_true, false_or, or_false, false_and, and_false, eq_self]
    refine ⟨17, hY _ 17 (by decide) ?_⟩
    rcases a3 with ⟨rfl, c3⟩ | ⟨rfl, q⟩
    · obtain ⟨n, rfl⟩ : ∃ n', n = n' + 1 := ⟨n - 1, by omega⟩
      rw [sv_uniq a1 c3 a2 b1 b3 b2]
      simp only [wY_save_2, forall_eq, true_implies, false_implies, implies_true, not_true_eq_false, not_false_eq_true, and_true, true_and, and_self, true_or, or_true, false_or, or_false, false_and, and_false, eq_self]
      exact hp
    · obtain ⟨st3, d1, d2, d3, hY3⟩ := ih st' (by omega) a1 a2
      refine hY3 post n (by omega) ?_
      rw [sv_uniq d1 d3 d2 b1 b3 b2]
      exact hp
theorem vy_sn {s : Nat} {st : Nat → Int32} (hs : s < 3) (hE : re_E en) (hN : re_N st en nw) (hS : re_S sn bf) (hm : md 0 = 0) : ∀ (d i : Nat), i + d = 16 → (∀ j, j < i → ¬ sa_O s st en sn j) →
    ∃ r, sa_V s st en sn r ∧ (∀ (post : Int32 → SY → Prop) J n, d < n → post r (sc, fc, th, ch, ro, lk, st, nw, bf, ve, bk, md, yl, la, od, sm, fr, ct) → (r = 0 → J 0 th ch ro lk st nw bf ve bk md yl la od sm fr ct) → wY_save_13 post J (nI s) sc fc n 0 (nI (16 * s + i)) th ch ro lk st nw bf ve bk md yl la od sm fr ct) := by
  have hg : ∀ j, j < 16 → re_L (en (4 * (16 * s + j) + 2)) := fun j hj => hE (16 * s + j) (by omega)
  intro d
  induction d with
  | zero =>
    intro i hi hI
    refine ⟨0, Or.inr ⟨rfl, fun j hj => hI j (by omega)⟩, fun post J n hn hp hj => ?_⟩
    obtain ⟨n, rfl⟩ : ∃ n', n = n' + 1 := ⟨n - 1, by omega⟩
    have z : 16 * s + 16 ≤ 16 * s + i := by omega
    simp (disch := omega) only [wY_save_13, nu_16m, nu_p16, nu_le, z, forall_eq, true_implies, false_implies, implies_true, not_true_eq_false, not_false_eq_true, and_true, true_and, and_self, true_or, or_true, false_or, or_false, false_and, and_false, eq_self]
    exact hj rfl
  | succ d ih =>
    intro i hi hI
    have hi' : i < 16 := by omega
    have z : ¬ 16 * s + 16 ≤ 16 * s + i := by omega
    have hgi := hg i hi'
    by_cases w : st (16 * s + i) = 2 ∨ di_P st en sn (16 * s + i)
    · have n0 : ¬ st (16 * s + i) = 0 := by
        rcases w with w | w
        · rw [w]; decide
        · rw [w.1]; decide
      have n3 : ¬ st (16 * s + i) = 3 := by
        rcases w with w | w
        · rw [w]; decide
        · rw [w.1]; decide
      have en2 := hN (16 * s + i) (by omega) n0 n3 2 (by decide)
      by_cases o : sa_O s st en sn i
      · refine ⟨-7, Or.inl ⟨rfl, i, hi', o⟩, fun post J n hn hp hj => ?_⟩
        obtain ⟨n, rfl⟩ : ∃ n', n = n' + 1 := ⟨n - 1, by omega⟩
        obtain ⟨w', l, hl, gl, h1⟩ := o
        rw [gl] at en2
        simp (disch := omega) only [wY_save_13, nu_p16, nu_le, z, ← en2, nu_01, nu_40, nu_30, nu_20, nu_160, Int32.add_zero, Nat.reduceAdd, nu_m16, nu_16m, nu_m4, nu_4m, nu_m3, nu_3m, nu_m2, nu_2m, nI_1, nu_p2, nu_p3, nu_16p, nu_2p, nI_add, nu_cl, nu_in, Nat.add_zero, nu_l0, nu_l1, nu_l2, nu_l3, nu_l4, nu_i0_5, nu_i1_5, nu_i2_5, nu_i0_3, nu_i1_3, nu_i2_3, nu_n0, nu_n1, nu_na0, nu_na1, forall_eq, true_implies, false_implies, implies_true, not_true_eq_false, not_false_eq_true, and_true, true_and, and_self, true_or, or_true, false_or, or_false, false_and, and_false, eq_self]
        refine vy_dir (by omega) hN hS ?_
        by_cases w2 : st (16 * s + i) = 2
        · simp (disch := omega) only [wY_save_63, w2, h1, hm, nu_nl, nu_01, nu_40, nu_30, nu_20, nu_160, Int32.add_zero, Nat.reduceAdd, nu_m16, nu_16m, nu_m4, nu_4m, nu_m3, nu_3m, nu_m2, nu_2m, nI_1, nu_p2, nu_p3, nu_16p, nu_2p, nI_add, nu_cl, nu_in, Nat.add_zero, nu_l0, nu_l1, nu_l2, nu_l3, nu_l4, nu_i0_5, nu_i1_5, nu_i2_5, nu_i0_3, nu_i1_3, nu_i2_3, nu_n0, nu_n1, nu_na0, nu_na1, forall_eq, true_implies, false_implies, implies_true, not_true_eq_false, not_false_eq_true, and_true, true_and, and_self, true_or, or_true, false_or, or_false, false_and, and_false, eq_self]
          exact hp
        · have wv := di_t (w.resolve_left w2)
          simp (disch := omega) only [wY_save_63, w2, wv, h1, hm, nu_k10, nu_nl, nu_01, nu_40, nu_30, nu_20, nu_160, Int32.add_zero, Nat.reduceAdd, nu_m16, nu_16m, nu_m4, nu_4m, nu_m3, nu_3m, nu_m2, nu_2m, nI_1, nu_p2, nu_p3, nu_16p, nu_2p, nI_add, nu_cl, nu_in, Nat.add_zero, nu_l0, nu_l1, nu_l2, nu_l3, nu_l4, nu_i0_5, nu_i1_5, nu_i2_5, nu_i0_3, nu_i1_3, nu_i2_3, nu_n0, nu_n1, nu_na0, nu_na1, forall_eq, true_implies, false_implies, implies_true, not_true_eq_false, not_false_eq_true, and_true, true_and, and_self, true_or, or_true, false_or, or_false, false_and, and_false, eq_self]
          exact hp
      · obtain ⟨r, hV, hY⟩ := ih (i + 1) (by omega) (fun j hj => by
          by_cases q : j = i
          · subst q
            exact o
          · exact hI j (by omega))
        refine ⟨r, hV, fun post J n hn hp hj => ?_⟩
        obtain ⟨n, rfl⟩ : ∃ n', n = n' + 1 := ⟨n - 1, by omega⟩
        rcases hgi with l | ⟨l, hl, gl⟩
        · rw [l] at en2
          simp (disch := omega) only [wY_save_13, nu_p16, nu_le, z, ← en2, nu_01, nu_40, nu_30, nu_20, nu_160, Int32.add_zero, Nat.reduceAdd, nu_m16, nu_16m, nu_m4, nu_4m, nu_m3, nu_3m, nu_m2, nu_2m, nI_1, nu_p2, nu_p3, nu_16p, nu_2p, nI_add, nu_cl, nu_in, Nat.add_zero, nu_l0, nu_l1, nu_l2, nu_l3, nu_l4, nu_i0_5, nu_i1_5, nu_i2_5, nu_i0_3, nu_i1_3, nu_i2_3, nu_n0, nu_n1, nu_na0, nu_na1, forall_eq, true_implies, false_implies, implies_true, not_true_eq_false, not_false_eq_true, and_true, true_and, and_self, true_or, or_true, false_or, or_false, false_and, and_false, eq_self]
          refine vy_dir (by omega) hN hS ?_
          by_cases w2 : st (16 * s + i) = 2
          · simp (disch := omega) only [wY_save_63, w2, nu_lm, nu_01, nu_40, nu_30, nu_20, nu_160, Int32.add_zero, Nat.reduceAdd, nu_m16, nu_16m, nu_m4, nu_4m, nu_m3, nu_3m, nu_m2, nu_2m, nI_1, nu_p2, nu_p3, nu_16p, nu_2p, nI_add, nu_cl, nu_in, Nat.add_zero, nu_l0, nu_l1, nu_l2, nu_l3, nu_l4, nu_i0_5, nu_i1_5, nu_i2_5, nu_i0_3, nu_i1_3, nu_i2_3, nu_n0, nu_n1, nu_na0, nu_na1, forall_eq, true_implies, false_implies, implies_true, not_true_eq_false, not_false_eq_true, and_true, true_and, and_self, true_or, or_true, false_or, or_false, false_and, and_false, eq_self]
            exact hY post J n (by omega) hp hj
          · have wv := di_t (w.resolve_left w2)
            simp (disch := omega) only [wY_save_63, w2, wv, nu_k10, nu_lm, nu_01, nu_40, nu_30, nu_20, nu_160, Int32.add_zero, Nat.reduceAdd, nu_m16, nu_16m, nu_m4, nu_4m, nu_m3, nu_3m, nu_m2, nu_2m, nI_1, nu_p2, nu_p3, nu_16p, nu_2p, nI_add, nu_cl, nu_in, Nat.add_zero, nu_l0, nu_l1, nu_l2, nu_l3, nu_l4, nu_i0_5, nu_i1_5, nu_i2_5, nu_i0_3, nu_i1_3, nu_i2_3, nu_n0, nu_n1, nu_na0, nu_na1, forall_eq, true_implies, false_implies, implies_true, not_true_eq_false, not_false_eq_true, and_true, true_and, and_self, true_or, or_true, false_or, or_false, false_and, and_false, eq_self]
            exact hY post J n (by omega) hp hj
        · have h1 : ¬ st (16 * s + l) = 1 := fun q => o ⟨w, l, hl, gl, q⟩
          rw [gl] at en2
          simp (disch := omega) only [wY_save_13, nu_p16, nu_le, z, ← en2, nu_01, nu_40, nu_30, nu_20, nu_160, Int32.add_zero, Nat.reduceAdd, nu_m16, nu_16m, nu_m4, nu_4m, nu_m3, nu_3m, nu_m2, nu_2m, nI_1, nu_p2, nu_p3, nu_16p, nu_2p, nI_add, nu_cl, nu_in, Nat.add_zero, nu_l0, nu_l1, nu_l2, nu_l3, nu_l4, nu_i0_5, nu_i1_5, nu_i2_5, nu_i0_3, nu_i1_3, nu_i2_3, nu_n0, nu_n1, nu_na0, nu_na1, forall_eq, true_implies, false_implies, implies_true, not_true_eq_false, not_false_eq_true, and_true, true_and, and_self, true_or, or_true, false_or, or_false, false_and, and_false, eq_self]
          refine vy_dir (by omega) hN hS ?_
          by_cases w2 : st (16 * s + i) = 2
          · simp (disch := omega) only [wY_save_63, w2, h1, nu_nl, nu_01, nu_40, nu_30, nu_20, nu_160, Int32.add_zero, Nat.reduceAdd, nu_m16, nu_16m, nu_m4, nu_4m, nu_m3, nu_3m, nu_m2, nu_2m, nI_1, nu_p2, nu_p3, nu_16p, nu_2p, nI_add, nu_cl, nu_in, Nat.add_zero, nu_l0, nu_l1, nu_l2, nu_l3, nu_l4, nu_i0_5, nu_i1_5, nu_i2_5, nu_i0_3, nu_i1_3, nu_i2_3, nu_n0, nu_n1, nu_na0, nu_na1, forall_eq, true_implies, false_implies, implies_true, not_true_eq_false, not_false_eq_true, and_true, true_and, and_self, true_or, or_true, false_or, or_false, false_and, and_false, eq_self]
            exact hY post J n (by omega) hp hj
          · have wv := di_t (w.resolve_left w2)
            simp (disch := omega) only [wY_save_63, w2, wv, h1, nu_k10, nu_nl, nu_01, nu_40, nu_30, nu_20, nu_160, Int32.add_zero, Nat.reduceAdd, nu_m16, nu_16m, nu_m4, nu_4m, nu_m3, nu_3m, nu_m2, nu_2m, nI_1, nu_p2, nu_p3, nu_16p, nu_2p, nI_add, nu_cl, nu_in, Nat.add_zero, nu_l0, nu_l1, nu_l2, nu_l3, nu_l4, nu_i0_5, nu_i1_5, nu_i2_5, nu_i0_3, nu_i1_3, nu_i2_3, nu_n0, nu_n1, nu_na0, nu_na1, forall_eq, true_implies, false_implies, implies_true, not_true_eq_false, not_false_eq_true, and_true, true_and, and_self, true_or, or_true, false_or, or_false, false_and, and_false, eq_self]
            exact hY post J n (by omega) hp hj
    · have o : ¬ sa_O s st en sn i := fun q => w q.1
      obtain ⟨r, hV, hY⟩ := ih (i + 1) (by omega) (fun j hj => by
        by_cases q : j = i
        · subst q
          exact o
        · exact hI j (by omega))
      have w2 : ¬ st (16 * s + i) = 2 := fun q => w (Or.inl q)
      have wv := di_f (fun q => w (Or.inr q))
      refine ⟨r, hV, fun post J n hn hp hj => ?_⟩
      obtain ⟨n, rfl⟩ : ∃ n', n = n' + 1 := ⟨n - 1, by omega⟩
      simp (disch := omega) only [wY_save_13, nu_p16, nu_le, z, nu_01, nu_40, nu_30, nu_20, nu_160, Int32.add_zero, Nat.reduceAdd, nu_m16, nu_16m, nu_m4, nu_4m, nu_m3, nu_3m, nu_m2, nu_2m, nI_1, nu_p2, nu_p3, nu_16p, nu_2p, nI_add, nu_cl, nu_in, Nat.add_zero, nu_l0, nu_l1, nu_l2, nu_l3, nu_l4, nu_i0_5, nu_i1_5, nu_i2_5, nu_i0_3, nu_i1_3, nu_i2_3, nu_n0, nu_n1, nu_na0, nu_na1, forall_eq, true_implies, false_implies, implies_true, not_true_eq_false, not_false_eq_true, and_true, true_and, and_self, true_or, or_true, false_or, or_false, false_and, and_false, eq_self]
      refine vy_dir (by omega) hN hS ?_
      simp (disch := omega) only [w2, wv, nu_01, nu_40, nu_30, nu_20, nu_160, Int32.add_zero, Nat.reduceAdd, nu_m16, nu_16m, nu_m4, nu_4m, nu_m3, nu_3m, nu_m2, nu_2m, nI_1, nu_p2, nu_p3, nu_16p, nu_2p, nI_add, nu_cl, nu_in, Nat.add_zero, nu_l0, nu_l1, nu_l2, nu_l3, nu_l4, nu_i0_5, nu_i1_5, nu_i2_5, nu_i0_3, nu_i1_3, nu_i2_3, nu_n0, nu_n1, nu_na0, nu_na1, forall_eq, true_implies, false_implies, implies_true, not_true_eq_false, not_false_eq_true, and_true, true_and, and_self, true_or, or_true, false_or, or_false, false_and, and_false, eq_self]
      exact hY post J n (by omega) hp hj
end
section
variable {md bk rt rc lk wt wc ch st en sn th ro nw bf ve : Nat → Int32}
variable (sc fc cc rq : Int32) (ct sk sr fr lf cr rr yl la od sm : Nat → Int32)
theorem sa_S {s : Nat} (hs : s < 3) (R : re_R md bk ch lk st rt rc wt wc en sn th ro nw bf ve) : ∃ (r : Int32) (st' : Nat → Int32), re_R md bk ch lk st' rt rc wt wc en sn th ro nw bf ve ∧ (r = 0 ∨ r = -7) ∧
    (∀ post : Int32 → SX → Prop, post r (sc, fc, cc, rq, md, bk, ct, rt, rc, lk, wt, wc, ch, st', en, sn, sk, sr, fr, lf, cr, rr) → wpX_saveLinked post (sc, fc, cc, rq, md, bk, ct, rt, rc, lk, wt, wc, ch, st, en, sn, sk, sr, fr, lf, cr, rr) (nI s)) ∧ (∀ post : Int32 → SY → Prop, post r (sc, fc, th, ch, ro, lk, st', nw, bf, ve, bk, md, yl, la, od, sm, fr, ct) → wpY_save post (sc, fc, th, ch, ro, lk, st, nw, bf, ve, bk, md, yl, la, od, sm, fr, ct) (nI s)) := by
  have hE := re_rE R
  have hN := re_rN R
  have hS := re_rS R
  by_cases hm : md 0 = 0
  · obtain ⟨r, hV, hX⟩ := vx_sn (sc := sc) (fc := fc) (cc := cc) (rq := rq) (md := md) (bk := bk) (ct := ct) (rt := rt) (rc := rc) (lk := lk) (wt := wt) (wc := wc) (ch := ch) (st := st) (sn := sn) (sk := sk) (sr := sr) (fr := fr) (lf := lf) (cr := cr) (rr := rr) hs hE hm 16 0 rfl (fun j hj => by omega)
    obtain ⟨r', hV', hY⟩ := vy_sn (sc := sc) (fc := fc) (md := md) (bk := bk) (ct := ct) (lk := lk) (ch := ch) (fr := fr) (th := th) (ro := ro) (ve := ve) (yl := yl) (la := la) (od := od) (sm := sm) hs hE hN hS hm 16 0 rfl (fun j hj => by omega)
    have e := sa_u hV hV'
    subst e
    refine ⟨r, st, R, ?_, fun post hp => ?_, fun post hp => ?_⟩
    · rcases hV with ⟨q, _⟩ | ⟨q, _⟩
      · exact Or.inr q
      · exact Or.inl q
    · simp only [wpX_saveLinked]
      exact ⟨17, hX post 17 (by decide) hp⟩
    · simp only [wpY_save]
      refine ⟨2, ?_⟩
      simp (disch := omega) only [wY_save_2, nu_k10, nu_01, nu_40, nu_30, nu_20, nu_160, Int32.add_zero, Nat.reduceAdd, nu_m16, nu_16m, nu_m4, nu_4m, nu_m3, nu_3m, nu_m2, nu_2m, nI_1, nu_p2, nu_p3, nu_16p, nu_2p, nI_add, nu_cl, nu_in, Nat.add_zero, nu_l0, nu_l1, nu_l2, nu_l3, nu_l4, nu_i0_5, nu_i1_5, nu_i2_5, nu_i0_3, nu_i1_3, nu_i2_3, nu_n0, nu_n1, nu_na0, nu_na1, forall_eq, true_implies, false_implies, implies_true, not_true_eq_false, not_false_eq_true, and_true, true_and, and_self, true_or, or_true, false_or, or_false, false_and, and_false, eq_self]
      refine ⟨17, hY post _ 17 (by decide) hp (fun q => ?_)⟩
      subst q
      simp only [wY_save_2, forall_eq, true_implies, false_implies, implies_true, not_true_eq_false, not_false_eq_true, and_true, true_and, and_self, true_or, or_true, false_or, or_false, false_and, and_false, eq_self]
      exact hp
  · obtain ⟨st1, hI, hX⟩ := vx_sl (sc := sc) (fc := fc) (cc := cc) (rq := rq) (md := md) (bk := bk) (ct := ct) (rt := rt) (rc := rc) (lk := lk) (wt := wt) (wc := wc) (ch := ch) (sk := sk) (sr := sr) (fr := fr) (lf := lf) (cr := cr) (rr := rr) hs hE hm 16 0 rfl st (sv_I0 s (fun j => di_P st en sn (16 * s + j)) (fun j => en (4 * (16 * s + j) + 2)) st)
    have h16 : sv_1 s st ≤ 16 := cn_le _ 16
    obtain ⟨st2, b1, b2, b3, hY⟩ := vy_sl (sc := sc) (fc := fc) (md := md) (bk := bk) (ct := ct) (lk := lk) (ch := ch) (fr := fr) (th := th) (ro := ro) (ve := ve) (yl := yl) (la := la) (od := od) (sm := sm) hs hE hN hS hm 16 st h16 (sv_X0 s st) (sv_M0 s (fun j => di_P st en sn (16 * s + j)) (fun j => en (4 * (16 * s + j) + 2)) st)
    have e := sv_uniq hI.1 (sv_Ie hI) hI.2.1 b1 b3 b2
    subst e
    refine ⟨0, st1, sv_R R hI.1, Or.inl rfl, fun post hp => ?_, fun post hp => ?_⟩
    · simp only [wpX_saveLinked]
      exact ⟨17, hX post 17 (by decide) hp⟩
    · simp only [wpY_save]
      exact ⟨18, hY post 18 (by decide) hp⟩
end
end
section
/-- what an UPDATE or DELETE answers -/
noncomputable def vr_v (lk rt wt rc wc : Nat → Int32) (s k : Nat) (w : Int32) : Int32 := rm_i (bz_P lk s k) (-6) (if si_t rt wt lk s k = 0 then -4 else if si_c rc wc lk s k 3 = w then 0 else -4)
section
variable {sc fc cc rq : Int32} {md bk ct rt rc lk wt wc ch st en sn sk sr fr lf cr rr th ro nw bf ve yl la od sm : Nat → Int32}
theorem vx_sc2 {post : Int32 → Prop} {s k : Nat} (hk : k < 16) : wpX_sightCell post (sc, fc, cc, rq, md, bk, ct, rt, rc, lk, wt, wc, ch, st, en, sn, sk, sr, fr, lf, cr, rr) (nI s) (nI k) 2 = post (si_c rc wc lk s k 2) := vx_sce (c := 2) hk (by decide)
theorem vx_sc3 {post : Int32 → Prop} {s k : Nat} (hk : k < 16) : wpX_sightCell post (sc, fc, cc, rq, md, bk, ct, rt, rc, lk, wt, wc, ch, st, en, sn, sk, sr, fr, lf, cr, rr) (nI s) (nI k) 3 = post (si_c rc wc lk s k 3) := vx_sce (c := 3) hk (by decide)
theorem vx_wr {post : SX → Prop} {s k : Nat} {v : Int32} (hs : s < 3) (hk : k < 16)
    (hp : post (sc, fc, cc, rq, md, bk, ct, rt, rc, upd lk k (nI s), upd wt k 1, u4_f wc (4 * k) (en (4 * (16 * s + k))) (en (4 * (16 * s + k) + 1)) (en (4 * (16 * s + k) + 2)) v, upd ch k 0, st, en, sn, sk, sr, fr, lf, cr, rr)) : wpX_writeRow post (sc, fc, cc, rq, md, bk, ct, rt, rc, lk, wt, wc, ch, st, en, sn, sk, sr, fr, lf, cr, rr) (nI s) (nI k) v := by
  simp (disch := omega) only [wpX_writeRow, nu_01, nu_40, nu_30, nu_20, nu_160, Int32.add_zero, Nat.reduceAdd, nu_m16, nu_16m, nu_m4, nu_4m, nu_m3, nu_3m, nu_m2, nu_2m, nI_1, nu_p2, nu_p3, nu_16p, nu_2p, nI_add, nu_cl, nu_in, Nat.add_zero, nu_l0, nu_l1, nu_l2, nu_l3, nu_l4, nu_i0_5, nu_i1_5, nu_i2_5, nu_i0_3, nu_i1_3, nu_i2_3, nu_n0, nu_n1, nu_na0, nu_na1, forall_eq, true_implies, false_implies, implies_true, not_true_eq_false, not_false_eq_true, and_true, true_and, and_self, true_or, or_true, false_or, or_false, false_and, and_false, eq_self]
  refine ⟨4, ?_⟩
  simp (disch := omega) only [wX_writeRow_24, nu_g2, nu_h2, nu_01, nu_40, nu_30, nu_20, nu_160, Int32.add_zero, Nat.reduceAdd, nu_m16, nu_16m, nu_m4, nu_4m, nu_m3, nu_3m, nu_m2, nu_2m, nI_1, nu_p2, nu_p3, nu_16p, nu_2p, nI_add, nu_cl, nu_in, Nat.add_zero, nu_l0, nu_l1, nu_l2, nu_l3, nu_l4, nu_i0_5, nu_i1_5, nu_i2_5, nu_i0_3, nu_i1_3, nu_i2_3, nu_n0, nu_n1, nu_na0, nu_na1, forall_eq, true_implies, false_implies, implies_true, not_true_eq_false, not_false_eq_true, and_true, true_and, and_self, true_or, or_true, false_or, or_false, false_and, and_false, eq_self]
  exact hp
theorem vy_pt {post : SY → Prop} {s k : Nat} {v : Int32} (hs : s < 3) (hk : k < 16) (hN : re_N st en nw) (h0 : ¬ st (16 * s + k) = 0) (h3 : ¬ st (16 * s + k) = 3)
    (hp : post (sc, fc, upd th (16 + k) 1, ch, u4_f ro (4 * (16 + k)) (en (4 * (16 * s + k))) (en (4 * (16 * s + k) + 1)) (en (4 * (16 * s + k) + 2)) v, lk, st, nw, bf, ve, bk, md, yl, la, od, sm, fr, ct)) : wpY_put post (sc, fc, th, ch, ro, lk, st, nw, bf, ve, bk, md, yl, la, od, sm, fr, ct) (nI s) (nI k) v := by
  have c0 := hN (16 * s + k) (by omega) h0 h3 0 (by decide)
  have c1 := hN (16 * s + k) (by omega) h0 h3 1 (by decide)
  have c2 := hN (16 * s + k) (by omega) h0 h3 2 (by decide)
  rw [Nat.add_zero, Nat.add_zero] at c0
  rw [c0, c1, c2] at hp
  simp (disch := omega) only [wpY_put, nu_01, nu_40, nu_30, nu_20, nu_160, Int32.add_zero, Nat.reduceAdd, nu_m16, nu_16m, nu_m4, nu_4m, nu_m3, nu_3m, nu_m2, nu_2m, nI_1, nu_p2, nu_p3, nu_16p, nu_2p, nI_add, nu_cl, nu_in, Nat.add_zero, nu_l0, nu_l1, nu_l2, nu_l3, nu_l4, nu_i0_5, nu_i1_5, nu_i2_5, nu_i0_3, nu_i1_3, nu_i2_3, nu_n0, nu_n1, nu_na0, nu_na1, forall_eq, true_implies, false_implies, implies_true, not_true_eq_false, not_false_eq_true, and_true, true_and, and_self, true_or, or_true, false_or, or_false, false_and, and_false, eq_self]
  refine ⟨4, ?_⟩
  simp (disch := omega) only [wY_put_13, nu_a3, nu_b3, nu_01, nu_40, nu_30, nu_20, nu_160, Int32.add_zero, Nat.reduceAdd, nu_m16, nu_16m, nu_m4, nu_4m, nu_m3, nu_3m, nu_m2, nu_2m, nI_1, nu_p2, nu_p3, nu_16p, nu_2p, nI_add, nu_cl, nu_in, Nat.add_zero, nu_l0, nu_l1, nu_l2, nu_l3, nu_l4, nu_i0_5, nu_i1_5, nu_i2_5, nu_i0_3, nu_i1_3, nu_i2_3, nu_n0, nu_n1, nu_na0, nu_na1, forall_eq, true_implies, false_implies, implies_true, not_true_eq_false, not_false_eq_true, and_true, true_and, and_self, true_or, or_true, false_or, or_false, false_and, and_false, eq_self]
  exact hp
theorem vx_nt {post : SX → Prop} {n q k : Nat} (hn : n < 32) (hq : q < 3)
    (hp : post (nI (n + 1), fc, cc, rq, md, bk, upd ct (2 + q) (ct (2 + q) + 1), rt, rc, lk, wt, wc, ch, st, en, sn, upd sk n (nI q), upd sr n (nI k), fr, lf, cr, rr)) : wpX_noteStatement post (nI n, fc, cc, rq, md, bk, ct, rt, rc, lk, wt, wc, ch, st, en, sn, sk, sr, fr, lf, cr, rr) (nI q) (nI k) := by
  simp (disch := omega) only [wpX_noteStatement, nu_b32, nu_01, nu_40, nu_30, nu_20, nu_160, Int32.add_zero, Nat.reduceAdd, nu_m16, nu_16m, nu_m4, nu_4m, nu_m3, nu_3m, nu_m2, nu_2m, nI_1, nu_p2, nu_p3, nu_16p, nu_2p, nI_add, nu_cl, nu_in, Nat.add_zero, nu_l0, nu_l1, nu_l2, nu_l3, nu_l4, nu_i0_5, nu_i1_5, nu_i2_5, nu_i0_3, nu_i1_3, nu_i2_3, nu_n0, nu_n1, nu_na0, nu_na1, forall_eq, true_implies, false_implies, implies_true, not_true_eq_false, not_false_eq_true, and_true, true_and, and_self, true_or, or_true, false_or, or_false, false_and, and_false, eq_self]
  exact hp
theorem vy_nt {post : SY → Prop} {n q k : Nat} (hn : n < 32) (hq : q < 3)
    (hp : post (nI (n + 1), fc, th, ch, ro, lk, st, nw, bf, ve, bk, md, yl, la, od, upd (upd sm (2 * n) (nI q)) (2 * n + 1) (nI k), fr, upd ct (2 + q) (ct (2 + q) + 1))) : wpY_note post (nI n, fc, th, ch, ro, lk, st, nw, bf, ve, bk, md, yl, la, od, sm, fr, ct) (nI q) (nI k) := by
  simp (disch := omega) only [wpY_note, nu_01, nu_40, nu_30, nu_20, nu_160, Int32.add_zero, Nat.reduceAdd, nu_m16, nu_16m, nu_m4, nu_4m, nu_m3, nu_3m, nu_m2, nu_2m, nI_1, nu_p2, nu_p3, nu_16p, nu_2p, nI_add, nu_cl, nu_in, Nat.add_zero, nu_l0, nu_l1, nu_l2, nu_l3, nu_l4, nu_i0_5, nu_i1_5, nu_i2_5, nu_i0_3, nu_i1_3, nu_i2_3, nu_n0, nu_n1, nu_na0, nu_na1, forall_eq, true_implies, false_implies, implies_true, not_true_eq_false, not_false_eq_true, and_true, true_and, and_self, true_or, or_true, false_or, or_false, false_and, and_false, eq_self]
  exact hp
theorem vx_ver {post : Int32 → Prop} {s k : Nat} {w : Int32} (hk : k < 16) (hT : re_T rt wt th) (hB : re_B th) : wpX_versionError post (sc, fc, cc, rq, md, bk, ct, rt, rc, lk, wt, wc, ch, st, en, sn, sk, sr, fr, lf, cr, rr) (nI s) (nI k) w = post (vr_v lk rt wt rc wc s k w) := by
  unfold vr_v
  by_cases b : bz_P lk s k
  · rw [rm_t b]
    simp only [wpX_versionError, vx_bz hk, di_t b, nu_k10, forall_eq, true_implies, false_implies, implies_true, not_true_eq_false, not_false_eq_true, and_true, true_and, and_self, true_or, or_true, false_or, or_false, false_and, and_false, eq_self]
  · rw [rm_f b]
    by_cases t : si_t rt wt lk s k = 0
    · rw [if_pos t]
      simp only [wpX_versionError, vx_bz hk, di_f b, vx_see hk hT hB, t, forall_eq, true_implies, false_implies, implies_true, not_true_eq_false, not_false_eq_true, and_true, true_and, and_self, true_or, or_true, false_or, or_false, false_and, and_false, eq_self]
    · rw [if_neg t]
      by_cases c : si_c rc wc lk s k 3 = w
      · rw [if_pos c]
        simp only [wpX_versionError, vx_bz hk, di_f b, vx_see hk hT hB, vx_sc3 hk, t, c, forall_eq, true_implies, false_implies, implies_true, not_true_eq_false, not_false_eq_true, and_true, true_and, and_self, true_or, or_true, false_or, or_false, false_and, and_false, eq_self]
      · rw [if_neg c]
        simp only [wpX_versionError, vx_bz hk, di_f b, vx_see hk hT hB, vx_sc3 hk, t, c, forall_eq, true_implies, false_implies, implies_true, not_true_eq_false, not_false_eq_true, and_true, true_and, and_self, true_or, or_true, false_or, or_false, false_and, and_false, eq_self]
theorem vr_k (lk rt wt rc wc : Nat → Int32) (s k : Nat) (w : Int32) : vr_v lk rt wt rc wc s k w = -6 ∨ vr_v lk rt wt rc wc s k w = -4 ∨ vr_v lk rt wt rc wc s k w = 0 := by
  unfold vr_v
  by_cases b : bz_P lk s k
  · rw [rm_t b]
    exact Or.inl rfl
  · rw [rm_f b]
    split
    · exact Or.inr (Or.inl rfl)
    · split
      · exact Or.inr (Or.inr rfl)
      · exact Or.inr (Or.inl rfl)
/-- locked by another, as the reference asks it -/
theorem bz_y {s k : Nat} (hQ : re_Q lk) : bz_P lk s k ↔ ¬ lk k < 0 ∧ ¬ lk k = nI s := by
  unfold bz_P
  rcases hQ k with q | ⟨j, hj, q⟩
  · rw [q]
    refine ⟨fun h => absurd rfl h.1, fun h => absurd (by decide) h.1⟩
  · rw [q]
    refine ⟨fun h => ⟨nI_pos (by omega), h.2⟩, fun h => ⟨fun z => ?_, h.2⟩⟩
    rw [nu_nem (by omega)] at z
    exact z
theorem vy_b1 {post : Int32 → SY → Prop} {s k : Nat} {w : Int32} (hk : k < 16) (hT : re_T rt wt th) (hC : re_C rc wc ro) (hQ : re_Q lk)
    (h0 : vr_v lk rt wt rc wc s k w = 0 → post 0 (sc, fc, th, upd ch k 0, ro, upd lk k (nI s), st, nw, bf, ve, bk, md, yl, la, od, sm, fr, ct)) (h1 : ¬ vr_v lk rt wt rc wc s k w = 0 → post (vr_v lk rt wt rc wc s k w) (sc, fc, th, ch, ro, lk, st, nw, bf, ve, bk, md, yl, la, od, sm, fr, ct)) : wpY_begin post (sc, fc, th, ch, ro, lk, st, nw, bf, ve, bk, md, yl, la, od, sm, fr, ct) (nI s) (nI k) w 1 := by
  have hf := si_lt lk (s := s) hk
  have ht := si_ft (lk := lk) (s := s) hT hk
  have hc := si_fc (lk := lk) (s := s) (c := 3) hC hk (by decide)
  unfold vr_v at h0 h1
  by_cases b : bz_P lk s k
  · rw [rm_t b] at h0 h1
    have hp := h1 (by decide)
    have b' := (bz_y hQ).mp b
    simp (disch := omega) only [wpY_begin, vy_see hk, b'.1, b'.2, nu_01, nu_40, nu_30, nu_20, nu_160, Int32.add_zero, Nat.reduceAdd, nu_m16, nu_16m, nu_m4, nu_4m, nu_m3, nu_3m, nu_m2, nu_2m, nI_1, nu_p2, nu_p3, nu_16p, nu_2p, nI_add, nu_cl, nu_in, Nat.add_zero, nu_l0, nu_l1, nu_l2, nu_l3, nu_l4, nu_i0_5, nu_i1_5, nu_i2_5, nu_i0_3, nu_i1_3, nu_i2_3, nu_n0, nu_n1, nu_na0, nu_na1, forall_eq, true_implies, false_implies, implies_true, not_true_eq_false, not_false_eq_true, and_true, true_and, and_self, true_or, or_true, false_or, or_false, false_and, and_false, eq_self]
    exact hp
  · rw [rm_f b] at h0 h1
    have nb : ∀ P : Prop, P → ((lk k < 0 → P) ∧ (¬ lk k < 0 → ((lk k = nI s → P) ∧ (¬ lk k = nI s → post (-6) (sc, fc, th, ch, ro, lk, st, nw, bf, ve, bk, md, yl, la, od, sm, fr, ct))))) := by
      intro P p
      refine ⟨fun _ => p, fun z => ⟨fun _ => p, fun y => absurd ((bz_y hQ).mpr ⟨z, y⟩) b⟩⟩
    by_cases t : si_t rt wt lk s k = 0
    · rw [if_pos t] at h0 h1
      have hp := h1 (by decide)
      rw [t] at ht
      simp (disch := omega) only [wpY_begin, wY_begin_30, wY_begin_48, vy_see hk, ht, nu_k10, nu_01, nu_40, nu_30, nu_20, nu_160, Int32.add_zero, Nat.reduceAdd, nu_m16, nu_16m, nu_m4, nu_4m, nu_m3, nu_3m, nu_m2, nu_2m, nI_1, nu_p2, nu_p3, nu_16p, nu_2p, nI_add, nu_cl, nu_in, Nat.add_zero, nu_l0, nu_l1, nu_l2, nu_l3, nu_l4, nu_i0_5, nu_i1_5, nu_i2_5, nu_i0_3, nu_i1_3, nu_i2_3, nu_n0, nu_n1, nu_na0, nu_na1, forall_eq, true_implies, false_implies, implies_true, not_true_eq_false, not_false_eq_true, and_true, true_and, and_self, true_or, or_true, false_or, or_false, false_and, and_false, eq_self]
      exact nb _ hp
    · rw [if_neg t] at h0 h1
      have ht' : ¬ th (si_f lk s k) = 0 := by
        rw [ht]
        exact t
      by_cases c : si_c rc wc lk s k 3 = w
      · rw [if_pos c] at h0 h1
        have hp := h0 rfl
        rw [c] at hc
        simp (disch := omega) only [wpY_begin, wY_begin_30, wY_begin_48, wY_begin_81, vy_see hk, ht', hc, nu_k10, nu_01, nu_40, nu_30, nu_20, nu_160, Int32.add_zero, Nat.reduceAdd, nu_m16, nu_16m, nu_m4, nu_4m, nu_m3, nu_3m, nu_m2, nu_2m, nI_1, nu_p2, nu_p3, nu_16p, nu_2p, nI_add, nu_cl, nu_in, Nat.add_zero, nu_l0, nu_l1, nu_l2, nu_l3, nu_l4, nu_i0_5, nu_i1_5, nu_i2_5, nu_i0_3, nu_i1_3, nu_i2_3, nu_n0, nu_n1, nu_na0, nu_na1, forall_eq, true_implies, false_implies, implies_true, not_true_eq_false, not_false_eq_true, and_true, true_and, and_self, true_or, or_true, false_or, or_false, false_and, and_false, eq_self]
        exact nb _ hp
      · rw [if_neg c] at h0 h1
        have hp := h1 (by decide)
        have hc' : ¬ ro (4 * si_f lk s k + 3) = w := by
          rw [hc]
          exact c
        simp (disch := omega) only [wpY_begin, wY_begin_30, wY_begin_48, wY_begin_81, vy_see hk, ht', hc', nu_k10, nu_01, nu_40, nu_30, nu_20, nu_160, Int32.add_zero, Nat.reduceAdd, nu_m16, nu_16m, nu_m4, nu_4m, nu_m3, nu_3m, nu_m2, nu_2m, nI_1, nu_p2, nu_p3, nu_16p, nu_2p, nI_add, nu_cl, nu_in, Nat.add_zero, nu_l0, nu_l1, nu_l2, nu_l3, nu_l4, nu_i0_5, nu_i1_5, nu_i2_5, nu_i0_3, nu_i1_3, nu_i2_3, nu_n0, nu_n1, nu_na0, nu_na1, forall_eq, true_implies, false_implies, implies_true, not_true_eq_false, not_false_eq_true, and_true, true_and, and_self, true_or, or_true, false_or, or_false, false_and, and_false, eq_self]
        exact nb _ hp
/-- what an INSERT answers -/
noncomputable def ii_v (lk rt wt : Nat → Int32) (s k : Nat) : Int32 := rm_i (bz_P lk s k) (-6) (if si_t rt wt lk s k = 0 then 0 else -5)
theorem vy_b0 {post : Int32 → SY → Prop} {s k : Nat} (hk : k < 16) (hT : re_T rt wt th) (hQ : re_Q lk)
    (h0 : ii_v lk rt wt s k = 0 → post 0 (sc, fc, th, upd ch k 0, ro, upd lk k (nI s), st, nw, bf, ve, bk, md, yl, la, od, sm, fr, ct)) (h1 : ¬ ii_v lk rt wt s k = 0 → post (ii_v lk rt wt s k) (sc, fc, th, ch, ro, lk, st, nw, bf, ve, bk, md, yl, la, od, sm, fr, ct)) : wpY_begin post (sc, fc, th, ch, ro, lk, st, nw, bf, ve, bk, md, yl, la, od, sm, fr, ct) (nI s) (nI k) 0 0 := by
  have hf := si_lt lk (s := s) hk
  have ht := si_ft (lk := lk) (s := s) hT hk
  unfold ii_v at h0 h1
  by_cases b : bz_P lk s k
  · rw [rm_t b] at h0 h1
    have hp := h1 (by decide)
    have b' := (bz_y hQ).mp b
    simp (disch := omega) only [wpY_begin, vy_see hk, b'.1, b'.2, nu_01, nu_40, nu_30, nu_20, nu_160, Int32.add_zero, Nat.reduceAdd, nu_m16, nu_16m, nu_m4, nu_4m, nu_m3, nu_3m, nu_m2, nu_2m, nI_1, nu_p2, nu_p3, nu_16p, nu_2p, nI_add, nu_cl, nu_in, Nat.add_zero, nu_l0, nu_l1, nu_l2, nu_l3, nu_l4, nu_i0_5, nu_i1_5, nu_i2_5, nu_i0_3, nu_i1_3, nu_i2_3, nu_n0, nu_n1, nu_na0, nu_na1, forall_eq, true_implies, false_implies, implies_true, not_true_eq_false, not_false_eq_true, and_true, true_and, and_self, true_or, or_true, false_or, or_false, false_and, and_false, eq_self]
    exact hp
  · rw [rm_f b] at h0 h1
    have nb : ∀ P : Prop, P → ((lk k < 0 → P) ∧ (¬ lk k < 0 → ((lk k = nI s → P) ∧ (¬ lk k = nI s → post (-6) (sc, fc, th, ch, ro, lk, st, nw, bf, ve, bk, md, yl, la, od, sm, fr, ct))))) := by
      intro P p
      refine ⟨fun _ => p, fun z => ⟨fun _ => p, fun y => absurd ((bz_y hQ).mpr ⟨z, y⟩) b⟩⟩
    by_cases t : si_t rt wt lk s k = 0
    · rw [if_pos t] at h0 h1
      have hp := h0 rfl
      rw [t] at ht
      simp (disch := omega) only [wpY_begin, wY_begin_30, wY_begin_48, wY_begin_81, vy_see hk, ht, nu_01, nu_40, nu_30, nu_20, nu_160, Int32.add_zero, Nat.reduceAdd, nu_m16, nu_16m, nu_m4, nu_4m, nu_m3, nu_3m, nu_m2, nu_2m, nI_1, nu_p2, nu_p3, nu_16p, nu_2p, nI_add, nu_cl, nu_in, Nat.add_zero, nu_l0, nu_l1, nu_l2, nu_l3, nu_l4, nu_i0_5, nu_i1_5, nu_i2_5, nu_i0_3, nu_i1_3, nu_i2_3, nu_n0, nu_n1, nu_na0, nu_na1, forall_eq, true_implies, false_implies, implies_true, not_true_eq_false, not_false_eq_true, and_true, true_and, and_self, true_or, or_true, false_or, or_false, false_and, and_false, eq_self]
      exact nb _ hp
    · rw [if_neg t] at h0 h1
      have hp := h1 (by decide)
      have ht' : ¬ th (si_f lk s k) = 0 := by
        rw [ht]
        exact t
      simp (disch := omega) only [wpY_begin, wY_begin_30, wY_begin_48, wY_begin_81, vy_see hk, ht', nu_01, nu_40, nu_30, nu_20, nu_160, Int32.add_zero, Nat.reduceAdd, nu_m16, nu_16m, nu_m4, nu_4m, nu_m3, nu_3m, nu_m2, nu_2m, nI_1, nu_p2, nu_p3, nu_16p, nu_2p, nI_add, nu_cl, nu_in, Nat.add_zero, nu_l0, nu_l1, nu_l2, nu_l3, nu_l4, nu_i0_5, nu_i1_5, nu_i2_5, nu_i0_3, nu_i1_3, nu_i2_3, nu_n0, nu_n1, nu_na0, nu_na1, forall_eq, true_implies, false_implies, implies_true, not_true_eq_false, not_false_eq_true, and_true, true_and, and_self, true_or, or_true, false_or, or_false, false_and, and_false, eq_self]
      exact nb _ hp
end
end
section
section
variable {md bk ct rt rc lk wt wc ch st en sn sk sr fr lf cr rr th ro nw bf ve sm : Nat → Int32}
variable (fc rq : Int32) (yl la od : Nat → Int32)
/-- an INSERT on both sides -/
theorem is_S {s k n c : Nat} {b : Int32} (hs : s < 3) (hk : k < 16) (hn : n < 32) (hc : c < 16) (hb : b = 0 ∨ b = 1) (h2 : st (16 * s + k) = 2) (R : re_R md bk ch lk st rt rc wt wc en sn th ro nw bf ve) (hP : re_P n sk sr sm) :
    ∃ (r : Int32) (n' c' : Nat) (ct' lk' wt' wc' ch' sk' sr' cr' th' ro' sm' : Nat → Int32), re_R md bk ch' lk' st rt rc wt' wc' en sn th' ro' nw bf ve ∧ re_P n' sk' sr' sm' ∧ n ≤ n' ∧ n' ≤ n + 1 ∧
      (r = 0 → (b = 0 → c' = c ∧ cr' = cr) ∧ (b = 1 → c' = c + 1 ∧ cr' = upd cr c (nI k))) ∧
      (∀ post : Int32 → SX → Prop, post r (nI n', fc, nI c', rq, md, bk, ct', rt, rc, lk', wt', wc', ch', st, en, sn, sk', sr', fr, lf, cr', rr) → wpX_insertRow post (nI n, fc, nI c, rq, md, bk, ct, rt, rc, lk, wt, wc, ch, st, en, sn, sk, sr, fr, lf, cr, rr) (nI s) (nI k) b) ∧
      (∀ post : Int32 → SY → Prop, post r (nI n', fc, th', ch', ro', lk', st, nw, bf, ve, bk, md, yl, la, od, sm', fr, ct') → wpY_insert post (nI n, fc, th, ch, ro, lk, st, nw, bf, ve, bk, md, yl, la, od, sm, fr, ct) (nI s) (nI k) b) := by
  have hT := re_rT R
  have hB := re_rth R
  have h0 : ¬ st (16 * s + k) = 0 := by rw [h2]; decide
  have h3 : ¬ st (16 * s + k) = 3 := by rw [h2]; decide
  by_cases bz : bz_P lk s k
  · have hv : ii_v lk rt wt s k = -6 := rm_t bz
    refine ⟨-6, n, c, ct, lk, wt, wc, ch, sk, sr, cr, th, ro, sm, R, hP, Nat.le_refl n, by omega, fun q => absurd q (by decide), fun post hp => ?_, fun post hp => ?_⟩
    · simp only [wpX_insertRow, vx_bz hk, di_t bz, nu_k10, forall_eq, true_implies, false_implies, implies_true, not_true_eq_false, not_false_eq_true, and_true, true_and, and_self, true_or, or_true, false_or, or_false, false_and, and_false, eq_self]
      exact hp
    · simp only [wpY_insert]
      refine vy_b0 hk hT (re_rQ R) (fun q => absurd (hv.symm.trans q) (by decide)) (fun _ => ?_)
      rw [hv]
      simp only [nu_z6, forall_eq, true_implies, false_implies, implies_true, not_true_eq_false, not_false_eq_true, and_true, true_and, and_self, true_or, or_true, false_or, or_false, false_and, and_false, eq_self]
      exact hp
  · by_cases t : si_t rt wt lk s k = 0
    · have hv : ii_v lk rt wt s k = 0 := by
        unfold ii_v
        rw [rm_f bz, if_pos t]
      have R1 := wr_R (v := 0) R hs hk
      have P1 := re_Pu (x := nI 0) (y := nI k) hP
      rcases hb with rfl | rfl
      · refine ⟨0, n + 1, c, upd ct (2 + 0) (ct (2 + 0) + 1), _, _, _, _, upd sk n (nI 0), upd sr n (nI k), cr, _, _, upd (upd sm (2 * n) (nI 0)) (2 * n + 1) (nI k), R1, P1, by omega, Nat.le_refl _, fun _ => ⟨fun _ => ⟨rfl, rfl⟩, fun q => absurd q (by decide)⟩, fun post hp => ?_, fun post hp => ?_⟩
        · simp only [wpX_insertRow, vx_bz hk, di_f bz, vx_see hk hT hB, t, forall_eq, true_implies, false_implies, implies_true, not_true_eq_false, not_false_eq_true, and_true, true_and, and_self, true_or, or_true, false_or, or_false, false_and, and_false, eq_self]
          refine vx_wr hs hk ?_
          simp only [wX_insertRow_75, forall_eq, true_implies, false_implies, implies_true, not_true_eq_false, not_false_eq_true, and_true, true_and, and_self, true_or, or_true, false_or, or_false, false_and, and_false, eq_self]
          exact vx_nt (q := 0) hn (by decide) hp
        · simp only [wpY_insert]
          refine vy_b0 hk hT (re_rQ R) (fun _ => ?_) (fun q => absurd hv q)
          simp only [forall_eq, true_implies, false_implies, implies_true, not_true_eq_false, not_false_eq_true, and_true, true_and, and_self, true_or, or_true, false_or, or_false, false_and, and_false, eq_self]
          refine vy_pt hs hk (re_rN R) h0 h3 ?_
          simp only [wY_insert_43, forall_eq, true_implies, false_implies, implies_true, not_true_eq_false, not_false_eq_true, and_true, true_and, and_self, true_or, or_true, false_or, or_false, false_and, and_false, eq_self]
          exact vy_nt (q := 0) hn (by decide) hp
      · refine ⟨0, n + 1, c + 1, upd ct (2 + 0) (ct (2 + 0) + 1), _, _, _, _, upd sk n (nI 0), upd sr n (nI k), upd cr c (nI k), _, _, upd (upd sm (2 * n) (nI 0)) (2 * n + 1) (nI k), wr_cut (k := k) R1, P1, by omega, Nat.le_refl _, fun _ => ⟨fun q => absurd q (by decide), fun _ => ⟨rfl, rfl⟩⟩, fun post hp => ?_, fun post hp => ?_⟩
        · simp only [wpX_insertRow, vx_bz hk, di_f bz, vx_see hk hT hB, t, forall_eq, true_implies, false_implies, implies_true, not_true_eq_false, not_false_eq_true, and_true, true_and, and_self, true_or, or_true, false_or, or_false, false_and, and_false, eq_self]
          refine vx_wr hs hk ?_
          simp (disch := omega) only [wX_insertRow_75, nu_b16, nu_k10, nu_01, nu_40, nu_30, nu_20, nu_160, Int32.add_zero, Nat.reduceAdd, nu_m16, nu_16m, nu_m4, nu_4m, nu_m3, nu_3m, nu_m2, nu_2m, nI_1, nu_p2, nu_p3, nu_16p, nu_2p, nI_add, nu_cl, nu_in, Nat.add_zero, nu_l0, nu_l1, nu_l2, nu_l3, nu_l4, nu_i0_5, nu_i1_5, nu_i2_5, nu_i0_3, nu_i1_3, nu_i2_3, nu_n0, nu_n1, nu_na0, nu_na1, forall_eq, true_implies, false_implies, implies_true, not_true_eq_false, not_false_eq_true, and_true, true_and, and_self, true_or, or_true, false_or, or_false, false_and, and_false, eq_self]
          exact vx_nt (q := 0) hn (by decide) hp
        · simp only [wpY_insert]
          refine vy_b0 hk hT (re_rQ R) (fun _ => ?_) (fun q => absurd hv q)
          simp only [forall_eq, true_implies, false_implies, implies_true, not_true_eq_false, not_false_eq_true, and_true, true_and, and_self, true_or, or_true, false_or, or_false, false_and, and_false, eq_self]
          refine vy_pt hs hk (re_rN R) h0 h3 ?_
          simp (disch := omega) only [wY_insert_43, nu_k10, nu_01, nu_40, nu_30, nu_20, nu_160, Int32.add_zero, Nat.reduceAdd, nu_m16, nu_16m, nu_m4, nu_4m, nu_m3, nu_3m, nu_m2, nu_2m, nI_1, nu_p2, nu_p3, nu_16p, nu_2p, nI_add, nu_cl, nu_in, Nat.add_zero, nu_l0, nu_l1, nu_l2, nu_l3, nu_l4, nu_i0_5, nu_i1_5, nu_i2_5, nu_i0_3, nu_i1_3, nu_i2_3, nu_n0, nu_n1, nu_na0, nu_na1, forall_eq, true_implies, false_implies, implies_true, not_true_eq_false, not_false_eq_true, and_true, true_and, and_self, true_or, or_true, false_or, or_false, false_and, and_false, eq_self]
          exact vy_nt (q := 0) hn (by decide) hp
    · have hv : ii_v lk rt wt s k = -5 := by
        unfold ii_v
        rw [rm_f bz, if_neg t]
      refine ⟨-5, n, c, ct, lk, wt, wc, ch, sk, sr, cr, th, ro, sm, R, hP, Nat.le_refl n, by omega, fun q => absurd q (by decide), fun post hp => ?_, fun post hp => ?_⟩
      · simp only [wpX_insertRow, vx_bz hk, di_f bz, vx_see hk hT hB, t, forall_eq, true_implies, false_implies, implies_true, not_true_eq_false, not_false_eq_true, and_true, true_and, and_self, true_or, or_true, false_or, or_false, false_and, and_false, eq_self]
        exact hp
      · simp only [wpY_insert]
        refine vy_b0 hk hT (re_rQ R) (fun q => absurd (hv.symm.trans q) (by decide)) (fun _ => ?_)
        rw [hv]
        simp only [nu_z5, forall_eq, true_implies, false_implies, implies_true, not_true_eq_false, not_false_eq_true, and_true, true_and, and_self, true_or, or_true, false_or, or_false, false_and, and_false, eq_self]
        exact hp
/-- an UPDATE on both sides -/
theorem up_S {s k n : Nat} {cc w : Int32} (hs : s < 3) (hk : k < 16) (hn : n < 32) (h0 : ¬ st (16 * s + k) = 0) (h3 : ¬ st (16 * s + k) = 3) (R : re_R md bk ch lk st rt rc wt wc en sn th ro nw bf ve) (hP : re_P n sk sr sm) :
    ∃ (r : Int32) (n' : Nat) (ct' lk' wt' wc' ch' sk' sr' th' ro' sm' : Nat → Int32), re_R md bk ch' lk' st rt rc wt' wc' en sn th' ro' nw bf ve ∧ re_P n' sk' sr' sm' ∧ n ≤ n' ∧ n' ≤ n + 1 ∧
      (∀ post : Int32 → SX → Prop, post r (nI n', fc, cc, rq, md, bk, ct', rt, rc, lk', wt', wc', ch', st, en, sn, sk', sr', fr, lf, cr, rr) → wpX_updateRow post (nI n, fc, cc, rq, md, bk, ct, rt, rc, lk, wt, wc, ch, st, en, sn, sk, sr, fr, lf, cr, rr) (nI s) (nI k) w) ∧
      (∀ post : Int32 → SY → Prop, post r (nI n', fc, th', ch', ro', lk', st, nw, bf, ve, bk, md, yl, la, od, sm', fr, ct') → wpY_update post (nI n, fc, th, ch, ro, lk, st, nw, bf, ve, bk, md, yl, la, od, sm, fr, ct) (nI s) (nI k) w) := by
  have hT := re_rT R
  have hB := re_rth R
  have hC := re_rC R
  by_cases hv : vr_v lk rt wt rc wc s k w = 0
  · refine ⟨0, n + 1, upd ct (2 + 1) (ct (2 + 1) + 1), _, _, _, _, upd sk n (nI 1), upd sr n (nI k), _, _, upd (upd sm (2 * n) (nI 1)) (2 * n + 1) (nI k), wr_R (v := w + 1) R hs hk, re_Pu (x := nI 1) (y := nI k) hP, by omega, Nat.le_refl _, fun post hp => ?_, fun post hp => ?_⟩
    · simp only [wpX_updateRow, vx_ver hk hT hB, hv, forall_eq, true_implies, false_implies, implies_true, not_true_eq_false, not_false_eq_true, and_true, true_and, and_self, true_or, or_true, false_or, or_false, false_and, and_false, eq_self]
      refine vx_wr hs hk ?_
      simp only [forall_eq, true_implies, false_implies, implies_true, not_true_eq_false, not_false_eq_true, and_true, true_and, and_self, true_or, or_true, false_or, or_false, false_and, and_false, eq_self]
      exact vx_nt (q := 1) hn (by decide) hp
    · simp only [wpY_update]
      refine vy_b1 hk hT hC (re_rQ R) (fun _ => ?_) (fun q => absurd hv q)
      simp only [forall_eq, true_implies, false_implies, implies_true, not_true_eq_false, not_false_eq_true, and_true, true_and, and_self, true_or, or_true, false_or, or_false, false_and, and_false, eq_self]
      refine vy_pt hs hk (re_rN R) h0 h3 ?_
      simp only [forall_eq, true_implies, false_implies, implies_true, not_true_eq_false, not_false_eq_true, and_true, true_and, and_self, true_or, or_true, false_or, or_false, false_and, and_false, eq_self]
      exact vy_nt (q := 1) hn (by decide) hp
  · refine ⟨vr_v lk rt wt rc wc s k w, n, ct, lk, wt, wc, ch, sk, sr, th, ro, sm, R, hP, Nat.le_refl n, by omega, fun post hp => ?_, fun post hp => ?_⟩
    · simp only [wpX_updateRow, vx_ver hk hT hB, hv, forall_eq, true_implies, false_implies, implies_true, not_true_eq_false, not_false_eq_true, and_true, true_and, and_self, true_or, or_true, false_or, or_false, false_and, and_false, eq_self]
      exact hp
    · simp only [wpY_update]
      refine vy_b1 hk hT hC (re_rQ R) (fun q => absurd q hv) (fun _ => ?_)
      simp only [hv, forall_eq, true_implies, false_implies, implies_true, not_true_eq_false, not_false_eq_true, and_true, true_and, and_self, true_or, or_true, false_or, or_false, false_and, and_false, eq_self]
      exact hp
end
section
variable {fc cc rq : Int32} {md bk ct rt rc lk wt wc ch st en sn sk sr fr lf cr rr th : Nat → Int32}
theorem vx_dl {post : Int32 → SX → Prop} {s k n : Nat} (hs : s < 3) (hk : k < 16) (hn : n < 32) (hT : re_T rt wt th) (hB : re_B th)
    (h0 : vr_v lk rt wt rc wc s k (sn (4 * (16 * s + k) + 3)) = 0 → post 0 (nI (n + 1), fc, cc, rq, md, bk, upd ct (2 + 2) (ct (2 + 2) + 1), rt, rc, upd lk k (nI s), upd wt k 0, wc, upd ch k 0, st, en, sn, upd sk n (nI 2), upd sr n (nI k), fr, lf, cr, rr))
    (h1 : ¬ vr_v lk rt wt rc wc s k (sn (4 * (16 * s + k) + 3)) = 0 → post (vr_v lk rt wt rc wc s k (sn (4 * (16 * s + k) + 3))) (nI n, fc, cc, rq, md, bk, ct, rt, rc, lk, wt, wc, ch, st, en, sn, sk, sr, fr, lf, cr, rr)) : wpX_deleteRow post (nI n, fc, cc, rq, md, bk, ct, rt, rc, lk, wt, wc, ch, st, en, sn, sk, sr, fr, lf, cr, rr) (nI s) (nI k) := by
  by_cases hv : vr_v lk rt wt rc wc s k (sn (4 * (16 * s + k) + 3)) = 0
  · simp (disch := omega) only [wpX_deleteRow, vx_ver hk hT hB, hv, nu_01, nu_40, nu_30, nu_20, nu_160, Int32.add_zero, Nat.reduceAdd, nu_m16, nu_16m, nu_m4, nu_4m, nu_m3, nu_3m, nu_m2, nu_2m, nI_1, nu_p2, nu_p3, nu_16p, nu_2p, nI_add, nu_cl, nu_in, Nat.add_zero, nu_l0, nu_l1, nu_l2, nu_l3, nu_l4, nu_i0_5, nu_i1_5, nu_i2_5, nu_i0_3, nu_i1_3, nu_i2_3, nu_n0, nu_n1, nu_na0, nu_na1, forall_eq, true_implies, false_implies, implies_true, not_true_eq_false, not_false_eq_true, and_true, true_and, and_self, true_or, or_true, false_or, or_false, false_and, and_false, eq_self]
    exact vx_nt (q := 2) hn (by decide) (h0 hv)
  · simp (disch := omega) only [wpX_deleteRow, vx_ver hk hT hB, hv, nu_01, nu_40, nu_30, nu_20, nu_160, Int32.add_zero, Nat.reduceAdd, nu_m16, nu_16m, nu_m4, nu_4m, nu_m3, nu_3m, nu_m2, nu_2m, nI_1, nu_p2, nu_p3, nu_16p, nu_2p, nI_add, nu_cl, nu_in, Nat.add_zero, nu_l0, nu_l1, nu_l2, nu_l3, nu_l4, nu_i0_5, nu_i1_5, nu_i2_5, nu_i0_3, nu_i1_3, nu_i2_3, nu_n0, nu_n1, nu_na0, nu_na1, forall_eq, true_implies, false_implies, implies_true, not_true_eq_false, not_false_eq_true, and_true, true_and, and_self, true_or, or_true, false_or, or_false, false_and, and_false, eq_self]
    exact h1 hv
end
end
section
/-- a NEW one waits for another NEW one -/
def wa_P (lf : Nat → Int32) (s : Nat) (en : Nat → Int32) (k : Nat) : Prop := ∃ l, l < 16 ∧ en (4 * (16 * s + k) + 2) = nI l ∧ l ≠ k ∧ ¬ lf l = 0
/-- a REMOVED one is linked by another REMOVED one -/
def li_P (lf : Nat → Int32) (s : Nat) (sn : Nat → Int32) (k : Nat) : Prop := ∃ j, j < 16 ∧ ¬ lf j = 0 ∧ j ≠ k ∧ sn (4 * (16 * s + j) + 2) = nI k
theorem le_n {P : Nat → Prop} (h : ∀ k, k < 16 → ¬ P k) : le_S P (-1) := Or.inl ⟨rfl, h⟩
section
variable {sc fc cc rq : Int32} {md bk ct rt rc lk wt wc ch st en sn sk sr fr lf cr rr : Nat → Int32}
theorem vx_ll : ∃ r, le_S (fun k => ¬ lf k = 0) r ∧ ∀ post : Int32 → Prop, post r → wpX_leastLeft post (sc, fc, cc, rq, md, bk, ct, rt, rc, lk, wt, wc, ch, st, en, sn, sk, sr, fr, lf, cr, rr) := by
  have key : ∀ d i : Nat, i + d = 16 → (∀ j, j < i → ¬ ¬ lf j = 0) → ∃ r, le_S (fun k => ¬ lf k = 0) r ∧ ∀ (post : Int32 → Prop) n, d < n → post r → wX_leastLeft_2 post sc fc cc rq md bk ct rt rc lk wt wc ch st en sn sk sr fr lf cr rr n (nI i) := by
    intro d
    induction d with
    | zero =>
      intro i hi h
      refine ⟨-1, le_n (fun k hk => h k (by omega)), fun post n hn hp => ?_⟩
      obtain ⟨n, rfl⟩ : ∃ n', n = n' + 1 := ⟨n - 1, by omega⟩
      simp (disch := omega) only [wX_leastLeft_2, nu_a16, forall_eq, true_implies, false_implies, implies_true, not_true_eq_false, not_false_eq_true, and_true, true_and, and_self, true_or, or_true, false_or, or_false, false_and, and_false, eq_self]
      exact hp
    | succ d ih =>
      intro i hi h
      by_cases z : lf i = 0
      · obtain ⟨r, hr, hX⟩ := ih (i + 1) (by omega) (fun j hj => by
          by_cases q : j = i
          · rw [q]
            exact fun y => y z
          · exact h j (by omega))
        refine ⟨r, hr, fun post n hn hp => ?_⟩
        obtain ⟨n, rfl⟩ : ∃ n', n = n' + 1 := ⟨n - 1, by omega⟩
        simp (disch := omega) only [wX_leastLeft_2, nu_b16, z, nu_01, nu_40, nu_30, nu_20, nu_160, Int32.add_zero, Nat.reduceAdd, nu_m16, nu_16m, nu_m4, nu_4m, nu_m3, nu_3m, nu_m2, nu_2m, nI_1, nu_p2, nu_p3, nu_16p, nu_2p, nI_add, nu_cl, nu_in, Nat.add_zero, nu_l0, nu_l1, nu_l2, nu_l3, nu_l4, nu_i0_5, nu_i1_5, nu_i2_5, nu_i0_3, nu_i1_3, nu_i2_3, nu_n0, nu_n1, nu_na0, nu_na1, forall_eq, true_implies, false_implies, implies_true, not_true_eq_false, not_false_eq_true, and_true, true_and, and_self, true_or, or_true, false_or, or_false, false_and, and_false, eq_self]
        exact hX post n (by omega) hp
      · refine ⟨nI i, Or.inr ⟨i, by omega, rfl, z, h⟩, fun post n hn hp => ?_⟩
        obtain ⟨n, rfl⟩ : ∃ n', n = n' + 1 := ⟨n - 1, by omega⟩
        simp (disch := omega) only [wX_leastLeft_2, nu_b16, z, nu_01, nu_40, nu_30, nu_20, nu_160, Int32.add_zero, Nat.reduceAdd, nu_m16, nu_16m, nu_m4, nu_4m, nu_m3, nu_3m, nu_m2, nu_2m, nI_1, nu_p2, nu_p3, nu_16p, nu_2p, nI_add, nu_cl, nu_in, Nat.add_zero, nu_l0, nu_l1, nu_l2, nu_l3, nu_l4, nu_i0_5, nu_i1_5, nu_i2_5, nu_i0_3, nu_i1_3, nu_i2_3, nu_n0, nu_n1, nu_na0, nu_na1, forall_eq, true_implies, false_implies, implies_true, not_true_eq_false, not_false_eq_true, and_true, true_and, and_self, true_or, or_true, false_or, or_false, false_and, and_false, eq_self]
        exact hp
  obtain ⟨r, hr, hX⟩ := key 16 0 rfl (fun j hj => by omega)
  refine ⟨r, hr, fun post hp => ?_⟩
  simp only [wpX_leastLeft]
  exact ⟨17, hX post 17 (by decide) hp⟩
theorem vx_li {s : Nat} (hs : s < 3) (hE : re_E en) : ∃ r, le_S (fun k => ¬ lf k = 0 ∧ ¬ wa_P lf s en k) r ∧ ∀ post : Int32 → Prop, post r → wpX_leastInsertable post (sc, fc, cc, rq, md, bk, ct, rt, rc, lk, wt, wc, ch, st, en, sn, sk, sr, fr, lf, cr, rr) (nI s) := by
  have hg : ∀ j, j < 16 → re_L (en (4 * (16 * s + j) + 2)) := fun j hj => hE (16 * s + j) (by omega)
  have key : ∀ d i : Nat, i + d = 16 → (∀ j, j < i → ¬ (¬ lf j = 0 ∧ ¬ wa_P lf s en j)) → ∃ r, le_S (fun k => ¬ lf k = 0 ∧ ¬ wa_P lf s en k) r ∧ ∀ (post : Int32 → Prop) n, d < n → post r → wX_leastInsertable_2 post (nI s) sc fc cc rq md bk ct rt rc lk wt wc ch st en sn sk sr fr lf cr rr n (nI i) := by
    intro d
    induction d with
    | zero =>
      intro i hi h
      refine ⟨-1, le_n (fun k hk => h k (by omega)), fun post n hn hp => ?_⟩
      obtain ⟨n, rfl⟩ : ∃ n', n = n' + 1 := ⟨n - 1, by omega⟩
      simp (disch := omega) only [wX_leastInsertable_2, nu_a16, forall_eq, true_implies, false_implies, implies_true, not_true_eq_false, not_false_eq_true, and_true, true_and, and_self, true_or, or_true, false_or, or_false, false_and, and_false, eq_self]
      exact hp
    | succ d ih =>
      intro i hi h
      have hgi := hg i (by omega)
      by_cases z : ¬ lf i = 0 ∧ ¬ wa_P lf s en i
      · refine ⟨nI i, Or.inr ⟨i, by omega, rfl, z, h⟩, fun post n hn hp => ?_⟩
        obtain ⟨n, rfl⟩ : ∃ n', n = n' + 1 := ⟨n - 1, by omega⟩
        have z1 := z.1
        rcases hgi with g | ⟨l, hl, g⟩
        · simp (disch := omega) only [wX_leastInsertable_2, wX_leastInsertable_46, wX_leastInsertable_47, nu_b16, nu_m1lt, g, z1, nu_01, nu_40, nu_30, nu_20, nu_160, Int32.add_zero, Nat.reduceAdd, nu_m16, nu_16m, nu_m4, nu_4m, nu_m3, nu_3m, nu_m2, nu_2m, nI_1, nu_p2, nu_p3, nu_16p, nu_2p, nI_add, nu_cl, nu_in, Nat.add_zero, nu_l0, nu_l1, nu_l2, nu_l3, nu_l4, nu_i0_5, nu_i1_5, nu_i2_5, nu_i0_3, nu_i1_3, nu_i2_3, nu_n0, nu_n1, nu_na0, nu_na1, forall_eq, true_implies, false_implies, implies_true, not_true_eq_false, not_false_eq_true, and_true, true_and, and_self, true_or, or_true, false_or, or_false, false_and, and_false, eq_self]
          exact hp
        · by_cases e : l = i
          · subst e
            simp (disch := omega) only [wX_leastInsertable_2, wX_leastInsertable_46, wX_leastInsertable_47, nu_b16, nu_neg, g, z1, nu_01, nu_40, nu_30, nu_20, nu_160, Int32.add_zero, Nat.reduceAdd, nu_m16, nu_16m, nu_m4, nu_4m, nu_m3, nu_3m, nu_m2, nu_2m, nI_1, nu_p2, nu_p3, nu_16p, nu_2p, nI_add, nu_cl, nu_in, Nat.add_zero, nu_l0, nu_l1, nu_l2, nu_l3, nu_l4, nu_i0_5, nu_i1_5, nu_i2_5, nu_i0_3, nu_i1_3, nu_i2_3, nu_n0, nu_n1, nu_na0, nu_na1, forall_eq, true_implies, false_implies, implies_true, not_true_eq_false, not_false_eq_true, and_true, true_and, and_self, true_or, or_true, false_or, or_false, false_and, and_false, eq_self]
            exact hp
          · have w : lf l = 0 := Classical.byContradiction fun y => z.2 ⟨l, hl, g, e, y⟩
            simp (disch := omega) only [wX_leastInsertable_2, wX_leastInsertable_46, wX_leastInsertable_47, nu_b16, nu_neg, nu_eq, g, e, w, z1, nu_01, nu_40, nu_30, nu_20, nu_160, Int32.add_zero, Nat.reduceAdd, nu_m16, nu_16m, nu_m4, nu_4m, nu_m3, nu_3m, nu_m2, nu_2m, nI_1, nu_p2, nu_p3, nu_16p, nu_2p, nI_add, nu_cl, nu_in, Nat.add_zero, nu_l0, nu_l1, nu_l2, nu_l3, nu_l4, nu_i0_5, nu_i1_5, nu_i2_5, nu_i0_3, nu_i1_3, nu_i2_3, nu_n0, nu_n1, nu_na0, nu_na1, forall_eq, true_implies, false_implies, implies_true, not_true_eq_false, not_false_eq_true, and_true, true_and, and_self, true_or, or_true, false_or, or_false, false_and, and_false, eq_self]
            exact hp
      · obtain ⟨r, hr, hX⟩ := ih (i + 1) (by omega) (fun j hj => by
          by_cases q : j = i
          · rw [q]
            exact z
          · exact h j (by omega))
        refine ⟨r, hr, fun post n hn hp => ?_⟩
        obtain ⟨n, rfl⟩ : ∃ n', n = n' + 1 := ⟨n - 1, by omega⟩
        have hx := hX post n (by omega) hp
        by_cases z1 : lf i = 0
        · rcases hgi with g | ⟨l, hl, g⟩
          · simp (disch := omega) only [wX_leastInsertable_2, wX_leastInsertable_46, wX_leastInsertable_47, nu_b16, nu_m1lt, g, z1, nu_01, nu_40, nu_30, nu_20, nu_160, Int32.add_zero, Nat.reduceAdd, nu_m16, nu_16m, nu_m4, nu_4m, nu_m3, nu_3m, nu_m2, nu_2m, nI_1, nu_p2, nu_p3, nu_16p, nu_2p, nI_add, nu_cl, nu_in, Nat.add_zero, nu_l0, nu_l1, nu_l2, nu_l3, nu_l4, nu_i0_5, nu_i1_5, nu_i2_5, nu_i0_3, nu_i1_3, nu_i2_3, nu_n0, nu_n1, nu_na0, nu_na1, forall_eq, true_implies, false_implies, implies_true, not_true_eq_false, not_false_eq_true, and_true, true_and, and_self, true_or, or_true, false_or, or_false, false_and, and_false, eq_self]
            exact hx
          · by_cases e : l = i
            · subst e
              simp (disch := omega) only [wX_leastInsertable_2, wX_leastInsertable_46, wX_leastInsertable_47, nu_b16, nu_neg, g, z1, nu_01, nu_40, nu_30, nu_20, nu_160, Int32.add_zero, Nat.reduceAdd, nu_m16, nu_16m, nu_m4, nu_4m, nu_m3, nu_3m, nu_m2, nu_2m, nI_1, nu_p2, nu_p3, nu_16p, nu_2p, nI_add, nu_cl, nu_in, Nat.add_zero, nu_l0, nu_l1, nu_l2, nu_l3, nu_l4, nu_i0_5, nu_i1_5, nu_i2_5, nu_i0_3, nu_i1_3, nu_i2_3, nu_n0, nu_n1, nu_na0, nu_na1, forall_eq, true_implies, false_implies, implies_true, not_true_eq_false, not_false_eq_true, and_true, true_and, and_self, true_or, or_true, false_or, or_false, false_and, and_false, eq_self]
              exact hx
            · by_cases w : lf l = 0
              · simp (disch := omega) only [wX_leastInsertable_2, wX_leastInsertable_46, wX_leastInsertable_47, nu_b16, nu_neg, nu_eq, g, e, w, z1, nu_01, nu_40, nu_30, nu_20, nu_160, Int32.add_zero, Nat.reduceAdd, nu_m16, nu_16m, nu_m4, nu_4m, nu_m3, nu_3m, nu_m2, nu_2m, nI_1, nu_p2, nu_p3, nu_16p, nu_2p, nI_add, nu_cl, nu_in, Nat.add_zero, nu_l0, nu_l1, nu_l2, nu_l3, nu_l4, nu_i0_5, nu_i1_5, nu_i2_5, nu_i0_3, nu_i1_3, nu_i2_3, nu_n0, nu_n1, nu_na0, nu_na1, forall_eq, true_implies, false_implies, implies_true, not_true_eq_false, not_false_eq_true, and_true, true_and, and_self, true_or, or_true, false_or, or_false, false_and, and_false, eq_self]
                exact hx
              · simp (disch := omega) only [wX_leastInsertable_2, wX_leastInsertable_46, wX_leastInsertable_47, nu_b16, nu_neg, nu_eq, nu_k10, g, e, w, z1, nu_01, nu_40, nu_30, nu_20, nu_160, Int32.add_zero, Nat.reduceAdd, nu_m16, nu_16m, nu_m4, nu_4m, nu_m3, nu_3m, nu_m2, nu_2m, nI_1, nu_p2, nu_p3, nu_16p, nu_2p, nI_add, nu_cl, nu_in, Nat.add_zero, nu_l0, nu_l1, nu_l2, nu_l3, nu_l4, nu_i0_5, nu_i1_5, nu_i2_5, nu_i0_3, nu_i1_3, nu_i2_3, nu_n0, nu_n1, nu_na0, nu_na1, forall_eq, true_implies, false_implies, implies_true, not_true_eq_false, not_false_eq_true, and_true, true_and, and_self, true_or, or_true, false_or, or_false, false_and, and_false, eq_self]
                exact hx
        · have w : wa_P lf s en i := Classical.byContradiction fun y => z ⟨z1, y⟩
          obtain ⟨l, hl, g, e, w⟩ := w
          simp (disch := omega) only [wX_leastInsertable_2, wX_leastInsertable_46, wX_leastInsertable_47, nu_b16, nu_neg, nu_eq, nu_k10, g, e, w, z1, nu_01, nu_40, nu_30, nu_20, nu_160, Int32.add_zero, Nat.reduceAdd, nu_m16, nu_16m, nu_m4, nu_4m, nu_m3, nu_3m, nu_m2, nu_2m, nI_1, nu_p2, nu_p3, nu_16p, nu_2p, nI_add, nu_cl, nu_in, Nat.add_zero, nu_l0, nu_l1, nu_l2, nu_l3, nu_l4, nu_i0_5, nu_i1_5, nu_i2_5, nu_i0_3, nu_i1_3, nu_i2_3, nu_n0, nu_n1, nu_na0, nu_na1, forall_eq, true_implies, false_implies, implies_true, not_true_eq_false, not_false_eq_true, and_true, true_and, and_self, true_or, or_true, false_or, or_false, false_and, and_false, eq_self]
          exact hx
  obtain ⟨r, hr, hX⟩ := key 16 0 rfl (fun j hj => by omega)
  refine ⟨r, hr, fun post hp => ?_⟩
  simp only [wpX_leastInsertable]
  exact ⟨17, hX post 17 (by decide) hp⟩
theorem vx_il {post : Int32 → Prop} {s k : Nat} (hs : s < 3) (hk : k < 16) (hp : post (di_v (li_P lf s sn k))) : wpX_isLinkedByLeft post (sc, fc, cc, rq, md, bk, ct, rt, rc, lk, wt, wc, ch, st, en, sn, sk, sr, fr, lf, cr, rr) (nI s) (nI k) := by
  have key : ∀ d i : Nat, i + d = 16 → (∀ j, j < i → ¬ (¬ lf j = 0 ∧ j ≠ k ∧ sn (4 * (16 * s + j) + 2) = nI k)) → ∀ n, d < n → wX_isLinkedByLeft_2 post (nI s) (nI k) sc fc cc rq md bk ct rt rc lk wt wc ch st en sn sk sr fr lf cr rr n (nI i) := by
    intro d
    induction d with
    | zero =>
      intro i hi h n hn
      rw [di_f (fun ⟨j, hj, q⟩ => h j (by omega) q)] at hp
      obtain ⟨n, rfl⟩ : ∃ n', n = n' + 1 := ⟨n - 1, by omega⟩
      simp (disch := omega) only [wX_isLinkedByLeft_2, nu_a16, forall_eq, true_implies, false_implies, implies_true, not_true_eq_false, not_false_eq_true, and_true, true_and, and_self, true_or, or_true, false_or, or_false, false_and, and_false, eq_self]
      exact hp
    | succ d ih =>
      intro i hi h n hn
      obtain ⟨n, rfl⟩ : ∃ n', n = n' + 1 := ⟨n - 1, by omega⟩
      by_cases z : ¬ lf i = 0 ∧ i ≠ k ∧ sn (4 * (16 * s + i) + 2) = nI k
      · rw [di_t ⟨i, by omega, z⟩] at hp
        have z1 := z.1
        have z2 := z.2.1
        have z3 := z.2.2
        simp (disch := omega) only [wX_isLinkedByLeft_2, wX_isLinkedByLeft_32, nu_b16, nu_eq, nu_k10, z1, z2, z3, nu_01, nu_40, nu_30, nu_20, nu_160, Int32.add_zero, Nat.reduceAdd, nu_m16, nu_16m, nu_m4, nu_4m, nu_m3, nu_3m, nu_m2, nu_2m, nI_1, nu_p2, nu_p3, nu_16p, nu_2p, nI_add, nu_cl, nu_in, Nat.add_zero, nu_l0, nu_l1, nu_l2, nu_l3, nu_l4, nu_i0_5, nu_i1_5, nu_i2_5, nu_i0_3, nu_i1_3, nu_i2_3, nu_n0, nu_n1, nu_na0, nu_na1, forall_eq, true_implies, false_implies, implies_true, not_true_eq_false, not_false_eq_true, and_true, true_and, and_self, true_or, or_true, false_or, or_false, false_and, and_false, eq_self]
        exact hp
      · have hx := ih (i + 1) (by omega) (fun j hj => by
          by_cases q : j = i
          · rw [q]
            exact z
          · exact h j (by omega)) n (by omega)
        by_cases z1 : lf i = 0
        · by_cases z3 : sn (4 * (16 * s + i) + 2) = nI k
          · simp (disch := omega) only [wX_isLinkedByLeft_2, wX_isLinkedByLeft_32, nu_b16, z1, z3, nu_01, nu_40, nu_30, nu_20, nu_160, Int32.add_zero, Nat.reduceAdd, nu_m16, nu_16m, nu_m4, nu_4m, nu_m3, nu_3m, nu_m2, nu_2m, nI_1, nu_p2, nu_p3, nu_16p, nu_2p, nI_add, nu_cl, nu_in, Nat.add_zero, nu_l0, nu_l1, nu_l2, nu_l3, nu_l4, nu_i0_5, nu_i1_5, nu_i2_5, nu_i0_3, nu_i1_3, nu_i2_3, nu_n0, nu_n1, nu_na0, nu_na1, forall_eq, true_implies, false_implies, implies_true, not_true_eq_false, not_false_eq_true, and_true, true_and, and_self, true_or, or_true, false_or, or_false, false_and, and_false, eq_self]
            exact hx
          · simp (disch := omega) only [wX_isLinkedByLeft_2, wX_isLinkedByLeft_32, nu_b16, z1, z3, nu_01, nu_40, nu_30, nu_20, nu_160, Int32.add_zero, Nat.reduceAdd, nu_m16, nu_16m, nu_m4, nu_4m, nu_m3, nu_3m, nu_m2, nu_2m, nI_1, nu_p2, nu_p3, nu_16p, nu_2p, nI_add, nu_cl, nu_in, Nat.add_zero, nu_l0, nu_l1, nu_l2, nu_l3, nu_l4, nu_i0_5, nu_i1_5, nu_i2_5, nu_i0_3, nu_i1_3, nu_i2_3, nu_n0, nu_n1, nu_na0, nu_na1, forall_eq, true_implies, false_implies, implies_true, not_true_eq_false, not_false_eq_true, and_true, true_and, and_self, true_or, or_true, false_or, or_false, false_and, and_false, eq_self]
            exact hx
        · by_cases z2 : i = k
          · subst z2
            by_cases z3 : sn (4 * (16 * s + i) + 2) = nI i
            · simp (disch := omega) only [wX_isLinkedByLeft_2, wX_isLinkedByLeft_32, nu_b16, z1, z3, nu_01, nu_40, nu_30, nu_20, nu_160, Int32.add_zero, Nat.reduceAdd, nu_m16, nu_16m, nu_m4, nu_4m, nu_m3, nu_3m, nu_m2, nu_2m, nI_1, nu_p2, nu_p3, nu_16p, nu_2p, nI_add, nu_cl, nu_in, Nat.add_zero, nu_l0, nu_l1, nu_l2, nu_l3, nu_l4, nu_i0_5, nu_i1_5, nu_i2_5, nu_i0_3, nu_i1_3, nu_i2_3, nu_n0, nu_n1, nu_na0, nu_na1, forall_eq, true_implies, false_implies, implies_true, not_true_eq_false, not_false_eq_true, and_true, true_and, and_self, true_or, or_true, false_or, or_false, false_and, and_false, eq_self]
              exact hx
            · simp (disch := omega) only [wX_isLinkedByLeft_2, wX_isLinkedByLeft_32, nu_b16, z1, z3, nu_01, nu_40, nu_30, nu_20, nu_160, Int32.add_zero, Nat.reduceAdd, nu_m16, nu_16m, nu_m4, nu_4m, nu_m3, nu_3m, nu_m2, nu_2m, nI_1, nu_p2, nu_p3, nu_16p, nu_2p, nI_add, nu_cl, nu_in, Nat.add_zero, nu_l0, nu_l1, nu_l2, nu_l3, nu_l4, nu_i0_5, nu_i1_5, nu_i2_5, nu_i0_3, nu_i1_3, nu_i2_3, nu_n0, nu_n1, nu_na0, nu_na1, forall_eq, true_implies, false_implies, implies_true, not_true_eq_false, not_false_eq_true, and_true, true_and, and_self, true_or, or_true, false_or, or_false, false_and, and_false, eq_self]
              exact hx
          · have z3 : ¬ sn (4 * (16 * s + i) + 2) = nI k := fun q => z ⟨z1, z2, q⟩
            simp (disch := omega) only [wX_isLinkedByLeft_2, wX_isLinkedByLeft_32, nu_b16, nu_eq, z1, z2, z3, nu_01, nu_40, nu_30, nu_20, nu_160, Int32.add_zero, Nat.reduceAdd, nu_m16, nu_16m, nu_m4, nu_4m, nu_m3, nu_3m, nu_m2, nu_2m, nI_1, nu_p2, nu_p3, nu_16p, nu_2p, nI_add, nu_cl, nu_in, Nat.add_zero, nu_l0, nu_l1, nu_l2, nu_l3, nu_l4, nu_i0_5, nu_i1_5, nu_i2_5, nu_i0_3, nu_i1_3, nu_i2_3, nu_n0, nu_n1, nu_na0, nu_na1, forall_eq, true_implies, false_implies, implies_true, not_true_eq_false, not_false_eq_true, and_true, true_and, and_self, true_or, or_true, false_or, or_false, false_and, and_false, eq_self]
            exact hx
  simp only [wpX_isLinkedByLeft]
  exact ⟨17, key 16 0 rfl (fun j hj => by omega) 17 (by decide)⟩
theorem vx_ld {s : Nat} (hs : s < 3) : ∃ r, le_S (fun k => ¬ lf k = 0 ∧ ¬ li_P lf s sn k) r ∧ ∀ post : Int32 → Prop, post r → wpX_leastDeletable post (sc, fc, cc, rq, md, bk, ct, rt, rc, lk, wt, wc, ch, st, en, sn, sk, sr, fr, lf, cr, rr) (nI s) := by
  have key : ∀ d i : Nat, i + d = 16 → (∀ j, j < i → ¬ (¬ lf j = 0 ∧ ¬ li_P lf s sn j)) → ∃ r, le_S (fun k => ¬ lf k = 0 ∧ ¬ li_P lf s sn k) r ∧ ∀ (post : Int32 → Prop) n, d < n → post r → wX_leastDeletable_2 post (nI s) sc fc cc rq md bk ct rt rc lk wt wc ch st en sn sk sr fr lf cr rr n (nI i) := by
    intro d
    induction d with
    | zero =>
      intro i hi h
      refine ⟨-1, le_n (fun k hk => h k (by omega)), fun post n hn hp => ?_⟩
      obtain ⟨n, rfl⟩ : ∃ n', n = n' + 1 := ⟨n - 1, by omega⟩
      simp (disch := omega) only [wX_leastDeletable_2, nu_a16, forall_eq, true_implies, false_implies, implies_true, not_true_eq_false, not_false_eq_true, and_true, true_and, and_self, true_or, or_true, false_or, or_false, false_and, and_false, eq_self]
      exact hp
    | succ d ih =>
      intro i hi h
      by_cases z : ¬ lf i = 0 ∧ ¬ li_P lf s sn i
      · refine ⟨nI i, Or.inr ⟨i, by omega, rfl, z, h⟩, fun post n hn hp => ?_⟩
        obtain ⟨n, rfl⟩ : ∃ n', n = n' + 1 := ⟨n - 1, by omega⟩
        have z1 := z.1
        simp (disch := omega) only [wX_leastDeletable_2, nu_b16, z1, nu_01, nu_40, nu_30, nu_20, nu_160, Int32.add_zero, Nat.reduceAdd, nu_m16, nu_16m, nu_m4, nu_4m, nu_m3, nu_3m, nu_m2, nu_2m, nI_1, nu_p2, nu_p3, nu_16p, nu_2p, nI_add, nu_cl, nu_in, Nat.add_zero, nu_l0, nu_l1, nu_l2, nu_l3, nu_l4, nu_i0_5, nu_i1_5, nu_i2_5, nu_i0_3, nu_i1_3, nu_i2_3, nu_n0, nu_n1, nu_na0, nu_na1, forall_eq, true_implies, false_implies, implies_true, not_true_eq_false, not_false_eq_true, and_true, true_and, and_self, true_or, or_true, false_or, or_false, false_and, and_false, eq_self]
        refine vx_il hs (by omega) ?_
        rw [di_f z.2]
        simp only [forall_eq, true_implies, false_implies, implies_true, not_true_eq_false, not_false_eq_true, and_true, true_and, and_self, true_or, or_true, false_or, or_false, false_and, and_false, eq_self]
        exact hp
      · obtain ⟨r, hr, hX⟩ := ih (i + 1) (by omega) (fun j hj => by
          by_cases q : j = i
          · rw [q]
            exact z
          · exact h j (by omega))
        refine ⟨r, hr, fun post n hn hp => ?_⟩
        obtain ⟨n, rfl⟩ : ∃ n', n = n' + 1 := ⟨n - 1, by omega⟩
        have hx := hX post n (by omega) hp
        by_cases z1 : lf i = 0
        · simp (disch := omega) only [wX_leastDeletable_2, nu_b16, z1, nu_01, nu_40, nu_30, nu_20, nu_160, Int32.add_zero, Nat.reduceAdd, nu_m16, nu_16m, nu_m4, nu_4m, nu_m3, nu_3m, nu_m2, nu_2m, nI_1, nu_p2, nu_p3, nu_16p, nu_2p, nI_add, nu_cl, nu_in, Nat.add_zero, nu_l0, nu_l1, nu_l2, nu_l3, nu_l4, nu_i0_5, nu_i1_5, nu_i2_5, nu_i0_3, nu_i1_3, nu_i2_3, nu_n0, nu_n1, nu_na0, nu_na1, forall_eq, true_implies, false_implies, implies_true, not_true_eq_false, not_false_eq_true, and_true, true_and, and_self, true_or, or_true, false_or, or_false, false_and, and_false, eq_self]
          exact hx
        · have w : li_P lf s sn i := Classical.byContradiction fun y => z ⟨z1, y⟩
          simp (disch := omega) only [wX_leastDeletable_2, nu_b16, z1, nu_01, nu_40, nu_30, nu_20, nu_160, Int32.add_zero, Nat.reduceAdd, nu_m16, nu_16m, nu_m4, nu_4m, nu_m3, nu_3m, nu_m2, nu_2m, nI_1, nu_p2, nu_p3, nu_16p, nu_2p, nI_add, nu_cl, nu_in, Nat.add_zero, nu_l0, nu_l1, nu_l2, nu_l3, nu_l4, nu_i0_5, nu_i1_5, nu_i2_5, nu_i0_3, nu_i1_3, nu_i2_3, nu_n0, nu_n1, nu_na0, nu_na1, forall_eq, true_implies, false_implies, implies_true, not_true_eq_false, not_false_eq_true, and_true, true_and, and_self, true_or, or_true, false_or, or_false, false_and, and_false, eq_self]
          refine vx_il hs (by omega) ?_
          rw [di_t w]
          simp (disch := omega) only [nu_k10, nu_01, nu_40, nu_30, nu_20, nu_160, Int32.add_zero, Nat.reduceAdd, nu_m16, nu_16m, nu_m4, nu_4m, nu_m3, nu_3m, nu_m2, nu_2m, nI_1, nu_p2, nu_p3, nu_16p, nu_2p, nI_add, nu_cl, nu_in, Nat.add_zero, nu_l0, nu_l1, nu_l2, nu_l3, nu_l4, nu_i0_5, nu_i1_5, nu_i2_5, nu_i0_3, nu_i1_3, nu_i2_3, nu_n0, nu_n1, nu_na0, nu_na1, forall_eq, true_implies, false_implies, implies_true, not_true_eq_false, not_false_eq_true, and_true, true_and, and_self, true_or, or_true, false_or, or_false, false_and, and_false, eq_self]
          exact hx
  obtain ⟨r, hr, hX⟩ := key 16 0 rfl (fun j hj => by omega)
  refine ⟨r, hr, fun post hp => ?_⟩
  simp only [wpX_leastDeletable]
  exact ⟨17, hX post 17 (by decide) hp⟩
end
end
section
def nx_S (L H : Nat → Prop) (r : Int32) : Prop := (¬ r = -1 ∧ le_S (fun k => L k ∧ ¬ H k) r) ∨ (le_S (fun k => L k ∧ ¬ H k) (-1) ∧ le_S L r)
theorem nx_u {L H : Nat → Prop} {r r' : Int32} (a : nx_S L H r) (b : nx_S L H r') : r = r' := by
  rcases a with ⟨a1, a2⟩ | ⟨a1, a2⟩
  · rcases b with ⟨b1, b2⟩ | ⟨b1, b2⟩
    · exact le_u a2 b2
    · exact absurd (le_u a2 b1) a1
  · rcases b with ⟨b1, b2⟩ | ⟨b1, b2⟩
    · exact absurd (le_u b2 a1) b1
    · exact le_u a2 b2
theorem nx_e {L L' H H' : Nat → Prop} {r : Int32} (hL : ∀ k, k < 16 → (L k ↔ L' k)) (hH : ∀ k, k < 16 → L k → (H k ↔ H' k)) (a : nx_S L H r) : nx_S L' H' r := by
  have f : ∀ k, k < 16 → ((L k ∧ ¬ H k) ↔ (L' k ∧ ¬ H' k)) := fun k hk => ⟨fun q => ⟨(hL k hk).mp q.1, fun z => q.2 ((hH k hk q.1).mpr z)⟩, fun q => ⟨(hL k hk).mpr q.1, fun z => q.2 ((hH k hk ((hL k hk).mpr q.1)).mp z)⟩⟩
  rcases a with ⟨a1, a2⟩ | ⟨a1, a2⟩
  · exact Or.inl ⟨a1, le_e f a2⟩
  · exact Or.inr ⟨le_e f a1, le_e hL a2⟩
/-- the next one is left, and whether it hangs says which of both it is -/
theorem nx_k {L H : Nat → Prop} {r : Int32} (a : nx_S L H r) : (r = -1 ∧ ∀ k, k < 16 → ¬ L k) ∨ ∃ k, k < 16 ∧ r = nI k ∧ L k ∧ (H k ↔ le_S (fun k => L k ∧ ¬ H k) (-1)) := by
  rcases a with ⟨a1, a2⟩ | ⟨a1, a2⟩
  · rcases a2 with ⟨q, _⟩ | ⟨k, hk, rfl, pk, mk⟩
    · exact absurd q a1
    · refine Or.inr ⟨k, hk, rfl, pk.1, fun z => absurd z pk.2, fun z => ?_⟩
      rcases z with ⟨_, z⟩ | ⟨j, hj, z, _⟩
      · exact absurd pk (z k hk)
      · rw [nu_men (by omega)] at z
        exact z.elim
  · rcases a2 with ⟨q, h⟩ | ⟨k, hk, rfl, pk, mk⟩
    · exact Or.inl ⟨q, h⟩
    · refine Or.inr ⟨k, hk, rfl, pk, fun _ => a1, fun _ => ?_⟩
      rcases a1 with ⟨_, z⟩ | ⟨j, hj, z, _⟩
      · exact Classical.byContradiction fun y => z k hk ⟨pk, y⟩
      · rw [nu_men (by omega)] at z
        exact z.elim
section
variable {sc fc : Int32} {md bk ct lk ch st en sn fr th ro nw bf ve yl la od sm : Nat → Int32}
theorem vy_h1 {post : Int32 → Prop} {s k : Nat} (hs : s < 3) (hk : k < 16) (hw : nw (3 * (16 * s + k) + 2) = en (4 * (16 * s + k) + 2)) (hp : post (di_v (wa_P yl s en k))) : wpY_hangs post (sc, fc, th, ch, ro, lk, st, nw, bf, ve, bk, md, yl, la, od, sm, fr, ct) (nI s) (nI k) 1 := by
  have key : ∀ d i : Nat, i + d = 16 → (∀ j, j < i → ¬ (¬ yl j = 0 ∧ j ≠ k ∧ en (4 * (16 * s + k) + 2) = nI j)) → ∀ n, d < n → wY_hangs_3 post (nI s) (nI k) 1 sc fc th ch ro lk st nw bf ve bk md yl la od sm fr ct n (nI i) := by
    intro d
    induction d with
    | zero =>
      intro i hi h n hn
      rw [di_f (fun ⟨j, hj, q1, q2, q3⟩ => h j (by omega) ⟨q3, q2, q1⟩)] at hp
      obtain ⟨n, rfl⟩ : ∃ n', n = n' + 1 := ⟨n - 1, by omega⟩
      simp (disch := omega) only [wY_hangs_3, nu_a16, forall_eq, true_implies, false_implies, implies_true, not_true_eq_false, not_false_eq_true, and_true, true_and, and_self, true_or, or_true, false_or, or_false, false_and, and_false, eq_self]
      exact hp
    | succ d ih =>
      intro i hi h n hn
      obtain ⟨n, rfl⟩ : ∃ n', n = n' + 1 := ⟨n - 1, by omega⟩
      by_cases z : ¬ yl i = 0 ∧ i ≠ k ∧ en (4 * (16 * s + k) + 2) = nI i
      · rw [di_t ⟨i, by omega, z.2.2, z.2.1, z.1⟩] at hp
        have z1 := z.1
        have z2 := z.2.1
        have z3 := z.2.2
        simp (disch := omega) only [wY_hangs_3, wY_hangs_48, wY_hangs_78, nu_b16, nu_eq, nu_k10, hw, z1, z2, z3, nu_01, nu_40, nu_30, nu_20, nu_160, Int32.add_zero, Nat.reduceAdd, nu_m16, nu_16m, nu_m4, nu_4m, nu_m3, nu_3m, nu_m2, nu_2m, nI_1, nu_p2, nu_p3, nu_16p, nu_2p, nI_add, nu_cl, nu_in, Nat.add_zero, nu_l0, nu_l1, nu_l2, nu_l3, nu_l4, nu_i0_5, nu_i1_5, nu_i2_5, nu_i0_3, nu_i1_3, nu_i2_3, nu_n0, nu_n1, nu_na0, nu_na1, forall_eq, true_implies, false_implies, implies_true, not_true_eq_false, not_false_eq_true, and_true, true_and, and_self, true_or, or_true, false_or, or_false, false_and, and_false, eq_self]
        exact hp
      · have hx := ih (i + 1) (by omega) (fun j hj => by
          by_cases q : j = i
          · rw [q]
            exact z
          · exact h j (by omega)) n (by omega)
        by_cases z1 : yl i = 0
        · simp (disch := omega) only [wY_hangs_3, wY_hangs_48, nu_b16, nu_k10, z1, nu_01, nu_40, nu_30, nu_20, nu_160, Int32.add_zero, Nat.reduceAdd, nu_m16, nu_16m, nu_m4, nu_4m, nu_m3, nu_3m, nu_m2, nu_2m, nI_1, nu_p2, nu_p3, nu_16p, nu_2p, nI_add, nu_cl, nu_in, Nat.add_zero, nu_l0, nu_l1, nu_l2, nu_l3, nu_l4, nu_i0_5, nu_i1_5, nu_i2_5, nu_i0_3, nu_i1_3, nu_i2_3, nu_n0, nu_n1, nu_na0, nu_na1, forall_eq, true_implies, false_implies, implies_true, not_true_eq_false, not_false_eq_true, and_true, true_and, and_self, true_or, or_true, false_or, or_false, false_and, and_false, eq_self]
          exact hx
        · by_cases z2 : i = k
          · subst z2
            simp (disch := omega) only [wY_hangs_3, wY_hangs_48, nu_b16, nu_k10, z1, nu_01, nu_40, nu_30, nu_20, nu_160, Int32.add_zero, Nat.reduceAdd, nu_m16, nu_16m, nu_m4, nu_4m, nu_m3, nu_3m, nu_m2, nu_2m, nI_1, nu_p2, nu_p3, nu_16p, nu_2p, nI_add, nu_cl, nu_in, Nat.add_zero, nu_l0, nu_l1, nu_l2, nu_l3, nu_l4, nu_i0_5, nu_i1_5, nu_i2_5, nu_i0_3, nu_i1_3, nu_i2_3, nu_n0, nu_n1, nu_na0, nu_na1, forall_eq, true_implies, false_implies, implies_true, not_true_eq_false, not_false_eq_true, and_true, true_and, and_self, true_or, or_true, false_or, or_false, false_and, and_false, eq_self]
            exact hx
          · have z3 : ¬ en (4 * (16 * s + k) + 2) = nI i := fun q => z ⟨z1, z2, q⟩
            simp (disch := omega) only [wY_hangs_3, wY_hangs_48, wY_hangs_78, nu_b16, nu_eq, nu_k10, hw, z1, z2, z3, nu_01, nu_40, nu_30, nu_20, nu_160, Int32.add_zero, Nat.reduceAdd, nu_m16, nu_16m, nu_m4, nu_4m, nu_m3, nu_3m, nu_m2, nu_2m, nI_1, nu_p2, nu_p3, nu_16p, nu_2p, nI_add, nu_cl, nu_in, Nat.add_zero, nu_l0, nu_l1, nu_l2, nu_l3, nu_l4, nu_i0_5, nu_i1_5, nu_i2_5, nu_i0_3, nu_i1_3, nu_i2_3, nu_n0, nu_n1, nu_na0, nu_na1, forall_eq, true_implies, false_implies, implies_true, not_true_eq_false, not_false_eq_true, and_true, true_and, and_self, true_or, or_true, false_or, or_false, false_and, and_false, eq_self]
            exact hx
  simp only [wpY_hangs]
  exact ⟨17, key 16 0 rfl (fun j hj => by omega) 17 (by decide)⟩
theorem vy_h0 {post : Int32 → Prop} {s k : Nat} (hs : s < 3) (hk : k < 16) (hS : re_S sn bf) (hp : post (di_v (li_P yl s sn k))) : wpY_hangs post (sc, fc, th, ch, ro, lk, st, nw, bf, ve, bk, md, yl, la, od, sm, fr, ct) (nI s) (nI k) 0 := by
  have key : ∀ d i : Nat, i + d = 16 → (∀ j, j < i → ¬ (¬ yl j = 0 ∧ j ≠ k ∧ sn (4 * (16 * s + j) + 2) = nI k)) → ∀ n, d < n → wY_hangs_3 post (nI s) (nI k) 0 sc fc th ch ro lk st nw bf ve bk md yl la od sm fr ct n (nI i) := by
    intro d
    induction d with
    | zero =>
      intro i hi h n hn
      rw [di_f (fun ⟨j, hj, q⟩ => h j (by omega) q)] at hp
      obtain ⟨n, rfl⟩ : ∃ n', n = n' + 1 := ⟨n - 1, by omega⟩
      simp (disch := omega) only [wY_hangs_3, nu_a16, forall_eq, true_implies, false_implies, implies_true, not_true_eq_false, not_false_eq_true, and_true, true_and, and_self, true_or, or_true, false_or, or_false, false_and, and_false, eq_self]
      exact hp
    | succ d ih =>
      intro i hi h n hn
      have hb := (hS (16 * s + i) (by omega) 2 (by decide)).symm
      obtain ⟨n, rfl⟩ : ∃ n', n = n' + 1 := ⟨n - 1, by omega⟩
      by_cases z : ¬ yl i = 0 ∧ i ≠ k ∧ sn (4 * (16 * s + i) + 2) = nI k
      · rw [di_t ⟨i, by omega, z⟩] at hp
        have z1 := z.1
        have z2 := z.2.1
        have z3 := z.2.2
        simp (disch := omega) only [wY_hangs_3, wY_hangs_48, wY_hangs_78, nu_b16, nu_eq, hb, z1, z2, z3, nu_01, nu_40, nu_30, nu_20, nu_160, Int32.add_zero, Nat.reduceAdd, nu_m16, nu_16m, nu_m4, nu_4m, nu_m3, nu_3m, nu_m2, nu_2m, nI_1, nu_p2, nu_p3, nu_16p, nu_2p, nI_add, nu_cl, nu_in, Nat.add_zero, nu_l0, nu_l1, nu_l2, nu_l3, nu_l4, nu_i0_5, nu_i1_5, nu_i2_5, nu_i0_3, nu_i1_3, nu_i2_3, nu_n0, nu_n1, nu_na0, nu_na1, forall_eq, true_implies, false_implies, implies_true, not_true_eq_false, not_false_eq_true, and_true, true_and, and_self, true_or, or_true, false_or, or_false, false_and, and_false, eq_self]
        exact hp
      · have hx := ih (i + 1) (by omega) (fun j hj => by
          by_cases q : j = i
          · rw [q]
            exact z
          · exact h j (by omega)) n (by omega)
        by_cases z1 : yl i = 0
        · simp (disch := omega) only [wY_hangs_3, wY_hangs_48, nu_b16, z1, nu_01, nu_40, nu_30, nu_20, nu_160, Int32.add_zero, Nat.reduceAdd, nu_m16, nu_16m, nu_m4, nu_4m, nu_m3, nu_3m, nu_m2, nu_2m, nI_1, nu_p2, nu_p3, nu_16p, nu_2p, nI_add, nu_cl, nu_in, Nat.add_zero, nu_l0, nu_l1, nu_l2, nu_l3, nu_l4, nu_i0_5, nu_i1_5, nu_i2_5, nu_i0_3, nu_i1_3, nu_i2_3, nu_n0, nu_n1, nu_na0, nu_na1, forall_eq, true_implies, false_implies, implies_true, not_true_eq_false, not_false_eq_true, and_true, true_and, and_self, true_or, or_true, false_or, or_false, false_and, and_false, eq_self]
          exact hx
        · by_cases z2 : i = k
          · subst z2
            simp (disch := omega) only [wY_hangs_3, wY_hangs_48, nu_b16, z1, nu_01, nu_40, nu_30, nu_20, nu_160, Int32.add_zero, Nat.reduceAdd, nu_m16, nu_16m, nu_m4, nu_4m, nu_m3, nu_3m, nu_m2, nu_2m, nI_1, nu_p2, nu_p3, nu_16p, nu_2p, nI_add, nu_cl, nu_in, Nat.add_zero, nu_l0, nu_l1, nu_l2, nu_l3, nu_l4, nu_i0_5, nu_i1_5, nu_i2_5, nu_i0_3, nu_i1_3, nu_i2_3, nu_n0, nu_n1, nu_na0, nu_na1, forall_eq, true_implies, false_implies, implies_true, not_true_eq_false, not_false_eq_true, and_true, true_and, and_self, true_or, or_true, false_or, or_false, false_and, and_false, eq_self]
            exact hx
          · have z3 : ¬ sn (4 * (16 * s + i) + 2) = nI k := fun q => z ⟨z1, z2, q⟩
            simp (disch := omega) only [wY_hangs_3, wY_hangs_48, wY_hangs_78, nu_b16, nu_eq, hb, z1, z2, z3, nu_01, nu_40, nu_30, nu_20, nu_160, Int32.add_zero, Nat.reduceAdd, nu_m16, nu_16m, nu_m4, nu_4m, nu_m3, nu_3m, nu_m2, nu_2m, nI_1, nu_p2, nu_p3, nu_16p, nu_2p, nI_add, nu_cl, nu_in, Nat.add_zero, nu_l0, nu_l1, nu_l2, nu_l3, nu_l4, nu_i0_5, nu_i1_5, nu_i2_5, nu_i0_3, nu_i1_3, nu_i2_3, nu_n0, nu_n1, nu_na0, nu_na1, forall_eq, true_implies, false_implies, implies_true, not_true_eq_false, not_false_eq_true, and_true, true_and, and_self, true_or, or_true, false_or, or_false, false_and, and_false, eq_self]
            exact hx
  simp only [wpY_hangs]
  exact ⟨17, key 16 0 rfl (fun j hj => by omega) 17 (by decide)⟩
theorem vy_nx {s : Nat} {o : Int32} {H : Nat → Prop} (hs : s < 3) (hH : ∀ k, k < 16 → ¬ yl k = 0 → ∀ post : Int32 → Prop, post (di_v (H k)) → wpY_hangs post (sc, fc, th, ch, ro, lk, st, nw, bf, ve, bk, md, yl, la, od, sm, fr, ct) (nI s) (nI k) o) : ∃ r, nx_S (fun k => ¬ yl k = 0) H r ∧ ∀ post : Int32 → Prop, post r → wpY_next post (sc, fc, th, ch, ro, lk, st, nw, bf, ve, bk, md, yl, la, od, sm, fr, ct) (nI s) o := by
  have up : ∀ x : Int32, le_S (fun k => ¬ yl k = 0) x → ∀ d i : Nat, i + d = 16 → (∀ j, j < i → ¬ (¬ yl j = 0 ∧ ¬ H j)) → ∃ r, nx_S (fun k => ¬ yl k = 0) H r ∧ ∀ (post : Int32 → Prop) n, d < n → post r → wY_next_33 post (nI s) o x sc fc th ch ro lk st nw bf ve bk md yl la od sm fr ct n (nI i) := by
    intro x hx d
    induction d with
    | zero =>
      intro i hi h
      refine ⟨x, Or.inr ⟨le_n (fun k hk => h k (by omega)), hx⟩, fun post n hn hp => ?_⟩
      obtain ⟨n, rfl⟩ : ∃ n', n = n' + 1 := ⟨n - 1, by omega⟩
      simp (disch := omega) only [wY_next_33, nu_a16, forall_eq, true_implies, false_implies, implies_true, not_true_eq_false, not_false_eq_true, and_true, true_and, and_self, true_or, or_true, false_or, or_false, false_and, and_false, eq_self]
      exact hp
    | succ d ih =>
      intro i hi h
      by_cases z : ¬ yl i = 0 ∧ ¬ H i
      · refine ⟨nI i, Or.inl ⟨fun q => by rw [nu_nem (by omega)] at q; exact q, Or.inr ⟨i, by omega, rfl, z, h⟩⟩, fun post n hn hp => ?_⟩
        obtain ⟨n, rfl⟩ : ∃ n', n = n' + 1 := ⟨n - 1, by omega⟩
        have z1 := z.1
        simp (disch := omega) only [wY_next_33, nu_b16, z1, nu_01, nu_40, nu_30, nu_20, nu_160, Int32.add_zero, Nat.reduceAdd, nu_m16, nu_16m, nu_m4, nu_4m, nu_m3, nu_3m, nu_m2, nu_2m, nI_1, nu_p2, nu_p3, nu_16p, nu_2p, nI_add, nu_cl, nu_in, Nat.add_zero, nu_l0, nu_l1, nu_l2, nu_l3, nu_l4, nu_i0_5, nu_i1_5, nu_i2_5, nu_i0_3, nu_i1_3, nu_i2_3, nu_n0, nu_n1, nu_na0, nu_na1, forall_eq, true_implies, false_implies, implies_true, not_true_eq_false, not_false_eq_true, and_true, true_and, and_self, true_or, or_true, false_or, or_false, false_and, and_false, eq_self]
        refine hH i (by omega) z1 _ ?_
        rw [di_f z.2]
        simp only [wY_next_66, nu_k10, forall_eq, true_implies, false_implies, implies_true, not_true_eq_false, not_false_eq_true, and_true, true_and, and_self, true_or, or_true, false_or, or_false, false_and, and_false, eq_self]
        exact hp
      · obtain ⟨r, hr, hX⟩ := ih (i + 1) (by omega) (fun j hj => by
          by_cases q : j = i
          · rw [q]
            exact z
          · exact h j (by omega))
        refine ⟨r, hr, fun post n hn hp => ?_⟩
        obtain ⟨n, rfl⟩ : ∃ n', n = n' + 1 := ⟨n - 1, by omega⟩
        have hx := hX post n (by omega) hp
        by_cases z1 : yl i = 0
        · simp (disch := omega) only [wY_next_33, wY_next_65, wY_next_66, nu_b16, z1, nu_01, nu_40, nu_30, nu_20, nu_160, Int32.add_zero, Nat.reduceAdd, nu_m16, nu_16m, nu_m4, nu_4m, nu_m3, nu_3m, nu_m2, nu_2m, nI_1, nu_p2, nu_p3, nu_16p, nu_2p, nI_add, nu_cl, nu_in, Nat.add_zero, nu_l0, nu_l1, nu_l2, nu_l3, nu_l4, nu_i0_5, nu_i1_5, nu_i2_5, nu_i0_3, nu_i1_3, nu_i2_3, nu_n0, nu_n1, nu_na0, nu_na1, forall_eq, true_implies, false_implies, implies_true, not_true_eq_false, not_false_eq_true, and_true, true_and, and_self, true_or, or_true, false_or, or_false, false_and, and_false, eq_self]
          exact hx
        · have w : H i := Classical.byContradiction fun y => z ⟨z1, y⟩
          simp (disch := omega) only [wY_next_33, nu_b16, z1, nu_01, nu_40, nu_30, nu_20, nu_160, Int32.add_zero, Nat.reduceAdd, nu_m16, nu_16m, nu_m4, nu_4m, nu_m3, nu_3m, nu_m2, nu_2m, nI_1, nu_p2, nu_p3, nu_16p, nu_2p, nI_add, nu_cl, nu_in, Nat.add_zero, nu_l0, nu_l1, nu_l2, nu_l3, nu_l4, nu_i0_5, nu_i1_5, nu_i2_5, nu_i0_3, nu_i1_3, nu_i2_3, nu_n0, nu_n1, nu_na0, nu_na1, forall_eq, true_implies, false_implies, implies_true, not_true_eq_false, not_false_eq_true, and_true, true_and, and_self, true_or, or_true, false_or, or_false, false_and, and_false, eq_self]
          refine hH i (by omega) z1 _ ?_
          rw [di_t w]
          simp (disch := omega) only [wY_next_65, wY_next_66, nu_k10, nu_01, nu_40, nu_30, nu_20, nu_160, Int32.add_zero, Nat.reduceAdd, nu_m16, nu_16m, nu_m4, nu_4m, nu_m3, nu_3m, nu_m2, nu_2m, nI_1, nu_p2, nu_p3, nu_16p, nu_2p, nI_add, nu_cl, nu_in, Nat.add_zero, nu_l0, nu_l1, nu_l2, nu_l3, nu_l4, nu_i0_5, nu_i1_5, nu_i2_5, nu_i0_3, nu_i1_3, nu_i2_3, nu_n0, nu_n1, nu_na0, nu_na1, forall_eq, true_implies, false_implies, implies_true, not_true_eq_false, not_false_eq_true, and_true, true_and, and_self, true_or, or_true, false_or, or_false, false_and, and_false, eq_self]
          exact hx
  have dn : ∀ m : Nat, m ≤ 16 → ∀ x : Int32, ((x = -1 ∧ ∀ k, m ≤ k → k < 16 → ¬ ¬ yl k = 0) ∨ ∃ k, m ≤ k ∧ k < 16 ∧ x = nI k ∧ ¬ yl k = 0 ∧ ∀ j, m ≤ j → j < k → ¬ ¬ yl j = 0) →
      ∃ x', le_S (fun k => ¬ yl k = 0) x' ∧ ∀ (post : Int32 → Prop) n, m < n → (∃ n33, wY_next_33 post (nI s) o x' sc fc th ch ro lk st nw bf ve bk md yl la od sm fr ct n33 0) → wY_next_6 post (nI s) o sc fc th ch ro lk st nw bf ve bk md yl la od sm fr ct n x (nI m + (-1)) := by
    intro m
    induction m with
    | zero =>
      intro _ x hx
      refine ⟨x, ?_, fun post n hn hp => ?_⟩
      · rcases hx with ⟨q, h⟩ | ⟨k, _, hk, q, l, h⟩
        · exact Or.inl ⟨q, fun k hk => h k (by omega) hk⟩
        · exact Or.inr ⟨k, hk, q, l, fun j hj => h j (by omega) hj⟩
      · obtain ⟨n, rfl⟩ : ∃ n', n = n' + 1 := ⟨n - 1, by omega⟩
        have e : nI 0 + (-1) = -1 := by decide
        rw [e]
        simp only [wY_next_6, nu_m1lt, forall_eq, true_implies, false_implies, implies_true, not_true_eq_false, not_false_eq_true, and_true, true_and, and_self, true_or, or_true, false_or, or_false, false_and, and_false, eq_self]
        exact hp
    | succ m ih =>
      intro hm x hx
      by_cases z : yl m = 0
      · obtain ⟨x', hx', hY⟩ := ih (by omega) x (by
          rcases hx with ⟨q, h⟩ | ⟨k, h1, hk, q, l, h⟩
          · refine Or.inl ⟨q, fun k h1 h2 => ?_⟩
            by_cases e : k = m
            · rw [e]
              exact fun y => y z
            · exact h k (by omega) h2
          · refine Or.inr ⟨k, by omega, hk, q, l, fun j h3 h4 => ?_⟩
            by_cases e : j = m
            · rw [e]
              exact fun y => y z
            · exact h j (by omega) h4)
        refine ⟨x', hx', fun post n hn hp => ?_⟩
        obtain ⟨n, rfl⟩ : ∃ n', n = n' + 1 := ⟨n - 1, by omega⟩
        rw [pk_m1]
        simp (disch := omega) only [wY_next_6, nu_neg, nu_cl, nu_in, z, forall_eq, true_implies, false_implies, implies_true, not_true_eq_false, not_false_eq_true, and_true, true_and, and_self, true_or, or_true, false_or, or_false, false_and, and_false, eq_self]
        exact hY post n (by omega) hp
      · obtain ⟨x', hx', hY⟩ := ih (by omega) (nI m) (Or.inr ⟨m, Nat.le_refl m, by omega, rfl, z, fun j h3 h4 => by omega⟩)
        refine ⟨x', hx', fun post n hn hp => ?_⟩
        obtain ⟨n, rfl⟩ : ∃ n', n = n' + 1 := ⟨n - 1, by omega⟩
        rw [pk_m1]
        simp (disch := omega) only [wY_next_6, nu_neg, nu_cl, nu_in, z, forall_eq, true_implies, false_implies, implies_true, not_true_eq_false, not_false_eq_true, and_true, true_and, and_self, true_or, or_true, false_or, or_false, false_and, and_false, eq_self]
        exact hY post n (by omega) hp
  obtain ⟨x', hx', hY⟩ := dn 16 (Nat.le_refl _) (-1) (Or.inl ⟨rfl, fun k h1 h2 => by omega⟩)
  obtain ⟨r, hr, hZ⟩ := up x' hx' 16 0 rfl (fun j hj => by omega)
  refine ⟨r, hr, fun post hp => ?_⟩
  simp only [wpY_next]
  refine ⟨17, ?_⟩
  have e : (15 : Int32) = nI 16 + (-1) := by decide
  rw [e]
  exact hY post 17 (by decide) ⟨17, hZ post 17 (by decide) hp⟩
end
end
section
theorem di_e {P Q : Prop} (h : P ↔ Q) : di_v P = di_v Q := by rw [propext h]
section
variable {sc fc cc rq : Int32} {md bk ct rt rc lk wt wc ch st en sn sk sr fr cr rr th ro nw bf ve od sm : Nat → Int32}
theorem vx_mk {s : Nat} {x : Int32} (hs : s < 3) : ∀ d i : Nat, i + d = 16 → ∀ lf : Nat → Int32, (∀ j, j < i → lf j = di_v (st (16 * s + j) = x)) → ∃ lf', (∀ j, j < 16 → lf' j = di_v (st (16 * s + j) = x)) ∧
    ∀ (post : SX → Prop) n, d < n → post (sc, fc, cc, rq, md, bk, ct, rt, rc, lk, wt, wc, ch, st, en, sn, sk, sr, fr, lf', cr, rr) → wX_markLeft_2 post (nI s) x sc fc cc rq n (nI i) md bk ct rt rc lk wt wc ch st en sn sk sr fr lf cr rr := by
  intro d
  induction d with
  | zero =>
    intro i hi lf h
    refine ⟨lf, fun j hj => h j (by omega), fun post n hn hp => ?_⟩
    obtain ⟨n, rfl⟩ : ∃ n', n = n' + 1 := ⟨n - 1, by omega⟩
    simp (disch := omega) only [wX_markLeft_2, nu_a16, forall_eq, true_implies, false_implies, implies_true, not_true_eq_false, not_false_eq_true, and_true, true_and, and_self, true_or, or_true, false_or, or_false, false_and, and_false, eq_self]
    exact hp
  | succ d ih =>
    intro i hi lf h
    obtain ⟨lf', h', hX⟩ := ih (i + 1) (by omega) (upd lf i (di_v (st (16 * s + i) = x))) (fun j hj => by
      by_cases q : j = i
      · rw [q, pk_us]
      · rw [pk_un q]
        exact h j (by omega))
    refine ⟨lf', h', fun post n hn hp => ?_⟩
    obtain ⟨n, rfl⟩ : ∃ n', n = n' + 1 := ⟨n - 1, by omega⟩
    have hx := hX post n (by omega) hp
    by_cases z : st (16 * s + i) = x
    · rw [di_t z] at hx
      simp (disch := omega) only [wX_markLeft_2, nu_b16, z, nu_01, nu_40, nu_30, nu_20, nu_160, Int32.add_zero, Nat.reduceAdd, nu_m16, nu_16m, nu_m4, nu_4m, nu_m3, nu_3m, nu_m2, nu_2m, nI_1, nu_p2, nu_p3, nu_16p, nu_2p, nI_add, nu_cl, nu_in, Nat.add_zero, nu_l0, nu_l1, nu_l2, nu_l3, nu_l4, nu_i0_5, nu_i1_5, nu_i2_5, nu_i0_3, nu_i1_3, nu_i2_3, nu_n0, nu_n1, nu_na0, nu_na1, forall_eq, true_implies, false_implies, implies_true, not_true_eq_false, not_false_eq_true, and_true, true_and, and_self, true_or, or_true, false_or, or_false, false_and, and_false, eq_self]
      exact hx
    · rw [di_f z] at hx
      simp (disch := omega) only [wX_markLeft_2, nu_b16, z, nu_01, nu_40, nu_30, nu_20, nu_160, Int32.add_zero, Nat.reduceAdd, nu_m16, nu_16m, nu_m4, nu_4m, nu_m3, nu_3m, nu_m2, nu_2m, nI_1, nu_p2, nu_p3, nu_16p, nu_2p, nI_add, nu_cl, nu_in, Nat.add_zero, nu_l0, nu_l1, nu_l2, nu_l3, nu_l4, nu_i0_5, nu_i1_5, nu_i2_5, nu_i0_3, nu_i1_3, nu_i2_3, nu_n0, nu_n1, nu_na0, nu_na1, forall_eq, true_implies, false_implies, implies_true, not_true_eq_false, not_false_eq_true, and_true, true_and, and_self, true_or, or_true, false_or, or_false, false_and, and_false, eq_self]
      exact hx
theorem vy_m7 {s : Nat} (hs : s < 3) (hN : re_N st en nw) (hS : re_S sn bf) : ∀ d i : Nat, i + d = 16 → ∀ yl la : Nat → Int32, (∀ j, j < i → yl j = di_v (st (16 * s + j) = 2) ∧ la j = di_v (di_P st en sn (16 * s + j))) →
    ∃ yl' la', (∀ j, j < 16 → yl' j = di_v (st (16 * s + j) = 2) ∧ la' j = di_v (di_P st en sn (16 * s + j))) ∧
    ∀ (post : Int32 → SY → Prop) n, d < n → wpY_next (fun r => ∃ n74, wY_inserts_74 post (nI s) n74 0 0 r sc fc th ch ro lk st nw bf ve bk md yl' la' od sm fr ct) (sc, fc, th, ch, ro, lk, st, nw, bf, ve, bk, md, yl', la', od, sm, fr, ct) (nI s) 1 → wY_inserts_7 post (nI s) 0 0 sc fc n (nI i) th ch ro lk st nw bf ve bk md yl la od sm fr ct := by
  intro d
  induction d with
  | zero =>
    intro i hi yl la h
    refine ⟨yl, la, fun j hj => h j (by omega), fun post n hn hp => ?_⟩
    obtain ⟨n, rfl⟩ : ∃ n', n = n' + 1 := ⟨n - 1, by omega⟩
    simp (disch := omega) only [wY_inserts_7, nu_a16, forall_eq, true_implies, false_implies, implies_true, not_true_eq_false, not_false_eq_true, and_true, true_and, and_self, true_or, or_true, false_or, or_false, false_and, and_false, eq_self]
    exact hp
  | succ d ih =>
    intro i hi yl la h
    obtain ⟨yl', la', h', hX⟩ := ih (i + 1) (by omega) (upd yl i (di_v (st (16 * s + i) = 2))) (upd la i (di_v (di_P st en sn (16 * s + i)))) (fun j hj => by
      by_cases q : j = i
      · rw [q, pk_us, pk_us]
        exact ⟨rfl, rfl⟩
      · rw [pk_un q, pk_un q]
        exact h j (by omega))
    refine ⟨yl', la', h', fun post n hn hp => ?_⟩
    obtain ⟨n, rfl⟩ : ∃ n', n = n' + 1 := ⟨n - 1, by omega⟩
    have hx := hX post n (by omega) hp
    have hd := nu_nb (di_01 (di_P st en sn (16 * s + i)))
    by_cases z : st (16 * s + i) = 2
    · rw [di_t z] at hx
      simp (disch := omega) only [wY_inserts_7, wY_inserts_41, nu_b16, z, nu_01, nu_40, nu_30, nu_20, nu_160, Int32.add_zero, Nat.reduceAdd, nu_m16, nu_16m, nu_m4, nu_4m, nu_m3, nu_3m, nu_m2, nu_2m, nI_1, nu_p2, nu_p3, nu_16p, nu_2p, nI_add, nu_cl, nu_in, Nat.add_zero, nu_l0, nu_l1, nu_l2, nu_l3, nu_l4, nu_i0_5, nu_i1_5, nu_i2_5, nu_i0_3, nu_i1_3, nu_i2_3, nu_n0, nu_n1, nu_na0, nu_na1, forall_eq, true_implies, false_implies, implies_true, not_true_eq_false, not_false_eq_true, and_true, true_and, and_self, true_or, or_true, false_or, or_false, false_and, and_false, eq_self]
      refine vy_dir (by omega) hN hS ?_
      simp (disch := omega) only [hd, nu_01, nu_40, nu_30, nu_20, nu_160, Int32.add_zero, Nat.reduceAdd, nu_m16, nu_16m, nu_m4, nu_4m, nu_m3, nu_3m, nu_m2, nu_2m, nI_1, nu_p2, nu_p3, nu_16p, nu_2p, nI_add, nu_cl, nu_in, Nat.add_zero, nu_l0, nu_l1, nu_l2, nu_l3, nu_l4, nu_i0_5, nu_i1_5, nu_i2_5, nu_i0_3, nu_i1_3, nu_i2_3, nu_n0, nu_n1, nu_na0, nu_na1, forall_eq, true_implies, false_implies, implies_true, not_true_eq_false, not_false_eq_true, and_true, true_and, and_self, true_or, or_true, false_or, or_false, false_and, and_false, eq_self]
      exact hx
    · rw [di_f z] at hx
      simp (disch := omega) only [wY_inserts_7, wY_inserts_41, nu_b16, z, nu_01, nu_40, nu_30, nu_20, nu_160, Int32.add_zero, Nat.reduceAdd, nu_m16, nu_16m, nu_m4, nu_4m, nu_m3, nu_3m, nu_m2, nu_2m, nI_1, nu_p2, nu_p3, nu_16p, nu_2p, nI_add, nu_cl, nu_in, Nat.add_zero, nu_l0, nu_l1, nu_l2, nu_l3, nu_l4, nu_i0_5, nu_i1_5, nu_i2_5, nu_i0_3, nu_i1_3, nu_i2_3, nu_n0, nu_n1, nu_na0, nu_na1, forall_eq, true_implies, false_implies, implies_true, not_true_eq_false, not_false_eq_true, and_true, true_and, and_self, true_or, or_true, false_or, or_false, false_and, and_false, eq_self]
      refine vy_dir (by omega) hN hS ?_
      simp (disch := omega) only [hd, nu_01, nu_40, nu_30, nu_20, nu_160, Int32.add_zero, Nat.reduceAdd, nu_m16, nu_16m, nu_m4, nu_4m, nu_m3, nu_3m, nu_m2, nu_2m, nI_1, nu_p2, nu_p3, nu_16p, nu_2p, nI_add, nu_cl, nu_in, Nat.add_zero, nu_l0, nu_l1, nu_l2, nu_l3, nu_l4, nu_i0_5, nu_i1_5, nu_i2_5, nu_i0_3, nu_i1_3, nu_i2_3, nu_n0, nu_n1, nu_na0, nu_na1, forall_eq, true_implies, false_implies, implies_true, not_true_eq_false, not_false_eq_true, and_true, true_and, and_self, true_or, or_true, false_or, or_false, false_and, and_false, eq_self]
      exact hx
end
def ct_I (s c : Nat) (st cr od : Nat → Int32) : Prop := ∀ j, j < c → cr j = od j ∧ ∃ k, k < 16 ∧ cr j = nI k ∧ st (16 * s + k) = 2
theorem ct_u {s c k : Nat} {st cr od : Nat → Int32} (h : ct_I s c st cr od) (hk : k < 16) (h2 : st (16 * s + k) = 2) : ct_I s (c + 1) st (upd cr c (nI k)) (upd od c (nI k)) := by
  intro j hj
  by_cases q : j = c
  · rw [q, pk_us, pk_us]
    exact ⟨rfl, k, hk, rfl, h2⟩
  · rw [pk_un q, pk_un q]
    exact h j (by omega)
theorem wa_e {lf yl en : Nat → Int32} {s k : Nat} (hl : ∀ j, j < 16 → lf j = yl j) : wa_P yl s en k ↔ wa_P lf s en k := by
  constructor
  · rintro ⟨l, h1, h2, h3, h4⟩
    exact ⟨l, h1, h2, h3, by rw [hl l h1]; exact h4⟩
  · rintro ⟨l, h1, h2, h3, h4⟩
    exact ⟨l, h1, h2, h3, by rw [← hl l h1]; exact h4⟩
theorem li_e {lf yl sn : Nat → Int32} {s k : Nat} (hl : ∀ j, j < 16 → lf j = yl j) : li_P yl s sn k ↔ li_P lf s sn k := by
  constructor
  · rintro ⟨l, h1, h2, h3, h4⟩
    exact ⟨l, h1, by rw [hl l h1]; exact h2, h3, h4⟩
  · rintro ⟨l, h1, h2, h3, h4⟩
    exact ⟨l, h1, by rw [← hl l h1]; exact h2, h3, h4⟩
/-- one is taken out of what is left -/
theorem lf_out {lf : Nat → Int32} {k m : Nat} (hk : k < 16) (h : ¬ lf k = 0) (hm : cn_n (fun j => ¬ lf j = 0) 16 = m) : cn_n (fun j => ¬ upd lf k 0 j = 0) 16 + 1 = m := by
  rw [← hm]
  refine cn_out hk h (fun j hj => ?_)
  by_cases q : j = k
  · rw [q, pk_us]
    exact ⟨fun z => absurd rfl z, fun z => absurd rfl z.2⟩
  · rw [pk_un q]
    exact ⟨fun z => ⟨z, q⟩, fun z => z.1⟩
section
variable {md bk rt rc st en sn fr rr nw bf ve la : Nat → Int32} {fc rq : Int32}
theorem ix_L {s a : Nat} (hs : s < 3) (ha : a ≤ 16) : ∀ (m i : Nat), i + m ≤ 16 → ∀ (n c : Nat) (ct lk wt wc ch sk sr lf cr th ro yl od sm : Nat → Int32), cn_n (fun k => ¬ lf k = 0) 16 = m → n + m ≤ a → c + m ≤ a → (∀ j, j < 16 → lf j = yl j) → (∀ j, j < 16 → ¬ lf j = 0 → st (16 * s + j) = 2) → ct_I s c st cr od → re_R md bk ch lk st rt rc wt wc en sn th ro nw bf ve → re_P n sk sr sm →
    ∀ x4, nx_S (fun k => ¬ yl k = 0) (wa_P yl s en) x4 →
    ∃ (r : Int32) (n' c' c2 : Nat) (ct' lk' wt' wc' ch' sk' sr' lf' cr' th' ro' yl' od' sm' : Nat → Int32), re_R md bk ch' lk' st rt rc wt' wc' en sn th' ro' nw bf ve ∧ re_P n' sk' sr' sm' ∧ n' ≤ a ∧ (r = 0 → c' ≤ a ∧ c2 = c' ∧ ct_I s c' st cr' od') ∧
      (∀ (post : Int32 → SX → Prop) k, m < k → post r (nI n', fc, nI c', rq, md, bk, ct', rt, rc, lk', wt', wc', ch', st, en, sn, sk', sr', fr, lf', cr', rr) → wX_insertNew_13 post (nI s) k (nI i) (nI n) fc (nI c) rq md bk ct rt rc lk wt wc ch st en sn sk sr fr lf cr rr) ∧
      (∀ (post : Int32 → SY → Prop) k, m < k → (∃ n141, wY_inserts_141 post (nI s) (nI c2) n141 r 0 (nI n') fc th' ch' ro' lk' st nw bf ve bk md yl' la od' sm' fr ct') → wY_inserts_74 post (nI s) k 0 (nI c) x4 (nI n) fc th ch ro lk st nw bf ve bk md yl la od sm fr ct) := by
  intro m
  induction m with
  | zero =>
    intro i hi n c ct lk wt wc ch sk sr lf cr th ro yl od sm hm hna hca hl h2 hI R hP x4 hx4
    have nol := cn_0 hm
    have e4 : x4 = -1 := by
      rcases nx_k hx4 with q | ⟨k, hk, _, q, _⟩
      · exact q.1
      · exact absurd (by rw [hl k hk]; exact q) (nol k hk)
    subst e4
    refine ⟨0, n, c, c, ct, lk, wt, wc, ch, sk, sr, lf, cr, th, ro, yl, od, sm, R, hP, by omega, fun _ => ⟨by omega, rfl, hI⟩, fun post k hk hp => ?_, fun post k hk hp => ?_⟩
    · obtain ⟨k, rfl⟩ : ∃ k', k = k' + 1 := ⟨k - 1, by omega⟩
      by_cases i16 : i = 16
      · simp (disch := omega) only [wX_insertNew_13, nu_a16, forall_eq, true_implies, false_implies, implies_true, not_true_eq_false, not_false_eq_true, and_true, true_and, and_self, true_or, or_true, false_or, or_false, false_and, and_false, eq_self]
        exact hp
      · obtain ⟨r1, h1, hX1⟩ := vx_li (sc := nI n) (fc := fc) (cc := nI c) (rq := rq) (md := md) (bk := bk) (ct := ct) (rt := rt) (rc := rc) (lk := lk) (wt := wt) (wc := wc) (ch := ch) (st := st) (sn := sn) (sk := sk) (sr := sr) (fr := fr) (lf := lf) (cr := cr) (rr := rr) hs (re_rE R)
        obtain ⟨r2, h2, hX2⟩ := vx_ll (sc := nI n) (fc := fc) (cc := nI c) (rq := rq) (md := md) (bk := bk) (ct := ct) (rt := rt) (rc := rc) (lk := lk) (wt := wt) (wc := wc) (ch := ch) (st := st) (en := en) (sn := sn) (sk := sk) (sr := sr) (fr := fr) (lf := lf) (cr := cr) (rr := rr)
        have e1 : r1 = -1 := le_u h1 (le_n (fun k hk q => nol k hk q.1))
        have e2 : r2 = -1 := le_u h2 (le_n (fun k hk q => nol k hk q))
        simp (disch := omega) only [wX_insertNew_13, nu_b16, forall_eq, true_implies, false_implies, implies_true, not_true_eq_false, not_false_eq_true, and_true, true_and, and_self, true_or, or_true, false_or, or_false, false_and, and_false, eq_self]
        refine hX1 _ ?_
        rw [e1]
        simp only [wX_insertNew_35, nu_k10, forall_eq, true_implies, false_implies, implies_true, not_true_eq_false, not_false_eq_true, and_true, true_and, and_self, true_or, or_true, false_or, or_false, false_and, and_false, eq_self]
        refine hX2 _ ?_
        rw [e2]
        simp only [wX_insertNew_47, forall_eq, true_implies, false_implies, implies_true, not_true_eq_false, not_false_eq_true, and_true, true_and, and_self, true_or, or_true, false_or, or_false, false_and, and_false, eq_self]
        exact hp
    · obtain ⟨k, rfl⟩ : ∃ k', k = k' + 1 := ⟨k - 1, by omega⟩
      simp only [wY_inserts_74, nu_m1lt, forall_eq, true_implies, false_implies, implies_true, not_true_eq_false, not_false_eq_true, and_true, true_and, and_self, true_or, or_true, false_or, or_false, false_and, and_false, eq_self]
      exact hp
  | succ m ih =>
    intro i hi n c ct lk wt wc ch sk sr lf cr th ro yl od sm hm hna hca hl h2 hI R hP x4 hx4
    obtain ⟨r1, h1, hX1⟩ := vx_li (sc := nI n) (fc := fc) (cc := nI c) (rq := rq) (md := md) (bk := bk) (ct := ct) (rt := rt) (rc := rc) (lk := lk) (wt := wt) (wc := wc) (ch := ch) (st := st) (sn := sn) (sk := sk) (sr := sr) (fr := fr) (lf := lf) (cr := cr) (rr := rr) hs (re_rE R)
    obtain ⟨r2, h3, hX2⟩ := vx_ll (sc := nI n) (fc := fc) (cc := nI c) (rq := rq) (md := md) (bk := bk) (ct := ct) (rt := rt) (rc := rc) (lk := lk) (wt := wt) (wc := wc) (ch := ch) (st := st) (en := en) (sn := sn) (sk := sk) (sr := sr) (fr := fr) (lf := lf) (cr := cr) (rr := rr)
    have hxX : nx_S (fun k => ¬ lf k = 0) (wa_P lf s en) x4 := nx_e (fun k hk => by rw [hl k hk]) (fun k hk _ => wa_e hl) hx4
    have e4 : x4 = if r1 = -1 then r2 else r1 := by
      refine nx_u hxX ?_
      by_cases q : r1 = -1
      · rw [if_pos q]
        rw [q] at h1
        exact Or.inr ⟨h1, h3⟩
      · rw [if_neg q]
        exact Or.inl ⟨q, h1⟩
    obtain ⟨k, hk, ek, lk0, hb⟩ : ∃ k, k < 16 ∧ x4 = nI k ∧ ¬ lf k = 0 ∧ (wa_P lf s en k ↔ r1 = -1) := by
      rcases nx_k hxX with ⟨_, q⟩ | ⟨k, hk, e, l, w⟩
      · have := cn_z (P := fun k => ¬ lf k = 0) (N := 16) q
        omega
      · refine ⟨k, hk, e, l, fun z => le_u h1 (w.mp z), fun z => w.mpr ?_⟩
        rw [z] at h1
        exact h1
    have hX0 : ∀ (post : Int32 → SX → Prop) f, wX_insertNew_47 post (wX_insertNew_13 post (nI s) f) (nI s) (nI i) (nI k) (di_v (wa_P lf s en k)) (nI n) fc (nI c) rq md bk ct rt rc lk wt wc ch st en sn sk sr fr lf cr rr → wX_insertNew_13 post (nI s) (f + 1) (nI i) (nI n) fc (nI c) rq md bk ct rt rc lk wt wc ch st en sn sk sr fr lf cr rr := by
      intro post f hp
      simp (disch := omega) only [wX_insertNew_13, nu_b16, forall_eq, true_implies, false_implies, implies_true, not_true_eq_false, not_false_eq_true, and_true, true_and, and_self, true_or, or_true, false_or, or_false, false_and, and_false, eq_self]
      refine hX1 _ ?_
      by_cases q : r1 = -1
      · rw [if_pos q, ek] at e4
        rw [di_t (hb.mpr q)] at hp
        simp only [q, wX_insertNew_35, nu_k10, forall_eq, true_implies, false_implies, implies_true, not_true_eq_false, not_false_eq_true, and_true, true_and, and_self, true_or, or_true, false_or, or_false, false_and, and_false, eq_self]
        refine hX2 _ ?_
        rw [← e4]
        exact hp
      · rw [if_neg q, ek] at e4
        rw [di_f (fun z => q (hb.mp z))] at hp
        simp only [q, wX_insertNew_35, forall_eq, true_implies, false_implies, implies_true, not_true_eq_false, not_false_eq_true, and_true, true_and, and_self, true_or, or_true, false_or, or_false, false_and, and_false, eq_self]
        rw [← e4]
        exact hp
    subst ek
    have h2k := h2 k hk lk0
    have hw : nw (3 * (16 * s + k) + 2) = en (4 * (16 * s + k) + 2) := (re_rN R (16 * s + k) (by omega) (by rw [h2k]; decide) (by rw [h2k]; decide) 2 (by decide)).symm
    have hout := lf_out hk lk0 hm
    have hl' : ∀ j, j < 16 → upd lf k 0 j = upd yl k 0 j := by
      intro j hj
      by_cases q : j = k
      · rw [q, pk_us, pk_us]
      · rw [pk_un q, pk_un q]
        exact hl j hj
    have h2' : ∀ j, j < 16 → ¬ upd lf k 0 j = 0 → st (16 * s + j) = 2 := by
      intro j hj z
      by_cases q : j = k
      · rw [q]
        exact h2k
      · rw [pk_un q] at z
        exact h2 j hj z
    -- the new list of cut rows on the reference's side
    obtain ⟨od1, c1, hod⟩ : ∃ (od1 : Nat → Int32) (c1 : Nat), (wa_P lf s en k → od1 = upd od c (nI k) ∧ c1 = c + 1) ∧ (¬ wa_P lf s en k → od1 = od ∧ c1 = c) := by
      by_cases w : wa_P lf s en k
      · exact ⟨upd od c (nI k), c + 1, fun _ => ⟨rfl, rfl⟩, fun q => absurd w q⟩
      · exact ⟨od, c, fun q => absurd q w, fun _ => ⟨rfl, rfl⟩⟩
    obtain ⟨r, n1, c', ct1, lk1, wt1, wc1, ch1, sk1, sr1, cr1, th1, ro1, sm1, R1, P1, hn1, hn2, hcut, gX, gY⟩ := is_S (ct := ct) (fr := fr) (lf := upd lf k 0) (cr := cr) (rr := rr) fc rq (upd yl k 0) la od1 hs hk (show n < 32 by omega) (show c < 16 by omega) (di_01 (wa_P lf s en k)) h2k R hP
    have hY0 : ∀ (post : Int32 → SY → Prop) f, wpY_insert (fun r u => match u with | (sc9, fc9, th9, ch9, ro9, lk9, st9, nw9, bf9, ve9, bk9, md9, yl9, la9, od9, sm9, fr9, ct9) => wpY_next (fun r' => wY_inserts_74 post (nI s) f r (nI c1) r' sc9 fc9 th9 ch9 ro9 lk9 st9 nw9 bf9 ve9 bk9 md9 yl9 la9 od9 sm9 fr9 ct9) (sc9, fc9, th9, ch9, ro9, lk9, st9, nw9, bf9, ve9, bk9, md9, yl9, la9, od9, sm9, fr9, ct9) (nI s) 1) (nI n, fc, th, ch, ro, lk, st, nw, bf, ve, bk, md, upd yl k 0, la, od1, sm, fr, ct) (nI s) (nI k) (di_v (wa_P lf s en k)) → wY_inserts_74 post (nI s) (f + 1) 0 (nI c) (nI k) (nI n) fc th ch ro lk st nw bf ve bk md yl la od sm fr ct := by
      intro post f hp
      simp (disch := omega) only [wY_inserts_74, nu_neg, forall_eq, true_implies, false_implies, implies_true, not_true_eq_false, not_false_eq_true, and_true, true_and, and_self, true_or, or_true, false_or, or_false, false_and, and_false, eq_self]
      refine vy_h1 hs hk hw ?_
      rw [di_e (wa_e hl)]
      by_cases w : wa_P lf s en k
      · obtain ⟨rfl, rfl⟩ := hod.1 w
        rw [di_t w] at hp ⊢
        simp (disch := omega) only [wY_inserts_117, nu_k10, nu_01, nu_40, nu_30, nu_20, nu_160, Int32.add_zero, Nat.reduceAdd, nu_m16, nu_16m, nu_m4, nu_4m, nu_m3, nu_3m, nu_m2, nu_2m, nI_1, nu_p2, nu_p3, nu_16p, nu_2p, nI_add, nu_cl, nu_in, Nat.add_zero, nu_l0, nu_l1, nu_l2, nu_l3, nu_l4, nu_i0_5, nu_i1_5, nu_i2_5, nu_i0_3, nu_i1_3, nu_i2_3, nu_n0, nu_n1, nu_na0, nu_na1, forall_eq, true_implies, false_implies, implies_true, not_true_eq_false, not_false_eq_true, and_true, true_and, and_self, true_or, or_true, false_or, or_false, false_and, and_false, eq_self]
        exact hp
      · obtain ⟨rfl, rfl⟩ := hod.2 w
        rw [di_f w] at hp ⊢
        simp (disch := omega) only [wY_inserts_117, nu_01, nu_40, nu_30, nu_20, nu_160, Int32.add_zero, Nat.reduceAdd, nu_m16, nu_16m, nu_m4, nu_4m, nu_m3, nu_3m, nu_m2, nu_2m, nI_1, nu_p2, nu_p3, nu_16p, nu_2p, nI_add, nu_cl, nu_in, Nat.add_zero, nu_l0, nu_l1, nu_l2, nu_l3, nu_l4, nu_i0_5, nu_i1_5, nu_i2_5, nu_i0_3, nu_i1_3, nu_i2_3, nu_n0, nu_n1, nu_na0, nu_na1, forall_eq, true_implies, false_implies, implies_true, not_true_eq_false, not_false_eq_true, and_true, true_and, and_self, true_or, or_true, false_or, or_false, false_and, and_false, eq_self]
        exact hp
    obtain ⟨x5, hx5, hNX⟩ := vy_nx (sc := nI n1) (fc := fc) (md := md) (bk := bk) (ct := ct1) (lk := lk1) (ch := ch1) (st := st) (fr := fr) (th := th1) (ro := ro1) (nw := nw) (bf := bf) (ve := ve) (yl := upd yl k 0) (la := la) (od := od1) (sm := sm1) (s := s) (o := 1) (H := wa_P (upd yl k 0) s en) hs (fun j hj z post hp => vy_h1 hs hj (by
      have z2 := h2' j hj (by rw [hl' j hj]; exact z)
      exact (re_rN R (16 * s + j) (by omega) (by rw [z2]; decide) (by rw [z2]; decide) 2 (by decide)).symm) hp)
    by_cases r0 : r = 0
    · subst r0
      have hc1 : c' = c1 ∧ ct_I s c1 st cr1 od1 ∧ c1 ≤ c + 1 := by
        by_cases w : wa_P lf s en k
        · obtain ⟨a1, a2⟩ := hod.1 w
          obtain ⟨b1, b2⟩ := (hcut rfl).2 (di_t w)
          rw [a1, a2, b2]
          exact ⟨b1, ct_u hI hk h2k, Nat.le_refl _⟩
        · obtain ⟨a1, a2⟩ := hod.2 w
          obtain ⟨b1, b2⟩ := (hcut rfl).1 (di_f w)
          rw [a1, a2, b2]
          exact ⟨b1, hI, by omega⟩
      obtain ⟨rfl, hI1, hcl⟩ := hc1
      obtain ⟨r', n', c'', c2, ct2, lk2, wt2, wc2, ch2, sk2, sr2, lf2, cr2, th2, ro2, yl2, od2, sm2, R2, P2, hn', hr', hX', hY'⟩ := ih (i + 1) (by omega) n1 c' ct1 lk1 wt1 wc1 ch1 sk1 sr1 (upd lf k 0) cr1 th1 ro1 (upd yl k 0) od1 sm1 (by omega) (by omega) (by omega) hl' h2' hI1 R1 P1 x5 hx5
      refine ⟨r', n', c'', c2, ct2, lk2, wt2, wc2, ch2, sk2, sr2, lf2, cr2, th2, ro2, yl2, od2, sm2, R2, P2, hn', hr', fun post f hf hp => ?_, fun post f hf hp => ?_⟩
      · obtain ⟨f, rfl⟩ : ∃ f', f = f' + 1 := ⟨f - 1, by omega⟩
        refine hX0 post f ?_
        simp (disch := omega) only [wX_insertNew_47, nu_nem, nu_01, nu_40, nu_30, nu_20, nu_160, Int32.add_zero, Nat.reduceAdd, nu_m16, nu_16m, nu_m4, nu_4m, nu_m3, nu_3m, nu_m2, nu_2m, nI_1, nu_p2, nu_p3, nu_16p, nu_2p, nI_add, nu_cl, nu_in, Nat.add_zero, nu_l0, nu_l1, nu_l2, nu_l3, nu_l4, nu_i0_5, nu_i1_5, nu_i2_5, nu_i0_3, nu_i1_3, nu_i2_3, nu_n0, nu_n1, nu_na0, nu_na1, forall_eq, true_implies, false_implies, implies_true, not_true_eq_false, not_false_eq_true, and_true, true_and, and_self, true_or, or_true, false_or, or_false, false_and, and_false, eq_self]
        refine gX _ ?_
        simp (disch := omega) only [nu_01, nu_40, nu_30, nu_20, nu_160, Int32.add_zero, Nat.reduceAdd, nu_m16, nu_16m, nu_m4, nu_4m, nu_m3, nu_3m, nu_m2, nu_2m, nI_1, nu_p2, nu_p3, nu_16p, nu_2p, nI_add, nu_cl, nu_in, Nat.add_zero, nu_l0, nu_l1, nu_l2, nu_l3, nu_l4, nu_i0_5, nu_i1_5, nu_i2_5, nu_i0_3, nu_i1_3, nu_i2_3, nu_n0, nu_n1, nu_na0, nu_na1, forall_eq, true_implies, false_implies, implies_true, not_true_eq_false, not_false_eq_true, and_true, true_and, and_self, true_or, or_true, false_or, or_false, false_and, and_false, eq_self]
        exact hX' post f (by omega) hp
      · obtain ⟨f, rfl⟩ : ∃ f', f = f' + 1 := ⟨f - 1, by omega⟩
        refine hY0 post f ?_
        refine gY _ ?_
        dsimp only
        refine hNX _ ?_
        exact hY' post f (by omega) hp
    · refine ⟨r, n1, c', c1, ct1, lk1, wt1, wc1, ch1, sk1, sr1, upd lf k 0, cr1, th1, ro1, upd yl k 0, od1, sm1, R1, P1, by omega, fun q => absurd q r0, fun post f hf hp => ?_, fun post f hf hp => ?_⟩
      · obtain ⟨f, rfl⟩ : ∃ f', f = f' + 1 := ⟨f - 1, by omega⟩
        refine hX0 post f ?_
        simp (disch := omega) only [wX_insertNew_47, nu_nem, nu_01, nu_40, nu_30, nu_20, nu_160, Int32.add_zero, Nat.reduceAdd, nu_m16, nu_16m, nu_m4, nu_4m, nu_m3, nu_3m, nu_m2, nu_2m, nI_1, nu_p2, nu_p3, nu_16p, nu_2p, nI_add, nu_cl, nu_in, Nat.add_zero, nu_l0, nu_l1, nu_l2, nu_l3, nu_l4, nu_i0_5, nu_i1_5, nu_i2_5, nu_i0_3, nu_i1_3, nu_i2_3, nu_n0, nu_n1, nu_na0, nu_na1, forall_eq, true_implies, false_implies, implies_true, not_true_eq_false, not_false_eq_true, and_true, true_and, and_self, true_or, or_true, false_or, or_false, false_and, and_false, eq_self]
        refine gX _ ?_
        simp (disch := omega) only [r0, forall_eq, true_implies, false_implies, implies_true, not_true_eq_false, not_false_eq_true, and_true, true_and, and_self, true_or, or_true, false_or, or_false, false_and, and_false, eq_self]
        exact hp
      · obtain ⟨f, rfl⟩ : ∃ f', f = f' + 1 := ⟨f - 1, by omega⟩
        refine hY0 post f ?_
        refine gY _ ?_
        dsimp only
        refine hNX _ ?_
        obtain ⟨f, rfl⟩ : ∃ f', f = f' + 1 := ⟨f - 1, by omega⟩
        by_cases q : x5 < 0
        · simp only [wY_inserts_74, q, forall_eq, true_implies, false_implies, implies_true, not_true_eq_false, not_false_eq_true, and_true, true_and, and_self, true_or, or_true, false_or, or_false, false_and, and_false, eq_self]
          exact hp
        · simp only [wY_inserts_74, q, r0, forall_eq, true_implies, false_implies, implies_true, not_true_eq_false, not_false_eq_true, and_true, true_and, and_self, true_or, or_true, false_or, or_false, false_and, and_false, eq_self]
          exact hp
end
end
section
section
variable {md bk rt rc st en sn fr lf cr rr nw bf ve yl la od : Nat → Int32} {fc rq : Int32}
theorem ud_L {s a c : Nat} (hs : s < 3) (hab : a + cn_n (fun j => di_P st en sn (16 * s + j)) 16 ≤ 16) (hla : ∀ j, j < 16 → la j = di_v (di_P st en sn (16 * s + j))) : ∀ (d i : Nat), i + d = 16 → ∀ (n : Nat) (ct lk wt wc ch sk sr th ro sm : Nat → Int32), n ≤ a + cn_n (fun j => di_P st en sn (16 * s + j)) i → re_R md bk ch lk st rt rc wt wc en sn th ro nw bf ve → re_P n sk sr sm →
    ∃ (r : Int32) (n' : Nat) (ct' lk' wt' wc' ch' sk' sr' th' ro' sm' : Nat → Int32), re_R md bk ch' lk' st rt rc wt' wc' en sn th' ro' nw bf ve ∧ re_P n' sk' sr' sm' ∧ n' ≤ a + cn_n (fun j => di_P st en sn (16 * s + j)) 16 ∧
      (∀ (post : Int32 → SX → Prop) k, d < k → post r (nI n', fc, nI c, rq, md, bk, ct', rt, rc, lk', wt', wc', ch', st, en, sn, sk', sr', fr, lf, cr, rr) → wX_updateDirty_2 post (nI s) k (nI i) (nI n) fc (nI c) rq md bk ct rt rc lk wt wc ch st en sn sk sr fr lf cr rr) ∧
      (∀ (post : Int32 → SY → Prop) k, d < k → (∃ n191, wY_inserts_191 post (nI s) (nI c) n191 r 0 (nI n') fc th' ch' ro' lk' st nw bf ve bk md yl la od sm' fr ct') → wY_inserts_141 post (nI s) (nI c) k 0 (nI i) (nI n) fc th ch ro lk st nw bf ve bk md yl la od sm fr ct) := by
  intro d
  induction d with
  | zero =>
    intro i hi n ct lk wt wc ch sk sr th ro sm hn R hP
    have e : i = 16 := by omega
    subst e
    refine ⟨0, n, ct, lk, wt, wc, ch, sk, sr, th, ro, sm, R, hP, hn, fun post k hk hp => ?_, fun post k hk hp => ?_⟩
    · obtain ⟨k, rfl⟩ : ∃ k', k = k' + 1 := ⟨k - 1, by omega⟩
      simp (disch := omega) only [wX_updateDirty_2, nu_a16, forall_eq, true_implies, false_implies, implies_true, not_true_eq_false, not_false_eq_true, and_true, true_and, and_self, true_or, or_true, false_or, or_false, false_and, and_false, eq_self]
      exact hp
    · obtain ⟨k, rfl⟩ : ∃ k', k = k' + 1 := ⟨k - 1, by omega⟩
      simp (disch := omega) only [wY_inserts_141, nu_a16, forall_eq, true_implies, false_implies, implies_true, not_true_eq_false, not_false_eq_true, and_true, true_and, and_self, true_or, or_true, false_or, or_false, false_and, and_false, eq_self]
      exact hp
  | succ d ih =>
    intro i hi n ct lk wt wc ch sk sr th ro sm hn R hP
    have hi' : i < 16 := by omega
    have la0 := hla i hi'
    have hstep : cn_n (fun j => di_P st en sn (16 * s + j)) (i + 1) = cn_n (fun j => di_P st en sn (16 * s + j)) i + cn_b (di_P st en sn (16 * s + i)) := rfl
    by_cases z : di_P st en sn (16 * s + i)
    · have zv := di_t z
      rw [zv] at la0
      rw [cn_t z] at hstep
      have hmon : cn_n (fun j => di_P st en sn (16 * s + j)) (i + 1) ≤ cn_n (fun j => di_P st en sn (16 * s + j)) 16 := by
        have : ∀ e, cn_n (fun j => di_P st en sn (16 * s + j)) (i + 1) ≤ cn_n (fun j => di_P st en sn (16 * s + j)) (i + 1 + e) := by
          intro e
          induction e with
          | zero => exact Nat.le_refl _
          | succ e ihe => exact Nat.le_trans ihe (Nat.le_add_right _ _)
        have q := this d
        rw [show i + 1 + d = 16 by omega] at q
        exact q
      have v := re_rV R (16 * s + i) (by omega) (Or.inl z.1)
      obtain ⟨r, n1, ct1, lk1, wt1, wc1, ch1, sk1, sr1, th1, ro1, sm1, R1, P1, q1, q2, gX, gY⟩ := up_S (ct := ct) (fr := fr) (lf := lf) (cr := cr) (rr := rr) (cc := nI c) (w := ve (16 * s + i)) fc rq yl la od hs hi' (show n < 32 by omega) (by rw [z.1]; decide) (by rw [z.1]; decide) R hP
      by_cases r0 : r = 0
      · subst r0
        obtain ⟨r', n', ct2, lk2, wt2, wc2, ch2, sk2, sr2, th2, ro2, sm2, R2, P2, hn', hX', hY'⟩ := ih (i + 1) (by omega) n1 ct1 lk1 wt1 wc1 ch1 sk1 sr1 th1 ro1 sm1 (by omega) R1 P1
        refine ⟨r', n', ct2, lk2, wt2, wc2, ch2, sk2, sr2, th2, ro2, sm2, R2, P2, hn', fun post k hk hp => ?_, fun post k hk hp => ?_⟩
        · obtain ⟨k, rfl⟩ : ∃ k', k = k' + 1 := ⟨k - 1, by omega⟩
          simp (disch := omega) only [wX_updateDirty_2, vx_dir, nu_b16, nu_k10, zv, v, nu_01, nu_40, nu_30, nu_20, nu_160, Int32.add_zero, Nat.reduceAdd, nu_m16, nu_16m, nu_m4, nu_4m, nu_m3, nu_3m, nu_m2, nu_2m, nI_1, nu_p2, nu_p3, nu_16p, nu_2p, nI_add, nu_cl, nu_in, Nat.add_zero, nu_l0, nu_l1, nu_l2, nu_l3, nu_l4, nu_i0_5, nu_i1_5, nu_i2_5, nu_i0_3, nu_i1_3, nu_i2_3, nu_n0, nu_n1, nu_na0, nu_na1, forall_eq, true_implies, false_implies, implies_true, not_true_eq_false, not_false_eq_true, and_true, true_and, and_self, true_or, or_true, false_or, or_false, false_and, and_false, eq_self]
          refine gX _ ?_
          simp (disch := omega) only [nu_01, nu_40, nu_30, nu_20, nu_160, Int32.add_zero, Nat.reduceAdd, nu_m16, nu_16m, nu_m4, nu_4m, nu_m3, nu_3m, nu_m2, nu_2m, nI_1, nu_p2, nu_p3, nu_16p, nu_2p, nI_add, nu_cl, nu_in, Nat.add_zero, nu_l0, nu_l1, nu_l2, nu_l3, nu_l4, nu_i0_5, nu_i1_5, nu_i2_5, nu_i0_3, nu_i1_3, nu_i2_3, nu_n0, nu_n1, nu_na0, nu_na1, forall_eq, true_implies, false_implies, implies_true, not_true_eq_false, not_false_eq_true, and_true, true_and, and_self, true_or, or_true, false_or, or_false, false_and, and_false, eq_self]
          exact hX' post k (by omega) hp
        · obtain ⟨k, rfl⟩ : ∃ k', k = k' + 1 := ⟨k - 1, by omega⟩
          simp (disch := omega) only [wY_inserts_141, nu_b16, nu_k10, la0, nu_01, nu_40, nu_30, nu_20, nu_160, Int32.add_zero, Nat.reduceAdd, nu_m16, nu_16m, nu_m4, nu_4m, nu_m3, nu_3m, nu_m2, nu_2m, nI_1, nu_p2, nu_p3, nu_16p, nu_2p, nI_add, nu_cl, nu_in, Nat.add_zero, nu_l0, nu_l1, nu_l2, nu_l3, nu_l4, nu_i0_5, nu_i1_5, nu_i2_5, nu_i0_3, nu_i1_3, nu_i2_3, nu_n0, nu_n1, nu_na0, nu_na1, forall_eq, true_implies, false_implies, implies_true, not_true_eq_false, not_false_eq_true, and_true, true_and, and_self, true_or, or_true, false_or, or_false, false_and, and_false, eq_self]
          refine gY _ ?_
          simp (disch := omega) only [nu_01, nu_40, nu_30, nu_20, nu_160, Int32.add_zero, Nat.reduceAdd, nu_m16, nu_16m, nu_m4, nu_4m, nu_m3, nu_3m, nu_m2, nu_2m, nI_1, nu_p2, nu_p3, nu_16p, nu_2p, nI_add, nu_cl, nu_in, Nat.add_zero, nu_l0, nu_l1, nu_l2, nu_l3, nu_l4, nu_i0_5, nu_i1_5, nu_i2_5, nu_i0_3, nu_i1_3, nu_i2_3, nu_n0, nu_n1, nu_na0, nu_na1, forall_eq, true_implies, false_implies, implies_true, not_true_eq_false, not_false_eq_true, and_true, true_and, and_self, true_or, or_true, false_or, or_false, false_and, and_false, eq_self]
          exact hY' post k (by omega) hp
      · refine ⟨r, n1, ct1, lk1, wt1, wc1, ch1, sk1, sr1, th1, ro1, sm1, R1, P1, by omega, fun post k hk hp => ?_, fun post k hk hp => ?_⟩
        · obtain ⟨k, rfl⟩ : ∃ k', k = k' + 1 := ⟨k - 1, by omega⟩
          simp (disch := omega) only [wX_updateDirty_2, vx_dir, nu_b16, nu_k10, zv, v, nu_01, nu_40, nu_30, nu_20, nu_160, Int32.add_zero, Nat.reduceAdd, nu_m16, nu_16m, nu_m4, nu_4m, nu_m3, nu_3m, nu_m2, nu_2m, nI_1, nu_p2, nu_p3, nu_16p, nu_2p, nI_add, nu_cl, nu_in, Nat.add_zero, nu_l0, nu_l1, nu_l2, nu_l3, nu_l4, nu_i0_5, nu_i1_5, nu_i2_5, nu_i0_3, nu_i1_3, nu_i2_3, nu_n0, nu_n1, nu_na0, nu_na1, forall_eq, true_implies, false_implies, implies_true, not_true_eq_false, not_false_eq_true, and_true, true_and, and_self, true_or, or_true, false_or, or_false, false_and, and_false, eq_self]
          refine gX _ ?_
          simp (disch := omega) only [r0, nu_01, nu_40, nu_30, nu_20, nu_160, Int32.add_zero, Nat.reduceAdd, nu_m16, nu_16m, nu_m4, nu_4m, nu_m3, nu_3m, nu_m2, nu_2m, nI_1, nu_p2, nu_p3, nu_16p, nu_2p, nI_add, nu_cl, nu_in, Nat.add_zero, nu_l0, nu_l1, nu_l2, nu_l3, nu_l4, nu_i0_5, nu_i1_5, nu_i2_5, nu_i0_3, nu_i1_3, nu_i2_3, nu_n0, nu_n1, nu_na0, nu_na1, forall_eq, true_implies, false_implies, implies_true, not_true_eq_false, not_false_eq_true, and_true, true_and, and_self, true_or, or_true, false_or, or_false, false_and, and_false, eq_self]
          exact hp
        · obtain ⟨k, rfl⟩ : ∃ k', k = k' + 1 := ⟨k - 1, by omega⟩
          simp (disch := omega) only [wY_inserts_141, nu_b16, nu_k10, la0, nu_01, nu_40, nu_30, nu_20, nu_160, Int32.add_zero, Nat.reduceAdd, nu_m16, nu_16m, nu_m4, nu_4m, nu_m3, nu_3m, nu_m2, nu_2m, nI_1, nu_p2, nu_p3, nu_16p, nu_2p, nI_add, nu_cl, nu_in, Nat.add_zero, nu_l0, nu_l1, nu_l2, nu_l3, nu_l4, nu_i0_5, nu_i1_5, nu_i2_5, nu_i0_3, nu_i1_3, nu_i2_3, nu_n0, nu_n1, nu_na0, nu_na1, forall_eq, true_implies, false_implies, implies_true, not_true_eq_false, not_false_eq_true, and_true, true_and, and_self, true_or, or_true, false_or, or_false, false_and, and_false, eq_self]
          refine gY _ ?_
          obtain ⟨k, rfl⟩ : ∃ k', k = k' + 1 := ⟨k - 1, by omega⟩
          by_cases e : i + 1 = 16
          · simp (disch := omega) only [wY_inserts_141, nu_a16, nu_01, nu_40, nu_30, nu_20, nu_160, Int32.add_zero, Nat.reduceAdd, nu_m16, nu_16m, nu_m4, nu_4m, nu_m3, nu_3m, nu_m2, nu_2m, nI_1, nu_p2, nu_p3, nu_16p, nu_2p, nI_add, nu_cl, nu_in, Nat.add_zero, nu_l0, nu_l1, nu_l2, nu_l3, nu_l4, nu_i0_5, nu_i1_5, nu_i2_5, nu_i0_3, nu_i1_3, nu_i2_3, nu_n0, nu_n1, nu_na0, nu_na1, forall_eq, true_implies, false_implies, implies_true, not_true_eq_false, not_false_eq_true, and_true, true_and, and_self, true_or, or_true, false_or, or_false, false_and, and_false, eq_self]
            exact hp
          · simp (disch := omega) only [wY_inserts_141, nu_b16, r0, nu_01, nu_40, nu_30, nu_20, nu_160, Int32.add_zero, Nat.reduceAdd, nu_m16, nu_16m, nu_m4, nu_4m, nu_m3, nu_3m, nu_m2, nu_2m, nI_1, nu_p2, nu_p3, nu_16p, nu_2p, nI_add, nu_cl, nu_in, Nat.add_zero, nu_l0, nu_l1, nu_l2, nu_l3, nu_l4, nu_i0_5, nu_i1_5, nu_i2_5, nu_i0_3, nu_i1_3, nu_i2_3, nu_n0, nu_n1, nu_na0, nu_na1, forall_eq, true_implies, false_implies, implies_true, not_true_eq_false, not_false_eq_true, and_true, true_and, and_self, true_or, or_true, false_or, or_false, false_and, and_false, eq_self]
            exact hp
    · have zv := di_f z
      rw [zv] at la0
      rw [cn_f z] at hstep
      obtain ⟨r', n', ct2, lk2, wt2, wc2, ch2, sk2, sr2, th2, ro2, sm2, R2, P2, hn', hX', hY'⟩ := ih (i + 1) (by omega) n ct lk wt wc ch sk sr th ro sm (by omega) R hP
      refine ⟨r', n', ct2, lk2, wt2, wc2, ch2, sk2, sr2, th2, ro2, sm2, R2, P2, hn', fun post k hk hp => ?_, fun post k hk hp => ?_⟩
      · obtain ⟨k, rfl⟩ : ∃ k', k = k' + 1 := ⟨k - 1, by omega⟩
        simp (disch := omega) only [wX_updateDirty_2, vx_dir, nu_b16, zv, nu_01, nu_40, nu_30, nu_20, nu_160, Int32.add_zero, Nat.reduceAdd, nu_m16, nu_16m, nu_m4, nu_4m, nu_m3, nu_3m, nu_m2, nu_2m, nI_1, nu_p2, nu_p3, nu_16p, nu_2p, nI_add, nu_cl, nu_in, Nat.add_zero, nu_l0, nu_l1, nu_l2, nu_l3, nu_l4, nu_i0_5, nu_i1_5, nu_i2_5, nu_i0_3, nu_i1_3, nu_i2_3, nu_n0, nu_n1, nu_na0, nu_na1, forall_eq, true_implies, false_implies, implies_true, not_true_eq_false, not_false_eq_true, and_true, true_and, and_self, true_or, or_true, false_or, or_false, false_and, and_false, eq_self]
        exact hX' post k (by omega) hp
      · obtain ⟨k, rfl⟩ : ∃ k', k = k' + 1 := ⟨k - 1, by omega⟩
        simp (disch := omega) only [wY_inserts_141, nu_b16, la0, nu_01, nu_40, nu_30, nu_20, nu_160, Int32.add_zero, Nat.reduceAdd, nu_m16, nu_16m, nu_m4, nu_4m, nu_m3, nu_3m, nu_m2, nu_2m, nI_1, nu_p2, nu_p3, nu_16p, nu_2p, nI_add, nu_cl, nu_in, Nat.add_zero, nu_l0, nu_l1, nu_l2, nu_l3, nu_l4, nu_i0_5, nu_i1_5, nu_i2_5, nu_i0_3, nu_i1_3, nu_i2_3, nu_n0, nu_n1, nu_na0, nu_na1, forall_eq, true_implies, false_implies, implies_true, not_true_eq_false, not_false_eq_true, and_true, true_and, and_self, true_or, or_true, false_or, or_false, false_and, and_false, eq_self]
        exact hY' post k (by omega) hp
theorem uc_L {s b c : Nat} (hs : s < 3) (hc : c ≤ 16) (hb : b + c ≤ 32) (hI : ct_I s c st cr od) : ∀ (d i : Nat), i + d = c → ∀ (n : Nat) (ct lk wt wc ch sk sr th ro sm : Nat → Int32), n ≤ b + i → re_R md bk ch lk st rt rc wt wc en sn th ro nw bf ve → re_P n sk sr sm →
    ∃ (r : Int32) (n' : Nat) (ct' lk' wt' wc' ch' sk' sr' th' ro' sm' : Nat → Int32), re_R md bk ch' lk' st rt rc wt' wc' en sn th' ro' nw bf ve ∧ re_P n' sk' sr' sm' ∧ n' ≤ b + c ∧
      (∀ (post : Int32 → SX → Prop) k, d < k → post r (nI n', fc, nI c, rq, md, bk, ct', rt, rc, lk', wt', wc', ch', st, en, sn, sk', sr', fr, lf, cr, rr) → wX_updateCut_2 post (nI s) k (nI i) (nI n) fc (nI c) rq md bk ct rt rc lk wt wc ch st en sn sk sr fr lf cr rr) ∧
      (∀ (post : Int32 → SY → Prop) k, d < k → post r (nI n', fc, th', ch', ro', lk', st, nw, bf, ve, bk, md, yl, la, od, sm', fr, ct') → wY_inserts_191 post (nI s) (nI c) k 0 (nI i) (nI n) fc th ch ro lk st nw bf ve bk md yl la od sm fr ct) := by
  intro d
  induction d with
  | zero =>
    intro i hi n ct lk wt wc ch sk sr th ro sm hn R hP
    have e : c ≤ i := by omega
    refine ⟨0, n, ct, lk, wt, wc, ch, sk, sr, th, ro, sm, R, hP, by omega, fun post k hk hp => ?_, fun post k hk hp => ?_⟩
    · obtain ⟨k, rfl⟩ : ∃ k', k = k' + 1 := ⟨k - 1, by omega⟩
      simp (disch := omega) only [wX_updateCut_2, nu_le, e, forall_eq, true_implies, false_implies, implies_true, not_true_eq_false, not_false_eq_true, and_true, true_and, and_self, true_or, or_true, false_or, or_false, false_and, and_false, eq_self]
      exact hp
    · obtain ⟨k, rfl⟩ : ∃ k', k = k' + 1 := ⟨k - 1, by omega⟩
      simp (disch := omega) only [wY_inserts_191, nu_le, e, forall_eq, true_implies, false_implies, implies_true, not_true_eq_false, not_false_eq_true, and_true, true_and, and_self, true_or, or_true, false_or, or_false, false_and, and_false, eq_self]
      exact hp
  | succ d ih =>
    intro i hi n ct lk wt wc ch sk sr th ro sm hn R hP
    have hi' : i < 16 := by omega
    have e : ¬ c ≤ i := by omega
    obtain ⟨q, j, hj, cj, h2⟩ := hI i (by omega)
    rw [cj] at q
    have q' := q.symm
    obtain ⟨r, n1, ct1, lk1, wt1, wc1, ch1, sk1, sr1, th1, ro1, sm1, R1, P1, q1, q2, gX, gY⟩ := up_S (ct := ct) (fr := fr) (lf := lf) (cr := cr) (rr := rr) (cc := nI c) (w := 0) fc rq yl la od hs hj (show n < 32 by omega) (by rw [h2]; decide) (by rw [h2]; decide) R hP
    by_cases r0 : r = 0
    · subst r0
      obtain ⟨r', n', ct2, lk2, wt2, wc2, ch2, sk2, sr2, th2, ro2, sm2, R2, P2, hn', hX', hY'⟩ := ih (i + 1) (by omega) n1 ct1 lk1 wt1 wc1 ch1 sk1 sr1 th1 ro1 sm1 (by omega) R1 P1
      refine ⟨r', n', ct2, lk2, wt2, wc2, ch2, sk2, sr2, th2, ro2, sm2, R2, P2, hn', fun post k hk hp => ?_, fun post k hk hp => ?_⟩
      · obtain ⟨k, rfl⟩ : ∃ k', k = k' + 1 := ⟨k - 1, by omega⟩
        simp (disch := omega) only [wX_updateCut_2, nu_le, e, nu_b16, cj, nu_01, nu_40, nu_30, nu_20, nu_160, Int32.add_zero, Nat.reduceAdd, nu_m16, nu_16m, nu_m4, nu_4m, nu_m3, nu_3m, nu_m2, nu_2m, nI_1, nu_p2, nu_p3, nu_16p, nu_2p, nI_add, nu_cl, nu_in, Nat.add_zero, nu_l0, nu_l1, nu_l2, nu_l3, nu_l4, nu_i0_5, nu_i1_5, nu_i2_5, nu_i0_3, nu_i1_3, nu_i2_3, nu_n0, nu_n1, nu_na0, nu_na1, forall_eq, true_implies, false_implies, implies_true, not_true_eq_false, not_false_eq_true, and_true, true_and, and_self, true_or, or_true, false_or, or_false, false_and, and_false, eq_self]
        refine gX _ ?_
        simp (disch := omega) only [nu_01, nu_40, nu_30, nu_20, nu_160, Int32.add_zero, Nat.reduceAdd, nu_m16, nu_16m, nu_m4, nu_4m, nu_m3, nu_3m, nu_m2, nu_2m, nI_1, nu_p2, nu_p3, nu_16p, nu_2p, nI_add, nu_cl, nu_in, Nat.add_zero, nu_l0, nu_l1, nu_l2, nu_l3, nu_l4, nu_i0_5, nu_i1_5, nu_i2_5, nu_i0_3, nu_i1_3, nu_i2_3, nu_n0, nu_n1, nu_na0, nu_na1, forall_eq, true_implies, false_implies, implies_true, not_true_eq_false, not_false_eq_true, and_true, true_and, and_self, true_or, or_true, false_or, or_false, false_and, and_false, eq_self]
        exact hX' post k (by omega) hp
      · obtain ⟨k, rfl⟩ : ∃ k', k = k' + 1 := ⟨k - 1, by omega⟩
        simp (disch := omega) only [wY_inserts_191, nu_le, e, q', nu_01, nu_40, nu_30, nu_20, nu_160, Int32.add_zero, Nat.reduceAdd, nu_m16, nu_16m, nu_m4, nu_4m, nu_m3, nu_3m, nu_m2, nu_2m, nI_1, nu_p2, nu_p3, nu_16p, nu_2p, nI_add, nu_cl, nu_in, Nat.add_zero, nu_l0, nu_l1, nu_l2, nu_l3, nu_l4, nu_i0_5, nu_i1_5, nu_i2_5, nu_i0_3, nu_i1_3, nu_i2_3, nu_n0, nu_n1, nu_na0, nu_na1, forall_eq, true_implies, false_implies, implies_true, not_true_eq_false, not_false_eq_true, and_true, true_and, and_self, true_or, or_true, false_or, or_false, false_and, and_false, eq_self]
        refine gY _ ?_
        simp (disch := omega) only [nu_01, nu_40, nu_30, nu_20, nu_160, Int32.add_zero, Nat.reduceAdd, nu_m16, nu_16m, nu_m4, nu_4m, nu_m3, nu_3m, nu_m2, nu_2m, nI_1, nu_p2, nu_p3, nu_16p, nu_2p, nI_add, nu_cl, nu_in, Nat.add_zero, nu_l0, nu_l1, nu_l2, nu_l3, nu_l4, nu_i0_5, nu_i1_5, nu_i2_5, nu_i0_3, nu_i1_3, nu_i2_3, nu_n0, nu_n1, nu_na0, nu_na1, forall_eq, true_implies, false_implies, implies_true, not_true_eq_false, not_false_eq_true, and_true, true_and, and_self, true_or, or_true, false_or, or_false, false_and, and_false, eq_self]
        exact hY' post k (by omega) hp
    · refine ⟨r, n1, ct1, lk1, wt1, wc1, ch1, sk1, sr1, th1, ro1, sm1, R1, P1, by omega, fun post k hk hp => ?_, fun post k hk hp => ?_⟩
      · obtain ⟨k, rfl⟩ : ∃ k', k = k' + 1 := ⟨k - 1, by omega⟩
        simp (disch := omega) only [wX_updateCut_2, nu_le, e, nu_b16, cj, nu_01, nu_40, nu_30, nu_20, nu_160, Int32.add_zero, Nat.reduceAdd, nu_m16, nu_16m, nu_m4, nu_4m, nu_m3, nu_3m, nu_m2, nu_2m, nI_1, nu_p2, nu_p3, nu_16p, nu_2p, nI_add, nu_cl, nu_in, Nat.add_zero, nu_l0, nu_l1, nu_l2, nu_l3, nu_l4, nu_i0_5, nu_i1_5, nu_i2_5, nu_i0_3, nu_i1_3, nu_i2_3, nu_n0, nu_n1, nu_na0, nu_na1, forall_eq, true_implies, false_implies, implies_true, not_true_eq_false, not_false_eq_true, and_true, true_and, and_self, true_or, or_true, false_or, or_false, false_and, and_false, eq_self]
        refine gX _ ?_
        simp (disch := omega) only [r0, nu_01, nu_40, nu_30, nu_20, nu_160, Int32.add_zero, Nat.reduceAdd, nu_m16, nu_16m, nu_m4, nu_4m, nu_m3, nu_3m, nu_m2, nu_2m, nI_1, nu_p2, nu_p3, nu_16p, nu_2p, nI_add, nu_cl, nu_in, Nat.add_zero, nu_l0, nu_l1, nu_l2, nu_l3, nu_l4, nu_i0_5, nu_i1_5, nu_i2_5, nu_i0_3, nu_i1_3, nu_i2_3, nu_n0, nu_n1, nu_na0, nu_na1, forall_eq, true_implies, false_implies, implies_true, not_true_eq_false, not_false_eq_true, and_true, true_and, and_self, true_or, or_true, false_or, or_false, false_and, and_false, eq_self]
        exact hp
      · obtain ⟨k, rfl⟩ : ∃ k', k = k' + 1 := ⟨k - 1, by omega⟩
        simp (disch := omega) only [wY_inserts_191, nu_le, e, q', nu_01, nu_40, nu_30, nu_20, nu_160, Int32.add_zero, Nat.reduceAdd, nu_m16, nu_16m, nu_m4, nu_4m, nu_m3, nu_3m, nu_m2, nu_2m, nI_1, nu_p2, nu_p3, nu_16p, nu_2p, nI_add, nu_cl, nu_in, Nat.add_zero, nu_l0, nu_l1, nu_l2, nu_l3, nu_l4, nu_i0_5, nu_i1_5, nu_i2_5, nu_i0_3, nu_i1_3, nu_i2_3, nu_n0, nu_n1, nu_na0, nu_na1, forall_eq, true_implies, false_implies, implies_true, not_true_eq_false, not_false_eq_true, and_true, true_and, and_self, true_or, or_true, false_or, or_false, false_and, and_false, eq_self]
        refine gY _ ?_
        obtain ⟨k, rfl⟩ : ∃ k', k = k' + 1 := ⟨k - 1, by omega⟩
        by_cases w : c ≤ i + 1
        · simp (disch := omega) only [wY_inserts_191, nu_le, w, nu_01, nu_40, nu_30, nu_20, nu_160, Int32.add_zero, Nat.reduceAdd, nu_m16, nu_16m, nu_m4, nu_4m, nu_m3, nu_3m, nu_m2, nu_2m, nI_1, nu_p2, nu_p3, nu_16p, nu_2p, nI_add, nu_cl, nu_in, Nat.add_zero, nu_l0, nu_l1, nu_l2, nu_l3, nu_l4, nu_i0_5, nu_i1_5, nu_i2_5, nu_i0_3, nu_i1_3, nu_i2_3, nu_n0, nu_n1, nu_na0, nu_na1, forall_eq, true_implies, false_implies, implies_true, not_true_eq_false, not_false_eq_true, and_true, true_and, and_self, true_or, or_true, false_or, or_false, false_and, and_false, eq_self]
          exact hp
        · simp (disch := omega) only [wY_inserts_191, nu_le, w, r0, nu_01, nu_40, nu_30, nu_20, nu_160, Int32.add_zero, Nat.reduceAdd, nu_m16, nu_16m, nu_m4, nu_4m, nu_m3, nu_3m, nu_m2, nu_2m, nI_1, nu_p2, nu_p3, nu_16p, nu_2p, nI_add, nu_cl, nu_in, Nat.add_zero, nu_l0, nu_l1, nu_l2, nu_l3, nu_l4, nu_i0_5, nu_i1_5, nu_i2_5, nu_i0_3, nu_i1_3, nu_i2_3, nu_n0, nu_n1, nu_na0, nu_na1, forall_eq, true_implies, false_implies, implies_true, not_true_eq_false, not_false_eq_true, and_true, true_and, and_self, true_or, or_true, false_or, or_false, false_and, and_false, eq_self]
          exact hp
end
section
variable {md bk rt rc lk wt wc ch st en sn th ro nw bf ve : Nat → Int32}
variable (fc cc rq : Int32) (ct sk sr fr lf cr rr yl la od sm : Nat → Int32)
/-- INSERTs, then UPDATEs, then those of what was cut -/
theorem ia_S {s : Nat} (hs : s < 3) (R : re_R md bk ch lk st rt rc wt wc en sn th ro nw bf ve) :
    ∃ (r : Int32) (n' : Nat) (cc' : Int32) (ct' lk' wt' wc' ch' sk' sr' lf' cr' th' ro' yl' la' od' sm' : Nat → Int32), re_R md bk ch' lk' st rt rc wt' wc' en sn th' ro' nw bf ve ∧ re_P n' sk' sr' sm' ∧
      n' + cn_n (fun j => st (16 * s + j) = 5) 16 ≤ 32 ∧
      (∀ post : Int32 → SX → Prop, wX_flushSession_41 post (nI s) r (nI n') fc cc' rq md bk ct' rt rc lk' wt' wc' ch' st en sn sk' sr' fr lf' cr' rr → wpX_insertNew (fun r9 u => match u with | (sc9, fc9, cc9, rq9, md9, bk9, ct9, rt9, rc9, lk9, wt9, wc9, ch9, st9, en9, sn9, sk9, sr9, fr9, lf9, cr9, rr9) => wX_flushSession_21 post (nI s) r9 sc9 fc9 cc9 rq9 md9 bk9 ct9 rt9 rc9 lk9 wt9 wc9 ch9 st9 en9 sn9 sk9 sr9 fr9 lf9 cr9 rr9) (nI 0, fc, cc, rq, md, bk, ct, rt, rc, lk, wt, wc, ch, st, en, sn, sk, sr, fr, lf, cr, rr) (nI s)) ∧
      (∀ post : Int32 → SY → Prop, post r (nI n', fc, th', ch', ro', lk', st, nw, bf, ve, bk, md, yl', la', od', sm', fr, ct') → wpY_inserts post (nI 0, fc, th, ch, ro, lk, st, nw, bf, ve, bk, md, yl, la, od, sm, fr, ct) (nI s)) := by
  have h3 := cn_3 (P := fun j => st (16 * s + j) = 2) (Q := fun j => di_P st en sn (16 * s + j)) (R := fun j => st (16 * s + j) = 5) (fun k p q => absurd (p.symm.trans q.1) (by decide)) (fun k p q => absurd (p.symm.trans q) (by decide)) (fun k p q => absurd (p.1.symm.trans q) (by decide)) 16
  obtain ⟨lf1, hlf, hX0⟩ := vx_mk (sc := nI 0) (fc := fc) (cc := 0) (rq := rq) (md := md) (bk := bk) (ct := ct) (rt := rt) (rc := rc) (lk := lk) (wt := wt) (wc := wc) (ch := ch) (st := st) (en := en) (sn := sn) (sk := sk) (sr := sr) (fr := fr) (cr := cr) (rr := rr) (x := 2) hs 16 0 rfl lf (fun j hj => by omega)
  obtain ⟨yl1, la1, hyl, hY0⟩ := vy_m7 (sc := nI 0) (fc := fc) (md := md) (bk := bk) (ct := ct) (lk := lk) (ch := ch) (fr := fr) (th := th) (ro := ro) (ve := ve) (od := od) (sm := sm) hs (re_rN R) (re_rS R) 16 0 rfl yl la (fun j hj => by omega)
  have hl : ∀ j, j < 16 → lf1 j = yl1 j := fun j hj => by rw [hlf j hj, (hyl j hj).1]
  have hla : ∀ j, j < 16 → la1 j = di_v (di_P st en sn (16 * s + j)) := fun j hj => (hyl j hj).2
  have h2 : ∀ j, j < 16 → (¬ lf1 j = 0 ↔ st (16 * s + j) = 2) := by
    intro j hj
    rw [hlf j hj, di_z]
    exact ⟨fun z => Classical.byContradiction z, fun z y => y z⟩
  have hcn : cn_n (fun k => ¬ lf1 k = 0) 16 = cn_n (fun j => st (16 * s + j) = 2) 16 := cn_eq h2
  have ha := cn_le (fun j => st (16 * s + j) = 2) 16
  obtain ⟨x4, hx4, hNX⟩ := vy_nx (sc := nI 0) (fc := fc) (md := md) (bk := bk) (ct := ct) (lk := lk) (ch := ch) (st := st) (fr := fr) (th := th) (ro := ro) (nw := nw) (bf := bf) (ve := ve) (yl := yl1) (la := la1) (od := od) (sm := sm) (s := s) (o := 1) (H := wa_P yl1 s en) hs (fun j hj z post hp => vy_h1 hs hj (by
    have z2 := (h2 j hj).mp (by rw [hl j hj]; exact z)
    exact (re_rN R (16 * s + j) (by omega) (by rw [z2]; decide) (by rw [z2]; decide) 2 (by decide)).symm) hp)
  obtain ⟨r, n1, c1, c2, ct1, lk1, wt1, wc1, ch1, sk1, sr1, lf2, cr1, th1, ro1, yl2, od1, sm1, R1, P1, hn1, hr1, gX, gY⟩ := ix_L (fr := fr) (rr := rr) (la := la1) (fc := fc) (rq := rq) (a := cn_n (fun j => st (16 * s + j) = 2) 16) hs ha (cn_n (fun j => st (16 * s + j) = 2) 16) 0 (by omega) 0 0 ct lk wt wc ch sk sr lf1 cr th ro yl1 od sm hcn (by omega) (by omega) hl (fun j hj z => (h2 j hj).mp z) (fun j hj => by omega) R re_P0 x4 hx4
  have hXI : ∀ post : Int32 → SX → Prop, post r (nI n1, fc, nI c1, rq, md, bk, ct1, rt, rc, lk1, wt1, wc1, ch1, st, en, sn, sk1, sr1, fr, lf2, cr1, rr) → wpX_insertNew post (nI 0, fc, cc, rq, md, bk, ct, rt, rc, lk, wt, wc, ch, st, en, sn, sk, sr, fr, lf, cr, rr) (nI s) := by
    intro post hp
    simp only [wpX_insertNew, wpX_markLeft]
    refine ⟨17, hX0 _ 17 (by decide) ?_⟩
    exact ⟨17, gX post 17 (by omega) hp⟩
  have hYI : ∀ post : Int32 → SY → Prop, (∃ n141, wY_inserts_141 post (nI s) (nI c2) n141 r 0 (nI n1) fc th1 ch1 ro1 lk1 st nw bf ve bk md yl2 la1 od1 sm1 fr ct1) → wpY_inserts post (nI 0, fc, th, ch, ro, lk, st, nw, bf, ve, bk, md, yl, la, od, sm, fr, ct) (nI s) := by
    intro post hp
    simp only [wpY_inserts]
    refine ⟨17, hY0 post 17 (by decide) (hNX _ ?_)⟩
    exact ⟨17, gY post 17 (by omega) hp⟩
  by_cases r0 : r = 0
  · subst r0
    obtain ⟨hc1, rfl, hI1⟩ := hr1 rfl
    obtain ⟨r2, n2, ct2, lk2, wt2, wc2, ch2, sk2, sr2, th2, ro2, sm2, R2, P2, hn2, gX2, gY2⟩ := ud_L (fr := fr) (lf := lf2) (cr := cr1) (rr := rr) (yl := yl2) (la := la1) (od := od1) (fc := fc) (rq := rq) (a := cn_n (fun j => st (16 * s + j) = 2) 16) (c := c2) hs (by omega) hla 16 0 rfl n1 ct1 lk1 wt1 wc1 ch1 sk1 sr1 th1 ro1 sm1 (by omega) R1 P1
    by_cases q0 : r2 = 0
    · subst q0
      obtain ⟨r3, n3, ct3, lk3, wt3, wc3, ch3, sk3, sr3, th3, ro3, sm3, R3, P3, hn3, gX3, gY3⟩ := uc_L (fr := fr) (lf := lf2) (cr := cr1) (rr := rr) (yl := yl2) (la := la1) (od := od1) (fc := fc) (rq := rq) (b := cn_n (fun j => st (16 * s + j) = 2) 16 + cn_n (fun j => di_P st en sn (16 * s + j)) 16) (c := c2) hs (by omega) (by omega) hI1 c2 0 (by omega) n2 ct2 lk2 wt2 wc2 ch2 sk2 sr2 th2 ro2 sm2 (by omega) R2 P2
      refine ⟨r3, n3, nI c2, ct3, lk3, wt3, wc3, ch3, sk3, sr3, lf2, cr1, th3, ro3, yl2, la1, od1, sm3, R3, P3, by omega, fun post hp => hXI _ ?_, fun post hp => hYI post ?_⟩
      · simp only [wX_flushSession_21, wpX_updateDirty, forall_eq, true_implies, false_implies, implies_true, not_true_eq_false, not_false_eq_true, and_true, true_and, and_self, true_or, or_true, false_or, or_false, false_and, and_false, eq_self]
        refine ⟨17, gX2 _ 17 (by decide) ?_⟩
        simp only [wX_flushSession_31, wpX_updateCut, forall_eq, true_implies, false_implies, implies_true, not_true_eq_false, not_false_eq_true, and_true, true_and, and_self, true_or, or_true, false_or, or_false, false_and, and_false, eq_self]
        exact ⟨17, gX3 _ 17 (by omega) hp⟩
      · exact ⟨17, gY2 post 17 (by decide) ⟨17, gY3 post 17 (by omega) hp⟩⟩
    · refine ⟨r2, n2, nI c2, ct2, lk2, wt2, wc2, ch2, sk2, sr2, lf2, cr1, th2, ro2, yl2, la1, od1, sm2, R2, P2, by omega, fun post hp => hXI _ ?_, fun post hp => hYI post ?_⟩
      · simp only [wX_flushSession_21, wpX_updateDirty, forall_eq, true_implies, false_implies, implies_true, not_true_eq_false, not_false_eq_true, and_true, true_and, and_self, true_or, or_true, false_or, or_false, false_and, and_false, eq_self]
        refine ⟨17, gX2 _ 17 (by decide) ?_⟩
        simp only [wX_flushSession_31, q0, forall_eq, true_implies, false_implies, implies_true, not_true_eq_false, not_false_eq_true, and_true, true_and, and_self, true_or, or_true, false_or, or_false, false_and, and_false, eq_self]
        exact hp
      · refine ⟨17, gY2 post 17 (by decide) ⟨1, ?_⟩⟩
        by_cases z : nI c2 ≤ 0
        · simp only [wY_inserts_191, z, forall_eq, true_implies, false_implies, implies_true, not_true_eq_false, not_false_eq_true, and_true, true_and, and_self, true_or, or_true, false_or, or_false, false_and, and_false, eq_self]
          exact hp
        · simp only [wY_inserts_191, z, q0, forall_eq, true_implies, false_implies, implies_true, not_true_eq_false, not_false_eq_true, and_true, true_and, and_self, true_or, or_true, false_or, or_false, false_and, and_false, eq_self]
          exact hp
  · refine ⟨r, n1, nI c1, ct1, lk1, wt1, wc1, ch1, sk1, sr1, lf2, cr1, th1, ro1, yl2, la1, od1, sm1, R1, P1, by omega, fun post hp => hXI _ ?_, fun post hp => hYI post ?_⟩
    · simp only [wX_flushSession_21, wX_flushSession_31, r0, forall_eq, true_implies, false_implies, implies_true, not_true_eq_false, not_false_eq_true, and_true, true_and, and_self, true_or, or_true, false_or, or_false, false_and, and_false, eq_self]
      exact hp
    · refine ⟨1, ?_⟩
      simp only [wY_inserts_141, nu_160, r0, forall_eq, true_implies, false_implies, implies_true, not_true_eq_false, not_false_eq_true, and_true, true_and, and_self, true_or, or_true, false_or, or_false, false_and, and_false, eq_self]
      refine ⟨1, ?_⟩
      by_cases z : nI c2 ≤ 0
      · simp only [wY_inserts_191, z, forall_eq, true_implies, false_implies, implies_true, not_true_eq_false, not_false_eq_true, and_true, true_and, and_self, true_or, or_true, false_or, or_false, false_and, and_false, eq_self]
        exact hp
      · simp only [wY_inserts_191, z, r0, forall_eq, true_implies, false_implies, implies_true, not_true_eq_false, not_false_eq_true, and_true, true_and, and_self, true_or, or_true, false_or, or_false, false_and, and_false, eq_self]
        exact hp
end
end
section
section
variable {sc fc : Int32} {md bk ct lk ch st en sn fr th ro nw bf ve la od sm : Nat → Int32}
theorem vy_m4 {s : Nat} (hs : s < 3) : ∀ d i : Nat, i + d = 16 → ∀ yl : Nat → Int32, (∀ j, j < i → yl j = di_v (st (16 * s + j) = 5)) →
    ∃ yl', (∀ j, j < 16 → yl' j = di_v (st (16 * s + j) = 5)) ∧
    ∀ (post : Int32 → SY → Prop) n, d < n → wpY_next (fun r => ∃ n49, wY_deletes_49 post (nI s) n49 0 r sc fc th ch ro lk st nw bf ve bk md yl' la od sm fr ct) (sc, fc, th, ch, ro, lk, st, nw, bf, ve, bk, md, yl', la, od, sm, fr, ct) (nI s) 0 → wY_deletes_4 post (nI s) 0 sc fc n (nI i) th ch ro lk st nw bf ve bk md yl la od sm fr ct := by
  intro d
  induction d with
  | zero =>
    intro i hi yl h
    refine ⟨yl, fun j hj => h j (by omega), fun post n hn hp => ?_⟩
    obtain ⟨n, rfl⟩ : ∃ n', n = n' + 1 := ⟨n - 1, by omega⟩
    simp (disch := omega) only [wY_deletes_4, nu_a16, forall_eq, true_implies, false_implies, implies_true, not_true_eq_false, not_false_eq_true, and_true, true_and, and_self, true_or, or_true, false_or, or_false, false_and, and_false, eq_self]
    exact hp
  | succ d ih =>
    intro i hi yl h
    obtain ⟨yl', h', hX⟩ := ih (i + 1) (by omega) (upd yl i (di_v (st (16 * s + i) = 5))) (fun j hj => by
      by_cases q : j = i
      · rw [q, pk_us]
      · rw [pk_un q]
        exact h j (by omega))
    refine ⟨yl', h', fun post n hn hp => ?_⟩
    obtain ⟨n, rfl⟩ : ∃ n', n = n' + 1 := ⟨n - 1, by omega⟩
    have hx := hX post n (by omega) hp
    by_cases z : st (16 * s + i) = 5
    · rw [di_t z] at hx
      simp (disch := omega) only [wY_deletes_4, nu_b16, z, nu_01, nu_40, nu_30, nu_20, nu_160, Int32.add_zero, Nat.reduceAdd, nu_m16, nu_16m, nu_m4, nu_4m, nu_m3, nu_3m, nu_m2, nu_2m, nI_1, nu_p2, nu_p3, nu_16p, nu_2p, nI_add, nu_cl, nu_in, Nat.add_zero, nu_l0, nu_l1, nu_l2, nu_l3, nu_l4, nu_i0_5, nu_i1_5, nu_i2_5, nu_i0_3, nu_i1_3, nu_i2_3, nu_n0, nu_n1, nu_na0, nu_na1, forall_eq, true_implies, false_implies, implies_true, not_true_eq_false, not_false_eq_true, and_true, true_and, and_self, true_or, or_true, false_or, or_false, false_and, and_false, eq_self]
      exact hx
    · rw [di_f z] at hx
      simp (disch := omega) only [wY_deletes_4, nu_b16, z, nu_01, nu_40, nu_30, nu_20, nu_160, Int32.add_zero, Nat.reduceAdd, nu_m16, nu_16m, nu_m4, nu_4m, nu_m3, nu_3m, nu_m2, nu_2m, nI_1, nu_p2, nu_p3, nu_16p, nu_2p, nI_add, nu_cl, nu_in, Nat.add_zero, nu_l0, nu_l1, nu_l2, nu_l3, nu_l4, nu_i0_5, nu_i1_5, nu_i2_5, nu_i0_3, nu_i1_3, nu_i2_3, nu_n0, nu_n1, nu_na0, nu_na1, forall_eq, true_implies, false_implies, implies_true, not_true_eq_false, not_false_eq_true, and_true, true_and, and_self, true_or, or_true, false_or, or_false, false_and, and_false, eq_self]
      exact hx
end
section
variable {md bk rt rc st en sn fr cr rr wc ro nw bf ve la od : Nat → Int32} {fc cc rq : Int32}
theorem dx_L {s a : Nat} (hs : s < 3) (ha : a ≤ 32) : ∀ (m i : Nat), i + m ≤ 16 → ∀ (n : Nat) (ct lk wt ch sk sr lf th yl sm : Nat → Int32), cn_n (fun k => ¬ lf k = 0) 16 = m → n + m ≤ a → (∀ j, j < 16 → lf j = yl j) → (∀ j, j < 16 → ¬ lf j = 0 → st (16 * s + j) = 5) → re_R md bk ch lk st rt rc wt wc en sn th ro nw bf ve → re_P n sk sr sm →
    ∀ x4, nx_S (fun k => ¬ yl k = 0) (li_P yl s sn) x4 →
    ∃ (r : Int32) (n' : Nat) (ct' lk' wt' ch' sk' sr' lf' th' yl' sm' : Nat → Int32), re_R md bk ch' lk' st rt rc wt' wc en sn th' ro nw bf ve ∧ re_P n' sk' sr' sm' ∧ n' ≤ a ∧
      (∀ (post : Int32 → SX → Prop) k, m < k → post r (nI n', fc, cc, rq, md, bk, ct', rt, rc, lk', wt', wc, ch', st, en, sn, sk', sr', fr, lf', cr, rr) → wX_deleteRemoved_8 post (nI s) k (nI i) (nI n) fc cc rq md bk ct rt rc lk wt wc ch st en sn sk sr fr lf cr rr) ∧
      (∀ (post : Int32 → SY → Prop) k, m < k → post r (nI n', fc, th', ch', ro, lk', st, nw, bf, ve, bk, md, yl', la, od, sm', fr, ct') → wY_deletes_49 post (nI s) k 0 x4 (nI n) fc th ch ro lk st nw bf ve bk md yl la od sm fr ct) := by
  intro m
  induction m with
  | zero =>
    intro i hi n ct lk wt ch sk sr lf th yl sm hm hna hl h5 R hP x4 hx4
    have nol := cn_0 hm
    have e4 : x4 = -1 := by
      rcases nx_k hx4 with q | ⟨k, hk, _, q, _⟩
      · exact q.1
      · exact absurd (by rw [hl k hk]; exact q) (nol k hk)
    subst e4
    refine ⟨0, n, ct, lk, wt, ch, sk, sr, lf, th, yl, sm, R, hP, by omega, fun post k hk hp => ?_, fun post k hk hp => ?_⟩
    · obtain ⟨k, rfl⟩ : ∃ k', k = k' + 1 := ⟨k - 1, by omega⟩
      by_cases i16 : i = 16
      · simp (disch := omega) only [wX_deleteRemoved_8, nu_a16, forall_eq, true_implies, false_implies, implies_true, not_true_eq_false, not_false_eq_true, and_true, true_and, and_self, true_or, or_true, false_or, or_false, false_and, and_false, eq_self]
        exact hp
      · obtain ⟨r1, h1, hX1⟩ := vx_ld (sc := nI n) (fc := fc) (cc := cc) (rq := rq) (md := md) (bk := bk) (ct := ct) (rt := rt) (rc := rc) (lk := lk) (wt := wt) (wc := wc) (ch := ch) (st := st) (en := en) (sn := sn) (sk := sk) (sr := sr) (fr := fr) (lf := lf) (cr := cr) (rr := rr) hs
        obtain ⟨r2, h2, hX2⟩ := vx_ll (sc := nI n) (fc := fc) (cc := cc) (rq := rq) (md := md) (bk := bk) (ct := ct) (rt := rt) (rc := rc) (lk := lk) (wt := wt) (wc := wc) (ch := ch) (st := st) (en := en) (sn := sn) (sk := sk) (sr := sr) (fr := fr) (lf := lf) (cr := cr) (rr := rr)
        have e1 : r1 = -1 := le_u h1 (le_n (fun k hk q => nol k hk q.1))
        have e2 : r2 = -1 := le_u h2 (le_n (fun k hk q => nol k hk q))
        simp (disch := omega) only [wX_deleteRemoved_8, nu_b16, forall_eq, true_implies, false_implies, implies_true, not_true_eq_false, not_false_eq_true, and_true, true_and, and_self, true_or, or_true, false_or, or_false, false_and, and_false, eq_self]
        refine hX1 _ ?_
        rw [e1]
        simp only [forall_eq, true_implies, false_implies, implies_true, not_true_eq_false, not_false_eq_true, and_true, true_and, and_self, true_or, or_true, false_or, or_false, false_and, and_false, eq_self]
        refine hX2 _ ?_
        rw [e2]
        simp only [wX_deleteRemoved_30, forall_eq, true_implies, false_implies, implies_true, not_true_eq_false, not_false_eq_true, and_true, true_and, and_self, true_or, or_true, false_or, or_false, false_and, and_false, eq_self]
        exact hp
    · obtain ⟨k, rfl⟩ : ∃ k', k = k' + 1 := ⟨k - 1, by omega⟩
      simp only [wY_deletes_49, nu_m1lt, forall_eq, true_implies, false_implies, implies_true, not_true_eq_false, not_false_eq_true, and_true, true_and, and_self, true_or, or_true, false_or, or_false, false_and, and_false, eq_self]
      exact hp
  | succ m ih =>
    intro i hi n ct lk wt ch sk sr lf th yl sm hm hna hl h5 R hP x4 hx4
    obtain ⟨r1, h1, hX1⟩ := vx_ld (sc := nI n) (fc := fc) (cc := cc) (rq := rq) (md := md) (bk := bk) (ct := ct) (rt := rt) (rc := rc) (lk := lk) (wt := wt) (wc := wc) (ch := ch) (st := st) (en := en) (sn := sn) (sk := sk) (sr := sr) (fr := fr) (lf := lf) (cr := cr) (rr := rr) hs
    obtain ⟨r2, h3, hX2⟩ := vx_ll (sc := nI n) (fc := fc) (cc := cc) (rq := rq) (md := md) (bk := bk) (ct := ct) (rt := rt) (rc := rc) (lk := lk) (wt := wt) (wc := wc) (ch := ch) (st := st) (en := en) (sn := sn) (sk := sk) (sr := sr) (fr := fr) (lf := lf) (cr := cr) (rr := rr)
    have hxX : nx_S (fun k => ¬ lf k = 0) (li_P lf s sn) x4 := nx_e (fun k hk => by rw [hl k hk]) (fun k hk _ => li_e hl) hx4
    have e4 : x4 = if r1 = -1 then r2 else r1 := by
      refine nx_u hxX ?_
      by_cases q : r1 = -1
      · rw [if_pos q]
        rw [q] at h1
        exact Or.inr ⟨h1, h3⟩
      · rw [if_neg q]
        exact Or.inl ⟨q, h1⟩
    obtain ⟨k, hk, ek, lk0⟩ : ∃ k, k < 16 ∧ x4 = nI k ∧ ¬ lf k = 0 := by
      rcases nx_k hxX with ⟨_, q⟩ | ⟨k, hk, e, l, w⟩
      · have := cn_z (P := fun k => ¬ lf k = 0) (N := 16) q
        omega
      · exact ⟨k, hk, e, l⟩
    have hX0 : ∀ (post : Int32 → SX → Prop) f, wX_deleteRemoved_30 post (wX_deleteRemoved_8 post (nI s) f) (nI s) (nI i) (nI k) (nI n) fc cc rq md bk ct rt rc lk wt wc ch st en sn sk sr fr lf cr rr → wX_deleteRemoved_8 post (nI s) (f + 1) (nI i) (nI n) fc cc rq md bk ct rt rc lk wt wc ch st en sn sk sr fr lf cr rr := by
      intro post f hp
      simp (disch := omega) only [wX_deleteRemoved_8, nu_b16, forall_eq, true_implies, false_implies, implies_true, not_true_eq_false, not_false_eq_true, and_true, true_and, and_self, true_or, or_true, false_or, or_false, false_and, and_false, eq_self]
      refine hX1 _ ?_
      by_cases q : r1 = -1
      · rw [if_pos q, ek] at e4
        simp only [q, forall_eq, true_implies, false_implies, implies_true, not_true_eq_false, not_false_eq_true, and_true, true_and, and_self, true_or, or_true, false_or, or_false, false_and, and_false, eq_self]
        refine hX2 _ ?_
        rw [← e4]
        exact hp
      · rw [if_neg q, ek] at e4
        simp only [q, forall_eq, true_implies, false_implies, implies_true, not_true_eq_false, not_false_eq_true, and_true, true_and, and_self, true_or, or_true, false_or, or_false, false_and, and_false, eq_self]
        rw [← e4]
        exact hp
    subst ek
    have h5k := h5 k hk lk0
    have v := re_rV R (16 * s + k) (by omega) (Or.inr h5k)
    have hout := lf_out hk lk0 hm
    have hl' : ∀ j, j < 16 → upd lf k 0 j = upd yl k 0 j := by
      intro j hj
      by_cases q : j = k
      · rw [q, pk_us, pk_us]
      · rw [pk_un q, pk_un q]
        exact hl j hj
    have h5' : ∀ j, j < 16 → ¬ upd lf k 0 j = 0 → st (16 * s + j) = 5 := by
      intro j hj z
      by_cases q : j = k
      · rw [q]
        exact h5k
      · rw [pk_un q] at z
        exact h5 j hj z
    have hT := re_rT R
    have hB := re_rth R
    have hC := re_rC R
    by_cases r0 : vr_v lk rt wt rc wc s k (ve (16 * s + k)) = 0
    · obtain ⟨x5, hx5, hNX⟩ := vy_nx (sc := nI (n + 1)) (fc := fc) (md := md) (bk := bk) (ct := upd ct (2 + 2) (ct (2 + 2) + 1)) (lk := upd lk k (nI s)) (ch := upd ch k 0) (st := st) (fr := fr) (th := upd th (16 + k) 0) (ro := ro) (nw := nw) (bf := bf) (ve := ve) (yl := upd yl k 0) (la := la) (od := od) (sm := upd (upd sm (2 * n) (nI 2)) (2 * n + 1) (nI k)) (s := s) (o := 0) (H := li_P (upd yl k 0) s sn) hs (fun j hj z post hp => vy_h0 hs hj (re_rS R) hp)
      obtain ⟨r', n', ct2, lk2, wt2, ch2, sk2, sr2, lf2, th2, yl2, sm2, R2, P2, hn', hX', hY'⟩ := ih (i + 1) (by omega) (n + 1) (upd ct (2 + 2) (ct (2 + 2) + 1)) (upd lk k (nI s)) (upd wt k 0) (upd ch k 0) (upd sk n (nI 2)) (upd sr n (nI k)) (upd lf k 0) (upd th (16 + k) 0) (upd yl k 0) (upd (upd sm (2 * n) (nI 2)) (2 * n + 1) (nI k)) (by omega) (by omega) hl' h5' (dl_R R hs) (re_Pu hP) x5 hx5
      refine ⟨r', n', ct2, lk2, wt2, ch2, sk2, sr2, lf2, th2, yl2, sm2, R2, P2, hn', fun post f hf hp => ?_, fun post f hf hp => ?_⟩
      · obtain ⟨f, rfl⟩ : ∃ f', f = f' + 1 := ⟨f - 1, by omega⟩
        refine hX0 post f ?_
        simp (disch := omega) only [wX_deleteRemoved_30, nu_nem, nu_01, nu_40, nu_30, nu_20, nu_160, Int32.add_zero, Nat.reduceAdd, nu_m16, nu_16m, nu_m4, nu_4m, nu_m3, nu_3m, nu_m2, nu_2m, nI_1, nu_p2, nu_p3, nu_16p, nu_2p, nI_add, nu_cl, nu_in, Nat.add_zero, nu_l0, nu_l1, nu_l2, nu_l3, nu_l4, nu_i0_5, nu_i1_5, nu_i2_5, nu_i0_3, nu_i1_3, nu_i2_3, nu_n0, nu_n1, nu_na0, nu_na1, forall_eq, true_implies, false_implies, implies_true, not_true_eq_false, not_false_eq_true, and_true, true_and, and_self, true_or, or_true, false_or, or_false, false_and, and_false, eq_self]
        refine vx_dl hs hk (show n < 32 by omega) hT hB (fun _ => ?_) (fun q => absurd (by rw [v]; exact r0) q)
        simp (disch := omega) only [nu_01, nu_40, nu_30, nu_20, nu_160, Int32.add_zero, Nat.reduceAdd, nu_m16, nu_16m, nu_m4, nu_4m, nu_m3, nu_3m, nu_m2, nu_2m, nI_1, nu_p2, nu_p3, nu_16p, nu_2p, nI_add, nu_cl, nu_in, Nat.add_zero, nu_l0, nu_l1, nu_l2, nu_l3, nu_l4, nu_i0_5, nu_i1_5, nu_i2_5, nu_i0_3, nu_i1_3, nu_i2_3, nu_n0, nu_n1, nu_na0, nu_na1, forall_eq, true_implies, false_implies, implies_true, not_true_eq_false, not_false_eq_true, and_true, true_and, and_self, true_or, or_true, false_or, or_false, false_and, and_false, eq_self]
        exact hX' post f (by omega) hp
      · obtain ⟨f, rfl⟩ : ∃ f', f = f' + 1 := ⟨f - 1, by omega⟩
        simp (disch := omega) only [wY_deletes_49, nu_neg, nu_01, nu_40, nu_30, nu_20, nu_160, Int32.add_zero, Nat.reduceAdd, nu_m16, nu_16m, nu_m4, nu_4m, nu_m3, nu_3m, nu_m2, nu_2m, nI_1, nu_p2, nu_p3, nu_16p, nu_2p, nI_add, nu_cl, nu_in, Nat.add_zero, nu_l0, nu_l1, nu_l2, nu_l3, nu_l4, nu_i0_5, nu_i1_5, nu_i2_5, nu_i0_3, nu_i1_3, nu_i2_3, nu_n0, nu_n1, nu_na0, nu_na1, forall_eq, true_implies, false_implies, implies_true, not_true_eq_false, not_false_eq_true, and_true, true_and, and_self, true_or, or_true, false_or, or_false, false_and, and_false, eq_self]
        refine vy_b1 hk hT hC (re_rQ R) (fun _ => ?_) (fun q => absurd r0 q)
        simp (disch := omega) only [nu_01, nu_40, nu_30, nu_20, nu_160, Int32.add_zero, Nat.reduceAdd, nu_m16, nu_16m, nu_m4, nu_4m, nu_m3, nu_3m, nu_m2, nu_2m, nI_1, nu_p2, nu_p3, nu_16p, nu_2p, nI_add, nu_cl, nu_in, Nat.add_zero, nu_l0, nu_l1, nu_l2, nu_l3, nu_l4, nu_i0_5, nu_i1_5, nu_i2_5, nu_i0_3, nu_i1_3, nu_i2_3, nu_n0, nu_n1, nu_na0, nu_na1, forall_eq, true_implies, false_implies, implies_true, not_true_eq_false, not_false_eq_true, and_true, true_and, and_self, true_or, or_true, false_or, or_false, false_and, and_false, eq_self]
        refine vy_nt (q := 2) (show n < 32 by omega) (by decide) ?_
        refine hNX _ ?_
        exact hY' post f (by omega) hp
    · refine ⟨vr_v lk rt wt rc wc s k (ve (16 * s + k)), n, ct, lk, wt, ch, sk, sr, upd lf k 0, th, upd yl k 0, sm, R, hP, by omega, fun post f hf hp => ?_, fun post f hf hp => ?_⟩
      · obtain ⟨f, rfl⟩ : ∃ f', f = f' + 1 := ⟨f - 1, by omega⟩
        refine hX0 post f ?_
        simp (disch := omega) only [wX_deleteRemoved_30, nu_nem, nu_01, nu_40, nu_30, nu_20, nu_160, Int32.add_zero, Nat.reduceAdd, nu_m16, nu_16m, nu_m4, nu_4m, nu_m3, nu_3m, nu_m2, nu_2m, nI_1, nu_p2, nu_p3, nu_16p, nu_2p, nI_add, nu_cl, nu_in, Nat.add_zero, nu_l0, nu_l1, nu_l2, nu_l3, nu_l4, nu_i0_5, nu_i1_5, nu_i2_5, nu_i0_3, nu_i1_3, nu_i2_3, nu_n0, nu_n1, nu_na0, nu_na1, forall_eq, true_implies, false_implies, implies_true, not_true_eq_false, not_false_eq_true, and_true, true_and, and_self, true_or, or_true, false_or, or_false, false_and, and_false, eq_self]
        refine vx_dl hs hk (show n < 32 by omega) hT hB (fun q => absurd (by rw [← v]; exact q) r0) (fun _ => ?_)
        rw [v]
        simp (disch := omega) only [r0, nu_01, nu_40, nu_30, nu_20, nu_160, Int32.add_zero, Nat.reduceAdd, nu_m16, nu_16m, nu_m4, nu_4m, nu_m3, nu_3m, nu_m2, nu_2m, nI_1, nu_p2, nu_p3, nu_16p, nu_2p, nI_add, nu_cl, nu_in, Nat.add_zero, nu_l0, nu_l1, nu_l2, nu_l3, nu_l4, nu_i0_5, nu_i1_5, nu_i2_5, nu_i0_3, nu_i1_3, nu_i2_3, nu_n0, nu_n1, nu_na0, nu_na1, forall_eq, true_implies, false_implies, implies_true, not_true_eq_false, not_false_eq_true, and_true, true_and, and_self, true_or, or_true, false_or, or_false, false_and, and_false, eq_self]
        exact hp
      · obtain ⟨f, rfl⟩ : ∃ f', f = f' + 1 := ⟨f - 1, by omega⟩
        simp (disch := omega) only [wY_deletes_49, nu_neg, nu_01, nu_40, nu_30, nu_20, nu_160, Int32.add_zero, Nat.reduceAdd, nu_m16, nu_16m, nu_m4, nu_4m, nu_m3, nu_3m, nu_m2, nu_2m, nI_1, nu_p2, nu_p3, nu_16p, nu_2p, nI_add, nu_cl, nu_in, Nat.add_zero, nu_l0, nu_l1, nu_l2, nu_l3, nu_l4, nu_i0_5, nu_i1_5, nu_i2_5, nu_i0_3, nu_i1_3, nu_i2_3, nu_n0, nu_n1, nu_na0, nu_na1, forall_eq, true_implies, false_implies, implies_true, not_true_eq_false, not_false_eq_true, and_true, true_and, and_self, true_or, or_true, false_or, or_false, false_and, and_false, eq_self]
        refine vy_b1 hk hT hC (re_rQ R) (fun q => absurd q r0) (fun _ => ?_)
        simp (disch := omega) only [r0, nu_01, nu_40, nu_30, nu_20, nu_160, Int32.add_zero, Nat.reduceAdd, nu_m16, nu_16m, nu_m4, nu_4m, nu_m3, nu_3m, nu_m2, nu_2m, nI_1, nu_p2, nu_p3, nu_16p, nu_2p, nI_add, nu_cl, nu_in, Nat.add_zero, nu_l0, nu_l1, nu_l2, nu_l3, nu_l4, nu_i0_5, nu_i1_5, nu_i2_5, nu_i0_3, nu_i1_3, nu_i2_3, nu_n0, nu_n1, nu_na0, nu_na1, forall_eq, true_implies, false_implies, implies_true, not_true_eq_false, not_false_eq_true, and_true, true_and, and_self, true_or, or_true, false_or, or_false, false_and, and_false, eq_self]
        exact hp
end
section
variable {md bk rt rc lk wt wc ch st en sn th ro nw bf ve : Nat → Int32}
variable (fc cc rq : Int32) (ct sk sr fr lf cr rr yl la od sm : Nat → Int32)
theorem de_A {s n : Nat} (hs : s < 3) (hn : n + cn_n (fun j => st (16 * s + j) = 5) 16 ≤ 32) (R : re_R md bk ch lk st rt rc wt wc en sn th ro nw bf ve) (hP : re_P n sk sr sm) :
    ∃ (r : Int32) (n' : Nat) (ct' lk' wt' ch' sk' sr' lf' th' yl' sm' : Nat → Int32), re_R md bk ch' lk' st rt rc wt' wc en sn th' ro nw bf ve ∧ re_P n' sk' sr' sm' ∧ n' ≤ 32 ∧
      (∀ post : Int32 → SX → Prop, post r (nI n', fc, cc, rq, md, bk, ct', rt, rc, lk', wt', wc, ch', st, en, sn, sk', sr', fr, lf', cr, rr) → wpX_deleteRemoved post (nI n, fc, cc, rq, md, bk, ct, rt, rc, lk, wt, wc, ch, st, en, sn, sk, sr, fr, lf, cr, rr) (nI s)) ∧
      (∀ post : Int32 → SY → Prop, post r (nI n', fc, th', ch', ro, lk', st, nw, bf, ve, bk, md, yl', la, od, sm', fr, ct') → wpY_deletes post (nI n, fc, th, ch, ro, lk, st, nw, bf, ve, bk, md, yl, la, od, sm, fr, ct) (nI s)) := by
  obtain ⟨lf1, hlf, hX0⟩ := vx_mk (sc := nI n) (fc := fc) (cc := cc) (rq := rq) (md := md) (bk := bk) (ct := ct) (rt := rt) (rc := rc) (lk := lk) (wt := wt) (wc := wc) (ch := ch) (st := st) (en := en) (sn := sn) (sk := sk) (sr := sr) (fr := fr) (cr := cr) (rr := rr) (x := 5) hs 16 0 rfl lf (fun j hj => by omega)
  obtain ⟨yl1, hyl, hY0⟩ := vy_m4 (sc := nI n) (fc := fc) (md := md) (bk := bk) (ct := ct) (lk := lk) (ch := ch) (st := st) (fr := fr) (th := th) (ro := ro) (nw := nw) (bf := bf) (ve := ve) (la := la) (od := od) (sm := sm) hs 16 0 rfl yl (fun j hj => by omega)
  have hl : ∀ j, j < 16 → lf1 j = yl1 j := fun j hj => by rw [hlf j hj, hyl j hj]
  have h5 : ∀ j, j < 16 → (¬ lf1 j = 0 ↔ st (16 * s + j) = 5) := by
    intro j hj
    rw [hlf j hj, di_z]
    exact ⟨fun z => Classical.byContradiction z, fun z y => y z⟩
  have hcn : cn_n (fun k => ¬ lf1 k = 0) 16 = cn_n (fun j => st (16 * s + j) = 5) 16 := cn_eq h5
  have ha := cn_le (fun j => st (16 * s + j) = 5) 16
  obtain ⟨x4, hx4, hNX⟩ := vy_nx (sc := nI n) (fc := fc) (md := md) (bk := bk) (ct := ct) (lk := lk) (ch := ch) (st := st) (fr := fr) (th := th) (ro := ro) (nw := nw) (bf := bf) (ve := ve) (yl := yl1) (la := la) (od := od) (sm := sm) (s := s) (o := 0) (H := li_P yl1 s sn) hs (fun j hj z post hp => vy_h0 hs hj (re_rS R) hp)
  obtain ⟨r, n1, ct1, lk1, wt1, ch1, sk1, sr1, lf2, th1, yl2, sm1, R1, P1, hn1, gX, gY⟩ := dx_L (fr := fr) (cr := cr) (rr := rr) (la := la) (od := od) (fc := fc) (cc := cc) (rq := rq) (a := 32) hs (Nat.le_refl _) (cn_n (fun j => st (16 * s + j) = 5) 16) 0 (by omega) n ct lk wt ch sk sr lf1 th yl1 sm hcn hn hl (fun j hj z => (h5 j hj).mp z) R hP x4 hx4
  refine ⟨r, n1, ct1, lk1, wt1, ch1, sk1, sr1, lf2, th1, yl2, sm1, R1, P1, hn1, fun post hp => ?_, fun post hp => ?_⟩
  · simp only [wpX_deleteRemoved, wpX_markLeft]
    refine ⟨17, hX0 _ 17 (by decide) ?_⟩
    exact ⟨17, gX post 17 (by omega) hp⟩
  · simp only [wpY_deletes]
    refine ⟨17, hY0 post 17 (by decide) (hNX _ ?_)⟩
    exact ⟨17, gY post 17 (by omega) hp⟩
end
/-- a LINK that leads to no row in the SIGHT -/
def fo_P (rt wt rc wc lk : Nat → Int32) (s : Nat) (k : Nat) : Prop := ¬ si_t rt wt lk s k = 0 ∧ ∃ l, l < 16 ∧ si_c rc wc lk s k 2 = nI l ∧ si_t rt wt lk s l = 0
section
variable {sc fc cc rq : Int32} {md bk ct rt rc lk wt wc ch st en sn sk sr fr lf cr rr th ro nw bf ve yl la od sm : Nat → Int32}
theorem vx_le {post : Int32 → Prop} {s : Nat} (hs : s < 3) (hT : re_T rt wt th) (hB : re_B th) (hC : re_C rc wc ro) (hO : re_O ro) (hp : post (rm_i (∃ k, k < 16 ∧ fo_P rt wt rc wc lk s k) (-8) 0)) : wpX_linkError post (sc, fc, cc, rq, md, bk, ct, rt, rc, lk, wt, wc, ch, st, en, sn, sk, sr, fr, lf, cr, rr) (nI s) := by
  have key : ∀ d i : Nat, i + d = 16 → (∀ j, j < i → ¬ fo_P rt wt rc wc lk s j) → ∀ n, d < n → wX_linkError_2 post (nI s) sc fc cc rq md bk ct rt rc lk wt wc ch st en sn sk sr fr lf cr rr n (nI i) := by
    intro d
    induction d with
    | zero =>
      intro i hi h n hn
      rw [rm_f (fun ⟨j, hj, q⟩ => h j (by omega) q)] at hp
      obtain ⟨n, rfl⟩ : ∃ n', n = n' + 1 := ⟨n - 1, by omega⟩
      simp (disch := omega) only [wX_linkError_2, nu_a16, forall_eq, true_implies, false_implies, implies_true, not_true_eq_false, not_false_eq_true, and_true, true_and, and_self, true_or, or_true, false_or, or_false, false_and, and_false, eq_self]
      exact hp
    | succ d ih =>
      intro i hi h n hn
      have hi' : i < 16 := by omega
      obtain ⟨n, rfl⟩ : ∃ n', n = n' + 1 := ⟨n - 1, by omega⟩
      by_cases z : fo_P rt wt rc wc lk s i
      · rw [rm_t ⟨i, hi', z⟩] at hp
        obtain ⟨z1, l, hl, z2, z3⟩ := z
        simp (disch := omega) only [wX_linkError_2, nu_b16, vx_see hi' hT hB, vx_sc2 hi', vx_see hl hT hB, nu_neg, z1, z2, z3, forall_eq, true_implies, false_implies, implies_true, not_true_eq_false, not_false_eq_true, and_true, true_and, and_self, true_or, or_true, false_or, or_false, false_and, and_false, eq_self]
        exact hp
      · have hx := ih (i + 1) (by omega) (fun j hj => by
          by_cases q : j = i
          · rw [q]
            exact z
          · exact h j (by omega)) n (by omega)
        by_cases z1 : si_t rt wt lk s i = 0
        · simp (disch := omega) only [wX_linkError_2, nu_b16, vx_see hi' hT hB, z1, nu_01, nu_40, nu_30, nu_20, nu_160, Int32.add_zero, Nat.reduceAdd, nu_m16, nu_16m, nu_m4, nu_4m, nu_m3, nu_3m, nu_m2, nu_2m, nI_1, nu_p2, nu_p3, nu_16p, nu_2p, nI_add, nu_cl, nu_in, Nat.add_zero, nu_l0, nu_l1, nu_l2, nu_l3, nu_l4, nu_i0_5, nu_i1_5, nu_i2_5, nu_i0_3, nu_i1_3, nu_i2_3, nu_n0, nu_n1, nu_na0, nu_na1, forall_eq, true_implies, false_implies, implies_true, not_true_eq_false, not_false_eq_true, and_true, true_and, and_self, true_or, or_true, false_or, or_false, false_and, and_false, eq_self]
          exact hx
        · rcases si_L (lk := lk) (s := s) hC hO hi' with g | ⟨l, hl, g⟩
          · simp (disch := omega) only [wX_linkError_2, nu_b16, vx_see hi' hT hB, vx_sc2 hi', nu_m1lt, z1, g, nu_01, nu_40, nu_30, nu_20, nu_160, Int32.add_zero, Nat.reduceAdd, nu_m16, nu_16m, nu_m4, nu_4m, nu_m3, nu_3m, nu_m2, nu_2m, nI_1, nu_p2, nu_p3, nu_16p, nu_2p, nI_add, nu_cl, nu_in, Nat.add_zero, nu_l0, nu_l1, nu_l2, nu_l3, nu_l4, nu_i0_5, nu_i1_5, nu_i2_5, nu_i0_3, nu_i1_3, nu_i2_3, nu_n0, nu_n1, nu_na0, nu_na1, forall_eq, true_implies, false_implies, implies_true, not_true_eq_false, not_false_eq_true, and_true, true_and, and_self, true_or, or_true, false_or, or_false, false_and, and_false, eq_self]
            exact hx
          · have z3 : ¬ si_t rt wt lk s l = 0 := fun q => z ⟨z1, l, hl, g, q⟩
            simp (disch := omega) only [wX_linkError_2, nu_b16, vx_see hi' hT hB, vx_sc2 hi', vx_see hl hT hB, nu_neg, z1, g, z3, nu_01, nu_40, nu_30, nu_20, nu_160, Int32.add_zero, Nat.reduceAdd, nu_m16, nu_16m, nu_m4, nu_4m, nu_m3, nu_3m, nu_m2, nu_2m, nI_1, nu_p2, nu_p3, nu_16p, nu_2p, nI_add, nu_cl, nu_in, Nat.add_zero, nu_l0, nu_l1, nu_l2, nu_l3, nu_l4, nu_i0_5, nu_i1_5, nu_i2_5, nu_i0_3, nu_i1_3, nu_i2_3, nu_n0, nu_n1, nu_na0, nu_na1, forall_eq, true_implies, false_implies, implies_true, not_true_eq_false, not_false_eq_true, and_true, true_and, and_self, true_or, or_true, false_or, or_false, false_and, and_false, eq_self]
            exact hx
  simp only [wpX_linkError]
  exact ⟨17, key 16 0 rfl (fun j hj => by omega) 17 (by decide)⟩
theorem vy_fo {post : Int32 → Prop} {s : Nat} (hs : s < 3) (hT : re_T rt wt th) (hC : re_C rc wc ro) (hO : re_O ro) (hp : post (di_v (∃ k, k < 16 ∧ fo_P rt wt rc wc lk s k))) : wpY_isForeign post (sc, fc, th, ch, ro, lk, st, nw, bf, ve, bk, md, yl, la, od, sm, fr, ct) (nI s) := by
  have key : ∀ d i : Nat, i + d = 16 → (∀ j, j < i → ¬ fo_P rt wt rc wc lk s j) → ∀ n, d < n → wY_isForeign_2 post (nI s) sc fc th ch ro lk st nw bf ve bk md yl la od sm fr ct n (nI i) := by
    intro d
    induction d with
    | zero =>
      intro i hi h n hn
      rw [di_f (fun ⟨j, hj, q⟩ => h j (by omega) q)] at hp
      obtain ⟨n, rfl⟩ : ∃ n', n = n' + 1 := ⟨n - 1, by omega⟩
      simp (disch := omega) only [wY_isForeign_2, nu_a16, forall_eq, true_implies, false_implies, implies_true, not_true_eq_false, not_false_eq_true, and_true, true_and, and_self, true_or, or_true, false_or, or_false, false_and, and_false, eq_self]
      exact hp
    | succ d ih =>
      intro i hi h n hn
      have hi' : i < 16 := by omega
      have hf := si_lt lk (s := s) hi'
      have ht := si_ft (lk := lk) (s := s) hT hi'
      have hc := si_fc (lk := lk) (s := s) (c := 2) hC hi' (by decide)
      obtain ⟨n, rfl⟩ : ∃ n', n = n' + 1 := ⟨n - 1, by omega⟩
      rcases si_L (lk := lk) (s := s) hC hO hi' with g | ⟨l, hl, g⟩
      · have z : ¬ fo_P rt wt rc wc lk s i := fun ⟨_, l, hl, q, _⟩ => by
          rw [g, nu_men (by omega)] at q
          exact q
        have hx := ih (i + 1) (by omega) (fun j hj => by
          by_cases q : j = i
          · rw [q]
            exact z
          · exact h j (by omega)) n (by omega)
        rw [g] at hc
        by_cases z1 : si_t rt wt lk s i = 0
        · rw [z1] at ht
          simp (disch := omega) only [wY_isForeign_2, wY_isForeign_43, nu_b16, vy_see hi', hc, ht, nu_m1ge, nu_01, nu_40, nu_30, nu_20, nu_160, Int32.add_zero, Nat.reduceAdd, nu_m16, nu_16m, nu_m4, nu_4m, nu_m3, nu_3m, nu_m2, nu_2m, nI_1, nu_p2, nu_p3, nu_16p, nu_2p, nI_add, nu_cl, nu_in, Nat.add_zero, nu_l0, nu_l1, nu_l2, nu_l3, nu_l4, nu_i0_5, nu_i1_5, nu_i2_5, nu_i0_3, nu_i1_3, nu_i2_3, nu_n0, nu_n1, nu_na0, nu_na1, forall_eq, true_implies, false_implies, implies_true, not_true_eq_false, not_false_eq_true, and_true, true_and, and_self, true_or, or_true, false_or, or_false, false_and, and_false, eq_self]
          exact hx
        · have ht' : ¬ th (si_f lk s i) = 0 := by
            rw [ht]
            exact z1
          simp (disch := omega) only [wY_isForeign_2, wY_isForeign_43, nu_b16, vy_see hi', hc, ht', nu_m1ge, nu_m1lt, nu_01, nu_40, nu_30, nu_20, nu_160, Int32.add_zero, Nat.reduceAdd, nu_m16, nu_16m, nu_m4, nu_4m, nu_m3, nu_3m, nu_m2, nu_2m, nI_1, nu_p2, nu_p3, nu_16p, nu_2p, nI_add, nu_cl, nu_in, Nat.add_zero, nu_l0, nu_l1, nu_l2, nu_l3, nu_l4, nu_i0_5, nu_i1_5, nu_i2_5, nu_i0_3, nu_i1_3, nu_i2_3, nu_n0, nu_n1, nu_na0, nu_na1, forall_eq, true_implies, false_implies, implies_true, not_true_eq_false, not_false_eq_true, and_true, true_and, and_self, true_or, or_true, false_or, or_false, false_and, and_false, eq_self]
          exact hx
      · rw [g] at hc
        have hf2 := si_lt lk (s := s) hl
        have ht2 := si_ft (lk := lk) (s := s) hT hl
        by_cases z1 : si_t rt wt lk s i = 0
        · have z : ¬ fo_P rt wt rc wc lk s i := fun q => q.1 z1
          have hx := ih (i + 1) (by omega) (fun j hj => by
            by_cases q : j = i
            · rw [q]
              exact z
            · exact h j (by omega)) n (by omega)
          rw [z1] at ht
          simp (disch := omega) only [wY_isForeign_2, wY_isForeign_43, nu_b16, vy_see hi', vy_see hl, hc, ht, nu_pos, nu_01, nu_40, nu_30, nu_20, nu_160, Int32.add_zero, Nat.reduceAdd, nu_m16, nu_16m, nu_m4, nu_4m, nu_m3, nu_3m, nu_m2, nu_2m, nI_1, nu_p2, nu_p3, nu_16p, nu_2p, nI_add, nu_cl, nu_in, Nat.add_zero, nu_l0, nu_l1, nu_l2, nu_l3, nu_l4, nu_i0_5, nu_i1_5, nu_i2_5, nu_i0_3, nu_i1_3, nu_i2_3, nu_n0, nu_n1, nu_na0, nu_na1, forall_eq, true_implies, false_implies, implies_true, not_true_eq_false, not_false_eq_true, and_true, true_and, and_self, true_or, or_true, false_or, or_false, false_and, and_false, eq_self]
          exact hx
        · have ht' : ¬ th (si_f lk s i) = 0 := by
            rw [ht]
            exact z1
          by_cases z3 : si_t rt wt lk s l = 0
          · rw [di_t ⟨i, hi', z1, l, hl, g, z3⟩] at hp
            rw [z3] at ht2
            simp (disch := omega) only [wY_isForeign_2, wY_isForeign_43, nu_b16, vy_see hi', vy_see hl, hc, ht', ht2, nu_pos, nu_neg, nu_01, nu_40, nu_30, nu_20, nu_160, Int32.add_zero, Nat.reduceAdd, nu_m16, nu_16m, nu_m4, nu_4m, nu_m3, nu_3m, nu_m2, nu_2m, nI_1, nu_p2, nu_p3, nu_16p, nu_2p, nI_add, nu_cl, nu_in, Nat.add_zero, nu_l0, nu_l1, nu_l2, nu_l3, nu_l4, nu_i0_5, nu_i1_5, nu_i2_5, nu_i0_3, nu_i1_3, nu_i2_3, nu_n0, nu_n1, nu_na0, nu_na1, forall_eq, true_implies, false_implies, implies_true, not_true_eq_false, not_false_eq_true, and_true, true_and, and_self, true_or, or_true, false_or, or_false, false_and, and_false, eq_self]
            exact hp
          · have z : ¬ fo_P rt wt rc wc lk s i := fun ⟨_, l', hl', q, q'⟩ => by
              have e : l = l' := (nI_eq (by omega) (by omega)).mp (g.symm.trans q)
              rw [← e] at q'
              exact z3 q'
            have hx := ih (i + 1) (by omega) (fun j hj => by
              by_cases q : j = i
              · rw [q]
                exact z
              · exact h j (by omega)) n (by omega)
            have ht2' : ¬ th (si_f lk s l) = 0 := by
              rw [ht2]
              exact z3
            simp (disch := omega) only [wY_isForeign_2, wY_isForeign_43, nu_b16, vy_see hi', vy_see hl, hc, ht', ht2', nu_pos, nu_neg, nu_01, nu_40, nu_30, nu_20, nu_160, Int32.add_zero, Nat.reduceAdd, nu_m16, nu_16m, nu_m4, nu_4m, nu_m3, nu_3m, nu_m2, nu_2m, nI_1, nu_p2, nu_p3, nu_16p, nu_2p, nI_add, nu_cl, nu_in, Nat.add_zero, nu_l0, nu_l1, nu_l2, nu_l3, nu_l4, nu_i0_5, nu_i1_5, nu_i2_5, nu_i0_3, nu_i1_3, nu_i2_3, nu_n0, nu_n1, nu_na0, nu_na1, forall_eq, true_implies, false_implies, implies_true, not_true_eq_false, not_false_eq_true, and_true, true_and, and_self, true_or, or_true, false_or, or_false, false_and, and_false, eq_self]
            exact hx
  simp only [wpY_isForeign]
  exact ⟨17, key 16 0 rfl (fun j hj => by omega) 17 (by decide)⟩
end
end
section
section
variable {md bk rt rc lk wt wc ch th ro : Nat → Int32}
variable (sc fc cc rq : Int32) (ct sk sr fr lf cr rr yl la od sm : Nat → Int32)
/-- the entities at the end of a FLUSH -/
theorem se_L {s : Nat} (hs : s < 3) : ∀ (d i : Nat), i + d = 16 → ∀ (st en sn nw bf ve : Nat → Int32), re_R md bk ch lk st rt rc wt wc en sn th ro nw bf ve →
    ∃ (st' en' sn' nw' bf' ve' : Nat → Int32), re_R md bk ch lk st' rt rc wt wc en' sn' th ro nw' bf' ve' ∧
      (∀ (post : SX → Prop) n, d < n → post (sc, fc, cc, rq, md, bk, ct, rt, rc, lk, wt, wc, ch, st', en', sn', sk, sr, fr, lf, cr, rr) → wX_settleEntities_2 post (nI s) n (nI i) sc fc cc rq md bk ct rt rc lk wt wc ch st en sn sk sr fr lf cr rr) ∧
      (∀ (post : Int32 → SY → Prop) n, d < n → post 0 (sc, fc, th, ch, ro, lk, st', nw', bf', ve', bk, md, yl, la, od, sm, fr, ct) → wY_flushed_66 post (nI s) n (nI i) sc fc th ch ro lk st nw bf ve bk md yl la od sm fr ct) := by
  intro d
  induction d with
  | zero =>
    intro i hi st en sn nw bf ve R
    refine ⟨st, en, sn, nw, bf, ve, R, fun post n hn hp => ?_, fun post n hn hp => ?_⟩
    · obtain ⟨n, rfl⟩ : ∃ n', n = n' + 1 := ⟨n - 1, by omega⟩
      simp (disch := omega) only [wX_settleEntities_2, nu_a16, forall_eq, true_implies, false_implies, implies_true, not_true_eq_false, not_false_eq_true, and_true, true_and, and_self, true_or, or_true, false_or, or_false, false_and, and_false, eq_self]
      exact hp
    · obtain ⟨n, rfl⟩ : ∃ n', n = n' + 1 := ⟨n - 1, by omega⟩
      simp (disch := omega) only [wY_flushed_66, nu_a16, forall_eq, true_implies, false_implies, implies_true, not_true_eq_false, not_false_eq_true, and_true, true_and, and_self, true_or, or_true, false_or, or_false, false_and, and_false, eq_self]
      exact hp
  | succ d ih =>
    intro i hi st en sn nw bf ve R
    have hi' : i < 16 := by omega
    by_cases h5 : st (16 * s + i) = 5
    · obtain ⟨st', en', sn', nw', bf', ve', R', hX, hY⟩ := ih (i + 1) (by omega) (upd st (16 * s + i) 0) en sn nw bf ve (kd_R R (Or.inl rfl) (Or.inl rfl) (fun q => absurd q (by decide)))
      refine ⟨st', en', sn', nw', bf', ve', R', fun post n hn hp => ?_, fun post n hn hp => ?_⟩
      · obtain ⟨n, rfl⟩ : ∃ n', n = n' + 1 := ⟨n - 1, by omega⟩
        simp (disch := omega) only [wX_settleEntities_2, nu_b16, h5, nu_01, nu_40, nu_30, nu_20, nu_160, Int32.add_zero, Nat.reduceAdd, nu_m16, nu_16m, nu_m4, nu_4m, nu_m3, nu_3m, nu_m2, nu_2m, nI_1, nu_p2, nu_p3, nu_16p, nu_2p, nI_add, nu_cl, nu_in, Nat.add_zero, nu_l0, nu_l1, nu_l2, nu_l3, nu_l4, nu_i0_5, nu_i1_5, nu_i2_5, nu_i0_3, nu_i1_3, nu_i2_3, nu_n0, nu_n1, nu_na0, nu_na1, forall_eq, true_implies, false_implies, implies_true, not_true_eq_false, not_false_eq_true, and_true, true_and, and_self, true_or, or_true, false_or, or_false, false_and, and_false, eq_self]
        exact hX post n (by omega) hp
      · obtain ⟨n, rfl⟩ : ∃ n', n = n' + 1 := ⟨n - 1, by omega⟩
        simp (disch := omega) only [wY_flushed_66, nu_b16, h5, nu_01, nu_40, nu_30, nu_20, nu_160, Int32.add_zero, Nat.reduceAdd, nu_m16, nu_16m, nu_m4, nu_4m, nu_m3, nu_3m, nu_m2, nu_2m, nI_1, nu_p2, nu_p3, nu_16p, nu_2p, nI_add, nu_cl, nu_in, Nat.add_zero, nu_l0, nu_l1, nu_l2, nu_l3, nu_l4, nu_i0_5, nu_i1_5, nu_i2_5, nu_i0_3, nu_i1_3, nu_i2_3, nu_n0, nu_n1, nu_na0, nu_na1, forall_eq, true_implies, false_implies, implies_true, not_true_eq_false, not_false_eq_true, and_true, true_and, and_self, true_or, or_true, false_or, or_false, false_and, and_false, eq_self]
        exact hY post n (by omega) hp
    · by_cases w : st (16 * s + i) = 2 ∨ di_P st en sn (16 * s + i)
      · obtain ⟨st', en', sn', nw', bf', ve', R', hX, hY⟩ := ih (i + 1) (by omega) _ _ _ _ _ _ (mg_R (s := s) (k := i) R hi')
        refine ⟨st', en', sn', nw', bf', ve', R', fun post n hn hp => ?_, fun post n hn hp => ?_⟩
        · obtain ⟨n, rfl⟩ : ∃ n', n = n' + 1 := ⟨n - 1, by omega⟩
          by_cases w2 : st (16 * s + i) = 2
          · simp (disch := omega) only [wX_settleEntities_2, wX_settleEntities_53, nu_b16, nu_k25, w2, nu_01, nu_40, nu_30, nu_20, nu_160, Int32.add_zero, Nat.reduceAdd, nu_m16, nu_16m, nu_m4, nu_4m, nu_m3, nu_3m, nu_m2, nu_2m, nI_1, nu_p2, nu_p3, nu_16p, nu_2p, nI_add, nu_cl, nu_in, Nat.add_zero, nu_l0, nu_l1, nu_l2, nu_l3, nu_l4, nu_i0_5, nu_i1_5, nu_i2_5, nu_i0_3, nu_i1_3, nu_i2_3, nu_n0, nu_n1, nu_na0, nu_na1, forall_eq, true_implies, false_implies, implies_true, not_true_eq_false, not_false_eq_true, and_true, true_and, and_self, true_or, or_true, false_or, or_false, false_and, and_false, eq_self]
            refine vx_mg hs hi' ?_
            simp (disch := omega) only [nu_01, nu_40, nu_30, nu_20, nu_160, Int32.add_zero, Nat.reduceAdd, nu_m16, nu_16m, nu_m4, nu_4m, nu_m3, nu_3m, nu_m2, nu_2m, nI_1, nu_p2, nu_p3, nu_16p, nu_2p, nI_add, nu_cl, nu_in, Nat.add_zero, nu_l0, nu_l1, nu_l2, nu_l3, nu_l4, nu_i0_5, nu_i1_5, nu_i2_5, nu_i0_3, nu_i1_3, nu_i2_3, nu_n0, nu_n1, nu_na0, nu_na1, forall_eq, true_implies, false_implies, implies_true, not_true_eq_false, not_false_eq_true, and_true, true_and, and_self, true_or, or_true, false_or, or_false, false_and, and_false, eq_self]
            exact hX post n (by omega) hp
          · have wv := di_t (w.resolve_left w2)
            simp (disch := omega) only [wX_settleEntities_2, wX_settleEntities_53, vx_dir, nu_b16, nu_k10, h5, w2, wv, nu_01, nu_40, nu_30, nu_20, nu_160, Int32.add_zero, Nat.reduceAdd, nu_m16, nu_16m, nu_m4, nu_4m, nu_m3, nu_3m, nu_m2, nu_2m, nI_1, nu_p2, nu_p3, nu_16p, nu_2p, nI_add, nu_cl, nu_in, Nat.add_zero, nu_l0, nu_l1, nu_l2, nu_l3, nu_l4, nu_i0_5, nu_i1_5, nu_i2_5, nu_i0_3, nu_i1_3, nu_i2_3, nu_n0, nu_n1, nu_na0, nu_na1, forall_eq, true_implies, false_implies, implies_true, not_true_eq_false, not_false_eq_true, and_true, true_and, and_self, true_or, or_true, false_or, or_false, false_and, and_false, eq_self]
            refine vx_mg hs hi' ?_
            simp (disch := omega) only [nu_01, nu_40, nu_30, nu_20, nu_160, Int32.add_zero, Nat.reduceAdd, nu_m16, nu_16m, nu_m4, nu_4m, nu_m3, nu_3m, nu_m2, nu_2m, nI_1, nu_p2, nu_p3, nu_16p, nu_2p, nI_add, nu_cl, nu_in, Nat.add_zero, nu_l0, nu_l1, nu_l2, nu_l3, nu_l4, nu_i0_5, nu_i1_5, nu_i2_5, nu_i0_3, nu_i1_3, nu_i2_3, nu_n0, nu_n1, nu_na0, nu_na1, forall_eq, true_implies, false_implies, implies_true, not_true_eq_false, not_false_eq_true, and_true, true_and, and_self, true_or, or_true, false_or, or_false, false_and, and_false, eq_self]
            exact hX post n (by omega) hp
        · obtain ⟨n, rfl⟩ : ∃ n', n = n' + 1 := ⟨n - 1, by omega⟩
          by_cases w2 : st (16 * s + i) = 2
          · simp (disch := omega) only [wY_flushed_66, wY_flushed_122, nu_b16, nu_k25, w2, nu_01, nu_40, nu_30, nu_20, nu_160, Int32.add_zero, Nat.reduceAdd, nu_m16, nu_16m, nu_m4, nu_4m, nu_m3, nu_3m, nu_m2, nu_2m, nI_1, nu_p2, nu_p3, nu_16p, nu_2p, nI_add, nu_cl, nu_in, Nat.add_zero, nu_l0, nu_l1, nu_l2, nu_l3, nu_l4, nu_i0_5, nu_i1_5, nu_i2_5, nu_i0_3, nu_i1_3, nu_i2_3, nu_n0, nu_n1, nu_na0, nu_na1, forall_eq, true_implies, false_implies, implies_true, not_true_eq_false, not_false_eq_true, and_true, true_and, and_self, true_or, or_true, false_or, or_false, false_and, and_false, eq_self]
            refine vy_mg hs hi' (re_rC R) ?_
            simp (disch := omega) only [nu_01, nu_40, nu_30, nu_20, nu_160, Int32.add_zero, Nat.reduceAdd, nu_m16, nu_16m, nu_m4, nu_4m, nu_m3, nu_3m, nu_m2, nu_2m, nI_1, nu_p2, nu_p3, nu_16p, nu_2p, nI_add, nu_cl, nu_in, Nat.add_zero, nu_l0, nu_l1, nu_l2, nu_l3, nu_l4, nu_i0_5, nu_i1_5, nu_i2_5, nu_i0_3, nu_i1_3, nu_i2_3, nu_n0, nu_n1, nu_na0, nu_na1, forall_eq, true_implies, false_implies, implies_true, not_true_eq_false, not_false_eq_true, and_true, true_and, and_self, true_or, or_true, false_or, or_false, false_and, and_false, eq_self]
            exact hY post n (by omega) hp
          · have wv := di_t (w.resolve_left w2)
            simp (disch := omega) only [wY_flushed_66, wY_flushed_122, nu_b16, h5, w2, nu_01, nu_40, nu_30, nu_20, nu_160, Int32.add_zero, Nat.reduceAdd, nu_m16, nu_16m, nu_m4, nu_4m, nu_m3, nu_3m, nu_m2, nu_2m, nI_1, nu_p2, nu_p3, nu_16p, nu_2p, nI_add, nu_cl, nu_in, Nat.add_zero, nu_l0, nu_l1, nu_l2, nu_l3, nu_l4, nu_i0_5, nu_i1_5, nu_i2_5, nu_i0_3, nu_i1_3, nu_i2_3, nu_n0, nu_n1, nu_na0, nu_na1, forall_eq, true_implies, false_implies, implies_true, not_true_eq_false, not_false_eq_true, and_true, true_and, and_self, true_or, or_true, false_or, or_false, false_and, and_false, eq_self]
            refine vy_dir (by omega) (re_rN R) (re_rS R) ?_
            simp (disch := omega) only [wv, nu_k10, forall_eq, true_implies, false_implies, implies_true, not_true_eq_false, not_false_eq_true, and_true, true_and, and_self, true_or, or_true, false_or, or_false, false_and, and_false, eq_self]
            refine vy_mg hs hi' (re_rC R) ?_
            simp (disch := omega) only [nu_01, nu_40, nu_30, nu_20, nu_160, Int32.add_zero, Nat.reduceAdd, nu_m16, nu_16m, nu_m4, nu_4m, nu_m3, nu_3m, nu_m2, nu_2m, nI_1, nu_p2, nu_p3, nu_16p, nu_2p, nI_add, nu_cl, nu_in, Nat.add_zero, nu_l0, nu_l1, nu_l2, nu_l3, nu_l4, nu_i0_5, nu_i1_5, nu_i2_5, nu_i0_3, nu_i1_3, nu_i2_3, nu_n0, nu_n1, nu_na0, nu_na1, forall_eq, true_implies, false_implies, implies_true, not_true_eq_false, not_false_eq_true, and_true, true_and, and_self, true_or, or_true, false_or, or_false, false_and, and_false, eq_self]
            exact hY post n (by omega) hp
      · have w2 : ¬ st (16 * s + i) = 2 := fun q => w (Or.inl q)
        have wv := di_f (fun q => w (Or.inr q))
        obtain ⟨st', en', sn', nw', bf', ve', R', hX, hY⟩ := ih (i + 1) (by omega) st en sn nw bf ve R
        refine ⟨st', en', sn', nw', bf', ve', R', fun post n hn hp => ?_, fun post n hn hp => ?_⟩
        · obtain ⟨n, rfl⟩ : ∃ n', n = n' + 1 := ⟨n - 1, by omega⟩
          simp (disch := omega) only [wX_settleEntities_2, vx_dir, nu_b16, h5, w2, wv, nu_01, nu_40, nu_30, nu_20, nu_160, Int32.add_zero, Nat.reduceAdd, nu_m16, nu_16m, nu_m4, nu_4m, nu_m3, nu_3m, nu_m2, nu_2m, nI_1, nu_p2, nu_p3, nu_16p, nu_2p, nI_add, nu_cl, nu_in, Nat.add_zero, nu_l0, nu_l1, nu_l2, nu_l3, nu_l4, nu_i0_5, nu_i1_5, nu_i2_5, nu_i0_3, nu_i1_3, nu_i2_3, nu_n0, nu_n1, nu_na0, nu_na1, forall_eq, true_implies, false_implies, implies_true, not_true_eq_false, not_false_eq_true, and_true, true_and, and_self, true_or, or_true, false_or, or_false, false_and, and_false, eq_self]
          exact hX post n (by omega) hp
        · obtain ⟨n, rfl⟩ : ∃ n', n = n' + 1 := ⟨n - 1, by omega⟩
          simp (disch := omega) only [wY_flushed_66, nu_b16, h5, w2, nu_01, nu_40, nu_30, nu_20, nu_160, Int32.add_zero, Nat.reduceAdd, nu_m16, nu_16m, nu_m4, nu_4m, nu_m3, nu_3m, nu_m2, nu_2m, nI_1, nu_p2, nu_p3, nu_16p, nu_2p, nI_add, nu_cl, nu_in, Nat.add_zero, nu_l0, nu_l1, nu_l2, nu_l3, nu_l4, nu_i0_5, nu_i1_5, nu_i2_5, nu_i0_3, nu_i1_3, nu_i2_3, nu_n0, nu_n1, nu_na0, nu_na1, forall_eq, true_implies, false_implies, implies_true, not_true_eq_false, not_false_eq_true, and_true, true_and, and_self, true_or, or_true, false_or, or_false, false_and, and_false, eq_self]
          refine vy_dir (by omega) (re_rN R) (re_rS R) ?_
          simp (disch := omega) only [wv, nu_01, nu_40, nu_30, nu_20, nu_160, Int32.add_zero, Nat.reduceAdd, nu_m16, nu_16m, nu_m4, nu_4m, nu_m3, nu_3m, nu_m2, nu_2m, nI_1, nu_p2, nu_p3, nu_16p, nu_2p, nI_add, nu_cl, nu_in, Nat.add_zero, nu_l0, nu_l1, nu_l2, nu_l3, nu_l4, nu_i0_5, nu_i1_5, nu_i2_5, nu_i0_3, nu_i1_3, nu_i2_3, nu_n0, nu_n1, nu_na0, nu_na1, forall_eq, true_implies, false_implies, implies_true, not_true_eq_false, not_false_eq_true, and_true, true_and, and_self, true_or, or_true, false_or, or_false, false_and, and_false, eq_self]
          exact hY post n (by omega) hp
end
section
variable {md bk rt rc lk wt wc ch st en sn th ro nw bf ve : Nat → Int32}
variable (sc fc cc rq : Int32) (ct sk sr fr lf cr rr yl la od sm : Nat → Int32)
theorem fe_S {s : Nat} (r : Int32) (hs : s < 3) (R : re_R md bk ch lk st rt rc wt wc en sn th ro nw bf ve) :
    ∃ (lk' bk' st' en' sn' nw' bf' ve' : Nat → Int32), re_R md bk' ch lk' st' rt rc wt wc en' sn' th ro nw' bf' ve' ∧
      (∀ post : Int32 → SX → Prop, post r (sc, fc, cc, rq, md, bk', ct, rt, rc, lk', wt, wc, ch, st', en', sn', sk, sr, fr, lf, cr, rr) → wX_flushSession_61 post (nI s) r sc fc cc rq md bk ct rt rc lk wt wc ch st en sn sk sr fr lf cr rr) ∧
      (∀ post : Int32 → SY → Prop, post r (sc, fc, th, ch, ro, lk', st', nw', bf', ve', bk', md, yl, la, od, sm, fr, ct) → wY_flushed_46 post (nI s) r sc fc th ch ro lk st nw bf ve bk md yl la od sm fr ct) := by
  by_cases r0 : r = 0
  · subst r0
    obtain ⟨st', en', sn', nw', bf', ve', R', hX, hY⟩ := se_L sc fc cc rq ct sk sr fr lf cr rr yl la od sm hs 16 0 rfl st en sn nw bf ve R
    refine ⟨lk, bk, st', en', sn', nw', bf', ve', R', fun post hp => ?_, fun post hp => ?_⟩
    · simp only [wX_flushSession_61, wpX_settleEntities, forall_eq, true_implies, false_implies, implies_true, not_true_eq_false, not_false_eq_true, and_true, true_and, and_self, true_or, or_true, false_or, or_false, false_and, and_false, eq_self]
      exact ⟨17, hX _ 17 (by decide) hp⟩
    · simp only [wY_flushed_46, forall_eq, true_implies, false_implies, implies_true, not_true_eq_false, not_false_eq_true, and_true, true_and, and_self, true_or, or_true, false_or, or_false, false_and, and_false, eq_self]
      exact ⟨17, hY _ 17 (by decide) hp⟩
  · obtain ⟨lk', R', hX, hY⟩ := un_S sc fc cc rq ct sk sr fr lf cr rr yl la od sm hs R
    refine ⟨lk', upd bk s 1, st, en, sn, nw, bf, ve, bk_R R' (Or.inr rfl), fun post hp => ?_, fun post hp => ?_⟩
    · simp only [wX_flushSession_61, r0, forall_eq, true_implies, false_implies, implies_true, not_true_eq_false, not_false_eq_true, and_true, true_and, and_self, true_or, or_true, false_or, or_false, false_and, and_false, eq_self]
      refine hX _ ?_
      simp (disch := omega) only [nu_01, nu_40, nu_30, nu_20, nu_160, Int32.add_zero, Nat.reduceAdd, nu_m16, nu_16m, nu_m4, nu_4m, nu_m3, nu_3m, nu_m2, nu_2m, nI_1, nu_p2, nu_p3, nu_16p, nu_2p, nI_add, nu_cl, nu_in, Nat.add_zero, nu_l0, nu_l1, nu_l2, nu_l3, nu_l4, nu_i0_5, nu_i1_5, nu_i2_5, nu_i0_3, nu_i1_3, nu_i2_3, nu_n0, nu_n1, nu_na0, nu_na1, forall_eq, true_implies, false_implies, implies_true, not_true_eq_false, not_false_eq_true, and_true, true_and, and_self, true_or, or_true, false_or, or_false, false_and, and_false, eq_self]
      exact hp
    · simp only [wY_flushed_46, r0, forall_eq, true_implies, false_implies, implies_true, not_true_eq_false, not_false_eq_true, and_true, true_and, and_self, true_or, or_true, false_or, or_false, false_and, and_false, eq_self]
      refine hY _ ?_
      simp (disch := omega) only [nu_01, nu_40, nu_30, nu_20, nu_160, Int32.add_zero, Nat.reduceAdd, nu_m16, nu_16m, nu_m4, nu_4m, nu_m3, nu_3m, nu_m2, nu_2m, nI_1, nu_p2, nu_p3, nu_16p, nu_2p, nI_add, nu_cl, nu_in, Nat.add_zero, nu_l0, nu_l1, nu_l2, nu_l3, nu_l4, nu_i0_5, nu_i1_5, nu_i2_5, nu_i0_3, nu_i1_3, nu_i2_3, nu_n0, nu_n1, nu_na0, nu_na1, forall_eq, true_implies, false_implies, implies_true, not_true_eq_false, not_false_eq_true, and_true, true_and, and_self, true_or, or_true, false_or, or_false, false_and, and_false, eq_self]
      exact hp
theorem fl_S {s : Nat} (hs : s < 3) (R : re_R md bk ch lk st rt rc wt wc en sn th ro nw bf ve) :
    ∃ (r : Int32) (n' : Nat) (cc' : Int32) (ct' lk' wt' wc' ch' st' en' sn' bk' sk' sr' lf' cr' th' ro' nw' bf' ve' yl' la' od' sm' : Nat → Int32), re_R md bk' ch' lk' st' rt rc wt' wc' en' sn' th' ro' nw' bf' ve' ∧ re_P n' sk' sr' sm' ∧ n' ≤ 32 ∧
      (∀ post : Int32 → SX → Prop, post r (nI n', fc, cc', rq, md, bk', ct', rt, rc, lk', wt', wc', ch', st', en', sn', sk', sr', fr, lf', cr', rr) → wpX_flushSession post (sc, fc, cc, rq, md, bk, ct, rt, rc, lk, wt, wc, ch, st, en, sn, sk, sr, fr, lf, cr, rr) (nI s)) ∧
      (∀ post : Int32 → SY → Prop, post r (nI n', fc, th', ch', ro', lk', st', nw', bf', ve', bk', md, yl', la', od', sm', fr, ct') → wpY_flushed post (sc, fc, th, ch, ro, lk, st, nw, bf, ve, bk, md, yl, la, od, sm, fr, ct) (nI s)) := by
  obtain ⟨r1, st1, R1, hr1, hX1, hY1⟩ := sa_S (nI 0) fc cc rq ct sk sr fr lf cr rr yl la od sm hs R
  rcases hr1 with rfl | rfl
  · obtain ⟨r2, n2, cc2, ct2, lk2, wt2, wc2, ch2, sk2, sr2, lf2, cr2, th2, ro2, yl2, la2, od2, sm2, R2, P2, hn2, hX2, hY2⟩ := ia_S fc cc rq ct sk sr fr lf cr rr yl la od sm hs R1
    have hX2' : ∀ post : Int32 → SX → Prop, wX_flushSession_41 post (nI s) r2 (nI n2) fc cc2 rq md bk ct2 rt rc lk2 wt2 wc2 ch2 st1 en sn sk2 sr2 fr lf2 cr2 rr → wpX_flushSession post (sc, fc, cc, rq, md, bk, ct, rt, rc, lk, wt, wc, ch, st, en, sn, sk, sr, fr, lf, cr, rr) (nI s) := by
      intro post hp
      simp only [wpX_flushSession]
      refine hX1 _ ?_
      simp only [forall_eq, true_implies, false_implies, implies_true, not_true_eq_false, not_false_eq_true, and_true, true_and, and_self, true_or, or_true, false_or, or_false, false_and, and_false, eq_self]
      exact hX2 post hp
    have hY2' : ∀ post : Int32 → SY → Prop, wY_flushed_21 post (nI s) r2 (nI n2) fc th2 ch2 ro2 lk2 st1 nw bf ve bk md yl2 la2 od2 sm2 fr ct2 → wpY_flushed post (sc, fc, th, ch, ro, lk, st, nw, bf, ve, bk, md, yl, la, od, sm, fr, ct) (nI s) := by
      intro post hp
      simp only [wpY_flushed]
      refine hY1 _ ?_
      simp only [forall_eq, true_implies, false_implies, implies_true, not_true_eq_false, not_false_eq_true, and_true, true_and, and_self, true_or, or_true, false_or, or_false, false_and, and_false, eq_self]
      exact hY2 _ hp
    by_cases q2 : r2 = 0
    · subst q2
      obtain ⟨r3, n3, ct3, lk3, wt3, ch3, sk3, sr3, lf3, th3, yl3, sm3, R3, P3, hn3, hX3, hY3⟩ := de_A fc cc2 rq ct2 sk2 sr2 fr lf2 cr2 rr yl2 la2 od2 sm2 hs hn2 R2 P2
      by_cases q3 : r3 = 0
      · subst q3
        obtain ⟨lk4, bk4, st4, en4, sn4, nw4, bf4, ve4, R4, hX4, hY4⟩ := fe_S (nI n3) fc cc2 rq ct3 sk3 sr3 fr lf3 cr2 rr yl3 la2 od2 sm3 (rm_i (∃ k, k < 16 ∧ fo_P rt wt3 rc wc2 lk3 s k) (-8) 0) hs R3
        refine ⟨rm_i (∃ k, k < 16 ∧ fo_P rt wt3 rc wc2 lk3 s k) (-8) 0, n3, cc2, ct3, lk4, wt3, wc2, ch3, st4, en4, sn4, bk4, sk3, sr3, lf3, cr2, th3, ro2, nw4, bf4, ve4, yl3, la2, od2, sm3, R4, P3, hn3, fun post hp => hX2' post ?_, fun post hp => hY2' post ?_⟩
        · simp only [wX_flushSession_41, forall_eq, true_implies, false_implies, implies_true, not_true_eq_false, not_false_eq_true, and_true, true_and, and_self, true_or, or_true, false_or, or_false, false_and, and_false, eq_self]
          refine hX3 _ ?_
          simp only [wX_flushSession_51, forall_eq, true_implies, false_implies, implies_true, not_true_eq_false, not_false_eq_true, and_true, true_and, and_self, true_or, or_true, false_or, or_false, false_and, and_false, eq_self]
          refine vx_le hs (re_rT R3) (re_rth R3) (re_rC R3) (re_rO R3) ?_
          exact hX4 post hp
        · simp only [wY_flushed_21, forall_eq, true_implies, false_implies, implies_true, not_true_eq_false, not_false_eq_true, and_true, true_and, and_self, true_or, or_true, false_or, or_false, false_and, and_false, eq_self]
          refine hY3 _ ?_
          simp only [wY_flushed_31, forall_eq, true_implies, false_implies, implies_true, not_true_eq_false, not_false_eq_true, and_true, true_and, and_self, true_or, or_true, false_or, or_false, false_and, and_false, eq_self]
          refine vy_fo hs (re_rT R3) (re_rC R3) (re_rO R3) ?_
          have hy := hY4 post hp
          by_cases f : ∃ k, k < 16 ∧ fo_P rt wt3 rc wc2 lk3 s k
          · rw [rm_t f] at hy
            rw [di_t f]
            simp only [nu_k10, forall_eq, true_implies, false_implies, implies_true, not_true_eq_false, not_false_eq_true, and_true, true_and, and_self, true_or, or_true, false_or, or_false, false_and, and_false, eq_self]
            exact hy
          · rw [rm_f f] at hy
            rw [di_f f]
            simp only [forall_eq, true_implies, false_implies, implies_true, not_true_eq_false, not_false_eq_true, and_true, true_and, and_self, true_or, or_true, false_or, or_false, false_and, and_false, eq_self]
            exact hy
      · obtain ⟨lk4, bk4, st4, en4, sn4, nw4, bf4, ve4, R4, hX4, hY4⟩ := fe_S (nI n3) fc cc2 rq ct3 sk3 sr3 fr lf3 cr2 rr yl3 la2 od2 sm3 r3 hs R3
        refine ⟨r3, n3, cc2, ct3, lk4, wt3, wc2, ch3, st4, en4, sn4, bk4, sk3, sr3, lf3, cr2, th3, ro2, nw4, bf4, ve4, yl3, la2, od2, sm3, R4, P3, hn3, fun post hp => hX2' post ?_, fun post hp => hY2' post ?_⟩
        · simp only [wX_flushSession_41, forall_eq, true_implies, false_implies, implies_true, not_true_eq_false, not_false_eq_true, and_true, true_and, and_self, true_or, or_true, false_or, or_false, false_and, and_false, eq_self]
          refine hX3 _ ?_
          simp only [wX_flushSession_51, q3, forall_eq, true_implies, false_implies, implies_true, not_true_eq_false, not_false_eq_true, and_true, true_and, and_self, true_or, or_true, false_or, or_false, false_and, and_false, eq_self]
          exact hX4 post hp
        · simp only [wY_flushed_21, forall_eq, true_implies, false_implies, implies_true, not_true_eq_false, not_false_eq_true, and_true, true_and, and_self, true_or, or_true, false_or, or_false, false_and, and_false, eq_self]
          refine hY3 _ ?_
          simp only [wY_flushed_31, q3, forall_eq, true_implies, false_implies, implies_true, not_true_eq_false, not_false_eq_true, and_true, true_and, and_self, true_or, or_true, false_or, or_false, false_and, and_false, eq_self]
          exact hY4 post hp
    · obtain ⟨lk4, bk4, st4, en4, sn4, nw4, bf4, ve4, R4, hX4, hY4⟩ := fe_S (nI n2) fc cc2 rq ct2 sk2 sr2 fr lf2 cr2 rr yl2 la2 od2 sm2 r2 hs R2
      refine ⟨r2, n2, cc2, ct2, lk4, wt2, wc2, ch2, st4, en4, sn4, bk4, sk2, sr2, lf2, cr2, th2, ro2, nw4, bf4, ve4, yl2, la2, od2, sm2, R4, P2, by omega, fun post hp => hX2' post ?_, fun post hp => hY2' post ?_⟩
      · simp only [wX_flushSession_41, wX_flushSession_51, q2, forall_eq, true_implies, false_implies, implies_true, not_true_eq_false, not_false_eq_true, and_true, true_and, and_self, true_or, or_true, false_or, or_false, false_and, and_false, eq_self]
        exact hX4 post hp
      · simp only [wY_flushed_21, wY_flushed_31, q2, forall_eq, true_implies, false_implies, implies_true, not_true_eq_false, not_false_eq_true, and_true, true_and, and_self, true_or, or_true, false_or, or_false, false_and, and_false, eq_self]
        exact hY4 post hp
  · obtain ⟨lk4, bk4, st4, en4, sn4, nw4, bf4, ve4, R4, hX4, hY4⟩ := fe_S (nI 0) fc cc rq ct sk sr fr lf cr rr yl la od sm (-7) hs R1
    refine ⟨-7, 0, cc, ct, lk4, wt, wc, ch, st4, en4, sn4, bk4, sk, sr, lf, cr, th, ro, nw4, bf4, ve4, yl, la, od, sm, R4, re_P0, by decide, fun post hp => ?_, fun post hp => ?_⟩
    · simp only [wpX_flushSession]
      refine hX1 _ ?_
      simp only [wX_flushSession_21, wX_flushSession_31, wX_flushSession_41, wX_flushSession_51, nu_z7, forall_eq, true_implies, false_implies, implies_true, not_true_eq_false, not_false_eq_true, and_true, true_and, and_self, true_or, or_true, false_or, or_false, false_and, and_false, eq_self]
      exact hX4 post hp
    · simp only [wpY_flushed]
      refine hY1 _ ?_
      simp only [wY_flushed_21, wY_flushed_31, nu_z7, forall_eq, true_implies, false_implies, implies_true, not_true_eq_false, not_false_eq_true, and_true, true_and, and_self, true_or, or_true, false_or, or_false, false_and, and_false, eq_self]
      exact hY4 post hp
end
end
section
section
variable {md bk wt wc st en sn nw bf ve : Nat → Int32}
variable (sc fc cc rq : Int32) (ct sk sr fr lf cr rr yl la od sm : Nat → Int32)
/-- what was written becomes the store's -/
theorem pb_L {s : Nat} (hs : s < 3) : ∀ (d i : Nat), i + d = 16 → ∀ (ch lk rt rc th ro : Nat → Int32), re_R md bk ch lk st rt rc wt wc en sn th ro nw bf ve →
    ∃ (ch' lk' rt' rc' th' ro' : Nat → Int32), re_R md bk ch' lk' st rt' rc' wt wc en sn th' ro' nw bf ve ∧
      (∀ (post : SX → Prop) n, d < n → post (sc, fc, cc, rq, md, bk, ct, rt', rc', lk', wt, wc, ch', st, en, sn, sk, sr, fr, lf, cr, rr) → wX_publishWritten_2 post (nI s) sc fc cc rq n (nI i) md bk ct rt rc lk wt wc ch st en sn sk sr fr lf cr rr) ∧
      (∀ (post : Int32 → SY → Prop) n, d < n → post 0 (sc, fc, th', ch', ro', lk', st, nw, bf, ve, bk, md, yl, la, od, sm, fr, ct) → wY_commit_14 post (nI s) sc fc n (nI i) th ch ro lk st nw bf ve bk md yl la od sm fr ct) := by
  intro d
  induction d with
  | zero =>
    intro i hi ch lk rt rc th ro R
    refine ⟨ch, lk, rt, rc, th, ro, R, fun post n hn hp => ?_, fun post n hn hp => ?_⟩
    · obtain ⟨n, rfl⟩ : ∃ n', n = n' + 1 := ⟨n - 1, by omega⟩
      simp (disch := omega) only [wX_publishWritten_2, nu_a16, forall_eq, true_implies, false_implies, implies_true, not_true_eq_false, not_false_eq_true, and_true, true_and, and_self, true_or, or_true, false_or, or_false, false_and, and_false, eq_self]
      exact hp
    · obtain ⟨n, rfl⟩ : ∃ n', n = n' + 1 := ⟨n - 1, by omega⟩
      simp (disch := omega) only [wY_commit_14, nu_a16, forall_eq, true_implies, false_implies, implies_true, not_true_eq_false, not_false_eq_true, and_true, true_and, and_self, true_or, or_true, false_or, or_false, false_and, and_false, eq_self]
      exact hp
  | succ d ih =>
    intro i hi ch lk rt rc th ro R
    have hi' : i < 16 := by omega
    have hT := (re_rT R i hi').2
    have hb : wt i = 0 ∨ wt i = 1 := by
      rw [hT]
      exact re_rth R _
    have hn := nu_nb hb
    have c0 := (re_rC R i hi' 0 (by decide)).2
    have c1 := (re_rC R i hi' 1 (by decide)).2
    have c2 := (re_rC R i hi' 2 (by decide)).2
    have c3 := (re_rC R i hi' 3 (by decide)).2
    rw [Nat.add_zero, Nat.add_zero] at c0
    by_cases h : lk i = nI s
    · obtain ⟨ch', lk', rt', rc', th', ro', R', hX, hY⟩ := ih (i + 1) (by omega) _ _ _ _ _ _ (pb_R (k := i) R hi')
      refine ⟨ch', lk', rt', rc', th', ro', R', fun post n hn' hp => ?_, fun post n hn' hp => ?_⟩
      · obtain ⟨n, rfl⟩ : ∃ n', n = n' + 1 := ⟨n - 1, by omega⟩
        have hx := hX post n (by omega) hp
        simp (disch := omega) only [wX_publishWritten_2, nu_b16, h, hn, nu_01, nu_40, nu_30, nu_20, nu_160, Int32.add_zero, Nat.reduceAdd, nu_m16, nu_16m, nu_m4, nu_4m, nu_m3, nu_3m, nu_m2, nu_2m, nI_1, nu_p2, nu_p3, nu_16p, nu_2p, nI_add, nu_cl, nu_in, Nat.add_zero, nu_l0, nu_l1, nu_l2, nu_l3, nu_l4, nu_i0_5, nu_i1_5, nu_i2_5, nu_i0_3, nu_i1_3, nu_i2_3, nu_n0, nu_n1, nu_na0, nu_na1, forall_eq, true_implies, false_implies, implies_true, not_true_eq_false, not_false_eq_true, and_true, true_and, and_self, true_or, or_true, false_or, or_false, false_and, and_false, eq_self]
        refine ⟨5, ?_⟩
        simp (disch := omega) only [wX_publishWritten_51, nu_a4, nu_b4, nu_01, nu_40, nu_30, nu_20, nu_160, Int32.add_zero, Nat.reduceAdd, nu_m16, nu_16m, nu_m4, nu_4m, nu_m3, nu_3m, nu_m2, nu_2m, nI_1, nu_p2, nu_p3, nu_16p, nu_2p, nI_add, nu_cl, nu_in, Nat.add_zero, nu_l0, nu_l1, nu_l2, nu_l3, nu_l4, nu_i0_5, nu_i1_5, nu_i2_5, nu_i0_3, nu_i1_3, nu_i2_3, nu_n0, nu_n1, nu_na0, nu_na1, forall_eq, true_implies, false_implies, implies_true, not_true_eq_false, not_false_eq_true, and_true, true_and, and_self, true_or, or_true, false_or, or_false, false_and, and_false, eq_self]
        exact hx
      · obtain ⟨n, rfl⟩ : ∃ n', n = n' + 1 := ⟨n - 1, by omega⟩
        have hy := hY post n (by omega) hp
        rw [c0, c1, c2, c3] at hy
        simp (disch := omega) only [wY_commit_14, nu_b16, h, ← hT, hn, pk_us, nu_01, nu_40, nu_30, nu_20, nu_160, Int32.add_zero, Nat.reduceAdd, nu_m16, nu_16m, nu_m4, nu_4m, nu_m3, nu_3m, nu_m2, nu_2m, nI_1, nu_p2, nu_p3, nu_16p, nu_2p, nI_add, nu_cl, nu_in, Nat.add_zero, nu_l0, nu_l1, nu_l2, nu_l3, nu_l4, nu_i0_5, nu_i1_5, nu_i2_5, nu_i0_3, nu_i1_3, nu_i2_3, nu_n0, nu_n1, nu_na0, nu_na1, forall_eq, true_implies, false_implies, implies_true, not_true_eq_false, not_false_eq_true, and_true, true_and, and_self, true_or, or_true, false_or, or_false, false_and, and_false, eq_self]
        refine ⟨5, ?_⟩
        simp (disch := omega) only [wY_commit_70, nu_a4, nu_b4, pk_un, nu_01, nu_40, nu_30, nu_20, nu_160, Int32.add_zero, Nat.reduceAdd, nu_m16, nu_16m, nu_m4, nu_4m, nu_m3, nu_3m, nu_m2, nu_2m, nI_1, nu_p2, nu_p3, nu_16p, nu_2p, nI_add, nu_cl, nu_in, Nat.add_zero, nu_l0, nu_l1, nu_l2, nu_l3, nu_l4, nu_i0_5, nu_i1_5, nu_i2_5, nu_i0_3, nu_i1_3, nu_i2_3, nu_n0, nu_n1, nu_na0, nu_na1, forall_eq, true_implies, false_implies, implies_true, not_true_eq_false, not_false_eq_true, and_true, true_and, and_self, true_or, or_true, false_or, or_false, false_and, and_false, eq_self]
        exact hy
    · obtain ⟨ch', lk', rt', rc', th', ro', R', hX, hY⟩ := ih (i + 1) (by omega) ch lk rt rc th ro R
      refine ⟨ch', lk', rt', rc', th', ro', R', fun post n hn' hp => ?_, fun post n hn' hp => ?_⟩
      · obtain ⟨n, rfl⟩ : ∃ n', n = n' + 1 := ⟨n - 1, by omega⟩
        simp (disch := omega) only [wX_publishWritten_2, nu_b16, h, nu_01, nu_40, nu_30, nu_20, nu_160, Int32.add_zero, Nat.reduceAdd, nu_m16, nu_16m, nu_m4, nu_4m, nu_m3, nu_3m, nu_m2, nu_2m, nI_1, nu_p2, nu_p3, nu_16p, nu_2p, nI_add, nu_cl, nu_in, Nat.add_zero, nu_l0, nu_l1, nu_l2, nu_l3, nu_l4, nu_i0_5, nu_i1_5, nu_i2_5, nu_i0_3, nu_i1_3, nu_i2_3, nu_n0, nu_n1, nu_na0, nu_na1, forall_eq, true_implies, false_implies, implies_true, not_true_eq_false, not_false_eq_true, and_true, true_and, and_self, true_or, or_true, false_or, or_false, false_and, and_false, eq_self]
        exact hX post n (by omega) hp
      · obtain ⟨n, rfl⟩ : ∃ n', n = n' + 1 := ⟨n - 1, by omega⟩
        simp (disch := omega) only [wY_commit_14, nu_b16, h, nu_01, nu_40, nu_30, nu_20, nu_160, Int32.add_zero, Nat.reduceAdd, nu_m16, nu_16m, nu_m4, nu_4m, nu_m3, nu_3m, nu_m2, nu_2m, nI_1, nu_p2, nu_p3, nu_16p, nu_2p, nI_add, nu_cl, nu_in, Nat.add_zero, nu_l0, nu_l1, nu_l2, nu_l3, nu_l4, nu_i0_5, nu_i1_5, nu_i2_5, nu_i0_3, nu_i1_3, nu_i2_3, nu_n0, nu_n1, nu_na0, nu_na1, forall_eq, true_implies, false_implies, implies_true, not_true_eq_false, not_false_eq_true, and_true, true_and, and_self, true_or, or_true, false_or, or_false, false_and, and_false, eq_self]
        exact hY post n (by omega) hp
end
theorem fl_T {u : SX} {v : SY} (I : i_Rel 0 u v) (v1 : Int32) : sm_S (fun post => wpX_flush post u v1) (fun post => wpY_flush post v v1) := by
  obtain ⟨n, m, cc, rq, md, bk, ct, rt, rc, lk, wt, wc, ch, st, en, sn, sk, sr, fr, lf, cr, rr, th, ro, nw, bf, ve, yl, la, od, sm, rfl, rfl, hn, hm, R, hP⟩ := I
  by_cases h : er_v bk v1 0 = 0
  · obtain ⟨s, k, hs, hk, rfl, _, hb⟩ := er_0 h
    obtain ⟨r, n', cc', ct', lk', wt', wc', ch', st', en', sn', bk', sk', sr', lf', cr', th', ro', nw', bf', ve', yl', la', od', sm', R', P', hn', hX, hY⟩ := fl_S (nI n) (nI m) cc rq ct sk sr fr lf cr rr yl la od sm hs R
    refine ⟨r, (nI n', nI m, cc', rq, md, bk', ct', rt, rc, lk', wt', wc', ch', st', en', sn', sk', sr', fr, lf', cr', rr), (nI n', nI m, th', ch', ro', lk', st', nw', bf', ve', bk', md, yl', la', od', sm', fr, ct'), ir_mk hn' hm R' P', fun post hp => ?_, fun post hp => ?_⟩
    · simp only [wpX_flush, vx_ser, h, forall_eq, true_implies, false_implies, implies_true, not_true_eq_false, not_false_eq_true, and_true, true_and, and_self, true_or, or_true, false_or, or_false, false_and, and_false, eq_self]
      exact hX _ hp
    · simp only [wpY_flush, vy_err, h, forall_eq, true_implies, false_implies, implies_true, not_true_eq_false, not_false_eq_true, and_true, true_and, and_self, true_or, or_true, false_or, or_false, false_and, and_false, eq_self]
      exact hY _ hp
  · refine ⟨(er_v bk v1 0), (nI n, nI m, cc, rq, md, bk, ct, rt, rc, lk, wt, wc, ch, st, en, sn, sk, sr, fr, lf, cr, rr), (nI n, nI m, th, ch, ro, lk, st, nw, bf, ve, bk, md, yl, la, od, sm, fr, ct), ir_mk hn hm (R) hP, fun post hp => ?_, fun post hp => ?_⟩
    · simp (disch := omega) only [wpX_flush, vx_ser, h, nu_01, nu_40, nu_30, nu_20, nu_160, Int32.add_zero, Nat.reduceAdd, nu_m16, nu_16m, nu_m4, nu_4m, nu_m3, nu_3m, nu_m2, nu_2m, nI_1, nu_p2, nu_p3, nu_16p, nu_2p, nI_add, nu_cl, nu_in, Nat.add_zero, nu_l0, nu_l1, nu_l2, nu_l3, nu_l4, nu_i0_5, nu_i1_5, nu_i2_5, nu_i0_3, nu_i1_3, nu_i2_3, nu_n0, nu_n1, nu_na0, nu_na1, forall_eq, true_implies, false_implies, implies_true, not_true_eq_false, not_false_eq_true, and_true, true_and, and_self, true_or, or_true, false_or, or_false, false_and, and_false, eq_self]
      exact hp
    · simp (disch := omega) only [wpY_flush, vy_err, h, nu_01, nu_40, nu_30, nu_20, nu_160, Int32.add_zero, Nat.reduceAdd, nu_m16, nu_16m, nu_m4, nu_4m, nu_m3, nu_3m, nu_m2, nu_2m, nI_1, nu_p2, nu_p3, nu_16p, nu_2p, nI_add, nu_cl, nu_in, Nat.add_zero, nu_l0, nu_l1, nu_l2, nu_l3, nu_l4, nu_i0_5, nu_i1_5, nu_i2_5, nu_i0_3, nu_i1_3, nu_i2_3, nu_n0, nu_n1, nu_na0, nu_na1, forall_eq, true_implies, false_implies, implies_true, not_true_eq_false, not_false_eq_true, and_true, true_and, and_self, true_or, or_true, false_or, or_false, false_and, and_false, eq_self]
      exact hp
theorem cm_T {u : SX} {v : SY} (I : i_Rel 0 u v) (v1 : Int32) : sm_S (fun post => wpX_commit post u v1) (fun post => wpY_commit post v v1) := by
  obtain ⟨n, m, cc, rq, md, bk, ct, rt, rc, lk, wt, wc, ch, st, en, sn, sk, sr, fr, lf, cr, rr, th, ro, nw, bf, ve, yl, la, od, sm, rfl, rfl, hn, hm, R, hP⟩ := I
  by_cases h : er_v bk v1 0 = 0
  · obtain ⟨s, k, hs, hk, rfl, _, hb⟩ := er_0 h
    obtain ⟨r, n', cc', ct', lk', wt', wc', ch', st', en', sn', bk', sk', sr', lf', cr', th', ro', nw', bf', ve', yl', la', od', sm', R', P', hn', hX, hY⟩ := fl_S (nI n) (nI m) cc rq ct sk sr fr lf cr rr yl la od sm hs R
    by_cases r0 : r = 0
    · subst r0
      obtain ⟨ch2, lk2, rt2, rc2, th2, ro2, R2, hX2, hY2⟩ := pb_L (nI n') (nI m) cc' rq ct' sk' sr' fr lf' cr' rr yl' la' od' sm' hs 16 0 rfl ch' lk' rt rc th' ro' R'
      refine ⟨0, (nI n', nI m, cc', rq, md, bk', ct', rt2, rc2, lk2, wt', wc', ch2, st', en', sn', sk', sr', fr, lf', cr', rr), (nI n', nI m, th2, ch2, ro2, lk2, st', nw', bf', ve', bk', md, yl', la', od', sm', fr, ct'), ir_mk hn' hm R2 P', fun post hp => ?_, fun post hp => ?_⟩
      · simp only [wpX_commit, vx_ser, h, forall_eq, true_implies, false_implies, implies_true, not_true_eq_false, not_false_eq_true, and_true, true_and, and_self, true_or, or_true, false_or, or_false, false_and, and_false, eq_self]
        refine hX _ ?_
        simp only [wX_commit_16, wpX_publishWritten, forall_eq, true_implies, false_implies, implies_true, not_true_eq_false, not_false_eq_true, and_true, true_and, and_self, true_or, or_true, false_or, or_false, false_and, and_false, eq_self]
        exact ⟨17, hX2 _ 17 (by decide) hp⟩
      · simp only [wpY_commit, wpY_flush, vy_err, h, forall_eq, true_implies, false_implies, implies_true, not_true_eq_false, not_false_eq_true, and_true, true_and, and_self, true_or, or_true, false_or, or_false, false_and, and_false, eq_self]
        refine hY _ ?_
        simp only [forall_eq, true_implies, false_implies, implies_true, not_true_eq_false, not_false_eq_true, and_true, true_and, and_self, true_or, or_true, false_or, or_false, false_and, and_false, eq_self]
        exact ⟨17, hY2 _ 17 (by decide) hp⟩
    · refine ⟨r, (nI n', nI m, cc', rq, md, bk', ct', rt, rc, lk', wt', wc', ch', st', en', sn', sk', sr', fr, lf', cr', rr), (nI n', nI m, th', ch', ro', lk', st', nw', bf', ve', bk', md, yl', la', od', sm', fr, ct'), ir_mk hn' hm R' P', fun post hp => ?_, fun post hp => ?_⟩
      · simp only [wpX_commit, vx_ser, h, forall_eq, true_implies, false_implies, implies_true, not_true_eq_false, not_false_eq_true, and_true, true_and, and_self, true_or, or_true, false_or, or_false, false_and, and_false, eq_self]
        refine hX _ ?_
        simp only [wX_commit_16, r0, forall_eq, true_implies, false_implies, implies_true, not_true_eq_false, not_false_eq_true, and_true, true_and, and_self, true_or, or_true, false_or, or_false, false_and, and_false, eq_self]
        exact hp
      · simp only [wpY_commit, wpY_flush, vy_err, h, forall_eq, true_implies, false_implies, implies_true, not_true_eq_false, not_false_eq_true, and_true, true_and, and_self, true_or, or_true, false_or, or_false, false_and, and_false, eq_self]
        refine hY _ ?_
        simp only [r0, forall_eq, true_implies, false_implies, implies_true, not_true_eq_false, not_false_eq_true, and_true, true_and, and_self, true_or, or_true, false_or, or_false, false_and, and_false, eq_self]
        exact hp
  · refine ⟨(er_v bk v1 0), (nI n, nI m, cc, rq, md, bk, ct, rt, rc, lk, wt, wc, ch, st, en, sn, sk, sr, fr, lf, cr, rr), (nI n, nI m, th, ch, ro, lk, st, nw, bf, ve, bk, md, yl, la, od, sm, fr, ct), ir_mk hn hm (R) hP, fun post hp => ?_, fun post hp => ?_⟩
    · simp (disch := omega) only [wpX_commit, wX_commit_16, vx_ser, h, nu_01, nu_40, nu_30, nu_20, nu_160, Int32.add_zero, Nat.reduceAdd, nu_m16, nu_16m, nu_m4, nu_4m, nu_m3, nu_3m, nu_m2, nu_2m, nI_1, nu_p2, nu_p3, nu_16p, nu_2p, nI_add, nu_cl, nu_in, Nat.add_zero, nu_l0, nu_l1, nu_l2, nu_l3, nu_l4, nu_i0_5, nu_i1_5, nu_i2_5, nu_i0_3, nu_i1_3, nu_i2_3, nu_n0, nu_n1, nu_na0, nu_na1, forall_eq, true_implies, false_implies, implies_true, not_true_eq_false, not_false_eq_true, and_true, true_and, and_self, true_or, or_true, false_or, or_false, false_and, and_false, eq_self]
      exact hp
    · simp (disch := omega) only [wpY_commit, wpY_flush, vy_err, h, nu_01, nu_40, nu_30, nu_20, nu_160, Int32.add_zero, Nat.reduceAdd, nu_m16, nu_16m, nu_m4, nu_4m, nu_m3, nu_3m, nu_m2, nu_2m, nI_1, nu_p2, nu_p3, nu_16p, nu_2p, nI_add, nu_cl, nu_in, Nat.add_zero, nu_l0, nu_l1, nu_l2, nu_l3, nu_l4, nu_i0_5, nu_i1_5, nu_i2_5, nu_i0_3, nu_i1_3, nu_i2_3, nu_n0, nu_n1, nu_na0, nu_na1, forall_eq, true_implies, false_implies, implies_true, not_true_eq_false, not_false_eq_true, and_true, true_and, and_self, true_or, or_true, false_or, or_false, false_and, and_false, eq_self]
      exact hp
section
variable {md bk ch lk rt rc wt wc th ro : Nat → Int32}
variable (sc cc rq : Int32) (ct sk sr lf cr rr yl la od sm : Nat → Int32)
theorem fi_L {s w : Nat} {v : Int32} (hs : s < 3) (hw : w < 3) : ∀ (d i : Nat), i + d = 16 → ∀ (m : Nat) (fr st en sn nw bf ve : Nat → Int32), m ≤ i → re_R md bk ch lk st rt rc wt wc en sn th ro nw bf ve →
    ∃ (m' : Nat) (fr' st' en' sn' nw' bf' ve' : Nat → Int32), m' ≤ 16 ∧ re_R md bk ch lk st' rt rc wt wc en' sn' th ro nw' bf' ve' ∧
      (∀ (post : Int32 → SX → Prop) n, d < n → post (nI m') (sc, nI m', cc, rq, md, bk, ct, rt, rc, lk, wt, wc, ch, st', en', sn', sk, sr, fr', lf, cr, rr) → wX_find_59 post (nI s) (nI w) v n (nI i) sc (nI m) cc rq md bk ct rt rc lk wt wc ch st en sn sk sr fr lf cr rr) ∧
      (∀ (post : Int32 → SY → Prop) n, d < n → post (nI m') (sc, nI m', th, ch, ro, lk, st', nw', bf', ve', bk, md, yl, la, od, sm, fr', ct) → wY_find_59 post (nI s) (nI w) v n (nI i) sc (nI m) th ch ro lk st nw bf ve bk md yl la od sm fr ct) := by
  intro d
  induction d with
  | zero =>
    intro i hi m fr st en sn nw bf ve hm R
    refine ⟨m, fr, st, en, sn, nw, bf, ve, by omega, R, fun post n hn hp => ?_, fun post n hn hp => ?_⟩
    · obtain ⟨n, rfl⟩ : ∃ n', n = n' + 1 := ⟨n - 1, by omega⟩
      simp (disch := omega) only [wX_find_59, nu_a16, forall_eq, true_implies, false_implies, implies_true, not_true_eq_false, not_false_eq_true, and_true, true_and, and_self, true_or, or_true, false_or, or_false, false_and, and_false, eq_self]
      exact hp
    · obtain ⟨n, rfl⟩ : ∃ n', n = n' + 1 := ⟨n - 1, by omega⟩
      simp (disch := omega) only [wY_find_59, nu_a16, forall_eq, true_implies, false_implies, implies_true, not_true_eq_false, not_false_eq_true, and_true, true_and, and_self, true_or, or_true, false_or, or_false, false_and, and_false, eq_self]
      exact hp
  | succ d ih =>
    intro i hi m fr st en sn nw bf ve hm R
    have hi' : i < 16 := by omega
    have hT := re_rT R
    have hB := re_rth R
    have hC := re_rC R
    have hf := si_lt lk (s := s) hi'
    have ht := si_ft (lk := lk) (s := s) hT hi'
    have hc := si_fc (lk := lk) (s := s) (c := w) hC hi' (by omega)
    have hsc : ∀ {post : Int32 → Prop} {st en sn fr : Nat → Int32}, wpX_sightCell post (sc, nI m, cc, rq, md, bk, ct, rt, rc, lk, wt, wc, ch, st, en, sn, sk, sr, fr, lf, cr, rr) (nI s) (nI i) (nI w) = post (si_c rc wc lk s i w) := fun {post st en sn fr} => vx_sce hi' (by omega)
    by_cases z : ¬ si_t rt wt lk s i = 0 ∧ si_c rc wc lk s i w = v
    · have z1 := z.1
      have z2 := z.2
      have ht' : ¬ th (si_f lk s i) = 0 := by
        rw [ht]
        exact z1
      rw [z2] at hc
      by_cases u : st (16 * s + i) = 0 ∨ st (16 * s + i) = 3
      · obtain ⟨m', fr', st', en', sn', nw', bf', ve', hm', R', hX, hY⟩ := ih (i + 1) (by omega) (m + 1) (upd fr m (nI i)) _ _ _ _ _ _ (by omega) (mg_R (s := s) (k := i) R hi')
        refine ⟨m', fr', st', en', sn', nw', bf', ve', hm', R', fun post n hn hp => ?_, fun post n hn hp => ?_⟩
        · obtain ⟨n, rfl⟩ : ∃ n', n = n' + 1 := ⟨n - 1, by omega⟩
          have hx := hX post n (by omega) hp
          rcases u with u | u
          · simp (disch := omega) only [wX_find_59, wpX_manageIfUnloaded, wX_manageIfUnloaded_21, nu_b16, vx_see hi' hT hB, hsc, z1, z2, u, nu_01, nu_40, nu_30, nu_20, nu_160, Int32.add_zero, Nat.reduceAdd, nu_m16, nu_16m, nu_m4, nu_4m, nu_m3, nu_3m, nu_m2, nu_2m, nI_1, nu_p2, nu_p3, nu_16p, nu_2p, nI_add, nu_cl, nu_in, Nat.add_zero, nu_l0, nu_l1, nu_l2, nu_l3, nu_l4, nu_i0_5, nu_i1_5, nu_i2_5, nu_i0_3, nu_i1_3, nu_i2_3, nu_n0, nu_n1, nu_na0, nu_na1, forall_eq, true_implies, false_implies, implies_true, not_true_eq_false, not_false_eq_true, and_true, true_and, and_self, true_or, or_true, false_or, or_false, false_and, and_false, eq_self]
            refine vx_mg hs hi' ?_
            simp (disch := omega) only [nu_01, nu_40, nu_30, nu_20, nu_160, Int32.add_zero, Nat.reduceAdd, nu_m16, nu_16m, nu_m4, nu_4m, nu_m3, nu_3m, nu_m2, nu_2m, nI_1, nu_p2, nu_p3, nu_16p, nu_2p, nI_add, nu_cl, nu_in, Nat.add_zero, nu_l0, nu_l1, nu_l2, nu_l3, nu_l4, nu_i0_5, nu_i1_5, nu_i2_5, nu_i0_3, nu_i1_3, nu_i2_3, nu_n0, nu_n1, nu_na0, nu_na1, forall_eq, true_implies, false_implies, implies_true, not_true_eq_false, not_false_eq_true, and_true, true_and, and_self, true_or, or_true, false_or, or_false, false_and, and_false, eq_self]
            exact hx
          · simp (disch := omega) only [wX_find_59, wpX_manageIfUnloaded, wX_manageIfUnloaded_21, nu_b16, nu_k30, vx_see hi' hT hB, hsc, z1, z2, u, nu_01, nu_40, nu_30, nu_20, nu_160, Int32.add_zero, Nat.reduceAdd, nu_m16, nu_16m, nu_m4, nu_4m, nu_m3, nu_3m, nu_m2, nu_2m, nI_1, nu_p2, nu_p3, nu_16p, nu_2p, nI_add, nu_cl, nu_in, Nat.add_zero, nu_l0, nu_l1, nu_l2, nu_l3, nu_l4, nu_i0_5, nu_i1_5, nu_i2_5, nu_i0_3, nu_i1_3, nu_i2_3, nu_n0, nu_n1, nu_na0, nu_na1, forall_eq, true_implies, false_implies, implies_true, not_true_eq_false, not_false_eq_true, and_true, true_and, and_self, true_or, or_true, false_or, or_false, false_and, and_false, eq_self]
            refine vx_mg hs hi' ?_
            simp (disch := omega) only [nu_01, nu_40, nu_30, nu_20, nu_160, Int32.add_zero, Nat.reduceAdd, nu_m16, nu_16m, nu_m4, nu_4m, nu_m3, nu_3m, nu_m2, nu_2m, nI_1, nu_p2, nu_p3, nu_16p, nu_2p, nI_add, nu_cl, nu_in, Nat.add_zero, nu_l0, nu_l1, nu_l2, nu_l3, nu_l4, nu_i0_5, nu_i1_5, nu_i2_5, nu_i0_3, nu_i1_3, nu_i2_3, nu_n0, nu_n1, nu_na0, nu_na1, forall_eq, true_implies, false_implies, implies_true, not_true_eq_false, not_false_eq_true, and_true, true_and, and_self, true_or, or_true, false_or, or_false, false_and, and_false, eq_self]
            exact hx
        · obtain ⟨n, rfl⟩ : ∃ n', n = n' + 1 := ⟨n - 1, by omega⟩
          have hy := hY post n (by omega) hp
          rcases u with u | u
          · simp (disch := omega) only [wY_find_59, wY_find_151, nu_b16, vy_see hi', ht', hc, u, nu_01, nu_40, nu_30, nu_20, nu_160, Int32.add_zero, Nat.reduceAdd, nu_m16, nu_16m, nu_m4, nu_4m, nu_m3, nu_3m, nu_m2, nu_2m, nI_1, nu_p2, nu_p3, nu_16p, nu_2p, nI_add, nu_cl, nu_in, Nat.add_zero, nu_l0, nu_l1, nu_l2, nu_l3, nu_l4, nu_i0_5, nu_i1_5, nu_i2_5, nu_i0_3, nu_i1_3, nu_i2_3, nu_n0, nu_n1, nu_na0, nu_na1, forall_eq, true_implies, false_implies, implies_true, not_true_eq_false, not_false_eq_true, and_true, true_and, and_self, true_or, or_true, false_or, or_false, false_and, and_false, eq_self]
            refine vy_mg hs hi' hC ?_
            simp (disch := omega) only [nu_01, nu_40, nu_30, nu_20, nu_160, Int32.add_zero, Nat.reduceAdd, nu_m16, nu_16m, nu_m4, nu_4m, nu_m3, nu_3m, nu_m2, nu_2m, nI_1, nu_p2, nu_p3, nu_16p, nu_2p, nI_add, nu_cl, nu_in, Nat.add_zero, nu_l0, nu_l1, nu_l2, nu_l3, nu_l4, nu_i0_5, nu_i1_5, nu_i2_5, nu_i0_3, nu_i1_3, nu_i2_3, nu_n0, nu_n1, nu_na0, nu_na1, forall_eq, true_implies, false_implies, implies_true, not_true_eq_false, not_false_eq_true, and_true, true_and, and_self, true_or, or_true, false_or, or_false, false_and, and_false, eq_self]
            exact hy
          · simp (disch := omega) only [wY_find_59, wY_find_151, nu_b16, nu_k30, vy_see hi', ht', hc, u, nu_01, nu_40, nu_30, nu_20, nu_160, Int32.add_zero, Nat.reduceAdd, nu_m16, nu_16m, nu_m4, nu_4m, nu_m3, nu_3m, nu_m2, nu_2m, nI_1, nu_p2, nu_p3, nu_16p, nu_2p, nI_add, nu_cl, nu_in, Nat.add_zero, nu_l0, nu_l1, nu_l2, nu_l3, nu_l4, nu_i0_5, nu_i1_5, nu_i2_5, nu_i0_3, nu_i1_3, nu_i2_3, nu_n0, nu_n1, nu_na0, nu_na1, forall_eq, true_implies, false_implies, implies_true, not_true_eq_false, not_false_eq_true, and_true, true_and, and_self, true_or, or_true, false_or, or_false, false_and, and_false, eq_self]
            refine vy_mg hs hi' hC ?_
            simp (disch := omega) only [nu_01, nu_40, nu_30, nu_20, nu_160, Int32.add_zero, Nat.reduceAdd, nu_m16, nu_16m, nu_m4, nu_4m, nu_m3, nu_3m, nu_m2, nu_2m, nI_1, nu_p2, nu_p3, nu_16p, nu_2p, nI_add, nu_cl, nu_in, Nat.add_zero, nu_l0, nu_l1, nu_l2, nu_l3, nu_l4, nu_i0_5, nu_i1_5, nu_i2_5, nu_i0_3, nu_i1_3, nu_i2_3, nu_n0, nu_n1, nu_na0, nu_na1, forall_eq, true_implies, false_implies, implies_true, not_true_eq_false, not_false_eq_true, and_true, true_and, and_self, true_or, or_true, false_or, or_false, false_and, and_false, eq_self]
            exact hy
      · have u0 : ¬ st (16 * s + i) = 0 := fun q => u (Or.inl q)
        have u3 : ¬ st (16 * s + i) = 3 := fun q => u (Or.inr q)
        obtain ⟨m', fr', st', en', sn', nw', bf', ve', hm', R', hX, hY⟩ := ih (i + 1) (by omega) (m + 1) (upd fr m (nI i)) st en sn nw bf ve (by omega) R
        refine ⟨m', fr', st', en', sn', nw', bf', ve', hm', R', fun post n hn hp => ?_, fun post n hn hp => ?_⟩
        · obtain ⟨n, rfl⟩ : ∃ n', n = n' + 1 := ⟨n - 1, by omega⟩
          have hx := hX post n (by omega) hp
          simp (disch := omega) only [wX_find_59, wpX_manageIfUnloaded, nu_b16, vx_see hi' hT hB, hsc, z1, z2, u0, u3, nu_01, nu_40, nu_30, nu_20, nu_160, Int32.add_zero, Nat.reduceAdd, nu_m16, nu_16m, nu_m4, nu_4m, nu_m3, nu_3m, nu_m2, nu_2m, nI_1, nu_p2, nu_p3, nu_16p, nu_2p, nI_add, nu_cl, nu_in, Nat.add_zero, nu_l0, nu_l1, nu_l2, nu_l3, nu_l4, nu_i0_5, nu_i1_5, nu_i2_5, nu_i0_3, nu_i1_3, nu_i2_3, nu_n0, nu_n1, nu_na0, nu_na1, forall_eq, true_implies, false_implies, implies_true, not_true_eq_false, not_false_eq_true, and_true, true_and, and_self, true_or, or_true, false_or, or_false, false_and, and_false, eq_self]
          exact hx
        · obtain ⟨n, rfl⟩ : ∃ n', n = n' + 1 := ⟨n - 1, by omega⟩
          have hy := hY post n (by omega) hp
          simp (disch := omega) only [wY_find_59, nu_b16, vy_see hi', ht', hc, u0, u3, nu_01, nu_40, nu_30, nu_20, nu_160, Int32.add_zero, Nat.reduceAdd, nu_m16, nu_16m, nu_m4, nu_4m, nu_m3, nu_3m, nu_m2, nu_2m, nI_1, nu_p2, nu_p3, nu_16p, nu_2p, nI_add, nu_cl, nu_in, Nat.add_zero, nu_l0, nu_l1, nu_l2, nu_l3, nu_l4, nu_i0_5, nu_i1_5, nu_i2_5, nu_i0_3, nu_i1_3, nu_i2_3, nu_n0, nu_n1, nu_na0, nu_na1, forall_eq, true_implies, false_implies, implies_true, not_true_eq_false, not_false_eq_true, and_true, true_and, and_self, true_or, or_true, false_or, or_false, false_and, and_false, eq_self]
          exact hy
    · obtain ⟨m', fr', st', en', sn', nw', bf', ve', hm', R', hX, hY⟩ := ih (i + 1) (by omega) m fr st en sn nw bf ve (by omega) R
      refine ⟨m', fr', st', en', sn', nw', bf', ve', hm', R', fun post n hn hp => ?_, fun post n hn hp => ?_⟩
      · obtain ⟨n, rfl⟩ : ∃ n', n = n' + 1 := ⟨n - 1, by omega⟩
        have hx := hX post n (by omega) hp
        by_cases z1 : si_t rt wt lk s i = 0
        · simp (disch := omega) only [wX_find_59, nu_b16, vx_see hi' hT hB, z1, nu_01, nu_40, nu_30, nu_20, nu_160, Int32.add_zero, Nat.reduceAdd, nu_m16, nu_16m, nu_m4, nu_4m, nu_m3, nu_3m, nu_m2, nu_2m, nI_1, nu_p2, nu_p3, nu_16p, nu_2p, nI_add, nu_cl, nu_in, Nat.add_zero, nu_l0, nu_l1, nu_l2, nu_l3, nu_l4, nu_i0_5, nu_i1_5, nu_i2_5, nu_i0_3, nu_i1_3, nu_i2_3, nu_n0, nu_n1, nu_na0, nu_na1, forall_eq, true_implies, false_implies, implies_true, not_true_eq_false, not_false_eq_true, and_true, true_and, and_self, true_or, or_true, false_or, or_false, false_and, and_false, eq_self]
          exact hx
        · have z2 : ¬ si_c rc wc lk s i w = v := fun q => z ⟨z1, q⟩
          simp (disch := omega) only [wX_find_59, nu_b16, vx_see hi' hT hB, hsc, z1, z2, nu_01, nu_40, nu_30, nu_20, nu_160, Int32.add_zero, Nat.reduceAdd, nu_m16, nu_16m, nu_m4, nu_4m, nu_m3, nu_3m, nu_m2, nu_2m, nI_1, nu_p2, nu_p3, nu_16p, nu_2p, nI_add, nu_cl, nu_in, Nat.add_zero, nu_l0, nu_l1, nu_l2, nu_l3, nu_l4, nu_i0_5, nu_i1_5, nu_i2_5, nu_i0_3, nu_i1_3, nu_i2_3, nu_n0, nu_n1, nu_na0, nu_na1, forall_eq, true_implies, false_implies, implies_true, not_true_eq_false, not_false_eq_true, and_true, true_and, and_self, true_or, or_true, false_or, or_false, false_and, and_false, eq_self]
          exact hx
      · obtain ⟨n, rfl⟩ : ∃ n', n = n' + 1 := ⟨n - 1, by omega⟩
        have hy := hY post n (by omega) hp
        by_cases z1 : si_t rt wt lk s i = 0
        · rw [z1] at ht
          simp (disch := omega) only [wY_find_59, nu_b16, vy_see hi', ht, nu_01, nu_40, nu_30, nu_20, nu_160, Int32.add_zero, Nat.reduceAdd, nu_m16, nu_16m, nu_m4, nu_4m, nu_m3, nu_3m, nu_m2, nu_2m, nI_1, nu_p2, nu_p3, nu_16p, nu_2p, nI_add, nu_cl, nu_in, Nat.add_zero, nu_l0, nu_l1, nu_l2, nu_l3, nu_l4, nu_i0_5, nu_i1_5, nu_i2_5, nu_i0_3, nu_i1_3, nu_i2_3, nu_n0, nu_n1, nu_na0, nu_na1, forall_eq, true_implies, false_implies, implies_true, not_true_eq_false, not_false_eq_true, and_true, true_and, and_self, true_or, or_true, false_or, or_false, false_and, and_false, eq_self]
          exact hy
        · have ht' : ¬ th (si_f lk s i) = 0 := by
            rw [ht]
            exact z1
          have z2 : ¬ ro (4 * si_f lk s i + w) = v := fun q => z ⟨z1, by rw [← hc]; exact q⟩
          simp (disch := omega) only [wY_find_59, nu_b16, vy_see hi', ht', z2, nu_01, nu_40, nu_30, nu_20, nu_160, Int32.add_zero, Nat.reduceAdd, nu_m16, nu_16m, nu_m4, nu_4m, nu_m3, nu_3m, nu_m2, nu_2m, nI_1, nu_p2, nu_p3, nu_16p, nu_2p, nI_add, nu_cl, nu_in, Nat.add_zero, nu_l0, nu_l1, nu_l2, nu_l3, nu_l4, nu_i0_5, nu_i1_5, nu_i2_5, nu_i0_3, nu_i1_3, nu_i2_3, nu_n0, nu_n1, nu_na0, nu_na1, forall_eq, true_implies, false_implies, implies_true, not_true_eq_false, not_false_eq_true, and_true, true_and, and_self, true_or, or_true, false_or, or_false, false_and, and_false, eq_self]
          exact hy
end
theorem fi_T {u : SX} {v : SY} (I : i_Rel 0 u v) (v1 v2 v3 : Int32) : sm_S (fun post => wpX_find post u v1 v2 v3) (fun post => wpY_find post v v1 v2 v3) := by
  obtain ⟨n, m, cc, rq, md, bk, ct, rt, rc, lk, wt, wc, ch, st, en, sn, sk, sr, fr, lf, cr, rr, th, ro, nw, bf, ve, yl, la, od, sm, rfl, rfl, hn, hm, R, hP⟩ := I
  by_cases h : er_v bk v1 0 = 0
  · obtain ⟨s, k, hs, hk, rfl, _, hb⟩ := er_0 h
    by_cases c0 : v2 < 0
    · refine ⟨(-1), (nI n, nI m, cc, rq, md, bk, ct, rt, rc, lk, wt, wc, ch, st, en, sn, sk, sr, fr, lf, cr, rr), (nI n, nI m, th, ch, ro, lk, st, nw, bf, ve, bk, md, yl, la, od, sm, fr, ct), ir_mk hn hm (R) hP, fun post hp => ?_, fun post hp => ?_⟩
      · simp (disch := omega) only [wpX_find, vx_ser, h, c0, nu_01, nu_40, nu_30, nu_20, nu_160, Int32.add_zero, Nat.reduceAdd, nu_m16, nu_16m, nu_m4, nu_4m, nu_m3, nu_3m, nu_m2, nu_2m, nI_1, nu_p2, nu_p3, nu_16p, nu_2p, nI_add, nu_cl, nu_in, Nat.add_zero, nu_l0, nu_l1, nu_l2, nu_l3, nu_l4, nu_i0_5, nu_i1_5, nu_i2_5, nu_i0_3, nu_i1_3, nu_i2_3, nu_n0, nu_n1, nu_na0, nu_na1, forall_eq, true_implies, false_implies, implies_true, not_true_eq_false, not_false_eq_true, and_true, true_and, and_self, true_or, or_true, false_or, or_false, false_and, and_false, eq_self]
        exact hp
      · simp (disch := omega) only [wpY_find, wpY_in, vy_err, h, c0, nu_01, nu_40, nu_30, nu_20, nu_160, Int32.add_zero, Nat.reduceAdd, nu_m16, nu_16m, nu_m4, nu_4m, nu_m3, nu_3m, nu_m2, nu_2m, nI_1, nu_p2, nu_p3, nu_16p, nu_2p, nI_add, nu_cl, nu_in, Nat.add_zero, nu_l0, nu_l1, nu_l2, nu_l3, nu_l4, nu_i0_5, nu_i1_5, nu_i2_5, nu_i0_3, nu_i1_3, nu_i2_3, nu_n0, nu_n1, nu_na0, nu_na1, forall_eq, true_implies, false_implies, implies_true, not_true_eq_false, not_false_eq_true, and_true, true_and, and_self, true_or, or_true, false_or, or_false, false_and, and_false, eq_self]
        exact hp
    · obtain ⟨w, hw9, rfl⟩ := nI_of c0
      by_cases w3 : 3 ≤ w
      · refine ⟨(-1), (nI n, nI m, cc, rq, md, bk, ct, rt, rc, lk, wt, wc, ch, st, en, sn, sk, sr, fr, lf, cr, rr), (nI n, nI m, th, ch, ro, lk, st, nw, bf, ve, bk, md, yl, la, od, sm, fr, ct), ir_mk hn hm (R) hP, fun post hp => ?_, fun post hp => ?_⟩
        · simp (disch := omega) only [wpX_find, vx_ser, h, nu_a1, nu_b1, nu_c1, nu_d1, nu_e1, nu_f1, nu_g1, nu_h1, nu_a2, nu_b2, nu_c2, nu_d2, nu_e2, nu_f2, nu_g2, nu_h2, nu_a3, nu_b3, nu_c3, nu_d3, nu_e3, nu_f3, nu_g3, nu_h3, nu_a4, nu_b4, nu_c4, nu_d4, nu_e4, nu_f4, nu_g4, nu_h4, nu_a5, nu_b5, nu_c5, nu_d5, nu_e5, nu_f5, nu_g5, nu_h5, nu_a6, nu_b6, nu_c6, nu_d6, nu_e6, nu_f6, nu_g6, nu_h6, nu_a7, nu_b7, nu_c7, nu_d7, nu_e7, nu_f7, nu_g7, nu_h7, nu_a16, nu_b16, nu_c16, nu_d16, nu_e16, nu_f16, nu_g16, nu_h16, nu_neg, nu_pos, nu_01, nu_40, nu_30, nu_20, nu_160, Int32.add_zero, Nat.reduceAdd, nu_m16, nu_16m, nu_m4, nu_4m, nu_m3, nu_3m, nu_m2, nu_2m, nI_1, nu_p2, nu_p3, nu_16p, nu_2p, nI_add, nu_cl, nu_in, Nat.add_zero, nu_l0, nu_l1, nu_l2, nu_l3, nu_l4, nu_i0_5, nu_i1_5, nu_i2_5, nu_i0_3, nu_i1_3, nu_i2_3, nu_n0, nu_n1, nu_na0, nu_na1, forall_eq, true_implies, false_implies, implies_true, not_true_eq_false, not_false_eq_true, and_true, true_and, and_self, true_or, or_true, false_or, or_false, false_and, and_false, eq_self]
          exact hp
        · simp (disch := omega) only [wpY_find, wpY_in, vy_err, h, nu_a1, nu_b1, nu_c1, nu_d1, nu_e1, nu_f1, nu_g1, nu_h1, nu_a2, nu_b2, nu_c2, nu_d2, nu_e2, nu_f2, nu_g2, nu_h2, nu_a3, nu_b3, nu_c3, nu_d3, nu_e3, nu_f3, nu_g3, nu_h3, nu_a4, nu_b4, nu_c4, nu_d4, nu_e4, nu_f4, nu_g4, nu_h4, nu_a5, nu_b5, nu_c5, nu_d5, nu_e5, nu_f5, nu_g5, nu_h5, nu_a6, nu_b6, nu_c6, nu_d6, nu_e6, nu_f6, nu_g6, nu_h6, nu_a7, nu_b7, nu_c7, nu_d7, nu_e7, nu_f7, nu_g7, nu_h7, nu_a16, nu_b16, nu_c16, nu_d16, nu_e16, nu_f16, nu_g16, nu_h16, nu_neg, nu_pos, nu_01, nu_40, nu_30, nu_20, nu_160, Int32.add_zero, Nat.reduceAdd, nu_m16, nu_16m, nu_m4, nu_4m, nu_m3, nu_3m, nu_m2, nu_2m, nI_1, nu_p2, nu_p3, nu_16p, nu_2p, nI_add, nu_cl, nu_in, Nat.add_zero, nu_l0, nu_l1, nu_l2, nu_l3, nu_l4, nu_i0_5, nu_i1_5, nu_i2_5, nu_i0_3, nu_i1_3, nu_i2_3, nu_n0, nu_n1, nu_na0, nu_na1, forall_eq, true_implies, false_implies, implies_true, not_true_eq_false, not_false_eq_true, and_true, true_and, and_self, true_or, or_true, false_or, or_false, false_and, and_false, eq_self]
          exact hp
      · obtain ⟨r, n', cc', ct', lk', wt', wc', ch', st', en', sn', bk', sk', sr', lf', cr', th', ro', nw', bf', ve', yl', la', od', sm', R', P', hn', hX, hY⟩ := fl_S (nI n) (nI m) cc rq ct sk sr fr lf cr rr yl la od sm hs R
        by_cases r0 : r = 0
        · subst r0
          obtain ⟨m2, fr2, st2, en2, sn2, nw2, bf2, ve2, hm2, R2, hX2, hY2⟩ := fi_L (v := v3) (w := w) (nI n') cc' rq (upd ct' 0 (ct' 0 + 1)) sk' sr' lf' cr' rr yl' la' od' sm' hs (by omega) 16 0 rfl 0 fr st' en' sn' nw' bf' ve' (Nat.le_refl 0) R'
          refine ⟨nI m2, (nI n', nI m2, cc', rq, md, bk', upd ct' 0 (ct' 0 + 1), rt, rc, lk', wt', wc', ch', st2, en2, sn2, sk', sr', fr2, lf', cr', rr), (nI n', nI m2, th', ch', ro', lk', st2, nw2, bf2, ve2, bk', md, yl', la', od', sm', fr2, upd ct' 0 (ct' 0 + 1)), ir_mk hn' hm2 R2 P', fun post hp => ?_, fun post hp => ?_⟩
          · simp (disch := omega) only [wpX_find, vx_ser, h, nu_a1, nu_b1, nu_c1, nu_d1, nu_e1, nu_f1, nu_g1, nu_h1, nu_a2, nu_b2, nu_c2, nu_d2, nu_e2, nu_f2, nu_g2, nu_h2, nu_a3, nu_b3, nu_c3, nu_d3, nu_e3, nu_f3, nu_g3, nu_h3, nu_a4, nu_b4, nu_c4, nu_d4, nu_e4, nu_f4, nu_g4, nu_h4, nu_a5, nu_b5, nu_c5, nu_d5, nu_e5, nu_f5, nu_g5, nu_h5, nu_a6, nu_b6, nu_c6, nu_d6, nu_e6, nu_f6, nu_g6, nu_h6, nu_a7, nu_b7, nu_c7, nu_d7, nu_e7, nu_f7, nu_g7, nu_h7, nu_a16, nu_b16, nu_c16, nu_d16, nu_e16, nu_f16, nu_g16, nu_h16, nu_neg, nu_pos, forall_eq, true_implies, false_implies, implies_true, not_true_eq_false, not_false_eq_true, and_true, true_and, and_self, true_or, or_true, false_or, or_false, false_and, and_false, eq_self]
            refine hX _ ?_
            simp only [forall_eq, true_implies, false_implies, implies_true, not_true_eq_false, not_false_eq_true, and_true, true_and, and_self, true_or, or_true, false_or, or_false, false_and, and_false, eq_self]
            exact ⟨17, hX2 _ 17 (by decide) hp⟩
          · simp (disch := omega) only [wpY_find, wpY_in, vy_err, h, nu_k10, nu_a1, nu_b1, nu_c1, nu_d1, nu_e1, nu_f1, nu_g1, nu_h1, nu_a2, nu_b2, nu_c2, nu_d2, nu_e2, nu_f2, nu_g2, nu_h2, nu_a3, nu_b3, nu_c3, nu_d3, nu_e3, nu_f3, nu_g3, nu_h3, nu_a4, nu_b4, nu_c4, nu_d4, nu_e4, nu_f4, nu_g4, nu_h4, nu_a5, nu_b5, nu_c5, nu_d5, nu_e5, nu_f5, nu_g5, nu_h5, nu_a6, nu_b6, nu_c6, nu_d6, nu_e6, nu_f6, nu_g6, nu_h6, nu_a7, nu_b7, nu_c7, nu_d7, nu_e7, nu_f7, nu_g7, nu_h7, nu_a16, nu_b16, nu_c16, nu_d16, nu_e16, nu_f16, nu_g16, nu_h16, nu_neg, nu_pos, forall_eq, true_implies, false_implies, implies_true, not_true_eq_false, not_false_eq_true, and_true, true_and, and_self, true_or, or_true, false_or, or_false, false_and, and_false, eq_self]
            refine hY _ ?_
            simp only [forall_eq, true_implies, false_implies, implies_true, not_true_eq_false, not_false_eq_true, and_true, true_and, and_self, true_or, or_true, false_or, or_false, false_and, and_false, eq_self]
            exact ⟨17, hY2 _ 17 (by decide) hp⟩
        · refine ⟨r, (nI n', nI m, cc', rq, md, bk', ct', rt, rc, lk', wt', wc', ch', st', en', sn', sk', sr', fr, lf', cr', rr), (nI n', nI m, th', ch', ro', lk', st', nw', bf', ve', bk', md, yl', la', od', sm', fr, ct'), ir_mk hn' hm R' P', fun post hp => ?_, fun post hp => ?_⟩
          · simp (disch := omega) only [wpX_find, vx_ser, h, nu_a1, nu_b1, nu_c1, nu_d1, nu_e1, nu_f1, nu_g1, nu_h1, nu_a2, nu_b2, nu_c2, nu_d2, nu_e2, nu_f2, nu_g2, nu_h2, nu_a3, nu_b3, nu_c3, nu_d3, nu_e3, nu_f3, nu_g3, nu_h3, nu_a4, nu_b4, nu_c4, nu_d4, nu_e4, nu_f4, nu_g4, nu_h4, nu_a5, nu_b5, nu_c5, nu_d5, nu_e5, nu_f5, nu_g5, nu_h5, nu_a6, nu_b6, nu_c6, nu_d6, nu_e6, nu_f6, nu_g6, nu_h6, nu_a7, nu_b7, nu_c7, nu_d7, nu_e7, nu_f7, nu_g7, nu_h7, nu_a16, nu_b16, nu_c16, nu_d16, nu_e16, nu_f16, nu_g16, nu_h16, nu_neg, nu_pos, forall_eq, true_implies, false_implies, implies_true, not_true_eq_false, not_false_eq_true, and_true, true_and, and_self, true_or, or_true, false_or, or_false, false_and, and_false, eq_self]
            refine hX _ ?_
            simp only [r0, forall_eq, true_implies, false_implies, implies_true, not_true_eq_false, not_false_eq_true, and_true, true_and, and_self, true_or, or_true, false_or, or_false, false_and, and_false, eq_self]
            exact hp
          · simp (disch := omega) only [wpY_find, wpY_in, vy_err, h, nu_k10, nu_a1, nu_b1, nu_c1, nu_d1, nu_e1, nu_f1, nu_g1, nu_h1, nu_a2, nu_b2, nu_c2, nu_d2, nu_e2, nu_f2, nu_g2, nu_h2, nu_a3, nu_b3, nu_c3, nu_d3, nu_e3, nu_f3, nu_g3, nu_h3, nu_a4, nu_b4, nu_c4, nu_d4, nu_e4, nu_f4, nu_g4, nu_h4, nu_a5, nu_b5, nu_c5, nu_d5, nu_e5, nu_f5, nu_g5, nu_h5, nu_a6, nu_b6, nu_c6, nu_d6, nu_e6, nu_f6, nu_g6, nu_h6, nu_a7, nu_b7, nu_c7, nu_d7, nu_e7, nu_f7, nu_g7, nu_h7, nu_a16, nu_b16, nu_c16, nu_d16, nu_e16, nu_f16, nu_g16, nu_h16, nu_neg, nu_pos, forall_eq, true_implies, false_implies, implies_true, not_true_eq_false, not_false_eq_true, and_true, true_and, and_self, true_or, or_true, false_or, or_false, false_and, and_false, eq_self]
            refine hY _ ?_
            simp only [r0, forall_eq, true_implies, false_implies, implies_true, not_true_eq_false, not_false_eq_true, and_true, true_and, and_self, true_or, or_true, false_or, or_false, false_and, and_false, eq_self]
            exact hp
  · refine ⟨(er_v bk v1 0), (nI n, nI m, cc, rq, md, bk, ct, rt, rc, lk, wt, wc, ch, st, en, sn, sk, sr, fr, lf, cr, rr), (nI n, nI m, th, ch, ro, lk, st, nw, bf, ve, bk, md, yl, la, od, sm, fr, ct), ir_mk hn hm (R) hP, fun post hp => ?_, fun post hp => ?_⟩
    · simp (disch := omega) only [wpX_find, vx_ser, h, nu_01, nu_40, nu_30, nu_20, nu_160, Int32.add_zero, Nat.reduceAdd, nu_m16, nu_16m, nu_m4, nu_4m, nu_m3, nu_3m, nu_m2, nu_2m, nI_1, nu_p2, nu_p3, nu_16p, nu_2p, nI_add, nu_cl, nu_in, Nat.add_zero, nu_l0, nu_l1, nu_l2, nu_l3, nu_l4, nu_i0_5, nu_i1_5, nu_i2_5, nu_i0_3, nu_i1_3, nu_i2_3, nu_n0, nu_n1, nu_na0, nu_na1, forall_eq, true_implies, false_implies, implies_true, not_true_eq_false, not_false_eq_true, and_true, true_and, and_self, true_or, or_true, false_or, or_false, false_and, and_false, eq_self]
      exact hp
    · simp (disch := omega) only [wpY_find, vy_err, h, nu_01, nu_40, nu_30, nu_20, nu_160, Int32.add_zero, Nat.reduceAdd, nu_m16, nu_16m, nu_m4, nu_4m, nu_m3, nu_3m, nu_m2, nu_2m, nI_1, nu_p2, nu_p3, nu_16p, nu_2p, nI_add, nu_cl, nu_in, Nat.add_zero, nu_l0, nu_l1, nu_l2, nu_l3, nu_l4, nu_i0_5, nu_i1_5, nu_i2_5, nu_i0_3, nu_i1_3, nu_i2_3, nu_n0, nu_n1, nu_na0, nu_na1, forall_eq, true_implies, false_implies, implies_true, not_true_eq_false, not_false_eq_true, and_true, true_and, and_self, true_or, or_true, false_or, or_false, false_and, and_false, eq_self]
      exact hp
end
section
/-- the target by which an entity or a row is removed -/
def dn_T (st en rt wt rc wc lk : Nat → Int32) (s k x : Nat) : Prop := ((st (16 * s + k) = 2 ∨ st (16 * s + k) = 4) ∧ en (4 * (16 * s + k) + 2) = nI x) ∨ ((st (16 * s + k) = 0 ∨ st (16 * s + k) = 3) ∧ ¬ si_t rt wt lk s k = 0 ∧ si_c rc wc lk s k 2 = nI x)
def dn_Q (st : Nat → Int32) (s key : Nat) (D : Nat → Prop) (k : Nat) : Prop := k = key ∨ (¬ st (16 * s + k) = 2 ∧ D k)
def dn_L (Q : Nat → Prop) (c : Nat) (rr : Nat → Int32) : Prop := c = cn_n Q 16 ∧ (∀ j, j < c → ∃ k, k < 16 ∧ rr j = nI k ∧ Q k) ∧ (∀ k, k < 16 → Q k → ∃ j, j < c ∧ rr j = nI k)
theorem dn_Le {Q Q' : Nat → Prop} {c : Nat} {rr : Nat → Int32} (h : ∀ k, k < 16 → (Q k ↔ Q' k)) (a : dn_L Q c rr) : dn_L Q' c rr := by
  refine ⟨by rw [a.1]; exact cn_eq h, fun j hj => ?_, fun k hk q => a.2.2 k hk ((h k hk).mpr q)⟩
  obtain ⟨k, hk, e, q⟩ := a.2.1 j hj
  exact ⟨k, hk, e, (h k hk).mp q⟩
theorem dn_La {Q Q' : Nat → Prop} {c i : Nat} {rr : Nat → Int32} (hi : i < 16) (hn : ¬ Q i) (h : ∀ k, k < 16 → (Q' k ↔ Q k ∨ k = i)) (a : dn_L Q c rr) : dn_L Q' (c + 1) (upd rr c (nI i)) ∧ c < 16 := by
  have hc : c + 1 = cn_n Q' 16 := by
    rw [a.1]
    exact (cn_in hi hn h).symm
  have h16 := cn_le Q' 16
  refine ⟨⟨hc, fun j hj => ?_, fun k hk q => ?_⟩, by omega⟩
  · by_cases e : j = c
    · rw [e, pk_us]
      exact ⟨i, hi, rfl, (h i hi).mpr (Or.inr rfl)⟩
    · obtain ⟨k, hk, e', q⟩ := a.2.1 j (by omega)
      rw [pk_un e]
      exact ⟨k, hk, e', (h k hk).mpr (Or.inl q)⟩
  · rcases (h k hk).mp q with q | q
    · obtain ⟨j, hj, e⟩ := a.2.2 k hk q
      exact ⟨j, by omega, by rw [pk_un (by omega)]; exact e⟩
    · exact ⟨c, by omega, by rw [pk_us, q]⟩
theorem dn_Qm {st : Nat → Int32} {s key i : Nat} {D E : Nat → Prop} (hE : ∀ j, j < 16 → (E j ↔ D j ∨ j = i)) (h2 : ¬ st (16 * s + i) = 2) (k : Nat) (hk : k < 16) : dn_Q st s key E k ↔ dn_Q st s key D k ∨ k = i := by
  unfold dn_Q
  constructor
  · rintro (q | ⟨q1, q2⟩)
    · exact Or.inl (Or.inl q)
    · rcases (hE k hk).mp q2 with z | z
      · exact Or.inl (Or.inr ⟨q1, z⟩)
      · exact Or.inr z
  · rintro ((q | ⟨q1, q2⟩) | q)
    · exact Or.inl q
    · exact Or.inr ⟨q1, (hE k hk).mpr (Or.inl q2)⟩
    · subst q
      exact Or.inr ⟨h2, (hE k hk).mpr (Or.inr rfl)⟩
theorem dn_Qk {st : Nat → Int32} {s key i : Nat} {D E : Nat → Prop} (hE : ∀ j, j < 16 → (E j ↔ D j ∨ j = i)) (h2 : st (16 * s + i) = 2) (k : Nat) (hk : k < 16) : dn_Q st s key D k ↔ dn_Q st s key E k := by
  unfold dn_Q
  constructor
  · rintro (q | ⟨q1, q2⟩)
    · exact Or.inl q
    · exact Or.inr ⟨q1, (hE k hk).mpr (Or.inl q2)⟩
  · rintro (q | ⟨q1, q2⟩)
    · exact Or.inl q
    · rcases (hE k hk).mp q2 with z | z
      · exact Or.inr ⟨q1, z⟩
      · subst z
        exact absurd h2 q1
theorem dn_Qe {st : Nat → Int32} {s key : Nat} {D E : Nat → Prop} (h : ∀ j, j < 16 → (D j ↔ E j)) (k : Nat) (hk : k < 16) : dn_Q st s key D k ↔ dn_Q st s key E k := by
  unfold dn_Q
  rw [h k hk]
section
variable {sc fc cc : Int32} {md bk ct rt rc lk wt wc ch st en sn sk sr fr lf cr rr th ro : Nat → Int32}
/-- the steps of the component's loop over the rows -/
theorem dx_p {post : SX → Prop} {s t i n : Nat} {rq : Int32} (hs : s < 3) (hi : i < 16) (hT : re_T rt wt th) (hB : re_B th)
    (h : (¬ st (16 * s + i) = 0 ∧ ¬ st (16 * s + i) = 3) ∨ ¬ (¬ si_t rt wt lk s i = 0 ∧ si_c rc wc lk s i 2 = nI t))
    (hp : wX_removeLinking_34 post (wX_removeLinking_2 post (nI s) (nI t) n) (nI s) (nI t) (nI i) sc fc cc rq md bk ct rt rc lk wt wc ch st en sn sk sr fr lf cr rr) : wX_removeLinking_2 post (nI s) (nI t) (n + 1) (nI i) sc fc cc rq md bk ct rt rc lk wt wc ch st en sn sk sr fr lf cr rr := by
  by_cases z1 : si_t rt wt lk s i = 0
  · simp (disch := omega) only [wX_removeLinking_2, nu_b16, vx_see hi hT hB, z1, forall_eq, true_implies, false_implies, implies_true, not_true_eq_false, not_false_eq_true, and_true, true_and, and_self, true_or, or_true, false_or, or_false, false_and, and_false, eq_self]
    exact hp
  · by_cases z2 : si_c rc wc lk s i 2 = nI t
    · have h' : ¬ st (16 * s + i) = 0 ∧ ¬ st (16 * s + i) = 3 := by
        rcases h with h | h
        · exact h
        · exact absurd ⟨z1, z2⟩ h
      have u0 := h'.1
      have u3 := h'.2
      simp (disch := omega) only [wX_removeLinking_2, wpX_manageIfUnloaded, nu_b16, vx_see hi hT hB, vx_sc2 hi, z1, z2, u0, u3, nu_01, nu_40, nu_30, nu_20, nu_160, Int32.add_zero, Nat.reduceAdd, nu_m16, nu_16m, nu_m4, nu_4m, nu_m3, nu_3m, nu_m2, nu_2m, nI_1, nu_p2, nu_p3, nu_16p, nu_2p, nI_add, nu_cl, nu_in, Nat.add_zero, nu_l0, nu_l1, nu_l2, nu_l3, nu_l4, nu_i0_5, nu_i1_5, nu_i2_5, nu_i0_3, nu_i1_3, nu_i2_3, nu_n0, nu_n1, nu_na0, nu_na1, forall_eq, true_implies, false_implies, implies_true, not_true_eq_false, not_false_eq_true, and_true, true_and, and_self, true_or, or_true, false_or, or_false, false_and, and_false, eq_self]
      exact hp
    · simp (disch := omega) only [wX_removeLinking_2, nu_b16, vx_see hi hT hB, vx_sc2 hi, z1, z2, nu_01, nu_40, nu_30, nu_20, nu_160, Int32.add_zero, Nat.reduceAdd, nu_m16, nu_16m, nu_m4, nu_4m, nu_m3, nu_3m, nu_m2, nu_2m, nI_1, nu_p2, nu_p3, nu_16p, nu_2p, nI_add, nu_cl, nu_in, Nat.add_zero, nu_l0, nu_l1, nu_l2, nu_l3, nu_l4, nu_i0_5, nu_i1_5, nu_i2_5, nu_i0_3, nu_i1_3, nu_i2_3, nu_n0, nu_n1, nu_na0, nu_na1, forall_eq, true_implies, false_implies, implies_true, not_true_eq_false, not_false_eq_true, and_true, true_and, and_self, true_or, or_true, false_or, or_false, false_and, and_false, eq_self]
      exact hp
theorem dx_q {post : SX → Prop} {s t i n : Nat} {rq : Int32} (hs : s < 3) (hi : i < 16) (hT : re_T rt wt th) (hB : re_B th) (h : st (16 * s + i) = 0 ∨ st (16 * s + i) = 3) (z1 : ¬ si_t rt wt lk s i = 0) (z2 : si_c rc wc lk s i 2 = nI t)
    (hp : wX_removeLinking_34 post (wX_removeLinking_2 post (nI s) (nI t) n) (nI s) (nI t) (nI i) sc fc cc rq md bk ct rt rc lk wt wc ch (upd st (16 * s + i) 4) (u4_f en (4 * (16 * s + i)) (si_c rc wc lk s i 0) (si_c rc wc lk s i 1) (si_c rc wc lk s i 2) (si_c rc wc lk s i 3)) (u4_f sn (4 * (16 * s + i)) (si_c rc wc lk s i 0) (si_c rc wc lk s i 1) (si_c rc wc lk s i 2) (si_c rc wc lk s i 3)) sk sr fr lf cr rr) : wX_removeLinking_2 post (nI s) (nI t) (n + 1) (nI i) sc fc cc rq md bk ct rt rc lk wt wc ch st en sn sk sr fr lf cr rr := by
  rcases h with u | u
  · simp (disch := omega) only [wX_removeLinking_2, wpX_manageIfUnloaded, wX_manageIfUnloaded_21, nu_b16, vx_see hi hT hB, vx_sc2 hi, z1, z2, u, nu_01, nu_40, nu_30, nu_20, nu_160, Int32.add_zero, Nat.reduceAdd, nu_m16, nu_16m, nu_m4, nu_4m, nu_m3, nu_3m, nu_m2, nu_2m, nI_1, nu_p2, nu_p3, nu_16p, nu_2p, nI_add, nu_cl, nu_in, Nat.add_zero, nu_l0, nu_l1, nu_l2, nu_l3, nu_l4, nu_i0_5, nu_i1_5, nu_i2_5, nu_i0_3, nu_i1_3, nu_i2_3, nu_n0, nu_n1, nu_na0, nu_na1, forall_eq, true_implies, false_implies, implies_true, not_true_eq_false, not_false_eq_true, and_true, true_and, and_self, true_or, or_true, false_or, or_false, false_and, and_false, eq_self]
    exact vx_mg hs hi hp
  · simp (disch := omega) only [wX_removeLinking_2, wpX_manageIfUnloaded, wX_manageIfUnloaded_21, nu_b16, nu_k30, vx_see hi hT hB, vx_sc2 hi, z1, z2, u, nu_01, nu_40, nu_30, nu_20, nu_160, Int32.add_zero, Nat.reduceAdd, nu_m16, nu_16m, nu_m4, nu_4m, nu_m3, nu_3m, nu_m2, nu_2m, nI_1, nu_p2, nu_p3, nu_16p, nu_2p, nI_add, nu_cl, nu_in, Nat.add_zero, nu_l0, nu_l1, nu_l2, nu_l3, nu_l4, nu_i0_5, nu_i1_5, nu_i2_5, nu_i0_3, nu_i1_3, nu_i2_3, nu_n0, nu_n1, nu_na0, nu_na1, forall_eq, true_implies, false_implies, implies_true, not_true_eq_false, not_false_eq_true, and_true, true_and, and_self, true_or, or_true, false_or, or_false, false_and, and_false, eq_self]
    exact vx_mg hs hi hp
theorem dx_34n {post : SX → Prop} {J : Int32 → Int32 → Int32 → Int32 → Int32 → (Nat → Int32) → (Nat → Int32) → (Nat → Int32) → (Nat → Int32) → (Nat → Int32) → (Nat → Int32) → (Nat → Int32) → (Nat → Int32) → (Nat → Int32) → (Nat → Int32) → (Nat → Int32) → (Nat → Int32) → (Nat → Int32) → (Nat → Int32) → (Nat → Int32) → (Nat → Int32) → (Nat → Int32) → (Nat → Int32) → Prop} {s t i : Nat} {rq : Int32} (hs : s < 3) (hi : i < 16)
    (h : (¬ st (16 * s + i) = 4 ∧ ¬ st (16 * s + i) = 2) ∨ ¬ en (4 * (16 * s + i) + 2) = nI t) (hp : J (nI (i + 1)) sc fc cc rq md bk ct rt rc lk wt wc ch st en sn sk sr fr lf cr rr) : wX_removeLinking_34 post J (nI s) (nI t) (nI i) sc fc cc rq md bk ct rt rc lk wt wc ch st en sn sk sr fr lf cr rr := by
  by_cases e : en (4 * (16 * s + i) + 2) = nI t
  · have h' : ¬ st (16 * s + i) = 4 ∧ ¬ st (16 * s + i) = 2 := by
      rcases h with h | h
      · exact h
      · exact absurd e h
    have u4 := h'.1
    have u2 := h'.2
    simp (disch := omega) only [wX_removeLinking_34, wX_removeLinking_62, wX_removeLinking_89, nu_k10, e, u4, u2, nu_01, nu_40, nu_30, nu_20, nu_160, Int32.add_zero, Nat.reduceAdd, nu_m16, nu_16m, nu_m4, nu_4m, nu_m3, nu_3m, nu_m2, nu_2m, nI_1, nu_p2, nu_p3, nu_16p, nu_2p, nI_add, nu_cl, nu_in, Nat.add_zero, nu_l0, nu_l1, nu_l2, nu_l3, nu_l4, nu_i0_5, nu_i1_5, nu_i2_5, nu_i0_3, nu_i1_3, nu_i2_3, nu_n0, nu_n1, nu_na0, nu_na1, forall_eq, true_implies, false_implies, implies_true, not_true_eq_false, not_false_eq_true, and_true, true_and, and_self, true_or, or_true, false_or, or_false, false_and, and_false, eq_self]
    exact hp
  · simp (disch := omega) only [wX_removeLinking_34, wX_removeLinking_62, wX_removeLinking_89, e, nu_01, nu_40, nu_30, nu_20, nu_160, Int32.add_zero, Nat.reduceAdd, nu_m16, nu_16m, nu_m4, nu_4m, nu_m3, nu_3m, nu_m2, nu_2m, nI_1, nu_p2, nu_p3, nu_16p, nu_2p, nI_add, nu_cl, nu_in, Nat.add_zero, nu_l0, nu_l1, nu_l2, nu_l3, nu_l4, nu_i0_5, nu_i1_5, nu_i2_5, nu_i0_3, nu_i1_3, nu_i2_3, nu_n0, nu_n1, nu_na0, nu_na1, forall_eq, true_implies, false_implies, implies_true, not_true_eq_false, not_false_eq_true, and_true, true_and, and_self, true_or, or_true, false_or, or_false, false_and, and_false, eq_self]
    exact hp
theorem dx_342 {post : SX → Prop} {J : Int32 → Int32 → Int32 → Int32 → Int32 → (Nat → Int32) → (Nat → Int32) → (Nat → Int32) → (Nat → Int32) → (Nat → Int32) → (Nat → Int32) → (Nat → Int32) → (Nat → Int32) → (Nat → Int32) → (Nat → Int32) → (Nat → Int32) → (Nat → Int32) → (Nat → Int32) → (Nat → Int32) → (Nat → Int32) → (Nat → Int32) → (Nat → Int32) → (Nat → Int32) → Prop} {s t i : Nat} {rq : Int32} (hs : s < 3) (hi : i < 16)
    (e : en (4 * (16 * s + i) + 2) = nI t) (u : st (16 * s + i) = 2) (hp : J (nI (i + 1)) sc fc cc rq md bk ct rt rc lk wt wc ch (upd st (16 * s + i) 1) en sn sk sr fr lf cr rr) : wX_removeLinking_34 post J (nI s) (nI t) (nI i) sc fc cc rq md bk ct rt rc lk wt wc ch st en sn sk sr fr lf cr rr := by
  simp (disch := omega) only [wX_removeLinking_34, wX_removeLinking_62, wX_removeLinking_89, nu_k10, nu_k24, e, u, nu_01, nu_40, nu_30, nu_20, nu_160, Int32.add_zero, Nat.reduceAdd, nu_m16, nu_16m, nu_m4, nu_4m, nu_m3, nu_3m, nu_m2, nu_2m, nI_1, nu_p2, nu_p3, nu_16p, nu_2p, nI_add, nu_cl, nu_in, Nat.add_zero, nu_l0, nu_l1, nu_l2, nu_l3, nu_l4, nu_i0_5, nu_i1_5, nu_i2_5, nu_i0_3, nu_i1_3, nu_i2_3, nu_n0, nu_n1, nu_na0, nu_na1, forall_eq, true_implies, false_implies, implies_true, not_true_eq_false, not_false_eq_true, and_true, true_and, and_self, true_or, or_true, false_or, or_false, false_and, and_false, eq_self]
  exact hp
theorem dx_344 {post : SX → Prop} {J : Int32 → Int32 → Int32 → Int32 → Int32 → (Nat → Int32) → (Nat → Int32) → (Nat → Int32) → (Nat → Int32) → (Nat → Int32) → (Nat → Int32) → (Nat → Int32) → (Nat → Int32) → (Nat → Int32) → (Nat → Int32) → (Nat → Int32) → (Nat → Int32) → (Nat → Int32) → (Nat → Int32) → (Nat → Int32) → (Nat → Int32) → (Nat → Int32) → (Nat → Int32) → Prop} {s t i c : Nat} (hs : s < 3) (hi : i < 16) (hc : c < 16)
    (e : en (4 * (16 * s + i) + 2) = nI t) (u : st (16 * s + i) = 4) (hp : J (nI (i + 1)) sc fc cc (nI (c + 1)) md bk ct rt rc lk wt wc ch (upd st (16 * s + i) 5) en sn sk sr fr lf cr (upd rr c (nI i))) : wX_removeLinking_34 post J (nI s) (nI t) (nI i) sc fc cc (nI c) md bk ct rt rc lk wt wc ch st en sn sk sr fr lf cr rr := by
  simp (disch := omega) only [wX_removeLinking_34, wX_removeLinking_62, wpX_addRemoved, nu_k10, nu_b16, e, u, nu_01, nu_40, nu_30, nu_20, nu_160, Int32.add_zero, Nat.reduceAdd, nu_m16, nu_16m, nu_m4, nu_4m, nu_m3, nu_3m, nu_m2, nu_2m, nI_1, nu_p2, nu_p3, nu_16p, nu_2p, nI_add, nu_cl, nu_in, Nat.add_zero, nu_l0, nu_l1, nu_l2, nu_l3, nu_l4, nu_i0_5, nu_i1_5, nu_i2_5, nu_i0_3, nu_i1_3, nu_i2_3, nu_n0, nu_n1, nu_na0, nu_na1, forall_eq, true_implies, false_implies, implies_true, not_true_eq_false, not_false_eq_true, and_true, true_and, and_self, true_or, or_true, false_or, or_false, false_and, and_false, eq_self]
  exact hp
/-- one row of the component's loop -/
theorem dx_1 {s t i c key : Nat} {D : Nat → Prop} (hs : s < 3) (hi : i < 16) (hT : re_T rt wt th) (hB : re_B th) (hK : re_K st) (hkey : st (16 * s + key) = 5)
    (hD : ∀ k, k < 16 → D k → ¬ st (16 * s + k) = 1 ∧ ¬ st (16 * s + k) = 5) (hL : dn_L (dn_Q st s key D) c rr) :
    ∃ (c' : Nat) (rr' : Nat → Int32) (E : Nat → Prop), (∀ k, k < 16 → (E k ↔ D k ∨ (k = i ∧ dn_T st en rt wt rc wc lk s k t))) ∧ dn_L (dn_Q st s key E) c' rr' ∧ (∀ j, j < c → rr' j = rr j) ∧ c ≤ c' ∧
      (∀ (post : SX → Prop) n, wX_removeLinking_2 post (nI s) (nI t) n (nI (i + 1)) sc fc cc (nI c') md bk ct rt rc lk wt wc ch (rm_st s E st) (rm_en s E st (si_c rc wc lk s) en) (rm_en s E st (si_c rc wc lk s) sn) sk sr fr lf cr rr' → wX_removeLinking_2 post (nI s) (nI t) (n + 1) (nI i) sc fc cc (nI c) md bk ct rt rc lk wt wc ch (rm_st s D st) (rm_en s D st (si_c rc wc lk s) en) (rm_en s D st (si_c rc wc lk s) sn) sk sr fr lf cr rr) := by
  by_cases d : D i
  · have e1 : rm_st s D st (16 * s + i) = if st (16 * s + i) = 2 then 1 else 5 := rm_t ((rm_dk hi).mpr d)
    have n0 : ¬ rm_st s D st (16 * s + i) = 0 ∧ ¬ rm_st s D st (16 * s + i) = 3 ∧ ¬ rm_st s D st (16 * s + i) = 4 ∧ ¬ rm_st s D st (16 * s + i) = 2 := by
      rw [e1]
      split <;> decide
    refine ⟨c, rr, D, fun k hk => ⟨Or.inl, fun q => ?_⟩, hL, fun _ _ => rfl, Nat.le_refl c, fun post n hp => ?_⟩
    · rcases q with q | q
      · exact q
      · rw [q.1]
        exact d
    · refine dx_p hs hi hT hB (Or.inl ⟨n0.1, n0.2.1⟩) ?_
      exact dx_34n hs hi (Or.inl n0.2.2) hp
  · have e1 : rm_st s D st (16 * s + i) = st (16 * s + i) := rm_f (fun q => d ((rm_dk hi).mp q))
    have e2 : rm_en s D st (si_c rc wc lk s) en (4 * (16 * s + i) + 2) = en (4 * (16 * s + i) + 2) := by
      rw [rm_enc (by decide)]
      exact rm_f (fun q => d ((rm_dk hi).mp q.1))
    by_cases T : dn_T st en rt wt rc wc lk s i t
    · have hE : ∀ j, j < 16 → ((fun k => D k ∨ k = i) j ↔ D j ∨ j = i) := fun j _ => Iff.rfl
      have hE' : ∀ k, k < 16 → ((fun k => D k ∨ k = i) k ↔ D k ∨ (k = i ∧ dn_T st en rt wt rc wc lk s k t)) := by
        intro k _
        constructor
        · rintro (q | q)
          · exact Or.inl q
          · exact Or.inr ⟨q, by rw [q]; exact T⟩
        · rintro (q | q)
          · exact Or.inl q
          · exact Or.inr q.1
      rcases T with ⟨u, g⟩ | ⟨u, g1, g2⟩
      · have k0 : ¬ (st (16 * s + i) = 0 ∨ st (16 * s + i) = 3) := by
          rcases u with u | u <;> rw [u] <;> decide
        by_cases u2 : st (16 * s + i) = 2
        · refine ⟨c, rr, fun k => D k ∨ k = i, hE', dn_Le (dn_Qk hE u2) hL, fun _ _ => rfl, Nat.le_refl c, fun post n hp => ?_⟩
          rw [rm_stp hi hE, rm_enk hi hE k0, rm_enk hi hE k0, if_pos u2] at hp
          refine dx_p hs hi hT hB (Or.inl (by rw [e1, u2]; decide)) ?_
          exact dx_342 hs hi (e2.trans g) (e1.trans u2) hp
        · have u4 := u.resolve_left u2
          have hnq : ¬ dn_Q st s key D i := by
            rintro (q | q)
            · rw [← q, u4] at hkey
              exact absurd hkey (by decide)
            · exact d q.2
          obtain ⟨L', hc⟩ := dn_La hi hnq (dn_Qm (key := key) hE u2) hL
          refine ⟨c + 1, upd rr c (nI i), fun k => D k ∨ k = i, hE', L', fun j hj => pk_un (by omega), by omega, fun post n hp => ?_⟩
          rw [rm_stp hi hE, rm_enk hi hE k0, rm_enk hi hE k0, if_neg u2] at hp
          refine dx_p hs hi hT hB (Or.inl (by rw [e1, u4]; decide)) ?_
          exact dx_344 hs hi hc (e2.trans g) (e1.trans u4) hp
      · have u2 : ¬ st (16 * s + i) = 2 := by
          rcases u with u | u <;> rw [u] <;> decide
        have hnq : ¬ dn_Q st s key D i := by
          rintro (q | q)
          · rw [← q] at hkey
            rcases u with u | u <;> rw [u] at hkey <;> exact absurd hkey (by decide)
          · exact d q.2
        obtain ⟨L', hc⟩ := dn_La hi hnq (dn_Qm (key := key) hE u2) hL
        refine ⟨c + 1, upd rr c (nI i), fun k => D k ∨ k = i, hE', L', fun j hj => pk_un (by omega), by omega, fun post n hp => ?_⟩
        rw [rm_stp hi hE, rm_enm hi hE u, rm_enm hi hE u, if_neg u2] at hp
        refine dx_q hs hi hT hB (by rw [e1]; exact u) g1 g2 ?_
        refine dx_344 hs hi hc (u4_2.trans g2) pk_us ?_
        rw [nu_uu]
        exact hp
    · refine ⟨c, rr, D, fun k hk => ⟨Or.inl, fun q => ?_⟩, hL, fun _ _ => rfl, Nat.le_refl c, fun post n hp => ?_⟩
      · rcases q with q | q
        · exact q
        · have := q.2
          rw [q.1] at this
          exact absurd this T
      · rcases hK (16 * s + i) with a | a | a | a | a | a
        · refine dx_p hs hi hT hB (Or.inr (fun q => T (Or.inr ⟨Or.inl a, q.1, q.2⟩))) ?_
          exact dx_34n hs hi (Or.inl (by rw [e1, a]; decide)) hp
        · refine dx_p hs hi hT hB (Or.inl (by rw [e1, a]; decide)) ?_
          exact dx_34n hs hi (Or.inl (by rw [e1, a]; decide)) hp
        · refine dx_p hs hi hT hB (Or.inl (by rw [e1, a]; decide)) ?_
          exact dx_34n hs hi (Or.inr (fun q => T (Or.inl ⟨Or.inl a, e2.symm.trans q⟩))) hp
        · refine dx_p hs hi hT hB (Or.inr (fun q => T (Or.inr ⟨Or.inr a, q.1, q.2⟩))) ?_
          exact dx_34n hs hi (Or.inl (by rw [e1, a]; decide)) hp
        · refine dx_p hs hi hT hB (Or.inl (by rw [e1, a]; decide)) ?_
          exact dx_34n hs hi (Or.inr (fun q => T (Or.inl ⟨Or.inr a, e2.symm.trans q⟩))) hp
        · refine dx_p hs hi hT hB (Or.inl (by rw [e1, a]; decide)) ?_
          exact dx_34n hs hi (Or.inl (by rw [e1, a]; decide)) hp
end
theorem dn_Tk {st en rt wt rc wc lk : Nat → Int32} {s k t : Nat} (h : dn_T st en rt wt rc wc lk s k t) : ¬ st (16 * s + k) = 1 ∧ ¬ st (16 * s + k) = 5 := by
  rcases h with ⟨u | u, _⟩ | ⟨u | u, _⟩ <;> rw [u] <;> decide
section
variable {sc fc cc : Int32} {md bk ct rt rc lk wt wc ch st en sn sk sr fr lf cr th ro : Nat → Int32}
/-- all rows for one target -/
theorem dx_2 {s t key : Nat} (hs : s < 3) (hT : re_T rt wt th) (hB : re_B th) (hK : re_K st) (hkey : st (16 * s + key) = 5) : ∀ (d i : Nat), i + d = 16 → ∀ (D : Nat → Prop) (c : Nat) (rr : Nat → Int32),
    (∀ k, k < 16 → D k → ¬ st (16 * s + k) = 1 ∧ ¬ st (16 * s + k) = 5) → dn_L (dn_Q st s key D) c rr →
    ∃ (c' : Nat) (rr' : Nat → Int32) (E : Nat → Prop), (∀ k, k < 16 → (E k ↔ D k ∨ (i ≤ k ∧ dn_T st en rt wt rc wc lk s k t))) ∧ dn_L (dn_Q st s key E) c' rr' ∧ (∀ j, j < c → rr' j = rr j) ∧ c ≤ c' ∧
      (∀ (post : SX → Prop) n, d < n → post (sc, fc, cc, nI c', md, bk, ct, rt, rc, lk, wt, wc, ch, rm_st s E st, rm_en s E st (si_c rc wc lk s) en, rm_en s E st (si_c rc wc lk s) sn, sk, sr, fr, lf, cr, rr') → wX_removeLinking_2 post (nI s) (nI t) n (nI i) sc fc cc (nI c) md bk ct rt rc lk wt wc ch (rm_st s D st) (rm_en s D st (si_c rc wc lk s) en) (rm_en s D st (si_c rc wc lk s) sn) sk sr fr lf cr rr) := by
  intro d
  induction d with
  | zero =>
    intro i hi D c rr hD hL
    refine ⟨c, rr, D, fun k hk => ⟨Or.inl, fun q => ?_⟩, hL, fun _ _ => rfl, Nat.le_refl c, fun post n hn hp => ?_⟩
    · rcases q with q | q
      · exact q
      · omega
    · obtain ⟨n, rfl⟩ : ∃ n', n = n' + 1 := ⟨n - 1, by omega⟩
      simp (disch := omega) only [wX_removeLinking_2, nu_a16, forall_eq, true_implies, false_implies, implies_true, not_true_eq_false, not_false_eq_true, and_true, true_and, and_self, true_or, or_true, false_or, or_false, false_and, and_false, eq_self]
      exact hp
  | succ d ih =>
    intro i hi D c rr hD hL
    obtain ⟨c1, rr1, E1, hE1, L1, hr1, hc1, hX1⟩ := dx_1 (sc := sc) (fc := fc) (cc := cc) (md := md) (bk := bk) (ct := ct) (rc := rc) (lk := lk) (wc := wc) (ch := ch) (en := en) (sn := sn) (sk := sk) (sr := sr) (fr := fr) (lf := lf) (cr := cr) (t := t) (i := i) hs (by omega) hT hB hK hkey hD hL
    obtain ⟨c2, rr2, E2, hE2, L2, hr2, hc2, hX2⟩ := ih (i + 1) (by omega) E1 c1 rr1 (fun k hk q => by
      rcases (hE1 k hk).mp q with z | z
      · exact hD k hk z
      · exact dn_Tk z.2) L1
    refine ⟨c2, rr2, E2, fun k hk => ?_, L2, fun j hj => (hr2 j (by omega)).trans (hr1 j hj), by omega, fun post n hn hp => ?_⟩
    · rw [hE2 k hk, hE1 k hk]
      constructor
      · rintro ((q | q) | q)
        · exact Or.inl q
        · exact Or.inr ⟨by omega, q.2⟩
        · exact Or.inr ⟨by omega, q.2⟩
      · rintro (q | q)
        · exact Or.inl (Or.inl q)
        · by_cases e : k = i
          · exact Or.inl (Or.inr ⟨e, q.2⟩)
          · exact Or.inr ⟨by omega, q.2⟩
    · obtain ⟨n, rfl⟩ : ∃ n', n = n' + 1 := ⟨n - 1, by omega⟩
      exact hX1 post n (hX2 post n (by omega) hp)
end
end
section
theorem rm_Ie {key : Nat} {tg : Nat → Nat → Prop} {rem P Q Q' : Nat → Prop} (h : ∀ k, k < 16 → (Q k ↔ Q' k)) (a : rm_I key tg rem P Q) : rm_I key tg rem P Q' := by
  refine ⟨fun C hC k hk q => a.1 C hC k hk ((h k hk).mpr q), fun k hk q => (h k hk).mp (a.2.1 k hk q), fun k hk => ?_⟩
  rw [← h k hk]
  exact a.2.2 k hk
/-- the set of those that are changed grows by one target's -/
theorem dn_Qt {st : Nat → Int32} {s key t : Nat} {D E : Nat → Prop} {T : Nat → Prop} (hE : ∀ k, k < 16 → (E k ↔ D k ∨ T k)) (k : Nat) (hk : k < 16) : (dn_Q st s key D k ∨ (¬ st (16 * s + k) = 2 ∧ T k)) ↔ dn_Q st s key E k := by
  unfold dn_Q
  rw [hE k hk]
  constructor
  · rintro ((q | q) | q)
    · exact Or.inl q
    · exact Or.inr ⟨q.1, Or.inl q.2⟩
    · exact Or.inr ⟨q.1, Or.inr q.2⟩
  · rintro (q | ⟨q, z | z⟩)
    · exact Or.inl (Or.inl q)
    · exact Or.inl (Or.inr ⟨q, z⟩)
    · exact Or.inr ⟨q, z⟩
theorem dn_Dt {P : Nat → Prop} {D E : Nat → Prop} {T : Nat → Nat → Prop} {t : Nat} (ht : t < 16) (hD : ∀ k, k < 16 → (D k ↔ ∃ x, x < 16 ∧ P x ∧ T k x)) (hE : ∀ k, k < 16 → (E k ↔ D k ∨ T k t)) : ∀ k, k < 16 → (E k ↔ ∃ x, x < 16 ∧ (P x ∨ x = t) ∧ T k x) := by
  intro k hk
  rw [hE k hk, hD k hk]
  constructor
  · rintro (⟨x, h1, h2, h3⟩ | q)
    · exact ⟨x, h1, Or.inl h2, h3⟩
    · exact ⟨t, ht, Or.inr rfl, q⟩
  · rintro ⟨x, h1, h2 | h2, h3⟩
    · exact Or.inl ⟨x, h1, h2, h3⟩
    · rw [h2] at h3
      exact Or.inr h3
theorem ct_s (ct : Nat → Int32) (p : Nat) : upd (upd ct 0 (ct 0 + nI p)) 0 (upd ct 0 (ct 0 + nI p) 0 + 1) = upd ct 0 (ct 0 + nI (p + 1)) := by
  rw [nu_uu, pk_us, Int32.add_assoc, nI_1]
section
variable {sc fc cc : Int32} {md bk ct rt rc lk wt wc ch st en sn sk sr fr lf cr th ro : Nat → Int32}
theorem dx_3 {s key : Nat} (hs : s < 3) (hT : re_T rt wt th) (hB : re_B th) (hK : re_K st) (hkey : st (16 * s + key) = 5) : ∀ (d p : Nat), p + d = 16 → ∀ (P D : Nat → Prop) (c : Nat) (rr : Nat → Int32),
    (∀ k, k < 16 → (D k ↔ ∃ x, x < 16 ∧ P x ∧ dn_T st en rt wt rc wc lk s k x)) → dn_L (dn_Q st s key D) c rr → p ≤ c → (∀ k, k < 16 → (P k ↔ ∃ j, j < p ∧ rr j = nI k)) →
    rm_I key (dn_T st en rt wt rc wc lk s) (fun k => ¬ st (16 * s + k) = 2) P (dn_Q st s key D) →
    ∃ (P' D' : Nat → Prop) (rq' : Int32) (rr' : Nat → Int32), (∀ k, k < 16 → (D' k ↔ ∃ x, x < 16 ∧ P' x ∧ dn_T st en rt wt rc wc lk s k x)) ∧ rm_I key (dn_T st en rt wt rc wc lk s) (fun k => ¬ st (16 * s + k) = 2) P' (dn_Q st s key D') ∧ (∀ k, k < 16 → dn_Q st s key D' k → P' k) ∧
      (∀ (post : SX → Prop) n, d < n → post (sc, fc, cc, rq', md, bk, upd ct 0 (ct 0 + nI (cn_n P' 16)), rt, rc, lk, wt, wc, ch, rm_st s D' st, rm_en s D' st (si_c rc wc lk s) en, rm_en s D' st (si_c rc wc lk s) sn, sk, sr, fr, lf, cr, rr') → wX_removeManaged_23 post (nI s) n (nI p) sc fc cc (nI c) md bk (upd ct 0 (ct 0 + nI p)) rt rc lk wt wc ch (rm_st s D st) (rm_en s D st (si_c rc wc lk s) en) (rm_en s D st (si_c rc wc lk s) sn) sk sr fr lf cr rr) := by
  have fin : ∀ (p : Nat) (P D : Nat → Prop) (c : Nat) (rr : Nat → Int32), dn_L (dn_Q st s key D) c rr → p = c → (∀ k, k < 16 → (P k ↔ ∃ j, j < p ∧ rr j = nI k)) → rm_I key (dn_T st en rt wt rc wc lk s) (fun k => ¬ st (16 * s + k) = 2) P (dn_Q st s key D) → (∀ k, k < 16 → dn_Q st s key D k → P k) ∧ cn_n P 16 = p := by
    intro p P D c rr hL e hP hI
    have q : ∀ k, k < 16 → dn_Q st s key D k → P k := fun k hk z => (hP k hk).mpr (by rw [e]; exact hL.2.2 k hk z)
    refine ⟨q, ?_⟩
    rw [e, hL.1]
    exact cn_eq fun k hk => ⟨hI.2.1 k hk, q k hk⟩
  intro d
  induction d with
  | zero =>
    intro p hp P D c rr hD hL hpc hP hI
    have hc := cn_le (dn_Q st s key D) 16
    have hc1 := hL.1
    obtain ⟨q, e⟩ := fin p P D c rr hL (by omega) hP hI
    refine ⟨P, D, nI c, rr, hD, hI, q, fun post n hn h => ?_⟩
    rw [e] at h
    obtain ⟨n, rfl⟩ : ∃ n', n = n' + 1 := ⟨n - 1, by omega⟩
    simp (disch := omega) only [wX_removeManaged_23, nu_a16, forall_eq, true_implies, false_implies, implies_true, not_true_eq_false, not_false_eq_true, and_true, true_and, and_self, true_or, or_true, false_or, or_false, false_and, and_false, eq_self]
    exact h
  | succ d ih =>
    intro p hp P D c rr hD hL hpc hP hI
    have hc := cn_le (dn_Q st s key D) 16
    have hc1 := hL.1
    by_cases pc : p = c
    · obtain ⟨q, e⟩ := fin p P D c rr hL pc hP hI
      have z : c ≤ p := by omega
      refine ⟨P, D, nI c, rr, hD, hI, q, fun post n hn h => ?_⟩
      rw [e] at h
      obtain ⟨n, rfl⟩ : ∃ n', n = n' + 1 := ⟨n - 1, by omega⟩
      simp (disch := omega) only [wX_removeManaged_23, nu_b16, nu_le, z, forall_eq, true_implies, false_implies, implies_true, not_true_eq_false, not_false_eq_true, and_true, true_and, and_self, true_or, or_true, false_or, or_false, false_and, and_false, eq_self]
      exact h
    · obtain ⟨t, ht, et, qt⟩ := hL.2.1 p (by omega)
      have hDk : ∀ k, k < 16 → D k → ¬ st (16 * s + k) = 1 ∧ ¬ st (16 * s + k) = 5 := fun k hk q => by
        obtain ⟨x, _, _, z⟩ := (hD k hk).mp q
        exact dn_Tk z
      obtain ⟨c1, rr1, E, hE, L1, hr1, hc1', hX1⟩ := dx_2 (sc := sc) (fc := fc) (cc := cc) (md := md) (bk := bk) (ct := upd ct 0 (ct 0 + nI (p + 1))) (rc := rc) (lk := lk) (wc := wc) (ch := ch) (en := en) (sn := sn) (sk := sk) (sr := sr) (fr := fr) (lf := lf) (cr := cr) (t := t) hs hT hB hK hkey 16 0 rfl D c rr hDk hL
      have hE' : ∀ k, k < 16 → (E k ↔ D k ∨ dn_T st en rt wt rc wc lk s k t) := fun k hk => by
        rw [hE k hk]
        exact ⟨fun q => q.imp id (fun z => z.2), fun q => q.imp id (fun z => ⟨Nat.zero_le k, z⟩)⟩
      obtain ⟨P', D', rq', rr', h1, h2, h3, hX2⟩ := ih (p + 1) (by omega) (fun k => P k ∨ k = t) E c1 rr1 (dn_Dt ht hD hE') L1 (by omega) (fun k hk => by
        rw [hP k hk]
        constructor
        · rintro (⟨j, hj, q⟩ | q)
          · exact ⟨j, by omega, by rw [hr1 j (by omega)]; exact q⟩
          · exact ⟨p, by omega, by rw [hr1 p (by omega), et, q]⟩
        · rintro ⟨j, hj, q⟩
          rw [hr1 j (by omega)] at q
          by_cases e : j = p
          · rw [e, et] at q
            exact Or.inr ((nI_eq (by omega) (by omega)).mp q).symm
          · exact Or.inl ⟨j, by omega, q⟩) (rm_Ie (dn_Qt (t := t) hE') (rm_Is hI ht qt))
      refine ⟨P', D', rq', rr', h1, h2, h3, fun post n hn h => ?_⟩
      obtain ⟨n, rfl⟩ : ∃ n', n = n' + 1 := ⟨n - 1, by omega⟩
      have z : ¬ c ≤ p := by omega
      simp (disch := omega) only [wX_removeManaged_23, wpX_removeLinking, nu_b16, nu_le, z, et, ct_s, nu_01, nu_40, nu_30, nu_20, nu_160, Int32.add_zero, Nat.reduceAdd, nu_m16, nu_16m, nu_m4, nu_4m, nu_m3, nu_3m, nu_m2, nu_2m, nI_1, nu_p2, nu_p3, nu_16p, nu_2p, nI_add, nu_cl, nu_in, Nat.add_zero, nu_l0, nu_l1, nu_l2, nu_l3, nu_l4, nu_i0_5, nu_i1_5, nu_i2_5, nu_i0_3, nu_i1_3, nu_i2_3, nu_n0, nu_n1, nu_na0, nu_na1, forall_eq, true_implies, false_implies, implies_true, not_true_eq_false, not_false_eq_true, and_true, true_and, and_self, true_or, or_true, false_or, or_false, false_and, and_false, eq_self]
      refine ⟨17, hX1 _ 17 (by decide) ?_⟩
      simp (disch := omega) only [nu_01, nu_40, nu_30, nu_20, nu_160, Int32.add_zero, Nat.reduceAdd, nu_m16, nu_16m, nu_m4, nu_4m, nu_m3, nu_3m, nu_m2, nu_2m, nI_1, nu_p2, nu_p3, nu_16p, nu_2p, nI_add, nu_cl, nu_in, Nat.add_zero, nu_l0, nu_l1, nu_l2, nu_l3, nu_l4, nu_i0_5, nu_i1_5, nu_i2_5, nu_i0_3, nu_i1_3, nu_i2_3, nu_n0, nu_n1, nu_na0, nu_na1, forall_eq, true_implies, false_implies, implies_true, not_true_eq_false, not_false_eq_true, and_true, true_and, and_self, true_or, or_true, false_or, or_false, false_and, and_false, eq_self]
      exact hX2 post n (by omega) h
end
section
variable {sc fc : Int32} {md bk ct rt rc lk wt wc ch st en sn fr th ro nw bf ve yl la od sm : Nat → Int32}
theorem dy_p {post : SY → Prop} {s t i n : Nat} (hs : s < 3) (hi : i < 16) (hT : re_T rt wt th) (hC : re_C rc wc ro)
    (h : (¬ st (16 * s + i) = 0 ∧ ¬ st (16 * s + i) = 3) ∨ ¬ (¬ si_t rt wt lk s i = 0 ∧ si_c rc wc lk s i 2 = nI t))
    (hp : wY_spread_76 post (wY_spread_2 post (nI s) (nI t) n) (nI s) (nI t) (nI i) (nI (16 * s + i)) sc fc th ch ro lk st nw bf ve bk md yl la od sm fr ct) : wY_spread_2 post (nI s) (nI t) (n + 1) (nI i) sc fc th ch ro lk st nw bf ve bk md yl la od sm fr ct := by
  have hf := si_lt lk (s := s) hi
  have ht := si_ft (lk := lk) (s := s) hT hi
  have hc := si_fc (lk := lk) (s := s) (c := 2) hC hi (by decide)
  by_cases u : ¬ st (16 * s + i) = 0 ∧ ¬ st (16 * s + i) = 3
  · have u0 := u.1
    have u3 := u.2
    simp (disch := omega) only [wY_spread_2, nu_b16, vy_see hi, u0, u3, nu_01, nu_40, nu_30, nu_20, nu_160, Int32.add_zero, Nat.reduceAdd, nu_m16, nu_16m, nu_m4, nu_4m, nu_m3, nu_3m, nu_m2, nu_2m, nI_1, nu_p2, nu_p3, nu_16p, nu_2p, nI_add, nu_cl, nu_in, Nat.add_zero, nu_l0, nu_l1, nu_l2, nu_l3, nu_l4, nu_i0_5, nu_i1_5, nu_i2_5, nu_i0_3, nu_i1_3, nu_i2_3, nu_n0, nu_n1, nu_na0, nu_na1, forall_eq, true_implies, false_implies, implies_true, not_true_eq_false, not_false_eq_true, and_true, true_and, and_self, true_or, or_true, false_or, or_false, false_and, and_false, eq_self]
    exact hp
  · have h' := h.resolve_left u
    have hp' : wY_spread_45 post (wY_spread_2 post (nI s) (nI t) n) (nI s) (nI t) (nI i) (nI (16 * s + i)) (nI (si_f lk s i)) sc fc th ch ro lk st nw bf ve bk md yl la od sm fr ct := by
      by_cases z1 : si_t rt wt lk s i = 0
      · rw [z1] at ht
        simp (disch := omega) only [wY_spread_45, ht, nu_01, nu_40, nu_30, nu_20, nu_160, Int32.add_zero, Nat.reduceAdd, nu_m16, nu_16m, nu_m4, nu_4m, nu_m3, nu_3m, nu_m2, nu_2m, nI_1, nu_p2, nu_p3, nu_16p, nu_2p, nI_add, nu_cl, nu_in, Nat.add_zero, nu_l0, nu_l1, nu_l2, nu_l3, nu_l4, nu_i0_5, nu_i1_5, nu_i2_5, nu_i0_3, nu_i1_3, nu_i2_3, nu_n0, nu_n1, nu_na0, nu_na1, forall_eq, true_implies, false_implies, implies_true, not_true_eq_false, not_false_eq_true, and_true, true_and, and_self, true_or, or_true, false_or, or_false, false_and, and_false, eq_self]
        exact hp
      · have ht' : ¬ th (si_f lk s i) = 0 := by
          rw [ht]
          exact z1
        have hc' : ¬ ro (4 * si_f lk s i + 2) = nI t := fun q => h' ⟨z1, by rw [← hc]; exact q⟩
        simp (disch := omega) only [wY_spread_45, ht', hc', nu_01, nu_40, nu_30, nu_20, nu_160, Int32.add_zero, Nat.reduceAdd, nu_m16, nu_16m, nu_m4, nu_4m, nu_m3, nu_3m, nu_m2, nu_2m, nI_1, nu_p2, nu_p3, nu_16p, nu_2p, nI_add, nu_cl, nu_in, Nat.add_zero, nu_l0, nu_l1, nu_l2, nu_l3, nu_l4, nu_i0_5, nu_i1_5, nu_i2_5, nu_i0_3, nu_i1_3, nu_i2_3, nu_n0, nu_n1, nu_na0, nu_na1, forall_eq, true_implies, false_implies, implies_true, not_true_eq_false, not_false_eq_true, and_true, true_and, and_self, true_or, or_true, false_or, or_false, false_and, and_false, eq_self]
        exact hp
    by_cases u0 : st (16 * s + i) = 0
    · simp (disch := omega) only [wY_spread_2, nu_b16, vy_see hi, u0, nu_01, nu_40, nu_30, nu_20, nu_160, Int32.add_zero, Nat.reduceAdd, nu_m16, nu_16m, nu_m4, nu_4m, nu_m3, nu_3m, nu_m2, nu_2m, nI_1, nu_p2, nu_p3, nu_16p, nu_2p, nI_add, nu_cl, nu_in, Nat.add_zero, nu_l0, nu_l1, nu_l2, nu_l3, nu_l4, nu_i0_5, nu_i1_5, nu_i2_5, nu_i0_3, nu_i1_3, nu_i2_3, nu_n0, nu_n1, nu_na0, nu_na1, forall_eq, true_implies, false_implies, implies_true, not_true_eq_false, not_false_eq_true, and_true, true_and, and_self, true_or, or_true, false_or, or_false, false_and, and_false, eq_self]
      exact hp'
    · have u3 : st (16 * s + i) = 3 := Classical.byContradiction fun q => u ⟨u0, q⟩
      simp (disch := omega) only [wY_spread_2, nu_b16, nu_k30, vy_see hi, u3, nu_01, nu_40, nu_30, nu_20, nu_160, Int32.add_zero, Nat.reduceAdd, nu_m16, nu_16m, nu_m4, nu_4m, nu_m3, nu_3m, nu_m2, nu_2m, nI_1, nu_p2, nu_p3, nu_16p, nu_2p, nI_add, nu_cl, nu_in, Nat.add_zero, nu_l0, nu_l1, nu_l2, nu_l3, nu_l4, nu_i0_5, nu_i1_5, nu_i2_5, nu_i0_3, nu_i1_3, nu_i2_3, nu_n0, nu_n1, nu_na0, nu_na1, forall_eq, true_implies, false_implies, implies_true, not_true_eq_false, not_false_eq_true, and_true, true_and, and_self, true_or, or_true, false_or, or_false, false_and, and_false, eq_self]
      exact hp'
theorem dy_q {post : SY → Prop} {s t i n : Nat} (hs : s < 3) (hi : i < 16) (hT : re_T rt wt th) (hC : re_C rc wc ro) (h : st (16 * s + i) = 0 ∨ st (16 * s + i) = 3) (z1 : ¬ si_t rt wt lk s i = 0) (z2 : si_c rc wc lk s i 2 = nI t)
    (hp : wY_spread_76 post (wY_spread_2 post (nI s) (nI t) n) (nI s) (nI t) (nI i) (nI (16 * s + i)) sc fc th ch ro lk (upd st (16 * s + i) 4) (u3_f nw (3 * (16 * s + i)) (si_c rc wc lk s i 0) (si_c rc wc lk s i 1) (si_c rc wc lk s i 2)) (u3_f bf (3 * (16 * s + i)) (si_c rc wc lk s i 0) (si_c rc wc lk s i 1) (si_c rc wc lk s i 2)) (upd ve (16 * s + i) (si_c rc wc lk s i 3)) bk md yl la od sm fr ct) : wY_spread_2 post (nI s) (nI t) (n + 1) (nI i) sc fc th ch ro lk st nw bf ve bk md yl la od sm fr ct := by
  have hf := si_lt lk (s := s) hi
  have ht := si_ft (lk := lk) (s := s) hT hi
  have hc := si_fc (lk := lk) (s := s) (c := 2) hC hi (by decide)
  have ht' : ¬ th (si_f lk s i) = 0 := by
    rw [ht]
    exact z1
  have hc' : ro (4 * si_f lk s i + 2) = nI t := hc.trans z2
  rcases h with u | u
  · simp (disch := omega) only [wY_spread_2, wY_spread_45, nu_b16, vy_see hi, u, ht', hc', nu_01, nu_40, nu_30, nu_20, nu_160, Int32.add_zero, Nat.reduceAdd, nu_m16, nu_16m, nu_m4, nu_4m, nu_m3, nu_3m, nu_m2, nu_2m, nI_1, nu_p2, nu_p3, nu_16p, nu_2p, nI_add, nu_cl, nu_in, Nat.add_zero, nu_l0, nu_l1, nu_l2, nu_l3, nu_l4, nu_i0_5, nu_i1_5, nu_i2_5, nu_i0_3, nu_i1_3, nu_i2_3, nu_n0, nu_n1, nu_na0, nu_na1, forall_eq, true_implies, false_implies, implies_true, not_true_eq_false, not_false_eq_true, and_true, true_and, and_self, true_or, or_true, false_or, or_false, false_and, and_false, eq_self]
    exact vy_mg hs hi hC hp
  · simp (disch := omega) only [wY_spread_2, wY_spread_45, nu_b16, nu_k30, vy_see hi, u, ht', hc', nu_01, nu_40, nu_30, nu_20, nu_160, Int32.add_zero, Nat.reduceAdd, nu_m16, nu_16m, nu_m4, nu_4m, nu_m3, nu_3m, nu_m2, nu_2m, nI_1, nu_p2, nu_p3, nu_16p, nu_2p, nI_add, nu_cl, nu_in, Nat.add_zero, nu_l0, nu_l1, nu_l2, nu_l3, nu_l4, nu_i0_5, nu_i1_5, nu_i2_5, nu_i0_3, nu_i1_3, nu_i2_3, nu_n0, nu_n1, nu_na0, nu_na1, forall_eq, true_implies, false_implies, implies_true, not_true_eq_false, not_false_eq_true, and_true, true_and, and_self, true_or, or_true, false_or, or_false, false_and, and_false, eq_self]
    exact vy_mg hs hi hC hp
theorem dy_76n {post : SY → Prop} {J : Int32 → Int32 → Int32 → (Nat → Int32) → (Nat → Int32) → (Nat → Int32) → (Nat → Int32) → (Nat → Int32) → (Nat → Int32) → (Nat → Int32) → (Nat → Int32) → (Nat → Int32) → (Nat → Int32) → (Nat → Int32) → (Nat → Int32) → (Nat → Int32) → (Nat → Int32) → (Nat → Int32) → (Nat → Int32) → Prop} {s t i : Nat} (hs : s < 3) (hi : i < 16)
    (h : (¬ st (16 * s + i) = 4 ∧ ¬ st (16 * s + i) = 2) ∨ ¬ nw (3 * (16 * s + i) + 2) = nI t) (hp : J (nI (i + 1)) sc fc th ch ro lk st nw bf ve bk md yl la od sm fr ct) : wY_spread_76 post J (nI s) (nI t) (nI i) (nI (16 * s + i)) sc fc th ch ro lk st nw bf ve bk md yl la od sm fr ct := by
  by_cases u4 : st (16 * s + i) = 4
  · have e : ¬ nw (3 * (16 * s + i) + 2) = nI t := h.resolve_left (fun q => q.1 u4)
    simp (disch := omega) only [wY_spread_76, wY_spread_98, u4, e, nu_01, nu_40, nu_30, nu_20, nu_160, Int32.add_zero, Nat.reduceAdd, nu_m16, nu_16m, nu_m4, nu_4m, nu_m3, nu_3m, nu_m2, nu_2m, nI_1, nu_p2, nu_p3, nu_16p, nu_2p, nI_add, nu_cl, nu_in, Nat.add_zero, nu_l0, nu_l1, nu_l2, nu_l3, nu_l4, nu_i0_5, nu_i1_5, nu_i2_5, nu_i0_3, nu_i1_3, nu_i2_3, nu_n0, nu_n1, nu_na0, nu_na1, forall_eq, true_implies, false_implies, implies_true, not_true_eq_false, not_false_eq_true, and_true, true_and, and_self, true_or, or_true, false_or, or_false, false_and, and_false, eq_self]
    exact hp
  · by_cases u2 : st (16 * s + i) = 2
    · have e : ¬ nw (3 * (16 * s + i) + 2) = nI t := h.resolve_left (fun q => q.2 u2)
      simp (disch := omega) only [wY_spread_76, wY_spread_98, nu_k24, u2, e, nu_01, nu_40, nu_30, nu_20, nu_160, Int32.add_zero, Nat.reduceAdd, nu_m16, nu_16m, nu_m4, nu_4m, nu_m3, nu_3m, nu_m2, nu_2m, nI_1, nu_p2, nu_p3, nu_16p, nu_2p, nI_add, nu_cl, nu_in, Nat.add_zero, nu_l0, nu_l1, nu_l2, nu_l3, nu_l4, nu_i0_5, nu_i1_5, nu_i2_5, nu_i0_3, nu_i1_3, nu_i2_3, nu_n0, nu_n1, nu_na0, nu_na1, forall_eq, true_implies, false_implies, implies_true, not_true_eq_false, not_false_eq_true, and_true, true_and, and_self, true_or, or_true, false_or, or_false, false_and, and_false, eq_self]
      exact hp
    · simp (disch := omega) only [wY_spread_76, u4, u2, nu_01, nu_40, nu_30, nu_20, nu_160, Int32.add_zero, Nat.reduceAdd, nu_m16, nu_16m, nu_m4, nu_4m, nu_m3, nu_3m, nu_m2, nu_2m, nI_1, nu_p2, nu_p3, nu_16p, nu_2p, nI_add, nu_cl, nu_in, Nat.add_zero, nu_l0, nu_l1, nu_l2, nu_l3, nu_l4, nu_i0_5, nu_i1_5, nu_i2_5, nu_i0_3, nu_i1_3, nu_i2_3, nu_n0, nu_n1, nu_na0, nu_na1, forall_eq, true_implies, false_implies, implies_true, not_true_eq_false, not_false_eq_true, and_true, true_and, and_self, true_or, or_true, false_or, or_false, false_and, and_false, eq_self]
      exact hp
theorem dy_762 {post : SY → Prop} {J : Int32 → Int32 → Int32 → (Nat → Int32) → (Nat → Int32) → (Nat → Int32) → (Nat → Int32) → (Nat → Int32) → (Nat → Int32) → (Nat → Int32) → (Nat → Int32) → (Nat → Int32) → (Nat → Int32) → (Nat → Int32) → (Nat → Int32) → (Nat → Int32) → (Nat → Int32) → (Nat → Int32) → (Nat → Int32) → Prop} {s t i : Nat} (hs : s < 3) (hi : i < 16)
    (e : nw (3 * (16 * s + i) + 2) = nI t) (u : st (16 * s + i) = 2) (hp : J (nI (i + 1)) sc fc th ch ro lk (upd st (16 * s + i) 1) nw bf ve bk md yl la od sm fr ct) : wY_spread_76 post J (nI s) (nI t) (nI i) (nI (16 * s + i)) sc fc th ch ro lk st nw bf ve bk md yl la od sm fr ct := by
  simp (disch := omega) only [wY_spread_76, wY_spread_98, wY_spread_134, nu_k24, e, u, nu_01, nu_40, nu_30, nu_20, nu_160, Int32.add_zero, Nat.reduceAdd, nu_m16, nu_16m, nu_m4, nu_4m, nu_m3, nu_3m, nu_m2, nu_2m, nI_1, nu_p2, nu_p3, nu_16p, nu_2p, nI_add, nu_cl, nu_in, Nat.add_zero, nu_l0, nu_l1, nu_l2, nu_l3, nu_l4, nu_i0_5, nu_i1_5, nu_i2_5, nu_i0_3, nu_i1_3, nu_i2_3, nu_n0, nu_n1, nu_na0, nu_na1, forall_eq, true_implies, false_implies, implies_true, not_true_eq_false, not_false_eq_true, and_true, true_and, and_self, true_or, or_true, false_or, or_false, false_and, and_false, eq_self]
  exact hp
theorem dy_764 {post : SY → Prop} {J : Int32 → Int32 → Int32 → (Nat → Int32) → (Nat → Int32) → (Nat → Int32) → (Nat → Int32) → (Nat → Int32) → (Nat → Int32) → (Nat → Int32) → (Nat → Int32) → (Nat → Int32) → (Nat → Int32) → (Nat → Int32) → (Nat → Int32) → (Nat → Int32) → (Nat → Int32) → (Nat → Int32) → (Nat → Int32) → Prop} {s t i : Nat} (hs : s < 3) (hi : i < 16)
    (e : nw (3 * (16 * s + i) + 2) = nI t) (u : st (16 * s + i) = 4) (hp : J (nI (i + 1)) sc fc th ch ro lk (upd st (16 * s + i) 5) nw bf ve bk md (upd yl i 1) la od sm fr ct) : wY_spread_76 post J (nI s) (nI t) (nI i) (nI (16 * s + i)) sc fc th ch ro lk st nw bf ve bk md yl la od sm fr ct := by
  simp (disch := omega) only [wY_spread_76, wY_spread_98, wY_spread_134, nu_k42, e, u, nu_01, nu_40, nu_30, nu_20, nu_160, Int32.add_zero, Nat.reduceAdd, nu_m16, nu_16m, nu_m4, nu_4m, nu_m3, nu_3m, nu_m2, nu_2m, nI_1, nu_p2, nu_p3, nu_16p, nu_2p, nI_add, nu_cl, nu_in, Nat.add_zero, nu_l0, nu_l1, nu_l2, nu_l3, nu_l4, nu_i0_5, nu_i1_5, nu_i2_5, nu_i0_3, nu_i1_3, nu_i2_3, nu_n0, nu_n1, nu_na0, nu_na1, forall_eq, true_implies, false_implies, implies_true, not_true_eq_false, not_false_eq_true, and_true, true_and, and_self, true_or, or_true, false_or, or_false, false_and, and_false, eq_self]
  exact hp
theorem dy_1 {s t i key : Nat} {D P : Nat → Prop} (hs : s < 3) (hi : i < 16) (hT : re_T rt wt th) (hC : re_C rc wc ro) (hK : re_K st) (hN : re_N st en nw) (hkey : st (16 * s + key) = 5)
    (hD : ∀ k, k < 16 → D k → ¬ st (16 * s + k) = 1 ∧ ¬ st (16 * s + k) = 5) (hPQ : ∀ k, k < 16 → P k → dn_Q st s key D k) (hy : ∀ k, k < 16 → (¬ yl k = 0 ↔ dn_Q st s key D k ∧ ¬ P k)) :
    ∃ (yl' : Nat → Int32) (E : Nat → Prop), (∀ k, k < 16 → (E k ↔ D k ∨ (k = i ∧ dn_T st en rt wt rc wc lk s k t))) ∧ (∀ k, k < 16 → (¬ yl' k = 0 ↔ dn_Q st s key E k ∧ ¬ P k)) ∧
      (∀ (post : SY → Prop) n, wY_spread_2 post (nI s) (nI t) n (nI (i + 1)) sc fc th ch ro lk (rm_st s E st) (rm_nw s E st (si_c rc wc lk s) nw) (rm_nw s E st (si_c rc wc lk s) bf) (rm_ve s E st (si_c rc wc lk s) ve) bk md yl' la od sm fr ct → wY_spread_2 post (nI s) (nI t) (n + 1) (nI i) sc fc th ch ro lk (rm_st s D st) (rm_nw s D st (si_c rc wc lk s) nw) (rm_nw s D st (si_c rc wc lk s) bf) (rm_ve s D st (si_c rc wc lk s) ve) bk md yl la od sm fr ct) := by
  by_cases d : D i
  · have e1 : rm_st s D st (16 * s + i) = if st (16 * s + i) = 2 then 1 else 5 := rm_t ((rm_dk hi).mpr d)
    have n0 : ¬ rm_st s D st (16 * s + i) = 0 ∧ ¬ rm_st s D st (16 * s + i) = 3 ∧ ¬ rm_st s D st (16 * s + i) = 4 ∧ ¬ rm_st s D st (16 * s + i) = 2 := by
      rw [e1]
      split <;> decide
    refine ⟨yl, D, fun k hk => ⟨Or.inl, fun q => ?_⟩, hy, fun post n hp => ?_⟩
    · rcases q with q | q
      · exact q
      · rw [q.1]
        exact d
    · refine dy_p hs hi hT hC (Or.inl ⟨n0.1, n0.2.1⟩) ?_
      exact dy_76n hs hi (Or.inl n0.2.2) hp
  · have e1 : rm_st s D st (16 * s + i) = st (16 * s + i) := rm_f (fun q => d ((rm_dk hi).mp q))
    have e2 : rm_nw s D st (si_c rc wc lk s) nw (3 * (16 * s + i) + 2) = nw (3 * (16 * s + i) + 2) := by
      rw [rm_nwc (by decide)]
      exact rm_f (fun q => d ((rm_dk hi).mp q.1))
    have add : ∀ E : Nat → Prop, (∀ j, j < 16 → (E j ↔ D j ∨ j = i)) → ¬ st (16 * s + i) = 2 → ¬ dn_Q st s key D i → ∀ k, k < 16 → (¬ upd yl i 1 k = 0 ↔ dn_Q st s key E k ∧ ¬ P k) := by
      intro E hE u2 hnq k hk
      rw [dn_Qm (key := key) hE u2 k hk]
      by_cases q : k = i
      · rw [q, pk_us]
        exact ⟨fun _ => ⟨Or.inr rfl, fun z => hnq (hPQ i hi z)⟩, fun _ => by decide⟩
      · rw [pk_un q, hy k hk]
        exact ⟨fun z => ⟨Or.inl z.1, z.2⟩, fun z => ⟨z.1.resolve_right q, z.2⟩⟩
    by_cases T : dn_T st en rt wt rc wc lk s i t
    · have hE : ∀ j, j < 16 → ((fun k => D k ∨ k = i) j ↔ D j ∨ j = i) := fun j _ => Iff.rfl
      have hE' : ∀ k, k < 16 → ((fun k => D k ∨ k = i) k ↔ D k ∨ (k = i ∧ dn_T st en rt wt rc wc lk s k t)) := by
        intro k _
        constructor
        · rintro (q | q)
          · exact Or.inl q
          · exact Or.inr ⟨q, by rw [q]; exact T⟩
        · rintro (q | q)
          · exact Or.inl q
          · exact Or.inr q.1
      rcases T with ⟨u, g⟩ | ⟨u, g1, g2⟩
      · have k0 : ¬ (st (16 * s + i) = 0 ∨ st (16 * s + i) = 3) := by
          rcases u with u | u <;> rw [u] <;> decide
        have g' : nw (3 * (16 * s + i) + 2) = nI t := (hN (16 * s + i) (by omega) (fun q => k0 (Or.inl q)) (fun q => k0 (Or.inr q)) 2 (by decide)).symm.trans g
        by_cases u2 : st (16 * s + i) = 2
        · refine ⟨yl, fun k => D k ∨ k = i, hE', fun k hk => ?_, fun post n hp => ?_⟩
          · rw [← dn_Qk (key := key) hE u2 k hk]
            exact hy k hk
          · rw [rm_stp hi hE, rm_nwk hi hE k0, rm_nwk hi hE k0, rm_vek hi hE k0, if_pos u2] at hp
            refine dy_p hs hi hT hC (Or.inl (by rw [e1, u2]; decide)) ?_
            exact dy_762 hs hi (e2.trans g') (e1.trans u2) hp
        · have u4 := u.resolve_left u2
          have hnq : ¬ dn_Q st s key D i := by
            rintro (q | q)
            · rw [← q, u4] at hkey
              exact absurd hkey (by decide)
            · exact d q.2
          refine ⟨upd yl i 1, fun k => D k ∨ k = i, hE', add _ hE u2 hnq, fun post n hp => ?_⟩
          rw [rm_stp hi hE, rm_nwk hi hE k0, rm_nwk hi hE k0, rm_vek hi hE k0, if_neg u2] at hp
          refine dy_p hs hi hT hC (Or.inl (by rw [e1, u4]; decide)) ?_
          exact dy_764 hs hi (e2.trans g') (e1.trans u4) hp
      · have u2 : ¬ st (16 * s + i) = 2 := by
          rcases u with u | u <;> rw [u] <;> decide
        have hnq : ¬ dn_Q st s key D i := by
          rintro (q | q)
          · rw [← q] at hkey
            rcases u with u | u <;> rw [u] at hkey <;> exact absurd hkey (by decide)
          · exact d q.2
        refine ⟨upd yl i 1, fun k => D k ∨ k = i, hE', add _ hE u2 hnq, fun post n hp => ?_⟩
        rw [rm_stp hi hE, rm_nwm hi hE u, rm_nwm hi hE u, rm_vem hi hE u, if_neg u2] at hp
        refine dy_q hs hi hT hC (by rw [e1]; exact u) g1 g2 ?_
        refine dy_764 hs hi (u3_2.trans g2) pk_us ?_
        rw [nu_uu]
        exact hp
    · refine ⟨yl, D, fun k hk => ⟨Or.inl, fun q => ?_⟩, hy, fun post n hp => ?_⟩
      · rcases q with q | q
        · exact q
        · have := q.2
          rw [q.1] at this
          exact absurd this T
      · rcases hK (16 * s + i) with a | a | a | a | a | a
        · refine dy_p hs hi hT hC (Or.inr (fun q => T (Or.inr ⟨Or.inl a, q.1, q.2⟩))) ?_
          exact dy_76n hs hi (Or.inl (by rw [e1, a]; decide)) hp
        · refine dy_p hs hi hT hC (Or.inl (by rw [e1, a]; decide)) ?_
          exact dy_76n hs hi (Or.inl (by rw [e1, a]; decide)) hp
        · have g' := hN (16 * s + i) (by omega) (by rw [a]; decide) (by rw [a]; decide) 2 (by decide)
          refine dy_p hs hi hT hC (Or.inl (by rw [e1, a]; decide)) ?_
          exact dy_76n hs hi (Or.inr (fun q => T (Or.inl ⟨Or.inl a, g'.trans (e2.symm.trans q)⟩))) hp
        · refine dy_p hs hi hT hC (Or.inr (fun q => T (Or.inr ⟨Or.inr a, q.1, q.2⟩))) ?_
          exact dy_76n hs hi (Or.inl (by rw [e1, a]; decide)) hp
        · have g' := hN (16 * s + i) (by omega) (by rw [a]; decide) (by rw [a]; decide) 2 (by decide)
          refine dy_p hs hi hT hC (Or.inl (by rw [e1, a]; decide)) ?_
          exact dy_76n hs hi (Or.inr (fun q => T (Or.inl ⟨Or.inr a, g'.trans (e2.symm.trans q)⟩))) hp
        · refine dy_p hs hi hT hC (Or.inl (by rw [e1, a]; decide)) ?_
          exact dy_76n hs hi (Or.inl (by rw [e1, a]; decide)) hp
end
end
section
theorem dn_Qmono {st : Nat → Int32} {s key : Nat} {D E : Nat → Prop} {k : Nat} (h : D k → E k) (q : dn_Q st s key D k) : dn_Q st s key E k := q.imp id (fun z => ⟨z.1, h z.2⟩)
section
variable {sc fc : Int32} {md bk ct rt rc lk wt wc ch st en sn fr th ro nw bf ve la od sm : Nat → Int32}
theorem dy_2 {s t key : Nat} {P : Nat → Prop} (hs : s < 3) (hT : re_T rt wt th) (hC : re_C rc wc ro) (hK : re_K st) (hN : re_N st en nw) (hkey : st (16 * s + key) = 5) : ∀ (d i : Nat), i + d = 16 → ∀ (D : Nat → Prop) (yl : Nat → Int32),
    (∀ k, k < 16 → D k → ¬ st (16 * s + k) = 1 ∧ ¬ st (16 * s + k) = 5) → (∀ k, k < 16 → P k → dn_Q st s key D k) → (∀ k, k < 16 → (¬ yl k = 0 ↔ dn_Q st s key D k ∧ ¬ P k)) →
    ∃ (yl' : Nat → Int32) (E : Nat → Prop), (∀ k, k < 16 → (E k ↔ D k ∨ (i ≤ k ∧ dn_T st en rt wt rc wc lk s k t))) ∧ (∀ k, k < 16 → (¬ yl' k = 0 ↔ dn_Q st s key E k ∧ ¬ P k)) ∧
      (∀ (post : SY → Prop) n, d < n → post (sc, fc, th, ch, ro, lk, rm_st s E st, rm_nw s E st (si_c rc wc lk s) nw, rm_nw s E st (si_c rc wc lk s) bf, rm_ve s E st (si_c rc wc lk s) ve, bk, md, yl', la, od, sm, fr, ct) → wY_spread_2 post (nI s) (nI t) n (nI i) sc fc th ch ro lk (rm_st s D st) (rm_nw s D st (si_c rc wc lk s) nw) (rm_nw s D st (si_c rc wc lk s) bf) (rm_ve s D st (si_c rc wc lk s) ve) bk md yl la od sm fr ct) := by
  intro d
  induction d with
  | zero =>
    intro i hi D yl hD hPQ hy
    refine ⟨yl, D, fun k hk => ⟨Or.inl, fun q => ?_⟩, hy, fun post n hn hp => ?_⟩
    · rcases q with q | q
      · exact q
      · omega
    · obtain ⟨n, rfl⟩ : ∃ n', n = n' + 1 := ⟨n - 1, by omega⟩
      simp (disch := omega) only [wY_spread_2, nu_a16, forall_eq, true_implies, false_implies, implies_true, not_true_eq_false, not_false_eq_true, and_true, true_and, and_self, true_or, or_true, false_or, or_false, false_and, and_false, eq_self]
      exact hp
  | succ d ih =>
    intro i hi D yl hD hPQ hy
    obtain ⟨yl1, E1, hE1, hy1, hX1⟩ := dy_1 (sc := sc) (fc := fc) (md := md) (bk := bk) (ct := ct) (lk := lk) (ch := ch) (fr := fr) (bf := bf) (ve := ve) (la := la) (od := od) (sm := sm) (t := t) (i := i) hs (by omega) hT hC hK hN hkey hD hPQ hy
    obtain ⟨yl2, E2, hE2, hy2, hX2⟩ := ih (i + 1) (by omega) E1 yl1 (fun k hk q => by
      rcases (hE1 k hk).mp q with z | z
      · exact hD k hk z
      · exact dn_Tk z.2) (fun k hk q => dn_Qmono (fun z => (hE1 k hk).mpr (Or.inl z)) (hPQ k hk q)) hy1
    refine ⟨yl2, E2, fun k hk => ?_, hy2, fun post n hn hp => ?_⟩
    · rw [hE2 k hk, hE1 k hk]
      constructor
      · rintro ((q | q) | q)
        · exact Or.inl q
        · exact Or.inr ⟨by omega, q.2⟩
        · exact Or.inr ⟨by omega, q.2⟩
      · rintro (q | q)
        · exact Or.inl (Or.inl q)
        · by_cases e : k = i
          · exact Or.inl (Or.inr ⟨e, q.2⟩)
          · exact Or.inr ⟨by omega, q.2⟩
    · obtain ⟨n, rfl⟩ : ∃ n', n = n' + 1 := ⟨n - 1, by omega⟩
      exact hX1 post n (hX2 post n (by omega) hp)
end
section
variable {sc fc : Int32} {md bk ct lk ch st fr th ro nw bf ve yl la od sm : Nat → Int32}
/-- the reference's search for the least one that is left -/
theorem vy_210 {s : Nat} {post : Int32 → SY → Prop} : ∃ x', le_S (fun k => ¬ yl k = 0) x' ∧ ∀ (J : Int32 → Int32 → Int32 → (Nat → Int32) → (Nat → Int32) → (Nat → Int32) → (Nat → Int32) → (Nat → Int32) → (Nat → Int32) → (Nat → Int32) → (Nat → Int32) → (Nat → Int32) → (Nat → Int32) → (Nat → Int32) → (Nat → Int32) → (Nat → Int32) → (Nat → Int32) → (Nat → Int32) → (Nat → Int32) → Prop), J x' sc fc th ch ro lk st nw bf ve bk md yl la od sm fr ct → ∃ n, wY_remove_210 post J (nI s) sc fc th ch ro lk st nw bf ve bk md yl la od sm fr ct n (-1) 15 := by
  have dn : ∀ m : Nat, m ≤ 16 → ∀ x : Int32, ((x = -1 ∧ ∀ k, m ≤ k → k < 16 → ¬ ¬ yl k = 0) ∨ ∃ k, m ≤ k ∧ k < 16 ∧ x = nI k ∧ ¬ yl k = 0 ∧ ∀ j, m ≤ j → j < k → ¬ ¬ yl j = 0) →
      ∃ x', le_S (fun k => ¬ yl k = 0) x' ∧ ∀ (J : Int32 → Int32 → Int32 → (Nat → Int32) → (Nat → Int32) → (Nat → Int32) → (Nat → Int32) → (Nat → Int32) → (Nat → Int32) → (Nat → Int32) → (Nat → Int32) → (Nat → Int32) → (Nat → Int32) → (Nat → Int32) → (Nat → Int32) → (Nat → Int32) → (Nat → Int32) → (Nat → Int32) → (Nat → Int32) → Prop) n, m < n → J x' sc fc th ch ro lk st nw bf ve bk md yl la od sm fr ct → wY_remove_210 post J (nI s) sc fc th ch ro lk st nw bf ve bk md yl la od sm fr ct n x (nI m + (-1)) := by
    intro m
    induction m with
    | zero =>
      intro _ x hx
      refine ⟨x, ?_, fun J n hn hp => ?_⟩
      · rcases hx with ⟨q, h⟩ | ⟨k, _, hk, q, l, h⟩
        · exact Or.inl ⟨q, fun k hk => h k (by omega) hk⟩
        · exact Or.inr ⟨k, hk, q, l, fun j hj => h j (by omega) hj⟩
      · obtain ⟨n, rfl⟩ : ∃ n', n = n' + 1 := ⟨n - 1, by omega⟩
        have e : nI 0 + (-1) = -1 := by decide
        rw [e]
        simp only [wY_remove_210, nu_m1lt, forall_eq, true_implies, false_implies, implies_true, not_true_eq_false, not_false_eq_true, and_true, true_and, and_self, true_or, or_true, false_or, or_false, false_and, and_false, eq_self]
        exact hp
    | succ m ih =>
      intro hm x hx
      by_cases z : yl m = 0
      · obtain ⟨x', hx', hY⟩ := ih (by omega) x (by
          rcases hx with ⟨q, h⟩ | ⟨k, h1, hk, q, l, h⟩
          · refine Or.inl ⟨q, fun k h1 h2 => ?_⟩
            by_cases e : k = m
            · rw [e]
              exact fun y => y z
            · exact h k (by omega) h2
          · refine Or.inr ⟨k, by omega, hk, q, l, fun j h3 h4 => ?_⟩
            by_cases e : j = m
            · rw [e]
              exact fun y => y z
            · exact h j (by omega) h4)
        refine ⟨x', hx', fun J n hn hp => ?_⟩
        obtain ⟨n, rfl⟩ : ∃ n', n = n' + 1 := ⟨n - 1, by omega⟩
        rw [pk_m1]
        simp (disch := omega) only [wY_remove_210, nu_neg, nu_cl, nu_in, z, forall_eq, true_implies, false_implies, implies_true, not_true_eq_false, not_false_eq_true, and_true, true_and, and_self, true_or, or_true, false_or, or_false, false_and, and_false, eq_self]
        exact hY J n (by omega) hp
      · obtain ⟨x', hx', hY⟩ := ih (by omega) (nI m) (Or.inr ⟨m, Nat.le_refl m, by omega, rfl, z, fun j h3 h4 => by omega⟩)
        refine ⟨x', hx', fun J n hn hp => ?_⟩
        obtain ⟨n, rfl⟩ : ∃ n', n = n' + 1 := ⟨n - 1, by omega⟩
        rw [pk_m1]
        simp (disch := omega) only [wY_remove_210, nu_neg, nu_cl, nu_in, z, forall_eq, true_implies, false_implies, implies_true, not_true_eq_false, not_false_eq_true, and_true, true_and, and_self, true_or, or_true, false_or, or_false, false_and, and_false, eq_self]
        exact hY J n (by omega) hp
  obtain ⟨x', hx', hY⟩ := dn 16 (Nat.le_refl _) (-1) (Or.inl ⟨rfl, fun k h1 h2 => by omega⟩)
  refine ⟨x', hx', fun J hp => ⟨17, ?_⟩⟩
  have e : (15 : Int32) = nI 16 + (-1) := by decide
  rw [e]
  exact hY J 17 (by decide) hp
end
section
variable {sc fc : Int32} {md bk ct rt rc lk wt wc ch st en sn fr th ro nw bf ve la od sm : Nat → Int32}
theorem dy_3 {s key : Nat} (hs : s < 3) (hT : re_T rt wt th) (hC : re_C rc wc ro) (hK : re_K st) (hN : re_N st en nw) (hkey : st (16 * s + key) = 5) : ∀ (d : Nat) (P D : Nat → Prop) (yl : Nat → Int32) (x6 : Int32), 16 ≤ cn_n P 16 + d →
    (∀ k, k < 16 → (D k ↔ ∃ x, x < 16 ∧ P x ∧ dn_T st en rt wt rc wc lk s k x)) → (∀ k, k < 16 → (¬ yl k = 0 ↔ dn_Q st s key D k ∧ ¬ P k)) → le_S (fun k => ¬ yl k = 0) x6 →
    rm_I key (dn_T st en rt wt rc wc lk s) (fun k => ¬ st (16 * s + k) = 2) P (dn_Q st s key D) →
    ∃ (P' D' : Nat → Prop), (∀ k, k < 16 → (D' k ↔ ∃ x, x < 16 ∧ P' x ∧ dn_T st en rt wt rc wc lk s k x)) ∧ rm_I key (dn_T st en rt wt rc wc lk s) (fun k => ¬ st (16 * s + k) = 2) P' (dn_Q st s key D') ∧ (∀ k, k < 16 → dn_Q st s key D' k → P' k) ∧
      ∃ yl', (∀ (post : Int32 → SY → Prop) n, d < n → post 0 (sc, fc, th, ch, ro, lk, rm_st s D' st, rm_nw s D' st (si_c rc wc lk s) nw, rm_nw s D' st (si_c rc wc lk s) bf, rm_ve s D' st (si_c rc wc lk s) ve, bk, md, yl', la, od, sm, fr, upd ct 0 (ct 0 + nI (cn_n P' 16))) → wY_remove_173 post (nI s) n x6 sc fc th ch ro lk (rm_st s D st) (rm_nw s D st (si_c rc wc lk s) nw) (rm_nw s D st (si_c rc wc lk s) bf) (rm_ve s D st (si_c rc wc lk s) ve) bk md yl la od sm fr (upd ct 0 (ct 0 + nI (cn_n P 16)))) := by
  intro d
  induction d with
  | zero =>
    intro P D yl x6 hd hD hy hx hI
    -- all have been processed: none is left
    have all : ∀ k, k < 16 → P k := by
      intro k hk
      refine Classical.byContradiction fun q => ?_
      have := cn_lt (P := P) (Q := fun _ => True) (a := k) q trivial (N := 16) (fun _ _ _ => trivial) hk
      have := cn_le (fun _ : Nat => True) 16
      omega
    have e : x6 = -1 := by
      refine le_u hx (le_n (fun k hk q => ?_))
      exact ((hy k hk).mp q).2 (all k hk)
    subst e
    refine ⟨P, D, hD, hI, fun k hk _ => all k hk, yl, fun post n hn hp => ?_⟩
    obtain ⟨n, rfl⟩ : ∃ n', n = n' + 1 := ⟨n - 1, by omega⟩
    simp only [wY_remove_173, nu_m1lt, forall_eq, true_implies, false_implies, implies_true, not_true_eq_false, not_false_eq_true, and_true, true_and, and_self, true_or, or_true, false_or, or_false, false_and, and_false, eq_self]
    exact hp
  | succ d ih =>
    intro P D yl x6 hd hD hy hx hI
    rcases hx with ⟨rfl, h⟩ | ⟨t, ht, rfl, lt, _⟩
    · refine ⟨P, D, hD, hI, fun k hk q => ?_, yl, fun post n hn hp => ?_⟩
      · refine Classical.byContradiction fun z => h k hk ?_
        exact (hy k hk).mpr ⟨q, z⟩
      · obtain ⟨n, rfl⟩ : ∃ n', n = n' + 1 := ⟨n - 1, by omega⟩
        simp only [wY_remove_173, nu_m1lt, forall_eq, true_implies, false_implies, implies_true, not_true_eq_false, not_false_eq_true, and_true, true_and, and_self, true_or, or_true, false_or, or_false, false_and, and_false, eq_self]
        exact hp
    · obtain ⟨qt, nt⟩ := (hy t ht).mp lt
      have hcn : cn_n (fun k => P k ∨ k = t) 16 = cn_n P 16 + 1 := cn_add nt ht
      have hDk : ∀ k, k < 16 → D k → ¬ st (16 * s + k) = 1 ∧ ¬ st (16 * s + k) = 5 := fun k hk q => by
        obtain ⟨x, _, _, z⟩ := (hD k hk).mp q
        exact dn_Tk z
      obtain ⟨yl1, E, hE, hy1, hX1⟩ := dy_2 (sc := sc) (fc := fc) (md := md) (bk := bk) (ct := upd ct 0 (ct 0 + nI (cn_n P 16 + 1))) (lk := lk) (ch := ch) (fr := fr) (bf := bf) (ve := ve) (la := la) (od := od) (sm := sm) (t := t) (P := fun k => P k ∨ k = t) hs hT hC hK hN hkey 16 0 rfl D (upd yl t 0) hDk (fun k hk q => by
        rcases q with q | q
        · exact hI.2.1 k hk q
        · rw [q]
          exact qt) (fun k hk => by
        by_cases e : k = t
        · rw [e, pk_us]
          exact ⟨fun z => absurd rfl z, fun z => absurd (Or.inr rfl) z.2⟩
        · rw [pk_un e, hy k hk]
          exact ⟨fun z => ⟨z.1, fun y => y.elim z.2 e⟩, fun z => ⟨z.1, fun y => z.2 (Or.inl y)⟩⟩)
      have hE' : ∀ k, k < 16 → (E k ↔ D k ∨ dn_T st en rt wt rc wc lk s k t) := fun k hk => by
        rw [hE k hk]
        exact ⟨fun q => q.imp id (fun z => z.2), fun q => q.imp id (fun z => ⟨Nat.zero_le k, z⟩)⟩
      obtain ⟨x', hx', _⟩ := vy_210 (sc := sc) (fc := fc) (md := md) (bk := bk) (ct := ct) (lk := lk) (ch := ch) (st := st) (fr := fr) (th := th) (ro := ro) (nw := nw) (bf := bf) (ve := ve) (yl := yl1) (la := la) (od := od) (sm := sm) (s := s) (post := fun _ _ => True)
      obtain ⟨P', D', h1, h2, h3, yl', hY2⟩ := ih (fun k => P k ∨ k = t) E yl1 x' (by omega) (dn_Dt ht hD hE') hy1 hx' (rm_Ie (dn_Qt (t := t) hE') (rm_Is hI ht qt))
      refine ⟨P', D', h1, h2, h3, yl', fun post n hn hp => ?_⟩
      obtain ⟨n, rfl⟩ : ∃ n', n = n' + 1 := ⟨n - 1, by omega⟩
      have hz := hY2 post n (by omega) hp
      rw [hcn] at hz
      simp (disch := omega) only [wY_remove_173, wpY_spread, nu_neg, ct_s, nu_01, nu_40, nu_30, nu_20, nu_160, Int32.add_zero, Nat.reduceAdd, nu_m16, nu_16m, nu_m4, nu_4m, nu_m3, nu_3m, nu_m2, nu_2m, nI_1, nu_p2, nu_p3, nu_16p, nu_2p, nI_add, nu_cl, nu_in, Nat.add_zero, nu_l0, nu_l1, nu_l2, nu_l3, nu_l4, nu_i0_5, nu_i1_5, nu_i2_5, nu_i0_3, nu_i1_3, nu_i2_3, nu_n0, nu_n1, nu_na0, nu_na1, forall_eq, true_implies, false_implies, implies_true, not_true_eq_false, not_false_eq_true, and_true, true_and, and_self, true_or, or_true, false_or, or_false, false_and, and_false, eq_self]
      refine ⟨17, hX1 _ 17 (by decide) ?_⟩
      obtain ⟨x'', hx'', h210⟩ := vy_210 (sc := sc) (fc := fc) (md := md) (bk := bk) (ct := upd ct 0 (ct 0 + nI (cn_n P 16 + 1))) (lk := lk) (ch := ch) (st := rm_st s E st) (fr := fr) (th := th) (ro := ro) (nw := rm_nw s E st (si_c rc wc lk s) nw) (bf := rm_nw s E st (si_c rc wc lk s) bf) (ve := rm_ve s E st (si_c rc wc lk s) ve) (yl := yl1) (la := la) (od := od) (sm := sm) (s := s) (post := post)
      have e := le_u hx'' hx'
      subst e
      exact h210 _ hz
theorem vy_116 {s key : Nat} {E : Int32} : ∀ (d i : Nat), i + d = 16 → ∀ yl : Nat → Int32, (∀ j, j < i → yl j = 0) → ∃ yl', (∀ j, j < 16 → yl' j = 0) ∧
    ∀ (post : Int32 → SY → Prop) n m, d < n → 0 < m → wY_remove_116 post (nI s) (nI key) E sc fc m 16 th ch ro lk st nw bf ve bk md yl' la od sm fr ct → wY_remove_116 post (nI s) (nI key) E sc fc (n + m) (nI i) th ch ro lk st nw bf ve bk md yl la od sm fr ct := by
  intro d
  induction d with
  | zero =>
    intro i hi yl h
    refine ⟨yl, fun j hj => h j (by omega), fun post n m hn hm hp => ?_⟩
    have e : i = 16 := by omega
    subst e
    obtain ⟨m, rfl⟩ : ∃ m', m = m' + 1 := ⟨m - 1, by omega⟩
    have a1 : ((16 : Int32) ≤ 16) = True := eq_true (by decide)
    rw [show n + (m + 1) = (n + m) + 1 by omega]
    simp (disch := omega) only [wY_remove_116, nu_a16, a1, forall_eq, true_implies, false_implies, implies_true, not_true_eq_false, not_false_eq_true, and_true, true_and, and_self, true_or, or_true, false_or, or_false, false_and, and_false, eq_self] at hp ⊢
    exact hp
  | succ d ih =>
    intro i hi yl h
    obtain ⟨yl', h', hX⟩ := ih (i + 1) (by omega) (upd yl i 0) (fun j hj => by
      by_cases q : j = i
      · rw [q, pk_us]
      · rw [pk_un q]
        exact h j (by omega))
    refine ⟨yl', h', fun post n m hn hm hp => ?_⟩
    obtain ⟨n, rfl⟩ : ∃ n', n = n' + 1 := ⟨n - 1, by omega⟩
    rw [show n + 1 + m = (n + m) + 1 by omega]
    simp (disch := omega) only [wY_remove_116, nu_b16, nu_01, nu_40, nu_30, nu_20, nu_160, Int32.add_zero, Nat.reduceAdd, nu_m16, nu_16m, nu_m4, nu_4m, nu_m3, nu_3m, nu_m2, nu_2m, nI_1, nu_p2, nu_p3, nu_16p, nu_2p, nI_add, nu_cl, nu_in, Nat.add_zero, nu_l0, nu_l1, nu_l2, nu_l3, nu_l4, nu_i0_5, nu_i1_5, nu_i2_5, nu_i0_3, nu_i1_3, nu_i2_3, nu_n0, nu_n1, nu_na0, nu_na1, forall_eq, true_implies, false_implies, implies_true, not_true_eq_false, not_false_eq_true, and_true, true_and, and_self, true_or, or_true, false_or, or_false, false_and, and_false, eq_self]
    exact hX post n m (by omega) hm hp
end
theorem rm_R {s : Nat} {D : Nat → Prop} {md bk ch lk st rt rc wt wc en sn th ro nw bf ve : Nat → Int32} (R : re_R md bk ch lk st rt rc wt wc en sn th ro nw bf ve) (hD : ∀ k, k < 16 → D k → ¬ st (16 * s + k) = 1 ∧ ¬ st (16 * s + k) = 5) :
    re_R md bk ch lk (rm_st s D st) rt rc wt wc (rm_en s D st (si_c rc wc lk s) en) (rm_en s D st (si_c rc wc lk s) sn) th ro (rm_nw s D st (si_c rc wc lk s) nw) (rm_nw s D st (si_c rc wc lk s) bf) (rm_ve s D st (si_c rc wc lk s) ve) := by
  obtain ⟨a1, a2, a3, a4, a5, a6, a7, a8, a9, a10, a11, a12, a13⟩ := R
  exact ⟨a1, a2, a3, a4, a5, rm_K a6, a7, a8, a9, rm_E a10 (fun k hk => si_L a8 a9 hk), rm_N a11, rm_S a12, rm_V a13 hD a6⟩
section
variable {md bk rt rc lk wt wc ch st en sn th ro nw bf ve : Nat → Int32}
variable (sc fc cc rq : Int32) (ct sk sr fr lf cr rr yl la od sm : Nat → Int32)
theorem rv_S {s key : Nat} (hs : s < 3) (hk : key < 16) (h4 : st (16 * s + key) = 4) (R : re_R md bk ch lk st rt rc wt wc en sn th ro nw bf ve) :
    ∃ (rq' : Int32) (ct' st' en' sn' rr' nw' bf' ve' yl' : Nat → Int32), re_R md bk ch lk st' rt rc wt wc en' sn' th ro nw' bf' ve' ∧
      (∀ post : SX → Prop, post (sc, fc, cc, rq', md, bk, ct', rt, rc, lk, wt, wc, ch, st', en', sn', sk, sr, fr, lf, cr, rr') → wpX_removeManaged post (sc, fc, cc, rq, md, bk, ct, rt, rc, lk, wt, wc, ch, st, en, sn, sk, sr, fr, lf, cr, rr) (nI s) (nI key)) ∧
      (∀ post : Int32 → SY → Prop, post 0 (sc, fc, th, ch, ro, lk, st', nw', bf', ve', bk, md, yl', la, od, sm, fr, ct') → wY_remove_82 post (nI s) (nI key) (nI (16 * s + key)) 1 sc fc th ch ro lk st nw bf ve bk md yl la od sm fr ct) := by
  have R0 : re_R md bk ch lk (upd st (16 * s + key) 5) rt rc wt wc en sn th ro nw bf ve := kd_R R (by decide) (Or.inr (Or.inr ⟨by rw [h4]; decide, by rw [h4]; decide⟩)) (fun _ => Or.inl h4)
  have hkey : upd st (16 * s + key) 5 (16 * s + key) = 5 := pk_us
  obtain ⟨yl1, hy1, hY1⟩ := vy_116 (sc := sc) (fc := fc) (md := md) (bk := bk) (ct := ct) (lk := lk) (ch := ch) (st := st) (fr := fr) (th := th) (ro := ro) (nw := nw) (bf := bf) (ve := ve) (la := la) (od := od) (sm := sm) (s := s) (key := key) (E := nI (16 * s + key)) 16 0 rfl yl (fun j hj => by omega)
  have a1 : ((16 : Int32) ≤ 16) = True := eq_true (by decide)
  by_cases hm : md 1 = 0
  · refine ⟨nI 1, ct, upd st (16 * s + key) 5, en, sn, upd rr 0 (nI key), nw, bf, ve, upd yl1 key 0, R0, fun post hp => ?_, fun post hp => ?_⟩
    · simp (disch := omega) only [wpX_removeManaged, wpX_addRemoved, nu_i0_16, hm, nu_01, nu_40, nu_30, nu_20, nu_160, Int32.add_zero, Nat.reduceAdd, nu_m16, nu_16m, nu_m4, nu_4m, nu_m3, nu_3m, nu_m2, nu_2m, nI_1, nu_p2, nu_p3, nu_16p, nu_2p, nI_add, nu_cl, nu_in, Nat.add_zero, nu_l0, nu_l1, nu_l2, nu_l3, nu_l4, nu_i0_5, nu_i1_5, nu_i2_5, nu_i0_3, nu_i1_3, nu_i2_3, nu_n0, nu_n1, nu_na0, nu_na1, forall_eq, true_implies, false_implies, implies_true, not_true_eq_false, not_false_eq_true, and_true, true_and, and_self, true_or, or_true, false_or, or_false, false_and, and_false, eq_self]
      exact hp
    · simp (disch := omega) only [wY_remove_82, nu_k10, nu_k42, h4, nu_01, nu_40, nu_30, nu_20, nu_160, Int32.add_zero, Nat.reduceAdd, nu_m16, nu_16m, nu_m4, nu_4m, nu_m3, nu_3m, nu_m2, nu_2m, nI_1, nu_p2, nu_p3, nu_16p, nu_2p, nI_add, nu_cl, nu_in, Nat.add_zero, nu_l0, nu_l1, nu_l2, nu_l3, nu_l4, nu_i0_5, nu_i1_5, nu_i2_5, nu_i0_3, nu_i1_3, nu_i2_3, nu_n0, nu_n1, nu_na0, nu_na1, forall_eq, true_implies, false_implies, implies_true, not_true_eq_false, not_false_eq_true, and_true, true_and, and_self, true_or, or_true, false_or, or_false, false_and, and_false, eq_self]
      refine ⟨17 + 1, hY1 post 17 1 (by decide) (by decide) ?_⟩
      simp (disch := omega) only [wY_remove_116, a1, hm, nu_01, nu_40, nu_30, nu_20, nu_160, Int32.add_zero, Nat.reduceAdd, nu_m16, nu_16m, nu_m4, nu_4m, nu_m3, nu_3m, nu_m2, nu_2m, nI_1, nu_p2, nu_p3, nu_16p, nu_2p, nI_add, nu_cl, nu_in, Nat.add_zero, nu_l0, nu_l1, nu_l2, nu_l3, nu_l4, nu_i0_5, nu_i1_5, nu_i2_5, nu_i0_3, nu_i1_3, nu_i2_3, nu_n0, nu_n1, nu_na0, nu_na1, forall_eq, true_implies, false_implies, implies_true, not_true_eq_false, not_false_eq_true, and_true, true_and, and_self, true_or, or_true, false_or, or_false, false_and, and_false, eq_self]
      refine ⟨1, ?_⟩
      simp only [wY_remove_173, nu_m1lt, forall_eq, true_implies, false_implies, implies_true, not_true_eq_false, not_false_eq_true, and_true, true_and, and_self, true_or, or_true, false_or, or_false, false_and, and_false, eq_self]
      exact hp
  · have m1 : md 1 = 1 := (re_rmd R 1).resolve_left hm
    have q0 : ∀ k, k < 16 → (k = key ↔ dn_Q (upd st (16 * s + key) 5) s key (fun _ => False) k) := fun k _ => ⟨Or.inl, fun q => q.elim id (fun z => z.2.elim)⟩
    have I0 := rm_Ie q0 (rm_I0 (key := key) (tg := dn_T (upd st (16 * s + key) 5) en rt wt rc wc lk s) (rem := fun k => ¬ upd st (16 * s + key) 5 (16 * s + k) = 2))
    have D0 : ∀ k, k < 16 → ((fun _ : Nat => False) k ↔ ∃ x, x < 16 ∧ (fun _ : Nat => False) x ∧ dn_T (upd st (16 * s + key) 5) en rt wt rc wc lk s k x) := fun k _ => ⟨fun z => z.elim, fun ⟨_, _, z, _⟩ => z.elim⟩
    have c1 : cn_n (fun k => k = key) 16 = 1 := by
      have := cn_in (P := fun _ => False) (Q := fun k => k = key) (a := key) (N := 16) hk id (fun k _ => ⟨Or.inr, fun z => z.elim False.elim id⟩)
      rw [cn_F] at this
      exact this
    have L0 : dn_L (dn_Q (upd st (16 * s + key) 5) s key (fun _ => False)) 1 (upd rr 0 (nI key)) := by
      refine dn_Le q0 ⟨c1.symm, fun j hj => ?_, fun k hk' q => ⟨0, by decide, by rw [pk_us, q]⟩⟩
      have e : j = 0 := by omega
      rw [e, pk_us]
      exact ⟨key, hk, rfl, rfl⟩
    obtain ⟨PX, DX, rq', rr', x1, x2, x3, hX3⟩ := dx_3 (sc := sc) (fc := fc) (cc := cc) (md := md) (bk := bk) (ct := ct) (ch := ch) (sn := sn) (sk := sk) (sr := sr) (fr := fr) (lf := lf) (cr := cr) hs (re_rT R0) (re_rth R0) (re_rK R0) hkey 16 0 rfl (fun _ => False) (fun _ => False) 1 (upd rr 0 (nI key)) D0 L0 (by decide) (fun k _ => ⟨fun z => z.elim, fun ⟨j, hj, _⟩ => by omega⟩) I0
    obtain ⟨PY, DY, y1, y2, y3, yl', hY3⟩ := dy_3 (sc := sc) (fc := fc) (md := md) (bk := bk) (ct := ct) (ch := ch) (fr := fr) (bf := bf) (ve := ve) (la := la) (od := od) (sm := sm) hs (re_rT R0) (re_rC R0) (re_rK R0) (re_rN R0) hkey 16 (fun _ => False) (fun _ => False) (upd yl1 key 1) (nI key) (by omega) D0 (fun k hk' => by
      rw [← q0 k hk']
      by_cases e : k = key
      · rw [e, pk_us]
        exact ⟨fun _ => ⟨rfl, id⟩, fun _ => by decide⟩
      · rw [pk_un e, hy1 k hk']
        exact ⟨fun z => absurd rfl z, fun z => absurd z.1 e⟩) (Or.inr ⟨key, hk, rfl, by dsimp only; rw [pk_us]; decide, fun j hj => by dsimp only; rw [pk_un (by omega), hy1 j (by omega)]; exact fun z => z rfl⟩) I0
    have hPP := rm_Iu hk x2 x3 y2 y3
    have hDD : ∀ k, k < 16 → (DX k ↔ DY k) := fun k hk' => by
      rw [x1 k hk', y1 k hk']
      exact ⟨fun ⟨x, a, b, c⟩ => ⟨x, a, (hPP x a).mp b, c⟩, fun ⟨x, a, b, c⟩ => ⟨x, a, (hPP x a).mpr b, c⟩⟩
    have hcn : cn_n PX 16 = cn_n PY 16 := cn_eq hPP
    have hDk : ∀ k, k < 16 → DX k → ¬ upd st (16 * s + key) 5 (16 * s + k) = 1 ∧ ¬ upd st (16 * s + key) 5 (16 * s + k) = 5 := fun k hk' q => by
      obtain ⟨x, _, _, z⟩ := (x1 k hk').mp q
      exact dn_Tk z
    refine ⟨rq', upd ct 0 (ct 0 + nI (cn_n PX 16)), _, _, _, rr', _, _, _, yl', rm_R R0 hDk, fun post hp => ?_, fun post hp => ?_⟩
    · have hx := hX3 post 17 (by decide) hp
      rw [nI_0, nu_0a, rm_st0, rm_en0, rm_en0] at hx
      simp (disch := omega) only [wpX_removeManaged, wpX_addRemoved, nu_i0_16, hm, nu_01, nu_40, nu_30, nu_20, nu_160, Int32.add_zero, Nat.reduceAdd, nu_m16, nu_16m, nu_m4, nu_4m, nu_m3, nu_3m, nu_m2, nu_2m, nI_1, nu_p2, nu_p3, nu_16p, nu_2p, nI_add, nu_cl, nu_in, Nat.add_zero, nu_l0, nu_l1, nu_l2, nu_l3, nu_l4, nu_i0_5, nu_i1_5, nu_i2_5, nu_i0_3, nu_i1_3, nu_i2_3, nu_n0, nu_n1, nu_na0, nu_na1, forall_eq, true_implies, false_implies, implies_true, not_true_eq_false, not_false_eq_true, and_true, true_and, and_self, true_or, or_true, false_or, or_false, false_and, and_false, eq_self]
      exact ⟨17, hx⟩
    · rw [hcn, rm_stE hDD, rm_nwE hDD, rm_nwE hDD, rm_veE hDD] at hp
      have hy := hY3 post 17 (by decide) hp
      rw [cn_F, nI_0, nu_0a, rm_st0, rm_nw0, rm_nw0, rm_ve0] at hy
      simp (disch := omega) only [wY_remove_82, nu_k10, nu_k42, h4, nu_01, nu_40, nu_30, nu_20, nu_160, Int32.add_zero, Nat.reduceAdd, nu_m16, nu_16m, nu_m4, nu_4m, nu_m3, nu_3m, nu_m2, nu_2m, nI_1, nu_p2, nu_p3, nu_16p, nu_2p, nI_add, nu_cl, nu_in, Nat.add_zero, nu_l0, nu_l1, nu_l2, nu_l3, nu_l4, nu_i0_5, nu_i1_5, nu_i2_5, nu_i0_3, nu_i1_3, nu_i2_3, nu_n0, nu_n1, nu_na0, nu_na1, forall_eq, true_implies, false_implies, implies_true, not_true_eq_false, not_false_eq_true, and_true, true_and, and_self, true_or, or_true, false_or, or_false, false_and, and_false, eq_self]
      refine ⟨17 + 1, hY1 post 17 1 (by decide) (by decide) ?_⟩
      simp (disch := omega) only [wY_remove_116, a1, m1, nu_k10, nu_01, nu_40, nu_30, nu_20, nu_160, Int32.add_zero, Nat.reduceAdd, nu_m16, nu_16m, nu_m4, nu_4m, nu_m3, nu_3m, nu_m2, nu_2m, nI_1, nu_p2, nu_p3, nu_16p, nu_2p, nI_add, nu_cl, nu_in, Nat.add_zero, nu_l0, nu_l1, nu_l2, nu_l3, nu_l4, nu_i0_5, nu_i1_5, nu_i2_5, nu_i0_3, nu_i1_3, nu_i2_3, nu_n0, nu_n1, nu_na0, nu_na1, forall_eq, true_implies, false_implies, implies_true, not_true_eq_false, not_false_eq_true, and_true, true_and, and_self, true_or, or_true, false_or, or_false, false_and, and_false, eq_self]
      exact ⟨17, hy⟩
end
theorem rv_T {u : SX} {v : SY} (I : i_Rel 0 u v) (v1 v2 : Int32) : sm_S (fun post => wpX_remove post u v1 v2) (fun post => wpY_remove post v v1 v2) := by
  obtain ⟨n, m, cc, rq, md, bk, ct, rt, rc, lk, wt, wc, ch, st, en, sn, sk, sr, fr, lf, cr, rr, th, ro, nw, bf, ve, yl, la, od, sm, rfl, rfl, hn, hm, R, hP⟩ := I
  by_cases h : er_v bk v1 v2 = 0
  · obtain ⟨s, k, hs, hk, rfl, rfl, hb⟩ := er_0 h
    rcases re_rK R (16 * s + k) with a | a | a | a | a | a
    · refine ⟨(-1), (nI n, nI m, cc, rq, md, bk, ct, rt, rc, lk, wt, wc, ch, st, en, sn, sk, sr, fr, lf, cr, rr), (nI n, nI m, th, ch, ro, lk, st, nw, bf, ve, bk, md, yl, la, od, sm, fr, ct), ir_mk hn hm (R) hP, fun post hp => ?_, fun post hp => ?_⟩
      · simp (disch := omega) only [wpX_remove, vx_err, h, a, nu_k01, nu_k02, nu_k03, nu_k04, nu_k05, nu_k10, nu_k12, nu_k13, nu_k14, nu_k15, nu_k20, nu_k21, nu_k23, nu_k24, nu_k25, nu_k30, nu_k31, nu_k32, nu_k34, nu_k35, nu_k40, nu_k41, nu_k42, nu_k43, nu_k45, nu_k50, nu_k51, nu_k52, nu_k53, nu_k54, nu_01, nu_40, nu_30, nu_20, nu_160, Int32.add_zero, Nat.reduceAdd, nu_m16, nu_16m, nu_m4, nu_4m, nu_m3, nu_3m, nu_m2, nu_2m, nI_1, nu_p2, nu_p3, nu_16p, nu_2p, nI_add, nu_cl, nu_in, Nat.add_zero, nu_l0, nu_l1, nu_l2, nu_l3, nu_l4, nu_i0_5, nu_i1_5, nu_i2_5, nu_i0_3, nu_i1_3, nu_i2_3, nu_n0, nu_n1, nu_na0, nu_na1, forall_eq, true_implies, false_implies, implies_true, not_true_eq_false, not_false_eq_true, and_true, true_and, and_self, true_or, or_true, false_or, or_false, false_and, and_false, eq_self]
        exact hp
      · simp (disch := omega) only [wpY_remove, vy_err, h, a, nu_k01, nu_k02, nu_k03, nu_k04, nu_k05, nu_k10, nu_k12, nu_k13, nu_k14, nu_k15, nu_k20, nu_k21, nu_k23, nu_k24, nu_k25, nu_k30, nu_k31, nu_k32, nu_k34, nu_k35, nu_k40, nu_k41, nu_k42, nu_k43, nu_k45, nu_k50, nu_k51, nu_k52, nu_k53, nu_k54, nu_01, nu_40, nu_30, nu_20, nu_160, Int32.add_zero, Nat.reduceAdd, nu_m16, nu_16m, nu_m4, nu_4m, nu_m3, nu_3m, nu_m2, nu_2m, nI_1, nu_p2, nu_p3, nu_16p, nu_2p, nI_add, nu_cl, nu_in, Nat.add_zero, nu_l0, nu_l1, nu_l2, nu_l3, nu_l4, nu_i0_5, nu_i1_5, nu_i2_5, nu_i0_3, nu_i1_3, nu_i2_3, nu_n0, nu_n1, nu_na0, nu_na1, forall_eq, true_implies, false_implies, implies_true, not_true_eq_false, not_false_eq_true, and_true, true_and, and_self, true_or, or_true, false_or, or_false, false_and, and_false, eq_self]
        exact hp
    · refine ⟨(-1), (nI n, nI m, cc, rq, md, bk, ct, rt, rc, lk, wt, wc, ch, st, en, sn, sk, sr, fr, lf, cr, rr), (nI n, nI m, th, ch, ro, lk, st, nw, bf, ve, bk, md, yl, la, od, sm, fr, ct), ir_mk hn hm (R) hP, fun post hp => ?_, fun post hp => ?_⟩
      · simp (disch := omega) only [wpX_remove, vx_err, h, a, nu_k01, nu_k02, nu_k03, nu_k04, nu_k05, nu_k10, nu_k12, nu_k13, nu_k14, nu_k15, nu_k20, nu_k21, nu_k23, nu_k24, nu_k25, nu_k30, nu_k31, nu_k32, nu_k34, nu_k35, nu_k40, nu_k41, nu_k42, nu_k43, nu_k45, nu_k50, nu_k51, nu_k52, nu_k53, nu_k54, nu_01, nu_40, nu_30, nu_20, nu_160, Int32.add_zero, Nat.reduceAdd, nu_m16, nu_16m, nu_m4, nu_4m, nu_m3, nu_3m, nu_m2, nu_2m, nI_1, nu_p2, nu_p3, nu_16p, nu_2p, nI_add, nu_cl, nu_in, Nat.add_zero, nu_l0, nu_l1, nu_l2, nu_l3, nu_l4, nu_i0_5, nu_i1_5, nu_i2_5, nu_i0_3, nu_i1_3, nu_i2_3, nu_n0, nu_n1, nu_na0, nu_na1, forall_eq, true_implies, false_implies, implies_true, not_true_eq_false, not_false_eq_true, and_true, true_and, and_self, true_or, or_true, false_or, or_false, false_and, and_false, eq_self]
        exact hp
      · simp (disch := omega) only [wpY_remove, vy_err, h, a, nu_k01, nu_k02, nu_k03, nu_k04, nu_k05, nu_k10, nu_k12, nu_k13, nu_k14, nu_k15, nu_k20, nu_k21, nu_k23, nu_k24, nu_k25, nu_k30, nu_k31, nu_k32, nu_k34, nu_k35, nu_k40, nu_k41, nu_k42, nu_k43, nu_k45, nu_k50, nu_k51, nu_k52, nu_k53, nu_k54, nu_01, nu_40, nu_30, nu_20, nu_160, Int32.add_zero, Nat.reduceAdd, nu_m16, nu_16m, nu_m4, nu_4m, nu_m3, nu_3m, nu_m2, nu_2m, nI_1, nu_p2, nu_p3, nu_16p, nu_2p, nI_add, nu_cl, nu_in, Nat.add_zero, nu_l0, nu_l1, nu_l2, nu_l3, nu_l4, nu_i0_5, nu_i1_5, nu_i2_5, nu_i0_3, nu_i1_3, nu_i2_3, nu_n0, nu_n1, nu_na0, nu_na1, forall_eq, true_implies, false_implies, implies_true, not_true_eq_false, not_false_eq_true, and_true, true_and, and_self, true_or, or_true, false_or, or_false, false_and, and_false, eq_self]
        exact hp
    · refine ⟨0, (nI n, nI m, cc, rq, md, bk, ct, rt, rc, lk, wt, wc, ch, upd st (16 * s + k) 1, en, sn, sk, sr, fr, lf, cr, rr), (nI n, nI m, th, ch, ro, lk, upd st (16 * s + k) 1, nw, bf, ve, bk, md, yl, la, od, sm, fr, ct), ir_mk hn hm (kd_R R (by decide) (Or.inr (Or.inr ⟨by rw [a]; decide, by rw [a]; decide⟩)) (fun q => absurd q (by decide))) hP, fun post hp => ?_, fun post hp => ?_⟩
      · simp (disch := omega) only [wpX_remove, wX_remove_67, vx_err, h, a, nu_k01, nu_k02, nu_k03, nu_k04, nu_k05, nu_k10, nu_k12, nu_k13, nu_k14, nu_k15, nu_k20, nu_k21, nu_k23, nu_k24, nu_k25, nu_k30, nu_k31, nu_k32, nu_k34, nu_k35, nu_k40, nu_k41, nu_k42, nu_k43, nu_k45, nu_k50, nu_k51, nu_k52, nu_k53, nu_k54, nu_01, nu_40, nu_30, nu_20, nu_160, Int32.add_zero, Nat.reduceAdd, nu_m16, nu_16m, nu_m4, nu_4m, nu_m3, nu_3m, nu_m2, nu_2m, nI_1, nu_p2, nu_p3, nu_16p, nu_2p, nI_add, nu_cl, nu_in, Nat.add_zero, nu_l0, nu_l1, nu_l2, nu_l3, nu_l4, nu_i0_5, nu_i1_5, nu_i2_5, nu_i0_3, nu_i1_3, nu_i2_3, nu_n0, nu_n1, nu_na0, nu_na1, forall_eq, true_implies, false_implies, implies_true, not_true_eq_false, not_false_eq_true, and_true, true_and, and_self, true_or, or_true, false_or, or_false, false_and, and_false, eq_self]
        exact hp
      · simp (disch := omega) only [wpY_remove, wY_remove_77, wY_remove_82, vy_err, h, a, nu_k01, nu_k02, nu_k03, nu_k04, nu_k05, nu_k10, nu_k12, nu_k13, nu_k14, nu_k15, nu_k20, nu_k21, nu_k23, nu_k24, nu_k25, nu_k30, nu_k31, nu_k32, nu_k34, nu_k35, nu_k40, nu_k41, nu_k42, nu_k43, nu_k45, nu_k50, nu_k51, nu_k52, nu_k53, nu_k54, nu_01, nu_40, nu_30, nu_20, nu_160, Int32.add_zero, Nat.reduceAdd, nu_m16, nu_16m, nu_m4, nu_4m, nu_m3, nu_3m, nu_m2, nu_2m, nI_1, nu_p2, nu_p3, nu_16p, nu_2p, nI_add, nu_cl, nu_in, Nat.add_zero, nu_l0, nu_l1, nu_l2, nu_l3, nu_l4, nu_i0_5, nu_i1_5, nu_i2_5, nu_i0_3, nu_i1_3, nu_i2_3, nu_n0, nu_n1, nu_na0, nu_na1, forall_eq, true_implies, false_implies, implies_true, not_true_eq_false, not_false_eq_true, and_true, true_and, and_self, true_or, or_true, false_or, or_false, false_and, and_false, eq_self]
        exact hp
    · obtain ⟨b, ct', ch', st', en', sn', nw', bf', ve', hb, R', h1, hX, hY⟩ := to_S (nI n) (nI m) cc rq ct sk sr fr lf cr rr yl la od sm hs hk R
      rcases hb with rfl | rfl
      · refine ⟨(-3), (nI n, nI m, cc, rq, md, bk, ct', rt, rc, lk, wt, wc, ch', st', en', sn', sk, sr, fr, lf, cr, rr), (nI n, nI m, th, ch', ro, lk, st', nw', bf', ve', bk, md, yl, la, od, sm, fr, ct'), ir_mk hn hm (R') hP, fun post hp => ?_, fun post hp => ?_⟩
        · simp (disch := omega) only [wpX_remove, vx_err, h, a, nu_k01, nu_k02, nu_k03, nu_k04, nu_k05, nu_k10, nu_k12, nu_k13, nu_k14, nu_k15, nu_k20, nu_k21, nu_k23, nu_k24, nu_k25, nu_k30, nu_k31, nu_k32, nu_k34, nu_k35, nu_k40, nu_k41, nu_k42, nu_k43, nu_k45, nu_k50, nu_k51, nu_k52, nu_k53, nu_k54, nu_01, nu_40, nu_30, nu_20, nu_160, Int32.add_zero, Nat.reduceAdd, nu_m16, nu_16m, nu_m4, nu_4m, nu_m3, nu_3m, nu_m2, nu_2m, nI_1, nu_p2, nu_p3, nu_16p, nu_2p, nI_add, nu_cl, nu_in, Nat.add_zero, nu_l0, nu_l1, nu_l2, nu_l3, nu_l4, nu_i0_5, nu_i1_5, nu_i2_5, nu_i0_3, nu_i1_3, nu_i2_3, nu_n0, nu_n1, nu_na0, nu_na1, forall_eq, true_implies, false_implies, implies_true, not_true_eq_false, not_false_eq_true, and_true, true_and, and_self, true_or, or_true, false_or, or_false, false_and, and_false, eq_self]
          refine hX _ ?_
          simp (disch := omega) only [nu_k10, nu_01, nu_40, nu_30, nu_20, nu_160, Int32.add_zero, Nat.reduceAdd, nu_m16, nu_16m, nu_m4, nu_4m, nu_m3, nu_3m, nu_m2, nu_2m, nI_1, nu_p2, nu_p3, nu_16p, nu_2p, nI_add, nu_cl, nu_in, Nat.add_zero, nu_l0, nu_l1, nu_l2, nu_l3, nu_l4, nu_i0_5, nu_i1_5, nu_i2_5, nu_i0_3, nu_i1_3, nu_i2_3, nu_n0, nu_n1, nu_na0, nu_na1, forall_eq, true_implies, false_implies, implies_true, not_true_eq_false, not_false_eq_true, and_true, true_and, and_self, true_or, or_true, false_or, or_false, false_and, and_false, eq_self]
          exact hp
        · simp (disch := omega) only [wpY_remove, vy_err, h, a, nu_k01, nu_k02, nu_k03, nu_k04, nu_k05, nu_k10, nu_k12, nu_k13, nu_k14, nu_k15, nu_k20, nu_k21, nu_k23, nu_k24, nu_k25, nu_k30, nu_k31, nu_k32, nu_k34, nu_k35, nu_k40, nu_k41, nu_k42, nu_k43, nu_k45, nu_k50, nu_k51, nu_k52, nu_k53, nu_k54, nu_01, nu_40, nu_30, nu_20, nu_160, Int32.add_zero, Nat.reduceAdd, nu_m16, nu_16m, nu_m4, nu_4m, nu_m3, nu_3m, nu_m2, nu_2m, nI_1, nu_p2, nu_p3, nu_16p, nu_2p, nI_add, nu_cl, nu_in, Nat.add_zero, nu_l0, nu_l1, nu_l2, nu_l3, nu_l4, nu_i0_5, nu_i1_5, nu_i2_5, nu_i0_3, nu_i1_3, nu_i2_3, nu_n0, nu_n1, nu_na0, nu_na1, forall_eq, true_implies, false_implies, implies_true, not_true_eq_false, not_false_eq_true, and_true, true_and, and_self, true_or, or_true, false_or, or_false, false_and, and_false, eq_self]
          refine hY _ ?_
          simp (disch := omega) only [wY_remove_82, nu_k10, nu_01, nu_40, nu_30, nu_20, nu_160, Int32.add_zero, Nat.reduceAdd, nu_m16, nu_16m, nu_m4, nu_4m, nu_m3, nu_3m, nu_m2, nu_2m, nI_1, nu_p2, nu_p3, nu_16p, nu_2p, nI_add, nu_cl, nu_in, Nat.add_zero, nu_l0, nu_l1, nu_l2, nu_l3, nu_l4, nu_i0_5, nu_i1_5, nu_i2_5, nu_i0_3, nu_i1_3, nu_i2_3, nu_n0, nu_n1, nu_na0, nu_na1, forall_eq, true_implies, false_implies, implies_true, not_true_eq_false, not_false_eq_true, and_true, true_and, and_self, true_or, or_true, false_or, or_false, false_and, and_false, eq_self]
          exact hp
      · have f4 := h1 rfl
        obtain ⟨rq2, ct2, st2, en2, sn2, rr2, nw2, bf2, ve2, yl2, R2, gX, gY⟩ := rv_S (nI n) (nI m) cc rq ct' sk sr fr lf cr rr yl la od sm hs hk f4 R'
        refine ⟨0, (nI n, nI m, cc, rq2, md, bk, ct2, rt, rc, lk, wt, wc, ch', st2, en2, sn2, sk, sr, fr, lf, cr, rr2), (nI n, nI m, th, ch', ro, lk, st2, nw2, bf2, ve2, bk, md, yl2, la, od, sm, fr, ct2), ir_mk hn hm R2 hP, fun post hp => ?_, fun post hp => ?_⟩
        · simp (disch := omega) only [wpX_remove, vx_err, h, a, nu_k01, nu_k02, nu_k03, nu_k04, nu_k05, nu_k10, nu_k12, nu_k13, nu_k14, nu_k15, nu_k20, nu_k21, nu_k23, nu_k24, nu_k25, nu_k30, nu_k31, nu_k32, nu_k34, nu_k35, nu_k40, nu_k41, nu_k42, nu_k43, nu_k45, nu_k50, nu_k51, nu_k52, nu_k53, nu_k54, nu_01, nu_40, nu_30, nu_20, nu_160, Int32.add_zero, Nat.reduceAdd, nu_m16, nu_16m, nu_m4, nu_4m, nu_m3, nu_3m, nu_m2, nu_2m, nI_1, nu_p2, nu_p3, nu_16p, nu_2p, nI_add, nu_cl, nu_in, Nat.add_zero, nu_l0, nu_l1, nu_l2, nu_l3, nu_l4, nu_i0_5, nu_i1_5, nu_i2_5, nu_i0_3, nu_i1_3, nu_i2_3, nu_n0, nu_n1, nu_na0, nu_na1, forall_eq, true_implies, false_implies, implies_true, not_true_eq_false, not_false_eq_true, and_true, true_and, and_self, true_or, or_true, false_or, or_false, false_and, and_false, eq_self]
          refine hX _ ?_
          simp (disch := omega) only [wX_remove_67, f4, nu_k01, nu_k02, nu_k03, nu_k04, nu_k05, nu_k10, nu_k12, nu_k13, nu_k14, nu_k15, nu_k20, nu_k21, nu_k23, nu_k24, nu_k25, nu_k30, nu_k31, nu_k32, nu_k34, nu_k35, nu_k40, nu_k41, nu_k42, nu_k43, nu_k45, nu_k50, nu_k51, nu_k52, nu_k53, nu_k54, nu_01, nu_40, nu_30, nu_20, nu_160, Int32.add_zero, Nat.reduceAdd, nu_m16, nu_16m, nu_m4, nu_4m, nu_m3, nu_3m, nu_m2, nu_2m, nI_1, nu_p2, nu_p3, nu_16p, nu_2p, nI_add, nu_cl, nu_in, Nat.add_zero, nu_l0, nu_l1, nu_l2, nu_l3, nu_l4, nu_i0_5, nu_i1_5, nu_i2_5, nu_i0_3, nu_i1_3, nu_i2_3, nu_n0, nu_n1, nu_na0, nu_na1, forall_eq, true_implies, false_implies, implies_true, not_true_eq_false, not_false_eq_true, and_true, true_and, and_self, true_or, or_true, false_or, or_false, false_and, and_false, eq_self]
          exact gX _ hp
        · simp (disch := omega) only [wpY_remove, vy_err, h, a, nu_k01, nu_k02, nu_k03, nu_k04, nu_k05, nu_k10, nu_k12, nu_k13, nu_k14, nu_k15, nu_k20, nu_k21, nu_k23, nu_k24, nu_k25, nu_k30, nu_k31, nu_k32, nu_k34, nu_k35, nu_k40, nu_k41, nu_k42, nu_k43, nu_k45, nu_k50, nu_k51, nu_k52, nu_k53, nu_k54, nu_01, nu_40, nu_30, nu_20, nu_160, Int32.add_zero, Nat.reduceAdd, nu_m16, nu_16m, nu_m4, nu_4m, nu_m3, nu_3m, nu_m2, nu_2m, nI_1, nu_p2, nu_p3, nu_16p, nu_2p, nI_add, nu_cl, nu_in, Nat.add_zero, nu_l0, nu_l1, nu_l2, nu_l3, nu_l4, nu_i0_5, nu_i1_5, nu_i2_5, nu_i0_3, nu_i1_3, nu_i2_3, nu_n0, nu_n1, nu_na0, nu_na1, forall_eq, true_implies, false_implies, implies_true, not_true_eq_false, not_false_eq_true, and_true, true_and, and_self, true_or, or_true, false_or, or_false, false_and, and_false, eq_self]
          refine hY _ ?_
          simp (disch := omega) only [wY_remove_77, nu_k01, nu_k02, nu_k03, nu_k04, nu_k05, nu_k10, nu_k12, nu_k13, nu_k14, nu_k15, nu_k20, nu_k21, nu_k23, nu_k24, nu_k25, nu_k30, nu_k31, nu_k32, nu_k34, nu_k35, nu_k40, nu_k41, nu_k42, nu_k43, nu_k45, nu_k50, nu_k51, nu_k52, nu_k53, nu_k54, forall_eq, true_implies, false_implies, implies_true, not_true_eq_false, not_false_eq_true, and_true, true_and, and_self, true_or, or_true, false_or, or_false, false_and, and_false, eq_self]
          exact gY _ hp
    · obtain ⟨rq2, ct2, st2, en2, sn2, rr2, nw2, bf2, ve2, yl2, R2, gX, gY⟩ := rv_S (nI n) (nI m) cc rq ct sk sr fr lf cr rr yl la od sm hs hk a R
      refine ⟨0, (nI n, nI m, cc, rq2, md, bk, ct2, rt, rc, lk, wt, wc, ch, st2, en2, sn2, sk, sr, fr, lf, cr, rr2), (nI n, nI m, th, ch, ro, lk, st2, nw2, bf2, ve2, bk, md, yl2, la, od, sm, fr, ct2), ir_mk hn hm R2 hP, fun post hp => ?_, fun post hp => ?_⟩
      · simp (disch := omega) only [wpX_remove, wX_remove_67, vx_err, h, a, nu_k01, nu_k02, nu_k03, nu_k04, nu_k05, nu_k10, nu_k12, nu_k13, nu_k14, nu_k15, nu_k20, nu_k21, nu_k23, nu_k24, nu_k25, nu_k30, nu_k31, nu_k32, nu_k34, nu_k35, nu_k40, nu_k41, nu_k42, nu_k43, nu_k45, nu_k50, nu_k51, nu_k52, nu_k53, nu_k54, nu_01, nu_40, nu_30, nu_20, nu_160, Int32.add_zero, Nat.reduceAdd, nu_m16, nu_16m, nu_m4, nu_4m, nu_m3, nu_3m, nu_m2, nu_2m, nI_1, nu_p2, nu_p3, nu_16p, nu_2p, nI_add, nu_cl, nu_in, Nat.add_zero, nu_l0, nu_l1, nu_l2, nu_l3, nu_l4, nu_i0_5, nu_i1_5, nu_i2_5, nu_i0_3, nu_i1_3, nu_i2_3, nu_n0, nu_n1, nu_na0, nu_na1, forall_eq, true_implies, false_implies, implies_true, not_true_eq_false, not_false_eq_true, and_true, true_and, and_self, true_or, or_true, false_or, or_false, false_and, and_false, eq_self]
        exact gX _ hp
      · simp (disch := omega) only [wpY_remove, wY_remove_77, vy_err, h, a, nu_k01, nu_k02, nu_k03, nu_k04, nu_k05, nu_k10, nu_k12, nu_k13, nu_k14, nu_k15, nu_k20, nu_k21, nu_k23, nu_k24, nu_k25, nu_k30, nu_k31, nu_k32, nu_k34, nu_k35, nu_k40, nu_k41, nu_k42, nu_k43, nu_k45, nu_k50, nu_k51, nu_k52, nu_k53, nu_k54, nu_01, nu_40, nu_30, nu_20, nu_160, Int32.add_zero, Nat.reduceAdd, nu_m16, nu_16m, nu_m4, nu_4m, nu_m3, nu_3m, nu_m2, nu_2m, nI_1, nu_p2, nu_p3, nu_16p, nu_2p, nI_add, nu_cl, nu_in, Nat.add_zero, nu_l0, nu_l1, nu_l2, nu_l3, nu_l4, nu_i0_5, nu_i1_5, nu_i2_5, nu_i0_3, nu_i1_3, nu_i2_3, nu_n0, nu_n1, nu_na0, nu_na1, forall_eq, true_implies, false_implies, implies_true, not_true_eq_false, not_false_eq_true, and_true, true_and, and_self, true_or, or_true, false_or, or_false, false_and, and_false, eq_self]
        exact gY _ hp
    · refine ⟨0, (nI n, nI m, cc, rq, md, bk, ct, rt, rc, lk, wt, wc, ch, st, en, sn, sk, sr, fr, lf, cr, rr), (nI n, nI m, th, ch, ro, lk, st, nw, bf, ve, bk, md, yl, la, od, sm, fr, ct), ir_mk hn hm (R) hP, fun post hp => ?_, fun post hp => ?_⟩
      · simp (disch := omega) only [wpX_remove, wX_remove_67, vx_err, h, a, nu_k01, nu_k02, nu_k03, nu_k04, nu_k05, nu_k10, nu_k12, nu_k13, nu_k14, nu_k15, nu_k20, nu_k21, nu_k23, nu_k24, nu_k25, nu_k30, nu_k31, nu_k32, nu_k34, nu_k35, nu_k40, nu_k41, nu_k42, nu_k43, nu_k45, nu_k50, nu_k51, nu_k52, nu_k53, nu_k54, nu_01, nu_40, nu_30, nu_20, nu_160, Int32.add_zero, Nat.reduceAdd, nu_m16, nu_16m, nu_m4, nu_4m, nu_m3, nu_3m, nu_m2, nu_2m, nI_1, nu_p2, nu_p3, nu_16p, nu_2p, nI_add, nu_cl, nu_in, Nat.add_zero, nu_l0, nu_l1, nu_l2, nu_l3, nu_l4, nu_i0_5, nu_i1_5, nu_i2_5, nu_i0_3, nu_i1_3, nu_i2_3, nu_n0, nu_n1, nu_na0, nu_na1, forall_eq, true_implies, false_implies, implies_true, not_true_eq_false, not_false_eq_true, and_true, true_and, and_self, true_or, or_true, false_or, or_false, false_and, and_false, eq_self]
        exact hp
      · simp (disch := omega) only [wpY_remove, vy_err, h, a, nu_k01, nu_k02, nu_k03, nu_k04, nu_k05, nu_k10, nu_k12, nu_k13, nu_k14, nu_k15, nu_k20, nu_k21, nu_k23, nu_k24, nu_k25, nu_k30, nu_k31, nu_k32, nu_k34, nu_k35, nu_k40, nu_k41, nu_k42, nu_k43, nu_k45, nu_k50, nu_k51, nu_k52, nu_k53, nu_k54, nu_01, nu_40, nu_30, nu_20, nu_160, Int32.add_zero, Nat.reduceAdd, nu_m16, nu_16m, nu_m4, nu_4m, nu_m3, nu_3m, nu_m2, nu_2m, nI_1, nu_p2, nu_p3, nu_16p, nu_2p, nI_add, nu_cl, nu_in, Nat.add_zero, nu_l0, nu_l1, nu_l2, nu_l3, nu_l4, nu_i0_5, nu_i1_5, nu_i2_5, nu_i0_3, nu_i1_3, nu_i2_3, nu_n0, nu_n1, nu_na0, nu_na1, forall_eq, true_implies, false_implies, implies_true, not_true_eq_false, not_false_eq_true, and_true, true_and, and_self, true_or, or_true, false_or, or_false, false_and, and_false, eq_self]
        exact hp
  · refine ⟨(er_v bk v1 v2), (nI n, nI m, cc, rq, md, bk, ct, rt, rc, lk, wt, wc, ch, st, en, sn, sk, sr, fr, lf, cr, rr), (nI n, nI m, th, ch, ro, lk, st, nw, bf, ve, bk, md, yl, la, od, sm, fr, ct), ir_mk hn hm (R) hP, fun post hp => ?_, fun post hp => ?_⟩
    · simp (disch := omega) only [wpX_remove, vx_err, h, nu_01, nu_40, nu_30, nu_20, nu_160, Int32.add_zero, Nat.reduceAdd, nu_m16, nu_16m, nu_m4, nu_4m, nu_m3, nu_3m, nu_m2, nu_2m, nI_1, nu_p2, nu_p3, nu_16p, nu_2p, nI_add, nu_cl, nu_in, Nat.add_zero, nu_l0, nu_l1, nu_l2, nu_l3, nu_l4, nu_i0_5, nu_i1_5, nu_i2_5, nu_i0_3, nu_i1_3, nu_i2_3, nu_n0, nu_n1, nu_na0, nu_na1, forall_eq, true_implies, false_implies, implies_true, not_true_eq_false, not_false_eq_true, and_true, true_and, and_self, true_or, or_true, false_or, or_false, false_and, and_false, eq_self]
      exact hp
    · simp (disch := omega) only [wpY_remove, vy_err, h, nu_01, nu_40, nu_30, nu_20, nu_160, Int32.add_zero, Nat.reduceAdd, nu_m16, nu_16m, nu_m4, nu_4m, nu_m3, nu_3m, nu_m2, nu_2m, nI_1, nu_p2, nu_p3, nu_16p, nu_2p, nI_add, nu_cl, nu_in, Nat.add_zero, nu_l0, nu_l1, nu_l2, nu_l3, nu_l4, nu_i0_5, nu_i1_5, nu_i2_5, nu_i0_3, nu_i1_3, nu_i2_3, nu_n0, nu_n1, nu_na0, nu_na1, forall_eq, true_implies, false_implies, implies_true, not_true_eq_false, not_false_eq_true, and_true, true_and, and_self, true_or, or_true, false_or, or_false, false_and, and_false, eq_self]
      exact hp
end
section
theorem i_vc_mode {k : Nat} {u : SX} {v : SY} (I : i_Rel k u v) (hk : k + 6 ≤ 3072) (v1 : Int32) (v2 : Int32) : wpX_mode (fun r u' => wpY_mode (fun r' v' => r' = r ∧ i_Rel (k + 6) u' v') v v1 (lw_bz v2)) u v1 (lw_bz v2) :=
  sm_o (mo_S I v1 (lw_bz v2) (lw_bz_01 v2)) k
theorem i_vc_make {k : Nat} {u : SX} {v : SY} (I : i_Rel k u v) (hk : k + 6 ≤ 3072) (v1 : Int32) (v2 : Int32) (v3 : Int32) (v4 : Int32) (v5 : Int32) : wpX_make (fun r u' => wpY_make (fun r' v' => r' = r ∧ i_Rel (k + 6) u' v') v v1 v2 v3 v4 v5) u v1 v2 v3 v4 v5 :=
  sm_o (mk_S I v1 v2 v3 v4 v5) k
theorem i_vc_persist {k : Nat} {u : SX} {v : SY} (I : i_Rel k u v) (hk : k + 6 ≤ 3072) (v1 : Int32) (v2 : Int32) : wpX_persist (fun r u' => wpY_persist (fun r' v' => r' = r ∧ i_Rel (k + 6) u' v') v v1 v2) u v1 v2 :=
  sm_o (pe_S I v1 v2) k
theorem i_vc_get {k : Nat} {u : SX} {v : SY} (I : i_Rel k u v) (hk : k + 6 ≤ 3072) (v1 : Int32) (v2 : Int32) : wpX_get (fun r u' => wpY_get (fun r' v' => r' = r ∧ i_Rel (k + 6) u' v') v v1 v2) u v1 v2 :=
  sm_o (ge_S I v1 v2) k
theorem i_vc_refer {k : Nat} {u : SX} {v : SY} (I : i_Rel k u v) (hk : k + 6 ≤ 3072) (v1 : Int32) (v2 : Int32) : wpX_refer (fun r u' => wpY_refer (fun r' v' => r' = r ∧ i_Rel (k + 6) u' v') v v1 v2) u v1 v2 :=
  sm_o (rf_S I v1 v2) k
theorem i_vc_read {k : Nat} {u : SX} {v : SY} (I : i_Rel k u v) (hk : k + 6 ≤ 3072) (v1 : Int32) (v2 : Int32) (v3 : Int32) : wpX_read (fun r u' => wpY_read (fun r' v' => r' = r ∧ i_Rel (k + 6) u' v') v v1 v2 v3) u v1 v2 v3 :=
  sm_o (re_S_ I v1 v2 v3) k
theorem i_vc_write {k : Nat} {u : SX} {v : SY} (I : i_Rel k u v) (hk : k + 6 ≤ 3072) (v1 : Int32) (v2 : Int32) (v3 : Int32) (v4 : Int32) : wpX_write (fun r u' => wpY_write (fun r' v' => r' = r ∧ i_Rel (k + 6) u' v') v v1 v2 v3 v4) u v1 v2 v3 v4 :=
  sm_o (wr_S I v1 v2 v3 v4) k
theorem i_vc_remove {k : Nat} {u : SX} {v : SY} (I : i_Rel k u v) (hk : k + 6 ≤ 3072) (v1 : Int32) (v2 : Int32) : wpX_remove (fun r u' => wpY_remove (fun r' v' => r' = r ∧ i_Rel (k + 6) u' v') v v1 v2) u v1 v2 :=
  sm_o (rv_T I v1 v2) k
theorem i_vc_detach {k : Nat} {u : SX} {v : SY} (I : i_Rel k u v) (hk : k + 6 ≤ 3072) (v1 : Int32) (v2 : Int32) : wpX_detach (fun r u' => wpY_detach (fun r' v' => r' = r ∧ i_Rel (k + 6) u' v') v v1 v2) u v1 v2 :=
  sm_o (de_S I v1 v2) k
theorem i_vc_merge {k : Nat} {u : SX} {v : SY} (I : i_Rel k u v) (hk : k + 6 ≤ 3072) (v1 : Int32) (v2 : Int32) (v3 : Int32) : wpX_merge (fun r u' => wpY_merge (fun r' v' => r' = r ∧ i_Rel (k + 6) u' v') v v1 v2 v3) u v1 v2 v3 :=
  sm_o (me_S I v1 v2 v3) k
theorem i_vc_refresh {k : Nat} {u : SX} {v : SY} (I : i_Rel k u v) (hk : k + 6 ≤ 3072) (v1 : Int32) (v2 : Int32) : wpX_refresh (fun r u' => wpY_refresh (fun r' v' => r' = r ∧ i_Rel (k + 6) u' v') v v1 v2) u v1 v2 :=
  sm_o (rr_S I v1 v2) k
theorem i_vc_find {k : Nat} {u : SX} {v : SY} (I : i_Rel k u v) (hk : k + 6 ≤ 3072) (v1 : Int32) (v2 : Int32) (v3 : Int32) : wpX_find (fun r u' => wpY_find (fun r' v' => r' = r ∧ i_Rel (k + 6) u' v') v v1 v2 v3) u v1 v2 v3 :=
  sm_o (fi_T I v1 v2 v3) k
theorem i_vc_found {k : Nat} {u : SX} {v : SY} (I : i_Rel k u v) (hk : k + 6 ≤ 3072) (v1 : Int32) : wpX_found (fun r => wpY_found (fun r' => r' = r ∧ i_Rel (k + 6) u v) v v1) u v1 :=
  sm_r (fo_S I v1) I
theorem i_vc_flush {k : Nat} {u : SX} {v : SY} (I : i_Rel k u v) (hk : k + 6 ≤ 3072) (v1 : Int32) : wpX_flush (fun r u' => wpY_flush (fun r' v' => r' = r ∧ i_Rel (k + 6) u' v') v v1) u v1 :=
  sm_o (fl_T I v1) k
theorem i_vc_commit {k : Nat} {u : SX} {v : SY} (I : i_Rel k u v) (hk : k + 6 ≤ 3072) (v1 : Int32) : wpX_commit (fun r u' => wpY_commit (fun r' v' => r' = r ∧ i_Rel (k + 6) u' v') v v1) u v1 :=
  sm_o (cm_T I v1) k
theorem i_vc_rollback {k : Nat} {u : SX} {v : SY} (I : i_Rel k u v) (hk : k + 6 ≤ 3072) (v1 : Int32) : wpX_rollback (fun r u' => wpY_rollback (fun r' v' => r' = r ∧ i_Rel (k + 6) u' v') v v1) u v1 :=
  sm_o (rb_S I v1) k
theorem i_vc_statement {k : Nat} {u : SX} {v : SY} (I : i_Rel k u v) (hk : k + 6 ≤ 3072) (v1 : Int32) (v2 : Int32) : wpX_statement (fun r => wpY_statement (fun r' => r' = r ∧ i_Rel (k + 6) u v) v v1 v2) u v1 v2 :=
  sm_r (sx_S I v1 v2) I
theorem i_vc_row {k : Nat} {u : SX} {v : SY} (I : i_Rel k u v) (hk : k + 6 ≤ 3072) (v1 : Int32) (v2 : Int32) : wpX_row (fun r => wpY_row (fun r' => r' = r ∧ i_Rel (k + 6) u v) v v1 v2) u v1 v2 :=
  sm_r (ro_S I v1 v2) I
theorem i_vc_count {k : Nat} {u : SX} {v : SY} (I : i_Rel k u v) (hk : k + 6 ≤ 3072) (v1 : Int32) : wpX_count (fun r => wpY_count (fun r' => r' = r ∧ i_Rel (k + 6) u v) v v1) u v1 :=
  sm_r (co_S I v1) I
end
