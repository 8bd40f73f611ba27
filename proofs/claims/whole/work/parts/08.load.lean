section
variable {sc fc cc rq : Int32} {md bk ct rt rc lk wt wc ch st en sn sk sr fr lf cr rr th ro nw bf ve yl la od sm : Nat → Int32}
theorem vx_mg {post : SX → Prop} {s k : Nat} (hs : s < 3) (hk : k < 16)
    (hp : post (sc, fc, cc, rq, md, bk, ct, rt, rc, lk, wt, wc, ch, upd st (16 * s + k) 4, u4_f en (4 * (16 * s + k)) (si_c rc wc lk s k 0) (si_c rc wc lk s k 1) (si_c rc wc lk s k 2) (si_c rc wc lk s k 3), u4_f sn (4 * (16 * s + k)) (si_c rc wc lk s k 0) (si_c rc wc lk s k 1) (si_c rc wc lk s k 2) (si_c rc wc lk s k 3), sk, sr, fr, lf, cr, rr)) :
    wpX_manageFromSight post (sc, fc, cc, rq, md, bk, ct, rt, rc, lk, wt, wc, ch, st, en, sn, sk, sr, fr, lf, cr, rr) (nI s) (nI k) := by
  by_cases h : lk k = nI s
  · have e : ∀ c, si_c rc wc lk s k c = wc (4 * k + c) := fun c => if_pos h
    rw [e 0, e 1, e 2, e 3] at hp
    simp (disch := omega) only [wpX_manageFromSight, wX_manageFromSight_22, nu_01, nu_40, nu_30, nu_20, nu_160, Int32.add_zero, Nat.reduceAdd, nu_m16, nu_16m, nu_m4, nu_4m, nu_m3, nu_3m, nu_m2, nu_2m, nI_1, nu_p2, nu_p3, nu_16p, nu_2p, nI_add, nu_cl, nu_in, Nat.add_zero, nu_l0, nu_l1, nu_l2, nu_l3, nu_l4, nu_i0_5, nu_i1_5, nu_i2_5, nu_i0_3, nu_i1_3, nu_i2_3, nu_n0, nu_n1, nu_na0, nu_na1, h, forall_eq, true_implies, false_implies, implies_true, not_true_eq_false, not_false_eq_true, and_true, true_and, and_self, true_or, or_true, false_or, or_false, false_and, and_false, eq_self]
    refine ⟨5, ?_⟩
    simp (disch := omega) only [wX_manageFromSight_34, wX_manageFromSight_70, nu_k10, nu_a4, nu_b4, nu_01, nu_40, nu_30, nu_20, nu_160, Int32.add_zero, Nat.reduceAdd, nu_m16, nu_16m, nu_m4, nu_4m, nu_m3, nu_3m, nu_m2, nu_2m, nI_1, nu_p2, nu_p3, nu_16p, nu_2p, nI_add, nu_cl, nu_in, Nat.add_zero, nu_l0, nu_l1, nu_l2, nu_l3, nu_l4, nu_i0_5, nu_i1_5, nu_i2_5, nu_i0_3, nu_i1_3, nu_i2_3, nu_n0, nu_n1, nu_na0, nu_na1, forall_eq, true_implies, false_implies, implies_true, not_true_eq_false, not_false_eq_true, and_true, true_and, and_self, true_or, or_true, false_or, or_false, false_and, and_false, eq_self]
    exact hp
  · have e : ∀ c, si_c rc wc lk s k c = rc (4 * k + c) := fun c => if_neg h
    rw [e 0, e 1, e 2, e 3] at hp
    simp (disch := omega) only [wpX_manageFromSight, wX_manageFromSight_22, nu_01, nu_40, nu_30, nu_20, nu_160, Int32.add_zero, Nat.reduceAdd, nu_m16, nu_16m, nu_m4, nu_4m, nu_m3, nu_3m, nu_m2, nu_2m, nI_1, nu_p2, nu_p3, nu_16p, nu_2p, nI_add, nu_cl, nu_in, Nat.add_zero, nu_l0, nu_l1, nu_l2, nu_l3, nu_l4, nu_i0_5, nu_i1_5, nu_i2_5, nu_i0_3, nu_i1_3, nu_i2_3, nu_n0, nu_n1, nu_na0, nu_na1, h, forall_eq, true_implies, false_implies, implies_true, not_true_eq_false, not_false_eq_true, and_true, true_and, and_self, true_or, or_true, false_or, or_false, false_and, and_false, eq_self]
    refine ⟨5, ?_⟩
    simp (disch := omega) only [wX_manageFromSight_34, wX_manageFromSight_70, nu_k10, nu_a4, nu_b4, nu_01, nu_40, nu_30, nu_20, nu_160, Int32.add_zero, Nat.reduceAdd, nu_m16, nu_16m, nu_m4, nu_4m, nu_m3, nu_3m, nu_m2, nu_2m, nI_1, nu_p2, nu_p3, nu_16p, nu_2p, nI_add, nu_cl, nu_in, Nat.add_zero, nu_l0, nu_l1, nu_l2, nu_l3, nu_l4, nu_i0_5, nu_i1_5, nu_i2_5, nu_i0_3, nu_i1_3, nu_i2_3, nu_n0, nu_n1, nu_na0, nu_na1, forall_eq, true_implies, false_implies, implies_true, not_true_eq_false, not_false_eq_true, and_true, true_and, and_self, true_or, or_true, false_or, or_false, false_and, and_false, eq_self]
    exact hp
theorem vy_mg {post : SY → Prop} {s k : Nat} (hs : s < 3) (hk : k < 16) (hC : re_C rc wc ro)
    (hp : post (sc, fc, th, ch, ro, lk, upd st (16 * s + k) 4, u3_f nw (3 * (16 * s + k)) (si_c rc wc lk s k 0) (si_c rc wc lk s k 1) (si_c rc wc lk s k 2), u3_f bf (3 * (16 * s + k)) (si_c rc wc lk s k 0) (si_c rc wc lk s k 1) (si_c rc wc lk s k 2), upd ve (16 * s + k) (si_c rc wc lk s k 3), bk, md, yl, la, od, sm, fr, ct)) :
    wpY_manage post (sc, fc, th, ch, ro, lk, st, nw, bf, ve, bk, md, yl, la, od, sm, fr, ct) (nI s) (nI k) := by
  have hf := si_lt lk (s := s) hk
  have e := fun c (hc : c < 4) => si_fc (lk := lk) (s := s) hC hk hc
  have e0 := e 0 (by decide)
  rw [Nat.add_zero] at e0
  rw [← e0, ← e 1 (by decide), ← e 2 (by decide), ← e 3 (by decide)] at hp
  simp (disch := omega) only [wpY_manage, vy_see hk, nu_01, nu_40, nu_30, nu_20, nu_160, Int32.add_zero, Nat.reduceAdd, nu_m16, nu_16m, nu_m4, nu_4m, nu_m3, nu_3m, nu_m2, nu_2m, nI_1, nu_p2, nu_p3, nu_16p, nu_2p, nI_add, nu_cl, nu_in, Nat.add_zero, nu_l0, nu_l1, nu_l2, nu_l3, nu_l4, nu_i0_5, nu_i1_5, nu_i2_5, nu_i0_3, nu_i1_3, nu_i2_3, nu_n0, nu_n1, nu_na0, nu_na1, forall_eq, true_implies, false_implies, implies_true, not_true_eq_false, not_false_eq_true, and_true, true_and, and_self, true_or, or_true, false_or, or_false, false_and, and_false, eq_self]
  refine ⟨4, ?_⟩
  generalize hg : si_f lk s k = f at *
  simp (disch := omega) only [wY_manage_25, nu_a3, nu_b3, nu_01, nu_40, nu_30, nu_20, nu_160, Int32.add_zero, Nat.reduceAdd, nu_m16, nu_16m, nu_m4, nu_4m, nu_m3, nu_3m, nu_m2, nu_2m, nI_1, nu_p2, nu_p3, nu_16p, nu_2p, nI_add, nu_cl, nu_in, Nat.add_zero, nu_l0, nu_l1, nu_l2, nu_l3, nu_l4, nu_i0_5, nu_i1_5, nu_i2_5, nu_i0_3, nu_i1_3, nu_i2_3, nu_n0, nu_n1, nu_na0, nu_na1, forall_eq, true_implies, false_implies, implies_true, not_true_eq_false, not_false_eq_true, and_true, true_and, and_self, true_or, or_true, false_or, or_false, false_and, and_false, eq_self]
  exact hp
theorem vy_dir {post : Int32 → Prop} {e : Nat} (he : e < 48) (hN : re_N st en nw) (hS : re_S sn bf) (hp : post (di_v (di_P st en sn e))) : wpY_isDirty post (sc, fc, th, ch, ro, lk, st, nw, bf, ve, bk, md, yl, la, od, sm, fr, ct) (nI e) := by
  simp only [wpY_isDirty]
  refine ⟨4, ?_⟩
  by_cases h4 : st e = 4
  · have n0 := hN e he (by rw [h4]; decide) (by rw [h4]; decide) 0 (by decide)
    have n1 := hN e he (by rw [h4]; decide) (by rw [h4]; decide) 1 (by decide)
    have n2 := hN e he (by rw [h4]; decide) (by rw [h4]; decide) 2 (by decide)
    have s0 := hS e he 0 (by decide)
    have s1 := hS e he 1 (by decide)
    have s2 := hS e he 2 (by decide)
    rw [Nat.add_zero, Nat.add_zero] at n0 s0
    by_cases c0 : nw (3 * e) = bf (3 * e)
    · by_cases c1 : nw (3 * e + 1) = bf (3 * e + 1)
      · by_cases c2 : nw (3 * e + 2) = bf (3 * e + 2)
        · rw [di_f (fun q => q.2 ⟨by rw [n0, s0, c0], by rw [n1, s1, c1], by rw [n2, s2, c2]⟩)] at hp
          simp (disch := omega) only [wY_isDirty_2, nu_a3, nu_b3, nu_01, nu_40, nu_30, nu_20, nu_160, Int32.add_zero, Nat.reduceAdd, nu_m16, nu_16m, nu_m4, nu_4m, nu_m3, nu_3m, nu_m2, nu_2m, nI_1, nu_p2, nu_p3, nu_16p, nu_2p, nI_add, nu_cl, nu_in, Nat.add_zero, nu_l0, nu_l1, nu_l2, nu_l3, nu_l4, nu_i0_5, nu_i1_5, nu_i2_5, nu_i0_3, nu_i1_3, nu_i2_3, nu_n0, nu_n1, nu_na0, nu_na1, h4, c0, c1, c2, forall_eq, true_implies, false_implies, implies_true, not_true_eq_false, not_false_eq_true, and_true, true_and, and_self, true_or, or_true, false_or, or_false, false_and, and_false, eq_self]
          exact hp
        · rw [di_t ⟨h4, fun q => c2 (by rw [← n2, ← s2]; exact q.2.2)⟩] at hp
          simp (disch := omega) only [wY_isDirty_2, nu_a3, nu_b3, nu_01, nu_40, nu_30, nu_20, nu_160, Int32.add_zero, Nat.reduceAdd, nu_m16, nu_16m, nu_m4, nu_4m, nu_m3, nu_3m, nu_m2, nu_2m, nI_1, nu_p2, nu_p3, nu_16p, nu_2p, nI_add, nu_cl, nu_in, Nat.add_zero, nu_l0, nu_l1, nu_l2, nu_l3, nu_l4, nu_i0_5, nu_i1_5, nu_i2_5, nu_i0_3, nu_i1_3, nu_i2_3, nu_n0, nu_n1, nu_na0, nu_na1, h4, c0, c1, c2, forall_eq, true_implies, false_implies, implies_true, not_true_eq_false, not_false_eq_true, and_true, true_and, and_self, true_or, or_true, false_or, or_false, false_and, and_false, eq_self]
          exact hp
      · rw [di_t ⟨h4, fun q => c1 (by rw [← n1, ← s1]; exact q.2.1)⟩] at hp
        simp (disch := omega) only [wY_isDirty_2, nu_a3, nu_b3, nu_01, nu_40, nu_30, nu_20, nu_160, Int32.add_zero, Nat.reduceAdd, nu_m16, nu_16m, nu_m4, nu_4m, nu_m3, nu_3m, nu_m2, nu_2m, nI_1, nu_p2, nu_p3, nu_16p, nu_2p, nI_add, nu_cl, nu_in, Nat.add_zero, nu_l0, nu_l1, nu_l2, nu_l3, nu_l4, nu_i0_5, nu_i1_5, nu_i2_5, nu_i0_3, nu_i1_3, nu_i2_3, nu_n0, nu_n1, nu_na0, nu_na1, h4, c0, c1, forall_eq, true_implies, false_implies, implies_true, not_true_eq_false, not_false_eq_true, and_true, true_and, and_self, true_or, or_true, false_or, or_false, false_and, and_false, eq_self]
        exact hp
    · rw [di_t ⟨h4, fun q => c0 (by rw [← n0, ← s0]; exact q.1)⟩] at hp
      simp (disch := omega) only [wY_isDirty_2, nu_a3, nu_b3, nu_01, nu_40, nu_30, nu_20, nu_160, Int32.add_zero, Nat.reduceAdd, nu_m16, nu_16m, nu_m4, nu_4m, nu_m3, nu_3m, nu_m2, nu_2m, nI_1, nu_p2, nu_p3, nu_16p, nu_2p, nI_add, nu_cl, nu_in, Nat.add_zero, nu_l0, nu_l1, nu_l2, nu_l3, nu_l4, nu_i0_5, nu_i1_5, nu_i2_5, nu_i0_3, nu_i1_3, nu_i2_3, nu_n0, nu_n1, nu_na0, nu_na1, h4, c0, forall_eq, true_implies, false_implies, implies_true, not_true_eq_false, not_false_eq_true, and_true, true_and, and_self, true_or, or_true, false_or, or_false, false_and, and_false, eq_self]
      exact hp
  · rw [di_f (fun q => h4 q.1)] at hp
    simp (disch := omega) only [wY_isDirty_2, nu_a3, nu_b3, nu_01, nu_40, nu_30, nu_20, nu_160, Int32.add_zero, Nat.reduceAdd, nu_m16, nu_16m, nu_m4, nu_4m, nu_m3, nu_3m, nu_m2, nu_2m, nI_1, nu_p2, nu_p3, nu_16p, nu_2p, nI_add, nu_cl, nu_in, Nat.add_zero, nu_l0, nu_l1, nu_l2, nu_l3, nu_l4, nu_i0_5, nu_i1_5, nu_i2_5, nu_i0_3, nu_i1_3, nu_i2_3, nu_n0, nu_n1, nu_na0, nu_na1, h4, forall_eq, true_implies, false_implies, implies_true, not_true_eq_false, not_false_eq_true, and_true, true_and, and_self, true_or, or_true, false_or, or_false, false_and, and_false, eq_self]
    exact hp
end
