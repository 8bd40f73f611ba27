theorem u3_u3 (f : Nat → Int32) (i : Nat) (a b c a' b' c' : Int32) : u3_f (u3_f f i a b c) i a' b' c' = u3_f f i a' b' c' := by
  funext j
  by_cases h0 : j = i
  · subst h0
    rw [u3_0, u3_0]
  · by_cases h1 : j = i + 1
    · subst h1
      rw [u3_1, u3_1]
    · by_cases h2 : j = i + 2
      · subst h2
        rw [u3_2, u3_2]
      · rw [u3_o (by omega), u3_o (by omega), u3_o (by omega)]
section
variable {sc fc cc rq : Int32} {md bk ct rt rc lk wt wc ch st en sn sk sr fr lf cr rr th ro nw bf ve yl la od sm : Nat → Int32}
theorem vx_mc {post : Int32 → SX → Prop} {E F : Nat} (hE : E < 48) (hF : F < 48) (hEF : E ≠ F) (hp : post 0 (sc, fc, cc, rq, md, bk, ct, rt, rc, lk, wt, wc, ch, st, u3_f en (4 * E) (en (4 * F)) (en (4 * F + 1)) (en (4 * F + 2)), sn, sk, sr, fr, lf, cr, rr)) : ∃ n, wX_merge_235 post (nI E) (nI F) sc fc cc rq n 0 md bk ct rt rc lk wt wc ch st en sn sk sr fr lf cr rr := by
  refine ⟨4, ?_⟩
  simp (disch := omega) only [wX_merge_235, nu_g2, nu_h2, pk_un, nu_01, nu_40, nu_30, nu_20, nu_160, Int32.add_zero, Nat.reduceAdd, nu_m16, nu_16m, nu_m4, nu_4m, nu_m3, nu_3m, nu_m2, nu_2m, nI_1, nu_p2, nu_p3, nu_16p, nu_2p, nI_add, nu_cl, nu_in, Nat.add_zero, nu_l0, nu_l1, nu_l2, nu_l3, nu_l4, nu_i0_5, nu_i1_5, nu_i2_5, nu_i0_3, nu_i1_3, nu_i2_3, nu_n0, nu_n1, nu_na0, nu_na1, forall_eq, true_implies, false_implies, implies_true, not_true_eq_false, not_false_eq_true, and_true, true_and, and_self, true_or, or_true, false_or, or_false, false_and, and_false, eq_self]
  exact hp
theorem vy_mc {post : Int32 → SY → Prop} {E F : Nat} (hE : E < 48) (hF : F < 48) (hEF : E ≠ F) (hp : post 0 (sc, fc, th, ch, ro, lk, st, u3_f nw (3 * E) (nw (3 * F)) (nw (3 * F + 1)) (nw (3 * F + 2)), bf, ve, bk, md, yl, la, od, sm, fr, ct)) : ∃ n, wY_merge_208 post (nI E) (nI F) sc fc n 0 th ch ro lk st nw bf ve bk md yl la od sm fr ct := by
  refine ⟨4, ?_⟩
  simp (disch := omega) only [wY_merge_208, nu_a3, nu_b3, pk_un, nu_01, nu_40, nu_30, nu_20, nu_160, Int32.add_zero, Nat.reduceAdd, nu_m16, nu_16m, nu_m4, nu_4m, nu_m3, nu_3m, nu_m2, nu_2m, nI_1, nu_p2, nu_p3, nu_16p, nu_2p, nI_add, nu_cl, nu_in, Nat.add_zero, nu_l0, nu_l1, nu_l2, nu_l3, nu_l4, nu_i0_5, nu_i1_5, nu_i2_5, nu_i0_3, nu_i1_3, nu_i2_3, nu_n0, nu_n1, nu_na0, nu_na1, forall_eq, true_implies, false_implies, implies_true, not_true_eq_false, not_false_eq_true, and_true, true_and, and_self, true_or, or_true, false_or, or_false, false_and, and_false, eq_self]
  exact hp
end
/-- the end of a merge: the versions, then the cells -/
theorem me_170 {n m E F : Nat} {cc rq : Int32} {md bk ct rt rc lk wt wc ch st en sn sk sr fr lf cr rr th ro nw bf ve yl la od sm : Nat → Int32} (hn : n ≤ 32) (hm : m ≤ 16) (R : re_R md bk ch lk st rt rc wt wc en sn th ro nw bf ve) (hP : re_P n sk sr sm) (hE : E < 48) (hF : F < 48) (hEF : E ≠ F) (h0 : ¬ st F = 0) (h3 : ¬ st F = 3) :
    sm_S (fun post => wX_merge_170 post (nI E) (nI F) (nI n) (nI m) cc rq md bk ct rt rc lk wt wc ch st en sn sk sr fr lf cr rr) (fun post => wY_merge_163 post (nI E) (nI F) (nI n) (nI m) th ch ro lk st nw bf ve bk md yl la od sm fr ct) := by
  have c0 := re_rN R F hF h0 h3 0 (by decide)
  have c1 := re_rN R F hF h0 h3 1 (by decide)
  have c2 := re_rN R F hF h0 h3 2 (by decide)
  rw [Nat.add_zero, Nat.add_zero] at c0
  have R' := c3_R (e := E) (a := en (4 * F)) (b := en (4 * F + 1)) (c := en (4 * F + 2)) R (re_rE R F hF)
  have cp : sm_S (fun post => ∃ k, wX_merge_235 post (nI E) (nI F) (nI n) (nI m) cc rq k 0 md bk ct rt rc lk wt wc ch st en sn sk sr fr lf cr rr) (fun post => ∃ k, wY_merge_208 post (nI E) (nI F) (nI n) (nI m) k 0 th ch ro lk st nw bf ve bk md yl la od sm fr ct) := by
    refine ⟨0, (nI n, nI m, cc, rq, md, bk, ct, rt, rc, lk, wt, wc, ch, st, u3_f en (4 * E) (en (4 * F)) (en (4 * F + 1)) (en (4 * F + 2)), sn, sk, sr, fr, lf, cr, rr), (nI n, nI m, th, ch, ro, lk, st, u3_f nw (3 * E) (en (4 * F)) (en (4 * F + 1)) (en (4 * F + 2)), bf, ve, bk, md, yl, la, od, sm, fr, ct), ir_mk hn hm R' hP, fun post hp => vx_mc hE hF hEF hp, fun post hp => vy_mc hE hF hEF ?_⟩
    rw [c0, c1, c2] at hp
    exact hp
  obtain ⟨r, u, v, I, hX, hY⟩ := cp
  by_cases f4 : st F = 4
  · by_cases e4 : st E = 4
    · have vF := re_rV R F hF (Or.inl f4)
      have vE := re_rV R E hE (Or.inl e4)
      by_cases q : ve E = ve F
      · have q' : ve F = ve E := q.symm
        refine ⟨r, u, v, I, fun post hp => ?_, fun post hp => ?_⟩
        · simp (disch := omega) only [wX_merge_170, wX_merge_197, f4, e4, vF, vE, q', nu_k10, nu_01, nu_40, nu_30, nu_20, nu_160, Int32.add_zero, Nat.reduceAdd, nu_m16, nu_16m, nu_m4, nu_4m, nu_m3, nu_3m, nu_m2, nu_2m, nI_1, nu_p2, nu_p3, nu_16p, nu_2p, nI_add, nu_cl, nu_in, Nat.add_zero, nu_l0, nu_l1, nu_l2, nu_l3, nu_l4, nu_i0_5, nu_i1_5, nu_i2_5, nu_i0_3, nu_i1_3, nu_i2_3, nu_n0, nu_n1, nu_na0, nu_na1, forall_eq, true_implies, false_implies, implies_true, not_true_eq_false, not_false_eq_true, and_true, true_and, and_self, true_or, or_true, false_or, or_false, false_and, and_false, eq_self]
          exact hX post hp
        · simp (disch := omega) only [wY_merge_163, f4, e4, q, nu_01, nu_40, nu_30, nu_20, nu_160, Int32.add_zero, Nat.reduceAdd, nu_m16, nu_16m, nu_m4, nu_4m, nu_m3, nu_3m, nu_m2, nu_2m, nI_1, nu_p2, nu_p3, nu_16p, nu_2p, nI_add, nu_cl, nu_in, Nat.add_zero, nu_l0, nu_l1, nu_l2, nu_l3, nu_l4, nu_i0_5, nu_i1_5, nu_i2_5, nu_i0_3, nu_i1_3, nu_i2_3, nu_n0, nu_n1, nu_na0, nu_na1, forall_eq, true_implies, false_implies, implies_true, not_true_eq_false, not_false_eq_true, and_true, true_and, and_self, true_or, or_true, false_or, or_false, false_and, and_false, eq_self]
          exact hY post hp
      · have q' : ¬ ve F = ve E := fun z => q z.symm
        refine ⟨-4, (nI n, nI m, cc, rq, md, bk, ct, rt, rc, lk, wt, wc, ch, st, en, sn, sk, sr, fr, lf, cr, rr), (nI n, nI m, th, ch, ro, lk, st, nw, bf, ve, bk, md, yl, la, od, sm, fr, ct), ir_mk hn hm R hP, fun post hp => ?_, fun post hp => ?_⟩
        · simp (disch := omega) only [wX_merge_170, wX_merge_197, f4, e4, vF, vE, q', nu_k10, nu_01, nu_40, nu_30, nu_20, nu_160, Int32.add_zero, Nat.reduceAdd, nu_m16, nu_16m, nu_m4, nu_4m, nu_m3, nu_3m, nu_m2, nu_2m, nI_1, nu_p2, nu_p3, nu_16p, nu_2p, nI_add, nu_cl, nu_in, Nat.add_zero, nu_l0, nu_l1, nu_l2, nu_l3, nu_l4, nu_i0_5, nu_i1_5, nu_i2_5, nu_i0_3, nu_i1_3, nu_i2_3, nu_n0, nu_n1, nu_na0, nu_na1, forall_eq, true_implies, false_implies, implies_true, not_true_eq_false, not_false_eq_true, and_true, true_and, and_self, true_or, or_true, false_or, or_false, false_and, and_false, eq_self]
          exact hp
        · simp (disch := omega) only [wY_merge_163, f4, e4, q, nu_01, nu_40, nu_30, nu_20, nu_160, Int32.add_zero, Nat.reduceAdd, nu_m16, nu_16m, nu_m4, nu_4m, nu_m3, nu_3m, nu_m2, nu_2m, nI_1, nu_p2, nu_p3, nu_16p, nu_2p, nI_add, nu_cl, nu_in, Nat.add_zero, nu_l0, nu_l1, nu_l2, nu_l3, nu_l4, nu_i0_5, nu_i1_5, nu_i2_5, nu_i0_3, nu_i1_3, nu_i2_3, nu_n0, nu_n1, nu_na0, nu_na1, forall_eq, true_implies, false_implies, implies_true, not_true_eq_false, not_false_eq_true, and_true, true_and, and_self, true_or, or_true, false_or, or_false, false_and, and_false, eq_self]
          exact hp
    · refine ⟨r, u, v, I, fun post hp => ?_, fun post hp => ?_⟩
      · simp (disch := omega) only [wX_merge_170, wX_merge_196, wX_merge_197, f4, e4, nu_01, nu_40, nu_30, nu_20, nu_160, Int32.add_zero, Nat.reduceAdd, nu_m16, nu_16m, nu_m4, nu_4m, nu_m3, nu_3m, nu_m2, nu_2m, nI_1, nu_p2, nu_p3, nu_16p, nu_2p, nI_add, nu_cl, nu_in, Nat.add_zero, nu_l0, nu_l1, nu_l2, nu_l3, nu_l4, nu_i0_5, nu_i1_5, nu_i2_5, nu_i0_3, nu_i1_3, nu_i2_3, nu_n0, nu_n1, nu_na0, nu_na1, forall_eq, true_implies, false_implies, implies_true, not_true_eq_false, not_false_eq_true, and_true, true_and, and_self, true_or, or_true, false_or, or_false, false_and, and_false, eq_self]
        exact hX post hp
      · simp (disch := omega) only [wY_merge_163, f4, e4, nu_01, nu_40, nu_30, nu_20, nu_160, Int32.add_zero, Nat.reduceAdd, nu_m16, nu_16m, nu_m4, nu_4m, nu_m3, nu_3m, nu_m2, nu_2m, nI_1, nu_p2, nu_p3, nu_16p, nu_2p, nI_add, nu_cl, nu_in, Nat.add_zero, nu_l0, nu_l1, nu_l2, nu_l3, nu_l4, nu_i0_5, nu_i1_5, nu_i2_5, nu_i0_3, nu_i1_3, nu_i2_3, nu_n0, nu_n1, nu_na0, nu_na1, forall_eq, true_implies, false_implies, implies_true, not_true_eq_false, not_false_eq_true, and_true, true_and, and_self, true_or, or_true, false_or, or_false, false_and, and_false, eq_self]
        exact hY post hp
  · by_cases e4 : st E = 4
    · refine ⟨r, u, v, I, fun post hp => ?_, fun post hp => ?_⟩
      · simp (disch := omega) only [wX_merge_170, wX_merge_196, wX_merge_197, f4, e4, nu_01, nu_40, nu_30, nu_20, nu_160, Int32.add_zero, Nat.reduceAdd, nu_m16, nu_16m, nu_m4, nu_4m, nu_m3, nu_3m, nu_m2, nu_2m, nI_1, nu_p2, nu_p3, nu_16p, nu_2p, nI_add, nu_cl, nu_in, Nat.add_zero, nu_l0, nu_l1, nu_l2, nu_l3, nu_l4, nu_i0_5, nu_i1_5, nu_i2_5, nu_i0_3, nu_i1_3, nu_i2_3, nu_n0, nu_n1, nu_na0, nu_na1, forall_eq, true_implies, false_implies, implies_true, not_true_eq_false, not_false_eq_true, and_true, true_and, and_self, true_or, or_true, false_or, or_false, false_and, and_false, eq_self]
        exact hX post hp
      · simp (disch := omega) only [wY_merge_163, f4, e4, nu_01, nu_40, nu_30, nu_20, nu_160, Int32.add_zero, Nat.reduceAdd, nu_m16, nu_16m, nu_m4, nu_4m, nu_m3, nu_3m, nu_m2, nu_2m, nI_1, nu_p2, nu_p3, nu_16p, nu_2p, nI_add, nu_cl, nu_in, Nat.add_zero, nu_l0, nu_l1, nu_l2, nu_l3, nu_l4, nu_i0_5, nu_i1_5, nu_i2_5, nu_i0_3, nu_i1_3, nu_i2_3, nu_n0, nu_n1, nu_na0, nu_na1, forall_eq, true_implies, false_implies, implies_true, not_true_eq_false, not_false_eq_true, and_true, true_and, and_self, true_or, or_true, false_or, or_false, false_and, and_false, eq_self]
        exact hY post hp
    · refine ⟨r, u, v, I, fun post hp => ?_, fun post hp => ?_⟩
      · simp (disch := omega) only [wX_merge_170, wX_merge_196, wX_merge_197, f4, e4, nu_01, nu_40, nu_30, nu_20, nu_160, Int32.add_zero, Nat.reduceAdd, nu_m16, nu_16m, nu_m4, nu_4m, nu_m3, nu_3m, nu_m2, nu_2m, nI_1, nu_p2, nu_p3, nu_16p, nu_2p, nI_add, nu_cl, nu_in, Nat.add_zero, nu_l0, nu_l1, nu_l2, nu_l3, nu_l4, nu_i0_5, nu_i1_5, nu_i2_5, nu_i0_3, nu_i1_3, nu_i2_3, nu_n0, nu_n1, nu_na0, nu_na1, forall_eq, true_implies, false_implies, implies_true, not_true_eq_false, not_false_eq_true, and_true, true_and, and_self, true_or, or_true, false_or, or_false, false_and, and_false, eq_self]
        exact hX post hp
      · simp (disch := omega) only [wY_merge_163, f4, e4, nu_01, nu_40, nu_30, nu_20, nu_160, Int32.add_zero, Nat.reduceAdd, nu_m16, nu_16m, nu_m4, nu_4m, nu_m3, nu_3m, nu_m2, nu_2m, nI_1, nu_p2, nu_p3, nu_16p, nu_2p, nI_add, nu_cl, nu_in, Nat.add_zero, nu_l0, nu_l1, nu_l2, nu_l3, nu_l4, nu_i0_5, nu_i1_5, nu_i2_5, nu_i0_3, nu_i1_3, nu_i2_3, nu_n0, nu_n1, nu_na0, nu_na1, forall_eq, true_implies, false_implies, implies_true, not_true_eq_false, not_false_eq_true, and_true, true_and, and_self, true_or, or_true, false_or, or_false, false_and, and_false, eq_self]
        exact hY post hp
/-- a NEW one is filled by the reference, and its cells are merged over -/
theorem me_new {n m E F : Nat} {cc rq : Int32} {md bk ct rt rc lk wt wc ch st en sn sk sr fr lf cr rr th ro nw bf ve yl la od sm : Nat → Int32} (hn : n ≤ 32) (hm : m ≤ 16) (R : re_R md bk ch lk st rt rc wt wc en sn th ro nw bf ve) (hP : re_P n sk sr sm) (hE : E < 48) (hF : F < 48) (hEF : E ≠ F) (h0 : ¬ st F = 0) (h3 : ¬ st F = 3) (h4 : ¬ st F = 4) :
    sm_S (fun post => wX_merge_170 post (nI E) (nI F) (nI n) (nI m) cc rq md bk ct rt rc lk wt wc ch (upd st E 2) en sn sk sr fr lf cr rr) (fun post => wY_merge_148 post (nI E) (nI F) 0 (nI n) (nI m) th ch ro lk st nw bf ve bk md yl la od sm fr ct) := by
  have c0 := re_rN R F hF h0 h3 0 (by decide)
  have c1 := re_rN R F hF h0 h3 1 (by decide)
  have c2 := re_rN R F hF h0 h3 2 (by decide)
  rw [Nat.add_zero, Nat.add_zero] at c0
  have hne : F ≠ E := fun q => hEF q.symm
  have R' := mk_R (e := E) (x := 2) (a := en (4 * F)) (b := en (4 * F + 1)) (c := en (4 * F + 2)) (y := 0) R (Or.inr rfl) (re_rE R F hF)
  refine ⟨0, (nI n, nI m, cc, rq, md, bk, ct, rt, rc, lk, wt, wc, ch, upd st E 2, u3_f en (4 * E) (en (4 * F)) (en (4 * F + 1)) (en (4 * F + 2)), sn, sk, sr, fr, lf, cr, rr), (nI n, nI m, th, ch, ro, lk, upd st E 2, u3_f nw (3 * E) (en (4 * F)) (en (4 * F + 1)) (en (4 * F + 2)), bf, upd ve E 0, bk, md, yl, la, od, sm, fr, ct), ir_mk hn hm R' hP, fun post hp => ?_, fun post hp => ?_⟩
  · simp (disch := omega) only [wX_merge_170, wX_merge_196, wX_merge_197, pk_un, h4, nu_01, nu_40, nu_30, nu_20, nu_160, Int32.add_zero, Nat.reduceAdd, nu_m16, nu_16m, nu_m4, nu_4m, nu_m3, nu_3m, nu_m2, nu_2m, nI_1, nu_p2, nu_p3, nu_16p, nu_2p, nI_add, nu_cl, nu_in, Nat.add_zero, nu_l0, nu_l1, nu_l2, nu_l3, nu_l4, nu_i0_5, nu_i1_5, nu_i2_5, nu_i0_3, nu_i1_3, nu_i2_3, nu_n0, nu_n1, nu_na0, nu_na1, forall_eq, true_implies, false_implies, implies_true, not_true_eq_false, not_false_eq_true, and_true, true_and, and_self, true_or, or_true, false_or, or_false, false_and, and_false, eq_self]
    exact vx_mc hE hF hEF hp
  · simp (disch := omega) only [wY_merge_148, wpY_fill, wY_merge_163, pk_us, nu_k24, nu_01, nu_40, nu_30, nu_20, nu_160, Int32.add_zero, Nat.reduceAdd, nu_m16, nu_16m, nu_m4, nu_4m, nu_m3, nu_3m, nu_m2, nu_2m, nI_1, nu_p2, nu_p3, nu_16p, nu_2p, nI_add, nu_cl, nu_in, Nat.add_zero, nu_l0, nu_l1, nu_l2, nu_l3, nu_l4, nu_i0_5, nu_i1_5, nu_i2_5, nu_i0_3, nu_i1_3, nu_i2_3, nu_n0, nu_n1, nu_na0, nu_na1, forall_eq, true_implies, false_implies, implies_true, not_true_eq_false, not_false_eq_true, and_true, true_and, and_self, true_or, or_true, false_or, or_false, false_and, and_false, eq_self]
    refine vy_mc hE hF hEF ?_
    rw [c0, c1, c2] at hp
    have z := u3_u3 nw (3 * E) 0 0 (-1) (nw (3 * F)) (nw (3 * F + 1)) (nw (3 * F + 2))
    rw [← z] at hp
    have e0 : u3_f nw (3 * E) 0 0 (-1) (3 * F) = nw (3 * F) := u3_o (by omega)
    have e1 : u3_f nw (3 * E) 0 0 (-1) (3 * F + 1) = nw (3 * F + 1) := u3_o (by omega)
    have e2 : u3_f nw (3 * E) 0 0 (-1) (3 * F + 2) = nw (3 * F + 2) := u3_o (by omega)
    rw [← e0, ← e1, ← e2] at hp
    exact hp
