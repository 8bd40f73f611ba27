section
variable {md bk ct rt rc lk wt wc ch st en sn sk sr fr lf cr rr th ro nw bf ve sm : Nat → Int32}
variable (fc rq : Int32) (yl la od : Nat → Int32)
/-- an INSERT on both sides -/
theorem is_S {s k n c : Nat} {b : Int32} (hs : s < 3) (hk : k < 16) (hn : n < 32) (hc : c < 16) (hb : b = 0 ∨ b = 1) (h2 : st (16 * s + k) = 2) (R : re_R md bk ch lk st rt rc wt wc en sn th ro nw bf ve) (hP : re_P n sk sr sm) :
    ∃ (r : Int32) (n' c' : Nat) (ct' lk' wt' wc' ch' sk' sr' cr' th' ro' sm' : Nat → Int32), re_R md bk ch' lk' st rt rc wt' wc' en sn th' ro' nw bf ve ∧ re_P n' sk' sr' sm' ∧ n ≤ n' ∧ n' ≤ n + 1 ∧
      (r = 0 → (b = 0 → c' = c ∧ cr' = cr) ∧ (b = 1 → c' = c + 1 ∧ cr' = upd cr c (nI k))) ∧
      (∀ post : Int32 → SX → Prop, post r (nI n', fc, nI c', rq, md, bk, ct', rt, rc, lk', wt', wc', ch', st, en, sn, sk', sr', fr, lf, cr', rr) → wpX_insertRow post (nI n, fc, nI c, rq, md, bk, ct, rt, rc, lk, wt, wc, ch, st, en, sn, sk, sr, fr, lf, cr, rr) (nI s) (nI k) b) ∧
      (∀ post : Int32 → SY → Prop, post r (nI n', fc, th', ch', ro', lk', st, nw, bf, ve, bk, md, yl, la, od, sm', fr, ct') → wpY_insert post (nI n, fc, th, ch, ro, lk, st, nw, bf, ve, bk, md, yl, la, od, sm, fr, ct) (nI s) (nI k) b) := by
  have hT := re_rT R
  have hB := re_rth R
  have h0 : ¬ st (16 * s + k) = 0 := by rw [h2]; decide
  have h3 : ¬ st (16 * s + k) = 3 := by rw [h2]; decide
  by_cases bz : bz_P lk s k
  · have hv : ii_v lk rt wt s k = -6 := rm_t bz
    refine ⟨-6, n, c, ct, lk, wt, wc, ch, sk, sr, cr, th, ro, sm, R, hP, Nat.le_refl n, by omega, fun q => absurd q (by decide), fun post hp => ?_, fun post hp => ?_⟩
    · simp only [wpX_insertRow, vx_bz hk, di_t bz, nu_k10, forall_eq, true_implies, false_implies, implies_true, not_true_eq_false, not_false_eq_true, and_true, true_and, and_self, true_or, or_true, false_or, or_false, false_and, and_false, eq_self]
      exact hp
    · simp only [wpY_insert]
      refine vy_b0 hk hT (re_rQ R) (fun q => absurd (hv.symm.trans q) (by decide)) (fun _ => ?_)
      rw [hv]
      simp only [nu_z6, forall_eq, true_implies, false_implies, implies_true, not_true_eq_false, not_false_eq_true, and_true, true_and, and_self, true_or, or_true, false_or, or_false, false_and, and_false, eq_self]
      exact hp
  · by_cases t : si_t rt wt lk s k = 0
    · have hv : ii_v lk rt wt s k = 0 := by
        unfold ii_v
        rw [rm_f bz, if_pos t]
      have R1 := wr_R (v := 0) R hs hk
      have P1 := re_Pu (x := nI 0) (y := nI k) hP
      rcases hb with rfl | rfl
      · refine ⟨0, n + 1, c, upd ct (2 + 0) (ct (2 + 0) + 1), _, _, _, _, upd sk n (nI 0), upd sr n (nI k), cr, _, _, upd (upd sm (2 * n) (nI 0)) (2 * n + 1) (nI k), R1, P1, by omega, Nat.le_refl _, fun _ => ⟨fun _ => ⟨rfl, rfl⟩, fun q => absurd q (by decide)⟩, fun post hp => ?_, fun post hp => ?_⟩
        · simp only [wpX_insertRow, vx_bz hk, di_f bz, vx_see hk hT hB, t, forall_eq, true_implies, false_implies, implies_true, not_true_eq_false, not_false_eq_true, and_true, true_and, and_self, true_or, or_true, false_or, or_false, false_and, and_false, eq_self]
          refine vx_wr hs hk ?_
          simp only [wX_insertRow_75, forall_eq, true_implies, false_implies, implies_true, not_true_eq_false, not_false_eq_true, and_true, true_and, and_self, true_or, or_true, false_or, or_false, false_and, and_false, eq_self]
          exact vx_nt (q := 0) hn (by decide) hp
        · simp only [wpY_insert]
          refine vy_b0 hk hT (re_rQ R) (fun _ => ?_) (fun q => absurd hv q)
          simp only [forall_eq, true_implies, false_implies, implies_true, not_true_eq_false, not_false_eq_true, and_true, true_and, and_self, true_or, or_true, false_or, or_false, false_and, and_false, eq_self]
          refine vy_pt hs hk (re_rN R) h0 h3 ?_
          simp only [wY_insert_43, forall_eq, true_implies, false_implies, implies_true, not_true_eq_false, not_false_eq_true, and_true, true_and, and_self, true_or, or_true, false_or, or_false, false_and, and_false, eq_self]
          exact vy_nt (q := 0) hn (by decide) hp
      · refine ⟨0, n + 1, c + 1, upd ct (2 + 0) (ct (2 + 0) + 1), _, _, _, _, upd sk n (nI 0), upd sr n (nI k), upd cr c (nI k), _, _, upd (upd sm (2 * n) (nI 0)) (2 * n + 1) (nI k), wr_cut (k := k) R1, P1, by omega, Nat.le_refl _, fun _ => ⟨fun q => absurd q (by decide), fun _ => ⟨rfl, rfl⟩⟩, fun post hp => ?_, fun post hp => ?_⟩
        · simp only [wpX_insertRow, vx_bz hk, di_f bz, vx_see hk hT hB, t, forall_eq, true_implies, false_implies, implies_true, not_true_eq_false, not_false_eq_true, and_true, true_and, and_self, true_or, or_true, false_or, or_false, false_and, and_false, eq_self]
          refine vx_wr hs hk ?_
          simp (disch := omega) only [wX_insertRow_75, nu_b16, nu_k10, nu_01, nu_40, nu_30, nu_20, nu_160, Int32.add_zero, Nat.reduceAdd, nu_m16, nu_16m, nu_m4, nu_4m, nu_m3, nu_3m, nu_m2, nu_2m, nI_1, nu_p2, nu_p3, nu_16p, nu_2p, nI_add, nu_cl, nu_in, Nat.add_zero, nu_l0, nu_l1, nu_l2, nu_l3, nu_l4, nu_i0_5, nu_i1_5, nu_i2_5, nu_i0_3, nu_i1_3, nu_i2_3, nu_n0, nu_n1, nu_na0, nu_na1, forall_eq, true_implies, false_implies, implies_true, not_true_eq_false, not_false_eq_true, and_true, true_and, and_self, true_or, or_true, false_or, or_false, false_and, and_false, eq_self]
          exact vx_nt (q := 0) hn (by decide) hp
        · simp only [wpY_insert]
          refine vy_b0 hk hT (re_rQ R) (fun _ => ?_) (fun q => absurd hv q)
          simp only [forall_eq, true_implies, false_implies, implies_true, not_true_eq_false, not_false_eq_true, and_true, true_and, and_self, true_or, or_true, false_or, or_false, false_and, and_false, eq_self]
          refine vy_pt hs hk (re_rN R) h0 h3 ?_
          simp (disch := omega) only [wY_insert_43, nu_k10, nu_01, nu_40, nu_30, nu_20, nu_160, Int32.add_zero, Nat.reduceAdd, nu_m16, nu_16m, nu_m4, nu_4m, nu_m3, nu_3m, nu_m2, nu_2m, nI_1, nu_p2, nu_p3, nu_16p, nu_2p, nI_add, nu_cl, nu_in, Nat.add_zero, nu_l0, nu_l1, nu_l2, nu_l3, nu_l4, nu_i0_5, nu_i1_5, nu_i2_5, nu_i0_3, nu_i1_3, nu_i2_3, nu_n0, nu_n1, nu_na0, nu_na1, forall_eq, true_implies, false_implies, implies_true, not_true_eq_false, not_false_eq_true, and_true, true_and, and_self, true_or, or_true, false_or, or_false, false_and, and_false, eq_self]
          exact vy_nt (q := 0) hn (by decide) hp
    · have hv : ii_v lk rt wt s k = -5 := by
        unfold ii_v
        rw [rm_f bz, if_neg t]
      refine ⟨-5, n, c, ct, lk, wt, wc, ch, sk, sr, cr, th, ro, sm, R, hP, Nat.le_refl n, by omega, fun q => absurd q (by decide), fun post hp => ?_, fun post hp => ?_⟩
      · simp only [wpX_insertRow, vx_bz hk, di_f bz, vx_see hk hT hB, t, forall_eq, true_implies, false_implies, implies_true, not_true_eq_false, not_false_eq_true, and_true, true_and, and_self, true_or, or_true, false_or, or_false, false_and, and_false, eq_self]
        exact hp
      · simp only [wpY_insert]
        refine vy_b0 hk hT (re_rQ R) (fun q => absurd (hv.symm.trans q) (by decide)) (fun _ => ?_)
        rw [hv]
        simp only [nu_z5, forall_eq, true_implies, false_implies, implies_true, not_true_eq_false, not_false_eq_true, and_true, true_and, and_self, true_or, or_true, false_or, or_false, false_and, and_false, eq_self]
        exact hp
/-- an UPDATE on both sides -/
theorem up_S {s k n : Nat} {cc w : Int32} (hs : s < 3) (hk : k < 16) (hn : n < 32) (h0 : ¬ st (16 * s + k) = 0) (h3 : ¬ st (16 * s + k) = 3) (R : re_R md bk ch lk st rt rc wt wc en sn th ro nw bf ve) (hP : re_P n sk sr sm) :
    ∃ (r : Int32) (n' : Nat) (ct' lk' wt' wc' ch' sk' sr' th' ro' sm' : Nat → Int32), re_R md bk ch' lk' st rt rc wt' wc' en sn th' ro' nw bf ve ∧ re_P n' sk' sr' sm' ∧ n ≤ n' ∧ n' ≤ n + 1 ∧
      (∀ post : Int32 → SX → Prop, post r (nI n', fc, cc, rq, md, bk, ct', rt, rc, lk', wt', wc', ch', st, en, sn, sk', sr', fr, lf, cr, rr) → wpX_updateRow post (nI n, fc, cc, rq, md, bk, ct, rt, rc, lk, wt, wc, ch, st, en, sn, sk, sr, fr, lf, cr, rr) (nI s) (nI k) w) ∧
      (∀ post : Int32 → SY → Prop, post r (nI n', fc, th', ch', ro', lk', st, nw, bf, ve, bk, md, yl, la, od, sm', fr, ct') → wpY_update post (nI n, fc, th, ch, ro, lk, st, nw, bf, ve, bk, md, yl, la, od, sm, fr, ct) (nI s) (nI k) w) := by
  have hT := re_rT R
  have hB := re_rth R
  have hC := re_rC R
  by_cases hv : vr_v lk rt wt rc wc s k w = 0
  · refine ⟨0, n + 1, upd ct (2 + 1) (ct (2 + 1) + 1), _, _, _, _, upd sk n (nI 1), upd sr n (nI k), _, _, upd (upd sm (2 * n) (nI 1)) (2 * n + 1) (nI k), wr_R (v := w + 1) R hs hk, re_Pu (x := nI 1) (y := nI k) hP, by omega, Nat.le_refl _, fun post hp => ?_, fun post hp => ?_⟩
    · simp only [wpX_updateRow, vx_ver hk hT hB, hv, forall_eq, true_implies, false_implies, implies_true, not_true_eq_false, not_false_eq_true, and_true, true_and, and_self, true_or, or_true, false_or, or_false, false_and, and_false, eq_self]
      refine vx_wr hs hk ?_
      simp only [forall_eq, true_implies, false_implies, implies_true, not_true_eq_false, not_false_eq_true, and_true, true_and, and_self, true_or, or_true, false_or, or_false, false_and, and_false, eq_self]
      exact vx_nt (q := 1) hn (by decide) hp
    · simp only [wpY_update]
      refine vy_b1 hk hT hC (re_rQ R) (fun _ => ?_) (fun q => absurd hv q)
      simp only [forall_eq, true_implies, false_implies, implies_true, not_true_eq_false, not_false_eq_true, and_true, true_and, and_self, true_or, or_true, false_or, or_false, false_and, and_false, eq_self]
      refine vy_pt hs hk (re_rN R) h0 h3 ?_
      simp only [forall_eq, true_implies, false_implies, implies_true, not_true_eq_false, not_false_eq_true, and_true, true_and, and_self, true_or, or_true, false_or, or_false, false_and, and_false, eq_self]
      exact vy_nt (q := 1) hn (by decide) hp
  · refine ⟨vr_v lk rt wt rc wc s k w, n, ct, lk, wt, wc, ch, sk, sr, th, ro, sm, R, hP, Nat.le_refl n, by omega, fun post hp => ?_, fun post hp => ?_⟩
    · simp only [wpX_updateRow, vx_ver hk hT hB, hv, forall_eq, true_implies, false_implies, implies_true, not_true_eq_false, not_false_eq_true, and_true, true_and, and_self, true_or, or_true, false_or, or_false, false_and, and_false, eq_self]
      exact hp
    · simp only [wpY_update]
      refine vy_b1 hk hT hC (re_rQ R) (fun q => absurd q hv) (fun _ => ?_)
      simp only [hv, forall_eq, true_implies, false_implies, implies_true, not_true_eq_false, not_false_eq_true, and_true, true_and, and_self, true_or, or_true, false_or, or_false, false_and, and_false, eq_self]
      exact hp
end
section
variable {fc cc rq : Int32} {md bk ct rt rc lk wt wc ch st en sn sk sr fr lf cr rr th : Nat → Int32}
theorem vx_dl {post : Int32 → SX → Prop} {s k n : Nat} (hs : s < 3) (hk : k < 16) (hn : n < 32) (hT : re_T rt wt th) (hB : re_B th)
    (h0 : vr_v lk rt wt rc wc s k (sn (4 * (16 * s + k) + 3)) = 0 → post 0 (nI (n + 1), fc, cc, rq, md, bk, upd ct (2 + 2) (ct (2 + 2) + 1), rt, rc, upd lk k (nI s), upd wt k 0, wc, upd ch k 0, st, en, sn, upd sk n (nI 2), upd sr n (nI k), fr, lf, cr, rr))
    (h1 : ¬ vr_v lk rt wt rc wc s k (sn (4 * (16 * s + k) + 3)) = 0 → post (vr_v lk rt wt rc wc s k (sn (4 * (16 * s + k) + 3))) (nI n, fc, cc, rq, md, bk, ct, rt, rc, lk, wt, wc, ch, st, en, sn, sk, sr, fr, lf, cr, rr)) : wpX_deleteRow post (nI n, fc, cc, rq, md, bk, ct, rt, rc, lk, wt, wc, ch, st, en, sn, sk, sr, fr, lf, cr, rr) (nI s) (nI k) := by
  by_cases hv : vr_v lk rt wt rc wc s k (sn (4 * (16 * s + k) + 3)) = 0
  · simp (disch := omega) only [wpX_deleteRow, vx_ver hk hT hB, hv, nu_01, nu_40, nu_30, nu_20, nu_160, Int32.add_zero, Nat.reduceAdd, nu_m16, nu_16m, nu_m4, nu_4m, nu_m3, nu_3m, nu_m2, nu_2m, nI_1, nu_p2, nu_p3, nu_16p, nu_2p, nI_add, nu_cl, nu_in, Nat.add_zero, nu_l0, nu_l1, nu_l2, nu_l3, nu_l4, nu_i0_5, nu_i1_5, nu_i2_5, nu_i0_3, nu_i1_3, nu_i2_3, nu_n0, nu_n1, nu_na0, nu_na1, forall_eq, true_implies, false_implies, implies_true, not_true_eq_false, not_false_eq_true, and_true, true_and, and_self, true_or, or_true, false_or, or_false, false_and, and_false, eq_self]
    exact vx_nt (q := 2) hn (by decide) (h0 hv)
  · simp (disch := omega) only [wpX_deleteRow, vx_ver hk hT hB, hv, nu_01, nu_40, nu_30, nu_20, nu_160, Int32.add_zero, Nat.reduceAdd, nu_m16, nu_16m, nu_m4, nu_4m, nu_m3, nu_3m, nu_m2, nu_2m, nI_1, nu_p2, nu_p3, nu_16p, nu_2p, nI_add, nu_cl, nu_in, Nat.add_zero, nu_l0, nu_l1, nu_l2, nu_l3, nu_l4, nu_i0_5, nu_i1_5, nu_i2_5, nu_i0_3, nu_i1_3, nu_i2_3, nu_n0, nu_n1, nu_na0, nu_na1, forall_eq, true_implies, false_implies, implies_true, not_true_eq_false, not_false_eq_true, and_true, true_and, and_self, true_or, or_true, false_or, or_false, false_and, and_false, eq_self]
    exact h1 hv
end
