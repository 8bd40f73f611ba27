section
variable {md bk rt rc lk wt wc ch th ro : Nat → Int32}
variable (sc fc cc rq : Int32) (ct sk sr fr lf cr rr yl la od sm : Nat → Int32)
/-- the entities at the end of a FLUSH -/
theorem se_L {s : Nat} (hs : s < 3) : ∀ (d i : Nat), i + d = 16 → ∀ (st en sn nw bf ve : Nat → Int32), re_R md bk ch lk st rt rc wt wc en sn th ro nw bf ve →
    ∃ (st' en' sn' nw' bf' ve' : Nat → Int32), re_R md bk ch lk st' rt rc wt wc en' sn' th ro nw' bf' ve' ∧
      (∀ (post : SX → Prop) n, d < n → post (sc, fc, cc, rq, md, bk, ct, rt, rc, lk, wt, wc, ch, st', en', sn', sk, sr, fr, lf, cr, rr) → wX_settleEntities_2 post (nI s) n (nI i) sc fc cc rq md bk ct rt rc lk wt wc ch st en sn sk sr fr lf cr rr) ∧
      (∀ (post : Int32 → SY → Prop) n, d < n → post 0 (sc, fc, th, ch, ro, lk, st', nw', bf', ve', bk, md, yl, la, od, sm, fr, ct) → wY_flushed_66 post (nI s) n (nI i) sc fc th ch ro lk st nw bf ve bk md yl la od sm fr ct) := by
  intro d
  induction d with
  | zero =>
    intro i hi st en sn nw bf ve R
    refine ⟨st, en, sn, nw, bf, ve, R, fun post n hn hp => ?_, fun post n hn hp => ?_⟩
    · obtain ⟨n, rfl⟩ : ∃ n', n = n' + 1 := ⟨n - 1, by omega⟩
      simp (disch := omega) only [wX_settleEntities_2, nu_a16, forall_eq, true_implies, false_implies, implies_true, not_true_eq_false, not_false_eq_true, and_true, true_and, and_self, true_or, or_true, false_or, or_false, false_and, and_false, eq_self]
      exact hp
    · obtain ⟨n, rfl⟩ : ∃ n', n = n' + 1 := ⟨n - 1, by omega⟩
      simp (disch := omega) only [wY_flushed_66, nu_a16, forall_eq, true_implies, false_implies, implies_true, not_true_eq_false, not_false_eq_true, and_true, true_and, and_self, true_or, or_true, false_or, or_false, false_and, and_false, eq_self]
      exact hp
  | succ d ih =>
    intro i hi st en sn nw bf ve R
    have hi' : i < 16 := by omega
    by_cases h5 : st (16 * s + i) = 5
    · obtain ⟨st', en', sn', nw', bf', ve', R', hX, hY⟩ := ih (i + 1) (by omega) (upd st (16 * s + i) 0) en sn nw bf ve (kd_R R (Or.inl rfl) (Or.inl rfl) (fun q => absurd q (by decide)))
      refine ⟨st', en', sn', nw', bf', ve', R', fun post n hn hp => ?_, fun post n hn hp => ?_⟩
      · obtain ⟨n, rfl⟩ : ∃ n', n = n' + 1 := ⟨n - 1, by omega⟩
        simp (disch := omega) only [wX_settleEntities_2, nu_b16, h5, nu_01, nu_40, nu_30, nu_20, nu_160, Int32.add_zero, Nat.reduceAdd, nu_m16, nu_16m, nu_m4, nu_4m, nu_m3, nu_3m, nu_m2, nu_2m, nI_1, nu_p2, nu_p3, nu_16p, nu_2p, nI_add, nu_cl, nu_in, Nat.add_zero, nu_l0, nu_l1, nu_l2, nu_l3, nu_l4, nu_i0_5, nu_i1_5, nu_i2_5, nu_i0_3, nu_i1_3, nu_i2_3, nu_n0, nu_n1, nu_na0, nu_na1, forall_eq, true_implies, false_implies, implies_true, not_true_eq_false, not_false_eq_true, and_true, true_and, and_self, true_or, or_true, false_or, or_false, false_and, and_false, eq_self]
        exact hX post n (by omega) hp
      · obtain ⟨n, rfl⟩ : ∃ n', n = n' + 1 := ⟨n - 1, by omega⟩
        simp (disch := omega) only [wY_flushed_66, nu_b16, h5, nu_01, nu_40, nu_30, nu_20, nu_160, Int32.add_zero, Nat.reduceAdd, nu_m16, nu_16m, nu_m4, nu_4m, nu_m3, nu_3m, nu_m2, nu_2m, nI_1, nu_p2, nu_p3, nu_16p, nu_2p, nI_add, nu_cl, nu_in, Nat.add_zero, nu_l0, nu_l1, nu_l2, nu_l3, nu_l4, nu_i0_5, nu_i1_5, nu_i2_5, nu_i0_3, nu_i1_3, nu_i2_3, nu_n0, nu_n1, nu_na0, nu_na1, forall_eq, true_implies, false_implies, implies_true, not_true_eq_false, not_false_eq_true, and_true, true_and, and_self, true_or, or_true, false_or, or_false, false_and, and_false, eq_self]
        exact hY post n (by omega) hp
    · by_cases w : st (16 * s + i) = 2 ∨ di_P st en sn (16 * s + i)
      · obtain ⟨st', en', sn', nw', bf', ve', R', hX, hY⟩ := ih (i + 1) (by omega) _ _ _ _ _ _ (mg_R (s := s) (k := i) R hi')
        refine ⟨st', en', sn', nw', bf', ve', R', fun post n hn hp => ?_, fun post n hn hp => ?_⟩
        · obtain ⟨n, rfl⟩ : ∃ n', n = n' + 1 := ⟨n - 1, by omega⟩
          by_cases w2 : st (16 * s + i) = 2
          · simp (disch := omega) only [wX_settleEntities_2, wX_settleEntities_53, nu_b16, nu_k25, w2, nu_01, nu_40, nu_30, nu_20, nu_160, Int32.add_zero, Nat.reduceAdd, nu_m16, nu_16m, nu_m4, nu_4m, nu_m3, nu_3m, nu_m2, nu_2m, nI_1, nu_p2, nu_p3, nu_16p, nu_2p, nI_add, nu_cl, nu_in, Nat.add_zero, nu_l0, nu_l1, nu_l2, nu_l3, nu_l4, nu_i0_5, nu_i1_5, nu_i2_5, nu_i0_3, nu_i1_3, nu_i2_3, nu_n0, nu_n1, nu_na0, nu_na1, forall_eq, true_implies, false_implies, implies_true, not_true_eq_false, not_false_eq_true, and_true, true_and, and_self, true_or, or_true, false_or, or_false, false_and, and_false, eq_self]
            refine vx_mg hs hi' ?_
            simp (disch := omega) only [nu_01, nu_40, nu_30, nu_20, nu_160, Int32.add_zero, Nat.reduceAdd, nu_m16, nu_16m, nu_m4, nu_4m, nu_m3, nu_3m, nu_m2, nu_2m, nI_1, nu_p2, nu_p3, nu_16p, nu_2p, nI_add, nu_cl, nu_in, Nat.add_zero, nu_l0, nu_l1, nu_l2, nu_l3, nu_l4, nu_i0_5, nu_i1_5, nu_i2_5, nu_i0_3, nu_i1_3, nu_i2_3, nu_n0, nu_n1, nu_na0, nu_na1, forall_eq, true_implies, false_implies, implies_true, not_true_eq_false, not_false_eq_true, and_true, true_and, and_self, true_or, or_true, false_or, or_false, false_and, and_false, eq_self]
            exact hX post n (by omega) hp
          · have wv := di_t (w.resolve_left w2)
            simp (disch := omega) only [wX_settleEntities_2, wX_settleEntities_53, vx_dir, nu_b16, nu_k10, h5, w2, wv, nu_01, nu_40, nu_30, nu_20, nu_160, Int32.add_zero, Nat.reduceAdd, nu_m16, nu_16m, nu_m4, nu_4m, nu_m3, nu_3m, nu_m2, nu_2m, nI_1, nu_p2, nu_p3, nu_16p, nu_2p, nI_add, nu_cl, nu_in, Nat.add_zero, nu_l0, nu_l1, nu_l2, nu_l3, nu_l4, nu_i0_5, nu_i1_5, nu_i2_5, nu_i0_3, nu_i1_3, nu_i2_3, nu_n0, nu_n1, nu_na0, nu_na1, forall_eq, true_implies, false_implies, implies_true, not_true_eq_false, not_false_eq_true, and_true, true_and, and_self, true_or, or_true, false_or, or_false, false_and, and_false, eq_self]
            refine vx_mg hs hi' ?_
            simp (disch := omega) only [nu_01, nu_40, nu_30, nu_20, nu_160, Int32.add_zero, Nat.reduceAdd, nu_m16, nu_16m, nu_m4, nu_4m, nu_m3, nu_3m, nu_m2, nu_2m, nI_1, nu_p2, nu_p3, nu_16p, nu_2p, nI_add, nu_cl, nu_in, Nat.add_zero, nu_l0, nu_l1, nu_l2, nu_l3, nu_l4, nu_i0_5, nu_i1_5, nu_i2_5, nu_i0_3, nu_i1_3, nu_i2_3, nu_n0, nu_n1, nu_na0, nu_na1, forall_eq, true_implies, false_implies, implies_true, not_true_eq_false, not_false_eq_true, and_true, true_and, and_self, true_or, or_true, false_or, or_false, false_and, and_false, eq_self]
            exact hX post n (by omega) hp
        · obtain ⟨n, rfl⟩ : ∃ n', n = n' + 1 := ⟨n - 1, by omega⟩
          by_cases w2 : st (16 * s + i) = 2
          · simp (disch := omega) only [wY_flushed_66, wY_flushed_122, nu_b16, nu_k25, w2, nu_01, nu_40, nu_30, nu_20, nu_160, Int32.add_zero, Nat.reduceAdd, nu_m16, nu_16m, nu_m4, nu_4m, nu_m3, nu_3m, nu_m2, nu_2m, nI_1, nu_p2, nu_p3, nu_16p, nu_2p, nI_add, nu_cl, nu_in, Nat.add_zero, nu_l0, nu_l1, nu_l2, nu_l3, nu_l4, nu_i0_5, nu_i1_5, nu_i2_5, nu_i0_3, nu_i1_3, nu_i2_3, nu_n0, nu_n1, nu_na0, nu_na1, forall_eq, true_implies, false_implies, implies_true, not_true_eq_false, not_false_eq_true, and_true, true_and, and_self, true_or, or_true, false_or, or_false, false_and, and_false, eq_self]
            refine vy_mg hs hi' (re_rC R) ?_
            simp (disch := omega) only [nu_01, nu_40, nu_30, nu_20, nu_160, Int32.add_zero, Nat.reduceAdd, nu_m16, nu_16m, nu_m4, nu_4m, nu_m3, nu_3m, nu_m2, nu_2m, nI_1, nu_p2, nu_p3, nu_16p, nu_2p, nI_add, nu_cl, nu_in, Nat.add_zero, nu_l0, nu_l1, nu_l2, nu_l3, nu_l4, nu_i0_5, nu_i1_5, nu_i2_5, nu_i0_3, nu_i1_3, nu_i2_3, nu_n0, nu_n1, nu_na0, nu_na1, forall_eq, true_implies, false_implies, implies_true, not_true_eq_false, not_false_eq_true, and_true, true_and, and_self, true_or, or_true, false_or, or_false, false_and, and_false, eq_self]
            exact hY post n (by omega) hp
          · have wv := di_t (w.resolve_left w2)
            simp (disch := omega) only [wY_flushed_66, wY_flushed_122, nu_b16, h5, w2, nu_01, nu_40, nu_30, nu_20, nu_160, Int32.add_zero, Nat.reduceAdd, nu_m16, nu_16m, nu_m4, nu_4m, nu_m3, nu_3m, nu_m2, nu_2m, nI_1, nu_p2, nu_p3, nu_16p, nu_2p, nI_add, nu_cl, nu_in, Nat.add_zero, nu_l0, nu_l1, nu_l2, nu_l3, nu_l4, nu_i0_5, nu_i1_5, nu_i2_5, nu_i0_3, nu_i1_3, nu_i2_3, nu_n0, nu_n1, nu_na0, nu_na1, forall_eq, true_implies, false_implies, implies_true, not_true_eq_false, not_false_eq_true, and_true, true_and, and_self, true_or, or_true, false_or, or_false, false_and, and_false, eq_self]
            refine vy_dir (by omega) (re_rN R) (re_rS R) ?_
            simp (disch := omega) only [wv, nu_k10, forall_eq, true_implies, false_implies, implies_true, not_true_eq_false, not_false_eq_true, and_true, true_and, and_self, true_or, or_true, false_or, or_false, false_and, and_false, eq_self]
            refine vy_mg hs hi' (re_rC R) ?_
            simp (disch := omega) only [nu_01, nu_40, nu_30, nu_20, nu_160, Int32.add_zero, Nat.reduceAdd, nu_m16, nu_16m, nu_m4, nu_4m, nu_m3, nu_3m, nu_m2, nu_2m, nI_1, nu_p2, nu_p3, nu_16p, nu_2p, nI_add, nu_cl, nu_in, Nat.add_zero, nu_l0, nu_l1, nu_l2, nu_l3, nu_l4, nu_i0_5, nu_i1_5, nu_i2_5, nu_i0_3, nu_i1_3, nu_i2_3, nu_n0, nu_n1, nu_na0, nu_na1, forall_eq, true_implies, false_implies, implies_true, not_true_eq_false, not_false_eq_true, and_true, true_and, and_self, true_or, or_true, false_or, or_false, false_and, and_false, eq_self]
            exact hY post n (by omega) hp
      · have w2 : ¬ st (16 * s + i) = 2 := fun q => w (Or.inl q)
        have wv := di_f (fun q => w (Or.inr q))
        obtain ⟨st', en', sn', nw', bf', ve', R', hX, hY⟩ := ih (i + 1) (by omega) st en sn nw bf ve R
        refine ⟨st', en', sn', nw', bf', ve', R', fun post n hn hp => ?_, fun post n hn hp => ?_⟩
        · obtain ⟨n, rfl⟩ : ∃ n', n = n' + 1 := ⟨n - 1, by omega⟩
          simp (disch := omega) only [wX_settleEntities_2, vx_dir, nu_b16, h5, w2, wv, nu_01, nu_40, nu_30, nu_20, nu_160, Int32.add_zero, Nat.reduceAdd, nu_m16, nu_16m, nu_m4, nu_4m, nu_m3, nu_3m, nu_m2, nu_2m, nI_1, nu_p2, nu_p3, nu_16p, nu_2p, nI_add, nu_cl, nu_in, Nat.add_zero, nu_l0, nu_l1, nu_l2, nu_l3, nu_l4, nu_i0_5, nu_i1_5, nu_i2_5, nu_i0_3, nu_i1_3, nu_i2_3, nu_n0, nu_n1, nu_na0, nu_na1, forall_eq, true_implies, false_implies, implies_true, not_true_eq_false, not_false_eq_true, and_true, true_and, and_self, true_or, or_true, false_or, or_false, false_and, and_false, eq_self]
          exact hX post n (by omega) hp
        · obtain ⟨n, rfl⟩ : ∃ n', n = n' + 1 := ⟨n - 1, by omega⟩
          simp (disch := omega) only [wY_flushed_66, nu_b16, h5, w2, nu_01, nu_40, nu_30, nu_20, nu_160, Int32.add_zero, Nat.reduceAdd, nu_m16, nu_16m, nu_m4, nu_4m, nu_m3, nu_3m, nu_m2, nu_2m, nI_1, nu_p2, nu_p3, nu_16p, nu_2p, nI_add, nu_cl, nu_in, Nat.add_zero, nu_l0, nu_l1, nu_l2, nu_l3, nu_l4, nu_i0_5, nu_i1_5, nu_i2_5, nu_i0_3, nu_i1_3, nu_i2_3, nu_n0, nu_n1, nu_na0, nu_na1, forall_eq, true_implies, false_implies, implies_true, not_true_eq_false, not_false_eq_true, and_true, true_and, and_self, true_or, or_true, false_or, or_false, false_and, and_false, eq_self]
          refine vy_dir (by omega) (re_rN R) (re_rS R) ?_
          simp (disch := omega) only [wv, nu_01, nu_40, nu_30, nu_20, nu_160, Int32.add_zero, Nat.reduceAdd, nu_m16, nu_16m, nu_m4, nu_4m, nu_m3, nu_3m, nu_m2, nu_2m, nI_1, nu_p2, nu_p3, nu_16p, nu_2p, nI_add, nu_cl, nu_in, Nat.add_zero, nu_l0, nu_l1, nu_l2, nu_l3, nu_l4, nu_i0_5, nu_i1_5, nu_i2_5, nu_i0_3, nu_i1_3, nu_i2_3, nu_n0, nu_n1, nu_na0, nu_na1, forall_eq, true_implies, false_implies, implies_true, not_true_eq_false, not_false_eq_true, and_true, true_and, and_self, true_or, or_true, false_or, or_false, false_and, and_false, eq_self]
          exact hY post n (by omega) hp
end
section
variable {md bk rt rc lk wt wc ch st en sn th ro nw bf ve : Nat → Int32}
variable (sc fc cc rq : Int32) (ct sk sr fr lf cr rr yl la od sm : Nat → Int32)
theorem fe_S {s : Nat} (r : Int32) (hs : s < 3) (R : re_R md bk ch lk st rt rc wt wc en sn th ro nw bf ve) :
    ∃ (lk' bk' st' en' sn' nw' bf' ve' : Nat → Int32), re_R md bk' ch lk' st' rt rc wt wc en' sn' th ro nw' bf' ve' ∧
      (∀ post : Int32 → SX → Prop, post r (sc, fc, cc, rq, md, bk', ct, rt, rc, lk', wt, wc, ch, st', en', sn', sk, sr, fr, lf, cr, rr) → wX_flushSession_61 post (nI s) r sc fc cc rq md bk ct rt rc lk wt wc ch st en sn sk sr fr lf cr rr) ∧
      (∀ post : Int32 → SY → Prop, post r (sc, fc, th, ch, ro, lk', st', nw', bf', ve', bk', md, yl, la, od, sm, fr, ct) → wY_flushed_46 post (nI s) r sc fc th ch ro lk st nw bf ve bk md yl la od sm fr ct) := by
  by_cases r0 : r = 0
  · subst r0
    obtain ⟨st', en', sn', nw', bf', ve', R', hX, hY⟩ := se_L sc fc cc rq ct sk sr fr lf cr rr yl la od sm hs 16 0 rfl st en sn nw bf ve R
    refine ⟨lk, bk, st', en', sn', nw', bf', ve', R', fun post hp => ?_, fun post hp => ?_⟩
    · simp only [wX_flushSession_61, wpX_settleEntities, forall_eq, true_implies, false_implies, implies_true, not_true_eq_false, not_false_eq_true, and_true, true_and, and_self, true_or, or_true, false_or, or_false, false_and, and_false, eq_self]
      exact ⟨17, hX _ 17 (by decide) hp⟩
    · simp only [wY_flushed_46, forall_eq, true_implies, false_implies, implies_true, not_true_eq_false, not_false_eq_true, and_true, true_and, and_self, true_or, or_true, false_or, or_false, false_and, and_false, eq_self]
      exact ⟨17, hY _ 17 (by decide) hp⟩
  · obtain ⟨lk', R', hX, hY⟩ := un_S sc fc cc rq ct sk sr fr lf cr rr yl la od sm hs R
    refine ⟨lk', upd bk s 1, st, en, sn, nw, bf, ve, bk_R R' (Or.inr rfl), fun post hp => ?_, fun post hp => ?_⟩
    · simp only [wX_flushSession_61, r0, forall_eq, true_implies, false_implies, implies_true, not_true_eq_false, not_false_eq_true, and_true, true_and, and_self, true_or, or_true, false_or, or_false, false_and, and_false, eq_self]
      refine hX _ ?_
      simp (disch := omega) only [nu_01, nu_40, nu_30, nu_20, nu_160, Int32.add_zero, Nat.reduceAdd, nu_m16, nu_16m, nu_m4, nu_4m, nu_m3, nu_3m, nu_m2, nu_2m, nI_1, nu_p2, nu_p3, nu_16p, nu_2p, nI_add, nu_cl, nu_in, Nat.add_zero, nu_l0, nu_l1, nu_l2, nu_l3, nu_l4, nu_i0_5, nu_i1_5, nu_i2_5, nu_i0_3, nu_i1_3, nu_i2_3, nu_n0, nu_n1, nu_na0, nu_na1, forall_eq, true_implies, false_implies, implies_true, not_true_eq_false, not_false_eq_true, and_true, true_and, and_self, true_or, or_true, false_or, or_false, false_and, and_false, eq_self]
      exact hp
    · simp only [wY_flushed_46, r0, forall_eq, true_implies, false_implies, implies_true, not_true_eq_false, not_false_eq_true, and_true, true_and, and_self, true_or, or_true, false_or, or_false, false_and, and_false, eq_self]
      refine hY _ ?_
      simp (disch := omega) only [nu_01, nu_40, nu_30, nu_20, nu_160, Int32.add_zero, Nat.reduceAdd, nu_m16, nu_16m, nu_m4, nu_4m, nu_m3, nu_3m, nu_m2, nu_2m, nI_1, nu_p2, nu_p3, nu_16p, nu_2p, nI_add, nu_cl, nu_in, Nat.add_zero, nu_l0, nu_l1, nu_l2, nu_l3, nu_l4, nu_i0_5, nu_i1_5, nu_i2_5, nu_i0_3, nu_i1_3, nu_i2_3, nu_n0, nu_n1, nu_na0, nu_na1, forall_eq, true_implies, false_implies, implies_true, not_true_eq_false, not_false_eq_true, and_true, true_and, and_self, true_or, or_true, false_or, or_false, false_and, and_false, eq_self]
      exact hp
theorem fl_S {s : Nat} (hs : s < 3) (R : re_R md bk ch lk st rt rc wt wc en sn th ro nw bf ve) :
    ∃ (r : Int32) (n' : Nat) (cc' : Int32) (ct' lk' wt' wc' ch' st' en' sn' bk' sk' sr' lf' cr' th' ro' nw' bf' ve' yl' la' od' sm' : Nat → Int32), re_R md bk' ch' lk' st' rt rc wt' wc' en' sn' th' ro' nw' bf' ve' ∧ re_P n' sk' sr' sm' ∧ n' ≤ 32 ∧
      (∀ post : Int32 → SX → Prop, post r (nI n', fc, cc', rq, md, bk', ct', rt, rc, lk', wt', wc', ch', st', en', sn', sk', sr', fr, lf', cr', rr) → wpX_flushSession post (sc, fc, cc, rq, md, bk, ct, rt, rc, lk, wt, wc, ch, st, en, sn, sk, sr, fr, lf, cr, rr) (nI s)) ∧
      (∀ post : Int32 → SY → Prop, post r (nI n', fc, th', ch', ro', lk', st', nw', bf', ve', bk', md, yl', la', od', sm', fr, ct') → wpY_flushed post (sc, fc, th, ch, ro, lk, st, nw, bf, ve, bk, md, yl, la, od, sm, fr, ct) (nI s)) := by
  obtain ⟨r1, st1, R1, hr1, hX1, hY1⟩ := sa_S (nI 0) fc cc rq ct sk sr fr lf cr rr yl la od sm hs R
  rcases hr1 with rfl | rfl
  · obtain ⟨r2, n2, cc2, ct2, lk2, wt2, wc2, ch2, sk2, sr2, lf2, cr2, th2, ro2, yl2, la2, od2, sm2, R2, P2, hn2, hX2, hY2⟩ := ia_S fc cc rq ct sk sr fr lf cr rr yl la od sm hs R1
    have hX2' : ∀ post : Int32 → SX → Prop, wX_flushSession_41 post (nI s) r2 (nI n2) fc cc2 rq md bk ct2 rt rc lk2 wt2 wc2 ch2 st1 en sn sk2 sr2 fr lf2 cr2 rr → wpX_flushSession post (sc, fc, cc, rq, md, bk, ct, rt, rc, lk, wt, wc, ch, st, en, sn, sk, sr, fr, lf, cr, rr) (nI s) := by
      intro post hp
      simp only [wpX_flushSession]
      refine hX1 _ ?_
      simp only [forall_eq, true_implies, false_implies, implies_true, not_true_eq_false, not_false_eq_true, and_true, true_and, and_self, true_or, or_true, false_or, or_false, false_and, and_false, eq_self]
      exact hX2 post hp
    have hY2' : ∀ post : Int32 → SY → Prop, wY_flushed_21 post (nI s) r2 (nI n2) fc th2 ch2 ro2 lk2 st1 nw bf ve bk md yl2 la2 od2 sm2 fr ct2 → wpY_flushed post (sc, fc, th, ch, ro, lk, st, nw, bf, ve, bk, md, yl, la, od, sm, fr, ct) (nI s) := by
      intro post hp
      simp only [wpY_flushed]
      refine hY1 _ ?_
      simp only [forall_eq, true_implies, false_implies, implies_true, not_true_eq_false, not_false_eq_true, and_true, true_and, and_self, true_or, or_true, false_or, or_false, false_and, and_false, eq_self]
      exact hY2 _ hp
    by_cases q2 : r2 = 0
    · subst q2
      obtain ⟨r3, n3, ct3, lk3, wt3, ch3, sk3, sr3, lf3, th3, yl3, sm3, R3, P3, hn3, hX3, hY3⟩ := de_A fc cc2 rq ct2 sk2 sr2 fr lf2 cr2 rr yl2 la2 od2 sm2 hs hn2 R2 P2
      by_cases q3 : r3 = 0
      · subst q3
        obtain ⟨lk4, bk4, st4, en4, sn4, nw4, bf4, ve4, R4, hX4, hY4⟩ := fe_S (nI n3) fc cc2 rq ct3 sk3 sr3 fr lf3 cr2 rr yl3 la2 od2 sm3 (rm_i (∃ k, k < 16 ∧ fo_P rt wt3 rc wc2 lk3 s k) (-8) 0) hs R3
        refine ⟨rm_i (∃ k, k < 16 ∧ fo_P rt wt3 rc wc2 lk3 s k) (-8) 0, n3, cc2, ct3, lk4, wt3, wc2, ch3, st4, en4, sn4, bk4, sk3, sr3, lf3, cr2, th3, ro2, nw4, bf4, ve4, yl3, la2, od2, sm3, R4, P3, hn3, fun post hp => hX2' post ?_, fun post hp => hY2' post ?_⟩
        · simp only [wX_flushSession_41, forall_eq, true_implies, false_implies, implies_true, not_true_eq_false, not_false_eq_true, and_true, true_and, and_self, true_or, or_true, false_or, or_false, false_and, and_false, eq_self]
          refine hX3 _ ?_
          simp only [wX_flushSession_51, forall_eq, true_implies, false_implies, implies_true, not_true_eq_false, not_false_eq_true, and_true, true_and, and_self, true_or, or_true, false_or, or_false, false_and, and_false, eq_self]
          refine vx_le hs (re_rT R3) (re_rth R3) (re_rC R3) (re_rO R3) ?_
          exact hX4 post hp
        · simp only [wY_flushed_21, forall_eq, true_implies, false_implies, implies_true, not_true_eq_false, not_false_eq_true, and_true, true_and, and_self, true_or, or_true, false_or, or_false, false_and, and_false, eq_self]
          refine hY3 _ ?_
          simp only [wY_flushed_31, forall_eq, true_implies, false_implies, implies_true, not_true_eq_false, not_false_eq_true, and_true, true_and, and_self, true_or, or_true, false_or, or_false, false_and, and_false, eq_self]
          refine vy_fo hs (re_rT R3) (re_rC R3) (re_rO R3) ?_
          have hy := hY4 post hp
          by_cases f : ∃ k, k < 16 ∧ fo_P rt wt3 rc wc2 lk3 s k
          · rw [rm_t f] at hy
            rw [di_t f]
            simp only [nu_k10, forall_eq, true_implies, false_implies, implies_true, not_true_eq_false, not_false_eq_true, and_true, true_and, and_self, true_or, or_true, false_or, or_false, false_and, and_false, eq_self]
            exact hy
          · rw [rm_f f] at hy
            rw [di_f f]
            simp only [forall_eq, true_implies, false_implies, implies_true, not_true_eq_false, not_false_eq_true, and_true, true_and, and_self, true_or, or_true, false_or, or_false, false_and, and_false, eq_self]
            exact hy
      · obtain ⟨lk4, bk4, st4, en4, sn4, nw4, bf4, ve4, R4, hX4, hY4⟩ := fe_S (nI n3) fc cc2 rq ct3 sk3 sr3 fr lf3 cr2 rr yl3 la2 od2 sm3 r3 hs R3
        refine ⟨r3, n3, cc2, ct3, lk4, wt3, wc2, ch3, st4, en4, sn4, bk4, sk3, sr3, lf3, cr2, th3, ro2, nw4, bf4, ve4, yl3, la2, od2, sm3, R4, P3, hn3, fun post hp => hX2' post ?_, fun post hp => hY2' post ?_⟩
        · simp only [wX_flushSession_41, forall_eq, true_implies, false_implies, implies_true, not_true_eq_false, not_false_eq_true, and_true, true_and, and_self, true_or, or_true, false_or, or_false, false_and, and_false, eq_self]
          refine hX3 _ ?_
          simp only [wX_flushSession_51, q3, forall_eq, true_implies, false_implies, implies_true, not_true_eq_false, not_false_eq_true, and_true, true_and, and_self, true_or, or_true, false_or, or_false, false_and, and_false, eq_self]
          exact hX4 post hp
        · simp only [wY_flushed_21, forall_eq, true_implies, false_implies, implies_true, not_true_eq_false, not_false_eq_true, and_true, true_and, and_self, true_or, or_true, false_or, or_false, false_and, and_false, eq_self]
          refine hY3 _ ?_
          simp only [wY_flushed_31, q3, forall_eq, true_implies, false_implies, implies_true, not_true_eq_false, not_false_eq_true, and_true, true_and, and_self, true_or, or_true, false_or, or_false, false_and, and_false, eq_self]
          exact hY4 post hp
    · obtain ⟨lk4, bk4, st4, en4, sn4, nw4, bf4, ve4, R4, hX4, hY4⟩ := fe_S (nI n2) fc cc2 rq ct2 sk2 sr2 fr lf2 cr2 rr yl2 la2 od2 sm2 r2 hs R2
      refine ⟨r2, n2, cc2, ct2, lk4, wt2, wc2, ch2, st4, en4, sn4, bk4, sk2, sr2, lf2, cr2, th2, ro2, nw4, bf4, ve4, yl2, la2, od2, sm2, R4, P2, by omega, fun post hp => hX2' post ?_, fun post hp => hY2' post ?_⟩
      · simp only [wX_flushSession_41, wX_flushSession_51, q2, forall_eq, true_implies, false_implies, implies_true, not_true_eq_false, not_false_eq_true, and_true, true_and, and_self, true_or, or_true, false_or, or_false, false_and, and_false, eq_self]
        exact hX4 post hp
      · simp only [wY_flushed_21, wY_flushed_31, q2, forall_eq, true_implies, false_implies, implies_true, not_true_eq_false, not_false_eq_true, and_true, true_and, and_self, true_or, or_true, false_or, or_false, false_and, and_false, eq_self]
        exact hY4 post hp
  · obtain ⟨lk4, bk4, st4, en4, sn4, nw4, bf4, ve4, R4, hX4, hY4⟩ := fe_S (nI 0) fc cc rq ct sk sr fr lf cr rr yl la od sm (-7) hs R1
    refine ⟨-7, 0, cc, ct, lk4, wt, wc, ch, st4, en4, sn4, bk4, sk, sr, lf, cr, th, ro, nw4, bf4, ve4, yl, la, od, sm, R4, re_P0, by decide, fun post hp => ?_, fun post hp => ?_⟩
    · simp only [wpX_flushSession]
      refine hX1 _ ?_
      simp only [wX_flushSession_21, wX_flushSession_31, wX_flushSession_41, wX_flushSession_51, nu_z7, forall_eq, true_implies, false_implies, implies_true, not_true_eq_false, not_false_eq_true, and_true, true_and, and_self, true_or, or_true, false_or, or_false, false_and, and_false, eq_self]
      exact hX4 post hp
    · simp only [wpY_flushed]
      refine hY1 _ ?_
      simp only [wY_flushed_21, wY_flushed_31, nu_z7, forall_eq, true_implies, false_implies, implies_true, not_true_eq_false, not_false_eq_true, and_true, true_and, and_self, true_or, or_true, false_or, or_false, false_and, and_false, eq_self]
      exact hY4 post hp
end
