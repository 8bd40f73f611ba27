section
variable {md bk wt wc st en sn nw bf ve : Nat → Int32}
variable (sc fc cc rq : Int32) (ct sk sr fr lf cr rr yl la od sm : Nat → Int32)
/-- what was written becomes the store's -/
theorem pb_L {s : Nat} (hs : s < 3) : ∀ (d i : Nat), i + d = 16 → ∀ (ch lk rt rc th ro : Nat → Int32), re_R md bk ch lk st rt rc wt wc en sn th ro nw bf ve →
    ∃ (ch' lk' rt' rc' th' ro' : Nat → Int32), re_R md bk ch' lk' st rt' rc' wt wc en sn th' ro' nw bf ve ∧
      (∀ (post : SX → Prop) n, d < n → post (sc, fc, cc, rq, md, bk, ct, rt', rc', lk', wt, wc, ch', st, en, sn, sk, sr, fr, lf, cr, rr) → wX_publishWritten_2 post (nI s) sc fc cc rq n (nI i) md bk ct rt rc lk wt wc ch st en sn sk sr fr lf cr rr) ∧
      (∀ (post : Int32 → SY → Prop) n, d < n → post 0 (sc, fc, th', ch', ro', lk', st, nw, bf, ve, bk, md, yl, la, od, sm, fr, ct) → wY_commit_14 post (nI s) sc fc n (nI i) th ch ro lk st nw bf ve bk md yl la od sm fr ct) := by
  intro d
  induction d with
  | zero =>
    intro i hi ch lk rt rc th ro R
    refine ⟨ch, lk, rt, rc, th, ro, R, fun post n hn hp => ?_, fun post n hn hp => ?_⟩
    · obtain ⟨n, rfl⟩ : ∃ n', n = n' + 1 := ⟨n - 1, by omega⟩
      simp (disch := omega) only [wX_publishWritten_2, nu_a16, forall_eq, true_implies, false_implies, implies_true, not_true_eq_false, not_false_eq_true, and_true, true_and, and_self, true_or, or_true, false_or, or_false, false_and, and_false, eq_self]
      exact hp
    · obtain ⟨n, rfl⟩ : ∃ n', n = n' + 1 := ⟨n - 1, by omega⟩
      simp (disch := omega) only [wY_commit_14, nu_a16, forall_eq, true_implies, false_implies, implies_true, not_true_eq_false, not_false_eq_true, and_true, true_and, and_self, true_or, or_true, false_or, or_false, false_and, and_false, eq_self]
      exact hp
  | succ d ih =>
    intro i hi ch lk rt rc th ro R
    have hi' : i < 16 := by omega
    have hT := (re_rT R i hi').2
    have hb : wt i = 0 ∨ wt i = 1 := by
      rw [hT]
      exact re_rth R _
    have hn := nu_nb hb
    have c0 := (re_rC R i hi' 0 (by decide)).2
    have c1 := (re_rC R i hi' 1 (by decide)).2
    have c2 := (re_rC R i hi' 2 (by decide)).2
    have c3 := (re_rC R i hi' 3 (by decide)).2
    rw [Nat.add_zero, Nat.add_zero] at c0
    by_cases h : lk i = nI s
    · obtain ⟨ch', lk', rt', rc', th', ro', R', hX, hY⟩ := ih (i + 1) (by omega) _ _ _ _ _ _ (pb_R (k := i) R hi')
      refine ⟨ch', lk', rt', rc', th', ro', R', fun post n hn' hp => ?_, fun post n hn' hp => ?_⟩
      · obtain ⟨n, rfl⟩ : ∃ n', n = n' + 1 := ⟨n - 1, by omega⟩
        have hx := hX post n (by omega) hp
        simp (disch := omega) only [wX_publishWritten_2, nu_b16, h, hn, nu_01, nu_40, nu_30, nu_20, nu_160, Int32.add_zero, Nat.reduceAdd, nu_m16, nu_16m, nu_m4, nu_4m, nu_m3, nu_3m, nu_m2, nu_2m, nI_1, nu_p2, nu_p3, nu_16p, nu_2p, nI_add, nu_cl, nu_in, Nat.add_zero, nu_l0, nu_l1, nu_l2, nu_l3, nu_l4, nu_i0_5, nu_i1_5, nu_i2_5, nu_i0_3, nu_i1_3, nu_i2_3, nu_n0, nu_n1, nu_na0, nu_na1, forall_eq, true_implies, false_implies, implies_true, not_true_eq_false, not_false_eq_true, and_true, true_and, and_self, true_or, or_true, false_or, or_false, false_and, and_false, eq_self]
        refine ⟨5, ?_⟩
        simp (disch := omega) only [wX_publishWritten_51, nu_a4, nu_b4, nu_01, nu_40, nu_30, nu_20, nu_160, Int32.add_zero, Nat.reduceAdd, nu_m16, nu_16m, nu_m4, nu_4m, nu_m3, nu_3m, nu_m2, nu_2m, nI_1, nu_p2, nu_p3, nu_16p, nu_2p, nI_add, nu_cl, nu_in, Nat.add_zero, nu_l0, nu_l1, nu_l2, nu_l3, nu_l4, nu_i0_5, nu_i1_5, nu_i2_5, nu_i0_3, nu_i1_3, nu_i2_3, nu_n0, nu_n1, nu_na0, nu_na1, forall_eq, true_implies, false_implies, implies_true, not_true_eq_false, not_false_eq_true, and_true, true_and, and_self, true_or, or_true, false_or, or_false, false_and, and_false, eq_self]
        exact hx
      · obtain ⟨n, rfl⟩ : ∃ n', n = n' + 1 := ⟨n - 1, by omega⟩
        have hy := hY post n (by omega) hp
        rw [c0, c1, c2, c3] at hy
        simp (disch := omega) only [wY_commit_14, nu_b16, h, ← hT, hn, pk_us, nu_01, nu_40, nu_30, nu_20, nu_160, Int32.add_zero, Nat.reduceAdd, nu_m16, nu_16m, nu_m4, nu_4m, nu_m3, nu_3m, nu_m2, nu_2m, nI_1, nu_p2, nu_p3, nu_16p, nu_2p, nI_add, nu_cl, nu_in, Nat.add_zero, nu_l0, nu_l1, nu_l2, nu_l3, nu_l4, nu_i0_5, nu_i1_5, nu_i2_5, nu_i0_3, nu_i1_3, nu_i2_3, nu_n0, nu_n1, nu_na0, nu_na1, forall_eq, true_implies, false_implies, implies_true, not_true_eq_false, not_false_eq_true, and_true, true_and, and_self, true_or, or_true, false_or, or_false, false_and, and_false, eq_self]
        refine ⟨5, ?_⟩
        simp (disch := omega) only [wY_commit_70, nu_a4, nu_b4, pk_un, nu_01, nu_40, nu_30, nu_20, nu_160, Int32.add_zero, Nat.reduceAdd, nu_m16, nu_16m, nu_m4, nu_4m, nu_m3, nu_3m, nu_m2, nu_2m, nI_1, nu_p2, nu_p3, nu_16p, nu_2p, nI_add, nu_cl, nu_in, Nat.add_zero, nu_l0, nu_l1, nu_l2, nu_l3, nu_l4, nu_i0_5, nu_i1_5, nu_i2_5, nu_i0_3, nu_i1_3, nu_i2_3, nu_n0, nu_n1, nu_na0, nu_na1, forall_eq, true_implies, false_implies, implies_true, not_true_eq_false, not_false_eq_true, and_true, true_and, and_self, true_or, or_true, false_or, or_false, false_and, and_false, eq_self]
        exact hy
    · obtain ⟨ch', lk', rt', rc', th', ro', R', hX, hY⟩ := ih (i + 1) (by omega) ch lk rt rc th ro R
      refine ⟨ch', lk', rt', rc', th', ro', R', fun post n hn' hp => ?_, fun post n hn' hp => ?_⟩
      · obtain ⟨n, rfl⟩ : ∃ n', n = n' + 1 := ⟨n - 1, by omega⟩
        simp (disch := omega) only [wX_publishWritten_2, nu_b16, h, nu_01, nu_40, nu_30, nu_20, nu_160, Int32.add_zero, Nat.reduceAdd, nu_m16, nu_16m, nu_m4, nu_4m, nu_m3, nu_3m, nu_m2, nu_2m, nI_1, nu_p2, nu_p3, nu_16p, nu_2p, nI_add, nu_cl, nu_in, Nat.add_zero, nu_l0, nu_l1, nu_l2, nu_l3, nu_l4, nu_i0_5, nu_i1_5, nu_i2_5, nu_i0_3, nu_i1_3, nu_i2_3, nu_n0, nu_n1, nu_na0, nu_na1, forall_eq, true_implies, false_implies, implies_true, not_true_eq_false, not_false_eq_true, and_true, true_and, and_self, true_or, or_true, false_or, or_false, false_and, and_false, eq_self]
        exact hX post n (by omega) hp
      · obtain ⟨n, rfl⟩ : ∃ n', n = n' + 1 := ⟨n - 1, by omega⟩
        simp (disch := omega) only [wY_commit_14, nu_b16, h, nu_01, nu_40, nu_30, nu_20, nu_160, Int32.add_zero, Nat.reduceAdd, nu_m16, nu_16m, nu_m4, nu_4m, nu_m3, nu_3m, nu_m2, nu_2m, nI_1, nu_p2, nu_p3, nu_16p, nu_2p, nI_add, nu_cl, nu_in, Nat.add_zero, nu_l0, nu_l1, nu_l2, nu_l3, nu_l4, nu_i0_5, nu_i1_5, nu_i2_5, nu_i0_3, nu_i1_3, nu_i2_3, nu_n0, nu_n1, nu_na0, nu_na1, forall_eq, true_implies, false_implies, implies_true, not_true_eq_false, not_false_eq_true, and_true, true_and, and_self, true_or, or_true, false_or, or_false, false_and, and_false, eq_self]
        exact hY post n (by omega) hp
end
theorem fl_T {u : SX} {v : SY} (I : i_Rel 0 u v) (v1 : Int32) : sm_S (fun post => wpX_flush post u v1) (fun post => wpY_flush post v v1) := by
  obtain ⟨n, m, cc, rq, md, bk, ct, rt, rc, lk, wt, wc, ch, st, en, sn, sk, sr, fr, lf, cr, rr, th, ro, nw, bf, ve, yl, la, od, sm, rfl, rfl, hn, hm, R, hP⟩ := I
  by_cases h : er_v bk v1 0 = 0
  · obtain ⟨s, k, hs, hk, rfl, _, hb⟩ := er_0 h
    obtain ⟨r, n', cc', ct', lk', wt', wc', ch', st', en', sn', bk', sk', sr', lf', cr', th', ro', nw', bf', ve', yl', la', od', sm', R', P', hn', hX, hY⟩ := fl_S (nI n) (nI m) cc rq ct sk sr fr lf cr rr yl la od sm hs R
    refine ⟨r, (nI n', nI m, cc', rq, md, bk', ct', rt, rc, lk', wt', wc', ch', st', en', sn', sk', sr', fr, lf', cr', rr), (nI n', nI m, th', ch', ro', lk', st', nw', bf', ve', bk', md, yl', la', od', sm', fr, ct'), ir_mk hn' hm R' P', fun post hp => ?_, fun post hp => ?_⟩
    · simp only [wpX_flush, vx_ser, h, forall_eq, true_implies, false_implies, implies_true, not_true_eq_false, not_false_eq_true, and_true, true_and, and_self, true_or, or_true, false_or, or_false, false_and, and_false, eq_self]
      exact hX _ hp
    · simp only [wpY_flush, vy_err, h, forall_eq, true_implies, false_implies, implies_true, not_true_eq_false, not_false_eq_true, and_true, true_and, and_self, true_or, or_true, false_or, or_false, false_and, and_false, eq_self]
      exact hY _ hp
  · refine ⟨(er_v bk v1 0), (nI n, nI m, cc, rq, md, bk, ct, rt, rc, lk, wt, wc, ch, st, en, sn, sk, sr, fr, lf, cr, rr), (nI n, nI m, th, ch, ro, lk, st, nw, bf, ve, bk, md, yl, la, od, sm, fr, ct), ir_mk hn hm (R) hP, fun post hp => ?_, fun post hp => ?_⟩
    · simp (disch := omega) only [wpX_flush, vx_ser, h, nu_01, nu_40, nu_30, nu_20, nu_160, Int32.add_zero, Nat.reduceAdd, nu_m16, nu_16m, nu_m4, nu_4m, nu_m3, nu_3m, nu_m2, nu_2m, nI_1, nu_p2, nu_p3, nu_16p, nu_2p, nI_add, nu_cl, nu_in, Nat.add_zero, nu_l0, nu_l1, nu_l2, nu_l3, nu_l4, nu_i0_5, nu_i1_5, nu_i2_5, nu_i0_3, nu_i1_3, nu_i2_3, nu_n0, nu_n1, nu_na0, nu_na1, forall_eq, true_implies, false_implies, implies_true, not_true_eq_false, not_false_eq_true, and_true, true_and, and_self, true_or, or_true, false_or, or_false, false_and, and_false, eq_self]
      exact hp
    · simp (disch := omega) only [wpY_flush, vy_err, h, nu_01, nu_40, nu_30, nu_20, nu_160, Int32.add_zero, Nat.reduceAdd, nu_m16, nu_16m, nu_m4, nu_4m, nu_m3, nu_3m, nu_m2, nu_2m, nI_1, nu_p2, nu_p3, nu_16p, nu_2p, nI_add, nu_cl, nu_in, Nat.add_zero, nu_l0, nu_l1, nu_l2, nu_l3, nu_l4, nu_i0_5, nu_i1_5, nu_i2_5, nu_i0_3, nu_i1_3, nu_i2_3, nu_n0, nu_n1, nu_na0, nu_na1, forall_eq, true_implies, false_implies, implies_true, not_true_eq_false, not_false_eq_true, and_true, true_and, and_self, true_or, or_true, false_or, or_false, false_and, and_false, eq_self]
      exact hp
theorem cm_T {u : SX} {v : SY} (I : i_Rel 0 u v) (v1 : Int32) : sm_S (fun post => wpX_commit post u v1) (fun post => wpY_commit post v v1) := by
  obtain ⟨n, m, cc, rq, md, bk, ct, rt, rc, lk, wt, wc, ch, st, en, sn, sk, sr, fr, lf, cr, rr, th, ro, nw, bf, ve, yl, la, od, sm, rfl, rfl, hn, hm, R, hP⟩ := I
  by_cases h : er_v bk v1 0 = 0
  · obtain ⟨s, k, hs, hk, rfl, _, hb⟩ := er_0 h
    obtain ⟨r, n', cc', ct', lk', wt', wc', ch', st', en', sn', bk', sk', sr', lf', cr', th', ro', nw', bf', ve', yl', la', od', sm', R', P', hn', hX, hY⟩ := fl_S (nI n) (nI m) cc rq ct sk sr fr lf cr rr yl la od sm hs R
    by_cases r0 : r = 0
    · subst r0
      obtain ⟨ch2, lk2, rt2, rc2, th2, ro2, R2, hX2, hY2⟩ := pb_L (nI n') (nI m) cc' rq ct' sk' sr' fr lf' cr' rr yl' la' od' sm' hs 16 0 rfl ch' lk' rt rc th' ro' R'
      refine ⟨0, (nI n', nI m, cc', rq, md, bk', ct', rt2, rc2, lk2, wt', wc', ch2, st', en', sn', sk', sr', fr, lf', cr', rr), (nI n', nI m, th2, ch2, ro2, lk2, st', nw', bf', ve', bk', md, yl', la', od', sm', fr, ct'), ir_mk hn' hm R2 P', fun post hp => ?_, fun post hp => ?_⟩
      · simp only [wpX_commit, vx_ser, h, forall_eq, true_implies, false_implies, implies_true, not_true_eq_false, not_false_eq_true, and_true, true_and, and_self, true_or, or_true, false_or, or_false, false_and, and_false, eq_self]
        refine hX _ ?_
        simp only [wX_commit_16, wpX_publishWritten, forall_eq, true_implies, false_implies, implies_true, not_true_eq_false, not_false_eq_true, and_true, true_and, and_self, true_or, or_true, false_or, or_false, false_and, and_false, eq_self]
        exact ⟨17, hX2 _ 17 (by decide) hp⟩
      · simp only [wpY_commit, wpY_flush, vy_err, h, forall_eq, true_implies, false_implies, implies_true, not_true_eq_false, not_false_eq_true, and_true, true_and, and_self, true_or, or_true, false_or, or_false, false_and, and_false, eq_self]
        refine hY _ ?_
        simp only [forall_eq, true_implies, false_implies, implies_true, not_true_eq_false, not_false_eq_true, and_true, true_and, and_self, true_or, or_true, false_or, or_false, false_and, and_false, eq_self]
        exact ⟨17, hY2 _ 17 (by decide) hp⟩
    · refine ⟨r, (nI n', nI m, cc', rq, md, bk', ct', rt, rc, lk', wt', wc', ch', st', en', sn', sk', sr', fr, lf', cr', rr), (nI n', nI m, th', ch', ro', lk', st', nw', bf', ve', bk', md, yl', la', od', sm', fr, ct'), ir_mk hn' hm R' P', fun post hp => ?_, fun post hp => ?_⟩
      · simp only [wpX_commit, vx_ser, h, forall_eq, true_implies, false_implies, implies_true, not_true_eq_false, not_false_eq_true, and_true, true_and, and_self, true_or, or_true, false_or, or_false, false_and, and_false, eq_self]
        refine hX _ ?_
        simp only [wX_commit_16, r0, forall_eq, true_implies, false_implies, implies_true, not_true_eq_false, not_false_eq_true, and_true, true_and, and_self, true_or, or_true, false_or, or_false, false_and, and_false, eq_self]
        exact hp
      · simp only [wpY_commit, wpY_flush, vy_err, h, forall_eq, true_implies, false_implies, implies_true, not_true_eq_false, not_false_eq_true, and_true, true_and, and_self, true_or, or_true, false_or, or_false, false_and, and_false, eq_self]
        refine hY _ ?_
        simp only [r0, forall_eq, true_implies, false_implies, implies_true, not_true_eq_false, not_false_eq_true, and_true, true_and, and_self, true_or, or_true, false_or, or_false, false_and, and_false, eq_self]
        exact hp
  · refine ⟨(er_v bk v1 0), (nI n, nI m, cc, rq, md, bk, ct, rt, rc, lk, wt, wc, ch, st, en, sn, sk, sr, fr, lf, cr, rr), (nI n, nI m, th, ch, ro, lk, st, nw, bf, ve, bk, md, yl, la, od, sm, fr, ct), ir_mk hn hm (R) hP, fun post hp => ?_, fun post hp => ?_⟩
    · simp (disch := omega) only [wpX_commit, wX_commit_16, vx_ser, h, nu_01, nu_40, nu_30, nu_20, nu_160, Int32.add_zero, Nat.reduceAdd, nu_m16, nu_16m, nu_m4, nu_4m, nu_m3, nu_3m, nu_m2, nu_2m, nI_1, nu_p2, nu_p3, nu_16p, nu_2p, nI_add, nu_cl, nu_in, Nat.add_zero, nu_l0, nu_l1, nu_l2, nu_l3, nu_l4, nu_i0_5, nu_i1_5, nu_i2_5, nu_i0_3, nu_i1_3, nu_i2_3, nu_n0, nu_n1, nu_na0, nu_na1, forall_eq, true_implies, false_implies, implies_true, not_true_eq_false, not_false_eq_true, and_true, true_and, and_self, true_or, or_true, false_or, or_false, false_and, and_false, eq_self]
      exact hp
    · simp (disch := omega) only [wpY_commit, wpY_flush, vy_err, h, nu_01, nu_40, nu_30, nu_20, nu_160, Int32.add_zero, Nat.reduceAdd, nu_m16, nu_16m, nu_m4, nu_4m, nu_m3, nu_3m, nu_m2, nu_2m, nI_1, nu_p2, nu_p3, nu_16p, nu_2p, nI_add, nu_cl, nu_in, Nat.add_zero, nu_l0, nu_l1, nu_l2, nu_l3, nu_l4, nu_i0_5, nu_i1_5, nu_i2_5, nu_i0_3, nu_i1_3, nu_i2_3, nu_n0, nu_n1, nu_na0, nu_na1, forall_eq, true_implies, false_implies, implies_true, not_true_eq_false, not_false_eq_true, and_true, true_and, and_self, true_or, or_true, false_or, or_false, false_and, and_false, eq_self]
      exact hp
section
variable {md bk ch lk rt rc wt wc th ro : Nat → Int32}
variable (sc cc rq : Int32) (ct sk sr lf cr rr yl la od sm : Nat → Int32)
theorem fi_L {s w : Nat} {v : Int32} (hs : s < 3) (hw : w < 3) : ∀ (d i : Nat), i + d = 16 → ∀ (m : Nat) (fr st en sn nw bf ve : Nat → Int32), m ≤ i → re_R md bk ch lk st rt rc wt wc en sn th ro nw bf ve →
    ∃ (m' : Nat) (fr' st' en' sn' nw' bf' ve' : Nat → Int32), m' ≤ 16 ∧ re_R md bk ch lk st' rt rc wt wc en' sn' th ro nw' bf' ve' ∧
      (∀ (post : Int32 → SX → Prop) n, d < n → post (nI m') (sc, nI m', cc, rq, md, bk, ct, rt, rc, lk, wt, wc, ch, st', en', sn', sk, sr, fr', lf, cr, rr) → wX_find_59 post (nI s) (nI w) v n (nI i) sc (nI m) cc rq md bk ct rt rc lk wt wc ch st en sn sk sr fr lf cr rr) ∧
      (∀ (post : Int32 → SY → Prop) n, d < n → post (nI m') (sc, nI m', th, ch, ro, lk, st', nw', bf', ve', bk, md, yl, la, od, sm, fr', ct) → wY_find_59 post (nI s) (nI w) v n (nI i) sc (nI m) th ch ro lk st nw bf ve bk md yl la od sm fr ct) := by
  intro d
  induction d with
  | zero =>
    intro i hi m fr st en sn nw bf ve hm R
    refine ⟨m, fr, st, en, sn, nw, bf, ve, by omega, R, fun post n hn hp => ?_, fun post n hn hp => ?_⟩
    · obtain ⟨n, rfl⟩ : ∃ n', n = n' + 1 := ⟨n - 1, by omega⟩
      simp (disch := omega) only [wX_find_59, nu_a16, forall_eq, true_implies, false_implies, implies_true, not_true_eq_false, not_false_eq_true, and_true, true_and, and_self, true_or, or_true, false_or, or_false, false_and, and_false, eq_self]
      exact hp
    · obtain ⟨n, rfl⟩ : ∃ n', n = n' + 1 := ⟨n - 1, by omega⟩
      simp (disch := omega) only [wY_find_59, nu_a16, forall_eq, true_implies, false_implies, implies_true, not_true_eq_false, not_false_eq_true, and_true, true_and, and_self, true_or, or_true, false_or, or_false, false_and, and_false, eq_self]
      exact hp
  | succ d ih =>
    intro i hi m fr st en sn nw bf ve hm R
    have hi' : i < 16 := by omega
    have hT := re_rT R
    have hB := re_rth R
    have hC := re_rC R
    have hf := si_lt lk (s := s) hi'
    have ht := si_ft (lk := lk) (s := s) hT hi'
    have hc := si_fc (lk := lk) (s := s) (c := w) hC hi' (by omega)
    have hsc : ∀ {post : Int32 → Prop} {st en sn fr : Nat → Int32}, wpX_sightCell post (sc, nI m, cc, rq, md, bk, ct, rt, rc, lk, wt, wc, ch, st, en, sn, sk, sr, fr, lf, cr, rr) (nI s) (nI i) (nI w) = post (si_c rc wc lk s i w) := fun {post st en sn fr} => vx_sce hi' (by omega)
    by_cases z : ¬ si_t rt wt lk s i = 0 ∧ si_c rc wc lk s i w = v
    · have z1 := z.1
      have z2 := z.2
      have ht' : ¬ th (si_f lk s i) = 0 := by
        rw [ht]
        exact z1
      rw [z2] at hc
      by_cases u : st (16 * s + i) = 0 ∨ st (16 * s + i) = 3
      · obtain ⟨m', fr', st', en', sn', nw', bf', ve', hm', R', hX, hY⟩ := ih (i + 1) (by omega) (m + 1) (upd fr m (nI i)) _ _ _ _ _ _ (by omega) (mg_R (s := s) (k := i) R hi')
        refine ⟨m', fr', st', en', sn', nw', bf', ve', hm', R', fun post n hn hp => ?_, fun post n hn hp => ?_⟩
        · obtain ⟨n, rfl⟩ : ∃ n', n = n' + 1 := ⟨n - 1, by omega⟩
          have hx := hX post n (by omega) hp
          rcases u with u | u
          · simp (disch := omega) only [wX_find_59, wpX_manageIfUnloaded, wX_manageIfUnloaded_21, nu_b16, vx_see hi' hT hB, hsc, z1, z2, u, nu_01, nu_40, nu_30, nu_20, nu_160, Int32.add_zero, Nat.reduceAdd, nu_m16, nu_16m, nu_m4, nu_4m, nu_m3, nu_3m, nu_m2, nu_2m, nI_1, nu_p2, nu_p3, nu_16p, nu_2p, nI_add, nu_cl, nu_in, Nat.add_zero, nu_l0, nu_l1, nu_l2, nu_l3, nu_l4, nu_i0_5, nu_i1_5, nu_i2_5, nu_i0_3, nu_i1_3, nu_i2_3, nu_n0, nu_n1, nu_na0, nu_na1, forall_eq, true_implies, false_implies, implies_true, not_true_eq_false, not_false_eq_true, and_true, true_and, and_self, true_or, or_true, false_or, or_false, false_and, and_false, eq_self]
            refine vx_mg hs hi' ?_
            simp (disch := omega) only [nu_01, nu_40, nu_30, nu_20, nu_160, Int32.add_zero, Nat.reduceAdd, nu_m16, nu_16m, nu_m4, nu_4m, nu_m3, nu_3m, nu_m2, nu_2m, nI_1, nu_p2, nu_p3, nu_16p, nu_2p, nI_add, nu_cl, nu_in, Nat.add_zero, nu_l0, nu_l1, nu_l2, nu_l3, nu_l4, nu_i0_5, nu_i1_5, nu_i2_5, nu_i0_3, nu_i1_3, nu_i2_3, nu_n0, nu_n1, nu_na0, nu_na1, forall_eq, true_implies, false_implies, implies_true, not_true_eq_false, not_false_eq_true, and_true, true_and, and_self, true_or, or_true, false_or, or_false, false_and, and_false, eq_self]
            exact hx
          · simp (disch := omega) only [wX_find_59, wpX_manageIfUnloaded, wX_manageIfUnloaded_21, nu_b16, nu_k30, vx_see hi' hT hB, hsc, z1, z2, u, nu_01, nu_40, nu_30, nu_20, nu_160, Int32.add_zero, Nat.reduceAdd, nu_m16, nu_16m, nu_m4, nu_4m, nu_m3, nu_3m, nu_m2, nu_2m, nI_1, nu_p2, nu_p3, nu_16p, nu_2p, nI_add, nu_cl, nu_in, Nat.add_zero, nu_l0, nu_l1, nu_l2, nu_l3, nu_l4, nu_i0_5, nu_i1_5, nu_i2_5, nu_i0_3, nu_i1_3, nu_i2_3, nu_n0, nu_n1, nu_na0, nu_na1, forall_eq, true_implies, false_implies, implies_true, not_true_eq_false, not_false_eq_true, and_true, true_and, and_self, true_or, or_true, false_or, or_false, false_and, and_false, eq_self]
            refine vx_mg hs hi' ?_
            simp (disch := omega) only [nu_01, nu_40, nu_30, nu_20, nu_160, Int32.add_zero, Nat.reduceAdd, nu_m16, nu_16m, nu_m4, nu_4m, nu_m3, nu_3m, nu_m2, nu_2m, nI_1, nu_p2, nu_p3, nu_16p, nu_2p, nI_add, nu_cl, nu_in, Nat.add_zero, nu_l0, nu_l1, nu_l2, nu_l3, nu_l4, nu_i0_5, nu_i1_5, nu_i2_5, nu_i0_3, nu_i1_3, nu_i2_3, nu_n0, nu_n1, nu_na0, nu_na1, forall_eq, true_implies, false_implies, implies_true, not_true_eq_false, not_false_eq_true, and_true, true_and, and_self, true_or, or_true, false_or, or_false, false_and, and_false, eq_self]
            exact hx
        · obtain ⟨n, rfl⟩ : ∃ n', n = n' + 1 := ⟨n - 1, by omega⟩
          have hy := hY post n (by omega) hp
          rcases u with u | u
          · simp (disch := omega) only [wY_find_59, wY_find_151, nu_b16, vy_see hi', ht', hc, u, nu_01, nu_40, nu_30, nu_20, nu_160, Int32.add_zero, Nat.reduceAdd, nu_m16, nu_16m, nu_m4, nu_4m, nu_m3, nu_3m, nu_m2, nu_2m, nI_1, nu_p2, nu_p3, nu_16p, nu_2p, nI_add, nu_cl, nu_in, Nat.add_zero, nu_l0, nu_l1, nu_l2, nu_l3, nu_l4, nu_i0_5, nu_i1_5, nu_i2_5, nu_i0_3, nu_i1_3, nu_i2_3, nu_n0, nu_n1, nu_na0, nu_na1, forall_eq, true_implies, false_implies, implies_true, not_true_eq_false, not_false_eq_true, and_true, true_and, and_self, true_or, or_true, false_or, or_false, false_and, and_false, eq_self]
            refine vy_mg hs hi' hC ?_
            simp (disch := omega) only [nu_01, nu_40, nu_30, nu_20, nu_160, Int32.add_zero, Nat.reduceAdd, nu_m16, nu_16m, nu_m4, nu_4m, nu_m3, nu_3m, nu_m2, nu_2m, nI_1, nu_p2, nu_p3, nu_16p, nu_2p, nI_add, nu_cl, nu_in, Nat.add_zero, nu_l0, nu_l1, nu_l2, nu_l3, nu_l4, nu_i0_5, nu_i1_5, nu_i2_5, nu_i0_3, nu_i1_3, nu_i2_3, nu_n0, nu_n1, nu_na0, nu_na1, forall_eq, true_implies, false_implies, implies_true, not_true_eq_false, not_false_eq_true, and_true, true_and, and_self, true_or, or_true, false_or, or_false, false_and, and_false, eq_self]
            exact hy
          · simp (disch := omega) only [wY_find_59, wY_find_151, nu_b16, nu_k30, vy_see hi', ht', hc, u, nu_01, nu_40, nu_30, nu_20, nu_160, Int32.add_zero, Nat.reduceAdd, nu_m16, nu_16m, nu_m4, nu_4m, nu_m3, nu_3m, nu_m2, nu_2m, nI_1, nu_p2, nu_p3, nu_16p, nu_2p, nI_add, nu_cl, nu_in, Nat.add_zero, nu_l0, nu_l1, nu_l2, nu_l3, nu_l4, nu_i0_5, nu_i1_5, nu_i2_5, nu_i0_3, nu_i1_3, nu_i2_3, nu_n0, nu_n1, nu_na0, nu_na1, forall_eq, true_implies, false_implies, implies_true, not_true_eq_false, not_false_eq_true, and_true, true_and, and_self, true_or, or_true, false_or, or_false, false_and, and_false, eq_self]
            refine vy_mg hs hi' hC ?_
            simp (disch := omega) only [nu_01, nu_40, nu_30, nu_20, nu_160, Int32.add_zero, Nat.reduceAdd, nu_m16, nu_16m, nu_m4, nu_4m, nu_m3, nu_3m, nu_m2, nu_2m, nI_1, nu_p2, nu_p3, nu_16p, nu_2p, nI_add, nu_cl, nu_in, Nat.add_zero, nu_l0, nu_l1, nu_l2, nu_l3, nu_l4, nu_i0_5, nu_i1_5, nu_i2_5, nu_i0_3, nu_i1_3, nu_i2_3, nu_n0, nu_n1, nu_na0, nu_na1, forall_eq, true_implies, false_implies, implies_true, not_true_eq_false, not_false_eq_true, and_true, true_and, and_self, true_or, or_true, false_or, or_false, false_and, and_false, eq_self]
            exact hy
      · have u0 : ¬ st (16 * s + i) = 0 := fun q => u (Or.inl q)
        have u3 : ¬ st (16 * s + i) = 3 := fun q => u (Or.inr q)
        obtain ⟨m', fr', st', en', sn', nw', bf', ve', hm', R', hX, hY⟩ := ih (i + 1) (by omega) (m + 1) (upd fr m (nI i)) st en sn nw bf ve (by omega) R
        refine ⟨m', fr', st', en', sn', nw', bf', ve', hm', R', fun post n hn hp => ?_, fun post n hn hp => ?_⟩
        · obtain ⟨n, rfl⟩ : ∃ n', n = n' + 1 := ⟨n - 1, by omega⟩
          have hx := hX post n (by omega) hp
          simp (disch := omega) only [wX_find_59, wpX_manageIfUnloaded, nu_b16, vx_see hi' hT hB, hsc, z1, z2, u0, u3, nu_01, nu_40, nu_30, nu_20, nu_160, Int32.add_zero, Nat.reduceAdd, nu_m16, nu_16m, nu_m4, nu_4m, nu_m3, nu_3m, nu_m2, nu_2m, nI_1, nu_p2, nu_p3, nu_16p, nu_2p, nI_add, nu_cl, nu_in, Nat.add_zero, nu_l0, nu_l1, nu_l2, nu_l3, nu_l4, nu_i0_5, nu_i1_5, nu_i2_5, nu_i0_3, nu_i1_3, nu_i2_3, nu_n0, nu_n1, nu_na0, nu_na1, forall_eq, true_implies, false_implies, implies_true, not_true_eq_false, not_false_eq_true, and_true, true_and, and_self, true_or, or_true, false_or, or_false, false_and, and_false, eq_self]
          exact hx
        · obtain ⟨n, rfl⟩ : ∃ n', n = n' + 1 := ⟨n - 1, by omega⟩
          have hy := hY post n (by omega) hp
          simp (disch := omega) only [wY_find_59, nu_b16, vy_see hi', ht', hc, u0, u3, nu_01, nu_40, nu_30, nu_20, nu_160, Int32.add_zero, Nat.reduceAdd, nu_m16, nu_16m, nu_m4, nu_4m, nu_m3, nu_3m, nu_m2, nu_2m, nI_1, nu_p2, nu_p3, nu_16p, nu_2p, nI_add, nu_cl, nu_in, Nat.add_zero, nu_l0, nu_l1, nu_l2, nu_l3, nu_l4, nu_i0_5, nu_i1_5, nu_i2_5, nu_i0_3, nu_i1_3, nu_i2_3, nu_n0, nu_n1, nu_na0, nu_na1, forall_eq, true_implies, false_implies, implies_true, not_true_eq_false, not_false_eq_true, and_true, true_and, and_self, true_or, or_true, false_or, or_false, false_and, and_false, eq_self]
          exact hy
    · obtain ⟨m', fr', st', en', sn', nw', bf', ve', hm', R', hX, hY⟩ := ih (i + 1) (by omega) m fr st en sn nw bf ve (by omega) R
      refine ⟨m', fr', st', en', sn', nw', bf', ve', hm', R', fun post n hn hp => ?_, fun post n hn hp => ?_⟩
      · obtain ⟨n, rfl⟩ : ∃ n', n = n' + 1 := ⟨n - 1, by omega⟩
        have hx := hX post n (by omega) hp
        by_cases z1 : si_t rt wt lk s i = 0
        · simp (disch := omega) only [wX_find_59, nu_b16, vx_see hi' hT hB, z1, nu_01, nu_40, nu_30, nu_20, nu_160, Int32.add_zero, Nat.reduceAdd, nu_m16, nu_16m, nu_m4, nu_4m, nu_m3, nu_3m, nu_m2, nu_2m, nI_1, nu_p2, nu_p3, nu_16p, nu_2p, nI_add, nu_cl, nu_in, Nat.add_zero, nu_l0, nu_l1, nu_l2, nu_l3, nu_l4, nu_i0_5, nu_i1_5, nu_i2_5, nu_i0_3, nu_i1_3, nu_i2_3, nu_n0, nu_n1, nu_na0, nu_na1, forall_eq, true_implies, false_implies, implies_true, not_true_eq_false, not_false_eq_true, and_true, true_and, and_self, true_or, or_true, false_or, or_false, false_and, and_false, eq_self]
          exact hx
        · have z2 : ¬ si_c rc wc lk s i w = v := fun q => z ⟨z1, q⟩
          simp (disch := omega) only [wX_find_59, nu_b16, vx_see hi' hT hB, hsc, z1, z2, nu_01, nu_40, nu_30, nu_20, nu_160, Int32.add_zero, Nat.reduceAdd, nu_m16, nu_16m, nu_m4, nu_4m, nu_m3, nu_3m, nu_m2, nu_2m, nI_1, nu_p2, nu_p3, nu_16p, nu_2p, nI_add, nu_cl, nu_in, Nat.add_zero, nu_l0, nu_l1, nu_l2, nu_l3, nu_l4, nu_i0_5, nu_i1_5, nu_i2_5, nu_i0_3, nu_i1_3, nu_i2_3, nu_n0, nu_n1, nu_na0, nu_na1, forall_eq, true_implies, false_implies, implies_true, not_true_eq_false, not_false_eq_true, and_true, true_and, and_self, true_or, or_true, false_or, or_false, false_and, and_false, eq_self]
          exact hx
      · obtain ⟨n, rfl⟩ : ∃ n', n = n' + 1 := ⟨n - 1, by omega⟩
        have hy := hY post n (by omega) hp
        by_cases z1 : si_t rt wt lk s i = 0
        · rw [z1] at ht
          simp (disch := omega) only [wY_find_59, nu_b16, vy_see hi', ht, nu_01, nu_40, nu_30, nu_20, nu_160, Int32.add_zero, Nat.reduceAdd, nu_m16, nu_16m, nu_m4, nu_4m, nu_m3, nu_3m, nu_m2, nu_2m, nI_1, nu_p2, nu_p3, nu_16p, nu_2p, nI_add, nu_cl, nu_in, Nat.add_zero, nu_l0, nu_l1, nu_l2, nu_l3, nu_l4, nu_i0_5, nu_i1_5, nu_i2_5, nu_i0_3, nu_i1_3, nu_i2_3, nu_n0, nu_n1, nu_na0, nu_na1, forall_eq, true_implies, false_implies, implies_true, not_true_eq_false, not_false_eq_true, and_true, true_and, and_self, true_or, or_true, false_or, or_false, false_and, and_false, eq_self]
          exact hy
        · have ht' : ¬ th (si_f lk s i) = 0 := by
            rw [ht]
            exact z1
          have z2 : ¬ ro (4 * si_f lk s i + w) = v := fun q => z ⟨z1, by rw [← hc]; exact q⟩
          simp (disch := omega) only [wY_find_59, nu_b16, vy_see hi', ht', z2, nu_01, nu_40, nu_30, nu_20, nu_160, Int32.add_zero, Nat.reduceAdd, nu_m16, nu_16m, nu_m4, nu_4m, nu_m3, nu_3m, nu_m2, nu_2m, nI_1, nu_p2, nu_p3, nu_16p, nu_2p, nI_add, nu_cl, nu_in, Nat.add_zero, nu_l0, nu_l1, nu_l2, nu_l3, nu_l4, nu_i0_5, nu_i1_5, nu_i2_5, nu_i0_3, nu_i1_3, nu_i2_3, nu_n0, nu_n1, nu_na0, nu_na1, forall_eq, true_implies, false_implies, implies_true, not_true_eq_false, not_false_eq_true, and_true, true_and, and_self, true_or, or_true, false_or, or_false, false_and, and_false, eq_self]
          exact hy
end
theorem fi_T {u : SX} {v : SY} (I : i_Rel 0 u v) (v1 v2 v3 : Int32) : sm_S (fun post => wpX_find post u v1 v2 v3) (fun post => wpY_find post v v1 v2 v3) := by
  obtain ⟨n, m, cc, rq, md, bk, ct, rt, rc, lk, wt, wc, ch, st, en, sn, sk, sr, fr, lf, cr, rr, th, ro, nw, bf, ve, yl, la, od, sm, rfl, rfl, hn, hm, R, hP⟩ := I
  by_cases h : er_v bk v1 0 = 0
  · obtain ⟨s, k, hs, hk, rfl, _, hb⟩ := er_0 h
    by_cases c0 : v2 < 0
    · refine ⟨(-1), (nI n, nI m, cc, rq, md, bk, ct, rt, rc, lk, wt, wc, ch, st, en, sn, sk, sr, fr, lf, cr, rr), (nI n, nI m, th, ch, ro, lk, st, nw, bf, ve, bk, md, yl, la, od, sm, fr, ct), ir_mk hn hm (R) hP, fun post hp => ?_, fun post hp => ?_⟩
      · simp (disch := omega) only [wpX_find, vx_ser, h, c0, nu_01, nu_40, nu_30, nu_20, nu_160, Int32.add_zero, Nat.reduceAdd, nu_m16, nu_16m, nu_m4, nu_4m, nu_m3, nu_3m, nu_m2, nu_2m, nI_1, nu_p2, nu_p3, nu_16p, nu_2p, nI_add, nu_cl, nu_in, Nat.add_zero, nu_l0, nu_l1, nu_l2, nu_l3, nu_l4, nu_i0_5, nu_i1_5, nu_i2_5, nu_i0_3, nu_i1_3, nu_i2_3, nu_n0, nu_n1, nu_na0, nu_na1, forall_eq, true_implies, false_implies, implies_true, not_true_eq_false, not_false_eq_true, and_true, true_and, and_self, true_or, or_true, false_or, or_false, false_and, and_false, eq_self]
        exact hp
      · simp (disch := omega) only [wpY_find, wpY_in, vy_err, h, c0, nu_01, nu_40, nu_30, nu_20, nu_160, Int32.add_zero, Nat.reduceAdd, nu_m16, nu_16m, nu_m4, nu_4m, nu_m3, nu_3m, nu_m2, nu_2m, nI_1, nu_p2, nu_p3, nu_16p, nu_2p, nI_add, nu_cl, nu_in, Nat.add_zero, nu_l0, nu_l1, nu_l2, nu_l3, nu_l4, nu_i0_5, nu_i1_5, nu_i2_5, nu_i0_3, nu_i1_3, nu_i2_3, nu_n0, nu_n1, nu_na0, nu_na1, forall_eq, true_implies, false_implies, implies_true, not_true_eq_false, not_false_eq_true, and_true, true_and, and_self, true_or, or_true, false_or, or_false, false_and, and_false, eq_self]
        exact hp
    · obtain ⟨w, hw9, rfl⟩ := nI_of c0
      by_cases w3 : 3 ≤ w
      · refine ⟨(-1), (nI n, nI m, cc, rq, md, bk, ct, rt, rc, lk, wt, wc, ch, st, en, sn, sk, sr, fr, lf, cr, rr), (nI n, nI m, th, ch, ro, lk, st, nw, bf, ve, bk, md, yl, la, od, sm, fr, ct), ir_mk hn hm (R) hP, fun post hp => ?_, fun post hp => ?_⟩
        · simp (disch := omega) only [wpX_find, vx_ser, h, nu_a1, nu_b1, nu_c1, nu_d1, nu_e1, nu_f1, nu_g1, nu_h1, nu_a2, nu_b2, nu_c2, nu_d2, nu_e2, nu_f2, nu_g2, nu_h2, nu_a3, nu_b3, nu_c3, nu_d3, nu_e3, nu_f3, nu_g3, nu_h3, nu_a4, nu_b4, nu_c4, nu_d4, nu_e4, nu_f4, nu_g4, nu_h4, nu_a5, nu_b5, nu_c5, nu_d5, nu_e5, nu_f5, nu_g5, nu_h5, nu_a6, nu_b6, nu_c6, nu_d6, nu_e6, nu_f6, nu_g6, nu_h6, nu_a7, nu_b7, nu_c7, nu_d7, nu_e7, nu_f7, nu_g7, nu_h7, nu_a16, nu_b16, nu_c16, nu_d16, nu_e16, nu_f16, nu_g16, nu_h16, nu_neg, nu_pos, nu_01, nu_40, nu_30, nu_20, nu_160, Int32.add_zero, Nat.reduceAdd, nu_m16, nu_16m, nu_m4, nu_4m, nu_m3, nu_3m, nu_m2, nu_2m, nI_1, nu_p2, nu_p3, nu_16p, nu_2p, nI_add, nu_cl, nu_in, Nat.add_zero, nu_l0, nu_l1, nu_l2, nu_l3, nu_l4, nu_i0_5, nu_i1_5, nu_i2_5, nu_i0_3, nu_i1_3, nu_i2_3, nu_n0, nu_n1, nu_na0, nu_na1, forall_eq, true_implies, false_implies, implies_true, not_true_eq_false, not_false_eq_true, and_true, true_and, and_self, true_or, or_true, false_or, or_false, false_and, and_false, eq_self]
          exact hp
        · simp (disch := omega) only [wpY_find, wpY_in, vy_err, h, nu_a1, nu_b1, nu_c1, nu_d1, nu_e1, nu_f1, nu_g1, nu_h1, nu_a2, nu_b2, nu_c2, nu_d2, nu_e2, nu_f2, nu_g2, nu_h2, nu_a3, nu_b3, nu_c3, nu_d3, nu_e3, nu_f3, nu_g3, nu_h3, nu_a4, nu_b4, nu_c4, nu_d4, nu_e4, nu_f4, nu_g4, nu_h4, nu_a5, nu_b5, nu_c5, nu_d5, nu_e5, nu_f5, nu_g5, nu_h5, nu_a6, nu_b6, nu_c6, nu_d6, nu_e6, nu_f6, nu_g6, nu_h6, nu_a7, nu_b7, nu_c7, nu_d7, nu_e7, nu_f7, nu_g7, nu_h7, nu_a16, nu_b16, nu_c16, nu_d16, nu_e16, nu_f16, nu_g16, nu_h16, nu_neg, nu_pos, nu_01, nu_40, nu_30, nu_20, nu_160, Int32.add_zero, Nat.reduceAdd, nu_m16, nu_16m, nu_m4, nu_4m, nu_m3, nu_3m, nu_m2, nu_2m, nI_1, nu_p2, nu_p3, nu_16p, nu_2p, nI_add, nu_cl, nu_in, Nat.add_zero, nu_l0, nu_l1, nu_l2, nu_l3, nu_l4, nu_i0_5, nu_i1_5, nu_i2_5, nu_i0_3, nu_i1_3, nu_i2_3, nu_n0, nu_n1, nu_na0, nu_na1, forall_eq, true_implies, false_implies, implies_true, not_true_eq_false, not_false_eq_true, and_true, true_and, and_self, true_or, or_true, false_or, or_false, false_and, and_false, eq_self]
          exact hp
      · obtain ⟨r, n', cc', ct', lk', wt', wc', ch', st', en', sn', bk', sk', sr', lf', cr', th', ro', nw', bf', ve', yl', la', od', sm', R', P', hn', hX, hY⟩ := fl_S (nI n) (nI m) cc rq ct sk sr fr lf cr rr yl la od sm hs R
        by_cases r0 : r = 0
        · subst r0
          obtain ⟨m2, fr2, st2, en2, sn2, nw2, bf2, ve2, hm2, R2, hX2, hY2⟩ := fi_L (v := v3) (w := w) (nI n') cc' rq (upd ct' 0 (ct' 0 + 1)) sk' sr' lf' cr' rr yl' la' od' sm' hs (by omega) 16 0 rfl 0 fr st' en' sn' nw' bf' ve' (Nat.le_refl 0) R'
          refine ⟨nI m2, (nI n', nI m2, cc', rq, md, bk', upd ct' 0 (ct' 0 + 1), rt, rc, lk', wt', wc', ch', st2, en2, sn2, sk', sr', fr2, lf', cr', rr), (nI n', nI m2, th', ch', ro', lk', st2, nw2, bf2, ve2, bk', md, yl', la', od', sm', fr2, upd ct' 0 (ct' 0 + 1)), ir_mk hn' hm2 R2 P', fun post hp => ?_, fun post hp => ?_⟩
          · simp (disch := omega) only [wpX_find, vx_ser, h, nu_a1, nu_b1, nu_c1, nu_d1, nu_e1, nu_f1, nu_g1, nu_h1, nu_a2, nu_b2, nu_c2, nu_d2, nu_e2, nu_f2, nu_g2, nu_h2, nu_a3, nu_b3, nu_c3, nu_d3, nu_e3, nu_f3, nu_g3, nu_h3, nu_a4, nu_b4, nu_c4, nu_d4, nu_e4, nu_f4, nu_g4, nu_h4, nu_a5, nu_b5, nu_c5, nu_d5, nu_e5, nu_f5, nu_g5, nu_h5, nu_a6, nu_b6, nu_c6, nu_d6, nu_e6, nu_f6, nu_g6, nu_h6, nu_a7, nu_b7, nu_c7, nu_d7, nu_e7, nu_f7, nu_g7, nu_h7, nu_a16, nu_b16, nu_c16, nu_d16, nu_e16, nu_f16, nu_g16, nu_h16, nu_neg, nu_pos, forall_eq, true_implies, false_implies, implies_true, not_true_eq_false, not_false_eq_true, and_true, true_and, and_self, true_or, or_true, false_or, or_false, false_and, and_false, eq_self]
            refine hX _ ?_
            simp only [forall_eq, true_implies, false_implies, implies_true, not_true_eq_false, not_false_eq_true, and_true, true_and, and_self, true_or, or_true, false_or, or_false, false_and, and_false, eq_self]
            exact ⟨17, hX2 _ 17 (by decide) hp⟩
          · simp (disch := omega) only [wpY_find, wpY_in, vy_err, h, nu_k10, nu_a1, nu_b1, nu_c1, nu_d1, nu_e1, nu_f1, nu_g1, nu_h1, nu_a2, nu_b2, nu_c2, nu_d2, nu_e2, nu_f2, nu_g2, nu_h2, nu_a3, nu_b3, nu_c3, nu_d3, nu_e3, nu_f3, nu_g3, nu_h3, nu_a4, nu_b4, nu_c4, nu_d4, nu_e4, nu_f4, nu_g4, nu_h4, nu_a5, nu_b5, nu_c5, nu_d5, nu_e5, nu_f5, nu_g5, nu_h5, nu_a6, nu_b6, nu_c6, nu_d6, nu_e6, nu_f6, nu_g6, nu_h6, nu_a7, nu_b7, nu_c7, nu_d7, nu_e7, nu_f7, nu_g7, nu_h7, nu_a16, nu_b16, nu_c16, nu_d16, nu_e16, nu_f16, nu_g16, nu_h16, nu_neg, nu_pos, forall_eq, true_implies, false_implies, implies_true, not_true_eq_false, not_false_eq_true, and_true, true_and, and_self, true_or, or_true, false_or, or_false, false_and, and_false, eq_self]
            refine hY _ ?_
            simp only [forall_eq, true_implies, false_implies, implies_true, not_true_eq_false, not_false_eq_true, and_true, true_and, and_self, true_or, or_true, false_or, or_false, false_and, and_false, eq_self]
            exact ⟨17, hY2 _ 17 (by decide) hp⟩
        · refine ⟨r, (nI n', nI m, cc', rq, md, bk', ct', rt, rc, lk', wt', wc', ch', st', en', sn', sk', sr', fr, lf', cr', rr), (nI n', nI m, th', ch', ro', lk', st', nw', bf', ve', bk', md, yl', la', od', sm', fr, ct'), ir_mk hn' hm R' P', fun post hp => ?_, fun post hp => ?_⟩
          · simp (disch := omega) only [wpX_find, vx_ser, h, nu_a1, nu_b1, nu_c1, nu_d1, nu_e1, nu_f1, nu_g1, nu_h1, nu_a2, nu_b2, nu_c2, nu_d2, nu_e2, nu_f2, nu_g2, nu_h2, nu_a3, nu_b3, nu_c3, nu_d3, nu_e3, nu_f3, nu_g3, nu_h3, nu_a4, nu_b4, nu_c4, nu_d4, nu_e4, nu_f4, nu_g4, nu_h4, nu_a5, nu_b5, nu_c5, nu_d5, nu_e5, nu_f5, nu_g5, nu_h5, nu_a6, nu_b6, nu_c6, nu_d6, nu_e6, nu_f6, nu_g6, nu_h6, nu_a7, nu_b7, nu_c7, nu_d7, nu_e7, nu_f7, nu_g7, nu_h7, nu_a16, nu_b16, nu_c16, nu_d16, nu_e16, nu_f16, nu_g16, nu_h16, nu_neg, nu_pos, forall_eq, true_implies, false_implies, implies_true, not_true_eq_false, not_false_eq_true, and_true, true_and, and_self, true_or, or_true, false_or, or_false, false_and, and_false, eq_self]
            refine hX _ ?_
            simp only [r0, forall_eq, true_implies, false_implies, implies_true, not_true_eq_false, not_false_eq_true, and_true, true_and, and_self, true_or, or_true, false_or, or_false, false_and, and_false, eq_self]
            exact hp
          · simp (disch := omega) only [wpY_find, wpY_in, vy_err, h, nu_k10, nu_a1, nu_b1, nu_c1, nu_d1, nu_e1, nu_f1, nu_g1, nu_h1, nu_a2, nu_b2, nu_c2, nu_d2, nu_e2, nu_f2, nu_g2, nu_h2, nu_a3, nu_b3, nu_c3, nu_d3, nu_e3, nu_f3, nu_g3, nu_h3, nu_a4, nu_b4, nu_c4, nu_d4, nu_e4, nu_f4, nu_g4, nu_h4, nu_a5, nu_b5, nu_c5, nu_d5, nu_e5, nu_f5, nu_g5, nu_h5, nu_a6, nu_b6, nu_c6, nu_d6, nu_e6, nu_f6, nu_g6, nu_h6, nu_a7, nu_b7, nu_c7, nu_d7, nu_e7, nu_f7, nu_g7, nu_h7, nu_a16, nu_b16, nu_c16, nu_d16, nu_e16, nu_f16, nu_g16, nu_h16, nu_neg, nu_pos, forall_eq, true_implies, false_implies, implies_true, not_true_eq_false, not_false_eq_true, and_true, true_and, and_self, true_or, or_true, false_or, or_false, false_and, and_false, eq_self]
            refine hY _ ?_
            simp only [r0, forall_eq, true_implies, false_implies, implies_true, not_true_eq_false, not_false_eq_true, and_true, true_and, and_self, true_or, or_true, false_or, or_false, false_and, and_false, eq_self]
            exact hp
  · refine ⟨(er_v bk v1 0), (nI n, nI m, cc, rq, md, bk, ct, rt, rc, lk, wt, wc, ch, st, en, sn, sk, sr, fr, lf, cr, rr), (nI n, nI m, th, ch, ro, lk, st, nw, bf, ve, bk, md, yl, la, od, sm, fr, ct), ir_mk hn hm (R) hP, fun post hp => ?_, fun post hp => ?_⟩
    · simp (disch := omega) only [wpX_find, vx_ser, h, nu_01, nu_40, nu_30, nu_20, nu_160, Int32.add_zero, Nat.reduceAdd, nu_m16, nu_16m, nu_m4, nu_4m, nu_m3, nu_3m, nu_m2, nu_2m, nI_1, nu_p2, nu_p3, nu_16p, nu_2p, nI_add, nu_cl, nu_in, Nat.add_zero, nu_l0, nu_l1, nu_l2, nu_l3, nu_l4, nu_i0_5, nu_i1_5, nu_i2_5, nu_i0_3, nu_i1_3, nu_i2_3, nu_n0, nu_n1, nu_na0, nu_na1, forall_eq, true_implies, false_implies, implies_true, not_true_eq_false, not_false_eq_true, and_true, true_and, and_self, true_or, or_true, false_or, or_false, false_and, and_false, eq_self]
      exact hp
    · simp (disch := omega) only [wpY_find, vy_err, h, nu_01, nu_40, nu_30, nu_20, nu_160, Int32.add_zero, Nat.reduceAdd, nu_m16, nu_16m, nu_m4, nu_4m, nu_m3, nu_3m, nu_m2, nu_2m, nI_1, nu_p2, nu_p3, nu_16p, nu_2p, nI_add, nu_cl, nu_in, Nat.add_zero, nu_l0, nu_l1, nu_l2, nu_l3, nu_l4, nu_i0_5, nu_i1_5, nu_i2_5, nu_i0_3, nu_i1_3, nu_i2_3, nu_n0, nu_n1, nu_na0, nu_na1, forall_eq, true_implies, false_implies, implies_true, not_true_eq_false, not_false_eq_true, and_true, true_and, and_self, true_or, or_true, false_or, or_false, false_and, and_false, eq_self]
      exact hp
