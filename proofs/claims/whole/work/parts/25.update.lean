section
variable {md bk rt rc st en sn fr lf cr rr nw bf ve yl la od : Nat → Int32} {fc rq : Int32}
theorem ud_L {s a c : Nat} (hs : s < 3) (hab : a + cn_n (fun j => di_P st en sn (16 * s + j)) 16 ≤ 16) (hla : ∀ j, j < 16 → la j = di_v (di_P st en sn (16 * s + j))) : ∀ (d i : Nat), i + d = 16 → ∀ (n : Nat) (ct lk wt wc ch sk sr th ro sm : Nat → Int32), n ≤ a + cn_n (fun j => di_P st en sn (16 * s + j)) i → re_R md bk ch lk st rt rc wt wc en sn th ro nw bf ve → re_P n sk sr sm →
    ∃ (r : Int32) (n' : Nat) (ct' lk' wt' wc' ch' sk' sr' th' ro' sm' : Nat → Int32), re_R md bk ch' lk' st rt rc wt' wc' en sn th' ro' nw bf ve ∧ re_P n' sk' sr' sm' ∧ n' ≤ a + cn_n (fun j => di_P st en sn (16 * s + j)) 16 ∧
      (∀ (post : Int32 → SX → Prop) k, d < k → post r (nI n', fc, nI c, rq, md, bk, ct', rt, rc, lk', wt', wc', ch', st, en, sn, sk', sr', fr, lf, cr, rr) → wX_updateDirty_2 post (nI s) k (nI i) (nI n) fc (nI c) rq md bk ct rt rc lk wt wc ch st en sn sk sr fr lf cr rr) ∧
      (∀ (post : Int32 → SY → Prop) k, d < k → (∃ n191, wY_inserts_191 post (nI s) (nI c) n191 r 0 (nI n') fc th' ch' ro' lk' st nw bf ve bk md yl la od sm' fr ct') → wY_inserts_141 post (nI s) (nI c) k 0 (nI i) (nI n) fc th ch ro lk st nw bf ve bk md yl la od sm fr ct) := by
  intro d
  induction d with
  | zero =>
    intro i hi n ct lk wt wc ch sk sr th ro sm hn R hP
    have e : i = 16 := by omega
    subst e
    refine ⟨0, n, ct, lk, wt, wc, ch, sk, sr, th, ro, sm, R, hP, hn, fun post k hk hp => ?_, fun post k hk hp => ?_⟩
    · obtain ⟨k, rfl⟩ : ∃ k', k = k' + 1 := ⟨k - 1, by omega⟩
      simp (disch := omega) only [wX_updateDirty_2, nu_a16, forall_eq, true_implies, false_implies, implies_true, not_true_eq_false, not_false_eq_true, and_true, true_and, and_self, true_or, or_true, false_or, or_false, false_and, and_false, eq_self]
      exact hp
    · obtain ⟨k, rfl⟩ : ∃ k', k = k' + 1 := ⟨k - 1, by omega⟩
      simp (disch := omega) only [wY_inserts_141, nu_a16, forall_eq, true_implies, false_implies, implies_true, not_true_eq_false, not_false_eq_true, and_true, true_and, and_self, true_or, or_true, false_or, or_false, false_and, and_false, eq_self]
      exact hp
  | succ d ih =>
    intro i hi n ct lk wt wc ch sk sr th ro sm hn R hP
    have hi' : i < 16 := by omega
    have la0 := hla i hi'
    have hstep : cn_n (fun j => di_P st en sn (16 * s + j)) (i + 1) = cn_n (fun j => di_P st en sn (16 * s + j)) i + cn_b (di_P st en sn (16 * s + i)) := rfl
    by_cases z : di_P st en sn (16 * s + i)
    · have zv := di_t z
      rw [zv] at la0
      rw [cn_t z] at hstep
      have hmon : cn_n (fun j => di_P st en sn (16 * s + j)) (i + 1) ≤ cn_n (fun j => di_P st en sn (16 * s + j)) 16 := by
        have : ∀ e, cn_n (fun j => di_P st en sn (16 * s + j)) (i + 1) ≤ cn_n (fun j => di_P st en sn (16 * s + j)) (i + 1 + e) := by
          intro e
          induction e with
          | zero => exact Nat.le_refl _
          | succ e ihe => exact Nat.le_trans ihe (Nat.le_add_right _ _)
        have q := this d
        rw [show i + 1 + d = 16 by omega] at q
        exact q
      have v := re_rV R (16 * s + i) (by omega) (Or.inl z.1)
      obtain ⟨r, n1, ct1, lk1, wt1, wc1, ch1, sk1, sr1, th1, ro1, sm1, R1, P1, q1, q2, gX, gY⟩ := up_S (ct := ct) (fr := fr) (lf := lf) (cr := cr) (rr := rr) (cc := nI c) (w := ve (16 * s + i)) fc rq yl la od hs hi' (show n < 32 by omega) (by rw [z.1]; decide) (by rw [z.1]; decide) R hP
      by_cases r0 : r = 0
      · subst r0
        obtain ⟨r', n', ct2, lk2, wt2, wc2, ch2, sk2, sr2, th2, ro2, sm2, R2, P2, hn', hX', hY'⟩ := ih (i + 1) (by omega) n1 ct1 lk1 wt1 wc1 ch1 sk1 sr1 th1 ro1 sm1 (by omega) R1 P1
        refine ⟨r', n', ct2, lk2, wt2, wc2, ch2, sk2, sr2, th2, ro2, sm2, R2, P2, hn', fun post k hk hp => ?_, fun post k hk hp => ?_⟩
        · obtain ⟨k, rfl⟩ : ∃ k', k = k' + 1 := ⟨k - 1, by omega⟩
          simp (disch := omega) only [wX_updateDirty_2, vx_dir, nu_b16, nu_k10, zv, v, nu_01, nu_40, nu_30, nu_20, nu_160, Int32.add_zero, Nat.reduceAdd, nu_m16, nu_16m, nu_m4, nu_4m, nu_m3, nu_3m, nu_m2, nu_2m, nI_1, nu_p2, nu_p3, nu_16p, nu_2p, nI_add, nu_cl, nu_in, Nat.add_zero, nu_l0, nu_l1, nu_l2, nu_l3, nu_l4, nu_i0_5, nu_i1_5, nu_i2_5, nu_i0_3, nu_i1_3, nu_i2_3, nu_n0, nu_n1, nu_na0, nu_na1, forall_eq, true_implies, false_implies, implies_true, not_true_eq_false, not_false_eq_true, and_true, true_and, and_self, true_or, or_true, false_or, or_false, false_and, and_false, eq_self]
          refine gX _ ?_
          simp (disch := omega) only [nu_01, nu_40, nu_30, nu_20, nu_160, Int32.add_zero, Nat.reduceAdd, nu_m16, nu_16m, nu_m4, nu_4m, nu_m3, nu_3m, nu_m2, nu_2m, nI_1, nu_p2, nu_p3, nu_16p, nu_2p, nI_add, nu_cl, nu_in, Nat.add_zero, nu_l0, nu_l1, nu_l2, nu_l3, nu_l4, nu_i0_5, nu_i1_5, nu_i2_5, nu_i0_3, nu_i1_3, nu_i2_3, nu_n0, nu_n1, nu_na0, nu_na1, forall_eq, true_implies, false_implies, implies_true, not_true_eq_false, not_false_eq_true, and_true, true_and, and_self, true_or, or_true, false_or, or_false, false_and, and_false, eq_self]
          exact hX' post k (by omega) hp
        · obtain ⟨k, rfl⟩ : ∃ k', k = k' + 1 := ⟨k - 1, by omega⟩
          simp (disch := omega) only [wY_inserts_141, nu_b16, nu_k10, la0, nu_01, nu_40, nu_30, nu_20, nu_160, Int32.add_zero, Nat.reduceAdd, nu_m16, nu_16m, nu_m4, nu_4m, nu_m3, nu_3m, nu_m2, nu_2m, nI_1, nu_p2, nu_p3, nu_16p, nu_2p, nI_add, nu_cl, nu_in, Nat.add_zero, nu_l0, nu_l1, nu_l2, nu_l3, nu_l4, nu_i0_5, nu_i1_5, nu_i2_5, nu_i0_3, nu_i1_3, nu_i2_3, nu_n0, nu_n1, nu_na0, nu_na1, forall_eq, true_implies, false_implies, implies_true, not_true_eq_false, not_false_eq_true, and_true, true_and, and_self, true_or, or_true, false_or, or_false, false_and, and_false, eq_self]
          refine gY _ ?_
          simp (disch := omega) only [nu_01, nu_40, nu_30, nu_20, nu_160, Int32.add_zero, Nat.reduceAdd, nu_m16, nu_16m, nu_m4, nu_4m, nu_m3, nu_3m, nu_m2, nu_2m, nI_1, nu_p2, nu_p3, nu_16p, nu_2p, nI_add, nu_cl, nu_in, Nat.add_zero, nu_l0, nu_l1, nu_l2, nu_l3, nu_l4, nu_i0_5, nu_i1_5, nu_i2_5, nu_i0_3, nu_i1_3, nu_i2_3, nu_n0, nu_n1, nu_na0, nu_na1, forall_eq, true_implies, false_implies, implies_true, not_true_eq_false, not_false_eq_true, and_true, true_and, and_self, true_or, or_true, false_or, or_false, false_and, and_false, eq_self]
          exact hY' post k (by omega) hp
      · refine ⟨r, n1, ct1, lk1, wt1, wc1, ch1, sk1, sr1, th1, ro1, sm1, R1, P1, by omega, fun post k hk hp => ?_, fun post k hk hp => ?_⟩
        · obtain ⟨k, rfl⟩ : ∃ k', k = k' + 1 := ⟨k - 1, by omega⟩
          simp (disch := omega) only [wX_updateDirty_2, vx_dir, nu_b16, nu_k10, zv, v, nu_01, nu_40, nu_30, nu_20, nu_160, Int32.add_zero, Nat.reduceAdd, nu_m16, nu_16m, nu_m4, nu_4m, nu_m3, nu_3m, nu_m2, nu_2m, nI_1, nu_p2, nu_p3, nu_16p, nu_2p, nI_add, nu_cl, nu_in, Nat.add_zero, nu_l0, nu_l1, nu_l2, nu_l3, nu_l4, nu_i0_5, nu_i1_5, nu_i2_5, nu_i0_3, nu_i1_3, nu_i2_3, nu_n0, nu_n1, nu_na0, nu_na1, forall_eq, true_implies, false_implies, implies_true, not_true_eq_false, not_false_eq_true, and_true, true_and, and_self, true_or, or_true, false_or, or_false, false_and, and_false, eq_self]
          refine gX _ ?_
          simp (disch := omega) only [r0, nu_01, nu_40, nu_30, nu_20, nu_160, Int32.add_zero, Nat.reduceAdd, nu_m16, nu_16m, nu_m4, nu_4m, nu_m3, nu_3m, nu_m2, nu_2m, nI_1, nu_p2, nu_p3, nu_16p, nu_2p, nI_add, nu_cl, nu_in, Nat.add_zero, nu_l0, nu_l1, nu_l2, nu_l3, nu_l4, nu_i0_5, nu_i1_5, nu_i2_5, nu_i0_3, nu_i1_3, nu_i2_3, nu_n0, nu_n1, nu_na0, nu_na1, forall_eq, true_implies, false_implies, implies_true, not_true_eq_false, not_false_eq_true, and_true, true_and, and_self, true_or, or_true, false_or, or_false, false_and, and_false, eq_self]
          exact hp
        · obtain ⟨k, rfl⟩ : ∃ k', k = k' + 1 := ⟨k - 1, by omega⟩
          simp (disch := omega) only [wY_inserts_141, nu_b16, nu_k10, la0, nu_01, nu_40, nu_30, nu_20, nu_160, Int32.add_zero, Nat.reduceAdd, nu_m16, nu_16m, nu_m4, nu_4m, nu_m3, nu_3m, nu_m2, nu_2m, nI_1, nu_p2, nu_p3, nu_16p, nu_2p, nI_add, nu_cl, nu_in, Nat.add_zero, nu_l0, nu_l1, nu_l2, nu_l3, nu_l4, nu_i0_5, nu_i1_5, nu_i2_5, nu_i0_3, nu_i1_3, nu_i2_3, nu_n0, nu_n1, nu_na0, nu_na1, forall_eq, true_implies, false_implies, implies_true, not_true_eq_false, not_false_eq_true, and_true, true_and, and_self, true_or, or_true, false_or, or_false, false_and, and_false, eq_self]
          refine gY _ ?_
          obtain ⟨k, rfl⟩ : ∃ k', k = k' + 1 := ⟨k - 1, by omega⟩
          by_cases e : i + 1 = 16
          · simp (disch := omega) only [wY_inserts_141, nu_a16, nu_01, nu_40, nu_30, nu_20, nu_160, Int32.add_zero, Nat.reduceAdd, nu_m16, nu_16m, nu_m4, nu_4m, nu_m3, nu_3m, nu_m2, nu_2m, nI_1, nu_p2, nu_p3, nu_16p, nu_2p, nI_add, nu_cl, nu_in, Nat.add_zero, nu_l0, nu_l1, nu_l2, nu_l3, nu_l4, nu_i0_5, nu_i1_5, nu_i2_5, nu_i0_3, nu_i1_3, nu_i2_3, nu_n0, nu_n1, nu_na0, nu_na1, forall_eq, true_implies, false_implies, implies_true, not_true_eq_false, not_false_eq_true, and_true, true_and, and_self, true_or, or_true, false_or, or_false, false_and, and_false, eq_self]
            exact hp
          · simp (disch := omega) only [wY_inserts_141, nu_b16, r0, nu_01, nu_40, nu_30, nu_20, nu_160, Int32.add_zero, Nat.reduceAdd, nu_m16, nu_16m, nu_m4, nu_4m, nu_m3, nu_3m, nu_m2, nu_2m, nI_1, nu_p2, nu_p3, nu_16p, nu_2p, nI_add, nu_cl, nu_in, Nat.add_zero, nu_l0, nu_l1, nu_l2, nu_l3, nu_l4, nu_i0_5, nu_i1_5, nu_i2_5, nu_i0_3, nu_i1_3, nu_i2_3, nu_n0, nu_n1, nu_na0, nu_na1, forall_eq, true_implies, false_implies, implies_true, not_true_eq_false, not_false_eq_true, and_true, true_and, and_self, true_or, or_true, false_or, or_false, false_and, and_false, eq_self]
            exact hp
    · have zv := di_f z
      rw [zv] at la0
      rw [cn_f z] at hstep
      obtain ⟨r', n', ct2, lk2, wt2, wc2, ch2, sk2, sr2, th2, ro2, sm2, R2, P2, hn', hX', hY'⟩ := ih (i + 1) (by omega) n ct lk wt wc ch sk sr th ro sm (by omega) R hP
      refine ⟨r', n', ct2, lk2, wt2, wc2, ch2, sk2, sr2, th2, ro2, sm2, R2, P2, hn', fun post k hk hp => ?_, fun post k hk hp => ?_⟩
      · obtain ⟨k, rfl⟩ : ∃ k', k = k' + 1 := ⟨k - 1, by omega⟩
        simp (disch := omega) only [wX_updateDirty_2, vx_dir, nu_b16, zv, nu_01, nu_40, nu_30, nu_20, nu_160, Int32.add_zero, Nat.reduceAdd, nu_m16, nu_16m, nu_m4, nu_4m, nu_m3, nu_3m, nu_m2, nu_2m, nI_1, nu_p2, nu_p3, nu_16p, nu_2p, nI_add, nu_cl, nu_in, Nat.add_zero, nu_l0, nu_l1, nu_l2, nu_l3, nu_l4, nu_i0_5, nu_i1_5, nu_i2_5, nu_i0_3, nu_i1_3, nu_i2_3, nu_n0, nu_n1, nu_na0, nu_na1, forall_eq, true_implies, false_implies, implies_true, not_true_eq_false, not_false_eq_true, and_true, true_and, and_self, true_or, or_true, false_or, or_false, false_and, and_false, eq_self]
        exact hX' post k (by omega) hp
      · obtain ⟨k, rfl⟩ : ∃ k', k = k' + 1 := ⟨k - 1, by omega⟩
        simp (disch := omega) only [wY_inserts_141, nu_b16, la0, nu_01, nu_40, nu_30, nu_20, nu_160, Int32.add_zero, Nat.reduceAdd, nu_m16, nu_16m, nu_m4, nu_4m, nu_m3, nu_3m, nu_m2, nu_2m, nI_1, nu_p2, nu_p3, nu_16p, nu_2p, nI_add, nu_cl, nu_in, Nat.add_zero, nu_l0, nu_l1, nu_l2, nu_l3, nu_l4, nu_i0_5, nu_i1_5, nu_i2_5, nu_i0_3, nu_i1_3, nu_i2_3, nu_n0, nu_n1, nu_na0, nu_na1, forall_eq, true_implies, false_implies, implies_true, not_true_eq_false, not_false_eq_true, and_true, true_and, and_self, true_or, or_true, false_or, or_false, false_and, and_false, eq_self]
        exact hY' post k (by omega) hp
theorem uc_L {s b c : Nat} (hs : s < 3) (hc : c ≤ 16) (hb : b + c ≤ 32) (hI : ct_I s c st cr od) : ∀ (d i : Nat), i + d = c → ∀ (n : Nat) (ct lk wt wc ch sk sr th ro sm : Nat → Int32), n ≤ b + i → re_R md bk ch lk st rt rc wt wc en sn th ro nw bf ve → re_P n sk sr sm →
    ∃ (r : Int32) (n' : Nat) (ct' lk' wt' wc' ch' sk' sr' th' ro' sm' : Nat → Int32), re_R md bk ch' lk' st rt rc wt' wc' en sn th' ro' nw bf ve ∧ re_P n' sk' sr' sm' ∧ n' ≤ b + c ∧
      (∀ (post : Int32 → SX → Prop) k, d < k → post r (nI n', fc, nI c, rq, md, bk, ct', rt, rc, lk', wt', wc', ch', st, en, sn, sk', sr', fr, lf, cr, rr) → wX_updateCut_2 post (nI s) k (nI i) (nI n) fc (nI c) rq md bk ct rt rc lk wt wc ch st en sn sk sr fr lf cr rr) ∧
      (∀ (post : Int32 → SY → Prop) k, d < k → post r (nI n', fc, th', ch', ro', lk', st, nw, bf, ve, bk, md, yl, la, od, sm', fr, ct') → wY_inserts_191 post (nI s) (nI c) k 0 (nI i) (nI n) fc th ch ro lk st nw bf ve bk md yl la od sm fr ct) := by
  intro d
  induction d with
  | zero =>
    intro i hi n ct lk wt wc ch sk sr th ro sm hn R hP
    have e : c ≤ i := by omega
    refine ⟨0, n, ct, lk, wt, wc, ch, sk, sr, th, ro, sm, R, hP, by omega, fun post k hk hp => ?_, fun post k hk hp => ?_⟩
    · obtain ⟨k, rfl⟩ : ∃ k', k = k' + 1 := ⟨k - 1, by omega⟩
      simp (disch := omega) only [wX_updateCut_2, nu_le, e, forall_eq, true_implies, false_implies, implies_true, not_true_eq_false, not_false_eq_true, and_true, true_and, and_self, true_or, or_true, false_or, or_false, false_and, and_false, eq_self]
      exact hp
    · obtain ⟨k, rfl⟩ : ∃ k', k = k' + 1 := ⟨k - 1, by omega⟩
      simp (disch := omega) only [wY_inserts_191, nu_le, e, forall_eq, true_implies, false_implies, implies_true, not_true_eq_false, not_false_eq_true, and_true, true_and, and_self, true_or, or_true, false_or, or_false, false_and, and_false, eq_self]
      exact hp
  | succ d ih =>
    intro i hi n ct lk wt wc ch sk sr th ro sm hn R hP
    have hi' : i < 16 := by omega
    have e : ¬ c ≤ i := by omega
    obtain ⟨q, j, hj, cj, h2⟩ := hI i (by omega)
    rw [cj] at q
    have q' := q.symm
    obtain ⟨r, n1, ct1, lk1, wt1, wc1, ch1, sk1, sr1, th1, ro1, sm1, R1, P1, q1, q2, gX, gY⟩ := up_S (ct := ct) (fr := fr) (lf := lf) (cr := cr) (rr := rr) (cc := nI c) (w := 0) fc rq yl la od hs hj (show n < 32 by omega) (by rw [h2]; decide) (by rw [h2]; decide) R hP
    by_cases r0 : r = 0
    · subst r0
      obtain ⟨r', n', ct2, lk2, wt2, wc2, ch2, sk2, sr2, th2, ro2, sm2, R2, P2, hn', hX', hY'⟩ := ih (i + 1) (by omega) n1 ct1 lk1 wt1 wc1 ch1 sk1 sr1 th1 ro1 sm1 (by omega) R1 P1
      refine ⟨r', n', ct2, lk2, wt2, wc2, ch2, sk2, sr2, th2, ro2, sm2, R2, P2, hn', fun post k hk hp => ?_, fun post k hk hp => ?_⟩
      · obtain ⟨k, rfl⟩ : ∃ k', k = k' + 1 := ⟨k - 1, by omega⟩
        simp (disch := omega) only [wX_updateCut_2, nu_le, e, nu_b16, cj, nu_01, nu_40, nu_30, nu_20, nu_160, Int32.add_zero, Nat.reduceAdd, nu_m16, nu_16m, nu_m4, nu_4m, nu_m3, nu_3m, nu_m2, nu_2m, nI_1, nu_p2, nu_p3, nu_16p, nu_2p, nI_add, nu_cl, nu_in, Nat.add_zero, nu_l0, nu_l1, nu_l2, nu_l3, nu_l4, nu_i0_5, nu_i1_5, nu_i2_5, nu_i0_3, nu_i1_3, nu_i2_3, nu_n0, nu_n1, nu_na0, nu_na1, forall_eq, true_implies, false_implies, implies_true, not_true_eq_false, not_false_eq_true, and_true, true_and, and_self, true_or, or_true, false_or, or_false, false_and, and_false, eq_self]
        refine gX _ ?_
        simp (disch := omega) only [nu_01, nu_40, nu_30, nu_20, nu_160, Int32.add_zero, Nat.reduceAdd, nu_m16, nu_16m, nu_m4, nu_4m, nu_m3, nu_3m, nu_m2, nu_2m, nI_1, nu_p2, nu_p3, nu_16p, nu_2p, nI_add, nu_cl, nu_in, Nat.add_zero, nu_l0, nu_l1, nu_l2, nu_l3, nu_l4, nu_i0_5, nu_i1_5, nu_i2_5, nu_i0_3, nu_i1_3, nu_i2_3, nu_n0, nu_n1, nu_na0, nu_na1, forall_eq, true_implies, false_implies, implies_true, not_true_eq_false, not_false_eq_true, and_true, true_and, and_self, true_or, or_true, false_or, or_false, false_and, and_false, eq_self]
        exact hX' post k (by omega) hp
      · obtain ⟨k, rfl⟩ : ∃ k', k = k' + 1 := ⟨k - 1, by omega⟩
        simp (disch := omega) only [wY_inserts_191, nu_le, e, q', nu_01, nu_40, nu_30, nu_20, nu_160, Int32.add_zero, Nat.reduceAdd, nu_m16, nu_16m, nu_m4, nu_4m, nu_m3, nu_3m, nu_m2, nu_2m, nI_1, nu_p2, nu_p3, nu_16p, nu_2p, nI_add, nu_cl, nu_in, Nat.add_zero, nu_l0, nu_l1, nu_l2, nu_l3, nu_l4, nu_i0_5, nu_i1_5, nu_i2_5, nu_i0_3, nu_i1_3, nu_i2_3, nu_n0, nu_n1, nu_na0, nu_na1, forall_eq, true_implies, false_implies, implies_true, not_true_eq_false, not_false_eq_true, and_true, true_and, and_self, true_or, or_true, false_or, or_false, false_and, and_false, eq_self]
        refine gY _ ?_
        simp (disch := omega) only [nu_01, nu_40, nu_30, nu_20, nu_160, Int32.add_zero, Nat.reduceAdd, nu_m16, nu_16m, nu_m4, nu_4m, nu_m3, nu_3m, nu_m2, nu_2m, nI_1, nu_p2, nu_p3, nu_16p, nu_2p, nI_add, nu_cl, nu_in, Nat.add_zero, nu_l0, nu_l1, nu_l2, nu_l3, nu_l4, nu_i0_5, nu_i1_5, nu_i2_5, nu_i0_3, nu_i1_3, nu_i2_3, nu_n0, nu_n1, nu_na0, nu_na1, forall_eq, true_implies, false_implies, implies_true, not_true_eq_false, not_false_eq_true, and_true, true_and, and_self, true_or, or_true, false_or, or_false, false_and, and_false, eq_self]
        exact hY' post k (by omega) hp
    · refine ⟨r, n1, ct1, lk1, wt1, wc1, ch1, sk1, sr1, th1, ro1, sm1, R1, P1, by omega, fun post k hk hp => ?_, fun post k hk hp => ?_⟩
      · obtain ⟨k, rfl⟩ : ∃ k', k = k' + 1 := ⟨k - 1, by omega⟩
        simp (disch := omega) only [wX_updateCut_2, nu_le, e, nu_b16, cj, nu_01, nu_40, nu_30, nu_20, nu_160, Int32.add_zero, Nat.reduceAdd, nu_m16, nu_16m, nu_m4, nu_4m, nu_m3, nu_3m, nu_m2, nu_2m, nI_1, nu_p2, nu_p3, nu_16p, nu_2p, nI_add, nu_cl, nu_in, Nat.add_zero, nu_l0, nu_l1, nu_l2, nu_l3, nu_l4, nu_i0_5, nu_i1_5, nu_i2_5, nu_i0_3, nu_i1_3, nu_i2_3, nu_n0, nu_n1, nu_na0, nu_na1, forall_eq, true_implies, false_implies, implies_true, not_true_eq_false, not_false_eq_true, and_true, true_and, and_self, true_or, or_true, false_or, or_false, false_and, and_false, eq_self]
        refine gX _ ?_
        simp (disch := omega) only [r0, nu_01, nu_40, nu_30, nu_20, nu_160, Int32.add_zero, Nat.reduceAdd, nu_m16, nu_16m, nu_m4, nu_4m, nu_m3, nu_3m, nu_m2, nu_2m, nI_1, nu_p2, nu_p3, nu_16p, nu_2p, nI_add, nu_cl, nu_in, Nat.add_zero, nu_l0, nu_l1, nu_l2, nu_l3, nu_l4, nu_i0_5, nu_i1_5, nu_i2_5, nu_i0_3, nu_i1_3, nu_i2_3, nu_n0, nu_n1, nu_na0, nu_na1, forall_eq, true_implies, false_implies, implies_true, not_true_eq_false, not_false_eq_true, and_true, true_and, and_self, true_or, or_true, false_or, or_false, false_and, and_false, eq_self]
        exact hp
      · obtain ⟨k, rfl⟩ : ∃ k', k = k' + 1 := ⟨k - 1, by omega⟩
        simp (disch := omega) only [wY_inserts_191, nu_le, e, q', nu_01, nu_40, nu_30, nu_20, nu_160, Int32.add_zero, Nat.reduceAdd, nu_m16, nu_16m, nu_m4, nu_4m, nu_m3, nu_3m, nu_m2, nu_2m, nI_1, nu_p2, nu_p3, nu_16p, nu_2p, nI_add, nu_cl, nu_in, Nat.add_zero, nu_l0, nu_l1, nu_l2, nu_l3, nu_l4, nu_i0_5, nu_i1_5, nu_i2_5, nu_i0_3, nu_i1_3, nu_i2_3, nu_n0, nu_n1, nu_na0, nu_na1, forall_eq, true_implies, false_implies, implies_true, not_true_eq_false, not_false_eq_true, and_true, true_and, and_self, true_or, or_true, false_or, or_false, false_and, and_false, eq_self]
        refine gY _ ?_
        obtain ⟨k, rfl⟩ : ∃ k', k = k' + 1 := ⟨k - 1, by omega⟩
        by_cases w : c ≤ i + 1
        · simp (disch := omega) only [wY_inserts_191, nu_le, w, nu_01, nu_40, nu_30, nu_20, nu_160, Int32.add_zero, Nat.reduceAdd, nu_m16, nu_16m, nu_m4, nu_4m, nu_m3, nu_3m, nu_m2, nu_2m, nI_1, nu_p2, nu_p3, nu_16p, nu_2p, nI_add, nu_cl, nu_in, Nat.add_zero, nu_l0, nu_l1, nu_l2, nu_l3, nu_l4, nu_i0_5, nu_i1_5, nu_i2_5, nu_i0_3, nu_i1_3, nu_i2_3, nu_n0, nu_n1, nu_na0, nu_na1, forall_eq, true_implies, false_implies, implies_true, not_true_eq_false, not_false_eq_true, and_true, true_and, and_self, true_or, or_true, false_or, or_false, false_and, and_false, eq_self]
          exact hp
        · simp (disch := omega) only [wY_inserts_191, nu_le, w, r0, nu_01, nu_40, nu_30, nu_20, nu_160, Int32.add_zero, Nat.reduceAdd, nu_m16, nu_16m, nu_m4, nu_4m, nu_m3, nu_3m, nu_m2, nu_2m, nI_1, nu_p2, nu_p3, nu_16p, nu_2p, nI_add, nu_cl, nu_in, Nat.add_zero, nu_l0, nu_l1, nu_l2, nu_l3, nu_l4, nu_i0_5, nu_i1_5, nu_i2_5, nu_i0_3, nu_i1_3, nu_i2_3, nu_n0, nu_n1, nu_na0, nu_na1, forall_eq, true_implies, false_implies, implies_true, not_true_eq_false, not_false_eq_true, and_true, true_and, and_self, true_or, or_true, false_or, or_false, false_and, and_false, eq_self]
          exact hp
end
section
variable {md bk rt rc lk wt wc ch st en sn th ro nw bf ve : Nat → Int32}
variable (fc cc rq : Int32) (ct sk sr fr lf cr rr yl la od sm : Nat → Int32)
/-- INSERTs, then UPDATEs, then those of what was cut -/
theorem ia_S {s : Nat} (hs : s < 3) (R : re_R md bk ch lk st rt rc wt wc en sn th ro nw bf ve) :
    ∃ (r : Int32) (n' : Nat) (cc' : Int32) (ct' lk' wt' wc' ch' sk' sr' lf' cr' th' ro' yl' la' od' sm' : Nat → Int32), re_R md bk ch' lk' st rt rc wt' wc' en sn th' ro' nw bf ve ∧ re_P n' sk' sr' sm' ∧
      n' + cn_n (fun j => st (16 * s + j) = 5) 16 ≤ 32 ∧
      (∀ post : Int32 → SX → Prop, wX_flushSession_41 post (nI s) r (nI n') fc cc' rq md bk ct' rt rc lk' wt' wc' ch' st en sn sk' sr' fr lf' cr' rr → wpX_insertNew (fun r9 u => match u with | (sc9, fc9, cc9, rq9, md9, bk9, ct9, rt9, rc9, lk9, wt9, wc9, ch9, st9, en9, sn9, sk9, sr9, fr9, lf9, cr9, rr9) => wX_flushSession_21 post (nI s) r9 sc9 fc9 cc9 rq9 md9 bk9 ct9 rt9 rc9 lk9 wt9 wc9 ch9 st9 en9 sn9 sk9 sr9 fr9 lf9 cr9 rr9) (nI 0, fc, cc, rq, md, bk, ct, rt, rc, lk, wt, wc, ch, st, en, sn, sk, sr, fr, lf, cr, rr) (nI s)) ∧
      (∀ post : Int32 → SY → Prop, post r (nI n', fc, th', ch', ro', lk', st, nw, bf, ve, bk, md, yl', la', od', sm', fr, ct') → wpY_inserts post (nI 0, fc, th, ch, ro, lk, st, nw, bf, ve, bk, md, yl, la, od, sm, fr, ct) (nI s)) := by
  have h3 := cn_3 (P := fun j => st (16 * s + j) = 2) (Q := fun j => di_P st en sn (16 * s + j)) (R := fun j => st (16 * s + j) = 5) (fun k p q => absurd (p.symm.trans q.1) (by decide)) (fun k p q => absurd (p.symm.trans q) (by decide)) (fun k p q => absurd (p.1.symm.trans q) (by decide)) 16
  obtain ⟨lf1, hlf, hX0⟩ := vx_mk (sc := nI 0) (fc := fc) (cc := 0) (rq := rq) (md := md) (bk := bk) (ct := ct) (rt := rt) (rc := rc) (lk := lk) (wt := wt) (wc := wc) (ch := ch) (st := st) (en := en) (sn := sn) (sk := sk) (sr := sr) (fr := fr) (cr := cr) (rr := rr) (x := 2) hs 16 0 rfl lf (fun j hj => by omega)
  obtain ⟨yl1, la1, hyl, hY0⟩ := vy_m7 (sc := nI 0) (fc := fc) (md := md) (bk := bk) (ct := ct) (lk := lk) (ch := ch) (fr := fr) (th := th) (ro := ro) (ve := ve) (od := od) (sm := sm) hs (re_rN R) (re_rS R) 16 0 rfl yl la (fun j hj => by omega)
  have hl : ∀ j, j < 16 → lf1 j = yl1 j := fun j hj => by rw [hlf j hj, (hyl j hj).1]
  have hla : ∀ j, j < 16 → la1 j = di_v (di_P st en sn (16 * s + j)) := fun j hj => (hyl j hj).2
  have h2 : ∀ j, j < 16 → (¬ lf1 j = 0 ↔ st (16 * s + j) = 2) := by
    intro j hj
    rw [hlf j hj, di_z]
    exact ⟨fun z => Classical.byContradiction z, fun z y => y z⟩
  have hcn : cn_n (fun k => ¬ lf1 k = 0) 16 = cn_n (fun j => st (16 * s + j) = 2) 16 := cn_eq h2
  have ha := cn_le (fun j => st (16 * s + j) = 2) 16
  obtain ⟨x4, hx4, hNX⟩ := vy_nx (sc := nI 0) (fc := fc) (md := md) (bk := bk) (ct := ct) (lk := lk) (ch := ch) (st := st) (fr := fr) (th := th) (ro := ro) (nw := nw) (bf := bf) (ve := ve) (yl := yl1) (la := la1) (od := od) (sm := sm) (s := s) (o := 1) (H := wa_P yl1 s en) hs (fun j hj z post hp => vy_h1 hs hj (by
    have z2 := (h2 j hj).mp (by rw [hl j hj]; exact z)
    exact (re_rN R (16 * s + j) (by omega) (by rw [z2]; decide) (by rw [z2]; decide) 2 (by decide)).symm) hp)
  obtain ⟨r, n1, c1, c2, ct1, lk1, wt1, wc1, ch1, sk1, sr1, lf2, cr1, th1, ro1, yl2, od1, sm1, R1, P1, hn1, hr1, gX, gY⟩ := ix_L (fr := fr) (rr := rr) (la := la1) (fc := fc) (rq := rq) (a := cn_n (fun j => st (16 * s + j) = 2) 16) hs ha (cn_n (fun j => st (16 * s + j) = 2) 16) 0 (by omega) 0 0 ct lk wt wc ch sk sr lf1 cr th ro yl1 od sm hcn (by omega) (by omega) hl (fun j hj z => (h2 j hj).mp z) (fun j hj => by omega) R re_P0 x4 hx4
  have hXI : ∀ post : Int32 → SX → Prop, post r (nI n1, fc, nI c1, rq, md, bk, ct1, rt, rc, lk1, wt1, wc1, ch1, st, en, sn, sk1, sr1, fr, lf2, cr1, rr) → wpX_insertNew post (nI 0, fc, cc, rq, md, bk, ct, rt, rc, lk, wt, wc, ch, st, en, sn, sk, sr, fr, lf, cr, rr) (nI s) := by
    intro post hp
    simp only [wpX_insertNew, wpX_markLeft]
    refine ⟨17, hX0 _ 17 (by decide) ?_⟩
    exact ⟨17, gX post 17 (by omega) hp⟩
  have hYI : ∀ post : Int32 → SY → Prop, (∃ n141, wY_inserts_141 post (nI s) (nI c2) n141 r 0 (nI n1) fc th1 ch1 ro1 lk1 st nw bf ve bk md yl2 la1 od1 sm1 fr ct1) → wpY_inserts post (nI 0, fc, th, ch, ro, lk, st, nw, bf, ve, bk, md, yl, la, od, sm, fr, ct) (nI s) := by
    intro post hp
    simp only [wpY_inserts]
    refine ⟨17, hY0 post 17 (by decide) (hNX _ ?_)⟩
    exact ⟨17, gY post 17 (by omega) hp⟩
  by_cases r0 : r = 0
  · subst r0
    obtain ⟨hc1, rfl, hI1⟩ := hr1 rfl
    obtain ⟨r2, n2, ct2, lk2, wt2, wc2, ch2, sk2, sr2, th2, ro2, sm2, R2, P2, hn2, gX2, gY2⟩ := ud_L (fr := fr) (lf := lf2) (cr := cr1) (rr := rr) (yl := yl2) (la := la1) (od := od1) (fc := fc) (rq := rq) (a := cn_n (fun j => st (16 * s + j) = 2) 16) (c := c2) hs (by omega) hla 16 0 rfl n1 ct1 lk1 wt1 wc1 ch1 sk1 sr1 th1 ro1 sm1 (by omega) R1 P1
    by_cases q0 : r2 = 0
    · subst q0
      obtain ⟨r3, n3, ct3, lk3, wt3, wc3, ch3, sk3, sr3, th3, ro3, sm3, R3, P3, hn3, gX3, gY3⟩ := uc_L (fr := fr) (lf := lf2) (cr := cr1) (rr := rr) (yl := yl2) (la := la1) (od := od1) (fc := fc) (rq := rq) (b := cn_n (fun j => st (16 * s + j) = 2) 16 + cn_n (fun j => di_P st en sn (16 * s + j)) 16) (c := c2) hs (by omega) (by omega) hI1 c2 0 (by omega) n2 ct2 lk2 wt2 wc2 ch2 sk2 sr2 th2 ro2 sm2 (by omega) R2 P2
      refine ⟨r3, n3, nI c2, ct3, lk3, wt3, wc3, ch3, sk3, sr3, lf2, cr1, th3, ro3, yl2, la1, od1, sm3, R3, P3, by omega, fun post hp => hXI _ ?_, fun post hp => hYI post ?_⟩
      · simp only [wX_flushSession_21, wpX_updateDirty, forall_eq, true_implies, false_implies, implies_true, not_true_eq_false, not_false_eq_true, and_true, true_and, and_self, true_or, or_true, false_or, or_false, false_and, and_false, eq_self]
        refine ⟨17, gX2 _ 17 (by decide) ?_⟩
        simp only [wX_flushSession_31, wpX_updateCut, forall_eq, true_implies, false_implies, implies_true, not_true_eq_false, not_false_eq_true, and_true, true_and, and_self, true_or, or_true, false_or, or_false, false_and, and_false, eq_self]
        exact ⟨17, gX3 _ 17 (by omega) hp⟩
      · exact ⟨17, gY2 post 17 (by decide) ⟨17, gY3 post 17 (by omega) hp⟩⟩
    · refine ⟨r2, n2, nI c2, ct2, lk2, wt2, wc2, ch2, sk2, sr2, lf2, cr1, th2, ro2, yl2, la1, od1, sm2, R2, P2, by omega, fun post hp => hXI _ ?_, fun post hp => hYI post ?_⟩
      · simp only [wX_flushSession_21, wpX_updateDirty, forall_eq, true_implies, false_implies, implies_true, not_true_eq_false, not_false_eq_true, and_true, true_and, and_self, true_or, or_true, false_or, or_false, false_and, and_false, eq_self]
        refine ⟨17, gX2 _ 17 (by decide) ?_⟩
        simp only [wX_flushSession_31, q0, forall_eq, true_implies, false_implies, implies_true, not_true_eq_false, not_false_eq_true, and_true, true_and, and_self, true_or, or_true, false_or, or_false, false_and, and_false, eq_self]
        exact hp
      · refine ⟨17, gY2 post 17 (by decide) ⟨1, ?_⟩⟩
        by_cases z : nI c2 ≤ 0
        · simp only [wY_inserts_191, z, forall_eq, true_implies, false_implies, implies_true, not_true_eq_false, not_false_eq_true, and_true, true_and, and_self, true_or, or_true, false_or, or_false, false_and, and_false, eq_self]
          exact hp
        · simp only [wY_inserts_191, z, q0, forall_eq, true_implies, false_implies, implies_true, not_true_eq_false, not_false_eq_true, and_true, true_and, and_self, true_or, or_true, false_or, or_false, false_and, and_false, eq_self]
          exact hp
  · refine ⟨r, n1, nI c1, ct1, lk1, wt1, wc1, ch1, sk1, sr1, lf2, cr1, th1, ro1, yl2, la1, od1, sm1, R1, P1, by omega, fun post hp => hXI _ ?_, fun post hp => hYI post ?_⟩
    · simp only [wX_flushSession_21, wX_flushSession_31, r0, forall_eq, true_implies, false_implies, implies_true, not_true_eq_false, not_false_eq_true, and_true, true_and, and_self, true_or, or_true, false_or, or_false, false_and, and_false, eq_self]
      exact hp
    · refine ⟨1, ?_⟩
      simp only [wY_inserts_141, nu_160, r0, forall_eq, true_implies, false_implies, implies_true, not_true_eq_false, not_false_eq_true, and_true, true_and, and_self, true_or, or_true, false_or, or_false, false_and, and_false, eq_self]
      refine ⟨1, ?_⟩
      by_cases z : nI c2 ≤ 0
      · simp only [wY_inserts_191, z, forall_eq, true_implies, false_implies, implies_true, not_true_eq_false, not_false_eq_true, and_true, true_and, and_self, true_or, or_true, false_or, or_false, false_and, and_false, eq_self]
        exact hp
      · simp only [wY_inserts_191, z, r0, forall_eq, true_implies, false_implies, implies_true, not_true_eq_false, not_false_eq_true, and_true, true_and, and_self, true_or, or_true, false_or, or_false, false_and, and_false, eq_self]
        exact hp
end
