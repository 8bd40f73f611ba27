section
variable {md bk rt rc lk wt wc ch st en sn th ro nw bf ve : Nat → Int32}
variable (sc fc cc rq : Int32) (ct sk sr fr lf cr rr yl la od sm : Nat → Int32)
/-- a row is taken from the store -/
theorem tk_S {s k : Nat} (hs : s < 3) (hk : k < 16) (R : re_R md bk ch lk st rt rc wt wc en sn th ro nw bf ve) :
    ∃ (b : Int32) (ch' st' en' sn' nw' bf' ve' : Nat → Int32), (b = 0 ∨ b = 1) ∧ re_R md bk ch' lk st' rt rc wt wc en' sn' th ro nw' bf' ve' ∧
      (b = 1 → st' = upd st (16 * s + k) 4) ∧ (b = 0 → ch' = ch ∧ st' = st ∧ en' = en ∧ sn' = sn ∧ nw' = nw ∧ bf' = bf ∧ ve' = ve) ∧
      (∀ post : Int32 → SX → Prop, post b (sc, fc, cc, rq, md, bk, ct, rt, rc, lk, wt, wc, ch', st', en', sn', sk, sr, fr, lf, cr, rr) → wpX_takeFromStore post (sc, fc, cc, rq, md, bk, ct, rt, rc, lk, wt, wc, ch, st, en, sn, sk, sr, fr, lf, cr, rr) (nI s) (nI k)) ∧
      (∀ post : Int32 → SY → Prop, post b (sc, fc, th, ch', ro, lk, st', nw', bf', ve', bk, md, yl, la, od, sm, fr, ct) → wpY_take post (sc, fc, th, ch, ro, lk, st, nw, bf, ve, bk, md, yl, la, od, sm, fr, ct) (nI s) (nI k)) := by
  have hT := re_rT R
  have hB := re_rth R
  have hC := re_rC R
  have hf := si_lt lk (s := s) hk
  have ht := si_ft (lk := lk) (s := s) hT hk
  by_cases t : si_t rt wt lk s k = 0
  · rw [t] at ht
    refine ⟨0, ch, st, en, sn, nw, bf, ve, Or.inl rfl, R, fun q => absurd q (by decide), fun _ => ⟨rfl, rfl, rfl, rfl, rfl, rfl, rfl⟩, fun post hp => ?_, fun post hp => ?_⟩
    · simp (disch := omega) only [wpX_takeFromStore, vx_see hk hT hB, nu_01, nu_40, nu_30, nu_20, nu_160, Int32.add_zero, Nat.reduceAdd, nu_m16, nu_16m, nu_m4, nu_4m, nu_m3, nu_3m, nu_m2, nu_2m, nI_1, nu_p2, nu_p3, nu_16p, nu_2p, nI_add, nu_cl, nu_in, Nat.add_zero, nu_l0, nu_l1, nu_l2, nu_l3, nu_l4, nu_i0_5, nu_i1_5, nu_i2_5, nu_i0_3, nu_i1_3, nu_i2_3, nu_n0, nu_n1, nu_na0, nu_na1, t, forall_eq, true_implies, false_implies, implies_true, not_true_eq_false, not_false_eq_true, and_true, true_and, and_self, true_or, or_true, false_or, or_false, false_and, and_false, eq_self]
      exact hp
    · simp (disch := omega) only [wpY_take, vy_see hk, nu_01, nu_40, nu_30, nu_20, nu_160, Int32.add_zero, Nat.reduceAdd, nu_m16, nu_16m, nu_m4, nu_4m, nu_m3, nu_3m, nu_m2, nu_2m, nI_1, nu_p2, nu_p3, nu_16p, nu_2p, nI_add, nu_cl, nu_in, Nat.add_zero, nu_l0, nu_l1, nu_l2, nu_l3, nu_l4, nu_i0_5, nu_i1_5, nu_i2_5, nu_i0_3, nu_i1_3, nu_i2_3, nu_n0, nu_n1, nu_na0, nu_na1, ht, forall_eq, true_implies, false_implies, implies_true, not_true_eq_false, not_false_eq_true, and_true, true_and, and_self, true_or, or_true, false_or, or_false, false_and, and_false, eq_self]
      exact hp
  · have ht' : ¬ th (si_f lk s k) = 0 := by
      rw [ht]
      exact t
    by_cases l : lk k = -1
    · refine ⟨1, upd ch k 1, _, _, _, _, _, _, Or.inr rfl, mg_R (s := s) (k := k) (ch_R R (Or.inr rfl)) hk, fun _ => rfl, fun q => absurd q (by decide), fun post hp => ?_, fun post hp => ?_⟩
      · simp (disch := omega) only [wpX_takeFromStore, vx_see hk hT hB, nu_01, nu_40, nu_30, nu_20, nu_160, Int32.add_zero, Nat.reduceAdd, nu_m16, nu_16m, nu_m4, nu_4m, nu_m3, nu_3m, nu_m2, nu_2m, nI_1, nu_p2, nu_p3, nu_16p, nu_2p, nI_add, nu_cl, nu_in, Nat.add_zero, nu_l0, nu_l1, nu_l2, nu_l3, nu_l4, nu_i0_5, nu_i1_5, nu_i2_5, nu_i0_3, nu_i1_3, nu_i2_3, nu_n0, nu_n1, nu_na0, nu_na1, t, forall_eq, true_implies, false_implies, implies_true, not_true_eq_false, not_false_eq_true, and_true, true_and, and_self, true_or, or_true, false_or, or_false, false_and, and_false, eq_self]
        refine vx_mg hs hk ?_
        simp (disch := omega) only [nu_01, nu_40, nu_30, nu_20, nu_160, Int32.add_zero, Nat.reduceAdd, nu_m16, nu_16m, nu_m4, nu_4m, nu_m3, nu_3m, nu_m2, nu_2m, nI_1, nu_p2, nu_p3, nu_16p, nu_2p, nI_add, nu_cl, nu_in, Nat.add_zero, nu_l0, nu_l1, nu_l2, nu_l3, nu_l4, nu_i0_5, nu_i1_5, nu_i2_5, nu_i0_3, nu_i1_3, nu_i2_3, nu_n0, nu_n1, nu_na0, nu_na1, l, forall_eq, true_implies, false_implies, implies_true, not_true_eq_false, not_false_eq_true, and_true, true_and, and_self, true_or, or_true, false_or, or_false, false_and, and_false, eq_self]
        exact hp
      · simp (disch := omega) only [wpY_take, vy_see hk, nu_01, nu_40, nu_30, nu_20, nu_160, Int32.add_zero, Nat.reduceAdd, nu_m16, nu_16m, nu_m4, nu_4m, nu_m3, nu_3m, nu_m2, nu_2m, nI_1, nu_p2, nu_p3, nu_16p, nu_2p, nI_add, nu_cl, nu_in, Nat.add_zero, nu_l0, nu_l1, nu_l2, nu_l3, nu_l4, nu_i0_5, nu_i1_5, nu_i2_5, nu_i0_3, nu_i1_3, nu_i2_3, nu_n0, nu_n1, nu_na0, nu_na1, ht', forall_eq, true_implies, false_implies, implies_true, not_true_eq_false, not_false_eq_true, and_true, true_and, and_self, true_or, or_true, false_or, or_false, false_and, and_false, eq_self]
        refine vy_mg hs hk hC ?_
        simp (disch := omega) only [nu_01, nu_40, nu_30, nu_20, nu_160, Int32.add_zero, Nat.reduceAdd, nu_m16, nu_16m, nu_m4, nu_4m, nu_m3, nu_3m, nu_m2, nu_2m, nI_1, nu_p2, nu_p3, nu_16p, nu_2p, nI_add, nu_cl, nu_in, Nat.add_zero, nu_l0, nu_l1, nu_l2, nu_l3, nu_l4, nu_i0_5, nu_i1_5, nu_i2_5, nu_i0_3, nu_i1_3, nu_i2_3, nu_n0, nu_n1, nu_na0, nu_na1, l, nu_m1ge, forall_eq, true_implies, false_implies, implies_true, not_true_eq_false, not_false_eq_true, and_true, true_and, and_self, true_or, or_true, false_or, or_false, false_and, and_false, eq_self]
        exact hp
    · have l0 : 0 ≤ lk k := by
        rcases re_rQ R k with q | ⟨j, hj, q⟩
        · exact absurd q l
        · rw [q]
          exact nI_pos' (by omega)
      refine ⟨1, ch, _, _, _, _, _, _, Or.inr rfl, mg_R (s := s) (k := k) R hk, fun _ => rfl, fun q => absurd q (by decide), fun post hp => ?_, fun post hp => ?_⟩
      · simp (disch := omega) only [wpX_takeFromStore, vx_see hk hT hB, nu_01, nu_40, nu_30, nu_20, nu_160, Int32.add_zero, Nat.reduceAdd, nu_m16, nu_16m, nu_m4, nu_4m, nu_m3, nu_3m, nu_m2, nu_2m, nI_1, nu_p2, nu_p3, nu_16p, nu_2p, nI_add, nu_cl, nu_in, Nat.add_zero, nu_l0, nu_l1, nu_l2, nu_l3, nu_l4, nu_i0_5, nu_i1_5, nu_i2_5, nu_i0_3, nu_i1_3, nu_i2_3, nu_n0, nu_n1, nu_na0, nu_na1, t, forall_eq, true_implies, false_implies, implies_true, not_true_eq_false, not_false_eq_true, and_true, true_and, and_self, true_or, or_true, false_or, or_false, false_and, and_false, eq_self]
        refine vx_mg hs hk ?_
        simp (disch := omega) only [nu_01, nu_40, nu_30, nu_20, nu_160, Int32.add_zero, Nat.reduceAdd, nu_m16, nu_16m, nu_m4, nu_4m, nu_m3, nu_3m, nu_m2, nu_2m, nI_1, nu_p2, nu_p3, nu_16p, nu_2p, nI_add, nu_cl, nu_in, Nat.add_zero, nu_l0, nu_l1, nu_l2, nu_l3, nu_l4, nu_i0_5, nu_i1_5, nu_i2_5, nu_i0_3, nu_i1_3, nu_i2_3, nu_n0, nu_n1, nu_na0, nu_na1, l, forall_eq, true_implies, false_implies, implies_true, not_true_eq_false, not_false_eq_true, and_true, true_and, and_self, true_or, or_true, false_or, or_false, false_and, and_false, eq_self]
        exact hp
      · simp (disch := omega) only [wpY_take, vy_see hk, nu_01, nu_40, nu_30, nu_20, nu_160, Int32.add_zero, Nat.reduceAdd, nu_m16, nu_16m, nu_m4, nu_4m, nu_m3, nu_3m, nu_m2, nu_2m, nI_1, nu_p2, nu_p3, nu_16p, nu_2p, nI_add, nu_cl, nu_in, Nat.add_zero, nu_l0, nu_l1, nu_l2, nu_l3, nu_l4, nu_i0_5, nu_i1_5, nu_i2_5, nu_i0_3, nu_i1_3, nu_i2_3, nu_n0, nu_n1, nu_na0, nu_na1, ht', forall_eq, true_implies, false_implies, implies_true, not_true_eq_false, not_false_eq_true, and_true, true_and, and_self, true_or, or_true, false_or, or_false, false_and, and_false, eq_self]
        refine vy_mg hs hk hC ?_
        simp (disch := omega) only [nu_01, nu_40, nu_30, nu_20, nu_160, Int32.add_zero, Nat.reduceAdd, nu_m16, nu_16m, nu_m4, nu_4m, nu_m3, nu_3m, nu_m2, nu_2m, nI_1, nu_p2, nu_p3, nu_16p, nu_2p, nI_add, nu_cl, nu_in, Nat.add_zero, nu_l0, nu_l1, nu_l2, nu_l3, nu_l4, nu_i0_5, nu_i1_5, nu_i2_5, nu_i0_3, nu_i1_3, nu_i2_3, nu_n0, nu_n1, nu_na0, nu_na1, l0, forall_eq, true_implies, false_implies, implies_true, not_true_eq_false, not_false_eq_true, and_true, true_and, and_self, true_or, or_true, false_or, or_false, false_and, and_false, eq_self]
        exact hp
/-- a LOAD whose READ is not counted yet -/
theorem ld_S {s k : Nat} (hs : s < 3) (hk : k < 16) (R : re_R md bk ch lk st rt rc wt wc en sn th ro nw bf ve) :
    ∃ (q : Int32) (ct' ch' st' en' sn' nw' bf' ve' : Nat → Int32), (q = 0 ∨ q = 1 ∨ q = 2) ∧ re_R md bk ch' lk st' rt rc wt wc en' sn' th ro nw' bf' ve' ∧
      (¬ q = 2 → st' = upd st (16 * s + k) 4) ∧ (q = 2 → st' = st) ∧
      (∀ post : Int32 → SX → Prop, post q (sc, fc, cc, rq, md, bk, ct', rt, rc, lk, wt, wc, ch', st', en', sn', sk, sr, fr, lf, cr, rr) → wpX_loadUncounted post (sc, fc, cc, rq, md, bk, ct, rt, rc, lk, wt, wc, ch, st, en, sn, sk, sr, fr, lf, cr, rr) (nI s) (nI k)) ∧
      (∀ post : Int32 → SY → Prop, post q (sc, fc, th, ch', ro, lk, st', nw', bf', ve', bk, md, yl, la, od, sm, fr, ct') → wpY_load post (sc, fc, th, ch, ro, lk, st, nw, bf, ve, bk, md, yl, la, od, sm, fr, ct) (nI s) (nI k)) := by
  have hC := re_rC R
  by_cases c : ch k = 0
  · obtain ⟨b, ch', st', en', sn', nw', bf', ve', hb, R', h1, h0, hX, hY⟩ := tk_S sc fc cc rq ct sk sr fr lf cr rr yl la od sm hs hk R
    rcases hb with rfl | rfl
    · refine ⟨2, ct, ch', st', en', sn', nw', bf', ve', Or.inr (Or.inr rfl), R', fun q => absurd rfl q, fun _ => (h0 rfl).2.1, fun post hp => ?_, fun post hp => ?_⟩
      · simp (disch := omega) only [wpX_loadUncounted, nu_01, nu_40, nu_30, nu_20, nu_160, Int32.add_zero, Nat.reduceAdd, nu_m16, nu_16m, nu_m4, nu_4m, nu_m3, nu_3m, nu_m2, nu_2m, nI_1, nu_p2, nu_p3, nu_16p, nu_2p, nI_add, nu_cl, nu_in, Nat.add_zero, nu_l0, nu_l1, nu_l2, nu_l3, nu_l4, nu_i0_5, nu_i1_5, nu_i2_5, nu_i0_3, nu_i1_3, nu_i2_3, nu_n0, nu_n1, nu_na0, nu_na1, c, forall_eq, true_implies, false_implies, implies_true, not_true_eq_false, not_false_eq_true, and_true, true_and, and_self, true_or, or_true, false_or, or_false, false_and, and_false, eq_self]
        refine hX _ ?_
        simp only [forall_eq, true_implies, false_implies, implies_true, not_true_eq_false, not_false_eq_true, and_true, true_and, and_self, true_or, or_true, false_or, or_false, false_and, and_false, eq_self]
        exact hp
      · simp (disch := omega) only [wpY_load, nu_01, nu_40, nu_30, nu_20, nu_160, Int32.add_zero, Nat.reduceAdd, nu_m16, nu_16m, nu_m4, nu_4m, nu_m3, nu_3m, nu_m2, nu_2m, nI_1, nu_p2, nu_p3, nu_16p, nu_2p, nI_add, nu_cl, nu_in, Nat.add_zero, nu_l0, nu_l1, nu_l2, nu_l3, nu_l4, nu_i0_5, nu_i1_5, nu_i2_5, nu_i0_3, nu_i1_3, nu_i2_3, nu_n0, nu_n1, nu_na0, nu_na1, c, forall_eq, true_implies, false_implies, implies_true, not_true_eq_false, not_false_eq_true, and_true, true_and, and_self, true_or, or_true, false_or, or_false, false_and, and_false, eq_self]
        refine hY _ ?_
        simp only [forall_eq, true_implies, false_implies, implies_true, not_true_eq_false, not_false_eq_true, and_true, true_and, and_self, true_or, or_true, false_or, or_false, false_and, and_false, eq_self]
        exact hp
    · refine ⟨1, ct, ch', st', en', sn', nw', bf', ve', Or.inr (Or.inl rfl), R', fun _ => h1 rfl, fun q => absurd q (by decide), fun post hp => ?_, fun post hp => ?_⟩
      · simp (disch := omega) only [wpX_loadUncounted, nu_01, nu_40, nu_30, nu_20, nu_160, Int32.add_zero, Nat.reduceAdd, nu_m16, nu_16m, nu_m4, nu_4m, nu_m3, nu_3m, nu_m2, nu_2m, nI_1, nu_p2, nu_p3, nu_16p, nu_2p, nI_add, nu_cl, nu_in, Nat.add_zero, nu_l0, nu_l1, nu_l2, nu_l3, nu_l4, nu_i0_5, nu_i1_5, nu_i2_5, nu_i0_3, nu_i1_3, nu_i2_3, nu_n0, nu_n1, nu_na0, nu_na1, c, forall_eq, true_implies, false_implies, implies_true, not_true_eq_false, not_false_eq_true, and_true, true_and, and_self, true_or, or_true, false_or, or_false, false_and, and_false, eq_self]
        refine hX _ ?_
        simp only [nu_k10, forall_eq, true_implies, false_implies, implies_true, not_true_eq_false, not_false_eq_true, and_true, true_and, and_self, true_or, or_true, false_or, or_false, false_and, and_false, eq_self]
        exact hp
      · simp (disch := omega) only [wpY_load, nu_01, nu_40, nu_30, nu_20, nu_160, Int32.add_zero, Nat.reduceAdd, nu_m16, nu_16m, nu_m4, nu_4m, nu_m3, nu_3m, nu_m2, nu_2m, nI_1, nu_p2, nu_p3, nu_16p, nu_2p, nI_add, nu_cl, nu_in, Nat.add_zero, nu_l0, nu_l1, nu_l2, nu_l3, nu_l4, nu_i0_5, nu_i1_5, nu_i2_5, nu_i0_3, nu_i1_3, nu_i2_3, nu_n0, nu_n1, nu_na0, nu_na1, c, forall_eq, true_implies, false_implies, implies_true, not_true_eq_false, not_false_eq_true, and_true, true_and, and_self, true_or, or_true, false_or, or_false, false_and, and_false, eq_self]
        refine hY _ ?_
        simp only [nu_k10, forall_eq, true_implies, false_implies, implies_true, not_true_eq_false, not_false_eq_true, and_true, true_and, and_self, true_or, or_true, false_or, or_false, false_and, and_false, eq_self]
        exact hp
  · refine ⟨0, upd ct 1 (ct 1 + 1), ch, _, _, _, _, _, _, Or.inl rfl, mg_R (s := s) (k := k) R hk, fun _ => rfl, fun q => absurd q (by decide), fun post hp => ?_, fun post hp => ?_⟩
    · simp (disch := omega) only [wpX_loadUncounted, nu_01, nu_40, nu_30, nu_20, nu_160, Int32.add_zero, Nat.reduceAdd, nu_m16, nu_16m, nu_m4, nu_4m, nu_m3, nu_3m, nu_m2, nu_2m, nI_1, nu_p2, nu_p3, nu_16p, nu_2p, nI_add, nu_cl, nu_in, Nat.add_zero, nu_l0, nu_l1, nu_l2, nu_l3, nu_l4, nu_i0_5, nu_i1_5, nu_i2_5, nu_i0_3, nu_i1_3, nu_i2_3, nu_n0, nu_n1, nu_na0, nu_na1, c, forall_eq, true_implies, false_implies, implies_true, not_true_eq_false, not_false_eq_true, and_true, true_and, and_self, true_or, or_true, false_or, or_false, false_and, and_false, eq_self]
      exact vx_mg hs hk hp
    · simp (disch := omega) only [wpY_load, nu_01, nu_40, nu_30, nu_20, nu_160, Int32.add_zero, Nat.reduceAdd, nu_m16, nu_16m, nu_m4, nu_4m, nu_m3, nu_3m, nu_m2, nu_2m, nI_1, nu_p2, nu_p3, nu_16p, nu_2p, nI_add, nu_cl, nu_in, Nat.add_zero, nu_l0, nu_l1, nu_l2, nu_l3, nu_l4, nu_i0_5, nu_i1_5, nu_i2_5, nu_i0_3, nu_i1_3, nu_i2_3, nu_n0, nu_n1, nu_na0, nu_na1, c, forall_eq, true_implies, false_implies, implies_true, not_true_eq_false, not_false_eq_true, and_true, true_and, and_self, true_or, or_true, false_or, or_false, false_and, and_false, eq_self]
      exact vy_mg hs hk hC hp
theorem al_S {s k : Nat} (hs : s < 3) (hk : k < 16) (R : re_R md bk ch lk st rt rc wt wc en sn th ro nw bf ve) :
    ∃ (b : Int32) (ct' ch' st' en' sn' nw' bf' ve' : Nat → Int32), (b = 0 ∨ b = 1) ∧ re_R md bk ch' lk st' rt rc wt wc en' sn' th ro nw' bf' ve' ∧
      (b = 1 → st' = upd st (16 * s + k) 4) ∧ (b = 0 → st' = st) ∧
      (∀ post : Int32 → SX → Prop, post b (sc, fc, cc, rq, md, bk, ct', rt, rc, lk, wt, wc, ch', st', en', sn', sk, sr, fr, lf, cr, rr) → wpX_loadAlone post (sc, fc, cc, rq, md, bk, ct, rt, rc, lk, wt, wc, ch, st, en, sn, sk, sr, fr, lf, cr, rr) (nI s) (nI k)) ∧
      (∀ post : Int32 → SY → Prop, post b (sc, fc, th, ch', ro, lk, st', nw', bf', ve', bk, md, yl, la, od, sm, fr, ct') → wpY_loadAlone post (sc, fc, th, ch, ro, lk, st, nw, bf, ve, bk, md, yl, la, od, sm, fr, ct) (nI s) (nI k)) := by
  obtain ⟨q, ct', ch', st', en', sn', nw', bf', ve', hq, R', h1, h2, hX, hY⟩ := ld_S sc fc cc rq ct sk sr fr lf cr rr yl la od sm hs hk R
  rcases hq with rfl | rfl | rfl
  · refine ⟨1, ct', ch', st', en', sn', nw', bf', ve', Or.inr rfl, R', fun _ => h1 (by decide), fun z => absurd z (by decide), fun post hp => ?_, fun post hp => ?_⟩
    · simp only [wpX_loadAlone]
      refine hX _ ?_
      simp only [wX_loadAlone_21, nu_k02, forall_eq, true_implies, false_implies, implies_true, not_true_eq_false, not_false_eq_true, and_true, true_and, and_self, true_or, or_true, false_or, or_false, false_and, and_false, eq_self]
      exact hp
    · simp only [wpY_loadAlone]
      refine hY _ ?_
      simp only [wY_loadAlone_21, nu_00, nu_2z, forall_eq, true_implies, false_implies, implies_true, not_true_eq_false, not_false_eq_true, and_true, true_and, and_self, true_or, or_true, false_or, or_false, false_and, and_false, eq_self]
      exact hp
  · refine ⟨1, upd ct' 0 (ct' 0 + 1), ch', st', en', sn', nw', bf', ve', Or.inr rfl, R', fun _ => h1 (by decide), fun z => absurd z (by decide), fun post hp => ?_, fun post hp => ?_⟩
    · simp only [wpX_loadAlone]
      refine hX _ ?_
      simp only [wX_loadAlone_21, nu_k12, nu_k10, forall_eq, true_implies, false_implies, implies_true, not_true_eq_false, not_false_eq_true, and_true, true_and, and_self, true_or, or_true, false_or, or_false, false_and, and_false, eq_self]
      exact hp
    · simp only [wpY_loadAlone]
      refine hY _ ?_
      simp only [wY_loadAlone_21, nu_10, nu_21, forall_eq, true_implies, false_implies, implies_true, not_true_eq_false, not_false_eq_true, and_true, true_and, and_self, true_or, or_true, false_or, or_false, false_and, and_false, eq_self]
      exact hp
  · refine ⟨0, upd ct' 0 (ct' 0 + 1), ch', st', en', sn', nw', bf', ve', Or.inl rfl, R', fun z => absurd z (by decide), fun _ => h2 rfl, fun post hp => ?_, fun post hp => ?_⟩
    · simp only [wpX_loadAlone]
      refine hX _ ?_
      simp only [wX_loadAlone_21, nu_k20, forall_eq, true_implies, false_implies, implies_true, not_true_eq_false, not_false_eq_true, and_true, true_and, and_self, true_or, or_true, false_or, or_false, false_and, and_false, eq_self]
      exact hp
    · simp only [wpY_loadAlone]
      refine hY _ ?_
      simp only [wY_loadAlone_21, nu_2z, nu_22, forall_eq, true_implies, false_implies, implies_true, not_true_eq_false, not_false_eq_true, and_true, true_and, and_self, true_or, or_true, false_or, or_false, false_and, and_false, eq_self]
      exact hp
end
