section
variable {sc fc cc rq : Int32} {md bk ct rt rc lk wt wc ch st en sn sk sr fr lf cr rr th ro nw bf ve yl la od sm : Nat → Int32}
theorem vx_err {post : Int32 → Prop} {s key : Int32} : wpX_entityError post (sc, fc, cc, rq, md, bk, ct, rt, rc, lk, wt, wc, ch, st, en, sn, sk, sr, fr, lf, cr, rr) s key = post (er_v bk s key) := by
  unfold er_v
  by_cases h1 : key < 0
  · simp only [wpX_entityError, h1, if_true, forall_eq, true_implies, false_implies, implies_true, not_true_eq_false, not_false_eq_true, and_true, true_and, and_self, true_or, or_true, false_or, or_false, false_and, and_false, eq_self]
  by_cases h2 : 16 ≤ key
  · have h2' : ¬ key < 16 := Int32.not_lt.mpr h2
    simp only [wpX_entityError, h1, h2, h2', if_true, if_false, forall_eq, true_implies, false_implies, implies_true, not_true_eq_false, not_false_eq_true, and_true, true_and, and_self, true_or, or_true, false_or, or_false, false_and, and_false, eq_self]
  have h2' : key < 16 := Int32.not_le.mp h2
  by_cases h3 : s < 0
  · simp only [wpX_entityError, wpX_sessionError, h1, h2, h2', h3, if_true, if_false, forall_eq, true_implies, false_implies, implies_true, not_true_eq_false, not_false_eq_true, and_true, true_and, and_self, true_or, or_true, false_or, or_false, false_and, and_false, eq_self]
  by_cases h4 : 3 ≤ s
  · have h4' : ¬ s < 3 := Int32.not_lt.mpr h4
    simp only [wpX_entityError, wpX_sessionError, h1, h2, h2', h3, h4, h4', if_true, if_false, forall_eq, true_implies, false_implies, implies_true, not_true_eq_false, not_false_eq_true, and_true, true_and, and_self, true_or, or_true, false_or, or_false, false_and, and_false, eq_self]
  have h4' : s < 3 := Int32.not_le.mp h4
  rcases pk_ix s (n := 3) (by decide) with q | q | ⟨i, hi, rfl⟩
  · exact absurd q h3
  · exact absurd q h4
  by_cases h5 : bk i = 0
  · simp (disch := omega) only [wpX_entityError, wpX_sessionError, h1, h2, h2', h3, h4, h4', h5, nu_cl, nu_in, if_true, if_false, forall_eq, true_implies, false_implies, implies_true, not_true_eq_false, not_false_eq_true, and_true, true_and, and_self, true_or, or_true, false_or, or_false, false_and, and_false, eq_self]
  · simp (disch := omega) only [wpX_entityError, wpX_sessionError, h1, h2, h2', h3, h4, h4', h5, nu_cl, nu_in, if_true, if_false, forall_eq, true_implies, false_implies, implies_true, not_true_eq_false, not_false_eq_true, and_true, true_and, and_self, true_or, or_true, false_or, or_false, false_and, and_false, eq_self]
theorem vx_ser {post : Int32 → Prop} {s : Int32} : wpX_sessionError post (sc, fc, cc, rq, md, bk, ct, rt, rc, lk, wt, wc, ch, st, en, sn, sk, sr, fr, lf, cr, rr) s = post (er_v bk s 0) := by
  unfold er_v
  have z1 : ¬ (0 : Int32) < 0 := by decide
  have z2 : ¬ (16 : Int32) ≤ 0 := by decide
  by_cases h3 : s < 0
  · simp only [wpX_sessionError, z1, z2, h3, if_true, if_false, forall_eq, true_implies, false_implies, implies_true, not_true_eq_false, not_false_eq_true, and_true, true_and, and_self, true_or, or_true, false_or, or_false, false_and, and_false, eq_self]
  by_cases h4 : 3 ≤ s
  · have h4' : ¬ s < 3 := Int32.not_lt.mpr h4
    simp only [wpX_sessionError, z1, z2, h3, h4, h4', if_true, if_false, forall_eq, true_implies, false_implies, implies_true, not_true_eq_false, not_false_eq_true, and_true, true_and, and_self, true_or, or_true, false_or, or_false, false_and, and_false, eq_self]
  have h4' : s < 3 := Int32.not_le.mp h4
  rcases pk_ix s (n := 3) (by decide) with q | q | ⟨i, hi, rfl⟩
  · exact absurd q h3
  · exact absurd q h4
  by_cases h5 : bk i = 0
  · simp (disch := omega) only [wpX_sessionError, z1, z2, h3, h4, h4', h5, nu_cl, nu_in, if_true, if_false, forall_eq, true_implies, false_implies, implies_true, not_true_eq_false, not_false_eq_true, and_true, true_and, and_self, true_or, or_true, false_or, or_false, false_and, and_false, eq_self]
  · simp (disch := omega) only [wpX_sessionError, z1, z2, h3, h4, h4', h5, nu_cl, nu_in, if_true, if_false, forall_eq, true_implies, false_implies, implies_true, not_true_eq_false, not_false_eq_true, and_true, true_and, and_self, true_or, or_true, false_or, or_false, false_and, and_false, eq_self]
theorem vy_err {post : Int32 → Prop} {s key : Int32} : wpY_state post (sc, fc, th, ch, ro, lk, st, nw, bf, ve, bk, md, yl, la, od, sm, fr, ct) s key = post (er_v bk s key) := by
  unfold er_v
  have z1 : ¬ (1 : Int32) = 0 := by decide
  by_cases h3 : s < 0
  · have e : (if key < 0 then (-1 : Int32) else if 16 ≤ key then -1 else if s < 0 then -1 else if 3 ≤ s then -1 else if bk s.toNatClampNeg = 0 then 0 else -2) = -1 := by
      rw [if_pos h3]
      split
      · rfl
      · split <;> rfl
    rw [e]
    simp only [wpY_state, wpY_in, h3, nu_na0, nu_na1, z1, forall_eq, true_implies, false_implies, implies_true, not_true_eq_false, not_false_eq_true, and_true, true_and, and_self, true_or, or_true, false_or, or_false, false_and, and_false, eq_self]
  by_cases h4 : 3 ≤ s
  · have h4' : ¬ s < 3 := Int32.not_lt.mpr h4
    have e : (if key < 0 then (-1 : Int32) else if 16 ≤ key then -1 else if s < 0 then -1 else if 3 ≤ s then -1 else if bk s.toNatClampNeg = 0 then 0 else -2) = -1 := by
      rw [if_pos h4, if_neg h3]
      split
      · rfl
      · split <;> rfl
    rw [e]
    simp only [wpY_state, wpY_in, h3, h4, h4', nu_na0, nu_na1, z1, forall_eq, true_implies, false_implies, implies_true, not_true_eq_false, not_false_eq_true, and_true, true_and, and_self, true_or, or_true, false_or, or_false, false_and, and_false, eq_self]
  have h4' : s < 3 := Int32.not_le.mp h4
  by_cases h1 : key < 0
  · simp only [wpY_state, wpY_in, h1, h3, h4, h4', nu_na0, nu_na1, z1, if_true, forall_eq, true_implies, false_implies, implies_true, not_true_eq_false, not_false_eq_true, and_true, true_and, and_self, true_or, or_true, false_or, or_false, false_and, and_false, eq_self]
  by_cases h2 : 16 ≤ key
  · have h2' : ¬ key < 16 := Int32.not_lt.mpr h2
    simp only [wpY_state, wpY_in, h1, h2, h2', h3, h4, h4', nu_na0, nu_na1, z1, if_true, if_false, forall_eq, true_implies, false_implies, implies_true, not_true_eq_false, not_false_eq_true, and_true, true_and, and_self, true_or, or_true, false_or, or_false, false_and, and_false, eq_self]
  have h2' : key < 16 := Int32.not_le.mp h2
  rcases pk_ix s (n := 3) (by decide) with q | q | ⟨i, hi, rfl⟩
  · exact absurd q h3
  · exact absurd q h4
  by_cases h5 : bk i = 0
  · simp (disch := omega) only [wpY_state, wpY_in, h1, h2, h2', h3, h4, h4', h5, nu_na0, nu_na1, z1, nu_cl, nu_in, if_true, if_false, forall_eq, true_implies, false_implies, implies_true, not_true_eq_false, not_false_eq_true, and_true, true_and, and_self, true_or, or_true, false_or, or_false, false_and, and_false, eq_self]
  · simp (disch := omega) only [wpY_state, wpY_in, h1, h2, h2', h3, h4, h4', h5, nu_na0, nu_na1, z1, nu_cl, nu_in, if_true, if_false, forall_eq, true_implies, false_implies, implies_true, not_true_eq_false, not_false_eq_true, and_true, true_and, and_self, true_or, or_true, false_or, or_false, false_and, and_false, eq_self]
theorem vx_lnk {post : Int32 → Prop} {v : Int32} : wpX_isLink post (sc, fc, cc, rq, md, bk, ct, rt, rc, lk, wt, wc, ch, st, en, sn, sk, sr, fr, lf, cr, rr) v = post (lk_v v) := by
  unfold lk_v
  by_cases h1 : v < -1
  · have h1' : ¬ -1 ≤ v := Int32.not_le.mpr h1
    simp only [wpX_isLink, h1, h1', nu_na0, nu_na1, if_true, forall_eq, true_implies, false_implies, implies_true, not_true_eq_false, not_false_eq_true, and_true, true_and, and_self, true_or, or_true, false_or, or_false, false_and, and_false, eq_self]
  have h1' : -1 ≤ v := Int32.not_lt.mp h1
  by_cases h2 : 16 ≤ v
  · have h2' : ¬ v < 16 := Int32.not_lt.mpr h2
    simp only [wpX_isLink, h1, h1', h2, h2', nu_na0, nu_na1, if_true, if_false, forall_eq, true_implies, false_implies, implies_true, not_true_eq_false, not_false_eq_true, and_true, true_and, and_self, true_or, or_true, false_or, or_false, false_and, and_false, eq_self]
  have h2' : v < 16 := Int32.not_le.mp h2
  simp only [wpX_isLink, h1, h1', h2, h2', nu_na0, nu_na1, if_true, if_false, forall_eq, true_implies, false_implies, implies_true, not_true_eq_false, not_false_eq_true, and_true, true_and, and_self, true_or, or_true, false_or, or_false, false_and, and_false, eq_self]
theorem vy_lnk {post : Int32 → Prop} {v : Int32} : wpY_isLink post v = post (lk_v v) := by
  unfold lk_v
  by_cases h1 : v < -1
  · have h1' : ¬ -1 ≤ v := Int32.not_le.mpr h1
    simp only [wpY_isLink, h1, h1', nu_na0, nu_na1, if_true, forall_eq, true_implies, false_implies, implies_true, not_true_eq_false, not_false_eq_true, and_true, true_and, and_self, true_or, or_true, false_or, or_false, false_and, and_false, eq_self]
  have h1' : -1 ≤ v := Int32.not_lt.mp h1
  by_cases h2 : 16 ≤ v
  · have h2' : ¬ v < 16 := Int32.not_lt.mpr h2
    simp only [wpY_isLink, h1, h1', h2, h2', nu_na0, nu_na1, if_true, if_false, forall_eq, true_implies, false_implies, implies_true, not_true_eq_false, not_false_eq_true, and_true, true_and, and_self, true_or, or_true, false_or, or_false, false_and, and_false, eq_self]
  have h2' : v < 16 := Int32.not_le.mp h2
  simp only [wpY_isLink, h1, h1', h2, h2', nu_na0, nu_na1, if_true, if_false, forall_eq, true_implies, false_implies, implies_true, not_true_eq_false, not_false_eq_true, and_true, true_and, and_self, true_or, or_true, false_or, or_false, false_and, and_false, eq_self]
theorem vx_see {post : Int32 → Prop} {s k : Nat} (hk : k < 16) (hT : re_T rt wt th) (hB : re_B th) : wpX_isInSight post (sc, fc, cc, rq, md, bk, ct, rt, rc, lk, wt, wc, ch, st, en, sn, sk, sr, fr, lf, cr, rr) (nI s) (nI k) = post (si_t rt wt lk s k) := by
  have h1 := nu_na (b := wt k) (by rw [(hT k hk).2]; exact hB _)
  have h2 := nu_na (b := rt k) (by rw [(hT k hk).1]; exact hB _)
  unfold si_t
  by_cases h : lk k = nI s
  · simp (disch := omega) only [wpX_isInSight, nu_01, nu_40, nu_30, nu_20, nu_160, Int32.add_zero, Nat.reduceAdd, nu_m16, nu_16m, nu_m4, nu_4m, nu_m3, nu_3m, nu_m2, nu_2m, nI_1, nu_p2, nu_p3, nu_16p, nu_2p, nI_add, nu_cl, nu_in, Nat.add_zero, nu_l0, nu_l1, nu_l2, nu_l3, nu_l4, nu_i0_5, nu_i1_5, nu_i2_5, nu_i0_3, nu_i1_3, nu_i2_3, nu_n0, nu_n1, nu_na0, nu_na1, h, h1, h2, if_true, forall_eq, true_implies, false_implies, implies_true, not_true_eq_false, not_false_eq_true, and_true, true_and, and_self, true_or, or_true, false_or, or_false, false_and, and_false, eq_self]
  · simp (disch := omega) only [wpX_isInSight, nu_01, nu_40, nu_30, nu_20, nu_160, Int32.add_zero, Nat.reduceAdd, nu_m16, nu_16m, nu_m4, nu_4m, nu_m3, nu_3m, nu_m2, nu_2m, nI_1, nu_p2, nu_p3, nu_16p, nu_2p, nI_add, nu_cl, nu_in, Nat.add_zero, nu_l0, nu_l1, nu_l2, nu_l3, nu_l4, nu_i0_5, nu_i1_5, nu_i2_5, nu_i0_3, nu_i1_3, nu_i2_3, nu_n0, nu_n1, nu_na0, nu_na1, h, h1, h2, if_false, forall_eq, true_implies, false_implies, implies_true, not_true_eq_false, not_false_eq_true, and_true, true_and, and_self, true_or, or_true, false_or, or_false, false_and, and_false, eq_self]
theorem vx_sce {post : Int32 → Prop} {s k c : Nat} (hk : k < 16) (hc : c < 4) : wpX_sightCell post (sc, fc, cc, rq, md, bk, ct, rt, rc, lk, wt, wc, ch, st, en, sn, sk, sr, fr, lf, cr, rr) (nI s) (nI k) (nI c) = post (si_c rc wc lk s k c) := by
  unfold si_c
  by_cases h : lk k = nI s
  · simp (disch := omega) only [wpX_sightCell, nu_01, nu_40, nu_30, nu_20, nu_160, Int32.add_zero, Nat.reduceAdd, nu_m16, nu_16m, nu_m4, nu_4m, nu_m3, nu_3m, nu_m2, nu_2m, nI_1, nu_p2, nu_p3, nu_16p, nu_2p, nI_add, nu_cl, nu_in, Nat.add_zero, nu_l0, nu_l1, nu_l2, nu_l3, nu_l4, nu_i0_5, nu_i1_5, nu_i2_5, nu_i0_3, nu_i1_3, nu_i2_3, nu_n0, nu_n1, nu_na0, nu_na1, h, if_true, forall_eq, true_implies, false_implies, implies_true, not_true_eq_false, not_false_eq_true, and_true, true_and, and_self, true_or, or_true, false_or, or_false, false_and, and_false, eq_self]
  · simp (disch := omega) only [wpX_sightCell, nu_01, nu_40, nu_30, nu_20, nu_160, Int32.add_zero, Nat.reduceAdd, nu_m16, nu_16m, nu_m4, nu_4m, nu_m3, nu_3m, nu_m2, nu_2m, nI_1, nu_p2, nu_p3, nu_16p, nu_2p, nI_add, nu_cl, nu_in, Nat.add_zero, nu_l0, nu_l1, nu_l2, nu_l3, nu_l4, nu_i0_5, nu_i1_5, nu_i2_5, nu_i0_3, nu_i1_3, nu_i2_3, nu_n0, nu_n1, nu_na0, nu_na1, h, if_false, forall_eq, true_implies, false_implies, implies_true, not_true_eq_false, not_false_eq_true, and_true, true_and, and_self, true_or, or_true, false_or, or_false, false_and, and_false, eq_self]
theorem vy_see {post : Int32 → Prop} {s k : Nat} (hk : k < 16) : wpY_sight post (sc, fc, th, ch, ro, lk, st, nw, bf, ve, bk, md, yl, la, od, sm, fr, ct) (nI s) (nI k) = post (nI (si_f lk s k)) := by
  unfold si_f
  by_cases h : lk k = nI s
  · simp (disch := omega) only [wpY_sight, nu_01, nu_40, nu_30, nu_20, nu_160, Int32.add_zero, Nat.reduceAdd, nu_m16, nu_16m, nu_m4, nu_4m, nu_m3, nu_3m, nu_m2, nu_2m, nI_1, nu_p2, nu_p3, nu_16p, nu_2p, nI_add, nu_cl, nu_in, Nat.add_zero, nu_l0, nu_l1, nu_l2, nu_l3, nu_l4, nu_i0_5, nu_i1_5, nu_i2_5, nu_i0_3, nu_i1_3, nu_i2_3, nu_n0, nu_n1, nu_na0, nu_na1, h, if_true, forall_eq, true_implies, false_implies, implies_true, not_true_eq_false, not_false_eq_true, and_true, true_and, and_self, true_or, or_true, false_or, or_false, false_and, and_false, eq_self]
  · simp (disch := omega) only [wpY_sight, nu_01, nu_40, nu_30, nu_20, nu_160, Int32.add_zero, Nat.reduceAdd, nu_m16, nu_16m, nu_m4, nu_4m, nu_m3, nu_3m, nu_m2, nu_2m, nI_1, nu_p2, nu_p3, nu_16p, nu_2p, nI_add, nu_cl, nu_in, Nat.add_zero, nu_l0, nu_l1, nu_l2, nu_l3, nu_l4, nu_i0_5, nu_i1_5, nu_i2_5, nu_i0_3, nu_i1_3, nu_i2_3, nu_n0, nu_n1, nu_na0, nu_na1, h, if_false, forall_eq, true_implies, false_implies, implies_true, not_true_eq_false, not_false_eq_true, and_true, true_and, and_self, true_or, or_true, false_or, or_false, false_and, and_false, eq_self]
/-- locked by another session -/
noncomputable def bz_P (lk : Nat → Int32) (s k : Nat) : Prop := ¬ lk k = -1 ∧ ¬ lk k = nI s
theorem vx_bz {post : Int32 → Prop} {s k : Nat} (hk : k < 16) : wpX_isLockedByOther post (sc, fc, cc, rq, md, bk, ct, rt, rc, lk, wt, wc, ch, st, en, sn, sk, sr, fr, lf, cr, rr) (nI s) (nI k) = post (di_v (bz_P lk s k)) := by
  by_cases h : lk k = -1
  · rw [di_f (fun q => q.1 h)]
    simp (disch := omega) only [wpX_isLockedByOther, nu_01, nu_40, nu_30, nu_20, nu_160, Int32.add_zero, Nat.reduceAdd, nu_m16, nu_16m, nu_m4, nu_4m, nu_m3, nu_3m, nu_m2, nu_2m, nI_1, nu_p2, nu_p3, nu_16p, nu_2p, nI_add, nu_cl, nu_in, Nat.add_zero, nu_l0, nu_l1, nu_l2, nu_l3, nu_l4, nu_i0_5, nu_i1_5, nu_i2_5, nu_i0_3, nu_i1_3, nu_i2_3, nu_n0, nu_n1, nu_na0, nu_na1, h, forall_eq, true_implies, false_implies, implies_true, not_true_eq_false, not_false_eq_true, and_true, true_and, and_self, true_or, or_true, false_or, or_false, false_and, and_false, eq_self]
  by_cases h' : lk k = nI s
  · rw [di_f (fun q => q.2 h')]
    rw [h'] at h
    simp (disch := omega) only [wpX_isLockedByOther, nu_01, nu_40, nu_30, nu_20, nu_160, Int32.add_zero, Nat.reduceAdd, nu_m16, nu_16m, nu_m4, nu_4m, nu_m3, nu_3m, nu_m2, nu_2m, nI_1, nu_p2, nu_p3, nu_16p, nu_2p, nI_add, nu_cl, nu_in, Nat.add_zero, nu_l0, nu_l1, nu_l2, nu_l3, nu_l4, nu_i0_5, nu_i1_5, nu_i2_5, nu_i0_3, nu_i1_3, nu_i2_3, nu_n0, nu_n1, nu_na0, nu_na1, h, h', forall_eq, true_implies, false_implies, implies_true, not_true_eq_false, not_false_eq_true, and_true, true_and, and_self, true_or, or_true, false_or, or_false, false_and, and_false, eq_self]
  rw [di_t ⟨h, h'⟩]
  simp (disch := omega) only [wpX_isLockedByOther, nu_01, nu_40, nu_30, nu_20, nu_160, Int32.add_zero, Nat.reduceAdd, nu_m16, nu_16m, nu_m4, nu_4m, nu_m3, nu_3m, nu_m2, nu_2m, nI_1, nu_p2, nu_p3, nu_16p, nu_2p, nI_add, nu_cl, nu_in, Nat.add_zero, nu_l0, nu_l1, nu_l2, nu_l3, nu_l4, nu_i0_5, nu_i1_5, nu_i2_5, nu_i0_3, nu_i1_3, nu_i2_3, nu_n0, nu_n1, nu_na0, nu_na1, h, h', forall_eq, true_implies, false_implies, implies_true, not_true_eq_false, not_false_eq_true, and_true, true_and, and_self, true_or, or_true, false_or, or_false, false_and, and_false, eq_self]
theorem vx_dir {post : Int32 → Prop} {e : Nat} (he : e < 48) : wpX_isDirty post (sc, fc, cc, rq, md, bk, ct, rt, rc, lk, wt, wc, ch, st, en, sn, sk, sr, fr, lf, cr, rr) (nI e) = post (di_v (di_P st en sn e)) := by
  by_cases h4 : st e = 4
  · by_cases c0 : en (4 * e) = sn (4 * e)
    · by_cases c1 : en (4 * e + 1) = sn (4 * e + 1)
      · by_cases c2 : en (4 * e + 2) = sn (4 * e + 2)
        · rw [di_f (fun q => q.2 ⟨c0, c1, c2⟩)]
          simp (disch := omega) only [wpX_isDirty, nu_01, nu_40, nu_30, nu_20, nu_160, Int32.add_zero, Nat.reduceAdd, nu_m16, nu_16m, nu_m4, nu_4m, nu_m3, nu_3m, nu_m2, nu_2m, nI_1, nu_p2, nu_p3, nu_16p, nu_2p, nI_add, nu_cl, nu_in, Nat.add_zero, nu_l0, nu_l1, nu_l2, nu_l3, nu_l4, nu_i0_5, nu_i1_5, nu_i2_5, nu_i0_3, nu_i1_3, nu_i2_3, nu_n0, nu_n1, nu_na0, nu_na1, h4, c0, c1, c2, forall_eq, true_implies, false_implies, implies_true, not_true_eq_false, not_false_eq_true, and_true, true_and, and_self, true_or, or_true, false_or, or_false, false_and, and_false, eq_self]
        · rw [di_t ⟨h4, fun q => c2 q.2.2⟩]
          simp (disch := omega) only [wpX_isDirty, nu_01, nu_40, nu_30, nu_20, nu_160, Int32.add_zero, Nat.reduceAdd, nu_m16, nu_16m, nu_m4, nu_4m, nu_m3, nu_3m, nu_m2, nu_2m, nI_1, nu_p2, nu_p3, nu_16p, nu_2p, nI_add, nu_cl, nu_in, Nat.add_zero, nu_l0, nu_l1, nu_l2, nu_l3, nu_l4, nu_i0_5, nu_i1_5, nu_i2_5, nu_i0_3, nu_i1_3, nu_i2_3, nu_n0, nu_n1, nu_na0, nu_na1, h4, c0, c1, c2, forall_eq, true_implies, false_implies, implies_true, not_true_eq_false, not_false_eq_true, and_true, true_and, and_self, true_or, or_true, false_or, or_false, false_and, and_false, eq_self]
      · rw [di_t ⟨h4, fun q => c1 q.2.1⟩]
        simp (disch := omega) only [wpX_isDirty, nu_01, nu_40, nu_30, nu_20, nu_160, Int32.add_zero, Nat.reduceAdd, nu_m16, nu_16m, nu_m4, nu_4m, nu_m3, nu_3m, nu_m2, nu_2m, nI_1, nu_p2, nu_p3, nu_16p, nu_2p, nI_add, nu_cl, nu_in, Nat.add_zero, nu_l0, nu_l1, nu_l2, nu_l3, nu_l4, nu_i0_5, nu_i1_5, nu_i2_5, nu_i0_3, nu_i1_3, nu_i2_3, nu_n0, nu_n1, nu_na0, nu_na1, h4, c0, c1, forall_eq, true_implies, false_implies, implies_true, not_true_eq_false, not_false_eq_true, and_true, true_and, and_self, true_or, or_true, false_or, or_false, false_and, and_false, eq_self]
    · rw [di_t ⟨h4, fun q => c0 q.1⟩]
      simp (disch := omega) only [wpX_isDirty, nu_01, nu_40, nu_30, nu_20, nu_160, Int32.add_zero, Nat.reduceAdd, nu_m16, nu_16m, nu_m4, nu_4m, nu_m3, nu_3m, nu_m2, nu_2m, nI_1, nu_p2, nu_p3, nu_16p, nu_2p, nI_add, nu_cl, nu_in, Nat.add_zero, nu_l0, nu_l1, nu_l2, nu_l3, nu_l4, nu_i0_5, nu_i1_5, nu_i2_5, nu_i0_3, nu_i1_3, nu_i2_3, nu_n0, nu_n1, nu_na0, nu_na1, h4, c0, forall_eq, true_implies, false_implies, implies_true, not_true_eq_false, not_false_eq_true, and_true, true_and, and_self, true_or, or_true, false_or, or_false, false_and, and_false, eq_self]
  · rw [di_f (fun q => h4 q.1)]
    simp (disch := omega) only [wpX_isDirty, nu_01, nu_40, nu_30, nu_20, nu_160, Int32.add_zero, Nat.reduceAdd, nu_m16, nu_16m, nu_m4, nu_4m, nu_m3, nu_3m, nu_m2, nu_2m, nI_1, nu_p2, nu_p3, nu_16p, nu_2p, nI_add, nu_cl, nu_in, Nat.add_zero, nu_l0, nu_l1, nu_l2, nu_l3, nu_l4, nu_i0_5, nu_i1_5, nu_i2_5, nu_i0_3, nu_i1_3, nu_i2_3, nu_n0, nu_n1, nu_na0, nu_na1, h4, forall_eq, true_implies, false_implies, implies_true, not_true_eq_false, not_false_eq_true, and_true, true_and, and_self, true_or, or_true, false_or, or_false, false_and, and_false, eq_self]
end
