/-- what an UPDATE or DELETE answers -/
noncomputable def vr_v (lk rt wt rc wc : Nat → Int32) (s k : Nat) (w : Int32) : Int32 := rm_i (bz_P lk s k) (-6) (if si_t rt wt lk s k = 0 then -4 else if si_c rc wc lk s k 3 = w then 0 else -4)
section
variable {sc fc cc rq : Int32} {md bk ct rt rc lk wt wc ch st en sn sk sr fr lf cr rr th ro nw bf ve yl la od sm : Nat → Int32}
theorem vx_sc2 {post : Int32 → Prop} {s k : Nat} (hk : k < 16) : wpX_sightCell post (sc, fc, cc, rq, md, bk, ct, rt, rc, lk, wt, wc, ch, st, en, sn, sk, sr, fr, lf, cr, rr) (nI s) (nI k) 2 = post (si_c rc wc lk s k 2) := vx_sce (c := 2) hk (by decide)
theorem vx_sc3 {post : Int32 → Prop} {s k : Nat} (hk : k < 16) : wpX_sightCell post (sc, fc, cc, rq, md, bk, ct, rt, rc, lk, wt, wc, ch, st, en, sn, sk, sr, fr, lf, cr, rr) (nI s) (nI k) 3 = post (si_c rc wc lk s k 3) := vx_sce (c := 3) hk (by decide)
theorem vx_wr {post : SX → Prop} {s k : Nat} {v : Int32} (hs : s < 3) (hk : k < 16)
    (hp : post (sc, fc, cc, rq, md, bk, ct, rt, rc, upd lk k (nI s), upd wt k 1, u4_f wc (4 * k) (en (4 * (16 * s + k))) (en (4 * (16 * s + k) + 1)) (en (4 * (16 * s + k) + 2)) v, upd ch k 0, st, en, sn, sk, sr, fr, lf, cr, rr)) : wpX_writeRow post (sc, fc, cc, rq, md, bk, ct, rt, rc, lk, wt, wc, ch, st, en, sn, sk, sr, fr, lf, cr, rr) (nI s) (nI k) v := by
  simp (disch := omega) only [wpX_writeRow, nu_01, nu_40, nu_30, nu_20, nu_160, Int32.add_zero, Nat.reduceAdd, nu_m16, nu_16m, nu_m4, nu_4m, nu_m3, nu_3m, nu_m2, nu_2m, nI_1, nu_p2, nu_p3, nu_16p, nu_2p, nI_add, nu_cl, nu_in, Nat.add_zero, nu_l0, nu_l1, nu_l2, nu_l3, nu_l4, nu_i0_5, nu_i1_5, nu_i2_5, nu_i0_3, nu_i1_3, nu_i2_3, nu_n0, nu_n1, nu_na0, nu_na1, forall_eq, true_implies, false_implies, implies_true, not_true_eq_false, not_false_eq_true, and_true, true_and, and_self, true_or, or_true, false_or, or_false, false_and, and_false, eq_self]
  refine ⟨4, ?_⟩
  simp (disch := omega) only [wX_writeRow_24, nu_g2, nu_h2, nu_01, nu_40, nu_30, nu_20, nu_160, Int32.add_zero, Nat.reduceAdd, nu_m16, nu_16m, nu_m4, nu_4m, nu_m3, nu_3m, nu_m2, nu_2m, nI_1, nu_p2, nu_p3, nu_16p, nu_2p, nI_add, nu_cl, nu_in, Nat.add_zero, nu_l0, nu_l1, nu_l2, nu_l3, nu_l4, nu_i0_5, nu_i1_5, nu_i2_5, nu_i0_3, nu_i1_3, nu_i2_3, nu_n0, nu_n1, nu_na0, nu_na1, forall_eq, true_implies, false_implies, implies_true, not_true_eq_false, not_false_eq_true, and_true, true_and, and_self, true_or, or_true, false_or, or_false, false_and, and_false, eq_self]
  exact hp
theorem vy_pt {post : SY → Prop} {s k : Nat} {v : Int32} (hs : s < 3) (hk : k < 16) (hN : re_N st en nw) (h0 : ¬ st (16 * s + k) = 0) (h3 : ¬ st (16 * s + k) = 3)
    (hp : post (sc, fc, upd th (16 + k) 1, ch, u4_f ro (4 * (16 + k)) (en (4 * (16 * s + k))) (en (4 * (16 * s + k) + 1)) (en (4 * (16 * s + k) + 2)) v, lk, st, nw, bf, ve, bk, md, yl, la, od, sm, fr, ct)) : wpY_put post (sc, fc, th, ch, ro, lk, st, nw, bf, ve, bk, md, yl, la, od, sm, fr, ct) (nI s) (nI k) v := by
  have c0 := hN (16 * s + k) (by omega) h0 h3 0 (by decide)
  have c1 := hN (16 * s + k) (by omega) h0 h3 1 (by decide)
  have c2 := hN (16 * s + k) (by omega) h0 h3 2 (by decide)
  rw [Nat.add_zero, Nat.add_zero] at c0
  rw [c0, c1, c2] at hp
  simp (disch := omega) only [wpY_put, nu_01, nu_40, nu_30, nu_20, nu_160, Int32.add_zero, Nat.reduceAdd, nu_m16, nu_16m, nu_m4, nu_4m, nu_m3, nu_3m, nu_m2, nu_2m, nI_1, nu_p2, nu_p3, nu_16p, nu_2p, nI_add, nu_cl, nu_in, Nat.add_zero, nu_l0, nu_l1, nu_l2, nu_l3, nu_l4, nu_i0_5, nu_i1_5, nu_i2_5, nu_i0_3, nu_i1_3, nu_i2_3, nu_n0, nu_n1, nu_na0, nu_na1, forall_eq, true_implies, false_implies, implies_true, not_true_eq_false, not_false_eq_true, and_true, true_and, and_self, true_or, or_true, false_or, or_false, false_and, and_false, eq_self]
  refine ⟨4, ?_⟩
  simp (disch := omega) only [wY_put_13, nu_a3, nu_b3, nu_01, nu_40, nu_30, nu_20, nu_160, Int32.add_zero, Nat.reduceAdd, nu_m16, nu_16m, nu_m4, nu_4m, nu_m3, nu_3m, nu_m2, nu_2m, nI_1, nu_p2, nu_p3, nu_16p, nu_2p, nI_add, nu_cl, nu_in, Nat.add_zero, nu_l0, nu_l1, nu_l2, nu_l3, nu_l4, nu_i0_5, nu_i1_5, nu_i2_5, nu_i0_3, nu_i1_3, nu_i2_3, nu_n0, nu_n1, nu_na0, nu_na1, forall_eq, true_implies, false_implies, implies_true, not_true_eq_false, not_false_eq_true, and_true, true_and, and_self, true_or, or_true, false_or, or_false, false_and, and_false, eq_self]
  exact hp
theorem vx_nt {post : SX → Prop} {n q k : Nat} (hn : n < 32) (hq : q < 3)
    (hp : post (nI (n + 1), fc, cc, rq, md, bk, upd ct (2 + q) (ct (2 + q) + 1), rt, rc, lk, wt, wc, ch, st, en, sn, upd sk n (nI q), upd sr n (nI k), fr, lf, cr, rr)) : wpX_noteStatement post (nI n, fc, cc, rq, md, bk, ct, rt, rc, lk, wt, wc, ch, st, en, sn, sk, sr, fr, lf, cr, rr) (nI q) (nI k) := by
  simp (disch := omega) only [wpX_noteStatement, nu_b32, nu_01, nu_40, nu_30, nu_20, nu_160, Int32.add_zero, Nat.reduceAdd, nu_m16, nu_16m, nu_m4, nu_4m, nu_m3, nu_3m, nu_m2, nu_2m, nI_1, nu_p2, nu_p3, nu_16p, nu_2p, nI_add, nu_cl, nu_in, Nat.add_zero, nu_l0, nu_l1, nu_l2, nu_l3, nu_l4, nu_i0_5, nu_i1_5, nu_i2_5, nu_i0_3, nu_i1_3, nu_i2_3, nu_n0, nu_n1, nu_na0, nu_na1, forall_eq, true_implies, false_implies, implies_true, not_true_eq_false, not_false_eq_true, and_true, true_and, and_self, true_or, or_true, false_or, or_false, false_and, and_false, eq_self]
  exact hp
theorem vy_nt {post : SY → Prop} {n q k : Nat} (hn : n < 32) (hq : q < 3)
    (hp : post (nI (n + 1), fc, th, ch, ro, lk, st, nw, bf, ve, bk, md, yl, la, od, upd (upd sm (2 * n) (nI q)) (2 * n + 1) (nI k), fr, upd ct (2 + q) (ct (2 + q) + 1))) : wpY_note post (nI n, fc, th, ch, ro, lk, st, nw, bf, ve, bk, md, yl, la, od, sm, fr, ct) (nI q) (nI k) := by
  simp (disch := omega) only [wpY_note, nu_01, nu_40, nu_30, nu_20, nu_160, Int32.add_zero, Nat.reduceAdd, nu_m16, nu_16m, nu_m4, nu_4m, nu_m3, nu_3m, nu_m2, nu_2m, nI_1, nu_p2, nu_p3, nu_16p, nu_2p, nI_add, nu_cl, nu_in, Nat.add_zero, nu_l0, nu_l1, nu_l2, nu_l3, nu_l4, nu_i0_5, nu_i1_5, nu_i2_5, nu_i0_3, nu_i1_3, nu_i2_3, nu_n0, nu_n1, nu_na0, nu_na1, forall_eq, true_implies, false_implies, implies_true, not_true_eq_false, not_false_eq_true, and_true, true_and, and_self, true_or, or_true, false_or, or_false, false_and, and_false, eq_self]
  exact hp
theorem vx_ver {post : Int32 → Prop} {s k : Nat} {w : Int32} (hk : k < 16) (hT : re_T rt wt th) (hB : re_B th) : wpX_versionError post (sc, fc, cc, rq, md, bk, ct, rt, rc, lk, wt, wc, ch, st, en, sn, sk, sr, fr, lf, cr, rr) (nI s) (nI k) w = post (vr_v lk rt wt rc wc s k w) := by
  unfold vr_v
  by_cases b : bz_P lk s k
  · rw [rm_t b]
    simp only [wpX_versionError, vx_bz hk, di_t b, nu_k10, forall_eq, true_implies, false_implies, implies_true, not_true_eq_false, not_false_eq_true, and_true, true_and, and_self, true_or, or_true, false_or, or_false, false_and, and_false, eq_self]
  · rw [rm_f b]
    by_cases t : si_t rt wt lk s k = 0
    · rw [if_pos t]
      simp only [wpX_versionError, vx_bz hk, di_f b, vx_see hk hT hB, t, forall_eq, true_implies, false_implies, implies_true, not_true_eq_false, not_false_eq_true, and_true, true_and, and_self, true_or, or_true, false_or, or_false, false_and, and_false, eq_self]
    · rw [if_neg t]
      by_cases c : si_c rc wc lk s k 3 = w
      · rw [if_pos c]
        simp only [wpX_versionError, vx_bz hk, di_f b, vx_see hk hT hB, vx_sc3 hk, t, c, forall_eq, true_implies, false_implies, implies_true, not_true_eq_false, not_false_eq_true, and_true, true_and, and_self, true_or, or_true, false_or, or_false, false_and, and_false, eq_self]
      · rw [if_neg c]
        simp only [wpX_versionError, vx_bz hk, di_f b, vx_see hk hT hB, vx_sc3 hk, t, c, forall_eq, true_implies, false_implies, implies_true, not_true_eq_false, not_false_eq_true, and_true, true_and, and_self, true_or, or_true, false_or, or_false, false_and, and_false, eq_self]
theorem vr_k (lk rt wt rc wc : Nat → Int32) (s k : Nat) (w : Int32) : vr_v lk rt wt rc wc s k w = -6 ∨ vr_v lk rt wt rc wc s k w = -4 ∨ vr_v lk rt wt rc wc s k w = 0 := by
  unfold vr_v
  by_cases b : bz_P lk s k
  · rw [rm_t b]
    exact Or.inl rfl
  · rw [rm_f b]
    split
    · exact Or.inr (Or.inl rfl)
    · split
      · exact Or.inr (Or.inr rfl)
      · exact Or.inr (Or.inl rfl)
/-- locked by another, as the reference asks it -/
theorem bz_y {s k : Nat} (hQ : re_Q lk) : bz_P lk s k ↔ ¬ lk k < 0 ∧ ¬ lk k = nI s := by
  unfold bz_P
  rcases hQ k with q | ⟨j, hj, q⟩
  · rw [q]
    refine ⟨fun h => absurd rfl h.1, fun h => absurd (by decide) h.1⟩
  · rw [q]
    refine ⟨fun h => ⟨nI_pos (by omega), h.2⟩, fun h => ⟨fun z => ?_, h.2⟩⟩
    rw [nu_nem (by omega)] at z
    exact z
theorem vy_b1 {post : Int32 → SY → Prop} {s k : Nat} {w : Int32} (hk : k < 16) (hT : re_T rt wt th) (hC : re_C rc wc ro) (hQ : re_Q lk)
    (h0 : vr_v lk rt wt rc wc s k w = 0 → post 0 (sc, fc, th, upd ch k 0, ro, upd lk k (nI s), st, nw, bf, ve, bk, md, yl, la, od, sm, fr, ct)) (h1 : ¬ vr_v lk rt wt rc wc s k w = 0 → post (vr_v lk rt wt rc wc s k w) (sc, fc, th, ch, ro, lk, st, nw, bf, ve, bk, md, yl, la, od, sm, fr, ct)) : wpY_begin post (sc, fc, th, ch, ro, lk, st, nw, bf, ve, bk, md, yl, la, od, sm, fr, ct) (nI s) (nI k) w 1 := by
  have hf := si_lt lk (s := s) hk
  have ht := si_ft (lk := lk) (s := s) hT hk
  have hc := si_fc (lk := lk) (s := s) (c := 3) hC hk (by decide)
  unfold vr_v at h0 h1
  by_cases b : bz_P lk s k
  · rw [rm_t b] at h0 h1
    have hp := h1 (by decide)
    have b' := (bz_y hQ).mp b
    simp (disch := omega) only [wpY_begin, vy_see hk, b'.1, b'.2, nu_01, nu_40, nu_30, nu_20, nu_160, Int32.add_zero, Nat.reduceAdd, nu_m16, nu_16m, nu_m4, nu_4m, nu_m3, nu_3m, nu_m2, nu_2m, nI_1, nu_p2, nu_p3, nu_16p, nu_2p, nI_add, nu_cl, nu_in, Nat.add_zero, nu_l0, nu_l1, nu_l2, nu_l3, nu_l4, nu_i0_5, nu_i1_5, nu_i2_5, nu_i0_3, nu_i1_3, nu_i2_3, nu_n0, nu_n1, nu_na0, nu_na1, forall_eq, true_implies, false_implies, implies_true, not_true_eq_false, not_false_eq_true, and_true, true_and, and_self, true_or, or_true, false_or, or_false, false_and, and_false, eq_self]
    exact hp
  · rw [rm_f b] at h0 h1
    have nb : ∀ P : Prop, P → ((lk k < 0 → P) ∧ (¬ lk k < 0 → ((lk k = nI s → P) ∧ (¬ lk k = nI s → post (-6) (sc, fc, th, ch, ro, lk, st, nw, bf, ve, bk, md, yl, la, od, sm, fr, ct))))) := by
      intro P p
      refine ⟨fun _ => p, fun z => ⟨fun _ => p, fun y => absurd ((bz_y hQ).mpr ⟨z, y⟩) b⟩⟩
    by_cases t : si_t rt wt lk s k = 0
    · rw [if_pos t] at h0 h1
      have hp := h1 (by decide)
      rw [t] at ht
      simp (disch := omega) only [wpY_begin, wY_begin_30, wY_begin_48, vy_see hk, ht, nu_k10, nu_01, nu_40, nu_30, nu_20, nu_160, Int32.add_zero, Nat.reduceAdd, nu_m16, nu_16m, nu_m4, nu_4m, nu_m3, nu_3m, nu_m2, nu_2m, nI_1, nu_p2, nu_p3, nu_16p, nu_2p, nI_add, nu_cl, nu_in, Nat.add_zero, nu_l0, nu_l1, nu_l2, nu_l3, nu_l4, nu_i0_5, nu_i1_5, nu_i2_5, nu_i0_3, nu_i1_3, nu_i2_3, nu_n0, nu_n1, nu_na0, nu_na1, forall_eq, true_implies, false_implies, implies_true, not_true_eq_false, not_false_eq_true, and_true, true_and, and_self, true_or, or_true, false_or, or_false, false_and, and_false, eq_self]
      exact nb _ hp
    · rw [if_neg t] at h0 h1
      have ht' : ¬ th (si_f lk s k) = 0 := by
        rw [ht]
        exact t
      by_cases c : si_c rc wc lk s k 3 = w
      · rw [if_pos c] at h0 h1
        have hp := h0 rfl
        rw [c] at hc
        simp (disch := omega) only [wpY_begin, wY_begin_30, wY_begin_48, wY_begin_81, vy_see hk, ht', hc, nu_k10, nu_01, nu_40, nu_30, nu_20, nu_160, Int32.add_zero, Nat.reduceAdd, nu_m16, nu_16m, nu_m4, nu_4m, nu_m3, nu_3m, nu_m2, nu_2m, nI_1, nu_p2, nu_p3, nu_16p, nu_2p, nI_add, nu_cl, nu_in, Nat.add_zero, nu_l0, nu_l1, nu_l2, nu_l3, nu_l4, nu_i0_5, nu_i1_5, nu_i2_5, nu_i0_3, nu_i1_3, nu_i2_3, nu_n0, nu_n1, nu_na0, nu_na1, forall_eq, true_implies, false_implies, implies_true, not_true_eq_false, not_false_eq_true, and_true, true_and, and_self, true_or, or_true, false_or, or_false, false_and, and_false, eq_self]
        exact nb _ hp
      · rw [if_neg c] at h0 h1
        have hp := h1 (by decide)
        have hc' : ¬ ro (4 * si_f lk s k + 3) = w := by
          rw [hc]
          exact c
        simp (disch := omega) only [wpY_begin, wY_begin_30, wY_begin_48, wY_begin_81, vy_see hk, ht', hc', nu_k10, nu_01, nu_40, nu_30, nu_20, nu_160, Int32.add_zero, Nat.reduceAdd, nu_m16, nu_16m, nu_m4, nu_4m, nu_m3, nu_3m, nu_m2, nu_2m, nI_1, nu_p2, nu_p3, nu_16p, nu_2p, nI_add, nu_cl, nu_in, Nat.add_zero, nu_l0, nu_l1, nu_l2, nu_l3, nu_l4, nu_i0_5, nu_i1_5, nu_i2_5, nu_i0_3, nu_i1_3, nu_i2_3, nu_n0, nu_n1, nu_na0, nu_na1, forall_eq, true_implies, false_implies, implies_true, not_true_eq_false, not_false_eq_true, and_true, true_and, and_self, true_or, or_true, false_or, or_false, false_and, and_false, eq_self]
        exact nb _ hp
/-- what an INSERT answers -/
noncomputable def ii_v (lk rt wt : Nat → Int32) (s k : Nat) : Int32 := rm_i (bz_P lk s k) (-6) (if si_t rt wt lk s k = 0 then 0 else -5)
theorem vy_b0 {post : Int32 → SY → Prop} {s k : Nat} (hk : k < 16) (hT : re_T rt wt th) (hQ : re_Q lk)
    (h0 : ii_v lk rt wt s k = 0 → post 0 (sc, fc, th, upd ch k 0, ro, upd lk k (nI s), st, nw, bf, ve, bk, md, yl, la, od, sm, fr, ct)) (h1 : ¬ ii_v lk rt wt s k = 0 → post (ii_v lk rt wt s k) (sc, fc, th, ch, ro, lk, st, nw, bf, ve, bk, md, yl, la, od, sm, fr, ct)) : wpY_begin post (sc, fc, th, ch, ro, lk, st, nw, bf, ve, bk, md, yl, la, od, sm, fr, ct) (nI s) (nI k) 0 0 := by
  have hf := si_lt lk (s := s) hk
  have ht := si_ft (lk := lk) (s := s) hT hk
  unfold ii_v at h0 h1
  by_cases b : bz_P lk s k
  · rw [rm_t b] at h0 h1
    have hp := h1 (by decide)
    have b' := (bz_y hQ).mp b
    simp (disch := omega) only [wpY_begin, vy_see hk, b'.1, b'.2, nu_01, nu_40, nu_30, nu_20, nu_160, Int32.add_zero, Nat.reduceAdd, nu_m16, nu_16m, nu_m4, nu_4m, nu_m3, nu_3m, nu_m2, nu_2m, nI_1, nu_p2, nu_p3, nu_16p, nu_2p, nI_add, nu_cl, nu_in, Nat.add_zero, nu_l0, nu_l1, nu_l2, nu_l3, nu_l4, nu_i0_5, nu_i1_5, nu_i2_5, nu_i0_3, nu_i1_3, nu_i2_3, nu_n0, nu_n1, nu_na0, nu_na1, forall_eq, true_implies, false_implies, implies_true, not_true_eq_false, not_false_eq_true, and_true, true_and, and_self, true_or, or_true, false_or, or_false, false_and, and_false, eq_self]
    exact hp
  · rw [rm_f b] at h0 h1
    have nb : ∀ P : Prop, P → ((lk k < 0 → P) ∧ (¬ lk k < 0 → ((lk k = nI s → P) ∧ (¬ lk k = nI s → post (-6) (sc, fc, th, ch, ro, lk, st, nw, bf, ve, bk, md, yl, la, od, sm, fr, ct))))) := by
      intro P p
      refine ⟨fun _ => p, fun z => ⟨fun _ => p, fun y => absurd ((bz_y hQ).mpr ⟨z, y⟩) b⟩⟩
    by_cases t : si_t rt wt lk s k = 0
    · rw [if_pos t] at h0 h1
      have hp := h0 rfl
      rw [t] at ht
      simp (disch := omega) only [wpY_begin, wY_begin_30, wY_begin_48, wY_begin_81, vy_see hk, ht, nu_01, nu_40, nu_30, nu_20, nu_160, Int32.add_zero, Nat.reduceAdd, nu_m16, nu_16m, nu_m4, nu_4m, nu_m3, nu_3m, nu_m2, nu_2m, nI_1, nu_p2, nu_p3, nu_16p, nu_2p, nI_add, nu_cl, nu_in, Nat.add_zero, nu_l0, nu_l1, nu_l2, nu_l3, nu_l4, nu_i0_5, nu_i1_5, nu_i2_5, nu_i0_3, nu_i1_3, nu_i2_3, nu_n0, nu_n1, nu_na0, nu_na1, forall_eq, true_implies, false_implies, implies_true, not_true_eq_false, not_false_eq_true, and_true, true_and, and_self, true_or, or_true, false_or, or_false, false_and, and_false, eq_self]
      exact nb _ hp
    · rw [if_neg t] at h0 h1
      have hp := h1 (by decide)
      have ht' : ¬ th (si_f lk s k) = 0 := by
        rw [ht]
        exact t
      simp (disch := omega) only [wpY_begin, wY_begin_30, wY_begin_48, wY_begin_81, vy_see hk, ht', nu_01, nu_40, nu_30, nu_20, nu_160, Int32.add_zero, Nat.reduceAdd, nu_m16, nu_16m, nu_m4, nu_4m, nu_m3, nu_3m, nu_m2, nu_2m, nI_1, nu_p2, nu_p3, nu_16p, nu_2p, nI_add, nu_cl, nu_in, Nat.add_zero, nu_l0, nu_l1, nu_l2, nu_l3, nu_l4, nu_i0_5, nu_i1_5, nu_i2_5, nu_i0_3, nu_i1_3, nu_i2_3, nu_n0, nu_n1, nu_na0, nu_na1, forall_eq, true_implies, false_implies, implies_true, not_true_eq_false, not_false_eq_true, and_true, true_and, and_self, true_or, or_true, false_or, or_false, false_and, and_false, eq_self]
      exact nb _ hp
end
