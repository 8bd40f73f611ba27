section
variable {sc fc cc rq : Int32} {md bk ct rt rc wt wc ch st en sn sk sr fr lf cr rr th ro nw bf ve yl la od sm : Nat → Int32}
/-- both constructors -/
theorem in_L : ∀ (d i : Nat), i + d = 16 → ∀ lk : Nat → Int32, re_Q lk → ∃ lk', re_Q lk' ∧
    (∀ (post : SX → Prop) n, d < n → post (sc, fc, cc, rq, md, bk, ct, rt, rc, lk', wt, wc, ch, st, en, sn, sk, sr, fr, lf, cr, rr) → wX_init_169 post sc fc cc rq n (nI i) md bk ct rt rc lk wt wc ch st en sn sk sr fr lf cr rr) ∧
    (∀ (post : SY → Prop) n, d < n → post (sc, fc, th, ch, ro, lk', st, nw, bf, ve, bk, md, yl, la, od, sm, fr, ct) → wY_init_134 post sc fc n (nI i) th ch ro lk st nw bf ve bk md yl la od sm fr ct) := by
  intro d
  induction d with
  | zero =>
    intro i hi lk hQ
    refine ⟨lk, hQ, fun post n hn hp => ?_, fun post n hn hp => ?_⟩
    · obtain ⟨n, rfl⟩ : ∃ n', n = n' + 1 := ⟨n - 1, by omega⟩
      simp (disch := omega) only [wX_init_169, nu_a16, forall_eq, true_implies, false_implies, implies_true, not_true_eq_false, not_false_eq_true, and_true, true_and, and_self, true_or, or_true, false_or, or_false, false_and, and_false, eq_self]
      exact hp
    · obtain ⟨n, rfl⟩ : ∃ n', n = n' + 1 := ⟨n - 1, by omega⟩
      simp (disch := omega) only [wY_init_134, nu_a16, forall_eq, true_implies, false_implies, implies_true, not_true_eq_false, not_false_eq_true, and_true, true_and, and_self, true_or, or_true, false_or, or_false, false_and, and_false, eq_self]
      exact hp
  | succ d ih =>
    intro i hi lk hQ
    obtain ⟨lk', hQ', hX, hY⟩ := ih (i + 1) (by omega) (upd lk i (-1)) (re_Qu hQ (Or.inl rfl))
    refine ⟨lk', hQ', fun post n hn hp => ?_, fun post n hn hp => ?_⟩
    · obtain ⟨n, rfl⟩ : ∃ n', n = n' + 1 := ⟨n - 1, by omega⟩
      simp (disch := omega) only [wX_init_169, nu_b16, nu_01, nu_40, nu_30, nu_20, nu_160, Int32.add_zero, Nat.reduceAdd, nu_m16, nu_16m, nu_m4, nu_4m, nu_m3, nu_3m, nu_m2, nu_2m, nI_1, nu_p2, nu_p3, nu_16p, nu_2p, nI_add, nu_cl, nu_in, Nat.add_zero, nu_l0, nu_l1, nu_l2, nu_l3, nu_l4, nu_i0_5, nu_i1_5, nu_i2_5, nu_i0_3, nu_i1_3, nu_i2_3, nu_n0, nu_n1, nu_na0, nu_na1, forall_eq, true_implies, false_implies, implies_true, not_true_eq_false, not_false_eq_true, and_true, true_and, and_self, true_or, or_true, false_or, or_false, false_and, and_false, eq_self]
      exact hX post n (by omega) hp
    · obtain ⟨n, rfl⟩ : ∃ n', n = n' + 1 := ⟨n - 1, by omega⟩
      simp (disch := omega) only [wY_init_134, nu_b16, nu_01, nu_40, nu_30, nu_20, nu_160, Int32.add_zero, Nat.reduceAdd, nu_m16, nu_16m, nu_m4, nu_4m, nu_m3, nu_3m, nu_m2, nu_2m, nI_1, nu_p2, nu_p3, nu_16p, nu_2p, nI_add, nu_cl, nu_in, Nat.add_zero, nu_l0, nu_l1, nu_l2, nu_l3, nu_l4, nu_i0_5, nu_i1_5, nu_i2_5, nu_i0_3, nu_i1_3, nu_i2_3, nu_n0, nu_n1, nu_na0, nu_na1, forall_eq, true_implies, false_implies, implies_true, not_true_eq_false, not_false_eq_true, and_true, true_and, and_self, true_or, or_true, false_or, or_false, false_and, and_false, eq_self]
      exact hY post n (by omega) hp
end
theorem i_vc0 : wpX_init (fun u => wpY_init (fun v => i_Rel 0 u v)) := by
  obtain ⟨lk', hQ', hX, hY⟩ := in_L (sc := 0) (fc := 0) (cc := 0) (rq := 0) (md := fun _ => 0) (bk := fun _ => 0) (ct := fun _ => 0) (rt := fun _ => 0) (rc := fun _ => 0) (wt := fun _ => 0) (wc := fun _ => 0) (ch := fun _ => 0) (st := fun _ => 0) (en := fun _ => 0) (sn := fun _ => 0) (sk := fun _ => 0) (sr := fun _ => 0) (fr := fun _ => 0) (lf := fun _ => 0) (cr := fun _ => 0) (rr := fun _ => 0) (th := fun _ => 0) (ro := fun _ => 0) (nw := fun _ => 0) (bf := fun _ => 0) (ve := fun _ => 0) (yl := fun _ => 0) (la := fun _ => 0) (od := fun _ => 0) (sm := fun _ => 0) 16 0 rfl (fun _ => 0) (fun _ => Or.inr ⟨0, by decide, rfl⟩)
  have hR : re_R (fun _ => 0) (fun _ => 0) (fun _ => 0) lk' (fun _ => 0) (fun _ => 0) (fun _ => 0) (fun _ => 0) (fun _ => 0) (fun _ => 0) (fun _ => 0) (fun _ => 0) (fun _ => 0) (fun _ => 0) (fun _ => 0) (fun _ => 0) := by
    refine ⟨fun _ => Or.inl rfl, fun _ => Or.inl rfl, fun _ => Or.inl rfl, fun _ => Or.inl rfl, hQ', fun _ => Or.inl rfl, fun _ _ => ⟨rfl, rfl⟩, fun _ _ _ _ => ⟨rfl, rfl⟩, fun _ _ => Or.inr ⟨0, by decide, rfl⟩, fun _ _ => Or.inr ⟨0, by decide, rfl⟩, fun _ _ _ _ _ _ => rfl, fun _ _ _ _ => rfl, fun _ _ _ => rfl⟩
  simp only [wpX_init, wpY_init]
  refine ⟨17, hX _ 17 (by decide) ⟨17, hY _ 17 (by decide) ?_⟩⟩
  exact ir_mk (n := 0) (m := 0) (by decide) (by decide) hR re_P0
section
variable {sc fc cc rq : Int32} {md bk ct rt rc wt wc ch st en sn sk sr fr lf cr rr th ro nw bf ve yl la od sm : Nat → Int32}
theorem un_L {s : Nat} (hs : s < 3) : ∀ (d i : Nat), i + d = 16 → ∀ lk : Nat → Int32, re_Q lk → ∃ lk', re_Q lk' ∧
    (∀ (post : SX → Prop) n, d < n → post (sc, fc, cc, rq, md, bk, ct, rt, rc, lk', wt, wc, ch, st, en, sn, sk, sr, fr, lf, cr, rr) → wX_undoWritten_2 post (nI s) sc fc cc rq n (nI i) md bk ct rt rc lk wt wc ch st en sn sk sr fr lf cr rr) ∧
    (∀ (post : SY → Prop) n, d < n → post (sc, fc, th, ch, ro, lk', st, nw, bf, ve, bk, md, yl, la, od, sm, fr, ct) → wY_undo_2 post (nI s) sc fc n (nI i) th ch ro lk st nw bf ve bk md yl la od sm fr ct) := by
  intro d
  induction d with
  | zero =>
    intro i hi lk hQ
    refine ⟨lk, hQ, fun post n hn hp => ?_, fun post n hn hp => ?_⟩
    · obtain ⟨n, rfl⟩ : ∃ n', n = n' + 1 := ⟨n - 1, by omega⟩
      simp (disch := omega) only [wX_undoWritten_2, nu_a16, forall_eq, true_implies, false_implies, implies_true, not_true_eq_false, not_false_eq_true, and_true, true_and, and_self, true_or, or_true, false_or, or_false, false_and, and_false, eq_self]
      exact hp
    · obtain ⟨n, rfl⟩ : ∃ n', n = n' + 1 := ⟨n - 1, by omega⟩
      simp (disch := omega) only [wY_undo_2, nu_a16, forall_eq, true_implies, false_implies, implies_true, not_true_eq_false, not_false_eq_true, and_true, true_and, and_self, true_or, or_true, false_or, or_false, false_and, and_false, eq_self]
      exact hp
  | succ d ih =>
    intro i hi lk hQ
    by_cases h : lk i = nI s
    · obtain ⟨lk', hQ', hX, hY⟩ := ih (i + 1) (by omega) (upd lk i (-1)) (re_Qu hQ (Or.inl rfl))
      refine ⟨lk', hQ', fun post n hn hp => ?_, fun post n hn hp => ?_⟩
      · obtain ⟨n, rfl⟩ : ∃ n', n = n' + 1 := ⟨n - 1, by omega⟩
        simp (disch := omega) only [wX_undoWritten_2, nu_b16, h, nu_01, nu_40, nu_30, nu_20, nu_160, Int32.add_zero, Nat.reduceAdd, nu_m16, nu_16m, nu_m4, nu_4m, nu_m3, nu_3m, nu_m2, nu_2m, nI_1, nu_p2, nu_p3, nu_16p, nu_2p, nI_add, nu_cl, nu_in, Nat.add_zero, nu_l0, nu_l1, nu_l2, nu_l3, nu_l4, nu_i0_5, nu_i1_5, nu_i2_5, nu_i0_3, nu_i1_3, nu_i2_3, nu_n0, nu_n1, nu_na0, nu_na1, forall_eq, true_implies, false_implies, implies_true, not_true_eq_false, not_false_eq_true, and_true, true_and, and_self, true_or, or_true, false_or, or_false, false_and, and_false, eq_self]
        exact hX post n (by omega) hp
      · obtain ⟨n, rfl⟩ : ∃ n', n = n' + 1 := ⟨n - 1, by omega⟩
        simp (disch := omega) only [wY_undo_2, nu_b16, h, nu_01, nu_40, nu_30, nu_20, nu_160, Int32.add_zero, Nat.reduceAdd, nu_m16, nu_16m, nu_m4, nu_4m, nu_m3, nu_3m, nu_m2, nu_2m, nI_1, nu_p2, nu_p3, nu_16p, nu_2p, nI_add, nu_cl, nu_in, Nat.add_zero, nu_l0, nu_l1, nu_l2, nu_l3, nu_l4, nu_i0_5, nu_i1_5, nu_i2_5, nu_i0_3, nu_i1_3, nu_i2_3, nu_n0, nu_n1, nu_na0, nu_na1, forall_eq, true_implies, false_implies, implies_true, not_true_eq_false, not_false_eq_true, and_true, true_and, and_self, true_or, or_true, false_or, or_false, false_and, and_false, eq_self]
        exact hY post n (by omega) hp
    · obtain ⟨lk', hQ', hX, hY⟩ := ih (i + 1) (by omega) lk hQ
      refine ⟨lk', hQ', fun post n hn hp => ?_, fun post n hn hp => ?_⟩
      · obtain ⟨n, rfl⟩ : ∃ n', n = n' + 1 := ⟨n - 1, by omega⟩
        simp (disch := omega) only [wX_undoWritten_2, nu_b16, h, nu_01, nu_40, nu_30, nu_20, nu_160, Int32.add_zero, Nat.reduceAdd, nu_m16, nu_16m, nu_m4, nu_4m, nu_m3, nu_3m, nu_m2, nu_2m, nI_1, nu_p2, nu_p3, nu_16p, nu_2p, nI_add, nu_cl, nu_in, Nat.add_zero, nu_l0, nu_l1, nu_l2, nu_l3, nu_l4, nu_i0_5, nu_i1_5, nu_i2_5, nu_i0_3, nu_i1_3, nu_i2_3, nu_n0, nu_n1, nu_na0, nu_na1, forall_eq, true_implies, false_implies, implies_true, not_true_eq_false, not_false_eq_true, and_true, true_and, and_self, true_or, or_true, false_or, or_false, false_and, and_false, eq_self]
        exact hX post n (by omega) hp
      · obtain ⟨n, rfl⟩ : ∃ n', n = n' + 1 := ⟨n - 1, by omega⟩
        simp (disch := omega) only [wY_undo_2, nu_b16, h, nu_01, nu_40, nu_30, nu_20, nu_160, Int32.add_zero, Nat.reduceAdd, nu_m16, nu_16m, nu_m4, nu_4m, nu_m3, nu_3m, nu_m2, nu_2m, nI_1, nu_p2, nu_p3, nu_16p, nu_2p, nI_add, nu_cl, nu_in, Nat.add_zero, nu_l0, nu_l1, nu_l2, nu_l3, nu_l4, nu_i0_5, nu_i1_5, nu_i2_5, nu_i0_3, nu_i1_3, nu_i2_3, nu_n0, nu_n1, nu_na0, nu_na1, forall_eq, true_implies, false_implies, implies_true, not_true_eq_false, not_false_eq_true, and_true, true_and, and_self, true_or, or_true, false_or, or_false, false_and, and_false, eq_self]
        exact hY post n (by omega) hp
end
section
variable {md bk rt rc lk wt wc ch st en sn th ro nw bf ve : Nat → Int32}
variable (sc fc cc rq : Int32) (ct sk sr fr lf cr rr yl la od sm : Nat → Int32)
theorem un_S {s : Nat} (hs : s < 3) (R : re_R md bk ch lk st rt rc wt wc en sn th ro nw bf ve) : ∃ lk', re_R md bk ch lk' st rt rc wt wc en sn th ro nw bf ve ∧
    (∀ post : SX → Prop, post (sc, fc, cc, rq, md, bk, ct, rt, rc, lk', wt, wc, ch, st, en, sn, sk, sr, fr, lf, cr, rr) → wpX_undoWritten post (sc, fc, cc, rq, md, bk, ct, rt, rc, lk, wt, wc, ch, st, en, sn, sk, sr, fr, lf, cr, rr) (nI s)) ∧ (∀ post : SY → Prop, post (sc, fc, th, ch, ro, lk', st, nw, bf, ve, bk, md, yl, la, od, sm, fr, ct) → wpY_undo post (sc, fc, th, ch, ro, lk, st, nw, bf, ve, bk, md, yl, la, od, sm, fr, ct) (nI s)) := by
  obtain ⟨lk', hQ', hX, hY⟩ := un_L (sc := sc) (fc := fc) (cc := cc) (rq := rq) (md := md) (bk := bk) (ct := ct) (rt := rt) (rc := rc) (wt := wt) (wc := wc) (ch := ch) (st := st) (en := en) (sn := sn) (sk := sk) (sr := sr) (fr := fr) (lf := lf) (cr := cr) (rr := rr) (th := th) (ro := ro) (nw := nw) (bf := bf) (ve := ve) (yl := yl) (la := la) (od := od) (sm := sm) hs 16 0 rfl lk (re_rQ R)
  refine ⟨lk', ?_, fun post hp => ?_, fun post hp => ?_⟩
  · obtain ⟨a1, a2, a3, a4, a5, a6, a7, a8, a9, a10, a11, a12, a13⟩ := R
    exact ⟨a1, a2, a3, a4, hQ', a6, a7, a8, a9, a10, a11, a12, a13⟩
  · simp only [wpX_undoWritten]
    exact ⟨17, hX post 17 (by decide) hp⟩
  · simp only [wpY_undo]
    exact ⟨17, hY post 17 (by decide) hp⟩
end
section
variable {sc fc cc rq : Int32} {md ct rt rc wt wc ch lk en sn sk sr fr lf cr rr th ro nw bf ve yl la od sm : Nat → Int32}
/-- a rollback takes a session's entities away -/
theorem rb_L {s : Nat} {bk : Nat → Int32} (hs : s < 3) : ∀ (d i : Nat), i + d = 16 → ∀ st : Nat → Int32, re_R md bk ch lk st rt rc wt wc en sn th ro nw bf ve → ∃ st', re_R md (upd bk s 0) ch lk st' rt rc wt wc en sn th ro nw bf ve ∧
    (∀ (post : Int32 → SX → Prop) n, d < n → post 0 (sc, fc, cc, rq, md, upd bk s 0, ct, rt, rc, lk, wt, wc, ch, st', en, sn, sk, sr, fr, lf, cr, rr) → wX_rollback_18 post (nI s) sc fc cc rq n (nI i) md bk ct rt rc lk wt wc ch st en sn sk sr fr lf cr rr) ∧
    (∀ (post : Int32 → SY → Prop) n, d < n → post 0 (sc, fc, th, ch, ro, lk, st', nw, bf, ve, upd bk s 0, md, yl, la, od, sm, fr, ct) → wY_rollback_27 post (nI s) sc fc n (nI (16 * s + i)) th ch ro lk st nw bf ve (upd bk s 0) md yl la od sm fr ct) := by
  intro d
  induction d with
  | zero =>
    intro i hi st R
    refine ⟨st, bk_R R (Or.inl rfl), fun post n hn hp => ?_, fun post n hn hp => ?_⟩
    · obtain ⟨n, rfl⟩ : ∃ n', n = n' + 1 := ⟨n - 1, by omega⟩
      simp (disch := omega) only [wX_rollback_18, nu_a16, nu_01, nu_40, nu_30, nu_20, nu_160, Int32.add_zero, Nat.reduceAdd, nu_m16, nu_16m, nu_m4, nu_4m, nu_m3, nu_3m, nu_m2, nu_2m, nI_1, nu_p2, nu_p3, nu_16p, nu_2p, nI_add, nu_cl, nu_in, Nat.add_zero, nu_l0, nu_l1, nu_l2, nu_l3, nu_l4, nu_i0_5, nu_i1_5, nu_i2_5, nu_i0_3, nu_i1_3, nu_i2_3, nu_n0, nu_n1, nu_na0, nu_na1, forall_eq, true_implies, false_implies, implies_true, not_true_eq_false, not_false_eq_true, and_true, true_and, and_self, true_or, or_true, false_or, or_false, false_and, and_false, eq_self]
      exact hp
    · obtain ⟨n, rfl⟩ : ∃ n', n = n' + 1 := ⟨n - 1, by omega⟩
      have z : 16 * s + 16 ≤ 16 * s + i := by omega
      simp (disch := omega) only [wY_rollback_27, nu_16m, nu_p16, nu_le, z, forall_eq, true_implies, false_implies, implies_true, not_true_eq_false, not_false_eq_true, and_true, true_and, and_self, true_or, or_true, false_or, or_false, false_and, and_false, eq_self]
      exact hp
  | succ d ih =>
    intro i hi st R
    obtain ⟨st', R', hX, hY⟩ := ih (i + 1) (by omega) (upd st (16 * s + i) 0) (kd_R R (Or.inl rfl) (Or.inl rfl) (fun q => absurd q (by decide)))
    refine ⟨st', R', fun post n hn hp => ?_, fun post n hn hp => ?_⟩
    · obtain ⟨n, rfl⟩ : ∃ n', n = n' + 1 := ⟨n - 1, by omega⟩
      simp (disch := omega) only [wX_rollback_18, nu_b16, nu_01, nu_40, nu_30, nu_20, nu_160, Int32.add_zero, Nat.reduceAdd, nu_m16, nu_16m, nu_m4, nu_4m, nu_m3, nu_3m, nu_m2, nu_2m, nI_1, nu_p2, nu_p3, nu_16p, nu_2p, nI_add, nu_cl, nu_in, Nat.add_zero, nu_l0, nu_l1, nu_l2, nu_l3, nu_l4, nu_i0_5, nu_i1_5, nu_i2_5, nu_i0_3, nu_i1_3, nu_i2_3, nu_n0, nu_n1, nu_na0, nu_na1, forall_eq, true_implies, false_implies, implies_true, not_true_eq_false, not_false_eq_true, and_true, true_and, and_self, true_or, or_true, false_or, or_false, false_and, and_false, eq_self]
      exact hX post n (by omega) hp
    · obtain ⟨n, rfl⟩ : ∃ n', n = n' + 1 := ⟨n - 1, by omega⟩
      have z : ¬ 16 * s + 16 ≤ 16 * s + i := by omega
      simp (disch := omega) only [wY_rollback_27, nu_p16, nu_le, z, nu_01, nu_40, nu_30, nu_20, nu_160, Int32.add_zero, Nat.reduceAdd, nu_m16, nu_16m, nu_m4, nu_4m, nu_m3, nu_3m, nu_m2, nu_2m, nI_1, nu_p2, nu_p3, nu_16p, nu_2p, nI_add, nu_cl, nu_in, Nat.add_zero, nu_l0, nu_l1, nu_l2, nu_l3, nu_l4, nu_i0_5, nu_i1_5, nu_i2_5, nu_i0_3, nu_i1_3, nu_i2_3, nu_n0, nu_n1, nu_na0, nu_na1, forall_eq, true_implies, false_implies, implies_true, not_true_eq_false, not_false_eq_true, and_true, true_and, and_self, true_or, or_true, false_or, or_false, false_and, and_false, eq_self]
      exact hY post n (by omega) hp
end
theorem rb_S {u : SX} {v : SY} (I : i_Rel 0 u v) (v1 : Int32) : sm_S (fun post => wpX_rollback post u v1) (fun post => wpY_rollback post v v1) := by
  obtain ⟨n, m, cc, rq, md, bk, ct, rt, rc, lk, wt, wc, ch, st, en, sn, sk, sr, fr, lf, cr, rr, th, ro, nw, bf, ve, yl, la, od, sm, rfl, rfl, hn, hm, R, hP⟩ := I
  by_cases t0 : v1 < 0
  · refine ⟨(-1), (nI n, nI m, cc, rq, md, bk, ct, rt, rc, lk, wt, wc, ch, st, en, sn, sk, sr, fr, lf, cr, rr), (nI n, nI m, th, ch, ro, lk, st, nw, bf, ve, bk, md, yl, la, od, sm, fr, ct), ir_mk hn hm (R) hP, fun post hp => ?_, fun post hp => ?_⟩
    · simp (disch := omega) only [wpX_rollback, t0, nu_01, nu_40, nu_30, nu_20, nu_160, Int32.add_zero, Nat.reduceAdd, nu_m16, nu_16m, nu_m4, nu_4m, nu_m3, nu_3m, nu_m2, nu_2m, nI_1, nu_p2, nu_p3, nu_16p, nu_2p, nI_add, nu_cl, nu_in, Nat.add_zero, nu_l0, nu_l1, nu_l2, nu_l3, nu_l4, nu_i0_5, nu_i1_5, nu_i2_5, nu_i0_3, nu_i1_3, nu_i2_3, nu_n0, nu_n1, nu_na0, nu_na1, forall_eq, true_implies, false_implies, implies_true, not_true_eq_false, not_false_eq_true, and_true, true_and, and_self, true_or, or_true, false_or, or_false, false_and, and_false, eq_self]
      exact hp
    · simp (disch := omega) only [wpY_rollback, wpY_in, t0, nu_01, nu_40, nu_30, nu_20, nu_160, Int32.add_zero, Nat.reduceAdd, nu_m16, nu_16m, nu_m4, nu_4m, nu_m3, nu_3m, nu_m2, nu_2m, nI_1, nu_p2, nu_p3, nu_16p, nu_2p, nI_add, nu_cl, nu_in, Nat.add_zero, nu_l0, nu_l1, nu_l2, nu_l3, nu_l4, nu_i0_5, nu_i1_5, nu_i2_5, nu_i0_3, nu_i1_3, nu_i2_3, nu_n0, nu_n1, nu_na0, nu_na1, forall_eq, true_implies, false_implies, implies_true, not_true_eq_false, not_false_eq_true, and_true, true_and, and_self, true_or, or_true, false_or, or_false, false_and, and_false, eq_self]
      exact hp
  obtain ⟨s, hs9, rfl⟩ := nI_of t0
  by_cases t3 : 3 ≤ s
  · refine ⟨(-1), (nI n, nI m, cc, rq, md, bk, ct, rt, rc, lk, wt, wc, ch, st, en, sn, sk, sr, fr, lf, cr, rr), (nI n, nI m, th, ch, ro, lk, st, nw, bf, ve, bk, md, yl, la, od, sm, fr, ct), ir_mk hn hm (R) hP, fun post hp => ?_, fun post hp => ?_⟩
    · simp (disch := omega) only [wpX_rollback, nu_a1, nu_b1, nu_c1, nu_d1, nu_e1, nu_f1, nu_g1, nu_h1, nu_a2, nu_b2, nu_c2, nu_d2, nu_e2, nu_f2, nu_g2, nu_h2, nu_a3, nu_b3, nu_c3, nu_d3, nu_e3, nu_f3, nu_g3, nu_h3, nu_a4, nu_b4, nu_c4, nu_d4, nu_e4, nu_f4, nu_g4, nu_h4, nu_a5, nu_b5, nu_c5, nu_d5, nu_e5, nu_f5, nu_g5, nu_h5, nu_a6, nu_b6, nu_c6, nu_d6, nu_e6, nu_f6, nu_g6, nu_h6, nu_a7, nu_b7, nu_c7, nu_d7, nu_e7, nu_f7, nu_g7, nu_h7, nu_a16, nu_b16, nu_c16, nu_d16, nu_e16, nu_f16, nu_g16, nu_h16, nu_neg, nu_pos, nu_01, nu_40, nu_30, nu_20, nu_160, Int32.add_zero, Nat.reduceAdd, nu_m16, nu_16m, nu_m4, nu_4m, nu_m3, nu_3m, nu_m2, nu_2m, nI_1, nu_p2, nu_p3, nu_16p, nu_2p, nI_add, nu_cl, nu_in, Nat.add_zero, nu_l0, nu_l1, nu_l2, nu_l3, nu_l4, nu_i0_5, nu_i1_5, nu_i2_5, nu_i0_3, nu_i1_3, nu_i2_3, nu_n0, nu_n1, nu_na0, nu_na1, forall_eq, true_implies, false_implies, implies_true, not_true_eq_false, not_false_eq_true, and_true, true_and, and_self, true_or, or_true, false_or, or_false, false_and, and_false, eq_self]
      exact hp
    · simp (disch := omega) only [wpY_rollback, wpY_in, nu_a1, nu_b1, nu_c1, nu_d1, nu_e1, nu_f1, nu_g1, nu_h1, nu_a2, nu_b2, nu_c2, nu_d2, nu_e2, nu_f2, nu_g2, nu_h2, nu_a3, nu_b3, nu_c3, nu_d3, nu_e3, nu_f3, nu_g3, nu_h3, nu_a4, nu_b4, nu_c4, nu_d4, nu_e4, nu_f4, nu_g4, nu_h4, nu_a5, nu_b5, nu_c5, nu_d5, nu_e5, nu_f5, nu_g5, nu_h5, nu_a6, nu_b6, nu_c6, nu_d6, nu_e6, nu_f6, nu_g6, nu_h6, nu_a7, nu_b7, nu_c7, nu_d7, nu_e7, nu_f7, nu_g7, nu_h7, nu_a16, nu_b16, nu_c16, nu_d16, nu_e16, nu_f16, nu_g16, nu_h16, nu_neg, nu_pos, nu_01, nu_40, nu_30, nu_20, nu_160, Int32.add_zero, Nat.reduceAdd, nu_m16, nu_16m, nu_m4, nu_4m, nu_m3, nu_3m, nu_m2, nu_2m, nI_1, nu_p2, nu_p3, nu_16p, nu_2p, nI_add, nu_cl, nu_in, Nat.add_zero, nu_l0, nu_l1, nu_l2, nu_l3, nu_l4, nu_i0_5, nu_i1_5, nu_i2_5, nu_i0_3, nu_i1_3, nu_i2_3, nu_n0, nu_n1, nu_na0, nu_na1, forall_eq, true_implies, false_implies, implies_true, not_true_eq_false, not_false_eq_true, and_true, true_and, and_self, true_or, or_true, false_or, or_false, false_and, and_false, eq_self]
      exact hp
  have hs : s < 3 := by omega
  obtain ⟨lk', R1, hX1, hY1⟩ := un_S (nI n) (nI m) cc rq ct sk sr fr lf cr rr yl la od sm hs R
  obtain ⟨st', R2, hX2, hY2⟩ := rb_L (sc := nI n) (fc := nI m) (cc := cc) (rq := rq) (ct := ct) (sk := sk) (sr := sr) (fr := fr) (lf := lf) (cr := cr) (rr := rr) (yl := yl) (la := la) (od := od) (sm := sm) hs 16 0 rfl st R1
  refine ⟨0, (nI n, nI m, cc, rq, md, upd bk s 0, ct, rt, rc, lk', wt, wc, ch, st', en, sn, sk, sr, fr, lf, cr, rr), (nI n, nI m, th, ch, ro, lk', st', nw, bf, ve, upd bk s 0, md, yl, la, od, sm, fr, ct), ir_mk hn hm R2 hP, fun post hp => ?_, fun post hp => ?_⟩
  · simp (disch := omega) only [wpX_rollback, nu_a1, nu_b1, nu_c1, nu_d1, nu_e1, nu_f1, nu_g1, nu_h1, nu_a2, nu_b2, nu_c2, nu_d2, nu_e2, nu_f2, nu_g2, nu_h2, nu_a3, nu_b3, nu_c3, nu_d3, nu_e3, nu_f3, nu_g3, nu_h3, nu_a4, nu_b4, nu_c4, nu_d4, nu_e4, nu_f4, nu_g4, nu_h4, nu_a5, nu_b5, nu_c5, nu_d5, nu_e5, nu_f5, nu_g5, nu_h5, nu_a6, nu_b6, nu_c6, nu_d6, nu_e6, nu_f6, nu_g6, nu_h6, nu_a7, nu_b7, nu_c7, nu_d7, nu_e7, nu_f7, nu_g7, nu_h7, nu_a16, nu_b16, nu_c16, nu_d16, nu_e16, nu_f16, nu_g16, nu_h16, nu_neg, nu_pos, forall_eq, true_implies, false_implies, implies_true, not_true_eq_false, not_false_eq_true, and_true, true_and, and_self, true_or, or_true, false_or, or_false, false_and, and_false, eq_self]
    refine hX1 _ ?_
    exact ⟨17, hX2 post 17 (by decide) hp⟩
  · simp (disch := omega) only [wpY_rollback, wpY_in, nu_k10, nu_a1, nu_b1, nu_c1, nu_d1, nu_e1, nu_f1, nu_g1, nu_h1, nu_a2, nu_b2, nu_c2, nu_d2, nu_e2, nu_f2, nu_g2, nu_h2, nu_a3, nu_b3, nu_c3, nu_d3, nu_e3, nu_f3, nu_g3, nu_h3, nu_a4, nu_b4, nu_c4, nu_d4, nu_e4, nu_f4, nu_g4, nu_h4, nu_a5, nu_b5, nu_c5, nu_d5, nu_e5, nu_f5, nu_g5, nu_h5, nu_a6, nu_b6, nu_c6, nu_d6, nu_e6, nu_f6, nu_g6, nu_h6, nu_a7, nu_b7, nu_c7, nu_d7, nu_e7, nu_f7, nu_g7, nu_h7, nu_a16, nu_b16, nu_c16, nu_d16, nu_e16, nu_f16, nu_g16, nu_h16, nu_neg, nu_pos, forall_eq, true_implies, false_implies, implies_true, not_true_eq_false, not_false_eq_true, and_true, true_and, and_self, true_or, or_true, false_or, or_false, false_and, and_false, eq_self]
    refine hY1 _ ?_
    simp (disch := omega) only [nu_01, nu_40, nu_30, nu_20, nu_160, Int32.add_zero, Nat.reduceAdd, nu_m16, nu_16m, nu_m4, nu_4m, nu_m3, nu_3m, nu_m2, nu_2m, nI_1, nu_p2, nu_p3, nu_16p, nu_2p, nI_add, nu_cl, nu_in, Nat.add_zero, nu_l0, nu_l1, nu_l2, nu_l3, nu_l4, nu_i0_5, nu_i1_5, nu_i2_5, nu_i0_3, nu_i1_3, nu_i2_3, nu_n0, nu_n1, nu_na0, nu_na1, forall_eq, true_implies, false_implies, implies_true, not_true_eq_false, not_false_eq_true, and_true, true_and, and_self, true_or, or_true, false_or, or_false, false_and, and_false, eq_self]
    exact ⟨17, hY2 post 17 (by decide) hp⟩
