section
variable {sc fc : Int32} {md bk ct lk ch st en sn fr th ro nw bf ve la od sm : Nat → Int32}
theorem vy_m4 {s : Nat} (hs : s < 3) : ∀ d i : Nat, i + d = 16 → ∀ yl : Nat → Int32, (∀ j, j < i → yl j = di_v (st (16 * s + j) = 5)) →
    ∃ yl', (∀ j, j < 16 → yl' j = di_v (st (16 * s + j) = 5)) ∧
    ∀ (post : Int32 → SY → Prop) n, d < n → wpY_next (fun r => ∃ n49, wY_deletes_49 post (nI s) n49 0 r sc fc th ch ro lk st nw bf ve bk md yl' la od sm fr ct) (sc, fc, th, ch, ro, lk, st, nw, bf, ve, bk, md, yl', la, od, sm, fr, ct) (nI s) 0 → wY_deletes_4 post (nI s) 0 sc fc n (nI i) th ch ro lk st nw bf ve bk md yl la od sm fr ct := by
  intro d
  induction d with
  | zero =>
    intro i hi yl h
    refine ⟨yl, fun j hj => h j (by omega), fun post n hn hp => ?_⟩
    obtain ⟨n, rfl⟩ : ∃ n', n = n' + 1 := ⟨n - 1, by omega⟩
    simp (disch := omega) only [wY_deletes_4, nu_a16, forall_eq, true_implies, false_implies, implies_true, not_true_eq_false, not_false_eq_true, and_true, true_and, and_self, true_or, or_true, false_or, or_false, false_and, and_false, eq_self]
    exact hp
  | succ d ih =>
    intro i hi yl h
    obtain ⟨yl', h', hX⟩ := ih (i + 1) (by omega) (upd yl i (di_v (st (16 * s + i) = 5))) (fun j hj => by
      by_cases q : j = i
      · rw [q, pk_us]
      · rw [pk_un q]
        exact h j (by omega))
    refine ⟨yl', h', fun post n hn hp => ?_⟩
    obtain ⟨n, rfl⟩ : ∃ n', n = n' + 1 := ⟨n - 1, by omega⟩
    have hx := hX post n (by omega) hp
    by_cases z : st (16 * s + i) = 5
    · rw [di_t z] at hx
      simp (disch := omega) only [wY_deletes_4, nu_b16, z, nu_01, nu_40, nu_30, nu_20, nu_160, Int32.add_zero, Nat.reduceAdd, nu_m16, nu_16m, nu_m4, nu_4m, nu_m3, nu_3m, nu_m2, nu_2m, nI_1, nu_p2, nu_p3, nu_16p, nu_2p, nI_add, nu_cl, nu_in, Nat.add_zero, nu_l0, nu_l1, nu_l2, nu_l3, nu_l4, nu_i0_5, nu_i1_5, nu_i2_5, nu_i0_3, nu_i1_3, nu_i2_3, nu_n0, nu_n1, nu_na0, nu_na1, forall_eq, true_implies, false_implies, implies_true, not_true_eq_false, not_false_eq_true, and_true, true_and, and_self, true_or, or_true, false_or, or_false, false_and, and_false, eq_self]
      exact hx
    · rw [di_f z] at hx
      simp (disch := omega) only [wY_deletes_4, nu_b16, z, nu_01, nu_40, nu_30, nu_20, nu_160, Int32.add_zero, Nat.reduceAdd, nu_m16, nu_16m, nu_m4, nu_4m, nu_m3, nu_3m, nu_m2, nu_2m, nI_1, nu_p2, nu_p3, nu_16p, nu_2p, nI_add, nu_cl, nu_in, Nat.add_zero, nu_l0, nu_l1, nu_l2, nu_l3, nu_l4, nu_i0_5, nu_i1_5, nu_i2_5, nu_i0_3, nu_i1_3, nu_i2_3, nu_n0, nu_n1, nu_na0, nu_na1, forall_eq, true_implies, false_implies, implies_true, not_true_eq_false, not_false_eq_true, and_true, true_and, and_self, true_or, or_true, false_or, or_false, false_and, and_false, eq_self]
      exact hx
end
section
variable {md bk rt rc st en sn fr cr rr wc ro nw bf ve la od : Nat → Int32} {fc cc rq : Int32}
theorem dx_L {s a : Nat} (hs : s < 3) (ha : a ≤ 32) : ∀ (m i : Nat), i + m ≤ 16 → ∀ (n : Nat) (ct lk wt ch sk sr lf th yl sm : Nat → Int32), cn_n (fun k => ¬ lf k = 0) 16 = m → n + m ≤ a → (∀ j, j < 16 → lf j = yl j) → (∀ j, j < 16 → ¬ lf j = 0 → st (16 * s + j) = 5) → re_R md bk ch lk st rt rc wt wc en sn th ro nw bf ve → re_P n sk sr sm →
    ∀ x4, nx_S (fun k => ¬ yl k = 0) (li_P yl s sn) x4 →
    ∃ (r : Int32) (n' : Nat) (ct' lk' wt' ch' sk' sr' lf' th' yl' sm' : Nat → Int32), re_R md bk ch' lk' st rt rc wt' wc en sn th' ro nw bf ve ∧ re_P n' sk' sr' sm' ∧ n' ≤ a ∧
      (∀ (post : Int32 → SX → Prop) k, m < k → post r (nI n', fc, cc, rq, md, bk, ct', rt, rc, lk', wt', wc, ch', st, en, sn, sk', sr', fr, lf', cr, rr) → wX_deleteRemoved_8 post (nI s) k (nI i) (nI n) fc cc rq md bk ct rt rc lk wt wc ch st en sn sk sr fr lf cr rr) ∧
      (∀ (post : Int32 → SY → Prop) k, m < k → post r (nI n', fc, th', ch', ro, lk', st, nw, bf, ve, bk, md, yl', la, od, sm', fr, ct') → wY_deletes_49 post (nI s) k 0 x4 (nI n) fc th ch ro lk st nw bf ve bk md yl la od sm fr ct) := by
  intro m
  induction m with
  | zero =>
    intro i hi n ct lk wt ch sk sr lf th yl sm hm hna hl h5 R hP x4 hx4
    have nol := cn_0 hm
    have e4 : x4 = -1 := by
      rcases nx_k hx4 with q | ⟨k, hk, _, q, _⟩
      · exact q.1
      · exact absurd (by rw [hl k hk]; exact q) (nol k hk)
    subst e4
    refine ⟨0, n, ct, lk, wt, ch, sk, sr, lf, th, yl, sm, R, hP, by omega, fun post k hk hp => ?_, fun post k hk hp => ?_⟩
    · obtain ⟨k, rfl⟩ : ∃ k', k = k' + 1 := ⟨k - 1, by omega⟩
      by_cases i16 : i = 16
      · simp (disch := omega) only [wX_deleteRemoved_8, nu_a16, forall_eq, true_implies, false_implies, implies_true, not_true_eq_false, not_false_eq_true, and_true, true_and, and_self, true_or, or_true, false_or, or_false, false_and, and_false, eq_self]
        exact hp
      · obtain ⟨r1, h1, hX1⟩ := vx_ld (sc := nI n) (fc := fc) (cc := cc) (rq := rq) (md := md) (bk := bk) (ct := ct) (rt := rt) (rc := rc) (lk := lk) (wt := wt) (wc := wc) (ch := ch) (st := st) (en := en) (sn := sn) (sk := sk) (sr := sr) (fr := fr) (lf := lf) (cr := cr) (rr := rr) hs
        obtain ⟨r2, h2, hX2⟩ := vx_ll (sc := nI n) (fc := fc) (cc := cc) (rq := rq) (md := md) (bk := bk) (ct := ct) (rt := rt) (rc := rc) (lk := lk) (wt := wt) (wc := wc) (ch := ch) (st := st) (en := en) (sn := sn) (sk := sk) (sr := sr) (fr := fr) (lf := lf) (cr := cr) (rr := rr)
        have e1 : r1 = -1 := le_u h1 (le_n (fun k hk q => nol k hk q.1))
        have e2 : r2 = -1 := le_u h2 (le_n (fun k hk q => nol k hk q))
        simp (disch := omega) only [wX_deleteRemoved_8, nu_b16, forall_eq, true_implies, false_implies, implies_true, not_true_eq_false, not_false_eq_true, and_true, true_and, and_self, true_or, or_true, false_or, or_false, false_and, and_false, eq_self]
        refine hX1 _ ?_
        rw [e1]
        simp only [forall_eq, true_implies, false_implies, implies_true, not_true_eq_false, not_false_eq_true, and_true, true_and, and_self, true_or, or_true, false_or, or_false, false_and, and_false, eq_self]
        refine hX2 _ ?_
        rw [e2]
        simp only [wX_deleteRemoved_30, forall_eq, true_implies, false_implies, implies_true, not_true_eq_false, not_false_eq_true, and_true, true_and, and_self, true_or, or_true, false_or, or_false, false_and, and_false, eq_self]
        exact hp
    · obtain ⟨k, rfl⟩ : ∃ k', k = k' + 1 := ⟨k - 1, by omega⟩
      simp only [wY_deletes_49, nu_m1lt, forall_eq, true_implies, false_implies, implies_true, not_true_eq_false, not_false_eq_true, and_true, true_and, and_self, true_or, or_true, false_or, or_false, false_and, and_false, eq_self]
      exact hp
  | succ m ih =>
    intro i hi n ct lk wt ch sk sr lf th yl sm hm hna hl h5 R hP x4 hx4
    obtain ⟨r1, h1, hX1⟩ := vx_ld (sc := nI n) (fc := fc) (cc := cc) (rq := rq) (md := md) (bk := bk) (ct := ct) (rt := rt) (rc := rc) (lk := lk) (wt := wt) (wc := wc) (ch := ch) (st := st) (en := en) (sn := sn) (sk := sk) (sr := sr) (fr := fr) (lf := lf) (cr := cr) (rr := rr) hs
    obtain ⟨r2, h3, hX2⟩ := vx_ll (sc := nI n) (fc := fc) (cc := cc) (rq := rq) (md := md) (bk := bk) (ct := ct) (rt := rt) (rc := rc) (lk := lk) (wt := wt) (wc := wc) (ch := ch) (st := st) (en := en) (sn := sn) (sk := sk) (sr := sr) (fr := fr) (lf := lf) (cr := cr) (rr := rr)
    have hxX : nx_S (fun k => ¬ lf k = 0) (li_P lf s sn) x4 := nx_e (fun k hk => by rw [hl k hk]) (fun k hk _ => li_e hl) hx4
    have e4 : x4 = if r1 = -1 then r2 else r1 := by
      refine nx_u hxX ?_
      by_cases q : r1 = -1
      · rw [if_pos q]
        rw [q] at h1
        exact Or.inr ⟨h1, h3⟩
      · rw [if_neg q]
        exact Or.inl ⟨q, h1⟩
    obtain ⟨k, hk, ek, lk0⟩ : ∃ k, k < 16 ∧ x4 = nI k ∧ ¬ lf k = 0 := by
      rcases nx_k hxX with ⟨_, q⟩ | ⟨k, hk, e, l, w⟩
      · have := cn_z (P := fun k => ¬ lf k = 0) (N := 16) q
        omega
      · exact ⟨k, hk, e, l⟩
    have hX0 : ∀ (post : Int32 → SX → Prop) f, wX_deleteRemoved_30 post (wX_deleteRemoved_8 post (nI s) f) (nI s) (nI i) (nI k) (nI n) fc cc rq md bk ct rt rc lk wt wc ch st en sn sk sr fr lf cr rr → wX_deleteRemoved_8 post (nI s) (f + 1) (nI i) (nI n) fc cc rq md bk ct rt rc lk wt wc ch st en sn sk sr fr lf cr rr := by
      intro post f hp
      simp (disch := omega) only [wX_deleteRemoved_8, nu_b16, forall_eq, true_implies, false_implies, implies_true, not_true_eq_false, not_false_eq_true, and_true, true_and, and_self, true_or, or_true, false_or, or_false, false_and, and_false, eq_self]
      refine hX1 _ ?_
      by_cases q : r1 = -1
      · rw [if_pos q, ek] at e4
        simp only [q, forall_eq, true_implies, false_implies, implies_true, not_true_eq_false, not_false_eq_true, and_true, true_and, and_self, true_or, or_true, false_or, or_false, false_and, and_false, eq_self]
        refine hX2 _ ?_
        rw [← e4]
        exact hp
      · rw [if_neg q, ek] at e4
        simp only [q, forall_eq, true_implies, false_implies, implies_true, not_true_eq_false, not_false_eq_true, and_true, true_and, and_self, true_or, or_true, false_or, or_false, false_and, and_false, eq_self]
        rw [← e4]
        exact hp
    subst ek
    have h5k := h5 k hk lk0
    have v := re_rV R (16 * s + k) (by omega) (Or.inr h5k)
    have hout := lf_out hk lk0 hm
    have hl' : ∀ j, j < 16 → upd lf k 0 j = upd yl k 0 j := by
      intro j hj
      by_cases q : j = k
      · rw [q, pk_us, pk_us]
      · rw [pk_un q, pk_un q]
        exact hl j hj
    have h5' : ∀ j, j < 16 → ¬ upd lf k 0 j = 0 → st (16 * s + j) = 5 := by
      intro j hj z
      by_cases q : j = k
      · rw [q]
        exact h5k
      · rw [pk_un q] at z
        exact h5 j hj z
    have hT := re_rT R
    have hB := re_rth R
    have hC := re_rC R
    by_cases r0 : vr_v lk rt wt rc wc s k (ve (16 * s + k)) = 0
    · obtain ⟨x5, hx5, hNX⟩ := vy_nx (sc := nI (n + 1)) (fc := fc) (md := md) (bk := bk) (ct := upd ct (2 + 2) (ct (2 + 2) + 1)) (lk := upd lk k (nI s)) (ch := upd ch k 0) (st := st) (fr := fr) (th := upd th (16 + k) 0) (ro := ro) (nw := nw) (bf := bf) (ve := ve) (yl := upd yl k 0) (la := la) (od := od) (sm := upd (upd sm (2 * n) (nI 2)) (2 * n + 1) (nI k)) (s := s) (o := 0) (H := li_P (upd yl k 0) s sn) hs (fun j hj z post hp => vy_h0 hs hj (re_rS R) hp)
      obtain ⟨r', n', ct2, lk2, wt2, ch2, sk2, sr2, lf2, th2, yl2, sm2, R2, P2, hn', hX', hY'⟩ := ih (i + 1) (by omega) (n + 1) (upd ct (2 + 2) (ct (2 + 2) + 1)) (upd lk k (nI s)) (upd wt k 0) (upd ch k 0) (upd sk n (nI 2)) (upd sr n (nI k)) (upd lf k 0) (upd th (16 + k) 0) (upd yl k 0) (upd (upd sm (2 * n) (nI 2)) (2 * n + 1) (nI k)) (by omega) (by omega) hl' h5' (dl_R R hs) (re_Pu hP) x5 hx5
      refine ⟨r', n', ct2, lk2, wt2, ch2, sk2, sr2, lf2, th2, yl2, sm2, R2, P2, hn', fun post f hf hp => ?_, fun post f hf hp => ?_⟩
      · obtain ⟨f, rfl⟩ : ∃ f', f = f' + 1 := ⟨f - 1, by omega⟩
        refine hX0 post f ?_
        simp (disch := omega) only [wX_deleteRemoved_30, nu_nem, nu_01, nu_40, nu_30, nu_20, nu_160, Int32.add_zero, Nat.reduceAdd, nu_m16, nu_16m, nu_m4, nu_4m, nu_m3, nu_3m, nu_m2, nu_2m, nI_1, nu_p2, nu_p3, nu_16p, nu_2p, nI_add, nu_cl, nu_in, Nat.add_zero, nu_l0, nu_l1, nu_l2, nu_l3, nu_l4, nu_i0_5, nu_i1_5, nu_i2_5, nu_i0_3, nu_i1_3, nu_i2_3, nu_n0, nu_n1, nu_na0, nu_na1, forall_eq, true_implies, false_implies, implies_true, not_true_eq_false, not_false_eq_true, and_true, true_and, and_self, true_or, or_true, false_or, or_false, false_and, and_false, eq_self]
        refine vx_dl hs hk (show n < 32 by omega) hT hB (fun _ => ?_) (fun q => absurd (by rw [v]; exact r0) q)
        simp (disch := omega) only [nu_01, nu_40, nu_30, nu_20, nu_160, Int32.add_zero, Nat.reduceAdd, nu_m16, nu_16m, nu_m4, nu_4m, nu_m3, nu_3m, nu_m2, nu_2m, nI_1, nu_p2, nu_p3, nu_16p, nu_2p, nI_add, nu_cl, nu_in, Nat.add_zero, nu_l0, nu_l1, nu_l2, nu_l3, nu_l4, nu_i0_5, nu_i1_5, nu_i2_5, nu_i0_3, nu_i1_3, nu_i2_3, nu_n0, nu_n1, nu_na0, nu_na1, forall_eq, true_implies, false_implies, implies_true, not_true_eq_false, not_false_eq_true, and_true, true_and, and_self, true_or, or_true, false_or, or_false, false_and, and_false, eq_self]
        exact hX' post f (by omega) hp
      · obtain ⟨f, rfl⟩ : ∃ f', f = f' + 1 := ⟨f - 1, by omega⟩
        simp (disch := omega) only [wY_deletes_49, nu_neg, nu_01, nu_40, nu_30, nu_20, nu_160, Int32.add_zero, Nat.reduceAdd, nu_m16, nu_16m, nu_m4, nu_4m, nu_m3, nu_3m, nu_m2, nu_2m, nI_1, nu_p2, nu_p3, nu_16p, nu_2p, nI_add, nu_cl, nu_in, Nat.add_zero, nu_l0, nu_l1, nu_l2, nu_l3, nu_l4, nu_i0_5, nu_i1_5, nu_i2_5, nu_i0_3, nu_i1_3, nu_i2_3, nu_n0, nu_n1, nu_na0, nu_na1, forall_eq, true_implies, false_implies, implies_true, not_true_eq_false, not_false_eq_true, and_true, true_and, and_self, true_or, or_true, false_or, or_false, false_and, and_false, eq_self]
        refine vy_b1 hk hT hC (re_rQ R) (fun _ => ?_) (fun q => absurd r0 q)
        simp (disch := omega) only [nu_01, nu_40, nu_30, nu_20, nu_160, Int32.add_zero, Nat.reduceAdd, nu_m16, nu_16m, nu_m4, nu_4m, nu_m3, nu_3m, nu_m2, nu_2m, nI_1, nu_p2, nu_p3, nu_16p, nu_2p, nI_add, nu_cl, nu_in, Nat.add_zero, nu_l0, nu_l1, nu_l2, nu_l3, nu_l4, nu_i0_5, nu_i1_5, nu_i2_5, nu_i0_3, nu_i1_3, nu_i2_3, nu_n0, nu_n1, nu_na0, nu_na1, forall_eq, true_implies, false_implies, implies_true, not_true_eq_false, not_false_eq_true, and_true, true_and, and_self, true_or, or_true, false_or, or_false, false_and, and_false, eq_self]
        refine vy_nt (q := 2) (show n < 32 by omega) (by decide) ?_
        refine hNX _ ?_
        exact hY' post f (by omega) hp
    · refine ⟨vr_v lk rt wt rc wc s k (ve (16 * s + k)), n, ct, lk, wt, ch, sk, sr, upd lf k 0, th, upd yl k 0, sm, R, hP, by omega, fun post f hf hp => ?_, fun post f hf hp => ?_⟩
      · obtain ⟨f, rfl⟩ : ∃ f', f = f' + 1 := ⟨f - 1, by omega⟩
        refine hX0 post f ?_
        simp (disch := omega) only [wX_deleteRemoved_30, nu_nem, nu_01, nu_40, nu_30, nu_20, nu_160, Int32.add_zero, Nat.reduceAdd, nu_m16, nu_16m, nu_m4, nu_4m, nu_m3, nu_3m, nu_m2, nu_2m, nI_1, nu_p2, nu_p3, nu_16p, nu_2p, nI_add, nu_cl, nu_in, Nat.add_zero, nu_l0, nu_l1, nu_l2, nu_l3, nu_l4, nu_i0_5, nu_i1_5, nu_i2_5, nu_i0_3, nu_i1_3, nu_i2_3, nu_n0, nu_n1, nu_na0, nu_na1, forall_eq, true_implies, false_implies, implies_true, not_true_eq_false, not_false_eq_true, and_true, true_and, and_self, true_or, or_true, false_or, or_false, false_and, and_false, eq_self]
        refine vx_dl hs hk (show n < 32 by omega) hT hB (fun q => absurd (by rw [← v]; exact q) r0) (fun _ => ?_)
        rw [v]
        simp (disch := omega) only [r0, nu_01, nu_40, nu_30, nu_20, nu_160, Int32.add_zero, Nat.reduceAdd, nu_m16, nu_16m, nu_m4, nu_4m, nu_m3, nu_3m, nu_m2, nu_2m, nI_1, nu_p2, nu_p3, nu_16p, nu_2p, nI_add, nu_cl, nu_in, Nat.add_zero, nu_l0, nu_l1, nu_l2, nu_l3, nu_l4, nu_i0_5, nu_i1_5, nu_i2_5, nu_i0_3, nu_i1_3, nu_i2_3, nu_n0, nu_n1, nu_na0, nu_na1, forall_eq, true_implies, false_implies, implies_true, not_true_eq_false, not_false_eq_true, and_true, true_and, and_self, true_or, or_true, false_or, or_false, false_and, and_false, eq_self]
        exact hp
      · obtain ⟨f, rfl⟩ : ∃ f', f = f' + 1 := ⟨f - 1, by omega⟩
        simp (disch := omega) only [wY_deletes_49, nu_neg, nu_01, nu_40, nu_30, nu_20, nu_160, Int32.add_zero, Nat.reduceAdd, nu_m16, nu_16m, nu_m4, nu_4m, nu_m3, nu_3m, nu_m2, nu_2m, nI_1, nu_p2, nu_p3, nu_16p, nu_2p, nI_add, nu_cl, nu_in, Nat.add_zero, nu_l0, nu_l1, nu_l2, nu_l3, nu_l4, nu_i0_5, nu_i1_5, nu_i2_5, nu_i0_3, nu_i1_3, nu_i2_3, nu_n0, nu_n1, nu_na0, nu_na1, forall_eq, true_implies, false_implies, implies_true, not_true_eq_false, not_false_eq_true, and_true, true_and, and_self, true_or, or_true, false_or, or_false, false_and, and_false, eq_self]
        refine vy_b1 hk hT hC (re_rQ R) (fun q => absurd q r0) (fun _ => ?_)
        simp (disch := omega) only [r0, nu_01, nu_40, nu_30, nu_20, nu_160, Int32.add_zero, Nat.reduceAdd, nu_m16, nu_16m, nu_m4, nu_4m, nu_m3, nu_3m, nu_m2, nu_2m, nI_1, nu_p2, nu_p3, nu_16p, nu_2p, nI_add, nu_cl, nu_in, Nat.add_zero, nu_l0, nu_l1, nu_l2, nu_l3, nu_l4, nu_i0_5, nu_i1_5, nu_i2_5, nu_i0_3, nu_i1_3, nu_i2_3, nu_n0, nu_n1, nu_na0, nu_na1, forall_eq, true_implies, false_implies, implies_true, not_true_eq_false, not_false_eq_true, and_true, true_and, and_self, true_or, or_true, false_or, or_false, false_and, and_false, eq_self]
        exact hp
end
section
variable {md bk rt rc lk wt wc ch st en sn th ro nw bf ve : Nat → Int32}
variable (fc cc rq : Int32) (ct sk sr fr lf cr rr yl la od sm : Nat → Int32)
theorem de_A {s n : Nat} (hs : s < 3) (hn : n + cn_n (fun j => st (16 * s + j) = 5) 16 ≤ 32) (R : re_R md bk ch lk st rt rc wt wc en sn th ro nw bf ve) (hP : re_P n sk sr sm) :
    ∃ (r : Int32) (n' : Nat) (ct' lk' wt' ch' sk' sr' lf' th' yl' sm' : Nat → Int32), re_R md bk ch' lk' st rt rc wt' wc en sn th' ro nw bf ve ∧ re_P n' sk' sr' sm' ∧ n' ≤ 32 ∧
      (∀ post : Int32 → SX → Prop, post r (nI n', fc, cc, rq, md, bk, ct', rt, rc, lk', wt', wc, ch', st, en, sn, sk', sr', fr, lf', cr, rr) → wpX_deleteRemoved post (nI n, fc, cc, rq, md, bk, ct, rt, rc, lk, wt, wc, ch, st, en, sn, sk, sr, fr, lf, cr, rr) (nI s)) ∧
      (∀ post : Int32 → SY → Prop, post r (nI n', fc, th', ch', ro, lk', st, nw, bf, ve, bk, md, yl', la, od, sm', fr, ct') → wpY_deletes post (nI n, fc, th, ch, ro, lk, st, nw, bf, ve, bk, md, yl, la, od, sm, fr, ct) (nI s)) := by
  obtain ⟨lf1, hlf, hX0⟩ := vx_mk (sc := nI n) (fc := fc) (cc := cc) (rq := rq) (md := md) (bk := bk) (ct := ct) (rt := rt) (rc := rc) (lk := lk) (wt := wt) (wc := wc) (ch := ch) (st := st) (en := en) (sn := sn) (sk := sk) (sr := sr) (fr := fr) (cr := cr) (rr := rr) (x := 5) hs 16 0 rfl lf (fun j hj => by omega)
  obtain ⟨yl1, hyl, hY0⟩ := vy_m4 (sc := nI n) (fc := fc) (md := md) (bk := bk) (ct := ct) (lk := lk) (ch := ch) (st := st) (fr := fr) (th := th) (ro := ro) (nw := nw) (bf := bf) (ve := ve) (la := la) (od := od) (sm := sm) hs 16 0 rfl yl (fun j hj => by omega)
  have hl : ∀ j, j < 16 → lf1 j = yl1 j := fun j hj => by rw [hlf j hj, hyl j hj]
  have h5 : ∀ j, j < 16 → (¬ lf1 j = 0 ↔ st (16 * s + j) = 5) := by
    intro j hj
    rw [hlf j hj, di_z]
    exact ⟨fun z => Classical.byContradiction z, fun z y => y z⟩
  have hcn : cn_n (fun k => ¬ lf1 k = 0) 16 = cn_n (fun j => st (16 * s + j) = 5) 16 := cn_eq h5
  have ha := cn_le (fun j => st (16 * s + j) = 5) 16
  obtain ⟨x4, hx4, hNX⟩ := vy_nx (sc := nI n) (fc := fc) (md := md) (bk := bk) (ct := ct) (lk := lk) (ch := ch) (st := st) (fr := fr) (th := th) (ro := ro) (nw := nw) (bf := bf) (ve := ve) (yl := yl1) (la := la) (od := od) (sm := sm) (s := s) (o := 0) (H := li_P yl1 s sn) hs (fun j hj z post hp => vy_h0 hs hj (re_rS R) hp)
  obtain ⟨r, n1, ct1, lk1, wt1, ch1, sk1, sr1, lf2, th1, yl2, sm1, R1, P1, hn1, gX, gY⟩ := dx_L (fr := fr) (cr := cr) (rr := rr) (la := la) (od := od) (fc := fc) (cc := cc) (rq := rq) (a := 32) hs (Nat.le_refl _) (cn_n (fun j => st (16 * s + j) = 5) 16) 0 (by omega) n ct lk wt ch sk sr lf1 th yl1 sm hcn hn hl (fun j hj z => (h5 j hj).mp z) R hP x4 hx4
  refine ⟨r, n1, ct1, lk1, wt1, ch1, sk1, sr1, lf2, th1, yl2, sm1, R1, P1, hn1, fun post hp => ?_, fun post hp => ?_⟩
  · simp only [wpX_deleteRemoved, wpX_markLeft]
    refine ⟨17, hX0 _ 17 (by decide) ?_⟩
    exact ⟨17, gX post 17 (by omega) hp⟩
  · simp only [wpY_deletes]
    refine ⟨17, hY0 post 17 (by decide) (hNX _ ?_)⟩
    exact ⟨17, gY post 17 (by omega) hp⟩
end
/-- a LINK that leads to no row in the SIGHT -/
def fo_P (rt wt rc wc lk : Nat → Int32) (s : Nat) (k : Nat) : Prop := ¬ si_t rt wt lk s k = 0 ∧ ∃ l, l < 16 ∧ si_c rc wc lk s k 2 = nI l ∧ si_t rt wt lk s l = 0
section
variable {sc fc cc rq : Int32} {md bk ct rt rc lk wt wc ch st en sn sk sr fr lf cr rr th ro nw bf ve yl la od sm : Nat → Int32}
theorem vx_le {post : Int32 → Prop} {s : Nat} (hs : s < 3) (hT : re_T rt wt th) (hB : re_B th) (hC : re_C rc wc ro) (hO : re_O ro) (hp : post (rm_i (∃ k, k < 16 ∧ fo_P rt wt rc wc lk s k) (-8) 0)) : wpX_linkError post (sc, fc, cc, rq, md, bk, ct, rt, rc, lk, wt, wc, ch, st, en, sn, sk, sr, fr, lf, cr, rr) (nI s) := by
  have key : ∀ d i : Nat, i + d = 16 → (∀ j, j < i → ¬ fo_P rt wt rc wc lk s j) → ∀ n, d < n → wX_linkError_2 post (nI s) sc fc cc rq md bk ct rt rc lk wt wc ch st en sn sk sr fr lf cr rr n (nI i) := by
    intro d
    induction d with
    | zero =>
      intro i hi h n hn
      rw [rm_f (fun ⟨j, hj, q⟩ => h j (by omega) q)] at hp
      obtain ⟨n, rfl⟩ : ∃ n', n = n' + 1 := ⟨n - 1, by omega⟩
      simp (disch := omega) only [wX_linkError_2, nu_a16, forall_eq, true_implies, false_implies, implies_true, not_true_eq_false, not_false_eq_true, and_true, true_and, and_self, true_or, or_true, false_or, or_false, false_and, and_false, eq_self]
      exact hp
    | succ d ih =>
      intro i hi h n hn
      have hi' : i < 16 := by omega
      obtain ⟨n, rfl⟩ : ∃ n', n = n' + 1 := ⟨n - 1, by omega⟩
      by_cases z : fo_P rt wt rc wc lk s i
      · rw [rm_t ⟨i, hi', z⟩] at hp
        obtain ⟨z1, l, hl, z2, z3⟩ := z
        simp (disch := omega) only [wX_linkError_2, nu_b16, vx_see hi' hT hB, vx_sc2 hi', vx_see hl hT hB, nu_neg, z1, z2, z3, forall_eq, true_implies, false_implies, implies_true, not_true_eq_false, not_false_eq_true, and_true, true_and, and_self, true_or, or_true, false_or, or_false, false_and, and_false, eq_self]
        exact hp
      · have hx := ih (i + 1) (by omega) (fun j hj => by
          by_cases q : j = i
          · rw [q]
            exact z
          · exact h j (by omega)) n (by omega)
        by_cases z1 : si_t rt wt lk s i = 0
        · simp (disch := omega) only [wX_linkError_2, nu_b16, vx_see hi' hT hB, z1, nu_01, nu_40, nu_30, nu_20, nu_160, Int32.add_zero, Nat.reduceAdd, nu_m16, nu_16m, nu_m4, nu_4m, nu_m3, nu_3m, nu_m2, nu_2m, nI_1, nu_p2, nu_p3, nu_16p, nu_2p, nI_add, nu_cl, nu_in, Nat.add_zero, nu_l0, nu_l1, nu_l2, nu_l3, nu_l4, nu_i0_5, nu_i1_5, nu_i2_5, nu_i0_3, nu_i1_3, nu_i2_3, nu_n0, nu_n1, nu_na0, nu_na1, forall_eq, true_implies, false_implies, implies_true, not_true_eq_false, not_false_eq_true, and_true, true_and, and_self, true_or, or_true, false_or, or_false, false_and, and_false, eq_self]
          exact hx
        · rcases si_L (lk := lk) (s := s) hC hO hi' with g | ⟨l, hl, g⟩
          · simp (disch := omega) only [wX_linkError_2, nu_b16, vx_see hi' hT hB, vx_sc2 hi', nu_m1lt, z1, g, nu_01, nu_40, nu_30, nu_20, nu_160, Int32.add_zero, Nat.reduceAdd, nu_m16, nu_16m, nu_m4, nu_4m, nu_m3, nu_3m, nu_m2, nu_2m, nI_1, nu_p2, nu_p3, nu_16p, nu_2p, nI_add, nu_cl, nu_in, Nat.add_zero, nu_l0, nu_l1, nu_l2, nu_l3, nu_l4, nu_i0_5, nu_i1_5, nu_i2_5, nu_i0_3, nu_i1_3, nu_i2_3, nu_n0, nu_n1, nu_na0, nu_na1, forall_eq, true_implies, false_implies, implies_true, not_true_eq_false, not_false_eq_true, and_true, true_and, and_self, true_or, or_true, false_or, or_false, false_and, and_false, eq_self]
            exact hx
          · have z3 : ¬ si_t rt wt lk s l = 0 := fun q => z ⟨z1, l, hl, g, q⟩
            simp (disch := omega) only [wX_linkError_2, nu_b16, vx_see hi' hT hB, vx_sc2 hi', vx_see hl hT hB, nu_neg, z1, g, z3, nu_01, nu_40, nu_30, nu_20, nu_160, Int32.add_zero, Nat.reduceAdd, nu_m16, nu_16m, nu_m4, nu_4m, nu_m3, nu_3m, nu_m2, nu_2m, nI_1, nu_p2, nu_p3, nu_16p, nu_2p, nI_add, nu_cl, nu_in, Nat.add_zero, nu_l0, nu_l1, nu_l2, nu_l3, nu_l4, nu_i0_5, nu_i1_5, nu_i2_5, nu_i0_3, nu_i1_3, nu_i2_3, nu_n0, nu_n1, nu_na0, nu_na1, forall_eq, true_implies, false_implies, implies_true, not_true_eq_false, not_false_eq_true, and_true, true_and, and_self, true_or, or_true, false_or, or_false, false_and, and_false, eq_self]
            exact hx
  simp only [wpX_linkError]
  exact ⟨17, key 16 0 rfl (fun j hj => by omega) 17 (by decide)⟩
theorem vy_fo {post : Int32 → Prop} {s : Nat} (hs : s < 3) (hT : re_T rt wt th) (hC : re_C rc wc ro) (hO : re_O ro) (hp : post (di_v (∃ k, k < 16 ∧ fo_P rt wt rc wc lk s k))) : wpY_isForeign post (sc, fc, th, ch, ro, lk, st, nw, bf, ve, bk, md, yl, la, od, sm, fr, ct) (nI s) := by
  have key : ∀ d i : Nat, i + d = 16 → (∀ j, j < i → ¬ fo_P rt wt rc wc lk s j) → ∀ n, d < n → wY_isForeign_2 post (nI s) sc fc th ch ro lk st nw bf ve bk md yl la od sm fr ct n (nI i) := by
    intro d
    induction d with
    | zero =>
      intro i hi h n hn
      rw [di_f (fun ⟨j, hj, q⟩ => h j (by omega) q)] at hp
      obtain ⟨n, rfl⟩ : ∃ n', n = n' + 1 := ⟨n - 1, by omega⟩
      simp (disch := omega) only [wY_isForeign_2, nu_a16, forall_eq, true_implies, false_implies, implies_true, not_true_eq_false, not_false_eq_true, and_true, true_and, and_self, true_or, or_true, false_or, or_false, false_and, and_false, eq_self]
      exact hp
    | succ d ih =>
      intro i hi h n hn
      have hi' : i < 16 := by omega
      have hf := si_lt lk (s := s) hi'
      have ht := si_ft (lk := lk) (s := s) hT hi'
      have hc := si_fc (lk := lk) (s := s) (c := 2) hC hi' (by decide)
      obtain ⟨n, rfl⟩ : ∃ n', n = n' + 1 := ⟨n - 1, by omega⟩
      rcases si_L (lk := lk) (s := s) hC hO hi' with g | ⟨l, hl, g⟩
      · have z : ¬ fo_P rt wt rc wc lk s i := fun ⟨_, l, hl, q, _⟩ => by
          rw [g, nu_men (by omega)] at q
          exact q
        have hx := ih (i + 1) (by omega) (fun j hj => by
          by_cases q : j = i
          · rw [q]
            exact z
          · exact h j (by omega)) n (by omega)
        rw [g] at hc
        by_cases z1 : si_t rt wt lk s i = 0
        · rw [z1] at ht
          simp (disch := omega) only [wY_isForeign_2, wY_isForeign_43, nu_b16, vy_see hi', hc, ht, nu_m1ge, nu_01, nu_40, nu_30, nu_20, nu_160, Int32.add_zero, Nat.reduceAdd, nu_m16, nu_16m, nu_m4, nu_4m, nu_m3, nu_3m, nu_m2, nu_2m, nI_1, nu_p2, nu_p3, nu_16p, nu_2p, nI_add, nu_cl, nu_in, Nat.add_zero, nu_l0, nu_l1, nu_l2, nu_l3, nu_l4, nu_i0_5, nu_i1_5, nu_i2_5, nu_i0_3, nu_i1_3, nu_i2_3, nu_n0, nu_n1, nu_na0, nu_na1, forall_eq, true_implies, false_implies, implies_true, not_true_eq_false, not_false_eq_true, and_true, true_and, and_self, true_or, or_true, false_or, or_false, false_and, and_false, eq_self]
          exact hx
        · have ht' : ¬ th (si_f lk s i) = 0 := by
            rw [ht]
            exact z1
          simp (disch := omega) only [wY_isForeign_2, wY_isForeign_43, nu_b16, vy_see hi', hc, ht', nu_m1ge, nu_m1lt, nu_01, nu_40, nu_30, nu_20, nu_160, Int32.add_zero, Nat.reduceAdd, nu_m16, nu_16m, nu_m4, nu_4m, nu_m3, nu_3m, nu_m2, nu_2m, nI_1, nu_p2, nu_p3, nu_16p, nu_2p, nI_add, nu_cl, nu_in, Nat.add_zero, nu_l0, nu_l1, nu_l2, nu_l3, nu_l4, nu_i0_5, nu_i1_5, nu_i2_5, nu_i0_3, nu_i1_3, nu_i2_3, nu_n0, nu_n1, nu_na0, nu_na1, forall_eq, true_implies, false_implies, implies_true, not_true_eq_false, not_false_eq_true, and_true, true_and, and_self, true_or, or_true, false_or, or_false, false_and, and_false, eq_self]
          exact hx
      · rw [g] at hc
        have hf2 := si_lt lk (s := s) hl
        have ht2 := si_ft (lk := lk) (s := s) hT hl
        by_cases z1 : si_t rt wt lk s i = 0
        · have z : ¬ fo_P rt wt rc wc lk s i := fun q => q.1 z1
          have hx := ih (i + 1) (by omega) (fun j hj => by
            by_cases q : j = i
            · rw [q]
              exact z
            · exact h j (by omega)) n (by omega)
          rw [z1] at ht
          simp (disch := omega) only [wY_isForeign_2, wY_isForeign_43, nu_b16, vy_see hi', vy_see hl, hc, ht, nu_pos, nu_01, nu_40, nu_30, nu_20, nu_160, Int32.add_zero, Nat.reduceAdd, nu_m16, nu_16m, nu_m4, nu_4m, nu_m3, nu_3m, nu_m2, nu_2m, nI_1, nu_p2, nu_p3, nu_16p, nu_2p, nI_add, nu_cl, nu_in, Nat.add_zero, nu_l0, nu_l1, nu_l2, nu_l3, nu_l4, nu_i0_5, nu_i1_5, nu_i2_5, nu_i0_3, nu_i1_3, nu_i2_3, nu_n0, nu_n1, nu_na0, nu_na1, forall_eq, true_implies, false_implies, implies_true, not_true_eq_false, not_false_eq_true, and_true, true_and, and_self, true_or, or_true, false_or, or_false, false_and, and_false, eq_self]
          exact hx
        · have ht' : ¬ th (si_f lk s i) = 0 := by
            rw [ht]
            exact z1
          by_cases z3 : si_t rt wt lk s l = 0
          · rw [di_t ⟨i, hi', z1, l, hl, g, z3⟩] at hp
            rw [z3] at ht2
            simp (disch := omega) only [wY_isForeign_2, wY_isForeign_43, nu_b16, vy_see hi', vy_see hl, hc, ht', ht2, nu_pos, nu_neg, nu_01, nu_40, nu_30, nu_20, nu_160, Int32.add_zero, Nat.reduceAdd, nu_m16, nu_16m, nu_m4, nu_4m, nu_m3, nu_3m, nu_m2, nu_2m, nI_1, nu_p2, nu_p3, nu_16p, nu_2p, nI_add, nu_cl, nu_in, Nat.add_zero, nu_l0, nu_l1, nu_l2, nu_l3, nu_l4, nu_i0_5, nu_i1_5, nu_i2_5, nu_i0_3, nu_i1_3, nu_i2_3, nu_n0, nu_n1, nu_na0, nu_na1, forall_eq, true_implies, false_implies, implies_true, not_true_eq_false, not_false_eq_true, and_true, true_and, and_self, true_or, or_true, false_or, or_false, false_and, and_false, eq_self]
            exact hp
          · have z : ¬ fo_P rt wt rc wc lk s i := fun ⟨_, l', hl', q, q'⟩ => by
              have e : l = l' := (nI_eq (by omega) (by omega)).mp (g.symm.trans q)
              rw [← e] at q'
              exact z3 q'
            have hx := ih (i + 1) (by omega) (fun j hj => by
              by_cases q : j = i
              · rw [q]
                exact z
              · exact h j (by omega)) n (by omega)
            have ht2' : ¬ th (si_f lk s l) = 0 := by
              rw [ht2]
              exact z3
            simp (disch := omega) only [wY_isForeign_2, wY_isForeign_43, nu_b16, vy_see hi', vy_see hl, hc, ht', ht2', nu_pos, nu_neg, nu_01, nu_40, nu_30, nu_20, nu_160, Int32.add_zero, Nat.reduceAdd, nu_m16, nu_16m, nu_m4, nu_4m, nu_m3, nu_3m, nu_m2, nu_2m, nI_1, nu_p2, nu_p3, nu_16p, nu_2p, nI_add, nu_cl, nu_in, Nat.add_zero, nu_l0, nu_l1, nu_l2, nu_l3, nu_l4, nu_i0_5, nu_i1_5, nu_i2_5, nu_i0_3, nu_i1_3, nu_i2_3, nu_n0, nu_n1, nu_na0, nu_na1, forall_eq, true_implies, false_implies, implies_true, not_true_eq_false, not_false_eq_true, and_true, true_and, and_self, true_or, or_true, false_or, or_false, false_and, and_false, eq_self]
            exact hx
  simp only [wpY_isForeign]
  exact ⟨17, key 16 0 rfl (fun j hj => by omega) 17 (by decide)⟩
end
