theorem di_e {P Q : Prop} (h : P ↔ Q) : di_v P = di_v Q := by rw [propext h]
section
variable {sc fc cc rq : Int32} {md bk ct rt rc lk wt wc ch st en sn sk sr fr cr rr th ro nw bf ve od sm : Nat → Int32}
theorem vx_mk {s : Nat} {x : Int32} (hs : s < 3) : ∀ d i : Nat, i + d = 16 → ∀ lf : Nat → Int32, (∀ j, j < i → lf j = di_v (st (16 * s + j) = x)) → ∃ lf', (∀ j, j < 16 → lf' j = di_v (st (16 * s + j) = x)) ∧
    ∀ (post : SX → Prop) n, d < n → post (sc, fc, cc, rq, md, bk, ct, rt, rc, lk, wt, wc, ch, st, en, sn, sk, sr, fr, lf', cr, rr) → wX_markLeft_2 post (nI s) x sc fc cc rq n (nI i) md bk ct rt rc lk wt wc ch st en sn sk sr fr lf cr rr := by
  intro d
  induction d with
  | zero =>
    intro i hi lf h
    refine ⟨lf, fun j hj => h j (by omega), fun post n hn hp => ?_⟩
    obtain ⟨n, rfl⟩ : ∃ n', n = n' + 1 := ⟨n - 1, by omega⟩
    simp (disch := omega) only [wX_markLeft_2, nu_a16, forall_eq, true_implies, false_implies, implies_true, not_true_eq_false, not_false_eq_true, and_true, true_and, and_self, true_or, or_true, false_or, or_false, false_and, and_false, eq_self]
    exact hp
  | succ d ih =>
    intro i hi lf h
    obtain ⟨lf', h', hX⟩ := ih (i + 1) (by omega) (upd lf i (di_v (st (16 * s + i) = x))) (fun j hj => by
      by_cases q : j = i
      · rw [q, pk_us]
      · rw [pk_un q]
        exact h j (by omega))
    refine ⟨lf', h', fun post n hn hp => ?_⟩
    obtain ⟨n, rfl⟩ : ∃ n', n = n' + 1 := ⟨n - 1, by omega⟩
    have hx := hX post n (by omega) hp
    by_cases z : st (16 * s + i) = x
    · rw [di_t z] at hx
      simp (disch := omega) only [wX_markLeft_2, nu_b16, z, nu_01, nu_40, nu_30, nu_20, nu_160, Int32.add_zero, Nat.reduceAdd, nu_m16, nu_16m, nu_m4, nu_4m, nu_m3, nu_3m, nu_m2, nu_2m, nI_1, nu_p2, nu_p3, nu_16p, nu_2p, nI_add, nu_cl, nu_in, Nat.add_zero, nu_l0, nu_l1, nu_l2, nu_l3, nu_l4, nu_i0_5, nu_i1_5, nu_i2_5, nu_i0_3, nu_i1_3, nu_i2_3, nu_n0, nu_n1, nu_na0, nu_na1, forall_eq, true_implies, false_implies, implies_true, not_true_eq_false, not_false_eq_true, and_true, true_and, and_self, true_or, or_true, false_or, or_false, false_and, and_false, eq_self]
      exact hx
    · rw [di_f z] at hx
      simp (disch := omega) only [wX_markLeft_2, nu_b16, z, nu_01, nu_40, nu_30, nu_20, nu_160, Int32.add_zero, Nat.reduceAdd, nu_m16, nu_16m, nu_m4, nu_4m, nu_m3, nu_3m, nu_m2, nu_2m, nI_1, nu_p2, nu_p3, nu_16p, nu_2p, nI_add, nu_cl, nu_in, Nat.add_zero, nu_l0, nu_l1, nu_l2, nu_l3, nu_l4, nu_i0_5, nu_i1_5, nu_i2_5, nu_i0_3, nu_i1_3, nu_i2_3, nu_n0, nu_n1, nu_na0, nu_na1, forall_eq, true_implies, false_implies, implies_true, not_true_eq_false, not_false_eq_true, and_true, true_and, and_self, true_or, or_true, false_or, or_false, false_and, and_false, eq_self]
      exact hx
theorem vy_m7 {s : Nat} (hs : s < 3) (hN : re_N st en nw) (hS : re_S sn bf) : ∀ d i : Nat, i + d = 16 → ∀ yl la : Nat → Int32, (∀ j, j < i → yl j = di_v (st (16 * s + j) = 2) ∧ la j = di_v (di_P st en sn (16 * s + j))) →
    ∃ yl' la', (∀ j, j < 16 → yl' j = di_v (st (16 * s + j) = 2) ∧ la' j = di_v (di_P st en sn (16 * s + j))) ∧
    ∀ (post : Int32 → SY → Prop) n, d < n → wpY_next (fun r => ∃ n74, wY_inserts_74 post (nI s) n74 0 0 r sc fc th ch ro lk st nw bf ve bk md yl' la' od sm fr ct) (sc, fc, th, ch, ro, lk, st, nw, bf, ve, bk, md, yl', la', od, sm, fr, ct) (nI s) 1 → wY_inserts_7 post (nI s) 0 0 sc fc n (nI i) th ch ro lk st nw bf ve bk md yl la od sm fr ct := by
  intro d
  induction d with
  | zero =>
    intro i hi yl la h
    refine ⟨yl, la, fun j hj => h j (by omega), fun post n hn hp => ?_⟩
    obtain ⟨n, rfl⟩ : ∃ n', n = n' + 1 := ⟨n - 1, by omega⟩
    simp (disch := omega) only [wY_inserts_7, nu_a16, forall_eq, true_implies, false_implies, implies_true, not_true_eq_false, not_false_eq_true, and_true, true_and, and_self, true_or, or_true, false_or, or_false, false_and, and_false, eq_self]
    exact hp
  | succ d ih =>
    intro i hi yl la h
    obtain ⟨yl', la', h', hX⟩ := ih (i + 1) (by omega) (upd yl i (di_v (st (16 * s + i) = 2))) (upd la i (di_v (di_P st en sn (16 * s + i)))) (fun j hj => by
      by_cases q : j = i
      · rw [q, pk_us, pk_us]
        exact ⟨rfl, rfl⟩
      · rw [pk_un q, pk_un q]
        exact h j (by omega))
    refine ⟨yl', la', h', fun post n hn hp => ?_⟩
    obtain ⟨n, rfl⟩ : ∃ n', n = n' + 1 := ⟨n - 1, by omega⟩
    have hx := hX post n (by omega) hp
    have hd := nu_nb (di_01 (di_P st en sn (16 * s + i)))
    by_cases z : st (16 * s + i) = 2
    · rw [di_t z] at hx
      simp (disch := omega) only [wY_inserts_7, wY_inserts_41, nu_b16, z, nu_01, nu_40, nu_30, nu_20, nu_160, Int32.add_zero, Nat.reduceAdd, nu_m16, nu_16m, nu_m4, nu_4m, nu_m3, nu_3m, nu_m2, nu_2m, nI_1, nu_p2, nu_p3, nu_16p, nu_2p, nI_add, nu_cl, nu_in, Nat.add_zero, nu_l0, nu_l1, nu_l2, nu_l3, nu_l4, nu_i0_5, nu_i1_5, nu_i2_5, nu_i0_3, nu_i1_3, nu_i2_3, nu_n0, nu_n1, nu_na0, nu_na1, forall_eq, true_implies, false_implies, implies_true, not_true_eq_false, not_false_eq_true, and_true, true_and, and_self, true_or, or_true, false_or, or_false, false_and, and_false, eq_self]
      refine vy_dir (by omega) hN hS ?_
      simp (disch := omega) only [hd, nu_01, nu_40, nu_30, nu_20, nu_160, Int32.add_zero, Nat.reduceAdd, nu_m16, nu_16m, nu_m4, nu_4m, nu_m3, nu_3m, nu_m2, nu_2m, nI_1, nu_p2, nu_p3, nu_16p, nu_2p, nI_add, nu_cl, nu_in, Nat.add_zero, nu_l0, nu_l1, nu_l2, nu_l3, nu_l4, nu_i0_5, nu_i1_5, nu_i2_5, nu_i0_3, nu_i1_3, nu_i2_3, nu_n0, nu_n1, nu_na0, nu_na1, forall_eq, true_implies, false_implies, implies_true, not_true_eq_false, not_false_eq_true, and_true, true_and, and_self, true_or, or_true, false_or, or_false, false_and, and_false, eq_self]
      exact hx
    · rw [di_f z] at hx
      simp (disch := omega) only [wY_inserts_7, wY_inserts_41, nu_b16, z, nu_01, nu_40, nu_30, nu_20, nu_160, Int32.add_zero, Nat.reduceAdd, nu_m16, nu_16m, nu_m4, nu_4m, nu_m3, nu_3m, nu_m2, nu_2m, nI_1, nu_p2, nu_p3, nu_16p, nu_2p, nI_add, nu_cl, nu_in, Nat.add_zero, nu_l0, nu_l1, nu_l2, nu_l3, nu_l4, nu_i0_5, nu_i1_5, nu_i2_5, nu_i0_3, nu_i1_3, nu_i2_3, nu_n0, nu_n1, nu_na0, nu_na1, forall_eq, true_implies, false_implies, implies_true, not_true_eq_false, not_false_eq_true, and_true, true_and, and_self, true_or, or_true, false_or, or_false, false_and, and_false, eq_self]
      refine vy_dir (by omega) hN hS ?_
      simp (disch := omega) only [hd, nu_01, nu_40, nu_30, nu_20, nu_160, Int32.add_zero, Nat.reduceAdd, nu_m16, nu_16m, nu_m4, nu_4m, nu_m3, nu_3m, nu_m2, nu_2m, nI_1, nu_p2, nu_p3, nu_16p, nu_2p, nI_add, nu_cl, nu_in, Nat.add_zero, nu_l0, nu_l1, nu_l2, nu_l3, nu_l4, nu_i0_5, nu_i1_5, nu_i2_5, nu_i0_3, nu_i1_3, nu_i2_3, nu_n0, nu_n1, nu_na0, nu_na1, forall_eq, true_implies, false_implies, implies_true, not_true_eq_false, not_false_eq_true, and_true, true_and, and_self, true_or, or_true, false_or, or_false, false_and, and_false, eq_self]
      exact hx
end
def ct_I (s c : Nat) (st cr od : Nat → Int32) : Prop := ∀ j, j < c → cr j = od j ∧ ∃ k, k < 16 ∧ cr j = nI k ∧ st (16 * s + k) = 2
theorem ct_u {s c k : Nat} {st cr od : Nat → Int32} (h : ct_I s c st cr od) (hk : k < 16) (h2 : st (16 * s + k) = 2) : ct_I s (c + 1) st (upd cr c (nI k)) (upd od c (nI k)) := by
  intro j hj
  by_cases q : j = c
  · rw [q, pk_us, pk_us]
    exact ⟨rfl, k, hk, rfl, h2⟩
  · rw [pk_un q, pk_un q]
    exact h j (by omega)
theorem wa_e {lf yl en : Nat → Int32} {s k : Nat} (hl : ∀ j, j < 16 → lf j = yl j) : wa_P yl s en k ↔ wa_P lf s en k := by
  constructor
  · rintro ⟨l, h1, h2, h3, h4⟩
    exact ⟨l, h1, h2, h3, by rw [hl l h1]; exact h4⟩
  · rintro ⟨l, h1, h2, h3, h4⟩
    exact ⟨l, h1, h2, h3, by rw [← hl l h1]; exact h4⟩
theorem li_e {lf yl sn : Nat → Int32} {s k : Nat} (hl : ∀ j, j < 16 → lf j = yl j) : li_P yl s sn k ↔ li_P lf s sn k := by
  constructor
  · rintro ⟨l, h1, h2, h3, h4⟩
    exact ⟨l, h1, by rw [hl l h1]; exact h2, h3, h4⟩
  · rintro ⟨l, h1, h2, h3, h4⟩
    exact ⟨l, h1, by rw [← hl l h1]; exact h2, h3, h4⟩
/-- one is taken out of what is left -/
theorem lf_out {lf : Nat → Int32} {k m : Nat} (hk : k < 16) (h : ¬ lf k = 0) (hm : cn_n (fun j => ¬ lf j = 0) 16 = m) : cn_n (fun j => ¬ upd lf k 0 j = 0) 16 + 1 = m := by
  rw [← hm]
  refine cn_out hk h (fun j hj => ?_)
  by_cases q : j = k
  · rw [q, pk_us]
    exact ⟨fun z => absurd rfl z, fun z => absurd rfl z.2⟩
  · rw [pk_un q]
    exact ⟨fun z => ⟨z, q⟩, fun z => z.1⟩
section
variable {md bk rt rc st en sn fr rr nw bf ve la : Nat → Int32} {fc rq : Int32}
theorem ix_L {s a : Nat} (hs : s < 3) (ha : a ≤ 16) : ∀ (m i : Nat), i + m ≤ 16 → ∀ (n c : Nat) (ct lk wt wc ch sk sr lf cr th ro yl od sm : Nat → Int32), cn_n (fun k => ¬ lf k = 0) 16 = m → n + m ≤ a → c + m ≤ a → (∀ j, j < 16 → lf j = yl j) → (∀ j, j < 16 → ¬ lf j = 0 → st (16 * s + j) = 2) → ct_I s c st cr od → re_R md bk ch lk st rt rc wt wc en sn th ro nw bf ve → re_P n sk sr sm →
    ∀ x4, nx_S (fun k => ¬ yl k = 0) (wa_P yl s en) x4 →
    ∃ (r : Int32) (n' c' c2 : Nat) (ct' lk' wt' wc' ch' sk' sr' lf' cr' th' ro' yl' od' sm' : Nat → Int32), re_R md bk ch' lk' st rt rc wt' wc' en sn th' ro' nw bf ve ∧ re_P n' sk' sr' sm' ∧ n' ≤ a ∧ (r = 0 → c' ≤ a ∧ c2 = c' ∧ ct_I s c' st cr' od') ∧
      (∀ (post : Int32 → SX → Prop) k, m < k → post r (nI n', fc, nI c', rq, md, bk, ct', rt, rc, lk', wt', wc', ch', st, en, sn, sk', sr', fr, lf', cr', rr) → wX_insertNew_13 post (nI s) k (nI i) (nI n) fc (nI c) rq md bk ct rt rc lk wt wc ch st en sn sk sr fr lf cr rr) ∧
      (∀ (post : Int32 → SY → Prop) k, m < k → (∃ n141, wY_inserts_141 post (nI s) (nI c2) n141 r 0 (nI n') fc th' ch' ro' lk' st nw bf ve bk md yl' la od' sm' fr ct') → wY_inserts_74 post (nI s) k 0 (nI c) x4 (nI n) fc th ch ro lk st nw bf ve bk md yl la od sm fr ct) := by
  intro m
  induction m with
  | zero =>
    intro i hi n c ct lk wt wc ch sk sr lf cr th ro yl od sm hm hna hca hl h2 hI R hP x4 hx4
    have nol := cn_0 hm
    have e4 : x4 = -1 := by
      rcases nx_k hx4 with q | ⟨k, hk, _, q, _⟩
      · exact q.1
      · exact absurd (by rw [hl k hk]; exact q) (nol k hk)
    subst e4
    refine ⟨0, n, c, c, ct, lk, wt, wc, ch, sk, sr, lf, cr, th, ro, yl, od, sm, R, hP, by omega, fun _ => ⟨by omega, rfl, hI⟩, fun post k hk hp => ?_, fun post k hk hp => ?_⟩
    · obtain ⟨k, rfl⟩ : ∃ k', k = k' + 1 := ⟨k - 1, by omega⟩
      by_cases i16 : i = 16
      · simp (disch := omega) only [wX_insertNew_13, nu_a16, forall_eq, true_implies, false_implies, implies_true, not_true_eq_false, not_false_eq_true, and_true, true_and, and_self, true_or, or_true, false_or, or_false, false_and, and_false, eq_self]
        exact hp
      · obtain ⟨r1, h1, hX1⟩ := vx_li (sc := nI n) (fc := fc) (cc := nI c) (rq := rq) (md := md) (bk := bk) (ct := ct) (rt := rt) (rc := rc) (lk := lk) (wt := wt) (wc := wc) (ch := ch) (st := st) (sn := sn) (sk := sk) (sr := sr) (fr := fr) (lf := lf) (cr := cr) (rr := rr) hs (re_rE R)
        obtain ⟨r2, h2, hX2⟩ := vx_ll (sc := nI n) (fc := fc) (cc := nI c) (rq := rq) (md := md) (bk := bk) (ct := ct) (rt := rt) (rc := rc) (lk := lk) (wt := wt) (wc := wc) (ch := ch) (st := st) (en := en) (sn := sn) (sk := sk) (sr := sr) (fr := fr) (lf := lf) (cr := cr) (rr := rr)
        have e1 : r1 = -1 := le_u h1 (le_n (fun k hk q => nol k hk q.1))
        have e2 : r2 = -1 := le_u h2 (le_n (fun k hk q => nol k hk q))
        simp (disch := omega) only [wX_insertNew_13, nu_b16, forall_eq, true_implies, false_implies, implies_true, not_true_eq_false, not_false_eq_true, and_true, true_and, and_self, true_or, or_true, false_or, or_false, false_and, and_false, eq_self]
        refine hX1 _ ?_
        rw [e1]
        simp only [wX_insertNew_35, nu_k10, forall_eq, true_implies, false_implies, implies_true, not_true_eq_false, not_false_eq_true, and_true, true_and, and_self, true_or, or_true, false_or, or_false, false_and, and_false, eq_self]
        refine hX2 _ ?_
        rw [e2]
        simp only [wX_insertNew_47, forall_eq, true_implies, false_implies, implies_true, not_true_eq_false, not_false_eq_true, and_true, true_and, and_self, true_or, or_true, false_or, or_false, false_and, and_false, eq_self]
        exact hp
    · obtain ⟨k, rfl⟩ : ∃ k', k = k' + 1 := ⟨k - 1, by omega⟩
      simp only [wY_inserts_74, nu_m1lt, forall_eq, true_implies, false_implies, implies_true, not_true_eq_false, not_false_eq_true, and_true, true_and, and_self, true_or, or_true, false_or, or_false, false_and, and_false, eq_self]
      exact hp
  | succ m ih =>
    intro i hi n c ct lk wt wc ch sk sr lf cr th ro yl od sm hm hna hca hl h2 hI R hP x4 hx4
    obtain ⟨r1, h1, hX1⟩ := vx_li (sc := nI n) (fc := fc) (cc := nI c) (rq := rq) (md := md) (bk := bk) (ct := ct) (rt := rt) (rc := rc) (lk := lk) (wt := wt) (wc := wc) (ch := ch) (st := st) (sn := sn) (sk := sk) (sr := sr) (fr := fr) (lf := lf) (cr := cr) (rr := rr) hs (re_rE R)
    obtain ⟨r2, h3, hX2⟩ := vx_ll (sc := nI n) (fc := fc) (cc := nI c) (rq := rq) (md := md) (bk := bk) (ct := ct) (rt := rt) (rc := rc) (lk := lk) (wt := wt) (wc := wc) (ch := ch) (st := st) (en := en) (sn := sn) (sk := sk) (sr := sr) (fr := fr) (lf := lf) (cr := cr) (rr := rr)
    have hxX : nx_S (fun k => ¬ lf k = 0) (wa_P lf s en) x4 := nx_e (fun k hk => by rw [hl k hk]) (fun k hk _ => wa_e hl) hx4
    have e4 : x4 = if r1 = -1 then r2 else r1 := by
      refine nx_u hxX ?_
      by_cases q : r1 = -1
      · rw [if_pos q]
        rw [q] at h1
        exact Or.inr ⟨h1, h3⟩
      · rw [if_neg q]
        exact Or.inl ⟨q, h1⟩
    obtain ⟨k, hk, ek, lk0, hb⟩ : ∃ k, k < 16 ∧ x4 = nI k ∧ ¬ lf k = 0 ∧ (wa_P lf s en k ↔ r1 = -1) := by
      rcases nx_k hxX with ⟨_, q⟩ | ⟨k, hk, e, l, w⟩
      · have := cn_z (P := fun k => ¬ lf k = 0) (N := 16) q
        omega
      · refine ⟨k, hk, e, l, fun z => le_u h1 (w.mp z), fun z => w.mpr ?_⟩
        rw [z] at h1
        exact h1
    have hX0 : ∀ (post : Int32 → SX → Prop) f, wX_insertNew_47 post (wX_insertNew_13 post (nI s) f) (nI s) (nI i) (nI k) (di_v (wa_P lf s en k)) (nI n) fc (nI c) rq md bk ct rt rc lk wt wc ch st en sn sk sr fr lf cr rr → wX_insertNew_13 post (nI s) (f + 1) (nI i) (nI n) fc (nI c) rq md bk ct rt rc lk wt wc ch st en sn sk sr fr lf cr rr := by
      intro post f hp
      simp (disch := omega) only [wX_insertNew_13, nu_b16, forall_eq, true_implies, false_implies, implies_true, not_true_eq_false, not_false_eq_true, and_true, true_and, and_self, true_or, or_true, false_or, or_false, false_and, and_false, eq_self]
      refine hX1 _ ?_
      by_cases q : r1 = -1
      · rw [if_pos q, ek] at e4
        rw [di_t (hb.mpr q)] at hp
        simp only [q, wX_insertNew_35, nu_k10, forall_eq, true_implies, false_implies, implies_true, not_true_eq_false, not_false_eq_true, and_true, true_and, and_self, true_or, or_true, false_or, or_false, false_and, and_false, eq_self]
        refine hX2 _ ?_
        rw [← e4]
        exact hp
      · rw [if_neg q, ek] at e4
        rw [di_f (fun z => q (hb.mp z))] at hp
        simp only [q, wX_insertNew_35, forall_eq, true_implies, false_implies, implies_true, not_true_eq_false, not_false_eq_true, and_true, true_and, and_self, true_or, or_true, false_or, or_false, false_and, and_false, eq_self]
        rw [← e4]
        exact hp
    subst ek
    have h2k := h2 k hk lk0
    have hw : nw (3 * (16 * s + k) + 2) = en (4 * (16 * s + k) + 2) := (re_rN R (16 * s + k) (by omega) (by rw [h2k]; decide) (by rw [h2k]; decide) 2 (by decide)).symm
    have hout := lf_out hk lk0 hm
    have hl' : ∀ j, j < 16 → upd lf k 0 j = upd yl k 0 j := by
      intro j hj
      by_cases q : j = k
      · rw [q, pk_us, pk_us]
      · rw [pk_un q, pk_un q]
        exact hl j hj
    have h2' : ∀ j, j < 16 → ¬ upd lf k 0 j = 0 → st (16 * s + j) = 2 := by
      intro j hj z
      by_cases q : j = k
      · rw [q]
        exact h2k
      · rw [pk_un q] at z
        exact h2 j hj z
    -- the new list of cut rows on the reference's side
    obtain ⟨od1, c1, hod⟩ : ∃ (od1 : Nat → Int32) (c1 : Nat), (wa_P lf s en k → od1 = upd od c (nI k) ∧ c1 = c + 1) ∧ (¬ wa_P lf s en k → od1 = od ∧ c1 = c) := by
      by_cases w : wa_P lf s en k
      · exact ⟨upd od c (nI k), c + 1, fun _ => ⟨rfl, rfl⟩, fun q => absurd w q⟩
      · exact ⟨od, c, fun q => absurd q w, fun _ => ⟨rfl, rfl⟩⟩
    obtain ⟨r, n1, c', ct1, lk1, wt1, wc1, ch1, sk1, sr1, cr1, th1, ro1, sm1, R1, P1, hn1, hn2, hcut, gX, gY⟩ := is_S (ct := ct) (fr := fr) (lf := upd lf k 0) (cr := cr) (rr := rr) fc rq (upd yl k 0) la od1 hs hk (show n < 32 by omega) (show c < 16 by omega) (di_01 (wa_P lf s en k)) h2k R hP
    have hY0 : ∀ (post : Int32 → SY → Prop) f, wpY_insert (fun r u => match u with | (sc9, fc9, th9, ch9, ro9, lk9, st9, nw9, bf9, ve9, bk9, md9, yl9, la9, od9, sm9, fr9, ct9) => wpY_next (fun r' => wY_inserts_74 post (nI s) f r (nI c1) r' sc9 fc9 th9 ch9 ro9 lk9 st9 nw9 bf9 ve9 bk9 md9 yl9 la9 od9 sm9 fr9 ct9) (sc9, fc9, th9, ch9, ro9, lk9, st9, nw9, bf9, ve9, bk9, md9, yl9, la9, od9, sm9, fr9, ct9) (nI s) 1) (nI n, fc, th, ch, ro, lk, st, nw, bf, ve, bk, md, upd yl k 0, la, od1, sm, fr, ct) (nI s) (nI k) (di_v (wa_P lf s en k)) → wY_inserts_74 post (nI s) (f + 1) 0 (nI c) (nI k) (nI n) fc th ch ro lk st nw bf ve bk md yl la od sm fr ct := by
      intro post f hp
      simp (disch := omega) only [wY_inserts_74, nu_neg, forall_eq, true_implies, false_implies, implies_true, not_true_eq_false, not_false_eq_true, and_true, true_and, and_self, true_or, or_true, false_or, or_false, false_and, and_false, eq_self]
      refine vy_h1 hs hk hw ?_
      rw [di_e (wa_e hl)]
      by_cases w : wa_P lf s en k
      · obtain ⟨rfl, rfl⟩ := hod.1 w
        rw [di_t w] at hp ⊢
        simp (disch := omega) only [wY_inserts_117, nu_k10, nu_01, nu_40, nu_30, nu_20, nu_160, Int32.add_zero, Nat.reduceAdd, nu_m16, nu_16m, nu_m4, nu_4m, nu_m3, nu_3m, nu_m2, nu_2m, nI_1, nu_p2, nu_p3, nu_16p, nu_2p, nI_add, nu_cl, nu_in, Nat.add_zero, nu_l0, nu_l1, nu_l2, nu_l3, nu_l4, nu_i0_5, nu_i1_5, nu_i2_5, nu_i0_3, nu_i1_3, nu_i2_3, nu_n0, nu_n1, nu_na0, nu_na1, forall_eq, true_implies, false_implies, implies_true, not_true_eq_false, not_false_eq_true, and_true, true_and, and_self, true_or, or_true, false_or, or_false, false_and, and_false, eq_self]
        exact hp
      · obtain ⟨rfl, rfl⟩ := hod.2 w
        rw [di_f w] at hp ⊢
        simp (disch := omega) only [wY_inserts_117, nu_01, nu_40, nu_30, nu_20, nu_160, Int32.add_zero, Nat.reduceAdd, nu_m16, nu_16m, nu_m4, nu_4m, nu_m3, nu_3m, nu_m2, nu_2m, nI_1, nu_p2, nu_p3, nu_16p, nu_2p, nI_add, nu_cl, nu_in, Nat.add_zero, nu_l0, nu_l1, nu_l2, nu_l3, nu_l4, nu_i0_5, nu_i1_5, nu_i2_5, nu_i0_3, nu_i1_3, nu_i2_3, nu_n0, nu_n1, nu_na0, nu_na1, forall_eq, true_implies, false_implies, implies_true, not_true_eq_false, not_false_eq_true, and_true, true_and, and_self, true_or, or_true, false_or, or_false, false_and, and_false, eq_self]
        exact hp
    obtain ⟨x5, hx5, hNX⟩ := vy_nx (sc := nI n1) (fc := fc) (md := md) (bk := bk) (ct := ct1) (lk := lk1) (ch := ch1) (st := st) (fr := fr) (th := th1) (ro := ro1) (nw := nw) (bf := bf) (ve := ve) (yl := upd yl k 0) (la := la) (od := od1) (sm := sm1) (s := s) (o := 1) (H := wa_P (upd yl k 0) s en) hs (fun j hj z post hp => vy_h1 hs hj (by
      have z2 := h2' j hj (by rw [hl' j hj]; exact z)
      exact (re_rN R (16 * s + j) (by omega) (by rw [z2]; decide) (by rw [z2]; decide) 2 (by decide)).symm) hp)
    by_cases r0 : r = 0
    · subst r0
      have hc1 : c' = c1 ∧ ct_I s c1 st cr1 od1 ∧ c1 ≤ c + 1 := by
        by_cases w : wa_P lf s en k
        · obtain ⟨a1, a2⟩ := hod.1 w
          obtain ⟨b1, b2⟩ := (hcut rfl).2 (di_t w)
          rw [a1, a2, b2]
          exact ⟨b1, ct_u hI hk h2k, Nat.le_refl _⟩
        · obtain ⟨a1, a2⟩ := hod.2 w
          obtain ⟨b1, b2⟩ := (hcut rfl).1 (di_f w)
          rw [a1, a2, b2]
          exact ⟨b1, hI, by omega⟩
      obtain ⟨rfl, hI1, hcl⟩ := hc1
      obtain ⟨r', n', c'', c2, ct2, lk2, wt2, wc2, ch2, sk2, sr2, lf2, cr2, th2, ro2, yl2, od2, sm2, R2, P2, hn', hr', hX', hY'⟩ := ih (i + 1) (by omega) n1 c' ct1 lk1 wt1 wc1 ch1 sk1 sr1 (upd lf k 0) cr1 th1 ro1 (upd yl k 0) od1 sm1 (by omega) (by omega) (by omega) hl' h2' hI1 R1 P1 x5 hx5
      refine ⟨r', n', c'', c2, ct2, lk2, wt2, wc2, ch2, sk2, sr2, lf2, cr2, th2, ro2, yl2, od2, sm2, R2, P2, hn', hr', fun post f hf hp => ?_, fun post f hf hp => ?_⟩
      · obtain ⟨f, rfl⟩ : ∃ f', f = f' + 1 := ⟨f - 1, by omega⟩
        refine hX0 post f ?_
        simp (disch := omega) only [wX_insertNew_47, nu_nem, nu_01, nu_40, nu_30, nu_20, nu_160, Int32.add_zero, Nat.reduceAdd, nu_m16, nu_16m, nu_m4, nu_4m, nu_m3, nu_3m, nu_m2, nu_2m, nI_1, nu_p2, nu_p3, nu_16p, nu_2p, nI_add, nu_cl, nu_in, Nat.add_zero, nu_l0, nu_l1, nu_l2, nu_l3, nu_l4, nu_i0_5, nu_i1_5, nu_i2_5, nu_i0_3, nu_i1_3, nu_i2_3, nu_n0, nu_n1, nu_na0, nu_na1, forall_eq, true_implies, false_implies, implies_true, not_true_eq_false, not_false_eq_true, and_true, true_and, and_self, true_or, or_true, false_or, or_false, false_and, and_false, eq_self]
        refine gX _ ?_
        simp (disch := omega) only [nu_01, nu_40, nu_30, nu_20, nu_160, Int32.add_zero, Nat.reduceAdd, nu_m16, nu_16m, nu_m4, nu_4m, nu_m3, nu_3m, nu_m2, nu_2m, nI_1, nu_p2, nu_p3, nu_16p, nu_2p, nI_add, nu_cl, nu_in, Nat.add_zero, nu_l0, nu_l1, nu_l2, nu_l3, nu_l4, nu_i0_5, nu_i1_5, nu_i2_5, nu_i0_3, nu_i1_3, nu_i2_3, nu_n0, nu_n1, nu_na0, nu_na1, forall_eq, true_implies, false_implies, implies_true, not_true_eq_false, not_false_eq_true, and_true, true_and, and_self, true_or, or_true, false_or, or_false, false_and, and_false, eq_self]
        exact hX' post f (by omega) hp
      · obtain ⟨f, rfl⟩ : ∃ f', f = f' + 1 := ⟨f - 1, by omega⟩
        refine hY0 post f ?_
        refine gY _ ?_
        dsimp only
        refine hNX _ ?_
        exact hY' post f (by omega) hp
    · refine ⟨r, n1, c', c1, ct1, lk1, wt1, wc1, ch1, sk1, sr1, upd lf k 0, cr1, th1, ro1, upd yl k 0, od1, sm1, R1, P1, by omega, fun q => absurd q r0, fun post f hf hp => ?_, fun post f hf hp => ?_⟩
      · obtain ⟨f, rfl⟩ : ∃ f', f = f' + 1 := ⟨f - 1, by omega⟩
        refine hX0 post f ?_
        simp (disch := omega) only [wX_insertNew_47, nu_nem, nu_01, nu_40, nu_30, nu_20, nu_160, Int32.add_zero, Nat.reduceAdd, nu_m16, nu_16m, nu_m4, nu_4m, nu_m3, nu_3m, nu_m2, nu_2m, nI_1, nu_p2, nu_p3, nu_16p, nu_2p, nI_add, nu_cl, nu_in, Nat.add_zero, nu_l0, nu_l1, nu_l2, nu_l3, nu_l4, nu_i0_5, nu_i1_5, nu_i2_5, nu_i0_3, nu_i1_3, nu_i2_3, nu_n0, nu_n1, nu_na0, nu_na1, forall_eq, true_implies, false_implies, implies_true, not_true_eq_false, not_false_eq_true, and_true, true_and, and_self, true_or, or_true, false_or, or_false, false_and, and_false, eq_self]
        refine gX _ ?_
        simp (disch := omega) only [r0, forall_eq, true_implies, false_implies, implies_true, not_true_eq_false, not_false_eq_true, and_true, true_and, and_self, true_or, or_true, false_or, or_false, false_and, and_false, eq_self]
        exact hp
      · obtain ⟨f, rfl⟩ : ∃ f', f = f' + 1 := ⟨f - 1, by omega⟩
        refine hY0 post f ?_
        refine gY _ ?_
        dsimp only
        refine hNX _ ?_
        obtain ⟨f, rfl⟩ : ∃ f', f = f' + 1 := ⟨f - 1, by omega⟩
        by_cases q : x5 < 0
        · simp only [wY_inserts_74, q, forall_eq, true_implies, false_implies, implies_true, not_true_eq_false, not_false_eq_true, and_true, true_and, and_self, true_or, or_true, false_or, or_false, false_and, and_false, eq_self]
          exact hp
        · simp only [wY_inserts_74, q, r0, forall_eq, true_implies, false_implies, implies_true, not_true_eq_false, not_false_eq_true, and_true, true_and, and_self, true_or, or_true, false_or, or_false, false_and, and_false, eq_self]
          exact hp
end
