/-- a NEW one waits for another NEW one -/
def wa_P (lf : Nat → Int32) (s : Nat) (en : Nat → Int32) (k : Nat) : Prop := ∃ l, l < 16 ∧ en (4 * (16 * s + k) + 2) = nI l ∧ l ≠ k ∧ ¬ lf l = 0
/-- a REMOVED one is linked by another REMOVED one -/
def li_P (lf : Nat → Int32) (s : Nat) (sn : Nat → Int32) (k : Nat) : Prop := ∃ j, j < 16 ∧ ¬ lf j = 0 ∧ j ≠ k ∧ sn (4 * (16 * s + j) + 2) = nI k
theorem le_n {P : Nat → Prop} (h : ∀ k, k < 16 → ¬ P k) : le_S P (-1) := Or.inl ⟨rfl, h⟩
section
variable {sc fc cc rq : Int32} {md bk ct rt rc lk wt wc ch st en sn sk sr fr lf cr rr : Nat → Int32}
theorem vx_ll : ∃ r, le_S (fun k => ¬ lf k = 0) r ∧ ∀ post : Int32 → Prop, post r → wpX_leastLeft post (sc, fc, cc, rq, md, bk, ct, rt, rc, lk, wt, wc, ch, st, en, sn, sk, sr, fr, lf, cr, rr) := by
  have key : ∀ d i : Nat, i + d = 16 → (∀ j, j < i → ¬ ¬ lf j = 0) → ∃ r, le_S (fun k => ¬ lf k = 0) r ∧ ∀ (post : Int32 → Prop) n, d < n → post r → wX_leastLeft_2 post sc fc cc rq md bk ct rt rc lk wt wc ch st en sn sk sr fr lf cr rr n (nI i) := by
    intro d
    induction d with
    | zero =>
      intro i hi h
      refine ⟨-1, le_n (fun k hk => h k (by omega)), fun post n hn hp => ?_⟩
      obtain ⟨n, rfl⟩ : ∃ n', n = n' + 1 := ⟨n - 1, by omega⟩
      simp (disch := omega) only [wX_leastLeft_2, nu_a16, forall_eq, true_implies, false_implies, implies_true, not_true_eq_false, not_false_eq_true, and_true, true_and, and_self, true_or, or_true, false_or, or_false, false_and, and_false, eq_self]
      exact hp
    | succ d ih =>
      intro i hi h
      by_cases z : lf i = 0
      · obtain ⟨r, hr, hX⟩ := ih (i + 1) (by omega) (fun j hj => by
          by_cases q : j = i
          · rw [q]
            exact fun y => y z
          · exact h j (by omega))
        refine ⟨r, hr, fun post n hn hp => ?_⟩
        obtain ⟨n, rfl⟩ : ∃ n', n = n' + 1 := ⟨n - 1, by omega⟩
        simp (disch := omega) only [wX_leastLeft_2, nu_b16, z, nu_01, nu_40, nu_30, nu_20, nu_160, Int32.add_zero, Nat.reduceAdd, nu_m16, nu_16m, nu_m4, nu_4m, nu_m3, nu_3m, nu_m2, nu_2m, nI_1, nu_p2, nu_p3, nu_16p, nu_2p, nI_add, nu_cl, nu_in, Nat.add_zero, nu_l0, nu_l1, nu_l2, nu_l3, nu_l4, nu_i0_5, nu_i1_5, nu_i2_5, nu_i0_3, nu_i1_3, nu_i2_3, nu_n0, nu_n1, nu_na0, nu_na1, forall_eq, true_implies, false_implies, implies_true, not_true_eq_false, not_false_eq_true, and_true, true_and, and_self, true_or, or_true, false_or, or_false, false_and, and_false, eq_self]
        exact hX post n (by omega) hp
      · refine ⟨nI i, Or.inr ⟨i, by omega, rfl, z, h⟩, fun post n hn hp => ?_⟩
        obtain ⟨n, rfl⟩ : ∃ n', n = n' + 1 := ⟨n - 1, by omega⟩
        simp (disch := omega) only [wX_leastLeft_2, nu_b16, z, nu_01, nu_40, nu_30, nu_20, nu_160, Int32.add_zero, Nat.reduceAdd, nu_m16, nu_16m, nu_m4, nu_4m, nu_m3, nu_3m, nu_m2, nu_2m, nI_1, nu_p2, nu_p3, nu_16p, nu_2p, nI_add, nu_cl, nu_in, Nat.add_zero, nu_l0, nu_l1, nu_l2, nu_l3, nu_l4, nu_i0_5, nu_i1_5, nu_i2_5, nu_i0_3, nu_i1_3, nu_i2_3, nu_n0, nu_n1, nu_na0, nu_na1, forall_eq, true_implies, false_implies, implies_true, not_true_eq_false, not_false_eq_true, and_true, true_and, and_self, true_or, or_true, false_or, or_false, false_and, and_false, eq_self]
        exact hp
  obtain ⟨r, hr, hX⟩ := key 16 0 rfl (fun j hj => by omega)
  refine ⟨r, hr, fun post hp => ?_⟩
  simp only [wpX_leastLeft]
  exact ⟨17, hX post 17 (by decide) hp⟩
theorem vx_li {s : Nat} (hs : s < 3) (hE : re_E en) : ∃ r, le_S (fun k => ¬ lf k = 0 ∧ ¬ wa_P lf s en k) r ∧ ∀ post : Int32 → Prop, post r → wpX_leastInsertable post (sc, fc, cc, rq, md, bk, ct, rt, rc, lk, wt, wc, ch, st, en, sn, sk, sr, fr, lf, cr, rr) (nI s) := by
  have hg : ∀ j, j < 16 → re_L (en (4 * (16 * s + j) + 2)) := fun j hj => hE (16 * s + j) (by omega)
  have key : ∀ d i : Nat, i + d = 16 → (∀ j, j < i → ¬ (¬ lf j = 0 ∧ ¬ wa_P lf s en j)) → ∃ r, le_S (fun k => ¬ lf k = 0 ∧ ¬ wa_P lf s en k) r ∧ ∀ (post : Int32 → Prop) n, d < n → post r → wX_leastInsertable_2 post (nI s) sc fc cc rq md bk ct rt rc lk wt wc ch st en sn sk sr fr lf cr rr n (nI i) := by
    intro d
    induction d with
    | zero =>
      intro i hi h
      refine ⟨-1, le_n (fun k hk => h k (by omega)), fun post n hn hp => ?_⟩
      obtain ⟨n, rfl⟩ : ∃ n', n = n' + 1 := ⟨n - 1, by omega⟩
      simp (disch := omega) only [wX_leastInsertable_2, nu_a16, forall_eq, true_implies, false_implies, implies_true, not_true_eq_false, not_false_eq_true, and_true, true_and, and_self, true_or, or_true, false_or, or_false, false_and, and_false, eq_self]
      exact hp
    | succ d ih =>
      intro i hi h
      have hgi := hg i (by omega)
      by_cases z : ¬ lf i = 0 ∧ ¬ wa_P lf s en i
      · refine ⟨nI i, Or.inr ⟨i, by omega, rfl, z, h⟩, fun post n hn hp => ?_⟩
        obtain ⟨n, rfl⟩ : ∃ n', n = n' + 1 := ⟨n - 1, by omega⟩
        have z1 := z.1
        rcases hgi with g | ⟨l, hl, g⟩
        · simp (disch := omega) only [wX_leastInsertable_2, wX_leastInsertable_46, wX_leastInsertable_47, nu_b16, nu_m1lt, g, z1, nu_01, nu_40, nu_30, nu_20, nu_160, Int32.add_zero, Nat.reduceAdd, nu_m16, nu_16m, nu_m4, nu_4m, nu_m3, nu_3m, nu_m2, nu_2m, nI_1, nu_p2, nu_p3, nu_16p, nu_2p, nI_add, nu_cl, nu_in, Nat.add_zero, nu_l0, nu_l1, nu_l2, nu_l3, nu_l4, nu_i0_5, nu_i1_5, nu_i2_5, nu_i0_3, nu_i1_3, nu_i2_3, nu_n0, nu_n1, nu_na0, nu_na1, forall_eq, true_implies, false_implies, implies_true, not_true_eq_false, not_false_eq_true, and_true, true_and, and_self, true_or, or_true, false_or, or_false, false_and, and_false, eq_self]
          exact hp
        · by_cases e : l = i
          · subst e
            simp (disch := omega) only [wX_leastInsertable_2, wX_leastInsertable_46, wX_leastInsertable_47, nu_b16, nu_neg, g, z1, nu_01, nu_40, nu_30, nu_20, nu_160, Int32.add_zero, Nat.reduceAdd, nu_m16, nu_16m, nu_m4, nu_4m, nu_m3, nu_3m, nu_m2, nu_2m, nI_1, nu_p2, nu_p3, nu_16p, nu_2p, nI_add, nu_cl, nu_in, Nat.add_zero, nu_l0, nu_l1, nu_l2, nu_l3, nu_l4, nu_i0_5, nu_i1_5, nu_i2_5, nu_i0_3, nu_i1_3, nu_i2_3, nu_n0, nu_n1, nu_na0, nu_na1, forall_eq, true_implies, false_implies, implies_true, not_true_eq_false, not_false_eq_true, and_true, true_and, and_self, true_or, or_true, false_or, or_false, false_and, and_false, eq_self]
            exact hp
          · have w : lf l = 0 := Classical.byContradiction fun y => z.2 ⟨l, hl, g, e, y⟩
            simp (disch := omega) only [wX_leastInsertable_2, wX_leastInsertable_46, wX_leastInsertable_47, nu_b16, nu_neg, nu_eq, g, e, w, z1, nu_01, nu_40, nu_30, nu_20, nu_160, Int32.add_zero, Nat.reduceAdd, nu_m16, nu_16m, nu_m4, nu_4m, nu_m3, nu_3m, nu_m2, nu_2m, nI_1, nu_p2, nu_p3, nu_16p, nu_2p, nI_add, nu_cl, nu_in, Nat.add_zero, nu_l0, nu_l1, nu_l2, nu_l3, nu_l4, nu_i0_5, nu_i1_5, nu_i2_5, nu_i0_3, nu_i1_3, nu_i2_3, nu_n0, nu_n1, nu_na0, nu_na1, forall_eq, true_implies, false_implies, implies_true, not_true_eq_false, not_false_eq_true, and_true, true_and, and_self, true_or, or_true, false_or, or_false, false_and, and_false, eq_self]
            exact hp
      · obtain ⟨r, hr, hX⟩ := ih (i + 1) (by omega) (fun j hj => by
          by_cases q : j = i
          · rw [q]
            exact z
          · exact h j (by omega))
        refine ⟨r, hr, fun post n hn hp => ?_⟩
        obtain ⟨n, rfl⟩ : ∃ n', n = n' + 1 := ⟨n - 1, by omega⟩
        have hx := hX post n (by omega) hp
        by_cases z1 : lf i = 0
        · rcases hgi with g | ⟨l, hl, g⟩
          · simp (disch := omega) only [wX_leastInsertable_2, wX_leastInsertable_46, wX_leastInsertable_47, nu_b16, nu_m1lt, g, z1, nu_01, nu_40, nu_30, nu_20, nu_160, Int32.add_zero, Nat.reduceAdd, nu_m16, nu_16m, nu_m4, nu_4m, nu_m3, nu_3m, nu_m2, nu_2m, nI_1, nu_p2, nu_p3, nu_16p, nu_2p, nI_add, nu_cl, nu_in, Nat.add_zero, nu_l0, nu_l1, nu_l2, nu_l3, nu_l4, nu_i0_5, nu_i1_5, nu_i2_5, nu_i0_3, nu_i1_3, nu_i2_3, nu_n0, nu_n1, nu_na0, nu_na1, forall_eq, true_implies, false_implies, implies_true, not_true_eq_false, not_false_eq_true, and_true, true_and, and_self, true_or, or_true, false_or, or_false, false_and, and_false, eq_self]
            exact hx
          · by_cases e : l = i
            · subst e
              simp (disch := omega) only [wX_leastInsertable_2, wX_leastInsertable_46, wX_leastInsertable_47, nu_b16, nu_neg, g, z1, nu_01, nu_40, nu_30, nu_20, nu_160, Int32.add_zero, Nat.reduceAdd, nu_m16, nu_16m, nu_m4, nu_4m, nu_m3, nu_3m, nu_m2, nu_2m, nI_1, nu_p2, nu_p3, nu_16p, nu_2p, nI_add, nu_cl, nu_in, Nat.add_zero, nu_l0, nu_l1, nu_l2, nu_l3, nu_l4, nu_i0_5, nu_i1_5, nu_i2_5, nu_i0_3, nu_i1_3, nu_i2_3, nu_n0, nu_n1, nu_na0, nu_na1, forall_eq, true_implies, false_implies, implies_true, not_true_eq_false, not_false_eq_true, and_true, true_and, and_self, true_or, or_true, false_or, or_false, false_and, and_false, eq_self]
              exact hx
            · by_cases w : lf l = 0
              · simp (disch := omega) only [wX_leastInsertable_2, wX_leastInsertable_46, wX_leastInsertable_47, nu_b16, nu_neg, nu_eq, g, e, w, z1, nu_01, nu_40, nu_30, nu_20, nu_160, Int32.add_zero, Nat.reduceAdd, nu_m16, nu_16m, nu_m4, nu_4m, nu_m3, nu_3m, nu_m2, nu_2m, nI_1, nu_p2, nu_p3, nu_16p, nu_2p, nI_add, nu_cl, nu_in, Nat.add_zero, nu_l0, nu_l1, nu_l2, nu_l3, nu_l4, nu_i0_5, nu_i1_5, nu_i2_5, nu_i0_3, nu_i1_3, nu_i2_3, nu_n0, nu_n1, nu_na0, nu_na1, forall_eq, true_implies, false_implies, implies_true, not_true_eq_false, not_false_eq_true, and_true, true_and, and_self, true_or, or_true, false_or, or_false, false_and, and_false, eq_self]
                exact hx
              · simp (disch := omega) only [wX_leastInsertable_2, wX_leastInsertable_46, wX_leastInsertable_47, nu_b16, nu_neg, nu_eq, nu_k10, g, e, w, z1, nu_01, nu_40, nu_30, nu_20, nu_160, Int32.add_zero, Nat.reduceAdd, nu_m16, nu_16m, nu_m4, nu_4m, nu_m3, nu_3m, nu_m2, nu_2m, nI_1, nu_p2, nu_p3, nu_16p, nu_2p, nI_add, nu_cl, nu_in, Nat.add_zero, nu_l0, nu_l1, nu_l2, nu_l3, nu_l4, nu_i0_5, nu_i1_5, nu_i2_5, nu_i0_3, nu_i1_3, nu_i2_3, nu_n0, nu_n1, nu_na0, nu_na1, forall_eq, true_implies, false_implies, implies_true, not_true_eq_false, not_false_eq_true, and_true, true_and, and_self, true_or, or_true, false_or, or_false, false_and, and_false, eq_self]
                exact hx
        · have w : wa_P lf s en i := Classical.byContradiction fun y => z ⟨z1, y⟩
          obtain ⟨l, hl, g, e, w⟩ := w
          simp (disch := omega) only [wX_leastInsertable_2, wX_leastInsertable_46, wX_leastInsertable_47, nu_b16, nu_neg, nu_eq, nu_k10, g, e, w, z1, nu_01, nu_40, nu_30, nu_20, nu_160, Int32.add_zero, Nat.reduceAdd, nu_m16, nu_16m, nu_m4, nu_4m, nu_m3, nu_3m, nu_m2, nu_2m, nI_1, nu_p2, nu_p3, nu_16p, nu_2p, nI_add, nu_cl, nu_in, Nat.add_zero, nu_l0, nu_l1, nu_l2, nu_l3, nu_l4, nu_i0_5, nu_i1_5, nu_i2_5, nu_i0_3, nu_i1_3, nu_i2_3, nu_n0, nu_n1, nu_na0, nu_na1, forall_eq, true_implies, false_implies, implies_true, not_true_eq_false, not_false_eq_true, and_true, true_and, and_self, true_or, or_true, false_or, or_false, false_and, and_false, eq_self]
          exact hx
  obtain ⟨r, hr, hX⟩ := key 16 0 rfl (fun j hj => by omega)
  refine ⟨r, hr, fun post hp => ?_⟩
  simp only [wpX_leastInsertable]
  exact ⟨17, hX post 17 (by decide) hp⟩
theorem vx_il {post : Int32 → Prop} {s k : Nat} (hs : s < 3) (hk : k < 16) (hp : post (di_v (li_P lf s sn k))) : wpX_isLinkedByLeft post (sc, fc, cc, rq, md, bk, ct, rt, rc, lk, wt, wc, ch, st, en, sn, sk, sr, fr, lf, cr, rr) (nI s) (nI k) := by
  have key : ∀ d i : Nat, i + d = 16 → (∀ j, j < i → ¬ (¬ lf j = 0 ∧ j ≠ k ∧ sn (4 * (16 * s + j) + 2) = nI k)) → ∀ n, d < n → wX_isLinkedByLeft_2 post (nI s) (nI k) sc fc cc rq md bk ct rt rc lk wt wc ch st en sn sk sr fr lf cr rr n (nI i) := by
    intro d
    induction d with
    | zero =>
      intro i hi h n hn
      rw [di_f (fun ⟨j, hj, q⟩ => h j (by omega) q)] at hp
      obtain ⟨n, rfl⟩ : ∃ n', n = n' + 1 := ⟨n - 1, by omega⟩
      simp (disch := omega) only [wX_isLinkedByLeft_2, nu_a16, forall_eq, true_implies, false_implies, implies_true, not_true_eq_false, not_false_eq_true, and_true, true_and, and_self, true_or, or_true, false_or, or_false, false_and, and_false, eq_self]
      exact hp
    | succ d ih =>
      intro i hi h n hn
      obtain ⟨n, rfl⟩ : ∃ n', n = n' + 1 := ⟨n - 1, by omega⟩
      by_cases z : ¬ lf i = 0 ∧ i ≠ k ∧ sn (4 * (16 * s + i) + 2) = nI k
      · rw [di_t ⟨i, by omega, z⟩] at hp
        have z1 := z.1
        have z2 := z.2.1
        have z3 := z.2.2
        simp (disch := omega) only [wX_isLinkedByLeft_2, wX_isLinkedByLeft_32, nu_b16, nu_eq, nu_k10, z1, z2, z3, nu_01, nu_40, nu_30, nu_20, nu_160, Int32.add_zero, Nat.reduceAdd, nu_m16, nu_16m, nu_m4, nu_4m, nu_m3, nu_3m, nu_m2, nu_2m, nI_1, nu_p2, nu_p3, nu_16p, nu_2p, nI_add, nu_cl, nu_in, Nat.add_zero, nu_l0, nu_l1, nu_l2, nu_l3, nu_l4, nu_i0_5, nu_i1_5, nu_i2_5, nu_i0_3, nu_i1_3, nu_i2_3, nu_n0, nu_n1, nu_na0, nu_na1, forall_eq, true_implies, false_implies, implies_true, not_true_eq_false, not_false_eq_true, and_true, true_and, and_self, true_or, or_true, false_or, or_false, false_and, and_false, eq_self]
        exact hp
      · have hx := ih (i + 1) (by omega) (fun j hj => by
          by_cases q : j = i
          · rw [q]
            exact z
          · exact h j (by omega)) n (by omega)
        by_cases z1 : lf i = 0
        · by_cases z3 : sn (4 * (16 * s + i) + 2) = nI k
          · simp (disch := omega) only [wX_isLinkedByLeft_2, wX_isLinkedByLeft_32, nu_b16, z1, z3, nu_01, nu_40, nu_30, nu_20, nu_160, Int32.add_zero, Nat.reduceAdd, nu_m16, nu_16m, nu_m4, nu_4m, nu_m3, nu_3m, nu_m2, nu_2m, nI_1, nu_p2, nu_p3, nu_16p, nu_2p, nI_add, nu_cl, nu_in, Nat.add_zero, nu_l0, nu_l1, nu_l2, nu_l3, nu_l4, nu_i0_5, nu_i1_5, nu_i2_5, nu_i0_3, nu_i1_3, nu_i2_3, nu_n0, nu_n1, nu_na0, nu_na1, forall_eq, true_implies, false_implies, implies_true, not_true_eq_false, not_false_eq_true, and_true, true_and, and_self, true_or, or_true, false_or, or_false, false_and, and_false, eq_self]
            exact hx
          · simp (disch := omega) only [wX_isLinkedByLeft_2, wX_isLinkedByLeft_32, nu_b16, z1, z3, nu_01, nu_40, nu_30, nu_20, nu_160, Int32.add_zero, Nat.reduceAdd, nu_m16, nu_16m, nu_m4, nu_4m, nu_m3, nu_3m, nu_m2, nu_2m, nI_1, nu_p2, nu_p3, nu_16p, nu_2p, nI_add, nu_cl, nu_in, Nat.add_zero, nu_l0, nu_l1, nu_l2, nu_l3, nu_l4, nu_i0_5, nu_i1_5, nu_i2_5, nu_i0_3, nu_i1_3, nu_i2_3, nu_n0, nu_n1, nu_na0, nu_na1, forall_eq, true_implies, false_implies, implies_true, not_true_eq_false, not_false_eq_true, and_true, true_and, and_self, true_or, or_true, false_or, or_false, false_and, and_false, eq_self]
            exact hx
        · by_cases z2 : i = k
          · subst z2
            by_cases z3 : sn (4 * (16 * s + i) + 2) = nI i
            · simp (disch := omega) only [wX_isLinkedByLeft_2, wX_isLinkedByLeft_32, nu_b16, z1, z3, nu_01, nu_40, nu_30, nu_20, nu_160, Int32.add_zero, Nat.reduceAdd, nu_m16, nu_16m, nu_m4, nu_4m, nu_m3, nu_3m, nu_m2, nu_2m, nI_1, nu_p2, nu_p3, nu_16p, nu_2p, nI_add, nu_cl, nu_in, Nat.add_zero, nu_l0, nu_l1, nu_l2, nu_l3, nu_l4, nu_i0_5, nu_i1_5, nu_i2_5, nu_i0_3, nu_i1_3, nu_i2_3, nu_n0, nu_n1, nu_na0, nu_na1, forall_eq, true_implies, false_implies, implies_true, not_true_eq_false, not_false_eq_true, and_true, true_and, and_self, true_or, or_true, false_or, or_false, false_and, and_false, eq_self]
              exact hx
            · simp (disch := omega) only [wX_isLinkedByLeft_2, wX_isLinkedByLeft_32, nu_b16, z1, z3, nu_01, nu_40, nu_30, nu_20, nu_160, Int32.add_zero, Nat.reduceAdd, nu_m16, nu_16m, nu_m4, nu_4m, nu_m3, nu_3m, nu_m2, nu_2m, nI_1, nu_p2, nu_p3, nu_16p, nu_2p, nI_add, nu_cl, nu_in, Nat.add_zero, nu_l0, nu_l1, nu_l2, nu_l3, nu_l4, nu_i0_5, nu_i1_5, nu_i2_5, nu_i0_3, nu_i1_3, nu_i2_3, nu_n0, nu_n1, nu_na0, nu_na1, forall_eq, true_implies, false_implies, implies_true, not_true_eq_false, not_false_eq_true, and_true, true_and, and_self, true_or, or_true, false_or, or_false, false_and, and_false, eq_self]
              exact hx
          · have z3 : ¬ sn (4 * (16 * s + i) + 2) = nI k := fun q => z ⟨z1, z2, q⟩
            simp (disch := omega) only [wX_isLinkedByLeft_2, wX_isLinkedByLeft_32, nu_b16, nu_eq, z1, z2, z3, nu_01, nu_40, nu_30, nu_20, nu_160, Int32.add_zero, Nat.reduceAdd, nu_m16, nu_16m, nu_m4, nu_4m, nu_m3, nu_3m, nu_m2, nu_2m, nI_1, nu_p2, nu_p3, nu_16p, nu_2p, nI_add, nu_cl, nu_in, Nat.add_zero, nu_l0, nu_l1, nu_l2, nu_l3, nu_l4, nu_i0_5, nu_i1_5, nu_i2_5, nu_i0_3, nu_i1_3, nu_i2_3, nu_n0, nu_n1, nu_na0, nu_na1, forall_eq, true_implies, false_implies, implies_true, not_true_eq_false, not_false_eq_true, and_true, true_and, and_self, true_or, or_true, false_or, or_false, false_and, and_false, eq_self]
            exact hx
  simp only [wpX_isLinkedByLeft]
  exact ⟨17, key 16 0 rfl (fun j hj => by omega) 17 (by decide)⟩
theorem vx_ld {s : Nat} (hs : s < 3) : ∃ r, le_S (fun k => ¬ lf k = 0 ∧ ¬ li_P lf s sn k) r ∧ ∀ post : Int32 → Prop, post r → wpX_leastDeletable post (sc, fc, cc, rq, md, bk, ct, rt, rc, lk, wt, wc, ch, st, en, sn, sk, sr, fr, lf, cr, rr) (nI s) := by
  have key : ∀ d i : Nat, i + d = 16 → (∀ j, j < i → ¬ (¬ lf j = 0 ∧ ¬ li_P lf s sn j)) → ∃ r, le_S (fun k => ¬ lf k = 0 ∧ ¬ li_P lf s sn k) r ∧ ∀ (post : Int32 → Prop) n, d < n → post r → wX_leastDeletable_2 post (nI s) sc fc cc rq md bk ct rt rc lk wt wc ch st en sn sk sr fr lf cr rr n (nI i) := by
    intro d
    induction d with
    | zero =>
      intro i hi h
      refine ⟨-1, le_n (fun k hk => h k (by omega)), fun post n hn hp => ?_⟩
      obtain ⟨n, rfl⟩ : ∃ n', n = n' + 1 := ⟨n - 1, by omega⟩
      simp (disch := omega) only [wX_leastDeletable_2, nu_a16, forall_eq, true_implies, false_implies, implies_true, not_true_eq_false, not_false_eq_true, and_true, true_and, and_self, true_or, or_true, false_or, or_false, false_and, and_false, eq_self]
      exact hp
    | succ d ih =>
      intro i hi h
      by_cases z : ¬ lf i = 0 ∧ ¬ li_P lf s sn i
      · refine ⟨nI i, Or.inr ⟨i, by omega, rfl, z, h⟩, fun post n hn hp => ?_⟩
        obtain ⟨n, rfl⟩ : ∃ n', n = n' + 1 := ⟨n - 1, by omega⟩
        have z1 := z.1
        simp (disch := omega) only [wX_leastDeletable_2, nu_b16, z1, nu_01, nu_40, nu_30, nu_20, nu_160, Int32.add_zero, Nat.reduceAdd, nu_m16, nu_16m, nu_m4, nu_4m, nu_m3, nu_3m, nu_m2, nu_2m, nI_1, nu_p2, nu_p3, nu_16p, nu_2p, nI_add, nu_cl, nu_in, Nat.add_zero, nu_l0, nu_l1, nu_l2, nu_l3, nu_l4, nu_i0_5, nu_i1_5, nu_i2_5, nu_i0_3, nu_i1_3, nu_i2_3, nu_n0, nu_n1, nu_na0, nu_na1, forall_eq, true_implies, false_implies, implies_true, not_true_eq_false, not_false_eq_true, and_true, true_and, and_self, true_or, or_true, false_or, or_false, false_and, and_false, eq_self]
        refine vx_il hs (by omega) ?_
        rw [di_f z.2]
        simp only [forall_eq, true_implies, false_implies, implies_true, not_true_eq_false, not_false_eq_true, and_true, true_and, and_self, true_or, or_true, false_or, or_false, false_and, and_false, eq_self]
        exact hp
      · obtain ⟨r, hr, hX⟩ := ih (i + 1) (by omega) (fun j hj => by
          by_cases q : j = i
          · rw [q]
            exact z
          · exact h j (by omega))
        refine ⟨r, hr, fun post n hn hp => ?_⟩
        obtain ⟨n, rfl⟩ : ∃ n', n = n' + 1 := ⟨n - 1, by omega⟩
        have hx := hX post n (by omega) hp
        by_cases z1 : lf i = 0
        · simp (disch := omega) only [wX_leastDeletable_2, nu_b16, z1, nu_01, nu_40, nu_30, nu_20, nu_160, Int32.add_zero, Nat.reduceAdd, nu_m16, nu_16m, nu_m4, nu_4m, nu_m3, nu_3m, nu_m2, nu_2m, nI_1, nu_p2, nu_p3, nu_16p, nu_2p, nI_add, nu_cl, nu_in, Nat.add_zero, nu_l0, nu_l1, nu_l2, nu_l3, nu_l4, nu_i0_5, nu_i1_5, nu_i2_5, nu_i0_3, nu_i1_3, nu_i2_3, nu_n0, nu_n1, nu_na0, nu_na1, forall_eq, true_implies, false_implies, implies_true, not_true_eq_false, not_false_eq_true, and_true, true_and, and_self, true_or, or_true, false_or, or_false, false_and, and_false, eq_self]
          exact hx
        · have w : li_P lf s sn i := Classical.byContradiction fun y => z ⟨z1, y⟩
          simp (disch := omega) only [wX_leastDeletable_2, nu_b16, z1, nu_01, nu_40, nu_30, nu_20, nu_160, Int32.add_zero, Nat.reduceAdd, nu_m16, nu_16m, nu_m4, nu_4m, nu_m3, nu_3m, nu_m2, nu_2m, nI_1, nu_p2, nu_p3, nu_16p, nu_2p, nI_add, nu_cl, nu_in, Nat.add_zero, nu_l0, nu_l1, nu_l2, nu_l3, nu_l4, nu_i0_5, nu_i1_5, nu_i2_5, nu_i0_3, nu_i1_3, nu_i2_3, nu_n0, nu_n1, nu_na0, nu_na1, forall_eq, true_implies, false_implies, implies_true, not_true_eq_false, not_false_eq_true, and_true, true_and, and_self, true_or, or_true, false_or, or_false, false_and, and_false, eq_self]
          refine vx_il hs (by omega) ?_
          rw [di_t w]
          simp (disch := omega) only [nu_k10, nu_01, nu_40, nu_30, nu_20, nu_160, Int32.add_zero, Nat.reduceAdd, nu_m16, nu_16m, nu_m4, nu_4m, nu_m3, nu_3m, nu_m2, nu_2m, nI_1, nu_p2, nu_p3, nu_16p, nu_2p, nI_add, nu_cl, nu_in, Nat.add_zero, nu_l0, nu_l1, nu_l2, nu_l3, nu_l4, nu_i0_5, nu_i1_5, nu_i2_5, nu_i0_3, nu_i1_3, nu_i2_3, nu_n0, nu_n1, nu_na0, nu_na1, forall_eq, true_implies, false_implies, implies_true, not_true_eq_false, not_false_eq_true, and_true, true_and, and_self, true_or, or_true, false_or, or_false, false_and, and_false, eq_self]
          exact hx
  obtain ⟨r, hr, hX⟩ := key 16 0 rfl (fun j hj => by omega)
  refine ⟨r, hr, fun post hp => ?_⟩
  simp only [wpX_leastDeletable]
  exact ⟨17, hX post 17 (by decide) hp⟩
end
