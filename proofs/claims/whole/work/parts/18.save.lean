def sa_O (s : Nat) (st en sn : Nat → Int32) (j : Nat) : Prop := (st (16 * s + j) = 2 ∨ di_P st en sn (16 * s + j)) ∧ ∃ l, l < 16 ∧ en (4 * (16 * s + j) + 2) = nI l ∧ st (16 * s + l) = 1
def sa_V (s : Nat) (st en sn : Nat → Int32) (r : Int32) : Prop := (r = -7 ∧ ∃ j, j < 16 ∧ sa_O s st en sn j) ∨ (r = 0 ∧ ∀ j, j < 16 → ¬ sa_O s st en sn j)
theorem sa_u {s : Nat} {st en sn : Nat → Int32} {r r' : Int32} (a : sa_V s st en sn r) (b : sa_V s st en sn r') : r = r' := by
  rcases a with ⟨rfl, j, hj, a⟩ | ⟨rfl, a⟩
  · rcases b with ⟨rfl, _⟩ | ⟨rfl, b⟩
    · rfl
    · exact absurd a (b j hj)
  · rcases b with ⟨rfl, j, hj, b⟩ | ⟨rfl, _⟩
    · exact absurd b (a j hj)
    · rfl
section
variable {sc fc cc rq : Int32} {md bk ct rt rc lk wt wc ch en sn sk sr fr lf cr rr th ro nw bf ve yl la od sm : Nat → Int32}
theorem vx_sl {s : Nat} {st0 : Nat → Int32} (hs : s < 3) (hE : re_E en) (hm : ¬ md 0 = 0) : ∀ (d i : Nat), i + d = 16 → ∀ st : Nat → Int32, sv_I s (fun j => di_P st0 en sn (16 * s + j)) (fun j => en (4 * (16 * s + j) + 2)) st0 i st →
    ∃ st', sv_I s (fun j => di_P st0 en sn (16 * s + j)) (fun j => en (4 * (16 * s + j) + 2)) st0 16 st' ∧ (∀ (post : Int32 → SX → Prop) n, d < n → post 0 (sc, fc, cc, rq, md, bk, ct, rt, rc, lk, wt, wc, ch, st', en, sn, sk, sr, fr, lf, cr, rr) → wX_saveLinked_2 post (nI s) n (nI i) sc fc cc rq md bk ct rt rc lk wt wc ch st en sn sk sr fr lf cr rr) := by
  have hg : ∀ j, j < 16 → re_L (en (4 * (16 * s + j) + 2)) := fun j hj => hE (16 * s + j) (by omega)
  intro d
  induction d with
  | zero =>
    intro i hi st hI
    have e : i = 16 := by omega
    subst e
    refine ⟨st, hI, fun post n hn hp => ?_⟩
    obtain ⟨n, rfl⟩ : ∃ n', n = n' + 1 := ⟨n - 1, by omega⟩
    simp (disch := omega) only [wX_saveLinked_2, nu_a16, forall_eq, true_implies, false_implies, implies_true, not_true_eq_false, not_false_eq_true, and_true, true_and, and_self, true_or, or_true, false_or, or_false, false_and, and_false, eq_self]
    exact hp
  | succ d ih =>
    intro i hi st hI
    have hi' : i < 16 := by omega
    have hD := sv_D (en := en) (sn := sn) hI.1 (16 * s + i)
    -- the walk where nothing is written, and where something is
    by_cases w2 : st (16 * s + i) = 2
    · rcases hg i hi' with l | ⟨l, hl, gl⟩
      · obtain ⟨st', hI', hX⟩ := ih (i + 1) (by omega) st (sv_In hI (fun _ l' hl' q => absurd (l.symm.trans q) (by rw [nu_men (by omega)]; exact id)))
        refine ⟨st', hI', fun post n hn hp => ?_⟩
        obtain ⟨n, rfl⟩ : ∃ n', n = n' + 1 := ⟨n - 1, by omega⟩
        simp (disch := omega) only [wX_saveLinked_2, wX_saveLinked_45, wX_saveLinked_50, nu_b16, nu_k10, nu_m1lt, w2, l, nu_01, nu_40, nu_30, nu_20, nu_160, Int32.add_zero, Nat.reduceAdd, nu_m16, nu_16m, nu_m4, nu_4m, nu_m3, nu_3m, nu_m2, nu_2m, nI_1, nu_p2, nu_p3, nu_16p, nu_2p, nI_add, nu_cl, nu_in, Nat.add_zero, nu_l0, nu_l1, nu_l2, nu_l3, nu_l4, nu_i0_5, nu_i1_5, nu_i2_5, nu_i0_3, nu_i1_3, nu_i2_3, nu_n0, nu_n1, nu_na0, nu_na1, forall_eq, true_implies, false_implies, implies_true, not_true_eq_false, not_false_eq_true, and_true, true_and, and_self, true_or, or_true, false_or, or_false, false_and, and_false, eq_self]
        exact hX post n (by omega) hp
      · by_cases h1 : st (16 * s + l) = 1
        · obtain ⟨st', hI', hX⟩ := ih (i + 1) (by omega) _ (sv_Is hg hi' hI (Or.inl w2))
          refine ⟨st', hI', fun post n hn hp => ?_⟩
          obtain ⟨n, rfl⟩ : ∃ n', n = n' + 1 := ⟨n - 1, by omega⟩
          simp (disch := omega) only [wX_saveLinked_2, wX_saveLinked_45, wX_saveLinked_50, nu_b16, nu_k10, nu_neg, w2, gl, h1, hm, nu_01, nu_40, nu_30, nu_20, nu_160, Int32.add_zero, Nat.reduceAdd, nu_m16, nu_16m, nu_m4, nu_4m, nu_m3, nu_3m, nu_m2, nu_2m, nI_1, nu_p2, nu_p3, nu_16p, nu_2p, nI_add, nu_cl, nu_in, Nat.add_zero, nu_l0, nu_l1, nu_l2, nu_l3, nu_l4, nu_i0_5, nu_i1_5, nu_i2_5, nu_i0_3, nu_i1_3, nu_i2_3, nu_n0, nu_n1, nu_na0, nu_na1, forall_eq, true_implies, false_implies, implies_true, not_true_eq_false, not_false_eq_true, and_true, true_and, and_self, true_or, or_true, false_or, or_false, false_and, and_false, eq_self]
          refine vx_ch hs hE (Or.inr ⟨l, hl, rfl⟩) ?_
          have hx := hX post n (by omega) hp
          rw [gl] at hx
          simp (disch := omega) only [nu_01, nu_40, nu_30, nu_20, nu_160, Int32.add_zero, Nat.reduceAdd, nu_m16, nu_16m, nu_m4, nu_4m, nu_m3, nu_3m, nu_m2, nu_2m, nI_1, nu_p2, nu_p3, nu_16p, nu_2p, nI_add, nu_cl, nu_in, Nat.add_zero, nu_l0, nu_l1, nu_l2, nu_l3, nu_l4, nu_i0_5, nu_i1_5, nu_i2_5, nu_i0_3, nu_i1_3, nu_i2_3, nu_n0, nu_n1, nu_na0, nu_na1, forall_eq, true_implies, false_implies, implies_true, not_true_eq_false, not_false_eq_true, and_true, true_and, and_self, true_or, or_true, false_or, or_false, false_and, and_false, eq_self]
          exact hx
        · obtain ⟨st', hI', hX⟩ := ih (i + 1) (by omega) st (sv_In hI (fun _ l' hl' q => by
            have e : l = l' := (nI_eq (by omega) (by omega)).mp (gl.symm.trans q)
            rw [← e]
            exact h1))
          refine ⟨st', hI', fun post n hn hp => ?_⟩
          obtain ⟨n, rfl⟩ : ∃ n', n = n' + 1 := ⟨n - 1, by omega⟩
          simp (disch := omega) only [wX_saveLinked_2, wX_saveLinked_45, wX_saveLinked_50, nu_b16, nu_k10, nu_neg, w2, gl, h1, nu_01, nu_40, nu_30, nu_20, nu_160, Int32.add_zero, Nat.reduceAdd, nu_m16, nu_16m, nu_m4, nu_4m, nu_m3, nu_3m, nu_m2, nu_2m, nI_1, nu_p2, nu_p3, nu_16p, nu_2p, nI_add, nu_cl, nu_in, Nat.add_zero, nu_l0, nu_l1, nu_l2, nu_l3, nu_l4, nu_i0_5, nu_i1_5, nu_i2_5, nu_i0_3, nu_i1_3, nu_i2_3, nu_n0, nu_n1, nu_na0, nu_na1, forall_eq, true_implies, false_implies, implies_true, not_true_eq_false, not_false_eq_true, and_true, true_and, and_self, true_or, or_true, false_or, or_false, false_and, and_false, eq_self]
          exact hX post n (by omega) hp
    · by_cases wd : di_P st en sn (16 * s + i)
      · have wv := di_t wd
        rcases hg i hi' with l | ⟨l, hl, gl⟩
        · obtain ⟨st', hI', hX⟩ := ih (i + 1) (by omega) st (sv_In hI (fun _ l' hl' q => absurd (l.symm.trans q) (by rw [nu_men (by omega)]; exact id)))
          refine ⟨st', hI', fun post n hn hp => ?_⟩
          obtain ⟨n, rfl⟩ : ∃ n', n = n' + 1 := ⟨n - 1, by omega⟩
          simp (disch := omega) only [wX_saveLinked_2, wX_saveLinked_45, wX_saveLinked_50, vx_dir, nu_b16, nu_k10, nu_m1lt, w2, wv, l, nu_01, nu_40, nu_30, nu_20, nu_160, Int32.add_zero, Nat.reduceAdd, nu_m16, nu_16m, nu_m4, nu_4m, nu_m3, nu_3m, nu_m2, nu_2m, nI_1, nu_p2, nu_p3, nu_16p, nu_2p, nI_add, nu_cl, nu_in, Nat.add_zero, nu_l0, nu_l1, nu_l2, nu_l3, nu_l4, nu_i0_5, nu_i1_5, nu_i2_5, nu_i0_3, nu_i1_3, nu_i2_3, nu_n0, nu_n1, nu_na0, nu_na1, forall_eq, true_implies, false_implies, implies_true, not_true_eq_false, not_false_eq_true, and_true, true_and, and_self, true_or, or_true, false_or, or_false, false_and, and_false, eq_self]
          exact hX post n (by omega) hp
        · by_cases h1 : st (16 * s + l) = 1
          · obtain ⟨st', hI', hX⟩ := ih (i + 1) (by omega) _ (sv_Is hg hi' hI (Or.inr (hD.mp wd)))
            refine ⟨st', hI', fun post n hn hp => ?_⟩
            obtain ⟨n, rfl⟩ : ∃ n', n = n' + 1 := ⟨n - 1, by omega⟩
            simp (disch := omega) only [wX_saveLinked_2, wX_saveLinked_45, wX_saveLinked_50, vx_dir, nu_b16, nu_k10, nu_neg, w2, wv, gl, h1, hm, nu_01, nu_40, nu_30, nu_20, nu_160, Int32.add_zero, Nat.reduceAdd, nu_m16, nu_16m, nu_m4, nu_4m, nu_m3, nu_3m, nu_m2, nu_2m, nI_1, nu_p2, nu_p3, nu_16p, nu_2p, nI_add, nu_cl, nu_in, Nat.add_zero, nu_l0, nu_l1, nu_l2, nu_l3, nu_l4, nu_i0_5, nu_i1_5, nu_i2_5, nu_i0_3, nu_i1_3, nu_i2_3, nu_n0, nu_n1, nu_na0, nu_na1, forall_eq, true_implies, false_implies, implies_true, not_true_eq_false, not_false_eq_true, and_true, true_and, and_self, true_or, or_true, false_or, or_false, false_and, and_false, eq_self]
            refine vx_ch hs hE (Or.inr ⟨l, hl, rfl⟩) ?_
            have hx := hX post n (by omega) hp
            rw [gl] at hx
            simp (disch := omega) only [nu_01, nu_40, nu_30, nu_20, nu_160, Int32.add_zero, Nat.reduceAdd, nu_m16, nu_16m, nu_m4, nu_4m, nu_m3, nu_3m, nu_m2, nu_2m, nI_1, nu_p2, nu_p3, nu_16p, nu_2p, nI_add, nu_cl, nu_in, Nat.add_zero, nu_l0, nu_l1, nu_l2, nu_l3, nu_l4, nu_i0_5, nu_i1_5, nu_i2_5, nu_i0_3, nu_i1_3, nu_i2_3, nu_n0, nu_n1, nu_na0, nu_na1, forall_eq, true_implies, false_implies, implies_true, not_true_eq_false, not_false_eq_true, and_true, true_and, and_self, true_or, or_true, false_or, or_false, false_and, and_false, eq_self]
            exact hx
          · obtain ⟨st', hI', hX⟩ := ih (i + 1) (by omega) st (sv_In hI (fun _ l' hl' q => by
              have e : l = l' := (nI_eq (by omega) (by omega)).mp (gl.symm.trans q)
              rw [← e]
              exact h1))
            refine ⟨st', hI', fun post n hn hp => ?_⟩
            obtain ⟨n, rfl⟩ : ∃ n', n = n' + 1 := ⟨n - 1, by omega⟩
            simp (disch := omega) only [wX_saveLinked_2, wX_saveLinked_45, wX_saveLinked_50, vx_dir, nu_b16, nu_k10, nu_neg, w2, wv, gl, h1, nu_01, nu_40, nu_30, nu_20, nu_160, Int32.add_zero, Nat.reduceAdd, nu_m16, nu_16m, nu_m4, nu_4m, nu_m3, nu_3m, nu_m2, nu_2m, nI_1, nu_p2, nu_p3, nu_16p, nu_2p, nI_add, nu_cl, nu_in, Nat.add_zero, nu_l0, nu_l1, nu_l2, nu_l3, nu_l4, nu_i0_5, nu_i1_5, nu_i2_5, nu_i0_3, nu_i1_3, nu_i2_3, nu_n0, nu_n1, nu_na0, nu_na1, forall_eq, true_implies, false_implies, implies_true, not_true_eq_false, not_false_eq_true, and_true, true_and, and_self, true_or, or_true, false_or, or_false, false_and, and_false, eq_self]
            exact hX post n (by omega) hp
      · have wv := di_f wd
        obtain ⟨st', hI', hX⟩ := ih (i + 1) (by omega) st (sv_In hI (fun w => by
          rcases w with w | w
          · exact absurd w w2
          · exact absurd (hD.mpr w) wd))
        refine ⟨st', hI', fun post n hn hp => ?_⟩
        obtain ⟨n, rfl⟩ : ∃ n', n = n' + 1 := ⟨n - 1, by omega⟩
        simp (disch := omega) only [wX_saveLinked_2, wX_saveLinked_45, wX_saveLinked_50, vx_dir, nu_b16, w2, wv, nu_01, nu_40, nu_30, nu_20, nu_160, Int32.add_zero, Nat.reduceAdd, nu_m16, nu_16m, nu_m4, nu_4m, nu_m3, nu_3m, nu_m2, nu_2m, nI_1, nu_p2, nu_p3, nu_16p, nu_2p, nI_add, nu_cl, nu_in, Nat.add_zero, nu_l0, nu_l1, nu_l2, nu_l3, nu_l4, nu_i0_5, nu_i1_5, nu_i2_5, nu_i0_3, nu_i1_3, nu_i2_3, nu_n0, nu_n1, nu_na0, nu_na1, forall_eq, true_implies, false_implies, implies_true, not_true_eq_false, not_false_eq_true, and_true, true_and, and_self, true_or, or_true, false_or, or_false, false_and, and_false, eq_self]
        exact hX post n (by omega) hp
/-- without UP: the first that links to a TRANSIENT one -/
theorem vx_sn {s : Nat} {st : Nat → Int32} (hs : s < 3) (hE : re_E en) (hm : md 0 = 0) : ∀ (d i : Nat), i + d = 16 → (∀ j, j < i → ¬ sa_O s st en sn j) →
    ∃ r, sa_V s st en sn r ∧ (∀ (post : Int32 → SX → Prop) n, d < n → post r (sc, fc, cc, rq, md, bk, ct, rt, rc, lk, wt, wc, ch, st, en, sn, sk, sr, fr, lf, cr, rr) → wX_saveLinked_2 post (nI s) n (nI i) sc fc cc rq md bk ct rt rc lk wt wc ch st en sn sk sr fr lf cr rr) := by
  have hg : ∀ j, j < 16 → re_L (en (4 * (16 * s + j) + 2)) := fun j hj => hE (16 * s + j) (by omega)
  intro d
  induction d with
  | zero =>
    intro i hi hI
    refine ⟨0, Or.inr ⟨rfl, fun j hj => hI j (by omega)⟩, fun post n hn hp => ?_⟩
    obtain ⟨n, rfl⟩ : ∃ n', n = n' + 1 := ⟨n - 1, by omega⟩
    simp (disch := omega) only [wX_saveLinked_2, nu_a16, forall_eq, true_implies, false_implies, implies_true, not_true_eq_false, not_false_eq_true, and_true, true_and, and_self, true_or, or_true, false_or, or_false, false_and, and_false, eq_self]
    exact hp
  | succ d ih =>
    intro i hi hI
    have hi' : i < 16 := by omega
    have hgi := hg i hi'
    by_cases o : sa_O s st en sn i
    · refine ⟨-7, Or.inl ⟨rfl, i, hi', o⟩, fun post n hn hp => ?_⟩
      obtain ⟨n, rfl⟩ : ∃ n', n = n' + 1 := ⟨n - 1, by omega⟩
      obtain ⟨w, l, hl, gl, h1⟩ := o
      by_cases w2 : st (16 * s + i) = 2
      · simp (disch := omega) only [wX_saveLinked_2, wX_saveLinked_45, wX_saveLinked_50, nu_b16, nu_k10, nu_neg, w2, gl, h1, hm, nu_01, nu_40, nu_30, nu_20, nu_160, Int32.add_zero, Nat.reduceAdd, nu_m16, nu_16m, nu_m4, nu_4m, nu_m3, nu_3m, nu_m2, nu_2m, nI_1, nu_p2, nu_p3, nu_16p, nu_2p, nI_add, nu_cl, nu_in, Nat.add_zero, nu_l0, nu_l1, nu_l2, nu_l3, nu_l4, nu_i0_5, nu_i1_5, nu_i2_5, nu_i0_3, nu_i1_3, nu_i2_3, nu_n0, nu_n1, nu_na0, nu_na1, forall_eq, true_implies, false_implies, implies_true, not_true_eq_false, not_false_eq_true, and_true, true_and, and_self, true_or, or_true, false_or, or_false, false_and, and_false, eq_self]
        exact hp
      · have wv := di_t (w.resolve_left w2)
        simp (disch := omega) only [wX_saveLinked_2, wX_saveLinked_45, wX_saveLinked_50, vx_dir, nu_b16, nu_k10, nu_neg, w2, wv, gl, h1, hm, nu_01, nu_40, nu_30, nu_20, nu_160, Int32.add_zero, Nat.reduceAdd, nu_m16, nu_16m, nu_m4, nu_4m, nu_m3, nu_3m, nu_m2, nu_2m, nI_1, nu_p2, nu_p3, nu_16p, nu_2p, nI_add, nu_cl, nu_in, Nat.add_zero, nu_l0, nu_l1, nu_l2, nu_l3, nu_l4, nu_i0_5, nu_i1_5, nu_i2_5, nu_i0_3, nu_i1_3, nu_i2_3, nu_n0, nu_n1, nu_na0, nu_na1, forall_eq, true_implies, false_implies, implies_true, not_true_eq_false, not_false_eq_true, and_true, true_and, and_self, true_or, or_true, false_or, or_false, false_and, and_false, eq_self]
        exact hp
    · obtain ⟨r, hV, hX⟩ := ih (i + 1) (by omega) (fun j hj => by
        by_cases q : j = i
        · subst q
          exact o
        · exact hI j (by omega))
      refine ⟨r, hV, fun post n hn hp => ?_⟩
      have hx := hX post
      obtain ⟨n, rfl⟩ : ∃ n', n = n' + 1 := ⟨n - 1, by omega⟩
      by_cases w2 : st (16 * s + i) = 2
      · rcases hgi with l | ⟨l, hl, gl⟩
        · simp (disch := omega) only [wX_saveLinked_2, wX_saveLinked_45, wX_saveLinked_50, nu_b16, nu_k10, nu_m1lt, w2, l, nu_01, nu_40, nu_30, nu_20, nu_160, Int32.add_zero, Nat.reduceAdd, nu_m16, nu_16m, nu_m4, nu_4m, nu_m3, nu_3m, nu_m2, nu_2m, nI_1, nu_p2, nu_p3, nu_16p, nu_2p, nI_add, nu_cl, nu_in, Nat.add_zero, nu_l0, nu_l1, nu_l2, nu_l3, nu_l4, nu_i0_5, nu_i1_5, nu_i2_5, nu_i0_3, nu_i1_3, nu_i2_3, nu_n0, nu_n1, nu_na0, nu_na1, forall_eq, true_implies, false_implies, implies_true, not_true_eq_false, not_false_eq_true, and_true, true_and, and_self, true_or, or_true, false_or, or_false, false_and, and_false, eq_self]
          exact hX post n (by omega) hp
        · have h1 : ¬ st (16 * s + l) = 1 := fun q => o ⟨Or.inl w2, l, hl, gl, q⟩
          simp (disch := omega) only [wX_saveLinked_2, wX_saveLinked_45, wX_saveLinked_50, nu_b16, nu_k10, nu_neg, w2, gl, h1, nu_01, nu_40, nu_30, nu_20, nu_160, Int32.add_zero, Nat.reduceAdd, nu_m16, nu_16m, nu_m4, nu_4m, nu_m3, nu_3m, nu_m2, nu_2m, nI_1, nu_p2, nu_p3, nu_16p, nu_2p, nI_add, nu_cl, nu_in, Nat.add_zero, nu_l0, nu_l1, nu_l2, nu_l3, nu_l4, nu_i0_5, nu_i1_5, nu_i2_5, nu_i0_3, nu_i1_3, nu_i2_3, nu_n0, nu_n1, nu_na0, nu_na1, forall_eq, true_implies, false_implies, implies_true, not_true_eq_false, not_false_eq_true, and_true, true_and, and_self, true_or, or_true, false_or, or_false, false_and, and_false, eq_self]
          exact hX post n (by omega) hp
      · by_cases wd : di_P st en sn (16 * s + i)
        · have wv := di_t wd
          rcases hgi with l | ⟨l, hl, gl⟩
          · simp (disch := omega) only [wX_saveLinked_2, wX_saveLinked_45, wX_saveLinked_50, vx_dir, nu_b16, nu_k10, nu_m1lt, w2, wv, l, nu_01, nu_40, nu_30, nu_20, nu_160, Int32.add_zero, Nat.reduceAdd, nu_m16, nu_16m, nu_m4, nu_4m, nu_m3, nu_3m, nu_m2, nu_2m, nI_1, nu_p2, nu_p3, nu_16p, nu_2p, nI_add, nu_cl, nu_in, Nat.add_zero, nu_l0, nu_l1, nu_l2, nu_l3, nu_l4, nu_i0_5, nu_i1_5, nu_i2_5, nu_i0_3, nu_i1_3, nu_i2_3, nu_n0, nu_n1, nu_na0, nu_na1, forall_eq, true_implies, false_implies, implies_true, not_true_eq_false, not_false_eq_true, and_true, true_and, and_self, true_or, or_true, false_or, or_false, false_and, and_false, eq_self]
            exact hX post n (by omega) hp
          · have h1 : ¬ st (16 * s + l) = 1 := fun q => o ⟨Or.inr wd, l, hl, gl, q⟩
            simp (disch := omega) only [wX_saveLinked_2, wX_saveLinked_45, wX_saveLinked_50, vx_dir, nu_b16, nu_k10, nu_neg, w2, wv, gl, h1, nu_01, nu_40, nu_30, nu_20, nu_160, Int32.add_zero, Nat.reduceAdd, nu_m16, nu_16m, nu_m4, nu_4m, nu_m3, nu_3m, nu_m2, nu_2m, nI_1, nu_p2, nu_p3, nu_16p, nu_2p, nI_add, nu_cl, nu_in, Nat.add_zero, nu_l0, nu_l1, nu_l2, nu_l3, nu_l4, nu_i0_5, nu_i1_5, nu_i2_5, nu_i0_3, nu_i1_3, nu_i2_3, nu_n0, nu_n1, nu_na0, nu_na1, forall_eq, true_implies, false_implies, implies_true, not_true_eq_false, not_false_eq_true, and_true, true_and, and_self, true_or, or_true, false_or, or_false, false_and, and_false, eq_self]
            exact hX post n (by omega) hp
        · have wv := di_f wd
          simp (disch := omega) only [wX_saveLinked_2, wX_saveLinked_45, wX_saveLinked_50, vx_dir, nu_b16, w2, wv, nu_01, nu_40, nu_30, nu_20, nu_160, Int32.add_zero, Nat.reduceAdd, nu_m16, nu_16m, nu_m4, nu_4m, nu_m3, nu_3m, nu_m2, nu_2m, nI_1, nu_p2, nu_p3, nu_16p, nu_2p, nI_add, nu_cl, nu_in, Nat.add_zero, nu_l0, nu_l1, nu_l2, nu_l3, nu_l4, nu_i0_5, nu_i1_5, nu_i2_5, nu_i0_3, nu_i1_3, nu_i2_3, nu_n0, nu_n1, nu_na0, nu_na1, forall_eq, true_implies, false_implies, implies_true, not_true_eq_false, not_false_eq_true, and_true, true_and, and_self, true_or, or_true, false_or, or_false, false_and, and_false, eq_self]
          exact hX post n (by omega) hp
end
