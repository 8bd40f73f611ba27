section
variable {sc fc : Int32} {md bk ct lk ch en sn fr th ro nw bf ve yl la od sm : Nat → Int32}
/-- one of the reference's sweeps -/
theorem vy_sw {s : Nat} {st0 st1 : Nat → Int32} {post : Int32 → SY → Prop} (hs : s < 3) (hE : re_E en) (hN0 : re_N st0 en nw) (hS : re_S sn bf) (hm : ¬ md 0 = 0) : ∀ (d i : Nat), i + d = 16 → ∀ (x : Int32) (st : Nat → Int32), sv_X s st0 st → sv_M s (fun j => di_P st0 en sn (16 * s + j)) (fun j => en (4 * (16 * s + j) + 2)) st0 st →
    ((x = 0 ∧ st = st1 ∧ ∀ j, j < i → (st1 (16 * s + j) = 2 ∨ di_P st0 en sn (16 * s + j)) → ∀ l, l < 16 → en (4 * (16 * s + j) + 2) = nI l → ¬ st1 (16 * s + l) = 1) ∨ (x = 1 ∧ sv_1 s st < sv_1 s st1)) →
    ∃ (x' : Int32) (st' : Nat → Int32), sv_X s st0 st' ∧ sv_M s (fun j => di_P st0 en sn (16 * s + j)) (fun j => en (4 * (16 * s + j) + 2)) st0 st' ∧
      ((x' = 0 ∧ sv_C s (fun j => di_P st0 en sn (16 * s + j)) (fun j => en (4 * (16 * s + j) + 2)) st') ∨ (x' = 1 ∧ sv_1 s st' < sv_1 s st1)) ∧
      (∀ (J : Int32 → (Nat → Int32) → (Nat → Int32) → (Nat → Int32) → (Nat → Int32) → (Nat → Int32) → (Nat → Int32) → (Nat → Int32) → (Nat → Int32) → (Nat → Int32) → (Nat → Int32) → (Nat → Int32) → (Nat → Int32) → (Nat → Int32) → (Nat → Int32) → (Nat → Int32) → (Nat → Int32) → Prop) n, d < n → J x' th ch ro lk st' nw bf ve bk md yl la od sm fr ct → wY_save_13 post J (nI s) sc fc n x (nI (16 * s + i)) th ch ro lk st nw bf ve bk md yl la od sm fr ct) := by
  have hg : ∀ j, j < 16 → re_L (en (4 * (16 * s + j) + 2)) := fun j hj => hE (16 * s + j) (by omega)
  intro d
  induction d with
  | zero =>
    intro i hi x st hx hM hc
    refine ⟨x, st, hx, hM, ?_, fun J n hn hp => ?_⟩
    · rcases hc with ⟨q1, q2, q3⟩ | q
      · refine Or.inl ⟨q1, ?_⟩
        rw [q2]
        exact fun j hj => q3 j (by omega)
      · exact Or.inr q
    · obtain ⟨n, rfl⟩ : ∃ n', n = n' + 1 := ⟨n - 1, by omega⟩
      have z : 16 * s + 16 ≤ 16 * s + i := by omega
      simp (disch := omega) only [wY_save_13, nu_16m, nu_p16, nu_le, z, forall_eq, true_implies, false_implies, implies_true, not_true_eq_false, not_false_eq_true, and_true, true_and, and_self, true_or, or_true, false_or, or_false, false_and, and_false, eq_self]
      exact hp
  | succ d ih =>
    intro i hi x st hx hM hc
    have hi' : i < 16 := by omega
    have z : ¬ 16 * s + 16 ≤ 16 * s + i := by omega
    have hD := sv_D (en := en) (sn := sn) hx (16 * s + i)
    have hN := sv_N hx hN0
    have hgi := hg i hi'
    have nx : ∀ (h : (st (16 * s + i) = 2 ∨ di_P st0 en sn (16 * s + i)) → ∀ l, l < 16 → en (4 * (16 * s + i) + 2) = nI l → ¬ st (16 * s + l) = 1), ((x = 0 ∧ st = st1 ∧ ∀ j, j < i + 1 → (st1 (16 * s + j) = 2 ∨ di_P st0 en sn (16 * s + j)) → ∀ l, l < 16 → en (4 * (16 * s + j) + 2) = nI l → ¬ st1 (16 * s + l) = 1) ∨ (x = 1 ∧ sv_1 s st < sv_1 s st1)) := by
      intro h
      rcases hc with ⟨q1, q2, q3⟩ | q
      · refine Or.inl ⟨q1, q2, fun j hj => ?_⟩
        by_cases e : j = i
        · subst e
          rw [← q2]
          exact h
        · exact q3 j (by omega)
      · exact Or.inr q
    by_cases w : st (16 * s + i) = 2 ∨ di_P st en sn (16 * s + i)
    · have n0 : ¬ st (16 * s + i) = 0 := by
        rcases w with w | w
        · rw [w]; decide
        · rw [w.1]; decide
      have n3 : ¬ st (16 * s + i) = 3 := by
        rcases w with w | w
        · rw [w]; decide
        · rw [w.1]; decide
      have en2 := hN (16 * s + i) (by omega) n0 n3 2 (by decide)
      rcases hgi with l | ⟨l, hl, gl⟩
      · rw [l] at en2
        obtain ⟨x', st', a1, a2, a3, hY⟩ := ih (i + 1) (by omega) x st hx hM (nx (fun _ l' hl' q => absurd (l.symm.trans q) (by rw [nu_men (by omega)]; exact id)))
        refine ⟨x', st', a1, a2, a3, fun J n hn hp => ?_⟩
        obtain ⟨n, rfl⟩ : ∃ n', n = n' + 1 := ⟨n - 1, by omega⟩
        simp (disch := omega) only [wY_save_13, nu_p16, nu_le, z, ← en2, nu_01, nu_40, nu_30, nu_20, nu_160, Int32.add_zero, Nat.reduceAdd, nu_m16, nu_16m, nu_m4, nu_4m, nu_m3, nu_3m, nu_m2, nu_2m, nI_1, nu_p2, nu_p3, nu_16p, nu_2p, nI_add, nu_cl, nu_in, Nat.add_zero, nu_l0, nu_l1, nu_l2, nu_l3, nu_l4, nu_i0_5, nu_i1_5, nu_i2_5, nu_i0_3, nu_i1_3, nu_i2_3, nu_n0, nu_n1, nu_na0, nu_na1, forall_eq, true_implies, false_implies, implies_true, not_true_eq_false, not_false_eq_true, and_true, true_and, and_self, true_or, or_true, false_or, or_false, false_and, and_false, eq_self]
        refine vy_dir (by omega) hN hS ?_
        by_cases w2 : st (16 * s + i) = 2
        · simp (disch := omega) only [wY_save_63, w2, nu_lm, nu_01, nu_40, nu_30, nu_20, nu_160, Int32.add_zero, Nat.reduceAdd, nu_m16, nu_16m, nu_m4, nu_4m, nu_m3, nu_3m, nu_m2, nu_2m, nI_1, nu_p2, nu_p3, nu_16p, nu_2p, nI_add, nu_cl, nu_in, Nat.add_zero, nu_l0, nu_l1, nu_l2, nu_l3, nu_l4, nu_i0_5, nu_i1_5, nu_i2_5, nu_i0_3, nu_i1_3, nu_i2_3, nu_n0, nu_n1, nu_na0, nu_na1, forall_eq, true_implies, false_implies, implies_true, not_true_eq_false, not_false_eq_true, and_true, true_and, and_self, true_or, or_true, false_or, or_false, false_and, and_false, eq_self]
          exact hY J n (by omega) hp
        · have wv := di_t (w.resolve_left w2)
          simp (disch := omega) only [wY_save_63, w2, wv, nu_k10, nu_lm, nu_01, nu_40, nu_30, nu_20, nu_160, Int32.add_zero, Nat.reduceAdd, nu_m16, nu_16m, nu_m4, nu_4m, nu_m3, nu_3m, nu_m2, nu_2m, nI_1, nu_p2, nu_p3, nu_16p, nu_2p, nI_add, nu_cl, nu_in, Nat.add_zero, nu_l0, nu_l1, nu_l2, nu_l3, nu_l4, nu_i0_5, nu_i1_5, nu_i2_5, nu_i0_3, nu_i1_3, nu_i2_3, nu_n0, nu_n1, nu_na0, nu_na1, forall_eq, true_implies, false_implies, implies_true, not_true_eq_false, not_false_eq_true, and_true, true_and, and_self, true_or, or_true, false_or, or_false, false_and, and_false, eq_self]
          exact hY J n (by omega) hp
      · rw [gl] at en2
        by_cases h1 : st (16 * s + l) = 1
        · have hf : ∀ st', sv_X s st0 st' → sv_C s (fun j => di_P st0 en sn (16 * s + j)) (fun j => en (4 * (16 * s + j) + 2)) st' → ¬ st' (16 * s + l) = 1 := by
            intro st' x' c'
            refine c' i hi' ?_ l hl gl
            rcases w with w | w
            · exact Or.inl (hM st' x' c' _ w)
            · exact Or.inr (hD.mp w)
          have hlt : sv_1 s (upd st (16 * s + l) 2) < sv_1 s st1 := by
            have := sv_1u (s := s) hl h1
            rcases hc with ⟨_, q2, _⟩ | q
            · rw [← q2]
              exact this
            · have := q.2
              omega
          obtain ⟨x', st', a1, a2, a3, hY⟩ := ih (i + 1) (by omega) 1 (upd st (16 * s + l) 2) (sv_X1 hx hl h1) (sv_M1 hM hx h1 hf) (Or.inr ⟨rfl, hlt⟩)
          refine ⟨x', st', a1, a2, a3, fun J n hn hp => ?_⟩
          obtain ⟨n, rfl⟩ : ∃ n', n = n' + 1 := ⟨n - 1, by omega⟩
          simp (disch := omega) only [wY_save_13, nu_p16, nu_le, z, ← en2, nu_01, nu_40, nu_30, nu_20, nu_160, Int32.add_zero, Nat.reduceAdd, nu_m16, nu_16m, nu_m4, nu_4m, nu_m3, nu_3m, nu_m2, nu_2m, nI_1, nu_p2, nu_p3, nu_16p, nu_2p, nI_add, nu_cl, nu_in, Nat.add_zero, nu_l0, nu_l1, nu_l2, nu_l3, nu_l4, nu_i0_5, nu_i1_5, nu_i2_5, nu_i0_3, nu_i1_3, nu_i2_3, nu_n0, nu_n1, nu_na0, nu_na1, forall_eq, true_implies, false_implies, implies_true, not_true_eq_false, not_false_eq_true, and_true, true_and, and_self, true_or, or_true, false_or, or_false, false_and, and_false, eq_self]
          refine vy_dir (by omega) hN hS ?_
          by_cases w2 : st (16 * s + i) = 2
          · simp (disch := omega) only [wY_save_63, w2, h1, hm, nu_nl, nu_01, nu_40, nu_30, nu_20, nu_160, Int32.add_zero, Nat.reduceAdd, nu_m16, nu_16m, nu_m4, nu_4m, nu_m3, nu_3m, nu_m2, nu_2m, nI_1, nu_p2, nu_p3, nu_16p, nu_2p, nI_add, nu_cl, nu_in, Nat.add_zero, nu_l0, nu_l1, nu_l2, nu_l3, nu_l4, nu_i0_5, nu_i1_5, nu_i2_5, nu_i0_3, nu_i1_3, nu_i2_3, nu_n0, nu_n1, nu_na0, nu_na1, forall_eq, true_implies, false_implies, implies_true, not_true_eq_false, not_false_eq_true, and_true, true_and, and_self, true_or, or_true, false_or, or_false, false_and, and_false, eq_self]
            exact hY J n (by omega) hp
          · have wv := di_t (w.resolve_left w2)
            simp (disch := omega) only [wY_save_63, w2, wv, h1, hm, nu_k10, nu_nl, nu_01, nu_40, nu_30, nu_20, nu_160, Int32.add_zero, Nat.reduceAdd, nu_m16, nu_16m, nu_m4, nu_4m, nu_m3, nu_3m, nu_m2, nu_2m, nI_1, nu_p2, nu_p3, nu_16p, nu_2p, nI_add, nu_cl, nu_in, Nat.add_zero, nu_l0, nu_l1, nu_l2, nu_l3, nu_l4, nu_i0_5, nu_i1_5, nu_i2_5, nu_i0_3, nu_i1_3, nu_i2_3, nu_n0, nu_n1, nu_na0, nu_na1, forall_eq, true_implies, false_implies, implies_true, not_true_eq_false, not_false_eq_true, and_true, true_and, and_self, true_or, or_true, false_or, or_false, false_and, and_false, eq_self]
            exact hY J n (by omega) hp
        · obtain ⟨x', st', a1, a2, a3, hY⟩ := ih (i + 1) (by omega) x st hx hM (nx (fun _ l' hl' q => by
            have e : l = l' := (nI_eq (by omega) (by omega)).mp (gl.symm.trans q)
            rw [← e]
            exact h1))
          refine ⟨x', st', a1, a2, a3, fun J n hn hp => ?_⟩
          obtain ⟨n, rfl⟩ : ∃ n', n = n' + 1 := ⟨n - 1, by omega⟩
          simp (disch := omega) only [wY_save_13, nu_p16, nu_le, z, ← en2, nu_01, nu_40, nu_30, nu_20, nu_160, Int32.add_zero, Nat.reduceAdd, nu_m16, nu_16m, nu_m4, nu_4m, nu_m3, nu_3m, nu_m2, nu_2m, nI_1, nu_p2, nu_p3, nu_16p, nu_2p, nI_add, nu_cl, nu_in, Nat.add_zero, nu_l0, nu_l1, nu_l2, nu_l3, nu_l4, nu_i0_5, nu_i1_5, nu_i2_5, nu_i0_3, nu_i1_3, nu_i2_3, nu_n0, nu_n1, nu_na0, nu_na1, forall_eq, true_implies, false_implies, implies_true, not_true_eq_false, not_false_eq_true, and_true, true_and, and_self, true_or, or_true, false_or, or_false, false_and, and_false, eq_self]
          refine vy_dir (by omega) hN hS ?_
          by_cases w2 : st (16 * s + i) = 2
          · simp (disch := omega) only [wY_save_63, w2, h1, nu_nl, nu_01, nu_40, nu_30, nu_20, nu_160, Int32.add_zero, Nat.reduceAdd, nu_m16, nu_16m, nu_m4, nu_4m, nu_m3, nu_3m, nu_m2, nu_2m, nI_1, nu_p2, nu_p3, nu_16p, nu_2p, nI_add, nu_cl, nu_in, Nat.add_zero, nu_l0, nu_l1, nu_l2, nu_l3, nu_l4, nu_i0_5, nu_i1_5, nu_i2_5, nu_i0_3, nu_i1_3, nu_i2_3, nu_n0, nu_n1, nu_na0, nu_na1, forall_eq, true_implies, false_implies, implies_true, not_true_eq_false, not_false_eq_true, and_true, true_and, and_self, true_or, or_true, false_or, or_false, false_and, and_false, eq_self]
            exact hY J n (by omega) hp
          · have wv := di_t (w.resolve_left w2)
            simp (disch := omega) only [wY_save_63, w2, wv, h1, nu_k10, nu_nl, nu_01, nu_40, nu_30, nu_20, nu_160, Int32.add_zero, Nat.reduceAdd, nu_m16, nu_16m, nu_m4, nu_4m, nu_m3, nu_3m, nu_m2, nu_2m, nI_1, nu_p2, nu_p3, nu_16p, nu_2p, nI_add, nu_cl, nu_in, Nat.add_zero, nu_l0, nu_l1, nu_l2, nu_l3, nu_l4, nu_i0_5, nu_i1_5, nu_i2_5, nu_i0_3, nu_i1_3, nu_i2_3, nu_n0, nu_n1, nu_na0, nu_na1, forall_eq, true_implies, false_implies, implies_true, not_true_eq_false, not_false_eq_true, and_true, true_and, and_self, true_or, or_true, false_or, or_false, false_and, and_false, eq_self]
            exact hY J n (by omega) hp
    · have w2 : ¬ st (16 * s + i) = 2 := fun q => w (Or.inl q)
      have wv := di_f (fun q => w (Or.inr q))
      obtain ⟨x', st', a1, a2, a3, hY⟩ := ih (i + 1) (by omega) x st hx hM (nx (fun q => absurd (by
        rcases q with q | q
        · exact Or.inl q
        · exact Or.inr (hD.mpr q)) w))
      refine ⟨x', st', a1, a2, a3, fun J n hn hp => ?_⟩
      obtain ⟨n, rfl⟩ : ∃ n', n = n' + 1 := ⟨n - 1, by omega⟩
      simp (disch := omega) only [wY_save_13, nu_p16, nu_le, z, nu_01, nu_40, nu_30, nu_20, nu_160, Int32.add_zero, Nat.reduceAdd, nu_m16, nu_16m, nu_m4, nu_4m, nu_m3, nu_3m, nu_m2, nu_2m, nI_1, nu_p2, nu_p3, nu_16p, nu_2p, nI_add, nu_cl, nu_in, Nat.add_zero, nu_l0, nu_l1, nu_l2, nu_l3, nu_l4, nu_i0_5, nu_i1_5, nu_i2_5, nu_i0_3, nu_i1_3, nu_i2_3, nu_n0, nu_n1, nu_na0, nu_na1, forall_eq, true_implies, false_implies, implies_true, not_true_eq_false, not_false_eq_true, and_true, true_and, and_self, true_or, or_true, false_or, or_false, false_and, and_false, eq_self]
      refine vy_dir (by omega) hN hS ?_
      simp (disch := omega) only [w2, wv, nu_01, nu_40, nu_30, nu_20, nu_160, Int32.add_zero, Nat.reduceAdd, nu_m16, nu_16m, nu_m4, nu_4m, nu_m3, nu_3m, nu_m2, nu_2m, nI_1, nu_p2, nu_p3, nu_16p, nu_2p, nI_add, nu_cl, nu_in, Nat.add_zero, nu_l0, nu_l1, nu_l2, nu_l3, nu_l4, nu_i0_5, nu_i1_5, nu_i2_5, nu_i0_3, nu_i1_3, nu_i2_3, nu_n0, nu_n1, nu_na0, nu_na1, forall_eq, true_implies, false_implies, implies_true, not_true_eq_false, not_false_eq_true, and_true, true_and, and_self, true_or, or_true, false_or, or_false, false_and, and_false, eq_self]
      exact hY J n (by omega) hp
theorem vy_sl {s : Nat} {st0 : Nat → Int32} (hs : s < 3) (hE : re_E en) (hN0 : re_N st0 en nw) (hS : re_S sn bf) (hm : ¬ md 0 = 0) : ∀ (d : Nat) (st : Nat → Int32), sv_1 s st ≤ d → sv_X s st0 st → sv_M s (fun j => di_P st0 en sn (16 * s + j)) (fun j => en (4 * (16 * s + j) + 2)) st0 st →
    ∃ st', sv_X s st0 st' ∧ sv_M s (fun j => di_P st0 en sn (16 * s + j)) (fun j => en (4 * (16 * s + j) + 2)) st0 st' ∧ sv_C s (fun j => di_P st0 en sn (16 * s + j)) (fun j => en (4 * (16 * s + j) + 2)) st' ∧
      (∀ (post : Int32 → SY → Prop) n, d + 1 < n → post 0 (sc, fc, th, ch, ro, lk, st', nw, bf, ve, bk, md, yl, la, od, sm, fr, ct) → wY_save_2 post (nI s) sc fc n 1 th ch ro lk st nw bf ve bk md yl la od sm fr ct) := by
  intro d
  induction d with
  | zero =>
    intro st h1 hx hM
    have hw := fun post => vy_sw (sc := sc) (fc := fc) (md := md) (bk := bk) (ct := ct) (lk := lk) (ch := ch) (fr := fr) (th := th) (ro := ro) (ve := ve) (yl := yl) (la := la) (od := od) (sm := sm) (post := post) (st1 := st) hs hE hN0 hS hm 16 0 rfl 0 st hx hM (Or.inl ⟨rfl, rfl, fun j hj => by omega⟩)
    obtain ⟨x', st', a1, a2, a3, _⟩ := hw (fun _ _ => True)
    have hC : sv_C s (fun j => di_P st0 en sn (16 * s + j)) (fun j => en (4 * (16 * s + j) + 2)) st := fun j hj w l hl gl => sv_10 (s := s) (st := st) (by omega) l hl
    refine ⟨st, hx, hM, hC, fun post n hn hp => ?_⟩
    obtain ⟨x', st', a1, a2, a3, hY⟩ := hw post
    obtain ⟨n, rfl⟩ : ∃ n', n = n' + 1 := ⟨n - 1, by omega⟩
    simp (disch := omega) only [wY_save_2, nu_k10, nu_01, nu_40, nu_30, nu_20, nu_160, Int32.add_zero, Nat.reduceAdd, nu_m16, nu_16m, nu_m4, nu_4m, nu_m3, nu_3m, nu_m2, nu_2m, nI_1, nu_p2, nu_p3, nu_16p, nu_2p, nI_add, nu_cl, nu_in, Nat.add_zero, nu_l0, nu_l1, nu_l2, nu_l3, nu_l4, nu_i0_5, nu_i1_5, nu_i2_5, nu_i0_3, nu_i1_3, nu_i2_3, nu_n0, nu_n1, nu_na0, nu_na1, forall_eq, true_implies, false_implies, implies_true, not_true_eq_false, not_false_eq_true, and_true, true_and, and_self, true_or, or_true, false_or, or_false, false_and, and_false, eq_self]
    refine ⟨17, hY _ 17 (by decide) ?_⟩
    rcases a3 with ⟨rfl, c3⟩ | ⟨_, q⟩
    · obtain ⟨n, rfl⟩ : ∃ n', n = n' + 1 := ⟨n - 1, by omega⟩
      rw [sv_uniq a1 c3 a2 hx hC hM]
      simp only [wY_save_2, forall_eq, true_implies, false_implies, implies_true, not_true_eq_false, not_false_eq_true, and_true, true_and, and_self, true_or, or_true, false_or, or_false, false_and, and_false, eq_self]
      exact hp
    · omega
  | succ d ih =>
    intro st h1 hx hM
    have hw := fun post => vy_sw (sc := sc) (fc := fc) (md := md) (bk := bk) (ct := ct) (lk := lk) (ch := ch) (fr := fr) (th := th) (ro := ro) (ve := ve) (yl := yl) (la := la) (od := od) (sm := sm) (post := post) (st1 := st) hs hE hN0 hS hm 16 0 rfl 0 st hx hM (Or.inl ⟨rfl, rfl, fun j hj => by omega⟩)
    obtain ⟨x', st', a1, a2, a3, _⟩ := hw (fun _ _ => True)
    have key : ∃ st2, sv_X s st0 st2 ∧ sv_M s (fun j => di_P st0 en sn (16 * s + j)) (fun j => en (4 * (16 * s + j) + 2)) st0 st2 ∧ sv_C s (fun j => di_P st0 en sn (16 * s + j)) (fun j => en (4 * (16 * s + j) + 2)) st2 := by
      rcases a3 with ⟨_, c3⟩ | ⟨_, q⟩
      · exact ⟨st', a1, a2, c3⟩
      · obtain ⟨st2, b1, b2, b3, _⟩ := ih st' (by omega) a1 a2
        exact ⟨st2, b1, b2, b3⟩
    obtain ⟨st2, b1, b2, b3⟩ := key
    refine ⟨st2, b1, b2, b3, fun post n hn hp => ?_⟩
    obtain ⟨x', st', a1, a2, a3, hY⟩ := hw post
    obtain ⟨n, rfl⟩ : ∃ n', n = n' + 1 := ⟨n - 1, by omega⟩
    simp (disch := omega) only [wY_save_2, nu_k10, nu_01, nu_40, nu_30, nu_20, nu_160, Int32.add_zero, Nat.reduceAdd, nu_m16, nu_16m, nu_m4, nu_4m, nu_m3, nu_3m, nu_m2, nu_2m, nI_1, nu_p2, nu_p3, nu_16p, nu_2p, nI_add, nu_cl, nu_in, Nat.add_zero, nu_l0, nu_l1, nu_l2, nu_l3, nu_l4, nu_i0_5, nu_i1_5, nu_i2_5, nu_i0_3, nu_i1_3, nu_i2_3, nu_n0, nu_n1, nu_na0, nu_na1, forall_eq, true_implies, false_implies, implies_true, not_true_eq_false, not_false_eq_true, and_true, true_and, and_self, true_or, or_true, false_or, or_false, false_and, and_false, eq_self]
    refine ⟨17, hY _ 17 (by decide) ?_⟩
    rcases a3 with ⟨rfl, c3⟩ | ⟨rfl, q⟩
    · obtain ⟨n, rfl⟩ : ∃ n', n = n' + 1 := ⟨n - 1, by omega⟩
      rw [sv_uniq a1 c3 a2 b1 b3 b2]
      simp only [wY_save_2, forall_eq, true_implies, false_implies, implies_true, not_true_eq_false, not_false_eq_true, and_true, true_and, and_self, true_or, or_true, false_or, or_false, false_and, and_false, eq_self]
      exact hp
    · obtain ⟨st3, d1, d2, d3, hY3⟩ := ih st' (by omega) a1 a2
      refine hY3 post n (by omega) ?_
      rw [sv_uniq d1 d3 d2 b1 b3 b2]
      exact hp
theorem vy_sn {s : Nat} {st : Nat → Int32} (hs : s < 3) (hE : re_E en) (hN : re_N st en nw) (hS : re_S sn bf) (hm : md 0 = 0) : ∀ (d i : Nat), i + d = 16 → (∀ j, j < i → ¬ sa_O s st en sn j) →
    ∃ r, sa_V s st en sn r ∧ (∀ (post : Int32 → SY → Prop) J n, d < n → post r (sc, fc, th, ch, ro, lk, st, nw, bf, ve, bk, md, yl, la, od, sm, fr, ct) → (r = 0 → J 0 th ch ro lk st nw bf ve bk md yl la od sm fr ct) → wY_save_13 post J (nI s) sc fc n 0 (nI (16 * s + i)) th ch ro lk st nw bf ve bk md yl la od sm fr ct) := by
  have hg : ∀ j, j < 16 → re_L (en (4 * (16 * s + j) + 2)) := fun j hj => hE (16 * s + j) (by omega)
  intro d
  induction d with
  | zero =>
    intro i hi hI
    refine ⟨0, Or.inr ⟨rfl, fun j hj => hI j (by omega)⟩, fun post J n hn hp hj => ?_⟩
    obtain ⟨n, rfl⟩ : ∃ n', n = n' + 1 := ⟨n - 1, by omega⟩
    have z : 16 * s + 16 ≤ 16 * s + i := by omega
    simp (disch := omega) only [wY_save_13, nu_16m, nu_p16, nu_le, z, forall_eq, true_implies, false_implies, implies_true, not_true_eq_false, not_false_eq_true, and_true, true_and, and_self, true_or, or_true, false_or, or_false, false_and, and_false, eq_self]
    exact hj rfl
  | succ d ih =>
    intro i hi hI
    have hi' : i < 16 := by omega
    have z : ¬ 16 * s + 16 ≤ 16 * s + i := by omega
    have hgi := hg i hi'
    by_cases w : st (16 * s + i) = 2 ∨ di_P st en sn (16 * s + i)
    · have n0 : ¬ st (16 * s + i) = 0 := by
        rcases w with w | w
        · rw [w]; decide
        · rw [w.1]; decide
      have n3 : ¬ st (16 * s + i) = 3 := by
        rcases w with w | w
        · rw [w]; decide
        · rw [w.1]; decide
      have en2 := hN (16 * s + i) (by omega) n0 n3 2 (by decide)
      by_cases o : sa_O s st en sn i
      · refine ⟨-7, Or.inl ⟨rfl, i, hi', o⟩, fun post J n hn hp hj => ?_⟩
        obtain ⟨n, rfl⟩ : ∃ n', n = n' + 1 := ⟨n - 1, by omega⟩
        obtain ⟨w', l, hl, gl, h1⟩ := o
        rw [gl] at en2
        simp (disch := omega) only [wY_save_13, nu_p16, nu_le, z, ← en2, nu_01, nu_40, nu_30, nu_20, nu_160, Int32.add_zero, Nat.reduceAdd, nu_m16, nu_16m, nu_m4, nu_4m, nu_m3, nu_3m, nu_m2, nu_2m, nI_1, nu_p2, nu_p3, nu_16p, nu_2p, nI_add, nu_cl, nu_in, Nat.add_zero, nu_l0, nu_l1, nu_l2, nu_l3, nu_l4, nu_i0_5, nu_i1_5, nu_i2_5, nu_i0_3, nu_i1_3, nu_i2_3, nu_n0, nu_n1, nu_na0, nu_na1, forall_eq, true_implies, false_implies, implies_true, not_true_eq_false, not_false_eq_true, and_true, true_and, and_self, true_or, or_true, false_or, or_false, false_and, and_false, eq_self]
        refine vy_dir (by omega) hN hS ?_
        by_cases w2 : st (16 * s + i) = 2
        · simp (disch := omega) only [wY_save_63, w2, h1, hm, nu_nl, nu_01, nu_40, nu_30, nu_20, nu_160, Int32.add_zero, Nat.reduceAdd, nu_m16, nu_16m, nu_m4, nu_4m, nu_m3, nu_3m, nu_m2, nu_2m, nI_1, nu_p2, nu_p3, nu_16p, nu_2p, nI_add, nu_cl, nu_in, Nat.add_zero, nu_l0, nu_l1, nu_l2, nu_l3, nu_l4, nu_i0_5, nu_i1_5, nu_i2_5, nu_i0_3, nu_i1_3, nu_i2_3, nu_n0, nu_n1, nu_na0, nu_na1, forall_eq, true_implies, false_implies, implies_true, not_true_eq_false, not_false_eq_true, and_true, true_and, and_self, true_or, or_true, false_or, or_false, false_and, and_false, eq_self]
          exact hp
        · have wv := di_t (w.resolve_left w2)
          simp (disch := omega) only [wY_save_63, w2, wv, h1, hm, nu_k10, nu_nl, nu_01, nu_40, nu_30, nu_20, nu_160, Int32.add_zero, Nat.reduceAdd, nu_m16, nu_16m, nu_m4, nu_4m, nu_m3, nu_3m, nu_m2, nu_2m, nI_1, nu_p2, nu_p3, nu_16p, nu_2p, nI_add, nu_cl, nu_in, Nat.add_zero, nu_l0, nu_l1, nu_l2, nu_l3, nu_l4, nu_i0_5, nu_i1_5, nu_i2_5, nu_i0_3, nu_i1_3, nu_i2_3, nu_n0, nu_n1, nu_na0, nu_na1, forall_eq, true_implies, false_implies, implies_true, not_true_eq_false, not_false_eq_true, and_true, true_and, and_self, true_or, or_true, false_or, or_false, false_and, and_false, eq_self]
          exact hp
      · obtain ⟨r, hV, hY⟩ := ih (i + 1) (by omega) (fun j hj => by
          by_cases q : j = i
          · subst q
            exact o
          · exact hI j (by omega))
        refine ⟨r, hV, fun post J n hn hp hj => ?_⟩
        obtain ⟨n, rfl⟩ : ∃ n', n = n' + 1 := ⟨n - 1, by omega⟩
        rcases hgi with l | ⟨l, hl, gl⟩
        · rw [l] at en2
          simp (disch := omega) only [wY_save_13, nu_p16, nu_le, z, ← en2, nu_01, nu_40, nu_30, nu_20, nu_160, Int32.add_zero, Nat.reduceAdd, nu_m16, nu_16m, nu_m4, nu_4m, nu_m3, nu_3m, nu_m2, nu_2m, nI_1, nu_p2, nu_p3, nu_16p, nu_2p, nI_add, nu_cl, nu_in, Nat.add_zero, nu_l0, nu_l1, nu_l2, nu_l3, nu_l4, nu_i0_5, nu_i1_5, nu_i2_5, nu_i0_3, nu_i1_3, nu_i2_3, nu_n0, nu_n1, nu_na0, nu_na1, forall_eq, true_implies, false_implies, implies_true, not_true_eq_false, not_false_eq_true, and_true, true_and, and_self, true_or, or_true, false_or, or_false, false_and, and_false, eq_self]
          refine vy_dir (by omega) hN hS ?_
          by_cases w2 : st (16 * s + i) = 2
          · simp (disch := omega) only [wY_save_63, w2, nu_lm, nu_01, nu_40, nu_30, nu_20, nu_160, Int32.add_zero, Nat.reduceAdd, nu_m16, nu_16m, nu_m4, nu_4m, nu_m3, nu_3m, nu_m2, nu_2m, nI_1, nu_p2, nu_p3, nu_16p, nu_2p, nI_add, nu_cl, nu_in, Nat.add_zero, nu_l0, nu_l1, nu_l2, nu_l3, nu_l4, nu_i0_5, nu_i1_5, nu_i2_5, nu_i0_3, nu_i1_3, nu_i2_3, nu_n0, nu_n1, nu_na0, nu_na1, forall_eq, true_implies, false_implies, implies_true, not_true_eq_false, not_false_eq_true, and_true, true_and, and_self, true_or, or_true, false_or, or_false, false_and, and_false, eq_self]
            exact hY post J n (by omega) hp hj
          · have wv := di_t (w.resolve_left w2)
            simp (disch := omega) only [wY_save_63, w2, wv, nu_k10, nu_lm, nu_01, nu_40, nu_30, nu_20, nu_160, Int32.add_zero, Nat.reduceAdd, nu_m16, nu_16m, nu_m4, nu_4m, nu_m3, nu_3m, nu_m2, nu_2m, nI_1, nu_p2, nu_p3, nu_16p, nu_2p, nI_add, nu_cl, nu_in, Nat.add_zero, nu_l0, nu_l1, nu_l2, nu_l3, nu_l4, nu_i0_5, nu_i1_5, nu_i2_5, nu_i0_3, nu_i1_3, nu_i2_3, nu_n0, nu_n1, nu_na0, nu_na1, forall_eq, true_implies, false_implies, implies_true, not_true_eq_false, not_false_eq_true, and_true, true_and, and_self, true_or, or_true, false_or, or_false, false_and, and_false, eq_self]
            exact hY post J n (by omega) hp hj
        · have h1 : ¬ st (16 * s + l) = 1 := fun q => o ⟨w, l, hl, gl, q⟩
          rw [gl] at en2
          simp (disch := omega) only [wY_save_13, nu_p16, nu_le, z, ← en2, nu_01, nu_40, nu_30, nu_20, nu_160, Int32.add_zero, Nat.reduceAdd, nu_m16, nu_16m, nu_m4, nu_4m, nu_m3, nu_3m, nu_m2, nu_2m, nI_1, nu_p2, nu_p3, nu_16p, nu_2p, nI_add, nu_cl, nu_in, Nat.add_zero, nu_l0, nu_l1, nu_l2, nu_l3, nu_l4, nu_i0_5, nu_i1_5, nu_i2_5, nu_i0_3, nu_i1_3, nu_i2_3, nu_n0, nu_n1, nu_na0, nu_na1, forall_eq, true_implies, false_implies, implies_true, not_true_eq_false, not_false_eq_true, and_true, true_and, and_self, true_or, or_true, false_or, or_false, false_and, and_false, eq_self]
          refine vy_dir (by omega) hN hS ?_
          by_cases w2 : st (16 * s + i) = 2
          · simp (disch := omega) only [wY_save_63, w2, h1, nu_nl, nu_01, nu_40, nu_30, nu_20, nu_160, Int32.add_zero, Nat.reduceAdd, nu_m16, nu_16m, nu_m4, nu_4m, nu_m3, nu_3m, nu_m2, nu_2m, nI_1, nu_p2, nu_p3, nu_16p, nu_2p, nI_add, nu_cl, nu_in, Nat.add_zero, nu_l0, nu_l1, nu_l2, nu_l3, nu_l4, nu_i0_5, nu_i1_5, nu_i2_5, nu_i0_3, nu_i1_3, nu_i2_3, nu_n0, nu_n1, nu_na0, nu_na1, forall_eq, true_implies, false_implies, implies_true, not_true_eq_false, not_false_eq_true, and_true, true_and, and_self, true_or, or_true, false_or, or_false, false_and, and_false, eq_self]
            exact hY post J n (by omega) hp hj
          · have wv := di_t (w.resolve_left w2)
            simp (disch := omega) only [wY_save_63, w2, wv, h1, nu_k10, nu_nl, nu_01, nu_40, nu_30, nu_20, nu_160, Int32.add_zero, Nat.reduceAdd, nu_m16, nu_16m, nu_m4, nu_4m, nu_m3, nu_3m, nu_m2, nu_2m, nI_1, nu_p2, nu_p3, nu_16p, nu_2p, nI_add, nu_cl, nu_in, Nat.add_zero, nu_l0, nu_l1, nu_l2, nu_l3, nu_l4, nu_i0_5, nu_i1_5, nu_i2_5, nu_i0_3, nu_i1_3, nu_i2_3, nu_n0, nu_n1, nu_na0, nu_na1, forall_eq, true_implies, false_implies, implies_true, not_true_eq_false, not_false_eq_true, and_true, true_and, and_self, true_or, or_true, false_or, or_false, false_and, and_false, eq_self]
            exact hY post J n (by omega) hp hj
    · have o : ¬ sa_O s st en sn i := fun q => w q.1
      obtain ⟨r, hV, hY⟩ := ih (i + 1) (by omega) (fun j hj => by
        by_cases q : j = i
        · subst q
          exact o
        · exact hI j (by omega))
      have w2 : ¬ st (16 * s + i) = 2 := fun q => w (Or.inl q)
      have wv := di_f (fun q => w (Or.inr q))
      refine ⟨r, hV, fun post J n hn hp hj => ?_⟩
      obtain ⟨n, rfl⟩ : ∃ n', n = n' + 1 := ⟨n - 1, by omega⟩
      simp (disch := omega) only [wY_save_13, nu_p16, nu_le, z, nu_01, nu_40, nu_30, nu_20, nu_160, Int32.add_zero, Nat.reduceAdd, nu_m16, nu_16m, nu_m4, nu_4m, nu_m3, nu_3m, nu_m2, nu_2m, nI_1, nu_p2, nu_p3, nu_16p, nu_2p, nI_add, nu_cl, nu_in, Nat.add_zero, nu_l0, nu_l1, nu_l2, nu_l3, nu_l4, nu_i0_5, nu_i1_5, nu_i2_5, nu_i0_3, nu_i1_3, nu_i2_3, nu_n0, nu_n1, nu_na0, nu_na1, forall_eq, true_implies, false_implies, implies_true, not_true_eq_false, not_false_eq_true, and_true, true_and, and_self, true_or, or_true, false_or, or_false, false_and, and_false, eq_self]
      refine vy_dir (by omega) hN hS ?_
      simp (disch := omega) only [w2, wv, nu_01, nu_40, nu_30, nu_20, nu_160, Int32.add_zero, Nat.reduceAdd, nu_m16, nu_16m, nu_m4, nu_4m, nu_m3, nu_3m, nu_m2, nu_2m, nI_1, nu_p2, nu_p3, nu_16p, nu_2p, nI_add, nu_cl, nu_in, Nat.add_zero, nu_l0, nu_l1, nu_l2, nu_l3, nu_l4, nu_i0_5, nu_i1_5, nu_i2_5, nu_i0_3, nu_i1_3, nu_i2_3, nu_n0, nu_n1, nu_na0, nu_na1, forall_eq, true_implies, false_implies, implies_true, not_true_eq_false, not_false_eq_true, and_true, true_and, and_self, true_or, or_true, false_or, or_false, false_and, and_false, eq_self]
      exact hY post J n (by omega) hp hj
end
section
variable {md bk rt rc lk wt wc ch st en sn th ro nw bf ve : Nat → Int32}
variable (sc fc cc rq : Int32) (ct sk sr fr lf cr rr yl la od sm : Nat → Int32)
theorem sa_S {s : Nat} (hs : s < 3) (R : re_R md bk ch lk st rt rc wt wc en sn th ro nw bf ve) : ∃ (r : Int32) (st' : Nat → Int32), re_R md bk ch lk st' rt rc wt wc en sn th ro nw bf ve ∧ (r = 0 ∨ r = -7) ∧
    (∀ post : Int32 → SX → Prop, post r (sc, fc, cc, rq, md, bk, ct, rt, rc, lk, wt, wc, ch, st', en, sn, sk, sr, fr, lf, cr, rr) → wpX_saveLinked post (sc, fc, cc, rq, md, bk, ct, rt, rc, lk, wt, wc, ch, st, en, sn, sk, sr, fr, lf, cr, rr) (nI s)) ∧ (∀ post : Int32 → SY → Prop, post r (sc, fc, th, ch, ro, lk, st', nw, bf, ve, bk, md, yl, la, od, sm, fr, ct) → wpY_save post (sc, fc, th, ch, ro, lk, st, nw, bf, ve, bk, md, yl, la, od, sm, fr, ct) (nI s)) := by
  have hE := re_rE R
  have hN := re_rN R
  have hS := re_rS R
  by_cases hm : md 0 = 0
  · obtain ⟨r, hV, hX⟩ := vx_sn (sc := sc) (fc := fc) (cc := cc) (rq := rq) (md := md) (bk := bk) (ct := ct) (rt := rt) (rc := rc) (lk := lk) (wt := wt) (wc := wc) (ch := ch) (st := st) (sn := sn) (sk := sk) (sr := sr) (fr := fr) (lf := lf) (cr := cr) (rr := rr) hs hE hm 16 0 rfl (fun j hj => by omega)
    obtain ⟨r', hV', hY⟩ := vy_sn (sc := sc) (fc := fc) (md := md) (bk := bk) (ct := ct) (lk := lk) (ch := ch) (fr := fr) (th := th) (ro := ro) (ve := ve) (yl := yl) (la := la) (od := od) (sm := sm) hs hE hN hS hm 16 0 rfl (fun j hj => by omega)
    have e := sa_u hV hV'
    subst e
    refine ⟨r, st, R, ?_, fun post hp => ?_, fun post hp => ?_⟩
    · rcases hV with ⟨q, _⟩ | ⟨q, _⟩
      · exact Or.inr q
      · exact Or.inl q
    · simp only [wpX_saveLinked]
      exact ⟨17, hX post 17 (by decide) hp⟩
    · simp only [wpY_save]
      refine ⟨2, ?_⟩
      simp (disch := omega) only [wY_save_2, nu_k10, nu_01, nu_40, nu_30, nu_20, nu_160, Int32.add_zero, Nat.reduceAdd, nu_m16, nu_16m, nu_m4, nu_4m, nu_m3, nu_3m, nu_m2, nu_2m, nI_1, nu_p2, nu_p3, nu_16p, nu_2p, nI_add, nu_cl, nu_in, Nat.add_zero, nu_l0, nu_l1, nu_l2, nu_l3, nu_l4, nu_i0_5, nu_i1_5, nu_i2_5, nu_i0_3, nu_i1_3, nu_i2_3, nu_n0, nu_n1, nu_na0, nu_na1, forall_eq, true_implies, false_implies, implies_true, not_true_eq_false, not_false_eq_true, and_true, true_and, and_self, true_or, or_true, false_or, or_false, false_and, and_false, eq_self]
      refine ⟨17, hY post _ 17 (by decide) hp (fun q => ?_)⟩
      subst q
      simp only [wY_save_2, forall_eq, true_implies, false_implies, implies_true, not_true_eq_false, not_false_eq_true, and_true, true_and, and_self, true_or, or_true, false_or, or_false, false_and, and_false, eq_self]
      exact hp
  · obtain ⟨st1, hI, hX⟩ := vx_sl (sc := sc) (fc := fc) (cc := cc) (rq := rq) (md := md) (bk := bk) (ct := ct) (rt := rt) (rc := rc) (lk := lk) (wt := wt) (wc := wc) (ch := ch) (sk := sk) (sr := sr) (fr := fr) (lf := lf) (cr := cr) (rr := rr) hs hE hm 16 0 rfl st (sv_I0 s (fun j => di_P st en sn (16 * s + j)) (fun j => en (4 * (16 * s + j) + 2)) st)
    have h16 : sv_1 s st ≤ 16 := cn_le _ 16
    obtain ⟨st2, b1, b2, b3, hY⟩ := vy_sl (sc := sc) (fc := fc) (md := md) (bk := bk) (ct := ct) (lk := lk) (ch := ch) (fr := fr) (th := th) (ro := ro) (ve := ve) (yl := yl) (la := la) (od := od) (sm := sm) hs hE hN hS hm 16 st h16 (sv_X0 s st) (sv_M0 s (fun j => di_P st en sn (16 * s + j)) (fun j => en (4 * (16 * s + j) + 2)) st)
    have e := sv_uniq hI.1 (sv_Ie hI) hI.2.1 b1 b3 b2
    subst e
    refine ⟨0, st1, sv_R R hI.1, Or.inl rfl, fun post hp => ?_, fun post hp => ?_⟩
    · simp only [wpX_saveLinked]
      exact ⟨17, hX post 17 (by decide) hp⟩
    · simp only [wpY_save]
      exact ⟨18, hY post 18 (by decide) hp⟩
end
