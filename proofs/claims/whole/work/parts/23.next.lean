def nx_S (L H : Nat → Prop) (r : Int32) : Prop := (¬ r = -1 ∧ le_S (fun k => L k ∧ ¬ H k) r) ∨ (le_S (fun k => L k ∧ ¬ H k) (-1) ∧ le_S L r)
theorem nx_u {L H : Nat → Prop} {r r' : Int32} (a : nx_S L H r) (b : nx_S L H r') : r = r' := by
  rcases a with ⟨a1, a2⟩ | ⟨a1, a2⟩
  · rcases b with ⟨b1, b2⟩ | ⟨b1, b2⟩
    · exact le_u a2 b2
    · exact absurd (le_u a2 b1) a1
  · rcases b with ⟨b1, b2⟩ | ⟨b1, b2⟩
    · exact absurd (le_u b2 a1) b1
    · exact le_u a2 b2
theorem nx_e {L L' H H' : Nat → Prop} {r : Int32} (hL : ∀ k, k < 16 → (L k ↔ L' k)) (hH : ∀ k, k < 16 → L k → (H k ↔ H' k)) (a : nx_S L H r) : nx_S L' H' r := by
  have f : ∀ k, k < 16 → ((L k ∧ ¬ H k) ↔ (L' k ∧ ¬ H' k)) := fun k hk => ⟨fun q => ⟨(hL k hk).mp q.1, fun z => q.2 ((hH k hk q.1).mpr z)⟩, fun q => ⟨(hL k hk).mpr q.1, fun z => q.2 ((hH k hk ((hL k hk).mpr q.1)).mp z)⟩⟩
  rcases a with ⟨a1, a2⟩ | ⟨a1, a2⟩
  · exact Or.inl ⟨a1, le_e f a2⟩
  · exact Or.inr ⟨le_e f a1, le_e hL a2⟩
/-- the next one is left, and whether it hangs says which of both it is -/
theorem nx_k {L H : Nat → Prop} {r : Int32} (a : nx_S L H r) : (r = -1 ∧ ∀ k, k < 16 → ¬ L k) ∨ ∃ k, k < 16 ∧ r = nI k ∧ L k ∧ (H k ↔ le_S (fun k => L k ∧ ¬ H k) (-1)) := by
  rcases a with ⟨a1, a2⟩ | ⟨a1, a2⟩
  · rcases a2 with ⟨q, _⟩ | ⟨k, hk, rfl, pk, mk⟩
    · exact absurd q a1
    · refine Or.inr ⟨k, hk, rfl, pk.1, fun z => absurd z pk.2, fun z => ?_⟩
      rcases z with ⟨_, z⟩ | ⟨j, hj, z, _⟩
      · exact absurd pk (z k hk)
      · rw [nu_men (by omega)] at z
        exact z.elim
  · rcases a2 with ⟨q, h⟩ | ⟨k, hk, rfl, pk, mk⟩
    · exact Or.inl ⟨q, h⟩
    · refine Or.inr ⟨k, hk, rfl, pk, fun _ => a1, fun _ => ?_⟩
      rcases a1 with ⟨_, z⟩ | ⟨j, hj, z, _⟩
      · exact Classical.byContradiction fun y => z k hk ⟨pk, y⟩
      · rw [nu_men (by omega)] at z
        exact z.elim
section
variable {sc fc : Int32} {md bk ct lk ch st en sn fr th ro nw bf ve yl la od sm : Nat → Int32}
theorem vy_h1 {post : Int32 → Prop} {s k : Nat} (hs : s < 3) (hk : k < 16) (hw : nw (3 * (16 * s + k) + 2) = en (4 * (16 * s + k) + 2)) (hp : post (di_v (wa_P yl s en k))) : wpY_hangs post (sc, fc, th, ch, ro, lk, st, nw, bf, ve, bk, md, yl, la, od, sm, fr, ct) (nI s) (nI k) 1 := by
  have key : ∀ d i : Nat, i + d = 16 → (∀ j, j < i → ¬ (¬ yl j = 0 ∧ j ≠ k ∧ en (4 * (16 * s + k) + 2) = nI j)) → ∀ n, d < n → wY_hangs_3 post (nI s) (nI k) 1 sc fc th ch ro lk st nw bf ve bk md yl la od sm fr ct n (nI i) := by
    intro d
    induction d with
    | zero =>
      intro i hi h n hn
      rw [di_f (fun ⟨j, hj, q1, q2, q3⟩ => h j (by omega) ⟨q3, q2, q1⟩)] at hp
      obtain ⟨n, rfl⟩ : ∃ n', n = n' + 1 := ⟨n - 1, by omega⟩
      simp (disch := omega) only [wY_hangs_3, nu_a16, forall_eq, true_implies, false_implies, implies_true, not_true_eq_false, not_false_eq_true, and_true, true_and, and_self, true_or, or_true, false_or, or_false, false_and, and_false, eq_self]
      exact hp
    | succ d ih =>
      intro i hi h n hn
      obtain ⟨n, rfl⟩ : ∃ n', n = n' + 1 := ⟨n - 1, by omega⟩
      by_cases z : ¬ yl i = 0 ∧ i ≠ k ∧ en (4 * (16 * s + k) + 2) = nI i
      · rw [di_t ⟨i, by omega, z.2.2, z.2.1, z.1⟩] at hp
        have z1 := z.1
        have z2 := z.2.1
        have z3 := z.2.2
        simp (disch := omega) only [wY_hangs_3, wY_hangs_48, wY_hangs_78, nu_b16, nu_eq, nu_k10, hw, z1, z2, z3, nu_01, nu_40, nu_30, nu_20, nu_160, Int32.add_zero, Nat.reduceAdd, nu_m16, nu_16m, nu_m4, nu_4m, nu_m3, nu_3m, nu_m2, nu_2m, nI_1, nu_p2, nu_p3, nu_16p, nu_2p, nI_add, nu_cl, nu_in, Nat.add_zero, nu_l0, nu_l1, nu_l2, nu_l3, nu_l4, nu_i0_5, nu_i1_5, nu_i2_5, nu_i0_3, nu_i1_3, nu_i2_3, nu_n0, nu_n1, nu_na0, nu_na1, forall_eq, true_implies, false_implies, implies_true, not_true_eq_false, not_false_eq_true, and_true, true_and, and_self, true_or, or_true, false_or, or_false, false_and, and_false, eq_self]
        exact hp
      · have hx := ih (i + 1) (by omega) (fun j hj => by
          by_cases q : j = i
          · rw [q]
            exact z
          · exact h j (by omega)) n (by omega)
        by_cases z1 : yl i = 0
        · simp (disch := omega) only [wY_hangs_3, wY_hangs_48, nu_b16, nu_k10, z1, nu_01, nu_40, nu_30, nu_20, nu_160, Int32.add_zero, Nat.reduceAdd, nu_m16, nu_16m, nu_m4, nu_4m, nu_m3, nu_3m, nu_m2, nu_2m, nI_1, nu_p2, nu_p3, nu_16p, nu_2p, nI_add, nu_cl, nu_in, Nat.add_zero, nu_l0, nu_l1, nu_l2, nu_l3, nu_l4, nu_i0_5, nu_i1_5, nu_i2_5, nu_i0_3, nu_i1_3, nu_i2_3, nu_n0, nu_n1, nu_na0, nu_na1, forall_eq, true_implies, false_implies, implies_true, not_true_eq_false, not_false_eq_true, and_true, true_and, and_self, true_or, or_true, false_or, or_false, false_and, and_false, eq_self]
          exact hx
        · by_cases z2 : i = k
          · subst z2
            simp (disch := omega) only [wY_hangs_3, wY_hangs_48, nu_b16, nu_k10, z1, nu_01, nu_40, nu_30, nu_20, nu_160, Int32.add_zero, Nat.reduceAdd, nu_m16, nu_16m, nu_m4, nu_4m, nu_m3, nu_3m, nu_m2, nu_2m, nI_1, nu_p2, nu_p3, nu_16p, nu_2p, nI_add, nu_cl, nu_in, Nat.add_zero, nu_l0, nu_l1, nu_l2, nu_l3, nu_l4, nu_i0_5, nu_i1_5, nu_i2_5, nu_i0_3, nu_i1_3, nu_i2_3, nu_n0, nu_n1, nu_na0, nu_na1, forall_eq, true_implies, false_implies, implies_true, not_true_eq_false, not_false_eq_true, and_true, true_and, and_self, true_or, or_true, false_or, or_false, false_and, and_false, eq_self]
            exact hx
          · have z3 : ¬ en (4 * (16 * s + k) + 2) = nI i := fun q => z ⟨z1, z2, q⟩
            simp (disch := omega) only [wY_hangs_3, wY_hangs_48, wY_hangs_78, nu_b16, nu_eq, nu_k10, hw, z1, z2, z3, nu_01, nu_40, nu_30, nu_20, nu_160, Int32.add_zero, Nat.reduceAdd, nu_m16, nu_16m, nu_m4, nu_4m, nu_m3, nu_3m, nu_m2, nu_2m, nI_1, nu_p2, nu_p3, nu_16p, nu_2p, nI_add, nu_cl, nu_in, Nat.add_zero, nu_l0, nu_l1, nu_l2, nu_l3, nu_l4, nu_i0_5, nu_i1_5, nu_i2_5, nu_i0_3, nu_i1_3, nu_i2_3, nu_n0, nu_n1, nu_na0, nu_na1, forall_eq, true_implies, false_implies, implies_true, not_true_eq_false, not_false_eq_true, and_true, true_and, and_self, true_or, or_true, false_or, or_false, false_and, and_false, eq_self]
            exact hx
  simp only [wpY_hangs]
  exact ⟨17, key 16 0 rfl (fun j hj => by omega) 17 (by decide)⟩
theorem vy_h0 {post : Int32 → Prop} {s k : Nat} (hs : s < 3) (hk : k < 16) (hS : re_S sn bf) (hp : post (di_v (li_P yl s sn k))) : wpY_hangs post (sc, fc, th, ch, ro, lk, st, nw, bf, ve, bk, md, yl, la, od, sm, fr, ct) (nI s) (nI k) 0 := by
  have key : ∀ d i : Nat, i + d = 16 → (∀ j, j < i → ¬ (¬ yl j = 0 ∧ j ≠ k ∧ sn (4 * (16 * s + j) + 2) = nI k)) → ∀ n, d < n → wY_hangs_3 post (nI s) (nI k) 0 sc fc th ch ro lk st nw bf ve bk md yl la od sm fr ct n (nI i) := by
    intro d
    induction d with
    | zero =>
      intro i hi h n hn
      rw [di_f (fun ⟨j, hj, q⟩ => h j (by omega) q)] at hp
      obtain ⟨n, rfl⟩ : ∃ n', n = n' + 1 := ⟨n - 1, by omega⟩
      simp (disch := omega) only [wY_hangs_3, nu_a16, forall_eq, true_implies, false_implies, implies_true, not_true_eq_false, not_false_eq_true, and_true, true_and, and_self, true_or, or_true, false_or, or_false, false_and, and_false, eq_self]
      exact hp
    | succ d ih =>
      intro i hi h n hn
      have hb := (hS (16 * s + i) (by omega) 2 (by decide)).symm
      obtain ⟨n, rfl⟩ : ∃ n', n = n' + 1 := ⟨n - 1, by omega⟩
      by_cases z : ¬ yl i = 0 ∧ i ≠ k ∧ sn (4 * (16 * s + i) + 2) = nI k
      · rw [di_t ⟨i, by omega, z⟩] at hp
        have z1 := z.1
        have z2 := z.2.1
        have z3 := z.2.2
        simp (disch := omega) only [wY_hangs_3, wY_hangs_48, wY_hangs_78, nu_b16, nu_eq, hb, z1, z2, z3, nu_01, nu_40, nu_30, nu_20, nu_160, Int32.add_zero, Nat.reduceAdd, nu_m16, nu_16m, nu_m4, nu_4m, nu_m3, nu_3m, nu_m2, nu_2m, nI_1, nu_p2, nu_p3, nu_16p, nu_2p, nI_add, nu_cl, nu_in, Nat.add_zero, nu_l0, nu_l1, nu_l2, nu_l3, nu_l4, nu_i0_5, nu_i1_5, nu_i2_5, nu_i0_3, nu_i1_3, nu_i2_3, nu_n0, nu_n1, nu_na0, nu_na1, forall_eq, true_implies, false_implies, implies_true, not_true_eq_false, not_false_eq_true, and_true, true_and, and_self, true_or, or_true, false_or, or_false, false_and, and_false, eq_self]
        exact hp
      · have hx := ih (i + 1) (by omega) (fun j hj => by
          by_cases q : j = i
          · rw [q]
            exact z
          · exact h j (by omega)) n (by omega)
        by_cases z1 : yl i = 0
        · simp (disch := omega) only [wY_hangs_3, wY_hangs_48, nu_b16, z1, nu_01, nu_40, nu_30, nu_20, nu_160, Int32.add_zero, Nat.reduceAdd, nu_m16, nu_16m, nu_m4, nu_4m, nu_m3, nu_3m, nu_m2, nu_2m, nI_1, nu_p2, nu_p3, nu_16p, nu_2p, nI_add, nu_cl, nu_in, Nat.add_zero, nu_l0, nu_l1, nu_l2, nu_l3, nu_l4, nu_i0_5, nu_i1_5, nu_i2_5, nu_i0_3, nu_i1_3, nu_i2_3, nu_n0, nu_n1, nu_na0, nu_na1, forall_eq, true_implies, false_implies, implies_true, not_true_eq_false, not_false_eq_true, and_true, true_and, and_self, true_or, or_true, false_or, or_false, false_and, and_false, eq_self]
          exact hx
        · by_cases z2 : i = k
          · subst z2
            simp (disch := omega) only [wY_hangs_3, wY_hangs_48, nu_b16, z1, nu_01, nu_40, nu_30, nu_20, nu_160, Int32.add_zero, Nat.reduceAdd, nu_m16, nu_16m, nu_m4, nu_4m, nu_m3, nu_3m, nu_m2, nu_2m, nI_1, nu_p2, nu_p3, nu_16p, nu_2p, nI_add, nu_cl, nu_in, Nat.add_zero, nu_l0, nu_l1, nu_l2, nu_l3, nu_l4, nu_i0_5, nu_i1_5, nu_i2_5, nu_i0_3, nu_i1_3, nu_i2_3, nu_n0, nu_n1, nu_na0, nu_na1, forall_eq, true_implies, false_implies, implies_true, not_true_eq_false, not_false_eq_true, and_true, true_and, and_self, true_or, or_true, false_or, or_false, false_and, and_false, eq_self]
            exact hx
          · have z3 : ¬ sn (4 * (16 * s + i) + 2) = nI k := fun q => z ⟨z1, z2, q⟩
            simp (disch := omega) only [wY_hangs_3, wY_hangs_48, wY_hangs_78, nu_b16, nu_eq, hb, z1, z2, z3, nu_01, nu_40, nu_30, nu_20, nu_160, Int32.add_zero, Nat.reduceAdd, nu_m16, nu_16m, nu_m4, nu_4m, nu_m3, nu_3m, nu_m2, nu_2m, nI_1, nu_p2, nu_p3, nu_16p, nu_2p, nI_add, nu_cl, nu_in, Nat.add_zero, nu_l0, nu_l1, nu_l2, nu_l3, nu_l4, nu_i0_5, nu_i1_5, nu_i2_5, nu_i0_3, nu_i1_3, nu_i2_3, nu_n0, nu_n1, nu_na0, nu_na1, forall_eq, true_implies, false_implies, implies_true, not_true_eq_false, not_false_eq_true, and_true, true_and, and_self, true_or, or_true, false_or, or_false, false_and, and_false, eq_self]
            exact hx
  simp only [wpY_hangs]
  exact ⟨17, key 16 0 rfl (fun j hj => by omega) 17 (by decide)⟩
theorem vy_nx {s : Nat} {o : Int32} {H : Nat → Prop} (hs : s < 3) (hH : ∀ k, k < 16 → ¬ yl k = 0 → ∀ post : Int32 → Prop, post (di_v (H k)) → wpY_hangs post (sc, fc, th, ch, ro, lk, st, nw, bf, ve, bk, md, yl, la, od, sm, fr, ct) (nI s) (nI k) o) : ∃ r, nx_S (fun k => ¬ yl k = 0) H r ∧ ∀ post : Int32 → Prop, post r → wpY_next post (sc, fc, th, ch, ro, lk, st, nw, bf, ve, bk, md, yl, la, od, sm, fr, ct) (nI s) o := by
  have up : ∀ x : Int32, le_S (fun k => ¬ yl k = 0) x → ∀ d i : Nat, i + d = 16 → (∀ j, j < i → ¬ (¬ yl j = 0 ∧ ¬ H j)) → ∃ r, nx_S (fun k => ¬ yl k = 0) H r ∧ ∀ (post : Int32 → Prop) n, d < n → post r → wY_next_33 post (nI s) o x sc fc th ch ro lk st nw bf ve bk md yl la od sm fr ct n (nI i) := by
    intro x hx d
    induction d with
    | zero =>
      intro i hi h
      refine ⟨x, Or.inr ⟨le_n (fun k hk => h k (by omega)), hx⟩, fun post n hn hp => ?_⟩
      obtain ⟨n, rfl⟩ : ∃ n', n = n' + 1 := ⟨n - 1, by omega⟩
      simp (disch := omega) only [wY_next_33, nu_a16, forall_eq, true_implies, false_implies, implies_true, not_true_eq_false, not_false_eq_true, and_true, true_and, and_self, true_or, or_true, false_or, or_false, false_and, and_false, eq_self]
      exact hp
    | succ d ih =>
      intro i hi h
      by_cases z : ¬ yl i = 0 ∧ ¬ H i
      · refine ⟨nI i, Or.inl ⟨fun q => by rw [nu_nem (by omega)] at q; exact q, Or.inr ⟨i, by omega, rfl, z, h⟩⟩, fun post n hn hp => ?_⟩
        obtain ⟨n, rfl⟩ : ∃ n', n = n' + 1 := ⟨n - 1, by omega⟩
        have z1 := z.1
        simp (disch := omega) only [wY_next_33, nu_b16, z1, nu_01, nu_40, nu_30, nu_20, nu_160, Int32.add_zero, Nat.reduceAdd, nu_m16, nu_16m, nu_m4, nu_4m, nu_m3, nu_3m, nu_m2, nu_2m, nI_1, nu_p2, nu_p3, nu_16p, nu_2p, nI_add, nu_cl, nu_in, Nat.add_zero, nu_l0, nu_l1, nu_l2, nu_l3, nu_l4, nu_i0_5, nu_i1_5, nu_i2_5, nu_i0_3, nu_i1_3, nu_i2_3, nu_n0, nu_n1, nu_na0, nu_na1, forall_eq, true_implies, false_implies, implies_true, not_true_eq_false, not_false_eq_true, and_true, true_and, and_self, true_or, or_true, false_or, or_false, false_and, and_false, eq_self]
        refine hH i (by omega) z1 _ ?_
        rw [di_f z.2]
        simp only [wY_next_66, nu_k10, forall_eq, true_implies, false_implies, implies_true, not_true_eq_false, not_false_eq_true, and_true, true_and, and_self, true_or, or_true, false_or, or_false, false_and, and_false, eq_self]
        exact hp
      · obtain ⟨r, hr, hX⟩ := ih (i + 1) (by omega) (fun j hj => by
          by_cases q : j = i
          · rw [q]
            exact z
          · exact h j (by omega))
        refine ⟨r, hr, fun post n hn hp => ?_⟩
        obtain ⟨n, rfl⟩ : ∃ n', n = n' + 1 := ⟨n - 1, by omega⟩
        have hx := hX post n (by omega) hp
        by_cases z1 : yl i = 0
        · simp (disch := omega) only [wY_next_33, wY_next_65, wY_next_66, nu_b16, z1, nu_01, nu_40, nu_30, nu_20, nu_160, Int32.add_zero, Nat.reduceAdd, nu_m16, nu_16m, nu_m4, nu_4m, nu_m3, nu_3m, nu_m2, nu_2m, nI_1, nu_p2, nu_p3, nu_16p, nu_2p, nI_add, nu_cl, nu_in, Nat.add_zero, nu_l0, nu_l1, nu_l2, nu_l3, nu_l4, nu_i0_5, nu_i1_5, nu_i2_5, nu_i0_3, nu_i1_3, nu_i2_3, nu_n0, nu_n1, nu_na0, nu_na1, forall_eq, true_implies, false_implies, implies_true, not_true_eq_false, not_false_eq_true, and_true, true_and, and_self, true_or, or_true, false_or, or_false, false_and, and_false, eq_self]
          exact hx
        · have w : H i := Classical.byContradiction fun y => z ⟨z1, y⟩
          simp (disch := omega) only [wY_next_33, nu_b16, z1, nu_01, nu_40, nu_30, nu_20, nu_160, Int32.add_zero, Nat.reduceAdd, nu_m16, nu_16m, nu_m4, nu_4m, nu_m3, nu_3m, nu_m2, nu_2m, nI_1, nu_p2, nu_p3, nu_16p, nu_2p, nI_add, nu_cl, nu_in, Nat.add_zero, nu_l0, nu_l1, nu_l2, nu_l3, nu_l4, nu_i0_5, nu_i1_5, nu_i2_5, nu_i0_3, nu_i1_3, nu_i2_3, nu_n0, nu_n1, nu_na0, nu_na1, forall_eq, true_implies, false_implies, implies_true, not_true_eq_false, not_false_eq_true, and_true, true_and, and_self, true_or, or_true, false_or, or_false, false_and, and_false, eq_self]
          refine hH i (by omega) z1 _ ?_
          rw [di_t w]
          simp (disch := omega) only [wY_next_65, wY_next_66, nu_k10, nu_01, nu_40, nu_30, nu_20, nu_160, Int32.add_zero, Nat.reduceAdd, nu_m16, nu_16m, nu_m4, nu_4m, nu_m3, nu_3m, nu_m2, nu_2m, nI_1, nu_p2, nu_p3, nu_16p, nu_2p, nI_add, nu_cl, nu_in, Nat.add_zero, nu_l0, nu_l1, nu_l2, nu_l3, nu_l4, nu_i0_5, nu_i1_5, nu_i2_5, nu_i0_3, nu_i1_3, nu_i2_3, nu_n0, nu_n1, nu_na0, nu_na1, forall_eq, true_implies, false_implies, implies_true, not_true_eq_false, not_false_eq_true, and_true, true_and, and_self, true_or, or_true, false_or, or_false, false_and, and_false, eq_self]
          exact hx
  have dn : ∀ m : Nat, m ≤ 16 → ∀ x : Int32, ((x = -1 ∧ ∀ k, m ≤ k → k < 16 → ¬ ¬ yl k = 0) ∨ ∃ k, m ≤ k ∧ k < 16 ∧ x = nI k ∧ ¬ yl k = 0 ∧ ∀ j, m ≤ j → j < k → ¬ ¬ yl j = 0) →
      ∃ x', le_S (fun k => ¬ yl k = 0) x' ∧ ∀ (post : Int32 → Prop) n, m < n → (∃ n33, wY_next_33 post (nI s) o x' sc fc th ch ro lk st nw bf ve bk md yl la od sm fr ct n33 0) → wY_next_6 post (nI s) o sc fc th ch ro lk st nw bf ve bk md yl la od sm fr ct n x (nI m + (-1)) := by
    intro m
    induction m with
    | zero =>
      intro _ x hx
      refine ⟨x, ?_, fun post n hn hp => ?_⟩
      · rcases hx with ⟨q, h⟩ | ⟨k, _, hk, q, l, h⟩
        · exact Or.inl ⟨q, fun k hk => h k (by omega) hk⟩
        · exact Or.inr ⟨k, hk, q, l, fun j hj => h j (by omega) hj⟩
      · obtain ⟨n, rfl⟩ : ∃ n', n = n' + 1 := ⟨n - 1, by omega⟩
        have e : nI 0 + (-1) = -1 := by decide
        rw [e]
        simp only [wY_next_6, nu_m1lt, forall_eq, true_implies, false_implies, implies_true, not_true_eq_false, not_false_eq_true, and_true, true_and, and_self, true_or, or_true, false_or, or_false, false_and, and_false, eq_self]
        exact hp
    | succ m ih =>
      intro hm x hx
      by_cases z : yl m = 0
      · obtain ⟨x', hx', hY⟩ := ih (by omega) x (by
          rcases hx with ⟨q, h⟩ | ⟨k, h1, hk, q, l, h⟩
          · refine Or.inl ⟨q, fun k h1 h2 => ?_⟩
            by_cases e : k = m
            · rw [e]
              exact fun y => y z
            · exact h k (by omega) h2
          · refine Or.inr ⟨k, by omega, hk, q, l, fun j h3 h4 => ?_⟩
            by_cases e : j = m
            · rw [e]
              exact fun y => y z
            · exact h j (by omega) h4)
        refine ⟨x', hx', fun post n hn hp => ?_⟩
        obtain ⟨n, rfl⟩ : ∃ n', n = n' + 1 := ⟨n - 1, by omega⟩
        rw [pk_m1]
        simp (disch := omega) only [wY_next_6, nu_neg, nu_cl, nu_in, z, forall_eq, true_implies, false_implies, implies_true, not_true_eq_false, not_false_eq_true, and_true, true_and, and_self, true_or, or_true, false_or, or_false, false_and, and_false, eq_self]
        exact hY post n (by omega) hp
      · obtain ⟨x', hx', hY⟩ := ih (by omega) (nI m) (Or.inr ⟨m, Nat.le_refl m, by omega, rfl, z, fun j h3 h4 => by omega⟩)
        refine ⟨x', hx', fun post n hn hp => ?_⟩
        obtain ⟨n, rfl⟩ : ∃ n', n = n' + 1 := ⟨n - 1, by omega⟩
        rw [pk_m1]
        simp (disch := omega) only [wY_next_6, nu_neg, nu_cl, nu_in, z, forall_eq, true_implies, false_implies, implies_true, not_true_eq_false, not_false_eq_true, and_true, true_and, and_self, true_or, or_true, false_or, or_false, false_and, and_false, eq_self]
        exact hY post n (by omega) hp
  obtain ⟨x', hx', hY⟩ := dn 16 (Nat.le_refl _) (-1) (Or.inl ⟨rfl, fun k h1 h2 => by omega⟩)
  obtain ⟨r, hr, hZ⟩ := up x' hx' 16 0 rfl (fun j hj => by omega)
  refine ⟨r, hr, fun post hp => ?_⟩
  simp only [wpY_next]
  refine ⟨17, ?_⟩
  have e : (15 : Int32) = nI 16 + (-1) := by decide
  rw [e]
  exact hY post 17 (by decide) ⟨17, hZ post 17 (by decide) hp⟩
end
