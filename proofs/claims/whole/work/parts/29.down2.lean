/-- the target by which an entity or a row is removed -/
def dn_T (st en rt wt rc wc lk : Nat → Int32) (s k x : Nat) : Prop := ((st (16 * s + k) = 2 ∨ st (16 * s + k) = 4) ∧ en (4 * (16 * s + k) + 2) = nI x) ∨ ((st (16 * s + k) = 0 ∨ st (16 * s + k) = 3) ∧ ¬ si_t rt wt lk s k = 0 ∧ si_c rc wc lk s k 2 = nI x)
def dn_Q (st : Nat → Int32) (s key : Nat) (D : Nat → Prop) (k : Nat) : Prop := k = key ∨ (¬ st (16 * s + k) = 2 ∧ D k)
def dn_L (Q : Nat → Prop) (c : Nat) (rr : Nat → Int32) : Prop := c = cn_n Q 16 ∧ (∀ j, j < c → ∃ k, k < 16 ∧ rr j = nI k ∧ Q k) ∧ (∀ k, k < 16 → Q k → ∃ j, j < c ∧ rr j = nI k)
theorem dn_Le {Q Q' : Nat → Prop} {c : Nat} {rr : Nat → Int32} (h : ∀ k, k < 16 → (Q k ↔ Q' k)) (a : dn_L Q c rr) : dn_L Q' c rr := by
  refine ⟨by rw [a.1]; exact cn_eq h, fun j hj => ?_, fun k hk q => a.2.2 k hk ((h k hk).mpr q)⟩
  obtain ⟨k, hk, e, q⟩ := a.2.1 j hj
  exact ⟨k, hk, e, (h k hk).mp q⟩
theorem dn_La {Q Q' : Nat → Prop} {c i : Nat} {rr : Nat → Int32} (hi : i < 16) (hn : ¬ Q i) (h : ∀ k, k < 16 → (Q' k ↔ Q k ∨ k = i)) (a : dn_L Q c rr) : dn_L Q' (c + 1) (upd rr c (nI i)) ∧ c < 16 := by
  have hc : c + 1 = cn_n Q' 16 := by
    rw [a.1]
    exact (cn_in hi hn h).symm
  have h16 := cn_le Q' 16
  refine ⟨⟨hc, fun j hj => ?_, fun k hk q => ?_⟩, by omega⟩
  · by_cases e : j = c
    · rw [e, pk_us]
      exact ⟨i, hi, rfl, (h i hi).mpr (Or.inr rfl)⟩
    · obtain ⟨k, hk, e', q⟩ := a.2.1 j (by omega)
      rw [pk_un e]
      exact ⟨k, hk, e', (h k hk).mpr (Or.inl q)⟩
  · rcases (h k hk).mp q with q | q
    · obtain ⟨j, hj, e⟩ := a.2.2 k hk q
      exact ⟨j, by omega, by rw [pk_un (by omega)]; exact e⟩
    · exact ⟨c, by omega, by rw [pk_us, q]⟩
theorem dn_Qm {st : Nat → Int32} {s key i : Nat} {D E : Nat → Prop} (hE : ∀ j, j < 16 → (E j ↔ D j ∨ j = i)) (h2 : ¬ st (16 * s + i) = 2) (k : Nat) (hk : k < 16) : dn_Q st s key E k ↔ dn_Q st s key D k ∨ k = i := by
  unfold dn_Q
  constructor
  · rintro (q | ⟨q1, q2⟩)
    · exact Or.inl (Or.inl q)
    · rcases (hE k hk).mp q2 with z | z
      · exact Or.inl (Or.inr ⟨q1, z⟩)
      · exact Or.inr z
  · rintro ((q | ⟨q1, q2⟩) | q)
    · exact Or.inl q
    · exact Or.inr ⟨q1, (hE k hk).mpr (Or.inl q2)⟩
    · subst q
      exact Or.inr ⟨h2, (hE k hk).mpr (Or.inr rfl)⟩
theorem dn_Qk {st : Nat → Int32} {s key i : Nat} {D E : Nat → Prop} (hE : ∀ j, j < 16 → (E j ↔ D j ∨ j = i)) (h2 : st (16 * s + i) = 2) (k : Nat) (hk : k < 16) : dn_Q st s key D k ↔ dn_Q st s key E k := by
  unfold dn_Q
  constructor
  · rintro (q | ⟨q1, q2⟩)
    · exact Or.inl q
    · exact Or.inr ⟨q1, (hE k hk).mpr (Or.inl q2)⟩
  · rintro (q | ⟨q1, q2⟩)
    · exact Or.inl q
    · rcases (hE k hk).mp q2 with z | z
      · exact Or.inr ⟨q1, z⟩
      · subst z
        exact absurd h2 q1
theorem dn_Qe {st : Nat → Int32} {s key : Nat} {D E : Nat → Prop} (h : ∀ j, j < 16 → (D j ↔ E j)) (k : Nat) (hk : k < 16) : dn_Q st s key D k ↔ dn_Q st s key E k := by
  unfold dn_Q
  rw [h k hk]
section
variable {sc fc cc : Int32} {md bk ct rt rc lk wt wc ch st en sn sk sr fr lf cr rr th ro : Nat → Int32}
/-- the steps of the component's loop over the rows -/
theorem dx_p {post : SX → Prop} {s t i n : Nat} {rq : Int32} (hs : s < 3) (hi : i < 16) (hT : re_T rt wt th) (hB : re_B th)
    (h : (¬ st (16 * s + i) = 0 ∧ ¬ st (16 * s + i) = 3) ∨ ¬ (¬ si_t rt wt lk s i = 0 ∧ si_c rc wc lk s i 2 = nI t))
    (hp : wX_removeLinking_34 post (wX_removeLinking_2 post (nI s) (nI t) n) (nI s) (nI t) (nI i) sc fc cc rq md bk ct rt rc lk wt wc ch st en sn sk sr fr lf cr rr) : wX_removeLinking_2 post (nI s) (nI t) (n + 1) (nI i) sc fc cc rq md bk ct rt rc lk wt wc ch st en sn sk sr fr lf cr rr := by
  by_cases z1 : si_t rt wt lk s i = 0
  · simp (disch := omega) only [wX_removeLinking_2, nu_b16, vx_see hi hT hB, z1, forall_eq, true_implies, false_implies, implies_true, not_true_eq_false, not_false_eq_true, and_true, true_and, and_self, true_or, or_true, false_or, or_false, false_and, and_false, eq_self]
    exact hp
  · by_cases z2 : si_c rc wc lk s i 2 = nI t
    · have h' : ¬ st (16 * s + i) = 0 ∧ ¬ st (16 * s + i) = 3 := by
        rcases h with h | h
        · exact h
        · exact absurd ⟨z1, z2⟩ h
      have u0 := h'.1
      have u3 := h'.2
      simp (disch := omega) only [wX_removeLinking_2, wpX_manageIfUnloaded, nu_b16, vx_see hi hT hB, vx_sc2 hi, z1, z2, u0, u3, nu_01, nu_40, nu_30, nu_20, nu_160, Int32.add_zero, Nat.reduceAdd, nu_m16, nu_16m, nu_m4, nu_4m, nu_m3, nu_3m, nu_m2, nu_2m, nI_1, nu_p2, nu_p3, nu_16p, nu_2p, nI_add, nu_cl, nu_in, Nat.add_zero, nu_l0, nu_l1, nu_l2, nu_l3, nu_l4, nu_i0_5, nu_i1_5, nu_i2_5, nu_i0_3, nu_i1_3, nu_i2_3, nu_n0, nu_n1, nu_na0, nu_na1, forall_eq, true_implies, false_implies, implies_true, not_true_eq_false, not_false_eq_true, and_true, true_and, and_self, true_or, or_true, false_or, or_false, false_and, and_false, eq_self]
      exact hp
    · simp (disch := omega) only [wX_removeLinking_2, nu_b16, vx_see hi hT hB, vx_sc2 hi, z1, z2, nu_01, nu_40, nu_30, nu_20, nu_160, Int32.add_zero, Nat.reduceAdd, nu_m16, nu_16m, nu_m4, nu_4m, nu_m3, nu_3m, nu_m2, nu_2m, nI_1, nu_p2, nu_p3, nu_16p, nu_2p, nI_add, nu_cl, nu_in, Nat.add_zero, nu_l0, nu_l1, nu_l2, nu_l3, nu_l4, nu_i0_5, nu_i1_5, nu_i2_5, nu_i0_3, nu_i1_3, nu_i2_3, nu_n0, nu_n1, nu_na0, nu_na1, forall_eq, true_implies, false_implies, implies_true, not_true_eq_false, not_false_eq_true, and_true, true_and, and_self, true_or, or_true, false_or, or_false, false_and, and_false, eq_self]
      exact hp
theorem dx_q {post : SX → Prop} {s t i n : Nat} {rq : Int32} (hs : s < 3) (hi : i < 16) (hT : re_T rt wt th) (hB : re_B th) (h : st (16 * s + i) = 0 ∨ st (16 * s + i) = 3) (z1 : ¬ si_t rt wt lk s i = 0) (z2 : si_c rc wc lk s i 2 = nI t)
    (hp : wX_removeLinking_34 post (wX_removeLinking_2 post (nI s) (nI t) n) (nI s) (nI t) (nI i) sc fc cc rq md bk ct rt rc lk wt wc ch (upd st (16 * s + i) 4) (u4_f en (4 * (16 * s + i)) (si_c rc wc lk s i 0) (si_c rc wc lk s i 1) (si_c rc wc lk s i 2) (si_c rc wc lk s i 3)) (u4_f sn (4 * (16 * s + i)) (si_c rc wc lk s i 0) (si_c rc wc lk s i 1) (si_c rc wc lk s i 2) (si_c rc wc lk s i 3)) sk sr fr lf cr rr) : wX_removeLinking_2 post (nI s) (nI t) (n + 1) (nI i) sc fc cc rq md bk ct rt rc lk wt wc ch st en sn sk sr fr lf cr rr := by
  rcases h with u | u
  · simp (disch := omega) only [wX_removeLinking_2, wpX_manageIfUnloaded, wX_manageIfUnloaded_21, nu_b16, vx_see hi hT hB, vx_sc2 hi, z1, z2, u, nu_01, nu_40, nu_30, nu_20, nu_160, Int32.add_zero, Nat.reduceAdd, nu_m16, nu_16m, nu_m4, nu_4m, nu_m3, nu_3m, nu_m2, nu_2m, nI_1, nu_p2, nu_p3, nu_16p, nu_2p, nI_add, nu_cl, nu_in, Nat.add_zero, nu_l0, nu_l1, nu_l2, nu_l3, nu_l4, nu_i0_5, nu_i1_5, nu_i2_5, nu_i0_3, nu_i1_3, nu_i2_3, nu_n0, nu_n1, nu_na0, nu_na1, forall_eq, true_implies, false_implies, implies_true, not_true_eq_false, not_false_eq_true, and_true, true_and, and_self, true_or, or_true, false_or, or_false, false_and, and_false, eq_self]
    exact vx_mg hs hi hp
  · simp (disch := omega) only [wX_removeLinking_2, wpX_manageIfUnloaded, wX_manageIfUnloaded_21, nu_b16, nu_k30, vx_see hi hT hB, vx_sc2 hi, z1, z2, u, nu_01, nu_40, nu_30, nu_20, nu_160, Int32.add_zero, Nat.reduceAdd, nu_m16, nu_16m, nu_m4, nu_4m, nu_m3, nu_3m, nu_m2, nu_2m, nI_1, nu_p2, nu_p3, nu_16p, nu_2p, nI_add, nu_cl, nu_in, Nat.add_zero, nu_l0, nu_l1, nu_l2, nu_l3, nu_l4, nu_i0_5, nu_i1_5, nu_i2_5, nu_i0_3, nu_i1_3, nu_i2_3, nu_n0, nu_n1, nu_na0, nu_na1, forall_eq, true_implies, false_implies, implies_true, not_true_eq_false, not_false_eq_true, and_true, true_and, and_self, true_or, or_true, false_or, or_false, false_and, and_false, eq_self]
    exact vx_mg hs hi hp
theorem dx_34n {post : SX → Prop} {J : Int32 → Int32 → Int32 → Int32 → Int32 → (Nat → Int32) → (Nat → Int32) → (Nat → Int32) → (Nat → Int32) → (Nat → Int32) → (Nat → Int32) → (Nat → Int32) → (Nat → Int32) → (Nat → Int32) → (Nat → Int32) → (Nat → Int32) → (Nat → Int32) → (Nat → Int32) → (Nat → Int32) → (Nat → Int32) → (Nat → Int32) → (Nat → Int32) → (Nat → Int32) → Prop} {s t i : Nat} {rq : Int32} (hs : s < 3) (hi : i < 16)
    (h : (¬ st (16 * s + i) = 4 ∧ ¬ st (16 * s + i) = 2) ∨ ¬ en (4 * (16 * s + i) + 2) = nI t) (hp : J (nI (i + 1)) sc fc cc rq md bk ct rt rc lk wt wc ch st en sn sk sr fr lf cr rr) : wX_removeLinking_34 post J (nI s) (nI t) (nI i) sc fc cc rq md bk ct rt rc lk wt wc ch st en sn sk sr fr lf cr rr := by
  by_cases e : en (4 * (16 * s + i) + 2) = nI t
  · have h' : ¬ st (16 * s + i) = 4 ∧ ¬ st (16 * s + i) = 2 := by
      rcases h with h | h
      · exact h
      · exact absurd e h
    have u4 := h'.1
    have u2 := h'.2
    simp (disch := omega) only [wX_removeLinking_34, wX_removeLinking_62, wX_removeLinking_89, nu_k10, e, u4, u2, nu_01, nu_40, nu_30, nu_20, nu_160, Int32.add_zero, Nat.reduceAdd, nu_m16, nu_16m, nu_m4, nu_4m, nu_m3, nu_3m, nu_m2, nu_2m, nI_1, nu_p2, nu_p3, nu_16p, nu_2p, nI_add, nu_cl, nu_in, Nat.add_zero, nu_l0, nu_l1, nu_l2, nu_l3, nu_l4, nu_i0_5, nu_i1_5, nu_i2_5, nu_i0_3, nu_i1_3, nu_i2_3, nu_n0, nu_n1, nu_na0, nu_na1, forall_eq, true_implies, false_implies, implies_true, not_true_eq_false, not_false_eq_true, and_true, true_and, and_self, true_or, or_true, false_or, or_false, false_and, and_false, eq_self]
    exact hp
  · simp (disch := omega) only [wX_removeLinking_34, wX_removeLinking_62, wX_removeLinking_89, e, nu_01, nu_40, nu_30, nu_20, nu_160, Int32.add_zero, Nat.reduceAdd, nu_m16, nu_16m, nu_m4, nu_4m, nu_m3, nu_3m, nu_m2, nu_2m, nI_1, nu_p2, nu_p3, nu_16p, nu_2p, nI_add, nu_cl, nu_in, Nat.add_zero, nu_l0, nu_l1, nu_l2, nu_l3, nu_l4, nu_i0_5, nu_i1_5, nu_i2_5, nu_i0_3, nu_i1_3, nu_i2_3, nu_n0, nu_n1, nu_na0, nu_na1, forall_eq, true_implies, false_implies, implies_true, not_true_eq_false, not_false_eq_true, and_true, true_and, and_self, true_or, or_true, false_or, or_false, false_and, and_false, eq_self]
    exact hp
theorem dx_342 {post : SX → Prop} {J : Int32 → Int32 → Int32 → Int32 → Int32 → (Nat → Int32) → (Nat → Int32) → (Nat → Int32) → (Nat → Int32) → (Nat → Int32) → (Nat → Int32) → (Nat → Int32) → (Nat → Int32) → (Nat → Int32) → (Nat → Int32) → (Nat → Int32) → (Nat → Int32) → (Nat → Int32) → (Nat → Int32) → (Nat → Int32) → (Nat → Int32) → (Nat → Int32) → (Nat → Int32) → Prop} {s t i : Nat} {rq : Int32} (hs : s < 3) (hi : i < 16)
    (e : en (4 * (16 * s + i) + 2) = nI t) (u : st (16 * s + i) = 2) (hp : J (nI (i + 1)) sc fc cc rq md bk ct rt rc lk wt wc ch (upd st (16 * s + i) 1) en sn sk sr fr lf cr rr) : wX_removeLinking_34 post J (nI s) (nI t) (nI i) sc fc cc rq md bk ct rt rc lk wt wc ch st en sn sk sr fr lf cr rr := by
  simp (disch := omega) only [wX_removeLinking_34, wX_removeLinking_62, wX_removeLinking_89, nu_k10, nu_k24, e, u, nu_01, nu_40, nu_30, nu_20, nu_160, Int32.add_zero, Nat.reduceAdd, nu_m16, nu_16m, nu_m4, nu_4m, nu_m3, nu_3m, nu_m2, nu_2m, nI_1, nu_p2, nu_p3, nu_16p, nu_2p, nI_add, nu_cl, nu_in, Nat.add_zero, nu_l0, nu_l1, nu_l2, nu_l3, nu_l4, nu_i0_5, nu_i1_5, nu_i2_5, nu_i0_3, nu_i1_3, nu_i2_3, nu_n0, nu_n1, nu_na0, nu_na1, forall_eq, true_implies, false_implies, implies_true, not_true_eq_false, not_false_eq_true, and_true, true_and, and_self, true_or, or_true, false_or, or_false, false_and, and_false, eq_self]
  exact hp
theorem dx_344 {post : SX → Prop} {J : Int32 → Int32 → Int32 → Int32 → Int32 → (Nat → Int32) → (Nat → Int32) → (Nat → Int32) → (Nat → Int32) → (Nat → Int32) → (Nat → Int32) → (Nat → Int32) → (Nat → Int32) → (Nat → Int32) → (Nat → Int32) → (Nat → Int32) → (Nat → Int32) → (Nat → Int32) → (Nat → Int32) → (Nat → Int32) → (Nat → Int32) → (Nat → Int32) → (Nat → Int32) → Prop} {s t i c : Nat} (hs : s < 3) (hi : i < 16) (hc : c < 16)
    (e : en (4 * (16 * s + i) + 2) = nI t) (u : st (16 * s + i) = 4) (hp : J (nI (i + 1)) sc fc cc (nI (c + 1)) md bk ct rt rc lk wt wc ch (upd st (16 * s + i) 5) en sn sk sr fr lf cr (upd rr c (nI i))) : wX_removeLinking_34 post J (nI s) (nI t) (nI i) sc fc cc (nI c) md bk ct rt rc lk wt wc ch st en sn sk sr fr lf cr rr := by
  simp (disch := omega) only [wX_removeLinking_34, wX_removeLinking_62, wpX_addRemoved, nu_k10, nu_b16, e, u, nu_01, nu_40, nu_30, nu_20, nu_160, Int32.add_zero, Nat.reduceAdd, nu_m16, nu_16m, nu_m4, nu_4m, nu_m3, nu_3m, nu_m2, nu_2m, nI_1, nu_p2, nu_p3, nu_16p, nu_2p, nI_add, nu_cl, nu_in, Nat.add_zero, nu_l0, nu_l1, nu_l2, nu_l3, nu_l4, nu_i0_5, nu_i1_5, nu_i2_5, nu_i0_3, nu_i1_3, nu_i2_3, nu_n0, nu_n1, nu_na0, nu_na1, forall_eq, true_implies, false_implies, implies_true, not_true_eq_false, not_false_eq_true, and_true, true_and, and_self, true_or, or_true, false_or, or_false, false_and, and_false, eq_self]
  exact hp
/-- one row of the component's loop -/
theorem dx_1 {s t i c key : Nat} {D : Nat → Prop} (hs : s < 3) (hi : i < 16) (hT : re_T rt wt th) (hB : re_B th) (hK : re_K st) (hkey : st (16 * s + key) = 5)
    (hD : ∀ k, k < 16 → D k → ¬ st (16 * s + k) = 1 ∧ ¬ st (16 * s + k) = 5) (hL : dn_L (dn_Q st s key D) c rr) :
    ∃ (c' : Nat) (rr' : Nat → Int32) (E : Nat → Prop), (∀ k, k < 16 → (E k ↔ D k ∨ (k = i ∧ dn_T st en rt wt rc wc lk s k t))) ∧ dn_L (dn_Q st s key E) c' rr' ∧ (∀ j, j < c → rr' j = rr j) ∧ c ≤ c' ∧
      (∀ (post : SX → Prop) n, wX_removeLinking_2 post (nI s) (nI t) n (nI (i + 1)) sc fc cc (nI c') md bk ct rt rc lk wt wc ch (rm_st s E st) (rm_en s E st (si_c rc wc lk s) en) (rm_en s E st (si_c rc wc lk s) sn) sk sr fr lf cr rr' → wX_removeLinking_2 post (nI s) (nI t) (n + 1) (nI i) sc fc cc (nI c) md bk ct rt rc lk wt wc ch (rm_st s D st) (rm_en s D st (si_c rc wc lk s) en) (rm_en s D st (si_c rc wc lk s) sn) sk sr fr lf cr rr) := by
  by_cases d : D i
  · have e1 : rm_st s D st (16 * s + i) = if st (16 * s + i) = 2 then 1 else 5 := rm_t ((rm_dk hi).mpr d)
    have n0 : ¬ rm_st s D st (16 * s + i) = 0 ∧ ¬ rm_st s D st (16 * s + i) = 3 ∧ ¬ rm_st s D st (16 * s + i) = 4 ∧ ¬ rm_st s D st (16 * s + i) = 2 := by
      rw [e1]
      split <;> decide
    refine ⟨c, rr, D, fun k hk => ⟨Or.inl, fun q => ?_⟩, hL, fun _ _ => rfl, Nat.le_refl c, fun post n hp => ?_⟩
    · rcases q with q | q
      · exact q
      · rw [q.1]
        exact d
    · refine dx_p hs hi hT hB (Or.inl ⟨n0.1, n0.2.1⟩) ?_
      exact dx_34n hs hi (Or.inl n0.2.2) hp
  · have e1 : rm_st s D st (16 * s + i) = st (16 * s + i) := rm_f (fun q => d ((rm_dk hi).mp q))
    have e2 : rm_en s D st (si_c rc wc lk s) en (4 * (16 * s + i) + 2) = en (4 * (16 * s + i) + 2) := by
      rw [rm_enc (by decide)]
      exact rm_f (fun q => d ((rm_dk hi).mp q.1))
    by_cases T : dn_T st en rt wt rc wc lk s i t
    · have hE : ∀ j, j < 16 → ((fun k => D k ∨ k = i) j ↔ D j ∨ j = i) := fun j _ => Iff.rfl
      have hE' : ∀ k, k < 16 → ((fun k => D k ∨ k = i) k ↔ D k ∨ (k = i ∧ dn_T st en rt wt rc wc lk s k t)) := by
        intro k _
        constructor
        · rintro (q | q)
          · exact Or.inl q
          · exact Or.inr ⟨q, by rw [q]; exact T⟩
        · rintro (q | q)
          · exact Or.inl q
          · exact Or.inr q.1
      rcases T with ⟨u, g⟩ | ⟨u, g1, g2⟩
      · have k0 : ¬ (st (16 * s + i) = 0 ∨ st (16 * s + i) = 3) := by
          rcases u with u | u <;> rw [u] <;> decide
        by_cases u2 : st (16 * s + i) = 2
        · refine ⟨c, rr, fun k => D k ∨ k = i, hE', dn_Le (dn_Qk hE u2) hL, fun _ _ => rfl, Nat.le_refl c, fun post n hp => ?_⟩
          rw [rm_stp hi hE, rm_enk hi hE k0, rm_enk hi hE k0, if_pos u2] at hp
          refine dx_p hs hi hT hB (Or.inl (by rw [e1, u2]; decide)) ?_
          exact dx_342 hs hi (e2.trans g) (e1.trans u2) hp
        · have u4 := u.resolve_left u2
          have hnq : ¬ dn_Q st s key D i := by
            rintro (q | q)
            · rw [← q, u4] at hkey
              exact absurd hkey (by decide)
            · exact d q.2
          obtain ⟨L', hc⟩ := dn_La hi hnq (dn_Qm (key := key) hE u2) hL
          refine ⟨c + 1, upd rr c (nI i), fun k => D k ∨ k = i, hE', L', fun j hj => pk_un (by omega), by omega, fun post n hp => ?_⟩
          rw [rm_stp hi hE, rm_enk hi hE k0, rm_enk hi hE k0, if_neg u2] at hp
          refine dx_p hs hi hT hB (Or.inl (by rw [e1, u4]; decide)) ?_
          exact dx_344 hs hi hc (e2.trans g) (e1.trans u4) hp
      · have u2 : ¬ st (16 * s + i) = 2 := by
          rcases u with u | u <;> rw [u] <;> decide
        have hnq : ¬ dn_Q st s key D i := by
          rintro (q | q)
          · rw [← q] at hkey
            rcases u with u | u <;> rw [u] at hkey <;> exact absurd hkey (by decide)
          · exact d q.2
        obtain ⟨L', hc⟩ := dn_La hi hnq (dn_Qm (key := key) hE u2) hL
        refine ⟨c + 1, upd rr c (nI i), fun k => D k ∨ k = i, hE', L', fun j hj => pk_un (by omega), by omega, fun post n hp => ?_⟩
        rw [rm_stp hi hE, rm_enm hi hE u, rm_enm hi hE u, if_neg u2] at hp
        refine dx_q hs hi hT hB (by rw [e1]; exact u) g1 g2 ?_
        refine dx_344 hs hi hc (u4_2.trans g2) pk_us ?_
        rw [nu_uu]
        exact hp
    · refine ⟨c, rr, D, fun k hk => ⟨Or.inl, fun q => ?_⟩, hL, fun _ _ => rfl, Nat.le_refl c, fun post n hp => ?_⟩
      · rcases q with q | q
        · exact q
        · have := q.2
          rw [q.1] at this
          exact absurd this T
      · rcases hK (16 * s + i) with a | a | a | a | a | a
        · refine dx_p hs hi hT hB (Or.inr (fun q => T (Or.inr ⟨Or.inl a, q.1, q.2⟩))) ?_
          exact dx_34n hs hi (Or.inl (by rw [e1, a]; decide)) hp
        · refine dx_p hs hi hT hB (Or.inl (by rw [e1, a]; decide)) ?_
          exact dx_34n hs hi (Or.inl (by rw [e1, a]; decide)) hp
        · refine dx_p hs hi hT hB (Or.inl (by rw [e1, a]; decide)) ?_
          exact dx_34n hs hi (Or.inr (fun q => T (Or.inl ⟨Or.inl a, e2.symm.trans q⟩))) hp
        · refine dx_p hs hi hT hB (Or.inr (fun q => T (Or.inr ⟨Or.inr a, q.1, q.2⟩))) ?_
          exact dx_34n hs hi (Or.inl (by rw [e1, a]; decide)) hp
        · refine dx_p hs hi hT hB (Or.inl (by rw [e1, a]; decide)) ?_
          exact dx_34n hs hi (Or.inr (fun q => T (Or.inl ⟨Or.inr a, e2.symm.trans q⟩))) hp
        · refine dx_p hs hi hT hB (Or.inl (by rw [e1, a]; decide)) ?_
          exact dx_34n hs hi (Or.inl (by rw [e1, a]; decide)) hp
end
theorem dn_Tk {st en rt wt rc wc lk : Nat → Int32} {s k t : Nat} (h : dn_T st en rt wt rc wc lk s k t) : ¬ st (16 * s + k) = 1 ∧ ¬ st (16 * s + k) = 5 := by
  rcases h with ⟨u | u, _⟩ | ⟨u | u, _⟩ <;> rw [u] <;> decide
section
variable {sc fc cc : Int32} {md bk ct rt rc lk wt wc ch st en sn sk sr fr lf cr th ro : Nat → Int32}
/-- all rows for one target -/
theorem dx_2 {s t key : Nat} (hs : s < 3) (hT : re_T rt wt th) (hB : re_B th) (hK : re_K st) (hkey : st (16 * s + key) = 5) : ∀ (d i : Nat), i + d = 16 → ∀ (D : Nat → Prop) (c : Nat) (rr : Nat → Int32),
    (∀ k, k < 16 → D k → ¬ st (16 * s + k) = 1 ∧ ¬ st (16 * s + k) = 5) → dn_L (dn_Q st s key D) c rr →
    ∃ (c' : Nat) (rr' : Nat → Int32) (E : Nat → Prop), (∀ k, k < 16 → (E k ↔ D k ∨ (i ≤ k ∧ dn_T st en rt wt rc wc lk s k t))) ∧ dn_L (dn_Q st s key E) c' rr' ∧ (∀ j, j < c → rr' j = rr j) ∧ c ≤ c' ∧
      (∀ (post : SX → Prop) n, d < n → post (sc, fc, cc, nI c', md, bk, ct, rt, rc, lk, wt, wc, ch, rm_st s E st, rm_en s E st (si_c rc wc lk s) en, rm_en s E st (si_c rc wc lk s) sn, sk, sr, fr, lf, cr, rr') → wX_removeLinking_2 post (nI s) (nI t) n (nI i) sc fc cc (nI c) md bk ct rt rc lk wt wc ch (rm_st s D st) (rm_en s D st (si_c rc wc lk s) en) (rm_en s D st (si_c rc wc lk s) sn) sk sr fr lf cr rr) := by
  intro d
  induction d with
  | zero =>
    intro i hi D c rr hD hL
    refine ⟨c, rr, D, fun k hk => ⟨Or.inl, fun q => ?_⟩, hL, fun _ _ => rfl, Nat.le_refl c, fun post n hn hp => ?_⟩
    · rcases q with q | q
      · exact q
      · omega
    · obtain ⟨n, rfl⟩ : ∃ n', n = n' + 1 := ⟨n - 1, by omega⟩
      simp (disch := omega) only [wX_removeLinking_2, nu_a16, forall_eq, true_implies, false_implies, implies_true, not_true_eq_false, not_false_eq_true, and_true, true_and, and_self, true_or, or_true, false_or, or_false, false_and, and_false, eq_self]
      exact hp
  | succ d ih =>
    intro i hi D c rr hD hL
    obtain ⟨c1, rr1, E1, hE1, L1, hr1, hc1, hX1⟩ := dx_1 (sc := sc) (fc := fc) (cc := cc) (md := md) (bk := bk) (ct := ct) (rc := rc) (lk := lk) (wc := wc) (ch := ch) (en := en) (sn := sn) (sk := sk) (sr := sr) (fr := fr) (lf := lf) (cr := cr) (t := t) (i := i) hs (by omega) hT hB hK hkey hD hL
    obtain ⟨c2, rr2, E2, hE2, L2, hr2, hc2, hX2⟩ := ih (i + 1) (by omega) E1 c1 rr1 (fun k hk q => by
      rcases (hE1 k hk).mp q with z | z
      · exact hD k hk z
      · exact dn_Tk z.2) L1
    refine ⟨c2, rr2, E2, fun k hk => ?_, L2, fun j hj => (hr2 j (by omega)).trans (hr1 j hj), by omega, fun post n hn hp => ?_⟩
    · rw [hE2 k hk, hE1 k hk]
      constructor
      · rintro ((q | q) | q)
        · exact Or.inl q
        · exact Or.inr ⟨by omega, q.2⟩
        · exact Or.inr ⟨by omega, q.2⟩
      · rintro (q | q)
        · exact Or.inl (Or.inl q)
        · by_cases e : k = i
          · exact Or.inl (Or.inr ⟨e, q.2⟩)
          · exact Or.inr ⟨by omega, q.2⟩
    · obtain ⟨n, rfl⟩ : ∃ n', n = n' + 1 := ⟨n - 1, by omega⟩
      exact hX1 post n (hX2 post n (by omega) hp)
end
