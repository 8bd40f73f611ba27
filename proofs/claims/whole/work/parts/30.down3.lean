theorem rm_Ie {key : Nat} {tg : Nat → Nat → Prop} {rem P Q Q' : Nat → Prop} (h : ∀ k, k < 16 → (Q k ↔ Q' k)) (a : rm_I key tg rem P Q) : rm_I key tg rem P Q' := by
  refine ⟨fun C hC k hk q => a.1 C hC k hk ((h k hk).mpr q), fun k hk q => (h k hk).mp (a.2.1 k hk q), fun k hk => ?_⟩
  rw [← h k hk]
  exact a.2.2 k hk
/-- the set of those that are changed grows by one target's -/
theorem dn_Qt {st : Nat → Int32} {s key t : Nat} {D E : Nat → Prop} {T : Nat → Prop} (hE : ∀ k, k < 16 → (E k ↔ D k ∨ T k)) (k : Nat) (hk : k < 16) : (dn_Q st s key D k ∨ (¬ st (16 * s + k) = 2 ∧ T k)) ↔ dn_Q st s key E k := by
  unfold dn_Q
  rw [hE k hk]
  constructor
  · rintro ((q | q) | q)
    · exact Or.inl q
    · exact Or.inr ⟨q.1, Or.inl q.2⟩
    · exact Or.inr ⟨q.1, Or.inr q.2⟩
  · rintro (q | ⟨q, z | z⟩)
    · exact Or.inl (Or.inl q)
    · exact Or.inl (Or.inr ⟨q, z⟩)
    · exact Or.inr ⟨q, z⟩
theorem dn_Dt {P : Nat → Prop} {D E : Nat → Prop} {T : Nat → Nat → Prop} {t : Nat} (ht : t < 16) (hD : ∀ k, k < 16 → (D k ↔ ∃ x, x < 16 ∧ P x ∧ T k x)) (hE : ∀ k, k < 16 → (E k ↔ D k ∨ T k t)) : ∀ k, k < 16 → (E k ↔ ∃ x, x < 16 ∧ (P x ∨ x = t) ∧ T k x) := by
  intro k hk
  rw [hE k hk, hD k hk]
  constructor
  · rintro (⟨x, h1, h2, h3⟩ | q)
    · exact ⟨x, h1, Or.inl h2, h3⟩
    · exact ⟨t, ht, Or.inr rfl, q⟩
  · rintro ⟨x, h1, h2 | h2, h3⟩
    · exact Or.inl ⟨x, h1, h2, h3⟩
    · rw [h2] at h3
      exact Or.inr h3
theorem ct_s (ct : Nat → Int32) (p : Nat) : upd (upd ct 0 (ct 0 + nI p)) 0 (upd ct 0 (ct 0 + nI p) 0 + 1) = upd ct 0 (ct 0 + nI (p + 1)) := by
  rw [nu_uu, pk_us, Int32.add_assoc, nI_1]
section
variable {sc fc cc : Int32} {md bk ct rt rc lk wt wc ch st en sn sk sr fr lf cr th ro : Nat → Int32}
theorem dx_3 {s key : Nat} (hs : s < 3) (hT : re_T rt wt th) (hB : re_B th) (hK : re_K st) (hkey : st (16 * s + key) = 5) : ∀ (d p : Nat), p + d = 16 → ∀ (P D : Nat → Prop) (c : Nat) (rr : Nat → Int32),
    (∀ k, k < 16 → (D k ↔ ∃ x, x < 16 ∧ P x ∧ dn_T st en rt wt rc wc lk s k x)) → dn_L (dn_Q st s key D) c rr → p ≤ c → (∀ k, k < 16 → (P k ↔ ∃ j, j < p ∧ rr j = nI k)) →
    rm_I key (dn_T st en rt wt rc wc lk s) (fun k => ¬ st (16 * s + k) = 2) P (dn_Q st s key D) →
    ∃ (P' D' : Nat → Prop) (rq' : Int32) (rr' : Nat → Int32), (∀ k, k < 16 → (D' k ↔ ∃ x, x < 16 ∧ P' x ∧ dn_T st en rt wt rc wc lk s k x)) ∧ rm_I key (dn_T st en rt wt rc wc lk s) (fun k => ¬ st (16 * s + k) = 2) P' (dn_Q st s key D') ∧ (∀ k, k < 16 → dn_Q st s key D' k → P' k) ∧
      (∀ (post : SX → Prop) n, d < n → post (sc, fc, cc, rq', md, bk, upd ct 0 (ct 0 + nI (cn_n P' 16)), rt, rc, lk, wt, wc, ch, rm_st s D' st, rm_en s D' st (si_c rc wc lk s) en, rm_en s D' st (si_c rc wc lk s) sn, sk, sr, fr, lf, cr, rr') → wX_removeManaged_23 post (nI s) n (nI p) sc fc cc (nI c) md bk (upd ct 0 (ct 0 + nI p)) rt rc lk wt wc ch (rm_st s D st) (rm_en s D st (si_c rc wc lk s) en) (rm_en s D st (si_c rc wc lk s) sn) sk sr fr lf cr rr) := by
  have fin : ∀ (p : Nat) (P D : Nat → Prop) (c : Nat) (rr : Nat → Int32), dn_L (dn_Q st s key D) c rr → p = c → (∀ k, k < 16 → (P k ↔ ∃ j, j < p ∧ rr j = nI k)) → rm_I key (dn_T st en rt wt rc wc lk s) (fun k => ¬ st (16 * s + k) = 2) P (dn_Q st s key D) → (∀ k, k < 16 → dn_Q st s key D k → P k) ∧ cn_n P 16 = p := by
    intro p P D c rr hL e hP hI
    have q : ∀ k, k < 16 → dn_Q st s key D k → P k := fun k hk z => (hP k hk).mpr (by rw [e]; exact hL.2.2 k hk z)
    refine ⟨q, ?_⟩
    rw [e, hL.1]
    exact cn_eq fun k hk => ⟨hI.2.1 k hk, q k hk⟩
  intro d
  induction d with
  | zero =>
    intro p hp P D c rr hD hL hpc hP hI
    have hc := cn_le (dn_Q st s key D) 16
    have hc1 := hL.1
    obtain ⟨q, e⟩ := fin p P D c rr hL (by omega) hP hI
    refine ⟨P, D, nI c, rr, hD, hI, q, fun post n hn h => ?_⟩
    rw [e] at h
    obtain ⟨n, rfl⟩ : ∃ n', n = n' + 1 := ⟨n - 1, by omega⟩
    simp (disch := omega) only [wX_removeManaged_23, nu_a16, forall_eq, true_implies, false_implies, implies_true, not_true_eq_false, not_false_eq_true, and_true, true_and, and_self, true_or, or_true, false_or, or_false, false_and, and_false, eq_self]
    exact h
  | succ d ih =>
    intro p hp P D c rr hD hL hpc hP hI
    have hc := cn_le (dn_Q st s key D) 16
    have hc1 := hL.1
    by_cases pc : p = c
    · obtain ⟨q, e⟩ := fin p P D c rr hL pc hP hI
      have z : c ≤ p := by omega
      refine ⟨P, D, nI c, rr, hD, hI, q, fun post n hn h => ?_⟩
      rw [e] at h
      obtain ⟨n, rfl⟩ : ∃ n', n = n' + 1 := ⟨n - 1, by omega⟩
      simp (disch := omega) only [wX_removeManaged_23, nu_b16, nu_le, z, forall_eq, true_implies, false_implies, implies_true, not_true_eq_false, not_false_eq_true, and_true, true_and, and_self, true_or, or_true, false_or, or_false, false_and, and_false, eq_self]
      exact h
    · obtain ⟨t, ht, et, qt⟩ := hL.2.1 p (by omega)
      have hDk : ∀ k, k < 16 → D k → ¬ st (16 * s + k) = 1 ∧ ¬ st (16 * s + k) = 5 := fun k hk q => by
        obtain ⟨x, _, _, z⟩ := (hD k hk).mp q
        exact dn_Tk z
      obtain ⟨c1, rr1, E, hE, L1, hr1, hc1', hX1⟩ := dx_2 (sc := sc) (fc := fc) (cc := cc) (md := md) (bk := bk) (ct := upd ct 0 (ct 0 + nI (p + 1))) (rc := rc) (lk := lk) (wc := wc) (ch := ch) (en := en) (sn := sn) (sk := sk) (sr := sr) (fr := fr) (lf := lf) (cr := cr) (t := t) hs hT hB hK hkey 16 0 rfl D c rr hDk hL
      have hE' : ∀ k, k < 16 → (E k ↔ D k ∨ dn_T st en rt wt rc wc lk s k t) := fun k hk => by
        rw [hE k hk]
        exact ⟨fun q => q.imp id (fun z => z.2), fun q => q.imp id (fun z => ⟨Nat.zero_le k, z⟩)⟩
      obtain ⟨P', D', rq', rr', h1, h2, h3, hX2⟩ := ih (p + 1) (by omega) (fun k => P k ∨ k = t) E c1 rr1 (dn_Dt ht hD hE') L1 (by omega) (fun k hk => by
        rw [hP k hk]
        constructor
        · rintro (⟨j, hj, q⟩ | q)
          · exact ⟨j, by omega, by rw [hr1 j (by omega)]; exact q⟩
          · exact ⟨p, by omega, by rw [hr1 p (by omega), et, q]⟩
        · rintro ⟨j, hj, q⟩
          rw [hr1 j (by omega)] at q
          by_cases e : j = p
          · rw [e, et] at q
            exact Or.inr ((nI_eq (by omega) (by omega)).mp q).symm
          · exact Or.inl ⟨j, by omega, q⟩) (rm_Ie (dn_Qt (t := t) hE') (rm_Is hI ht qt))
      refine ⟨P', D', rq', rr', h1, h2, h3, fun post n hn h => ?_⟩
      obtain ⟨n, rfl⟩ : ∃ n', n = n' + 1 := ⟨n - 1, by omega⟩
      have z : ¬ c ≤ p := by omega
      simp (disch := omega) only [wX_removeManaged_23, wpX_removeLinking, nu_b16, nu_le, z, et, ct_s, nu_01, nu_40, nu_30, nu_20, nu_160, Int32.add_zero, Nat.reduceAdd, nu_m16, nu_16m, nu_m4, nu_4m, nu_m3, nu_3m, nu_m2, nu_2m, nI_1, nu_p2, nu_p3, nu_16p, nu_2p, nI_add, nu_cl, nu_in, Nat.add_zero, nu_l0, nu_l1, nu_l2, nu_l3, nu_l4, nu_i0_5, nu_i1_5, nu_i2_5, nu_i0_3, nu_i1_3, nu_i2_3, nu_n0, nu_n1, nu_na0, nu_na1, forall_eq, true_implies, false_implies, implies_true, not_true_eq_false, not_false_eq_true, and_true, true_and, and_self, true_or, or_true, false_or, or_false, false_and, and_false, eq_self]
      refine ⟨17, hX1 _ 17 (by decide) ?_⟩
      simp (disch := omega) only [nu_01, nu_40, nu_30, nu_20, nu_160, Int32.add_zero, Nat.reduceAdd, nu_m16, nu_16m, nu_m4, nu_4m, nu_m3, nu_3m, nu_m2, nu_2m, nI_1, nu_p2, nu_p3, nu_16p, nu_2p, nI_add, nu_cl, nu_in, Nat.add_zero, nu_l0, nu_l1, nu_l2, nu_l3, nu_l4, nu_i0_5, nu_i1_5, nu_i2_5, nu_i0_3, nu_i1_3, nu_i2_3, nu_n0, nu_n1, nu_na0, nu_na1, forall_eq, true_implies, false_implies, implies_true, not_true_eq_false, not_false_eq_true, and_true, true_and, and_self, true_or, or_true, false_or, or_false, false_and, and_false, eq_self]
      exact hX2 post n (by omega) h
end
section
variable {sc fc : Int32} {md bk ct rt rc lk wt wc ch st en sn fr th ro nw bf ve yl la od sm : Nat → Int32}
theorem dy_p {post : SY → Prop} {s t i n : Nat} (hs : s < 3) (hi : i < 16) (hT : re_T rt wt th) (hC : re_C rc wc ro)
    (h : (¬ st (16 * s + i) = 0 ∧ ¬ st (16 * s + i) = 3) ∨ ¬ (¬ si_t rt wt lk s i = 0 ∧ si_c rc wc lk s i 2 = nI t))
    (hp : wY_spread_76 post (wY_spread_2 post (nI s) (nI t) n) (nI s) (nI t) (nI i) (nI (16 * s + i)) sc fc th ch ro lk st nw bf ve bk md yl la od sm fr ct) : wY_spread_2 post (nI s) (nI t) (n + 1) (nI i) sc fc th ch ro lk st nw bf ve bk md yl la od sm fr ct := by
  have hf := si_lt lk (s := s) hi
  have ht := si_ft (lk := lk) (s := s) hT hi
  have hc := si_fc (lk := lk) (s := s) (c := 2) hC hi (by decide)
  by_cases u : ¬ st (16 * s + i) = 0 ∧ ¬ st (16 * s + i) = 3
  · have u0 := u.1
    have u3 := u.2
    simp (disch := omega) only [wY_spread_2, nu_b16, vy_see hi, u0, u3, nu_01, nu_40, nu_30, nu_20, nu_160, Int32.add_zero, Nat.reduceAdd, nu_m16, nu_16m, nu_m4, nu_4m, nu_m3, nu_3m, nu_m2, nu_2m, nI_1, nu_p2, nu_p3, nu_16p, nu_2p, nI_add, nu_cl, nu_in, Nat.add_zero, nu_l0, nu_l1, nu_l2, nu_l3, nu_l4, nu_i0_5, nu_i1_5, nu_i2_5, nu_i0_3, nu_i1_3, nu_i2_3, nu_n0, nu_n1, nu_na0, nu_na1, forall_eq, true_implies, false_implies, implies_true, not_true_eq_false, not_false_eq_true, and_true, true_and, and_self, true_or, or_true, false_or, or_false, false_and, and_false, eq_self]
    exact hp
  · have h' := h.resolve_left u
    have hp' : wY_spread_45 post (wY_spread_2 post (nI s) (nI t) n) (nI s) (nI t) (nI i) (nI (16 * s + i)) (nI (si_f lk s i)) sc fc th ch ro lk st nw bf ve bk md yl la od sm fr ct := by
      by_cases z1 : si_t rt wt lk s i = 0
      · rw [z1] at ht
        simp (disch := omega) only [wY_spread_45, ht, nu_01, nu_40, nu_30, nu_20, nu_160, Int32.add_zero, Nat.reduceAdd, nu_m16, nu_16m, nu_m4, nu_4m, nu_m3, nu_3m, nu_m2, nu_2m, nI_1, nu_p2, nu_p3, nu_16p, nu_2p, nI_add, nu_cl, nu_in, Nat.add_zero, nu_l0, nu_l1, nu_l2, nu_l3, nu_l4, nu_i0_5, nu_i1_5, nu_i2_5, nu_i0_3, nu_i1_3, nu_i2_3, nu_n0, nu_n1, nu_na0, nu_na1, forall_eq, true_implies, false_implies, implies_true, not_true_eq_false, not_false_eq_true, and_true, true_and, and_self, true_or, or_true, false_or, or_false, false_and, and_false, eq_self]
        exact hp
      · have ht' : ¬ th (si_f lk s i) = 0 := by
          rw [ht]
          exact z1
        have hc' : ¬ ro (4 * si_f lk s i + 2) = nI t := fun q => h' ⟨z1, by rw [← hc]; exact q⟩
        simp (disch := omega) only [wY_spread_45, ht', hc', nu_01, nu_40, nu_30, nu_20, nu_160, Int32.add_zero, Nat.reduceAdd, nu_m16, nu_16m, nu_m4, nu_4m, nu_m3, nu_3m, nu_m2, nu_2m, nI_1, nu_p2, nu_p3, nu_16p, nu_2p, nI_add, nu_cl, nu_in, Nat.add_zero, nu_l0, nu_l1, nu_l2, nu_l3, nu_l4, nu_i0_5, nu_i1_5, nu_i2_5, nu_i0_3, nu_i1_3, nu_i2_3, nu_n0, nu_n1, nu_na0, nu_na1, forall_eq, true_implies, false_implies, implies_true, not_true_eq_false, not_false_eq_true, and_true, true_and, and_self, true_or, or_true, false_or, or_false, false_and, and_false, eq_self]
        exact hp
    by_cases u0 : st (16 * s + i) = 0
    · simp (disch := omega) only [wY_spread_2, nu_b16, vy_see hi, u0, nu_01, nu_40, nu_30, nu_20, nu_160, Int32.add_zero, Nat.reduceAdd, nu_m16, nu_16m, nu_m4, nu_4m, nu_m3, nu_3m, nu_m2, nu_2m, nI_1, nu_p2, nu_p3, nu_16p, nu_2p, nI_add, nu_cl, nu_in, Nat.add_zero, nu_l0, nu_l1, nu_l2, nu_l3, nu_l4, nu_i0_5, nu_i1_5, nu_i2_5, nu_i0_3, nu_i1_3, nu_i2_3, nu_n0, nu_n1, nu_na0, nu_na1, forall_eq, true_implies, false_implies, implies_true, not_true_eq_false, not_false_eq_true, and_true, true_and, and_self, true_or, or_true, false_or, or_false, false_and, and_false, eq_self]
      exact hp'
    · have u3 : st (16 * s + i) = 3 := Classical.byContradiction fun q => u ⟨u0, q⟩
      simp (disch := omega) only [wY_spread_2, nu_b16, nu_k30, vy_see hi, u3, nu_01, nu_40, nu_30, nu_20, nu_160, Int32.add_zero, Nat.reduceAdd, nu_m16, nu_16m, nu_m4, nu_4m, nu_m3, nu_3m, nu_m2, nu_2m, nI_1, nu_p2, nu_p3, nu_16p, nu_2p, nI_add, nu_cl, nu_in, Nat.add_zero, nu_l0, nu_l1, nu_l2, nu_l3, nu_l4, nu_i0_5, nu_i1_5, nu_i2_5, nu_i0_3, nu_i1_3, nu_i2_3, nu_n0, nu_n1, nu_na0, nu_na1, forall_eq, true_implies, false_implies, implies_true, not_true_eq_false, not_false_eq_true, and_true, true_and, and_self, true_or, or_true, false_or, or_false, false_and, and_false, eq_self]
      exact hp'
theorem dy_q {post : SY → Prop} {s t i n : Nat} (hs : s < 3) (hi : i < 16) (hT : re_T rt wt th) (hC : re_C rc wc ro) (h : st (16 * s + i) = 0 ∨ st (16 * s + i) = 3) (z1 : ¬ si_t rt wt lk s i = 0) (z2 : si_c rc wc lk s i 2 = nI t)
    (hp : wY_spread_76 post (wY_spread_2 post (nI s) (nI t) n) (nI s) (nI t) (nI i) (nI (16 * s + i)) sc fc th ch ro lk (upd st (16 * s + i) 4) (u3_f nw (3 * (16 * s + i)) (si_c rc wc lk s i 0) (si_c rc wc lk s i 1) (si_c rc wc lk s i 2)) (u3_f bf (3 * (16 * s + i)) (si_c rc wc lk s i 0) (si_c rc wc lk s i 1) (si_c rc wc lk s i 2)) (upd ve (16 * s + i) (si_c rc wc lk s i 3)) bk md yl la od sm fr ct) : wY_spread_2 post (nI s) (nI t) (n + 1) (nI i) sc fc th ch ro lk st nw bf ve bk md yl la od sm fr ct := by
  have hf := si_lt lk (s := s) hi
  have ht := si_ft (lk := lk) (s := s) hT hi
  have hc := si_fc (lk := lk) (s := s) (c := 2) hC hi (by decide)
  have ht' : ¬ th (si_f lk s i) = 0 := by
    rw [ht]
    exact z1
  have hc' : ro (4 * si_f lk s i + 2) = nI t := hc.trans z2
  rcases h with u | u
  · simp (disch := omega) only [wY_spread_2, wY_spread_45, nu_b16, vy_see hi, u, ht', hc', nu_01, nu_40, nu_30, nu_20, nu_160, Int32.add_zero, Nat.reduceAdd, nu_m16, nu_16m, nu_m4, nu_4m, nu_m3, nu_3m, nu_m2, nu_2m, nI_1, nu_p2, nu_p3, nu_16p, nu_2p, nI_add, nu_cl, nu_in, Nat.add_zero, nu_l0, nu_l1, nu_l2, nu_l3, nu_l4, nu_i0_5, nu_i1_5, nu_i2_5, nu_i0_3, nu_i1_3, nu_i2_3, nu_n0, nu_n1, nu_na0, nu_na1, forall_eq, true_implies, false_implies, implies_true, not_true_eq_false, not_false_eq_true, and_true, true_and, and_self, true_or, or_true, false_or, or_false, false_and, and_false, eq_self]
    exact vy_mg hs hi hC hp
  · simp (disch := omega) only [wY_spread_2, wY_spread_45, nu_b16, nu_k30, vy_see hi, u, ht', hc', nu_01, nu_40, nu_30, nu_20, nu_160, Int32.add_zero, Nat.reduceAdd, nu_m16, nu_16m, nu_m4, nu_4m, nu_m3, nu_3m, nu_m2, nu_2m, nI_1, nu_p2, nu_p3, nu_16p, nu_2p, nI_add, nu_cl, nu_in, Nat.add_zero, nu_l0, nu_l1, nu_l2, nu_l3, nu_l4, nu_i0_5, nu_i1_5, nu_i2_5, nu_i0_3, nu_i1_3, nu_i2_3, nu_n0, nu_n1, nu_na0, nu_na1, forall_eq, true_implies, false_implies, implies_true, not_true_eq_false, not_false_eq_true, and_true, true_and, and_self, true_or, or_true, false_or, or_false, false_and, and_false, eq_self]
    exact vy_mg hs hi hC hp
theorem dy_76n {post : SY → Prop} {J : Int32 → Int32 → Int32 → (Nat → Int32) → (Nat → Int32) → (Nat → Int32) → (Nat → Int32) → (Nat → Int32) → (Nat → Int32) → (Nat → Int32) → (Nat → Int32) → (Nat → Int32) → (Nat → Int32) → (Nat → Int32) → (Nat → Int32) → (Nat → Int32) → (Nat → Int32) → (Nat → Int32) → (Nat → Int32) → Prop} {s t i : Nat} (hs : s < 3) (hi : i < 16)
    (h : (¬ st (16 * s + i) = 4 ∧ ¬ st (16 * s + i) = 2) ∨ ¬ nw (3 * (16 * s + i) + 2) = nI t) (hp : J (nI (i + 1)) sc fc th ch ro lk st nw bf ve bk md yl la od sm fr ct) : wY_spread_76 post J (nI s) (nI t) (nI i) (nI (16 * s + i)) sc fc th ch ro lk st nw bf ve bk md yl la od sm fr ct := by
  by_cases u4 : st (16 * s + i) = 4
  · have e : ¬ nw (3 * (16 * s + i) + 2) = nI t := h.resolve_left (fun q => q.1 u4)
    simp (disch := omega) only [wY_spread_76, wY_spread_98, u4, e, nu_01, nu_40, nu_30, nu_20, nu_160, Int32.add_zero, Nat.reduceAdd, nu_m16, nu_16m, nu_m4, nu_4m, nu_m3, nu_3m, nu_m2, nu_2m, nI_1, nu_p2, nu_p3, nu_16p, nu_2p, nI_add, nu_cl, nu_in, Nat.add_zero, nu_l0, nu_l1, nu_l2, nu_l3, nu_l4, nu_i0_5, nu_i1_5, nu_i2_5, nu_i0_3, nu_i1_3, nu_i2_3, nu_n0, nu_n1, nu_na0, nu_na1, forall_eq, true_implies, false_implies, implies_true, not_true_eq_false, not_false_eq_true, and_true, true_and, and_self, true_or, or_true, false_or, or_false, false_and, and_false, eq_self]
    exact hp
  · by_cases u2 : st (16 * s + i) = 2
    · have e : ¬ nw (3 * (16 * s + i) + 2) = nI t := h.resolve_left (fun q => q.2 u2)
      simp (disch := omega) only [wY_spread_76, wY_spread_98, nu_k24, u2, e, nu_01, nu_40, nu_30, nu_20, nu_160, Int32.add_zero, Nat.reduceAdd, nu_m16, nu_16m, nu_m4, nu_4m, nu_m3, nu_3m, nu_m2, nu_2m, nI_1, nu_p2, nu_p3, nu_16p, nu_2p, nI_add, nu_cl, nu_in, Nat.add_zero, nu_l0, nu_l1, nu_l2, nu_l3, nu_l4, nu_i0_5, nu_i1_5, nu_i2_5, nu_i0_3, nu_i1_3, nu_i2_3, nu_n0, nu_n1, nu_na0, nu_na1, forall_eq, true_implies, false_implies, implies_true, not_true_eq_false, not_false_eq_true, and_true, true_and, and_self, true_or, or_true, false_or, or_false, false_and, and_false, eq_self]
      exact hp
    · simp (disch := omega) only [wY_spread_76, u4, u2, nu_01, nu_40, nu_30, nu_20, nu_160, Int32.add_zero, Nat.reduceAdd, nu_m16, nu_16m, nu_m4, nu_4m, nu_m3, nu_3m, nu_m2, nu_2m, nI_1, nu_p2, nu_p3, nu_16p, nu_2p, nI_add, nu_cl, nu_in, Nat.add_zero, nu_l0, nu_l1, nu_l2, nu_l3, nu_l4, nu_i0_5, nu_i1_5, nu_i2_5, nu_i0_3, nu_i1_3, nu_i2_3, nu_n0, nu_n1, nu_na0, nu_na1, forall_eq, true_implies, false_implies, implies_true, not_true_eq_false, not_false_eq_true, and_true, true_and, and_self, true_or, or_true, false_or, or_false, false_and, and_false, eq_self]
      exact hp
theorem dy_762 {post : SY → Prop} {J : Int32 → Int32 → Int32 → (Nat → Int32) → (Nat → Int32) → (Nat → Int32) → (Nat → Int32) → (Nat → Int32) → (Nat → Int32) → (Nat → Int32) → (Nat → Int32) → (Nat → Int32) → (Nat → Int32) → (Nat → Int32) → (Nat → Int32) → (Nat → Int32) → (Nat → Int32) → (Nat → Int32) → (Nat → Int32) → Prop} {s t i : Nat} (hs : s < 3) (hi : i < 16)
    (e : nw (3 * (16 * s + i) + 2) = nI t) (u : st (16 * s + i) = 2) (hp : J (nI (i + 1)) sc fc th ch ro lk (upd st (16 * s + i) 1) nw bf ve bk md yl la od sm fr ct) : wY_spread_76 post J (nI s) (nI t) (nI i) (nI (16 * s + i)) sc fc th ch ro lk st nw bf ve bk md yl la od sm fr ct := by
  simp (disch := omega) only [wY_spread_76, wY_spread_98, wY_spread_134, nu_k24, e, u, nu_01, nu_40, nu_30, nu_20, nu_160, Int32.add_zero, Nat.reduceAdd, nu_m16, nu_16m, nu_m4, nu_4m, nu_m3, nu_3m, nu_m2, nu_2m, nI_1, nu_p2, nu_p3, nu_16p, nu_2p, nI_add, nu_cl, nu_in, Nat.add_zero, nu_l0, nu_l1, nu_l2, nu_l3, nu_l4, nu_i0_5, nu_i1_5, nu_i2_5, nu_i0_3, nu_i1_3, nu_i2_3, nu_n0, nu_n1, nu_na0, nu_na1, forall_eq, true_implies, false_implies, implies_true, not_true_eq_false, not_false_eq_true, and_true, true_and, and_self, true_or, or_true, false_or, or_false, false_and, and_false, eq_self]
  exact hp
theorem dy_764 {post : SY → Prop} {J : Int32 → Int32 → Int32 → (Nat → Int32) → (Nat → Int32) → (Nat → Int32) → (Nat → Int32) → (Nat → Int32) → (Nat → Int32) → (Nat → Int32) → (Nat → Int32) → (Nat → Int32) → (Nat → Int32) → (Nat → Int32) → (Nat → Int32) → (Nat → Int32) → (Nat → Int32) → (Nat → Int32) → (Nat → Int32) → Prop} {s t i : Nat} (hs : s < 3) (hi : i < 16)
    (e : nw (3 * (16 * s + i) + 2) = nI t) (u : st (16 * s + i) = 4) (hp : J (nI (i + 1)) sc fc th ch ro lk (upd st (16 * s + i) 5) nw bf ve bk md (upd yl i 1) la od sm fr ct) : wY_spread_76 post J (nI s) (nI t) (nI i) (nI (16 * s + i)) sc fc th ch ro lk st nw bf ve bk md yl la od sm fr ct := by
  simp (disch := omega) only [wY_spread_76, wY_spread_98, wY_spread_134, nu_k42, e, u, nu_01, nu_40, nu_30, nu_20, nu_160, Int32.add_zero, Nat.reduceAdd, nu_m16, nu_16m, nu_m4, nu_4m, nu_m3, nu_3m, nu_m2, nu_2m, nI_1, nu_p2, nu_p3, nu_16p, nu_2p, nI_add, nu_cl, nu_in, Nat.add_zero, nu_l0, nu_l1, nu_l2, nu_l3, nu_l4, nu_i0_5, nu_i1_5, nu_i2_5, nu_i0_3, nu_i1_3, nu_i2_3, nu_n0, nu_n1, nu_na0, nu_na1, forall_eq, true_implies, false_implies, implies_true, not_true_eq_false, not_false_eq_true, and_true, true_and, and_self, true_or, or_true, false_or, or_false, false_and, and_false, eq_self]
  exact hp
theorem dy_1 {s t i key : Nat} {D P : Nat → Prop} (hs : s < 3) (hi : i < 16) (hT : re_T rt wt th) (hC : re_C rc wc ro) (hK : re_K st) (hN : re_N st en nw) (hkey : st (16 * s + key) = 5)
    (hD : ∀ k, k < 16 → D k → ¬ st (16 * s + k) = 1 ∧ ¬ st (16 * s + k) = 5) (hPQ : ∀ k, k < 16 → P k → dn_Q st s key D k) (hy : ∀ k, k < 16 → (¬ yl k = 0 ↔ dn_Q st s key D k ∧ ¬ P k)) :
    ∃ (yl' : Nat → Int32) (E : Nat → Prop), (∀ k, k < 16 → (E k ↔ D k ∨ (k = i ∧ dn_T st en rt wt rc wc lk s k t))) ∧ (∀ k, k < 16 → (¬ yl' k = 0 ↔ dn_Q st s key E k ∧ ¬ P k)) ∧
      (∀ (post : SY → Prop) n, wY_spread_2 post (nI s) (nI t) n (nI (i + 1)) sc fc th ch ro lk (rm_st s E st) (rm_nw s E st (si_c rc wc lk s) nw) (rm_nw s E st (si_c rc wc lk s) bf) (rm_ve s E st (si_c rc wc lk s) ve) bk md yl' la od sm fr ct → wY_spread_2 post (nI s) (nI t) (n + 1) (nI i) sc fc th ch ro lk (rm_st s D st) (rm_nw s D st (si_c rc wc lk s) nw) (rm_nw s D st (si_c rc wc lk s) bf) (rm_ve s D st (si_c rc wc lk s) ve) bk md yl la od sm fr ct) := by
  by_cases d : D i
  · have e1 : rm_st s D st (16 * s + i) = if st (16 * s + i) = 2 then 1 else 5 := rm_t ((rm_dk hi).mpr d)
    have n0 : ¬ rm_st s D st (16 * s + i) = 0 ∧ ¬ rm_st s D st (16 * s + i) = 3 ∧ ¬ rm_st s D st (16 * s + i) = 4 ∧ ¬ rm_st s D st (16 * s + i) = 2 := by
      rw [e1]
      split <;> decide
    refine ⟨yl, D, fun k hk => ⟨Or.inl, fun q => ?_⟩, hy, fun post n hp => ?_⟩
    · rcases q with q | q
      · exact q
      · rw [q.1]
        exact d
    · refine dy_p hs hi hT hC (Or.inl ⟨n0.1, n0.2.1⟩) ?_
      exact dy_76n hs hi (Or.inl n0.2.2) hp
  · have e1 : rm_st s D st (16 * s + i) = st (16 * s + i) := rm_f (fun q => d ((rm_dk hi).mp q))
    have e2 : rm_nw s D st (si_c rc wc lk s) nw (3 * (16 * s + i) + 2) = nw (3 * (16 * s + i) + 2) := by
      rw [rm_nwc (by decide)]
      exact rm_f (fun q => d ((rm_dk hi).mp q.1))
    have add : ∀ E : Nat → Prop, (∀ j, j < 16 → (E j ↔ D j ∨ j = i)) → ¬ st (16 * s + i) = 2 → ¬ dn_Q st s key D i → ∀ k, k < 16 → (¬ upd yl i 1 k = 0 ↔ dn_Q st s key E k ∧ ¬ P k) := by
      intro E hE u2 hnq k hk
      rw [dn_Qm (key := key) hE u2 k hk]
      by_cases q : k = i
      · rw [q, pk_us]
        exact ⟨fun _ => ⟨Or.inr rfl, fun z => hnq (hPQ i hi z)⟩, fun _ => by decide⟩
      · rw [pk_un q, hy k hk]
        exact ⟨fun z => ⟨Or.inl z.1, z.2⟩, fun z => ⟨z.1.resolve_right q, z.2⟩⟩
    by_cases T : dn_T st en rt wt rc wc lk s i t
    · have hE : ∀ j, j < 16 → ((fun k => D k ∨ k = i) j ↔ D j ∨ j = i) := fun j _ => Iff.rfl
      have hE' : ∀ k, k < 16 → ((fun k => D k ∨ k = i) k ↔ D k ∨ (k = i ∧ dn_T st en rt wt rc wc lk s k t)) := by
        intro k _
        constructor
        · rintro (q | q)
          · exact Or.inl q
          · exact Or.inr ⟨q, by rw [q]; exact T⟩
        · rintro (q | q)
          · exact Or.inl q
          · exact Or.inr q.1
      rcases T with ⟨u, g⟩ | ⟨u, g1, g2⟩
      · have k0 : ¬ (st (16 * s + i) = 0 ∨ st (16 * s + i) = 3) := by
          rcases u with u | u <;> rw [u] <;> decide
        have g' : nw (3 * (16 * s + i) + 2) = nI t := (hN (16 * s + i) (by omega) (fun q => k0 (Or.inl q)) (fun q => k0 (Or.inr q)) 2 (by decide)).symm.trans g
        by_cases u2 : st (16 * s + i) = 2
        · refine ⟨yl, fun k => D k ∨ k = i, hE', fun k hk => ?_, fun post n hp => ?_⟩
          · rw [← dn_Qk (key := key) hE u2 k hk]
            exact hy k hk
          · rw [rm_stp hi hE, rm_nwk hi hE k0, rm_nwk hi hE k0, rm_vek hi hE k0, if_pos u2] at hp
            refine dy_p hs hi hT hC (Or.inl (by rw [e1, u2]; decide)) ?_
            exact dy_762 hs hi (e2.trans g') (e1.trans u2) hp
        · have u4 := u.resolve_left u2
          have hnq : ¬ dn_Q st s key D i := by
            rintro (q | q)
            · rw [← q, u4] at hkey
              exact absurd hkey (by decide)
            · exact d q.2
          refine ⟨upd yl i 1, fun k => D k ∨ k = i, hE', add _ hE u2 hnq, fun post n hp => ?_⟩
          rw [rm_stp hi hE, rm_nwk hi hE k0, rm_nwk hi hE k0, rm_vek hi hE k0, if_neg u2] at hp
          refine dy_p hs hi hT hC (Or.inl (by rw [e1, u4]; decide)) ?_
          exact dy_764 hs hi (e2.trans g') (e1.trans u4) hp
      · have u2 : ¬ st (16 * s + i) = 2 := by
          rcases u with u | u <;> rw [u] <;> decide
        have hnq : ¬ dn_Q st s key D i := by
          rintro (q | q)
          · rw [← q] at hkey
            rcases u with u | u <;> rw [u] at hkey <;> exact absurd hkey (by decide)
          · exact d q.2
        refine ⟨upd yl i 1, fun k => D k ∨ k = i, hE', add _ hE u2 hnq, fun post n hp => ?_⟩
        rw [rm_stp hi hE, rm_nwm hi hE u, rm_nwm hi hE u, rm_vem hi hE u, if_neg u2] at hp
        refine dy_q hs hi hT hC (by rw [e1]; exact u) g1 g2 ?_
        refine dy_764 hs hi (u3_2.trans g2) pk_us ?_
        rw [nu_uu]
        exact hp
    · refine ⟨yl, D, fun k hk => ⟨Or.inl, fun q => ?_⟩, hy, fun post n hp => ?_⟩
      · rcases q with q | q
        · exact q
        · have := q.2
          rw [q.1] at this
          exact absurd this T
      · rcases hK (16 * s + i) with a | a | a | a | a | a
        · refine dy_p hs hi hT hC (Or.inr (fun q => T (Or.inr ⟨Or.inl a, q.1, q.2⟩))) ?_
          exact dy_76n hs hi (Or.inl (by rw [e1, a]; decide)) hp
        · refine dy_p hs hi hT hC (Or.inl (by rw [e1, a]; decide)) ?_
          exact dy_76n hs hi (Or.inl (by rw [e1, a]; decide)) hp
        · have g' := hN (16 * s + i) (by omega) (by rw [a]; decide) (by rw [a]; decide) 2 (by decide)
          refine dy_p hs hi hT hC (Or.inl (by rw [e1, a]; decide)) ?_
          exact dy_76n hs hi (Or.inr (fun q => T (Or.inl ⟨Or.inl a, g'.trans (e2.symm.trans q)⟩))) hp
        · refine dy_p hs hi hT hC (Or.inr (fun q => T (Or.inr ⟨Or.inr a, q.1, q.2⟩))) ?_
          exact dy_76n hs hi (Or.inl (by rw [e1, a]; decide)) hp
        · have g' := hN (16 * s + i) (by omega) (by rw [a]; decide) (by rw [a]; decide) 2 (by decide)
          refine dy_p hs hi hT hC (Or.inl (by rw [e1, a]; decide)) ?_
          exact dy_76n hs hi (Or.inr (fun q => T (Or.inl ⟨Or.inr a, g'.trans (e2.symm.trans q)⟩))) hp
        · refine dy_p hs hi hT hC (Or.inl (by rw [e1, a]; decide)) ?_
          exact dy_76n hs hi (Or.inl (by rw [e1, a]; decide)) hp
end
