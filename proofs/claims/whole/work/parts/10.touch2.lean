section
variable {md bk rt rc lk wt wc th ro : Nat → Int32}
variable (sc fc cc rq : Int32) (sk sr fr lf cr rr yl la od sm : Nat → Int32)
/-- the batch of a TOUCH, in lockstep -/
theorem tl_S {s : Nat} {q : Int32} (hs : s < 3) (hq : q = 0 ∨ q = 1) (hm : ¬ md 2 = 0) : ∀ (d i : Nat), i + d = 16 → ∀ (m : Nat) (a : Int32), m ≤ 2 → (a = 0 ∨ a = 1) → ∀ (ct ch st en sn nw bf ve : Nat → Int32), re_R md bk ch lk st rt rc wt wc en sn th ro nw bf ve →
    ∃ (a' : Int32) (ct' ch' st' en' sn' nw' bf' ve' : Nat → Int32), (a' = 0 ∨ a' = 1) ∧ re_R md bk ch' lk st' rt rc wt wc en' sn' th ro nw' bf' ve' ∧ (∀ e, st e = 4 → st' e = 4) ∧
      (∀ (post : Int32 → SX → Prop) (n : Nat), d < n → wX_touch_105 post q a' sc fc cc rq md bk ct' rt rc lk wt wc ch' st' en' sn' sk sr fr lf cr rr → wX_touch_42 post (nI s) q n a (nI (2 - m)) (nI i) sc fc cc rq md bk ct rt rc lk wt wc ch st en sn sk sr fr lf cr rr) ∧
      (∀ (post : Int32 → SY → Prop) (n : Nat), d < n → wY_touch_96 post q a' sc fc th ch' ro lk st' nw' bf' ve' bk md yl la od sm fr ct' → wY_touch_24 post (nI s) q n a (nI m) (nI i) sc fc th ch ro lk st nw bf ve bk md yl la od sm fr ct) := by
  have hq2 : ¬ 2 ≤ q := by rcases hq with rfl | rfl <;> decide
  intro d
  induction d with
  | zero =>
    intro i hi m a hm2 ha ct ch st en sn nw bf ve R
    refine ⟨a, ct, ch, st, en, sn, nw, bf, ve, ha, R, fun _ h => h, fun post n hn hp => ?_, fun post n hn hp => ?_⟩
    · obtain ⟨n, rfl⟩ : ∃ n', n = n' + 1 := ⟨n - 1, by omega⟩
      simp (disch := omega) only [wX_touch_42, nu_a16, forall_eq, true_implies, false_implies, implies_true, not_true_eq_false, not_false_eq_true, and_true, true_and, and_self, true_or, or_true, false_or, or_false, false_and, and_false, eq_self]
      exact hp
    · obtain ⟨n, rfl⟩ : ∃ n', n = n' + 1 := ⟨n - 1, by omega⟩
      simp (disch := omega) only [wY_touch_24, nu_a16, forall_eq, true_implies, false_implies, implies_true, not_true_eq_false, not_false_eq_true, and_true, true_and, and_self, true_or, or_true, false_or, or_false, false_and, and_false, eq_self]
      exact hp
  | succ d ih =>
    intro i hi m a hm2 ha ct ch st en sn nw bf ve R
    by_cases m2 : m = 2
    · subst m2
      refine ⟨a, ct, ch, st, en, sn, nw, bf, ve, ha, R, fun _ h => h, fun post n hn hp => ?_, fun post n hn hp => ?_⟩
      · obtain ⟨n, rfl⟩ : ∃ n', n = n' + 1 := ⟨n - 1, by omega⟩
        simp (disch := omega) only [wX_touch_42, nu_b16, Nat.sub_self, nu_p0, forall_eq, true_implies, false_implies, implies_true, not_true_eq_false, not_false_eq_true, and_true, true_and, and_self, true_or, or_true, false_or, or_false, false_and, and_false, eq_self]
        exact hp
      · obtain ⟨n, rfl⟩ : ∃ n', n = n' + 1 := ⟨n - 1, by omega⟩
        simp (disch := omega) only [wY_touch_24, nu_b16, hq2, hm, nu_a2, forall_eq, true_implies, false_implies, implies_true, not_true_eq_false, not_false_eq_true, and_true, true_and, and_self, true_or, or_true, false_or, or_false, false_and, and_false, eq_self]
        exact hp
    · by_cases h3 : st (16 * s + i) = 3
      · obtain ⟨r, ct1, ch1, st1, en1, sn1, nw1, bf1, ve1, hr, R1, f1, f2, hX, hY⟩ := ld_S sc fc cc rq ct sk sr fr lf cr rr yl la od sm hs (show i < 16 by omega) R
        obtain ⟨a2, ct2, ch2, st2, en2, sn2, nw2, bf2, ve2, ha2, R2, g, hX2, hY2⟩ := ih (i + 1) (by omega) (m + 1) (if r = 0 then a else 1) (by omega) (by split; exact ha; exact Or.inr rfl) ct1 ch1 st1 en1 sn1 nw1 bf1 ve1 R1
        refine ⟨a2, ct2, ch2, st2, en2, sn2, nw2, bf2, ve2, ha2, R2, fun e h => g e ?_, fun post n hn hp => ?_, fun post n hn hp => ?_⟩
        · by_cases z : r = 2
          · rw [f2 z]
            exact h
          · rw [f1 z]
            by_cases y : e = 16 * s + i
            · rw [y, pk_us]
            · rw [pk_un y]
              exact h
        · obtain ⟨n, rfl⟩ : ∃ n', n = n' + 1 := ⟨n - 1, by omega⟩
          have hk := hX2 post n (by omega) hp
          simp (disch := omega) only [wX_touch_42, nu_b16, nu_pn, nu_dec, nu_01, nu_40, nu_30, nu_20, nu_160, Int32.add_zero, Nat.reduceAdd, nu_m16, nu_16m, nu_m4, nu_4m, nu_m3, nu_3m, nu_m2, nu_2m, nI_1, nu_p2, nu_p3, nu_16p, nu_2p, nI_add, nu_cl, nu_in, Nat.add_zero, nu_l0, nu_l1, nu_l2, nu_l3, nu_l4, nu_i0_5, nu_i1_5, nu_i2_5, nu_i0_3, nu_i1_3, nu_i2_3, nu_n0, nu_n1, nu_na0, nu_na1, h3, forall_eq, true_implies, false_implies, implies_true, not_true_eq_false, not_false_eq_true, and_true, true_and, and_self, true_or, or_true, false_or, or_false, false_and, and_false, eq_self]
          refine hX _ ?_
          rcases hr with rfl | rfl | rfl
          · rw [if_pos rfl] at hk
            rcases ha with rfl | rfl
            · simp only [forall_eq, true_implies, false_implies, implies_true, not_true_eq_false, not_false_eq_true, and_true, true_and, and_self, true_or, or_true, false_or, or_false, false_and, and_false, eq_self]
              exact hk
            · simp only [nu_k10, forall_eq, true_implies, false_implies, implies_true, not_true_eq_false, not_false_eq_true, and_true, true_and, and_self, true_or, or_true, false_or, or_false, false_and, and_false, eq_self]
              exact hk
          · rw [if_neg (by decide)] at hk
            rcases ha with rfl | rfl
            · simp only [nu_k10, forall_eq, true_implies, false_implies, implies_true, not_true_eq_false, not_false_eq_true, and_true, true_and, and_self, true_or, or_true, false_or, or_false, false_and, and_false, eq_self]
              exact hk
            · simp only [nu_k10, forall_eq, true_implies, false_implies, implies_true, not_true_eq_false, not_false_eq_true, and_true, true_and, and_self, true_or, or_true, false_or, or_false, false_and, and_false, eq_self]
              exact hk
          · rw [if_neg (by decide)] at hk
            rcases ha with rfl | rfl
            · simp only [nu_k20, nu_k10, forall_eq, true_implies, false_implies, implies_true, not_true_eq_false, not_false_eq_true, and_true, true_and, and_self, true_or, or_true, false_or, or_false, false_and, and_false, eq_self]
              exact hk
            · simp only [nu_k20, nu_k10, forall_eq, true_implies, false_implies, implies_true, not_true_eq_false, not_false_eq_true, and_true, true_and, and_self, true_or, or_true, false_or, or_false, false_and, and_false, eq_self]
              exact hk
        · obtain ⟨n, rfl⟩ : ∃ n', n = n' + 1 := ⟨n - 1, by omega⟩
          have hk := hY2 post n (by omega) hp
          simp (disch := omega) only [wY_touch_24, nu_b16, hq2, hm, nu_b2, nu_01, nu_40, nu_30, nu_20, nu_160, Int32.add_zero, Nat.reduceAdd, nu_m16, nu_16m, nu_m4, nu_4m, nu_m3, nu_3m, nu_m2, nu_2m, nI_1, nu_p2, nu_p3, nu_16p, nu_2p, nI_add, nu_cl, nu_in, Nat.add_zero, nu_l0, nu_l1, nu_l2, nu_l3, nu_l4, nu_i0_5, nu_i1_5, nu_i2_5, nu_i0_3, nu_i1_3, nu_i2_3, nu_n0, nu_n1, nu_na0, nu_na1, h3, forall_eq, true_implies, false_implies, implies_true, not_true_eq_false, not_false_eq_true, and_true, true_and, and_self, true_or, or_true, false_or, or_false, false_and, and_false, eq_self]
          refine hY _ ?_
          rcases hr with rfl | rfl | rfl
          · rw [if_pos rfl] at hk
            simp only [nu_00, forall_eq, true_implies, false_implies, implies_true, not_true_eq_false, not_false_eq_true, and_true, true_and, and_self, true_or, or_true, false_or, or_false, false_and, and_false, eq_self]
            exact hk
          · rw [if_neg (by decide)] at hk
            simp only [nu_10, forall_eq, true_implies, false_implies, implies_true, not_true_eq_false, not_false_eq_true, and_true, true_and, and_self, true_or, or_true, false_or, or_false, false_and, and_false, eq_self]
            exact hk
          · rw [if_neg (by decide)] at hk
            simp only [nu_2z, forall_eq, true_implies, false_implies, implies_true, not_true_eq_false, not_false_eq_true, and_true, true_and, and_self, true_or, or_true, false_or, or_false, false_and, and_false, eq_self]
            exact hk
      · obtain ⟨a2, ct2, ch2, st2, en2, sn2, nw2, bf2, ve2, ha2, R2, g, hX2, hY2⟩ := ih (i + 1) (by omega) m a hm2 ha ct ch st en sn nw bf ve R
        refine ⟨a2, ct2, ch2, st2, en2, sn2, nw2, bf2, ve2, ha2, R2, g, fun post n hn hp => ?_, fun post n hn hp => ?_⟩
        · obtain ⟨n, rfl⟩ : ∃ n', n = n' + 1 := ⟨n - 1, by omega⟩
          simp (disch := omega) only [wX_touch_42, nu_b16, nu_pn, nu_01, nu_40, nu_30, nu_20, nu_160, Int32.add_zero, Nat.reduceAdd, nu_m16, nu_16m, nu_m4, nu_4m, nu_m3, nu_3m, nu_m2, nu_2m, nI_1, nu_p2, nu_p3, nu_16p, nu_2p, nI_add, nu_cl, nu_in, Nat.add_zero, nu_l0, nu_l1, nu_l2, nu_l3, nu_l4, nu_i0_5, nu_i1_5, nu_i2_5, nu_i0_3, nu_i1_3, nu_i2_3, nu_n0, nu_n1, nu_na0, nu_na1, h3, forall_eq, true_implies, false_implies, implies_true, not_true_eq_false, not_false_eq_true, and_true, true_and, and_self, true_or, or_true, false_or, or_false, false_and, and_false, eq_self]
          exact hX2 post n (by omega) hp
        · obtain ⟨n, rfl⟩ : ∃ n', n = n' + 1 := ⟨n - 1, by omega⟩
          simp (disch := omega) only [wY_touch_24, nu_b16, hq2, hm, nu_b2, nu_01, nu_40, nu_30, nu_20, nu_160, Int32.add_zero, Nat.reduceAdd, nu_m16, nu_16m, nu_m4, nu_4m, nu_m3, nu_3m, nu_m2, nu_2m, nI_1, nu_p2, nu_p3, nu_16p, nu_2p, nI_add, nu_cl, nu_in, Nat.add_zero, nu_l0, nu_l1, nu_l2, nu_l3, nu_l4, nu_i0_5, nu_i1_5, nu_i2_5, nu_i0_3, nu_i1_3, nu_i2_3, nu_n0, nu_n1, nu_na0, nu_na1, h3, forall_eq, true_implies, false_implies, implies_true, not_true_eq_false, not_false_eq_true, and_true, true_and, and_self, true_or, or_true, false_or, or_false, false_and, and_false, eq_self]
          exact hY2 post n (by omega) hp
end
section
variable {sc fc cc rq : Int32} {md bk ct rt rc lk wt wc ch st en sn sk sr fr lf cr rr : Nat → Int32}
theorem tx_E {post : Int32 → SX → Prop} {q a : Int32} {b : Int32} (hb : (q = 2 ∧ b = 0) ∨ (¬ q = 2 ∧ b = 1)) (ha : a = 0 ∨ a = 1) (hp : post b (sc, fc, cc, rq, md, bk, upd ct 0 (ct 0 + a), rt, rc, lk, wt, wc, ch, st, en, sn, sk, sr, fr, lf, cr, rr)) : wX_touch_105 post q a sc fc cc rq md bk ct rt rc lk wt wc ch st en sn sk sr fr lf cr rr := by
  rcases ha with rfl | rfl
  · rw [nu_0a] at hp
    rcases hb with ⟨h, rfl⟩ | ⟨h, rfl⟩
    · simp only [wX_touch_105, wX_touch_120, h, forall_eq, true_implies, false_implies, implies_true, not_true_eq_false, not_false_eq_true, and_true, true_and, and_self, true_or, or_true, false_or, or_false, false_and, and_false, eq_self]
      exact hp
    · simp only [wX_touch_105, wX_touch_120, h, forall_eq, true_implies, false_implies, implies_true, not_true_eq_false, not_false_eq_true, and_true, true_and, and_self, true_or, or_true, false_or, or_false, false_and, and_false, eq_self]
      exact hp
  · rcases hb with ⟨h, rfl⟩ | ⟨h, rfl⟩
    · simp only [wX_touch_105, wX_touch_120, h, nu_k10, forall_eq, true_implies, false_implies, implies_true, not_true_eq_false, not_false_eq_true, and_true, true_and, and_self, true_or, or_true, false_or, or_false, false_and, and_false, eq_self]
      exact hp
    · simp only [wX_touch_105, wX_touch_120, h, nu_k10, forall_eq, true_implies, false_implies, implies_true, not_true_eq_false, not_false_eq_true, and_true, true_and, and_self, true_or, or_true, false_or, or_false, false_and, and_false, eq_self]
      exact hp
end
section
variable {md bk rt rc lk wt wc ch st en sn th ro nw bf ve : Nat → Int32}
variable (sc fc cc rq : Int32) (ct sk sr fr lf cr rr yl la od sm : Nat → Int32)
theorem to_S {s k : Nat} (hs : s < 3) (hk : k < 16) (R : re_R md bk ch lk st rt rc wt wc en sn th ro nw bf ve) :
    ∃ (b : Int32) (ct' ch' st' en' sn' nw' bf' ve' : Nat → Int32), (b = 0 ∨ b = 1) ∧ re_R md bk ch' lk st' rt rc wt wc en' sn' th ro nw' bf' ve' ∧
      (b = 1 → st' (16 * s + k) = 4) ∧
      (∀ post : Int32 → SX → Prop, post b (sc, fc, cc, rq, md, bk, ct', rt, rc, lk, wt, wc, ch', st', en', sn', sk, sr, fr, lf, cr, rr) → wpX_touch post (sc, fc, cc, rq, md, bk, ct, rt, rc, lk, wt, wc, ch, st, en, sn, sk, sr, fr, lf, cr, rr) (nI s) (nI k)) ∧
      (∀ post : Int32 → SY → Prop, post b (sc, fc, th, ch', ro, lk, st', nw', bf', ve', bk, md, yl, la, od, sm, fr, ct') → wpY_touch post (sc, fc, th, ch, ro, lk, st, nw, bf, ve, bk, md, yl, la, od, sm, fr, ct) (nI s) (nI k)) := by
  obtain ⟨q, ct1, ch1, st1, en1, sn1, nw1, bf1, ve1, hq, R1, h1, h2, hX, hY⟩ := ld_S sc fc cc rq ct sk sr fr lf cr rr yl la od sm hs hk R
  by_cases q2 : q = 2
  · subst q2
    refine ⟨0, upd ct1 0 (ct1 0 + 1), ch1, st1, en1, sn1, nw1, bf1, ve1, Or.inl rfl, R1, fun z => absurd z (by decide), fun post hp => ?_, fun post hp => ?_⟩
    · simp only [wpX_touch]
      refine hX _ ?_
      simp only [wX_touch_16, nu_k20, forall_eq, true_implies, false_implies, implies_true, not_true_eq_false, not_false_eq_true, and_true, true_and, and_self, true_or, or_true, false_or, or_false, false_and, and_false, eq_self]
      refine ⟨1, ?_⟩
      simp only [wX_touch_42, nu_160, nu_00, forall_eq, true_implies, false_implies, implies_true, not_true_eq_false, not_false_eq_true, and_true, true_and, and_self, true_or, or_true, false_or, or_false, false_and, and_false, eq_self]
      exact tx_E (Or.inl ⟨rfl, rfl⟩) (Or.inr rfl) hp
    · simp only [wpY_touch]
      refine hY _ ?_
      simp only [nu_2z, forall_eq, true_implies, false_implies, implies_true, not_true_eq_false, not_false_eq_true, and_true, true_and, and_self, true_or, or_true, false_or, or_false, false_and, and_false, eq_self]
      refine ⟨1, ?_⟩
      simp only [wY_touch_24, wY_touch_96, nu_160, nu_22, forall_eq, true_implies, false_implies, implies_true, not_true_eq_false, not_false_eq_true, and_true, true_and, and_self, true_or, or_true, false_or, or_false, false_and, and_false, eq_self]
      exact hp
  · have hq' : q = 0 ∨ q = 1 := by
      rcases hq with z | z | z
      · exact Or.inl z
      · exact Or.inr z
      · exact absurd z q2
    have hq2 : ¬ 2 ≤ q := by rcases hq' with rfl | rfl <;> decide
    have ha : (if q = 0 then (0 : Int32) else 1) = 0 ∨ (if q = 0 then (0 : Int32) else 1) = 1 := by
      split
      · exact Or.inl rfl
      · exact Or.inr rfl
    have h4 : st1 (16 * s + k) = 4 := by rw [h1 q2, pk_us]
    by_cases hm : md 2 = 0
    · refine ⟨1, upd ct1 0 (ct1 0 + if q = 0 then 0 else 1), ch1, st1, en1, sn1, nw1, bf1, ve1, Or.inr rfl, R1, fun _ => h4, fun post hp => ?_, fun post hp => ?_⟩
      · simp only [wpX_touch]
        refine hX _ ?_
        rcases hq' with rfl | rfl
        · simp only [wX_touch_16, nu_k02, hm, forall_eq, true_implies, false_implies, implies_true, not_true_eq_false, not_false_eq_true, and_true, true_and, and_self, true_or, or_true, false_or, or_false, false_and, and_false, eq_self]
          refine ⟨1, ?_⟩
          simp only [wX_touch_42, nu_160, nu_00, forall_eq, true_implies, false_implies, implies_true, not_true_eq_false, not_false_eq_true, and_true, true_and, and_self, true_or, or_true, false_or, or_false, false_and, and_false, eq_self]
          exact tx_E (Or.inr ⟨by decide, rfl⟩) (Or.inl rfl) hp
        · simp only [wX_touch_16, nu_k10, nu_k12, hm, forall_eq, true_implies, false_implies, implies_true, not_true_eq_false, not_false_eq_true, and_true, true_and, and_self, true_or, or_true, false_or, or_false, false_and, and_false, eq_self]
          refine ⟨1, ?_⟩
          simp only [wX_touch_42, nu_160, nu_00, forall_eq, true_implies, false_implies, implies_true, not_true_eq_false, not_false_eq_true, and_true, true_and, and_self, true_or, or_true, false_or, or_false, false_and, and_false, eq_self]
          exact tx_E (Or.inr ⟨by decide, rfl⟩) (Or.inr rfl) hp
      · simp only [wpY_touch]
        refine hY _ ?_
        rcases hq' with rfl | rfl
        · simp only [nu_00, forall_eq, true_implies, false_implies, implies_true, not_true_eq_false, not_false_eq_true, and_true, true_and, and_self, true_or, or_true, false_or, or_false, false_and, and_false, eq_self]
          refine ⟨1, ?_⟩
          simp only [wY_touch_24, wY_touch_96, nu_160, nu_2z, hm, forall_eq, true_implies, false_implies, implies_true, not_true_eq_false, not_false_eq_true, and_true, true_and, and_self, true_or, or_true, false_or, or_false, false_and, and_false, eq_self]
          exact hp
        · simp only [nu_10, forall_eq, true_implies, false_implies, implies_true, not_true_eq_false, not_false_eq_true, and_true, true_and, and_self, true_or, or_true, false_or, or_false, false_and, and_false, eq_self]
          refine ⟨1, ?_⟩
          simp only [wY_touch_24, wY_touch_96, nu_160, nu_21, hm, forall_eq, true_implies, false_implies, implies_true, not_true_eq_false, not_false_eq_true, and_true, true_and, and_self, true_or, or_true, false_or, or_false, false_and, and_false, eq_self]
          exact hp
    · obtain ⟨a2, ct2, ch2, st2, en2, sn2, nw2, bf2, ve2, ha2, R2, g, hX2, hY2⟩ := tl_S sc fc cc rq sk sr fr lf cr rr yl la od sm hs hq' hm 16 0 rfl 0 (if q = 0 then 0 else 1) (by decide) ha ct1 ch1 st1 en1 sn1 nw1 bf1 ve1 R1
      refine ⟨1, upd ct2 0 (ct2 0 + a2), ch2, st2, en2, sn2, nw2, bf2, ve2, Or.inr rfl, R2, fun _ => g _ h4, fun post hp => ?_, fun post hp => ?_⟩
      · simp only [wpX_touch]
        refine hX _ ?_
        have hk := hX2 post 17 (by decide) (tx_E (Or.inr ⟨q2, rfl⟩) ha2 hp)
        rcases hq' with rfl | rfl
        · simp only [wX_touch_16, nu_k02, hm, forall_eq, true_implies, false_implies, implies_true, not_true_eq_false, not_false_eq_true, and_true, true_and, and_self, true_or, or_true, false_or, or_false, false_and, and_false, eq_self]
          exact ⟨17, hk⟩
        · simp only [wX_touch_16, nu_k10, nu_k12, hm, forall_eq, true_implies, false_implies, implies_true, not_true_eq_false, not_false_eq_true, and_true, true_and, and_self, true_or, or_true, false_or, or_false, false_and, and_false, eq_self]
          exact ⟨17, hk⟩
      · simp only [wpY_touch]
        refine hY _ ?_
        have hp' : wY_touch_96 post q a2 sc fc th ch2 ro lk st2 nw2 bf2 ve2 bk md yl la od sm fr ct2 := by
          simp only [wY_touch_96, hq2, forall_eq, true_implies, false_implies, implies_true, not_true_eq_false, not_false_eq_true, and_true, true_and, and_self, true_or, or_true, false_or, or_false, false_and, and_false, eq_self]
          exact hp
        have hk := hY2 post 17 (by decide) hp'
        rcases hq' with rfl | rfl
        · simp only [nu_00, forall_eq, true_implies, false_implies, implies_true, not_true_eq_false, not_false_eq_true, and_true, true_and, and_self, true_or, or_true, false_or, or_false, false_and, and_false, eq_self]
          exact ⟨17, hk⟩
        · simp only [nu_10, forall_eq, true_implies, false_implies, implies_true, not_true_eq_false, not_false_eq_true, and_true, true_and, and_self, true_or, or_true, false_or, or_false, false_and, and_false, eq_self]
          exact ⟨17, hk⟩
end
