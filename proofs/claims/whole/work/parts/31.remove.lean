theorem dn_Qmono {st : Nat → Int32} {s key : Nat} {D E : Nat → Prop} {k : Nat} (h : D k → E k) (q : dn_Q st s key D k) : dn_Q st s key E k := q.imp id (fun z => ⟨z.1, h z.2⟩)
section
variable {sc fc : Int32} {md bk ct rt rc lk wt wc ch st en sn fr th ro nw bf ve la od sm : Nat → Int32}
theorem dy_2 {s t key : Nat} {P : Nat → Prop} (hs : s < 3) (hT : re_T rt wt th) (hC : re_C rc wc ro) (hK : re_K st) (hN : re_N st en nw) (hkey : st (16 * s + key) = 5) : ∀ (d i : Nat), i + d = 16 → ∀ (D : Nat → Prop) (yl : Nat → Int32),
    (∀ k, k < 16 → D k → ¬ st (16 * s + k) = 1 ∧ ¬ st (16 * s + k) = 5) → (∀ k, k < 16 → P k → dn_Q st s key D k) → (∀ k, k < 16 → (¬ yl k = 0 ↔ dn_Q st s key D k ∧ ¬ P k)) →
    ∃ (yl' : Nat → Int32) (E : Nat → Prop), (∀ k, k < 16 → (E k ↔ D k ∨ (i ≤ k ∧ dn_T st en rt wt rc wc lk s k t))) ∧ (∀ k, k < 16 → (¬ yl' k = 0 ↔ dn_Q st s key E k ∧ ¬ P k)) ∧
      (∀ (post : SY → Prop) n, d < n → post (sc, fc, th, ch, ro, lk, rm_st s E st, rm_nw s E st (si_c rc wc lk s) nw, rm_nw s E st (si_c rc wc lk s) bf, rm_ve s E st (si_c rc wc lk s) ve, bk, md, yl', la, od, sm, fr, ct) → wY_spread_2 post (nI s) (nI t) n (nI i) sc fc th ch ro lk (rm_st s D st) (rm_nw s D st (si_c rc wc lk s) nw) (rm_nw s D st (si_c rc wc lk s) bf) (rm_ve s D st (si_c rc wc lk s) ve) bk md yl la od sm fr ct) := by
  intro d
  induction d with
  | zero =>
    intro i hi D yl hD hPQ hy
    refine ⟨yl, D, fun k hk => ⟨Or.inl, fun q => ?_⟩, hy, fun post n hn hp => ?_⟩
    · rcases q with q | q
      · exact q
      · omega
    · obtain ⟨n, rfl⟩ : ∃ n', n = n' + 1 := ⟨n - 1, by omega⟩
      simp (disch := omega) only [wY_spread_2, nu_a16, forall_eq, true_implies, false_implies, implies_true, not_true_eq_false, not_false_eq_true, and_true, true_and, and_self, true_or, or_true, false_or, or_false, false_and, and_false, eq_self]
      exact hp
  | succ d ih =>
    intro i hi D yl hD hPQ hy
    obtain ⟨yl1, E1, hE1, hy1, hX1⟩ := dy_1 (sc := sc) (fc := fc) (md := md) (bk := bk) (ct := ct) (lk := lk) (ch := ch) (fr := fr) (bf := bf) (ve := ve) (la := la) (od := od) (sm := sm) (t := t) (i := i) hs (by omega) hT hC hK hN hkey hD hPQ hy
    obtain ⟨yl2, E2, hE2, hy2, hX2⟩ := ih (i + 1) (by omega) E1 yl1 (fun k hk q => by
      rcases (hE1 k hk).mp q with z | z
      · exact hD k hk z
      · exact dn_Tk z.2) (fun k hk q => dn_Qmono (fun z => (hE1 k hk).mpr (Or.inl z)) (hPQ k hk q)) hy1
    refine ⟨yl2, E2, fun k hk => ?_, hy2, fun post n hn hp => ?_⟩
    · rw [hE2 k hk, hE1 k hk]
      constructor
      · rintro ((q | q) | q)
        · exact Or.inl q
        · exact Or.inr ⟨by omega, q.2⟩
        · exact Or.inr ⟨by omega, q.2⟩
      · rintro (q | q)
        · exact Or.inl (Or.inl q)
        · by_cases e : k = i
          · exact Or.inl (Or.inr ⟨e, q.2⟩)
          · exact Or.inr ⟨by omega, q.2⟩
    · obtain ⟨n, rfl⟩ : ∃ n', n = n' + 1 := ⟨n - 1, by omega⟩
      exact hX1 post n (hX2 post n (by omega) hp)
end
section
variable {sc fc : Int32} {md bk ct lk ch st fr th ro nw bf ve yl la od sm : Nat → Int32}
/-- the reference's search for the least one that is left -/
theorem vy_210 {s : Nat} {post : Int32 → SY → Prop} : ∃ x', le_S (fun k => ¬ yl k = 0) x' ∧ ∀ (J : Int32 → Int32 → Int32 → (Nat → Int32) → (Nat → Int32) → (Nat → Int32) → (Nat → Int32) → (Nat → Int32) → (Nat → Int32) → (Nat → Int32) → (Nat → Int32) → (Nat → Int32) → (Nat → Int32) → (Nat → Int32) → (Nat → Int32) → (Nat → Int32) → (Nat → Int32) → (Nat → Int32) → (Nat → Int32) → Prop), J x' sc fc th ch ro lk st nw bf ve bk md yl la od sm fr ct → ∃ n, wY_remove_210 post J (nI s) sc fc th ch ro lk st nw bf ve bk md yl la od sm fr ct n (-1) 15 := by
  have dn : ∀ m : Nat, m ≤ 16 → ∀ x : Int32, ((x = -1 ∧ ∀ k, m ≤ k → k < 16 → ¬ ¬ yl k = 0) ∨ ∃ k, m ≤ k ∧ k < 16 ∧ x = nI k ∧ ¬ yl k = 0 ∧ ∀ j, m ≤ j → j < k → ¬ ¬ yl j = 0) →
      ∃ x', le_S (fun k => ¬ yl k = 0) x' ∧ ∀ (J : Int32 → Int32 → Int32 → (Nat → Int32) → (Nat → Int32) → (Nat → Int32) → (Nat → Int32) → (Nat → Int32) → (Nat → Int32) → (Nat → Int32) → (Nat → Int32) → (Nat → Int32) → (Nat → Int32) → (Nat → Int32) → (Nat → Int32) → (Nat → Int32) → (Nat → Int32) → (Nat → Int32) → (Nat → Int32) → Prop) n, m < n → J x' sc fc th ch ro lk st nw bf ve bk md yl la od sm fr ct → wY_remove_210 post J (nI s) sc fc th ch ro lk st nw bf ve bk md yl la od sm fr ct n x (nI m + (-1)) := by
    intro m
    induction m with
    | zero =>
      intro _ x hx
      refine ⟨x, ?_, fun J n hn hp => ?_⟩
      · rcases hx with ⟨q, h⟩ | ⟨k, _, hk, q, l, h⟩
        · exact Or.inl ⟨q, fun k hk => h k (by omega) hk⟩
        · exact Or.inr ⟨k, hk, q, l, fun j hj => h j (by omega) hj⟩
      · obtain ⟨n, rfl⟩ : ∃ n', n = n' + 1 := ⟨n - 1, by omega⟩
        have e : nI 0 + (-1) = -1 := by decide
        rw [e]
        simp only [wY_remove_210, nu_m1lt, forall_eq, true_implies, false_implies, implies_true, not_true_eq_false, not_false_eq_true, and_true, true_and, and_self, true_or, or_true, false_or, or_false, false_and, and_false, eq_self]
        exact hp
    | succ m ih =>
      intro hm x hx
      by_cases z : yl m = 0
      · obtain ⟨x', hx', hY⟩ := ih (by omega) x (by
          rcases hx with ⟨q, h⟩ | ⟨k, h1, hk, q, l, h⟩
          · refine Or.inl ⟨q, fun k h1 h2 => ?_⟩
            by_cases e : k = m
            · rw [e]
              exact fun y => y z
            · exact h k (by omega) h2
          · refine Or.inr ⟨k, by omega, hk, q, l, fun j h3 h4 => ?_⟩
            by_cases e : j = m
            · rw [e]
              exact fun y => y z
            · exact h j (by omega) h4)
        refine ⟨x', hx', fun J n hn hp => ?_⟩
        obtain ⟨n, rfl⟩ : ∃ n', n = n' + 1 := ⟨n - 1, by omega⟩
        rw [pk_m1]
        simp (disch := omega) only [wY_remove_210, nu_neg, nu_cl, nu_in, z, forall_eq, true_implies, false_implies, implies_true, not_true_eq_false, not_false_eq_true, and_true, true_and, and_self, true_or, or_true, false_or, or_false, false_and, and_false, eq_self]
        exact hY J n (by omega) hp
      · obtain ⟨x', hx', hY⟩ := ih (by omega) (nI m) (Or.inr ⟨m, Nat.le_refl m, by omega, rfl, z, fun j h3 h4 => by omega⟩)
        refine ⟨x', hx', fun J n hn hp => ?_⟩
        obtain ⟨n, rfl⟩ : ∃ n', n = n' + 1 := ⟨n - 1, by omega⟩
        rw [pk_m1]
        simp (disch := omega) only [wY_remove_210, nu_neg, nu_cl, nu_in, z, forall_eq, true_implies, false_implies, implies_true, not_true_eq_false, not_false_eq_true, and_true, true_and, and_self, true_or, or_true, false_or, or_false, false_and, and_false, eq_self]
        exact hY J n (by omega) hp
  obtain ⟨x', hx', hY⟩ := dn 16 (Nat.le_refl _) (-1) (Or.inl ⟨rfl, fun k h1 h2 => by omega⟩)
  refine ⟨x', hx', fun J hp => ⟨17, ?_⟩⟩
  have e : (15 : Int32) = nI 16 + (-1) := by decide
  rw [e]
  exact hY J 17 (by decide) hp
end
section
variable {sc fc : Int32} {md bk ct rt rc lk wt wc ch st en sn fr th ro nw bf ve la od sm : Nat → Int32}
theorem dy_3 {s key : Nat} (hs : s < 3) (hT : re_T rt wt th) (hC : re_C rc wc ro) (hK : re_K st) (hN : re_N st en nw) (hkey : st (16 * s + key) = 5) : ∀ (d : Nat) (P D : Nat → Prop) (yl : Nat → Int32) (x6 : Int32), 16 ≤ cn_n P 16 + d →
    (∀ k, k < 16 → (D k ↔ ∃ x, x < 16 ∧ P x ∧ dn_T st en rt wt rc wc lk s k x)) → (∀ k, k < 16 → (¬ yl k = 0 ↔ dn_Q st s key D k ∧ ¬ P k)) → le_S (fun k => ¬ yl k = 0) x6 →
    rm_I key (dn_T st en rt wt rc wc lk s) (fun k => ¬ st (16 * s + k) = 2) P (dn_Q st s key D) →
    ∃ (P' D' : Nat → Prop), (∀ k, k < 16 → (D' k ↔ ∃ x, x < 16 ∧ P' x ∧ dn_T st en rt wt rc wc lk s k x)) ∧ rm_I key (dn_T st en rt wt rc wc lk s) (fun k => ¬ st (16 * s + k) = 2) P' (dn_Q st s key D') ∧ (∀ k, k < 16 → dn_Q st s key D' k → P' k) ∧
      ∃ yl', (∀ (post : Int32 → SY → Prop) n, d < n → post 0 (sc, fc, th, ch, ro, lk, rm_st s D' st, rm_nw s D' st (si_c rc wc lk s) nw, rm_nw s D' st (si_c rc wc lk s) bf, rm_ve s D' st (si_c rc wc lk s) ve, bk, md, yl', la, od, sm, fr, upd ct 0 (ct 0 + nI (cn_n P' 16))) → wY_remove_173 post (nI s) n x6 sc fc th ch ro lk (rm_st s D st) (rm_nw s D st (si_c rc wc lk s) nw) (rm_nw s D st (si_c rc wc lk s) bf) (rm_ve s D st (si_c rc wc lk s) ve) bk md yl la od sm fr (upd ct 0 (ct 0 + nI (cn_n P 16)))) := by
  intro d
  induction d with
  | zero =>
    intro P D yl x6 hd hD hy hx hI
    -- all have been processed: none is left
    have all : ∀ k, k < 16 → P k := by
      intro k hk
      refine Classical.byContradiction fun q => ?_
      have := cn_lt (P := P) (Q := fun _ => True) (a := k) q trivial (N := 16) (fun _ _ _ => trivial) hk
      have := cn_le (fun _ : Nat => True) 16
      omega
    have e : x6 = -1 := by
      refine le_u hx (le_n (fun k hk q => ?_))
      exact ((hy k hk).mp q).2 (all k hk)
    subst e
    refine ⟨P, D, hD, hI, fun k hk _ => all k hk, yl, fun post n hn hp => ?_⟩
    obtain ⟨n, rfl⟩ : ∃ n', n = n' + 1 := ⟨n - 1, by omega⟩
    simp only [wY_remove_173, nu_m1lt, forall_eq, true_implies, false_implies, implies_true, not_true_eq_false, not_false_eq_true, and_true, true_and, and_self, true_or, or_true, false_or, or_false, false_and, and_false, eq_self]
    exact hp
  | succ d ih =>
    intro P D yl x6 hd hD hy hx hI
    rcases hx with ⟨rfl, h⟩ | ⟨t, ht, rfl, lt, _⟩
    · refine ⟨P, D, hD, hI, fun k hk q => ?_, yl, fun post n hn hp => ?_⟩
      · refine Classical.byContradiction fun z => h k hk ?_
        exact (hy k hk).mpr ⟨q, z⟩
      · obtain ⟨n, rfl⟩ : ∃ n', n = n' + 1 := ⟨n - 1, by omega⟩
        simp only [wY_remove_173, nu_m1lt, forall_eq, true_implies, false_implies, implies_true, not_true_eq_false, not_false_eq_true, and_true, true_and, and_self, true_or, or_true, false_or, or_false, false_and, and_false, eq_self]
        exact hp
    · obtain ⟨qt, nt⟩ := (hy t ht).mp lt
      have hcn : cn_n (fun k => P k ∨ k = t) 16 = cn_n P 16 + 1 := cn_add nt ht
      have hDk : ∀ k, k < 16 → D k → ¬ st (16 * s + k) = 1 ∧ ¬ st (16 * s + k) = 5 := fun k hk q => by
        obtain ⟨x, _, _, z⟩ := (hD k hk).mp q
        exact dn_Tk z
      obtain ⟨yl1, E, hE, hy1, hX1⟩ := dy_2 (sc := sc) (fc := fc) (md := md) (bk := bk) (ct := upd ct 0 (ct 0 + nI (cn_n P 16 + 1))) (lk := lk) (ch := ch) (fr := fr) (bf := bf) (ve := ve) (la := la) (od := od) (sm := sm) (t := t) (P := fun k => P k ∨ k = t) hs hT hC hK hN hkey 16 0 rfl D (upd yl t 0) hDk (fun k hk q => by
        rcases q with q | q
        · exact hI.2.1 k hk q
        · rw [q]
          exact qt) (fun k hk => by
        by_cases e : k = t
        · rw [e, pk_us]
          exact ⟨fun z => absurd rfl z, fun z => absurd (Or.inr rfl) z.2⟩
        · rw [pk_un e, hy k hk]
          exact ⟨fun z => ⟨z.1, fun y => y.elim z.2 e⟩, fun z => ⟨z.1, fun y => z.2 (Or.inl y)⟩⟩)
      have hE' : ∀ k, k < 16 → (E k ↔ D k ∨ dn_T st en rt wt rc wc lk s k t) := fun k hk => by
        rw [hE k hk]
        exact ⟨fun q => q.imp id (fun z => z.2), fun q => q.imp id (fun z => ⟨Nat.zero_le k, z⟩)⟩
      obtain ⟨x', hx', _⟩ := vy_210 (sc := sc) (fc := fc) (md := md) (bk := bk) (ct := ct) (lk := lk) (ch := ch) (st := st) (fr := fr) (th := th) (ro := ro) (nw := nw) (bf := bf) (ve := ve) (yl := yl1) (la := la) (od := od) (sm := sm) (s := s) (post := fun _ _ => True)
      obtain ⟨P', D', h1, h2, h3, yl', hY2⟩ := ih (fun k => P k ∨ k = t) E yl1 x' (by omega) (dn_Dt ht hD hE') hy1 hx' (rm_Ie (dn_Qt (t := t) hE') (rm_Is hI ht qt))
      refine ⟨P', D', h1, h2, h3, yl', fun post n hn hp => ?_⟩
      obtain ⟨n, rfl⟩ : ∃ n', n = n' + 1 := ⟨n - 1, by omega⟩
      have hz := hY2 post n (by omega) hp
      rw [hcn] at hz
      simp (disch := omega) only [wY_remove_173, wpY_spread, nu_neg, ct_s, nu_01, nu_40, nu_30, nu_20, nu_160, Int32.add_zero, Nat.reduceAdd, nu_m16, nu_16m, nu_m4, nu_4m, nu_m3, nu_3m, nu_m2, nu_2m, nI_1, nu_p2, nu_p3, nu_16p, nu_2p, nI_add, nu_cl, nu_in, Nat.add_zero, nu_l0, nu_l1, nu_l2, nu_l3, nu_l4, nu_i0_5, nu_i1_5, nu_i2_5, nu_i0_3, nu_i1_3, nu_i2_3, nu_n0, nu_n1, nu_na0, nu_na1, forall_eq, true_implies, false_implies, implies_true, not_true_eq_false, not_false_eq_true, and_true, true_and, and_self, true_or, or_true, false_or, or_false, false_and, and_false, eq_self]
      refine ⟨17, hX1 _ 17 (by decide) ?_⟩
      obtain ⟨x'', hx'', h210⟩ := vy_210 (sc := sc) (fc := fc) (md := md) (bk := bk) (ct := upd ct 0 (ct 0 + nI (cn_n P 16 + 1))) (lk := lk) (ch := ch) (st := rm_st s E st) (fr := fr) (th := th) (ro := ro) (nw := rm_nw s E st (si_c rc wc lk s) nw) (bf := rm_nw s E st (si_c rc wc lk s) bf) (ve := rm_ve s E st (si_c rc wc lk s) ve) (yl := yl1) (la := la) (od := od) (sm := sm) (s := s) (post := post)
      have e := le_u hx'' hx'
      subst e
      exact h210 _ hz
theorem vy_116 {s key : Nat} {E : Int32} : ∀ (d i : Nat), i + d = 16 → ∀ yl : Nat → Int32, (∀ j, j < i → yl j = 0) → ∃ yl', (∀ j, j < 16 → yl' j = 0) ∧
    ∀ (post : Int32 → SY → Prop) n m, d < n → 0 < m → wY_remove_116 post (nI s) (nI key) E sc fc m 16 th ch ro lk st nw bf ve bk md yl' la od sm fr ct → wY_remove_116 post (nI s) (nI key) E sc fc (n + m) (nI i) th ch ro lk st nw bf ve bk md yl la od sm fr ct := by
  intro d
  induction d with
  | zero =>
    intro i hi yl h
    refine ⟨yl, fun j hj => h j (by omega), fun post n m hn hm hp => ?_⟩
    have e : i = 16 := by omega
    subst e
    obtain ⟨m, rfl⟩ : ∃ m', m = m' + 1 := ⟨m - 1, by omega⟩
    have a1 : ((16 : Int32) ≤ 16) = True := eq_true (by decide)
    rw [show n + (m + 1) = (n + m) + 1 by omega]
    simp (disch := omega) only [wY_remove_116, nu_a16, a1, forall_eq, true_implies, false_implies, implies_true, not_true_eq_false, not_false_eq_true, and_true, true_and, and_self, true_or, or_true, false_or, or_false, false_and, and_false, eq_self] at hp ⊢
    exact hp
  | succ d ih =>
    intro i hi yl h
    obtain ⟨yl', h', hX⟩ := ih (i + 1) (by omega) (upd yl i 0) (fun j hj => by
      by_cases q : j = i
      · rw [q, pk_us]
      · rw [pk_un q]
        exact h j (by omega))
    refine ⟨yl', h', fun post n m hn hm hp => ?_⟩
    obtain ⟨n, rfl⟩ : ∃ n', n = n' + 1 := ⟨n - 1, by omega⟩
    rw [show n + 1 + m = (n + m) + 1 by omega]
    simp (disch := omega) only [wY_remove_116, nu_b16, nu_01, nu_40, nu_30, nu_20, nu_160, Int32.add_zero, Nat.reduceAdd, nu_m16, nu_16m, nu_m4, nu_4m, nu_m3, nu_3m, nu_m2, nu_2m, nI_1, nu_p2, nu_p3, nu_16p, nu_2p, nI_add, nu_cl, nu_in, Nat.add_zero, nu_l0, nu_l1, nu_l2, nu_l3, nu_l4, nu_i0_5, nu_i1_5, nu_i2_5, nu_i0_3, nu_i1_3, nu_i2_3, nu_n0, nu_n1, nu_na0, nu_na1, forall_eq, true_implies, false_implies, implies_true, not_true_eq_false, not_false_eq_true, and_true, true_and, and_self, true_or, or_true, false_or, or_false, false_and, and_false, eq_self]
    exact hX post n m (by omega) hm hp
end
theorem rm_R {s : Nat} {D : Nat → Prop} {md bk ch lk st rt rc wt wc en sn th ro nw bf ve : Nat → Int32} (R : re_R md bk ch lk st rt rc wt wc en sn th ro nw bf ve) (hD : ∀ k, k < 16 → D k → ¬ st (16 * s + k) = 1 ∧ ¬ st (16 * s + k) = 5) :
    re_R md bk ch lk (rm_st s D st) rt rc wt wc (rm_en s D st (si_c rc wc lk s) en) (rm_en s D st (si_c rc wc lk s) sn) th ro (rm_nw s D st (si_c rc wc lk s) nw) (rm_nw s D st (si_c rc wc lk s) bf) (rm_ve s D st (si_c rc wc lk s) ve) := by
  obtain ⟨a1, a2, a3, a4, a5, a6, a7, a8, a9, a10, a11, a12, a13⟩ := R
  exact ⟨a1, a2, a3, a4, a5, rm_K a6, a7, a8, a9, rm_E a10 (fun k hk => si_L a8 a9 hk), rm_N a11, rm_S a12, rm_V a13 hD a6⟩
section
variable {md bk rt rc lk wt wc ch st en sn th ro nw bf ve : Nat → Int32}
variable (sc fc cc rq : Int32) (ct sk sr fr lf cr rr yl la od sm : Nat → Int32)
theorem rv_S {s key : Nat} (hs : s < 3) (hk : key < 16) (h4 : st (16 * s + key) = 4) (R : re_R md bk ch lk st rt rc wt wc en sn th ro nw bf ve) :
    ∃ (rq' : Int32) (ct' st' en' sn' rr' nw' bf' ve' yl' : Nat → Int32), re_R md bk ch lk st' rt rc wt wc en' sn' th ro nw' bf' ve' ∧
      (∀ post : SX → Prop, post (sc, fc, cc, rq', md, bk, ct', rt, rc, lk, wt, wc, ch, st', en', sn', sk, sr, fr, lf, cr, rr') → wpX_removeManaged post (sc, fc, cc, rq, md, bk, ct, rt, rc, lk, wt, wc, ch, st, en, sn, sk, sr, fr, lf, cr, rr) (nI s) (nI key)) ∧
      (∀ post : Int32 → SY → Prop, post 0 (sc, fc, th, ch, ro, lk, st', nw', bf', ve', bk, md, yl', la, od, sm, fr, ct') → wY_remove_82 post (nI s) (nI key) (nI (16 * s + key)) 1 sc fc th ch ro lk st nw bf ve bk md yl la od sm fr ct) := by
  have R0 : re_R md bk ch lk (upd st (16 * s + key) 5) rt rc wt wc en sn th ro nw bf ve := kd_R R (by decide) (Or.inr (Or.inr ⟨by rw [h4]; decide, by rw [h4]; decide⟩)) (fun _ => Or.inl h4)
  have hkey : upd st (16 * s + key) 5 (16 * s + key) = 5 := pk_us
  obtain ⟨yl1, hy1, hY1⟩ := vy_116 (sc := sc) (fc := fc) (md := md) (bk := bk) (ct := ct) (lk := lk) (ch := ch) (st := st) (fr := fr) (th := th) (ro := ro) (nw := nw) (bf := bf) (ve := ve) (la := la) (od := od) (sm := sm) (s := s) (key := key) (E := nI (16 * s + key)) 16 0 rfl yl (fun j hj => by omega)
  have a1 : ((16 : Int32) ≤ 16) = True := eq_true (by decide)
  by_cases hm : md 1 = 0
  · refine ⟨nI 1, ct, upd st (16 * s + key) 5, en, sn, upd rr 0 (nI key), nw, bf, ve, upd yl1 key 0, R0, fun post hp => ?_, fun post hp => ?_⟩
    · simp (disch := omega) only [wpX_removeManaged, wpX_addRemoved, nu_i0_16, hm, nu_01, nu_40, nu_30, nu_20, nu_160, Int32.add_zero, Nat.reduceAdd, nu_m16, nu_16m, nu_m4, nu_4m, nu_m3, nu_3m, nu_m2, nu_2m, nI_1, nu_p2, nu_p3, nu_16p, nu_2p, nI_add, nu_cl, nu_in, Nat.add_zero, nu_l0, nu_l1, nu_l2, nu_l3, nu_l4, nu_i0_5, nu_i1_5, nu_i2_5, nu_i0_3, nu_i1_3, nu_i2_3, nu_n0, nu_n1, nu_na0, nu_na1, forall_eq, true_implies, false_implies, implies_true, not_true_eq_false, not_false_eq_true, and_true, true_and, and_self, true_or, or_true, false_or, or_false, false_and, and_false, eq_self]
      exact hp
    · simp (disch := omega) only [wY_remove_82, nu_k10, nu_k42, h4, nu_01, nu_40, nu_30, nu_20, nu_160, Int32.add_zero, Nat.reduceAdd, nu_m16, nu_16m, nu_m4, nu_4m, nu_m3, nu_3m, nu_m2, nu_2m, nI_1, nu_p2, nu_p3, nu_16p, nu_2p, nI_add, nu_cl, nu_in, Nat.add_zero, nu_l0, nu_l1, nu_l2, nu_l3, nu_l4, nu_i0_5, nu_i1_5, nu_i2_5, nu_i0_3, nu_i1_3, nu_i2_3, nu_n0, nu_n1, nu_na0, nu_na1, forall_eq, true_implies, false_implies, implies_true, not_true_eq_false, not_false_eq_true, and_true, true_and, and_self, true_or, or_true, false_or, or_false, false_and, and_false, eq_self]
      refine ⟨17 + 1, hY1 post 17 1 (by decide) (by decide) ?_⟩
      simp (disch := omega) only [wY_remove_116, a1, hm, nu_01, nu_40, nu_30, nu_20, nu_160, Int32.add_zero, Nat.reduceAdd, nu_m16, nu_16m, nu_m4, nu_4m, nu_m3, nu_3m, nu_m2, nu_2m, nI_1, nu_p2, nu_p3, nu_16p, nu_2p, nI_add, nu_cl, nu_in, Nat.add_zero, nu_l0, nu_l1, nu_l2, nu_l3, nu_l4, nu_i0_5, nu_i1_5, nu_i2_5, nu_i0_3, nu_i1_3, nu_i2_3, nu_n0, nu_n1, nu_na0, nu_na1, forall_eq, true_implies, false_implies, implies_true, not_true_eq_false, not_false_eq_true, and_true, true_and, and_self, true_or, or_true, false_or, or_false, false_and, and_false, eq_self]
      refine ⟨1, ?_⟩
      simp only [wY_remove_173, nu_m1lt, forall_eq, true_implies, false_implies, implies_true, not_true_eq_false, not_false_eq_true, and_true, true_and, and_self, true_or, or_true, false_or, or_false, false_and, and_false, eq_self]
      exact hp
  · have m1 : md 1 = 1 := (re_rmd R 1).resolve_left hm
    have q0 : ∀ k, k < 16 → (k = key ↔ dn_Q (upd st (16 * s + key) 5) s key (fun _ => False) k) := fun k _ => ⟨Or.inl, fun q => q.elim id (fun z => z.2.elim)⟩
    have I0 := rm_Ie q0 (rm_I0 (key := key) (tg := dn_T (upd st (16 * s + key) 5) en rt wt rc wc lk s) (rem := fun k => ¬ upd st (16 * s + key) 5 (16 * s + k) = 2))
    have D0 : ∀ k, k < 16 → ((fun _ : Nat => False) k ↔ ∃ x, x < 16 ∧ (fun _ : Nat => False) x ∧ dn_T (upd st (16 * s + key) 5) en rt wt rc wc lk s k x) := fun k _ => ⟨fun z => z.elim, fun ⟨_, _, z, _⟩ => z.elim⟩
    have c1 : cn_n (fun k => k = key) 16 = 1 := by
      have := cn_in (P := fun _ => False) (Q := fun k => k = key) (a := key) (N := 16) hk id (fun k _ => ⟨Or.inr, fun z => z.elim False.elim id⟩)
      rw [cn_F] at this
      exact this
    have L0 : dn_L (dn_Q (upd st (16 * s + key) 5) s key (fun _ => False)) 1 (upd rr 0 (nI key)) := by
      refine dn_Le q0 ⟨c1.symm, fun j hj => ?_, fun k hk' q => ⟨0, by decide, by rw [pk_us, q]⟩⟩
      have e : j = 0 := by omega
      rw [e, pk_us]
      exact ⟨key, hk, rfl, rfl⟩
    obtain ⟨PX, DX, rq', rr', x1, x2, x3, hX3⟩ := dx_3 (sc := sc) (fc := fc) (cc := cc) (md := md) (bk := bk) (ct := ct) (ch := ch) (sn := sn) (sk := sk) (sr := sr) (fr := fr) (lf := lf) (cr := cr) hs (re_rT R0) (re_rth R0) (re_rK R0) hkey 16 0 rfl (fun _ => False) (fun _ => False) 1 (upd rr 0 (nI key)) D0 L0 (by decide) (fun k _ => ⟨fun z => z.elim, fun ⟨j, hj, _⟩ => by omega⟩) I0
    obtain ⟨PY, DY, y1, y2, y3, yl', hY3⟩ := dy_3 (sc := sc) (fc := fc) (md := md) (bk := bk) (ct := ct) (ch := ch) (fr := fr) (bf := bf) (ve := ve) (la := la) (od := od) (sm := sm) hs (re_rT R0) (re_rC R0) (re_rK R0) (re_rN R0) hkey 16 (fun _ => False) (fun _ => False) (upd yl1 key 1) (nI key) (by omega) D0 (fun k hk' => by
      rw [← q0 k hk']
      by_cases e : k = key
      · rw [e, pk_us]
        exact ⟨fun _ => ⟨rfl, id⟩, fun _ => by decide⟩
      · rw [pk_un e, hy1 k hk']
        exact ⟨fun z => absurd rfl z, fun z => absurd z.1 e⟩) (Or.inr ⟨key, hk, rfl, by dsimp only; rw [pk_us]; decide, fun j hj => by dsimp only; rw [pk_un (by omega), hy1 j (by omega)]; exact fun z => z rfl⟩) I0
    have hPP := rm_Iu hk x2 x3 y2 y3
    have hDD : ∀ k, k < 16 → (DX k ↔ DY k) := fun k hk' => by
      rw [x1 k hk', y1 k hk']
      exact ⟨fun ⟨x, a, b, c⟩ => ⟨x, a, (hPP x a).mp b, c⟩, fun ⟨x, a, b, c⟩ => ⟨x, a, (hPP x a).mpr b, c⟩⟩
    have hcn : cn_n PX 16 = cn_n PY 16 := cn_eq hPP
    have hDk : ∀ k, k < 16 → DX k → ¬ upd st (16 * s + key) 5 (16 * s + k) = 1 ∧ ¬ upd st (16 * s + key) 5 (16 * s + k) = 5 := fun k hk' q => by
      obtain ⟨x, _, _, z⟩ := (x1 k hk').mp q
      exact dn_Tk z
    refine ⟨rq', upd ct 0 (ct 0 + nI (cn_n PX 16)), _, _, _, rr', _, _, _, yl', rm_R R0 hDk, fun post hp => ?_, fun post hp => ?_⟩
    · have hx := hX3 post 17 (by decide) hp
      rw [nI_0, nu_0a, rm_st0, rm_en0, rm_en0] at hx
      simp (disch := omega) only [wpX_removeManaged, wpX_addRemoved, nu_i0_16, hm, nu_01, nu_40, nu_30, nu_20, nu_160, Int32.add_zero, Nat.reduceAdd, nu_m16, nu_16m, nu_m4, nu_4m, nu_m3, nu_3m, nu_m2, nu_2m, nI_1, nu_p2, nu_p3, nu_16p, nu_2p, nI_add, nu_cl, nu_in, Nat.add_zero, nu_l0, nu_l1, nu_l2, nu_l3, nu_l4, nu_i0_5, nu_i1_5, nu_i2_5, nu_i0_3, nu_i1_3, nu_i2_3, nu_n0, nu_n1, nu_na0, nu_na1, forall_eq, true_implies, false_implies, implies_true, not_true_eq_false, not_false_eq_true, and_true, true_and, and_self, true_or, or_true, false_or, or_false, false_and, and_false, eq_self]
      exact ⟨17, hx⟩
    · rw [hcn, rm_stE hDD, rm_nwE hDD, rm_nwE hDD, rm_veE hDD] at hp
      have hy := hY3 post 17 (by decide) hp
      rw [cn_F, nI_0, nu_0a, rm_st0, rm_nw0, rm_nw0, rm_ve0] at hy
      simp (disch := omega) only [wY_remove_82, nu_k10, nu_k42, h4, nu_01, nu_40, nu_30, nu_20, nu_160, Int32.add_zero, Nat.reduceAdd, nu_m16, nu_16m, nu_m4, nu_4m, nu_m3, nu_3m, nu_m2, nu_2m, nI_1, nu_p2, nu_p3, nu_16p, nu_2p, nI_add, nu_cl, nu_in, Nat.add_zero, nu_l0, nu_l1, nu_l2, nu_l3, nu_l4, nu_i0_5, nu_i1_5, nu_i2_5, nu_i0_3, nu_i1_3, nu_i2_3, nu_n0, nu_n1, nu_na0, nu_na1, forall_eq, true_implies, false_implies, implies_true, not_true_eq_false, not_false_eq_true, and_true, true_and, and_self, true_or, or_true, false_or, or_false, false_and, and_false, eq_self]
      refine ⟨17 + 1, hY1 post 17 1 (by decide) (by decide) ?_⟩
      simp (disch := omega) only [wY_remove_116, a1, m1, nu_k10, nu_01, nu_40, nu_30, nu_20, nu_160, Int32.add_zero, Nat.reduceAdd, nu_m16, nu_16m, nu_m4, nu_4m, nu_m3, nu_3m, nu_m2, nu_2m, nI_1, nu_p2, nu_p3, nu_16p, nu_2p, nI_add, nu_cl, nu_in, Nat.add_zero, nu_l0, nu_l1, nu_l2, nu_l3, nu_l4, nu_i0_5, nu_i1_5, nu_i2_5, nu_i0_3, nu_i1_3, nu_i2_3, nu_n0, nu_n1, nu_na0, nu_na1, forall_eq, true_implies, false_implies, implies_true, not_true_eq_false, not_false_eq_true, and_true, true_and, and_self, true_or, or_true, false_or, or_false, false_and, and_false, eq_self]
      exact ⟨17, hy⟩
end
theorem rv_T {u : SX} {v : SY} (I : i_Rel 0 u v) (v1 v2 : Int32) : sm_S (fun post => wpX_remove post u v1 v2) (fun post => wpY_remove post v v1 v2) := by
  obtain ⟨n, m, cc, rq, md, bk, ct, rt, rc, lk, wt, wc, ch, st, en, sn, sk, sr, fr, lf, cr, rr, th, ro, nw, bf, ve, yl, la, od, sm, rfl, rfl, hn, hm, R, hP⟩ := I
  by_cases h : er_v bk v1 v2 = 0
  · obtain ⟨s, k, hs, hk, rfl, rfl, hb⟩ := er_0 h
    rcases re_rK R (16 * s + k) with a | a | a | a | a | a
    · refine ⟨(-1), (nI n, nI m, cc, rq, md, bk, ct, rt, rc, lk, wt, wc, ch, st, en, sn, sk, sr, fr, lf, cr, rr), (nI n, nI m, th, ch, ro, lk, st, nw, bf, ve, bk, md, yl, la, od, sm, fr, ct), ir_mk hn hm (R) hP, fun post hp => ?_, fun post hp => ?_⟩
      · simp (disch := omega) only [wpX_remove, vx_err, h, a, nu_k01, nu_k02, nu_k03, nu_k04, nu_k05, nu_k10, nu_k12, nu_k13, nu_k14, nu_k15, nu_k20, nu_k21, nu_k23, nu_k24, nu_k25, nu_k30, nu_k31, nu_k32, nu_k34, nu_k35, nu_k40, nu_k41, nu_k42, nu_k43, nu_k45, nu_k50, nu_k51, nu_k52, nu_k53, nu_k54, nu_01, nu_40, nu_30, nu_20, nu_160, Int32.add_zero, Nat.reduceAdd, nu_m16, nu_16m, nu_m4, nu_4m, nu_m3, nu_3m, nu_m2, nu_2m, nI_1, nu_p2, nu_p3, nu_16p, nu_2p, nI_add, nu_cl, nu_in, Nat.add_zero, nu_l0, nu_l1, nu_l2, nu_l3, nu_l4, nu_i0_5, nu_i1_5, nu_i2_5, nu_i0_3, nu_i1_3, nu_i2_3, nu_n0, nu_n1, nu_na0, nu_na1, forall_eq, true_implies, false_implies, implies_true, not_true_eq_false, not_false_eq_true, and_true, true_and, and_self, true_or, or_true, false_or, or_false, false_and, and_false, eq_self]
        exact hp
      · simp (disch := omega) only [wpY_remove, vy_err, h, a, nu_k01, nu_k02, nu_k03, nu_k04, nu_k05, nu_k10, nu_k12, nu_k13, nu_k14, nu_k15, nu_k20, nu_k21, nu_k23, nu_k24, nu_k25, nu_k30, nu_k31, nu_k32, nu_k34, nu_k35, nu_k40, nu_k41, nu_k42, nu_k43, nu_k45, nu_k50, nu_k51, nu_k52, nu_k53, nu_k54, nu_01, nu_40, nu_30, nu_20, nu_160, Int32.add_zero, Nat.reduceAdd, nu_m16, nu_16m, nu_m4, nu_4m, nu_m3, nu_3m, nu_m2, nu_2m, nI_1, nu_p2, nu_p3, nu_16p, nu_2p, nI_add, nu_cl, nu_in, Nat.add_zero, nu_l0, nu_l1, nu_l2, nu_l3, nu_l4, nu_i0_5, nu_i1_5, nu_i2_5, nu_i0_3, nu_i1_3, nu_i2_3, nu_n0, nu_n1, nu_na0, nu_na1, forall_eq, true_implies, false_implies, implies_true, not_true_eq_false, not_false_eq_true, and_true, true_and, and_self, true_or, or_true, false_or, or_false, false_and, and_false, eq_self]
        exact hp
    · refine ⟨(-1), (nI n, nI m, cc, rq, md, bk, ct, rt, rc, lk, wt, wc, ch, st, en, sn, sk, sr, fr, lf, cr, rr), (nI n, nI m, th, ch, ro, lk, st, nw, bf, ve, bk, md, yl, la, od, sm, fr, ct), ir_mk hn hm (R) hP, fun post hp => ?_, fun post hp => ?_⟩
      · simp (disch := omega) only [wpX_remove, vx_err, h, a, nu_k01, nu_k02, nu_k03, nu_k04, nu_k05, nu_k10, nu_k12, nu_k13, nu_k14, nu_k15, nu_k20, nu_k21, nu_k23, nu_k24, nu_k25, nu_k30, nu_k31, nu_k32, nu_k34, nu_k35, nu_k40, nu_k41, nu_k42, nu_k43, nu_k45, nu_k50, nu_k51, nu_k52, nu_k53, nu_k54, nu_01, nu_40, nu_30, nu_20, nu_160, Int32.add_zero, Nat.reduceAdd, nu_m16, nu_16m, nu_m4, nu_4m, nu_m3, nu_3m, nu_m2, nu_2m, nI_1, nu_p2, nu_p3, nu_16p, nu_2p, nI_add, nu_cl, nu_in, Nat.add_zero, nu_l0, nu_l1, nu_l2, nu_l3, nu_l4, nu_i0_5, nu_i1_5, nu_i2_5, nu_i0_3, nu_i1_3, nu_i2_3, nu_n0, nu_n1, nu_na0, nu_na1, forall_eq, true_implies, false_implies, implies_true, not_true_eq_false, not_false_eq_true, and_true, true_and, and_self, true_or, or_true, false_or, or_false, false_and, and_false, eq_self]
        exact hp
      · simp (disch := omega) only [wpY_remove, vy_err, h, a, nu_k01, nu_k02, nu_k03, nu_k04, nu_k05, nu_k10, nu_k12, nu_k13, nu_k14, nu_k15, nu_k20, nu_k21, nu_k23, nu_k24, nu_k25, nu_k30, nu_k31, nu_k32, nu_k34, nu_k35, nu_k40, nu_k41, nu_k42, nu_k43, nu_k45, nu_k50, nu_k51, nu_k52, nu_k53, nu_k54, nu_01, nu_40, nu_30, nu_20, nu_160, Int32.add_zero, Nat.reduceAdd, nu_m16, nu_16m, nu_m4, nu_4m, nu_m3, nu_3m, nu_m2, nu_2m, nI_1, nu_p2, nu_p3, nu_16p, nu_2p, nI_add, nu_cl, nu_in, Nat.add_zero, nu_l0, nu_l1, nu_l2, nu_l3, nu_l4, nu_i0_5, nu_i1_5, nu_i2_5, nu_i0_3, nu_i1_3, nu_i2_3, nu_n0, nu_n1, nu_na0, nu_na1, forall_eq, true_implies, false_implies, implies_true, not_true_eq_false, not_false_eq_true, and_true, true_and, and_self, true_or, or_true, false_or, or_false, false_and, and_false, eq_self]
        exact hp
    · refine ⟨0, (nI n, nI m, cc, rq, md, bk, ct, rt, rc, lk, wt, wc, ch, upd st (16 * s + k) 1, en, sn, sk, sr, fr, lf, cr, rr), (nI n, nI m, th, ch, ro, lk, upd st (16 * s + k) 1, nw, bf, ve, bk, md, yl, la, od, sm, fr, ct), ir_mk hn hm (kd_R R (by decide) (Or.inr (Or.inr ⟨by rw [a]; decide, by rw [a]; decide⟩)) (fun q => absurd q (by decide))) hP, fun post hp => ?_, fun post hp => ?_⟩
      · simp (disch := omega) only [wpX_remove, wX_remove_67, vx_err, h, a, nu_k01, nu_k02, nu_k03, nu_k04, nu_k05, nu_k10, nu_k12, nu_k13, nu_k14, nu_k15, nu_k20, nu_k21, nu_k23, nu_k24, nu_k25, nu_k30, nu_k31, nu_k32, nu_k34, nu_k35, nu_k40, nu_k41, nu_k42, nu_k43, nu_k45, nu_k50, nu_k51, nu_k52, nu_k53, nu_k54, nu_01, nu_40, nu_30, nu_20, nu_160, Int32.add_zero, Nat.reduceAdd, nu_m16, nu_16m, nu_m4, nu_4m, nu_m3, nu_3m, nu_m2, nu_2m, nI_1, nu_p2, nu_p3, nu_16p, nu_2p, nI_add, nu_cl, nu_in, Nat.add_zero, nu_l0, nu_l1, nu_l2, nu_l3, nu_l4, nu_i0_5, nu_i1_5, nu_i2_5, nu_i0_3, nu_i1_3, nu_i2_3, nu_n0, nu_n1, nu_na0, nu_na1, forall_eq, true_implies, false_implies, implies_true, not_true_eq_false, not_false_eq_true, and_true, true_and, and_self, true_or, or_true, false_or, or_false, false_and, and_false, eq_self]
        exact hp
      · simp (disch := omega) only [wpY_remove, wY_remove_77, wY_remove_82, vy_err, h, a, nu_k01, nu_k02, nu_k03, nu_k04, nu_k05, nu_k10, nu_k12, nu_k13, nu_k14, nu_k15, nu_k20, nu_k21, nu_k23, nu_k24, nu_k25, nu_k30, nu_k31, nu_k32, nu_k34, nu_k35, nu_k40, nu_k41, nu_k42, nu_k43, nu_k45, nu_k50, nu_k51, nu_k52, nu_k53, nu_k54, nu_01, nu_40, nu_30, nu_20, nu_160, Int32.add_zero, Nat.reduceAdd, nu_m16, nu_16m, nu_m4, nu_4m, nu_m3, nu_3m, nu_m2, nu_2m, nI_1, nu_p2, nu_p3, nu_16p, nu_2p, nI_add, nu_cl, nu_in, Nat.add_zero, nu_l0, nu_l1, nu_l2, nu_l3, nu_l4, nu_i0_5, nu_i1_5, nu_i2_5, nu_i0_3, nu_i1_3, nu_i2_3, nu_n0, nu_n1, nu_na0, nu_na1, forall_eq, true_implies, false_implies, implies_true, not_true_eq_false, not_false_eq_true, and_true, true_and, and_self, true_or, or_true, false_or, or_false, false_and, and_false, eq_self]
        exact hp
    · obtain ⟨b, ct', ch', st', en', sn', nw', bf', ve', hb, R', h1, hX, hY⟩ := to_S (nI n) (nI m) cc rq ct sk sr fr lf cr rr yl la od sm hs hk R
      rcases hb with rfl | rfl
      · refine ⟨(-3), (nI n, nI m, cc, rq, md, bk, ct', rt, rc, lk, wt, wc, ch', st', en', sn', sk, sr, fr, lf, cr, rr), (nI n, nI m, th, ch', ro, lk, st', nw', bf', ve', bk, md, yl, la, od, sm, fr, ct'), ir_mk hn hm (R') hP, fun post hp => ?_, fun post hp => ?_⟩
        · simp (disch := omega) only [wpX_remove, vx_err, h, a, nu_k01, nu_k02, nu_k03, nu_k04, nu_k05, nu_k10, nu_k12, nu_k13, nu_k14, nu_k15, nu_k20, nu_k21, nu_k23, nu_k24, nu_k25, nu_k30, nu_k31, nu_k32, nu_k34, nu_k35, nu_k40, nu_k41, nu_k42, nu_k43, nu_k45, nu_k50, nu_k51, nu_k52, nu_k53, nu_k54, nu_01, nu_40, nu_30, nu_20, nu_160, Int32.add_zero, Nat.reduceAdd, nu_m16, nu_16m, nu_m4, nu_4m, nu_m3, nu_3m, nu_m2, nu_2m, nI_1, nu_p2, nu_p3, nu_16p, nu_2p, nI_add, nu_cl, nu_in, Nat.add_zero, nu_l0, nu_l1, nu_l2, nu_l3, nu_l4, nu_i0_5, nu_i1_5, nu_i2_5, nu_i0_3, nu_i1_3, nu_i2_3, nu_n0, nu_n1, nu_na0, nu_na1, forall_eq, true_implies, false_implies, implies_true, not_true_eq_false, not_false_eq_true, and_true, true_and, and_self, true_or, or_true, false_or, or_false, false_and, and_false, eq_self]
          refine hX _ ?_
          simp (disch := omega) only [nu_k10, nu_01, nu_40, nu_30, nu_20, nu_160, Int32.add_zero, Nat.reduceAdd, nu_m16, nu_16m, nu_m4, nu_4m, nu_m3, nu_3m, nu_m2, nu_2m, nI_1, nu_p2, nu_p3, nu_16p, nu_2p, nI_add, nu_cl, nu_in, Nat.add_zero, nu_l0, nu_l1, nu_l2, nu_l3, nu_l4, nu_i0_5, nu_i1_5, nu_i2_5, nu_i0_3, nu_i1_3, nu_i2_3, nu_n0, nu_n1, nu_na0, nu_na1, forall_eq, true_implies, false_implies, implies_true, not_true_eq_false, not_false_eq_true, and_true, true_and, and_self, true_or, or_true, false_or, or_false, false_and, and_false, eq_self]
          exact hp
        · simp (disch := omega) only [wpY_remove, vy_err, h, a, nu_k01, nu_k02, nu_k03, nu_k04, nu_k05, nu_k10, nu_k12, nu_k13, nu_k14, nu_k15, nu_k20, nu_k21, nu_k23, nu_k24, nu_k25, nu_k30, nu_k31, nu_k32, nu_k34, nu_k35, nu_k40, nu_k41, nu_k42, nu_k43, nu_k45, nu_k50, nu_k51, nu_k52, nu_k53, nu_k54, nu_01, nu_40, nu_30, nu_20, nu_160, Int32.add_zero, Nat.reduceAdd, nu_m16, nu_16m, nu_m4, nu_4m, nu_m3, nu_3m, nu_m2, nu_2m, nI_1, nu_p2, nu_p3, nu_16p, nu_2p, nI_add, nu_cl, nu_in, Nat.add_zero, nu_l0, nu_l1, nu_l2, nu_l3, nu_l4, nu_i0_5, nu_i1_5, nu_i2_5, nu_i0_3, nu_i1_3, nu_i2_3, nu_n0, nu_n1, nu_na0, nu_na1, forall_eq, true_implies, false_implies, implies_true, not_true_eq_false, not_false_eq_true, and_true, true_and, and_self, true_or, or_true, false_or, or_false, false_and, and_false, eq_self]
          refine hY _ ?_
          simp (disch := omega) only [wY_remove_82, nu_k10, nu_01, nu_40, nu_30, nu_20, nu_160, Int32.add_zero, Nat.reduceAdd, nu_m16, nu_16m, nu_m4, nu_4m, nu_m3, nu_3m, nu_m2, nu_2m, nI_1, nu_p2, nu_p3, nu_16p, nu_2p, nI_add, nu_cl, nu_in, Nat.add_zero, nu_l0, nu_l1, nu_l2, nu_l3, nu_l4, nu_i0_5, nu_i1_5, nu_i2_5, nu_i0_3, nu_i1_3, nu_i2_3, nu_n0, nu_n1, nu_na0, nu_na1, forall_eq, true_implies, false_implies, implies_true, not_true_eq_false, not_false_eq_true, and_true, true_and, and_self, true_or, or_true, false_or, or_false, false_and, and_false, eq_self]
          exact hp
      · have f4 := h1 rfl
        obtain ⟨rq2, ct2, st2, en2, sn2, rr2, nw2, bf2, ve2, yl2, R2, gX, gY⟩ := rv_S (nI n) (nI m) cc rq ct' sk sr fr lf cr rr yl la od sm hs hk f4 R'
        refine ⟨0, (nI n, nI m, cc, rq2, md, bk, ct2, rt, rc, lk, wt, wc, ch', st2, en2, sn2, sk, sr, fr, lf, cr, rr2), (nI n, nI m, th, ch', ro, lk, st2, nw2, bf2, ve2, bk, md, yl2, la, od, sm, fr, ct2), ir_mk hn hm R2 hP, fun post hp => ?_, fun post hp => ?_⟩
        · simp (disch := omega) only [wpX_remove, vx_err, h, a, nu_k01, nu_k02, nu_k03, nu_k04, nu_k05, nu_k10, nu_k12, nu_k13, nu_k14, nu_k15, nu_k20, nu_k21, nu_k23, nu_k24, nu_k25, nu_k30, nu_k31, nu_k32, nu_k34, nu_k35, nu_k40, nu_k41, nu_k42, nu_k43, nu_k45, nu_k50, nu_k51, nu_k52, nu_k53, nu_k54, nu_01, nu_40, nu_30, nu_20, nu_160, Int32.add_zero, Nat.reduceAdd, nu_m16, nu_16m, nu_m4, nu_4m, nu_m3, nu_3m, nu_m2, nu_2m, nI_1, nu_p2, nu_p3, nu_16p, nu_2p, nI_add, nu_cl, nu_in, Nat.add_zero, nu_l0, nu_l1, nu_l2, nu_l3, nu_l4, nu_i0_5, nu_i1_5, nu_i2_5, nu_i0_3, nu_i1_3, nu_i2_3, nu_n0, nu_n1, nu_na0, nu_na1, forall_eq, true_implies, false_implies, implies_true, not_true_eq_false, not_false_eq_true, and_true, true_and, and_self, true_or, or_true, false_or, or_false, false_and, and_false, eq_self]
          refine hX _ ?_
          simp (disch := omega) only [wX_remove_67, f4, nu_k01, nu_k02, nu_k03, nu_k04, nu_k05, nu_k10, nu_k12, nu_k13, nu_k14, nu_k15, nu_k20, nu_k21, nu_k23, nu_k24, nu_k25, nu_k30, nu_k31, nu_k32, nu_k34, nu_k35, nu_k40, nu_k41, nu_k42, nu_k43, nu_k45, nu_k50, nu_k51, nu_k52, nu_k53, nu_k54, nu_01, nu_40, nu_30, nu_20, nu_160, Int32.add_zero, Nat.reduceAdd, nu_m16, nu_16m, nu_m4, nu_4m, nu_m3, nu_3m, nu_m2, nu_2m, nI_1, nu_p2, nu_p3, nu_16p, nu_2p, nI_add, nu_cl, nu_in, Nat.add_zero, nu_l0, nu_l1, nu_l2, nu_l3, nu_l4, nu_i0_5, nu_i1_5, nu_i2_5, nu_i0_3, nu_i1_3, nu_i2_3, nu_n0, nu_n1, nu_na0, nu_na1, forall_eq, true_implies, false_implies, implies_true, not_true_eq_false, not_false_eq_true, and_true, true_and, and_self, true_or, or_true, false_or, or_false, false_and, and_false, eq_self]
          exact gX _ hp
        · simp (disch := omega) only [wpY_remove, vy_err, h, a, nu_k01, nu_k02, nu_k03, nu_k04, nu_k05, nu_k10, nu_k12, nu_k13, nu_k14, nu_k15, nu_k20, nu_k21, nu_k23, nu_k24, nu_k25, nu_k30, nu_k31, nu_k32, nu_k34, nu_k35, nu_k40, nu_k41, nu_k42, nu_k43, nu_k45, nu_k50, nu_k51, nu_k52, nu_k53, nu_k54, nu_01, nu_40, nu_30, nu_20, nu_160, Int32.add_zero, Nat.reduceAdd, nu_m16, nu_16m, nu_m4, nu_4m, nu_m3, nu_3m, nu_m2, nu_2m, nI_1, nu_p2, nu_p3, nu_16p, nu_2p, nI_add, nu_cl, nu_in, Nat.add_zero, nu_l0, nu_l1, nu_l2, nu_l3, nu_l4, nu_i0_5, nu_i1_5, nu_i2_5, nu_i0_3, nu_i1_3, nu_i2_3, nu_n0, nu_n1, nu_na0, nu_na1, forall_eq, true_implies, false_implies, implies_true, not_true_eq_false, not_false_eq_true, and_true, true_and, and_self, true_or, or_true, false_or, or_false, false_and, and_false, eq_self]
          refine hY _ ?_
          simp (disch := omega) only [wY_remove_77, nu_k01, nu_k02, nu_k03, nu_k04, nu_k05, nu_k10, nu_k12, nu_k13, nu_k14, nu_k15, nu_k20, nu_k21, nu_k23, nu_k24, nu_k25, nu_k30, nu_k31, nu_k32, nu_k34, nu_k35, nu_k40, nu_k41, nu_k42, nu_k43, nu_k45, nu_k50, nu_k51, nu_k52, nu_k53, nu_k54, forall_eq, true_implies, false_implies, implies_true, not_true_eq_false, not_false_eq_true, and_true, true_and, and_self, true_or, or_true, false_or, or_false, false_and, and_false, eq_self]
          exact gY _ hp
    · obtain ⟨rq2, ct2, st2, en2, sn2, rr2, nw2, bf2, ve2, yl2, R2, gX, gY⟩ := rv_S (nI n) (nI m) cc rq ct sk sr fr lf cr rr yl la od sm hs hk a R
      refine ⟨0, (nI n, nI m, cc, rq2, md, bk, ct2, rt, rc, lk, wt, wc, ch, st2, en2, sn2, sk, sr, fr, lf, cr, rr2), (nI n, nI m, th, ch, ro, lk, st2, nw2, bf2, ve2, bk, md, yl2, la, od, sm, fr, ct2), ir_mk hn hm R2 hP, fun post hp => ?_, fun post hp => ?_⟩
      · simp (disch := omega) only [wpX_remove, wX_remove_67, vx_err, h, a, nu_k01, nu_k02, nu_k03, nu_k04, nu_k05, nu_k10, nu_k12, nu_k13, nu_k14, nu_k15, nu_k20, nu_k21, nu_k23, nu_k24, nu_k25, nu_k30, nu_k31, nu_k32, nu_k34, nu_k35, nu_k40, nu_k41, nu_k42, nu_k43, nu_k45, nu_k50, nu_k51, nu_k52, nu_k53, nu_k54, nu_01, nu_40, nu_30, nu_20, nu_160, Int32.add_zero, Nat.reduceAdd, nu_m16, nu_16m, nu_m4, nu_4m, nu_m3, nu_3m, nu_m2, nu_2m, nI_1, nu_p2, nu_p3, nu_16p, nu_2p, nI_add, nu_cl, nu_in, Nat.add_zero, nu_l0, nu_l1, nu_l2, nu_l3, nu_l4, nu_i0_5, nu_i1_5, nu_i2_5, nu_i0_3, nu_i1_3, nu_i2_3, nu_n0, nu_n1, nu_na0, nu_na1, forall_eq, true_implies, false_implies, implies_true, not_true_eq_false, not_false_eq_true, and_true, true_and, and_self, true_or, or_true, false_or, or_false, false_and, and_false, eq_self]
        exact gX _ hp
      · simp (disch := omega) only [wpY_remove, wY_remove_77, vy_err, h, a, nu_k01, nu_k02, nu_k03, nu_k04, nu_k05, nu_k10, nu_k12, nu_k13, nu_k14, nu_k15, nu_k20, nu_k21, nu_k23, nu_k24, nu_k25, nu_k30, nu_k31, nu_k32, nu_k34, nu_k35, nu_k40, nu_k41, nu_k42, nu_k43, nu_k45, nu_k50, nu_k51, nu_k52, nu_k53, nu_k54, nu_01, nu_40, nu_30, nu_20, nu_160, Int32.add_zero, Nat.reduceAdd, nu_m16, nu_16m, nu_m4, nu_4m, nu_m3, nu_3m, nu_m2, nu_2m, nI_1, nu_p2, nu_p3, nu_16p, nu_2p, nI_add, nu_cl, nu_in, Nat.add_zero, nu_l0, nu_l1, nu_l2, nu_l3, nu_l4, nu_i0_5, nu_i1_5, nu_i2_5, nu_i0_3, nu_i1_3, nu_i2_3, nu_n0, nu_n1, nu_na0, nu_na1, forall_eq, true_implies, false_implies, implies_true, not_true_eq_false, not_false_eq_true, and_true, true_and, and_self, true_or, or_true, false_or, or_false, false_and, and_false, eq_self]
        exact gY _ hp
    · refine ⟨0, (nI n, nI m, cc, rq, md, bk, ct, rt, rc, lk, wt, wc, ch, st, en, sn, sk, sr, fr, lf, cr, rr), (nI n, nI m, th, ch, ro, lk, st, nw, bf, ve, bk, md, yl, la, od, sm, fr, ct), ir_mk hn hm (R) hP, fun post hp => ?_, fun post hp => ?_⟩
      · simp (disch := omega) only [wpX_remove, wX_remove_67, vx_err, h, a, nu_k01, nu_k02, nu_k03, nu_k04, nu_k05, nu_k10, nu_k12, nu_k13, nu_k14, nu_k15, nu_k20, nu_k21, nu_k23, nu_k24, nu_k25, nu_k30, nu_k31, nu_k32, nu_k34, nu_k35, nu_k40, nu_k41, nu_k42, nu_k43, nu_k45, nu_k50, nu_k51, nu_k52, nu_k53, nu_k54, nu_01, nu_40, nu_30, nu_20, nu_160, Int32.add_zero, Nat.reduceAdd, nu_m16, nu_16m, nu_m4, nu_4m, nu_m3, nu_3m, nu_m2, nu_2m, nI_1, nu_p2, nu_p3, nu_16p, nu_2p, nI_add, nu_cl, nu_in, Nat.add_zero, nu_l0, nu_l1, nu_l2, nu_l3, nu_l4, nu_i0_5, nu_i1_5, nu_i2_5, nu_i0_3, nu_i1_3, nu_i2_3, nu_n0, nu_n1, nu_na0, nu_na1, forall_eq, true_implies, false_implies, implies_true, not_true_eq_false, not_false_eq_true, and_true, true_and, and_self, true_or, or_true, false_or, or_false, false_and, and_false, eq_self]
        exact hp
      · simp (disch := omega) only [wpY_remove, vy_err, h, a, nu_k01, nu_k02, nu_k03, nu_k04, nu_k05, nu_k10, nu_k12, nu_k13, nu_k14, nu_k15, nu_k20, nu_k21, nu_k23, nu_k24, nu_k25, nu_k30, nu_k31, nu_k32, nu_k34, nu_k35, nu_k40, nu_k41, nu_k42, nu_k43, nu_k45, nu_k50, nu_k51, nu_k52, nu_k53, nu_k54, nu_01, nu_40, nu_30, nu_20, nu_160, Int32.add_zero, Nat.reduceAdd, nu_m16, nu_16m, nu_m4, nu_4m, nu_m3, nu_3m, nu_m2, nu_2m, nI_1, nu_p2, nu_p3, nu_16p, nu_2p, nI_add, nu_cl, nu_in, Nat.add_zero, nu_l0, nu_l1, nu_l2, nu_l3, nu_l4, nu_i0_5, nu_i1_5, nu_i2_5, nu_i0_3, nu_i1_3, nu_i2_3, nu_n0, nu_n1, nu_na0, nu_na1, forall_eq, true_implies, false_implies, implies_true, not_true_eq_false, not_false_eq_true, and_true, true_and, and_self, true_or, or_true, false_or, or_false, false_and, and_false, eq_self]
        exact hp
  · refine ⟨(er_v bk v1 v2), (nI n, nI m, cc, rq, md, bk, ct, rt, rc, lk, wt, wc, ch, st, en, sn, sk, sr, fr, lf, cr, rr), (nI n, nI m, th, ch, ro, lk, st, nw, bf, ve, bk, md, yl, la, od, sm, fr, ct), ir_mk hn hm (R) hP, fun post hp => ?_, fun post hp => ?_⟩
    · simp (disch := omega) only [wpX_remove, vx_err, h, nu_01, nu_40, nu_30, nu_20, nu_160, Int32.add_zero, Nat.reduceAdd, nu_m16, nu_16m, nu_m4, nu_4m, nu_m3, nu_3m, nu_m2, nu_2m, nI_1, nu_p2, nu_p3, nu_16p, nu_2p, nI_add, nu_cl, nu_in, Nat.add_zero, nu_l0, nu_l1, nu_l2, nu_l3, nu_l4, nu_i0_5, nu_i1_5, nu_i2_5, nu_i0_3, nu_i1_3, nu_i2_3, nu_n0, nu_n1, nu_na0, nu_na1, forall_eq, true_implies, false_implies, implies_true, not_true_eq_false, not_false_eq_true, and_true, true_and, and_self, true_or, or_true, false_or, or_false, false_and, and_false, eq_self]
      exact hp
    · simp (disch := omega) only [wpY_remove, vy_err, h, nu_01, nu_40, nu_30, nu_20, nu_160, Int32.add_zero, Nat.reduceAdd, nu_m16, nu_16m, nu_m4, nu_4m, nu_m3, nu_3m, nu_m2, nu_2m, nI_1, nu_p2, nu_p3, nu_16p, nu_2p, nI_add, nu_cl, nu_in, Nat.add_zero, nu_l0, nu_l1, nu_l2, nu_l3, nu_l4, nu_i0_5, nu_i1_5, nu_i2_5, nu_i0_3, nu_i1_3, nu_i2_3, nu_n0, nu_n1, nu_na0, nu_na1, forall_eq, true_implies, false_implies, implies_true, not_true_eq_false, not_false_eq_true, and_true, true_and, and_self, true_or, or_true, false_or, or_false, false_and, and_false, eq_self]
      exact hp
