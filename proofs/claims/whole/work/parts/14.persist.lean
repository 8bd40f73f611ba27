section
variable {sc fc cc rq : Int32} {md bk ct rt rc lk wt wc ch en sn sk sr fr lf cr rr th ro nw bf ve yl la od sm : Nat → Int32}
theorem vx_ch5 {post : SX → Prop} {s : Nat} (hs : s < 3) (hE : re_E en) : ∀ (d i : Nat), i + d = 16 → ∀ (x : Int32) (st : Nat → Int32), re_L x → ∀ n, d < n → post (sc, fc, cc, rq, md, bk, ct, rt, rc, lk, wt, wc, ch, sv_ch s (fun j => en (4 * (16 * s + j) + 2)) d st x, en, sn, sk, sr, fr, lf, cr, rr) → wX_saveChain_5 post (nI s) sc fc cc rq n x (nI i) md bk ct rt rc lk wt wc ch st en sn sk sr fr lf cr rr := by
  intro d
  induction d with
  | zero =>
    intro i hi x st _ n hn hp
    obtain ⟨n, rfl⟩ : ∃ n', n = n' + 1 := ⟨n - 1, by omega⟩
    simp (disch := omega) only [wX_saveChain_5, nu_a16, forall_eq, true_implies, false_implies, implies_true, not_true_eq_false, not_false_eq_true, and_true, true_and, and_self, true_or, or_true, false_or, or_false, false_and, and_false, eq_self]
    exact hp
  | succ d ih =>
    intro i hi x st hL n hn hp
    obtain ⟨n, rfl⟩ : ∃ n', n = n' + 1 := ⟨n - 1, by omega⟩
    rcases hL with rfl | ⟨l, hl, rfl⟩
    · rw [sv_chm] at hp
      simp (disch := omega) only [wX_saveChain_5, nu_b16, nu_m1lt, forall_eq, true_implies, false_implies, implies_true, not_true_eq_false, not_false_eq_true, and_true, true_and, and_self, true_or, or_true, false_or, or_false, false_and, and_false, eq_self]
      exact hp
    · by_cases h : st (16 * s + l) = 1
      · rw [sv_ch1 hl h] at hp
        simp (disch := omega) only [wX_saveChain_5, nu_b16, nu_neg, h, nu_01, nu_40, nu_30, nu_20, nu_160, Int32.add_zero, Nat.reduceAdd, nu_m16, nu_16m, nu_m4, nu_4m, nu_m3, nu_3m, nu_m2, nu_2m, nI_1, nu_p2, nu_p3, nu_16p, nu_2p, nI_add, nu_cl, nu_in, Nat.add_zero, nu_l0, nu_l1, nu_l2, nu_l3, nu_l4, nu_i0_5, nu_i1_5, nu_i2_5, nu_i0_3, nu_i1_3, nu_i2_3, nu_n0, nu_n1, nu_na0, nu_na1, forall_eq, true_implies, false_implies, implies_true, not_true_eq_false, not_false_eq_true, and_true, true_and, and_self, true_or, or_true, false_or, or_false, false_and, and_false, eq_self]
        exact ih (i + 1) (by omega) _ _ (hE (16 * s + l) (by omega)) n (by omega) hp
      · rw [sv_ch0 hl h] at hp
        simp (disch := omega) only [wX_saveChain_5, nu_b16, nu_neg, h, nu_01, nu_40, nu_30, nu_20, nu_160, Int32.add_zero, Nat.reduceAdd, nu_m16, nu_16m, nu_m4, nu_4m, nu_m3, nu_3m, nu_m2, nu_2m, nI_1, nu_p2, nu_p3, nu_16p, nu_2p, nI_add, nu_cl, nu_in, Nat.add_zero, nu_l0, nu_l1, nu_l2, nu_l3, nu_l4, nu_i0_5, nu_i1_5, nu_i2_5, nu_i0_3, nu_i1_3, nu_i2_3, nu_n0, nu_n1, nu_na0, nu_na1, forall_eq, true_implies, false_implies, implies_true, not_true_eq_false, not_false_eq_true, and_true, true_and, and_self, true_or, or_true, false_or, or_false, false_and, and_false, eq_self]
        exact hp
theorem vx_ch {post : SX → Prop} {s : Nat} {x : Int32} {st : Nat → Int32} (hs : s < 3) (hE : re_E en) (hL : re_L x) (hp : post (sc, fc, cc, rq, md, bk, ct, rt, rc, lk, wt, wc, ch, sv_ch s (fun j => en (4 * (16 * s + j) + 2)) 16 st x, en, sn, sk, sr, fr, lf, cr, rr)) : wpX_saveChain post (sc, fc, cc, rq, md, bk, ct, rt, rc, lk, wt, wc, ch, st, en, sn, sk, sr, fr, lf, cr, rr) (nI s) x := by
  simp only [wpX_saveChain]
  exact ⟨17, vx_ch5 hs hE 16 0 rfl x st hL 17 (by decide) hp⟩
theorem vy_ch {post : Int32 → SY → Prop} {s : Nat} (hs : s < 3) (hE : re_E en) (hm : ¬ md 0 = 0) : ∀ (d : Nat) (x : Int32) (st : Nat → Int32), re_L x → sv_1 s st ≤ d → (∀ j, j < 16 → st (16 * s + j) = 1 → nw (3 * (16 * s + j) + 2) = en (4 * (16 * s + j) + 2)) → ∀ n, d < n →
    post 0 (sc, fc, th, ch, ro, lk, sv_ch s (fun j => en (4 * (16 * s + j) + 2)) d st x, nw, bf, ve, bk, md, yl, la, od, sm, fr, ct) → wY_persist_86 post (nI s) sc fc n x th ch ro lk st nw bf ve bk md yl la od sm fr ct := by
  intro d
  induction d with
  | zero =>
    intro x st hL h1 _ n hn hp
    obtain ⟨n, rfl⟩ : ∃ n', n = n' + 1 := ⟨n - 1, by omega⟩
    rcases hL with rfl | ⟨l, hl, rfl⟩
    · simp (disch := omega) only [wY_persist_86, hm, nu_m1lt, forall_eq, true_implies, false_implies, implies_true, not_true_eq_false, not_false_eq_true, and_true, true_and, and_self, true_or, or_true, false_or, or_false, false_and, and_false, eq_self]
      exact hp
    · have h := sv_10 (s := s) (st := st) (by omega) l hl
      simp (disch := omega) only [wY_persist_86, hm, nu_neg, h, nu_01, nu_40, nu_30, nu_20, nu_160, Int32.add_zero, Nat.reduceAdd, nu_m16, nu_16m, nu_m4, nu_4m, nu_m3, nu_3m, nu_m2, nu_2m, nI_1, nu_p2, nu_p3, nu_16p, nu_2p, nI_add, nu_cl, nu_in, Nat.add_zero, nu_l0, nu_l1, nu_l2, nu_l3, nu_l4, nu_i0_5, nu_i1_5, nu_i2_5, nu_i0_3, nu_i1_3, nu_i2_3, nu_n0, nu_n1, nu_na0, nu_na1, forall_eq, true_implies, false_implies, implies_true, not_true_eq_false, not_false_eq_true, and_true, true_and, and_self, true_or, or_true, false_or, or_false, false_and, and_false, eq_self]
      exact hp
  | succ d ih =>
    intro x st hL h1 hw n hn hp
    obtain ⟨n, rfl⟩ : ∃ n', n = n' + 1 := ⟨n - 1, by omega⟩
    rcases hL with rfl | ⟨l, hl, rfl⟩
    · rw [sv_chm] at hp
      simp (disch := omega) only [wY_persist_86, hm, nu_m1lt, forall_eq, true_implies, false_implies, implies_true, not_true_eq_false, not_false_eq_true, and_true, true_and, and_self, true_or, or_true, false_or, or_false, false_and, and_false, eq_self]
      exact hp
    · by_cases h : st (16 * s + l) = 1
      · rw [sv_ch1 hl h] at hp
        have hc := sv_1u hl h
        simp (disch := omega) only [wY_persist_86, hm, nu_neg, h, nu_01, nu_40, nu_30, nu_20, nu_160, Int32.add_zero, Nat.reduceAdd, nu_m16, nu_16m, nu_m4, nu_4m, nu_m3, nu_3m, nu_m2, nu_2m, nI_1, nu_p2, nu_p3, nu_16p, nu_2p, nI_add, nu_cl, nu_in, Nat.add_zero, nu_l0, nu_l1, nu_l2, nu_l3, nu_l4, nu_i0_5, nu_i1_5, nu_i2_5, nu_i0_3, nu_i1_3, nu_i2_3, nu_n0, nu_n1, nu_na0, nu_na1, forall_eq, true_implies, false_implies, implies_true, not_true_eq_false, not_false_eq_true, and_true, true_and, and_self, true_or, or_true, false_or, or_false, false_and, and_false, eq_self]
        rw [hw l hl h]
        refine ih _ _ (hE (16 * s + l) (by omega)) (by omega) ?_ n (by omega) hp
        intro j hj q
        by_cases z : j = l
        · subst z
          exact hw j hj h
        · rw [pk_un (by omega)] at q
          exact hw j hj q
      · rw [sv_ch0 hl h] at hp
        simp (disch := omega) only [wY_persist_86, hm, nu_neg, h, nu_01, nu_40, nu_30, nu_20, nu_160, Int32.add_zero, Nat.reduceAdd, nu_m16, nu_16m, nu_m4, nu_4m, nu_m3, nu_3m, nu_m2, nu_2m, nI_1, nu_p2, nu_p3, nu_16p, nu_2p, nI_add, nu_cl, nu_in, Nat.add_zero, nu_l0, nu_l1, nu_l2, nu_l3, nu_l4, nu_i0_5, nu_i1_5, nu_i2_5, nu_i0_3, nu_i1_3, nu_i2_3, nu_n0, nu_n1, nu_na0, nu_na1, forall_eq, true_implies, false_implies, implies_true, not_true_eq_false, not_false_eq_true, and_true, true_and, and_self, true_or, or_true, false_or, or_false, false_and, and_false, eq_self]
        exact hp
end
/-- the relation lasts where TRANSIENT ones become NEW -/
theorem sv_R {s : Nat} {st' : Nat → Int32} {md bk ch lk st rt rc wt wc en sn th ro nw bf ve : Nat → Int32} (R : re_R md bk ch lk st rt rc wt wc en sn th ro nw bf ve) (x : sv_X s st st') : re_R md bk ch lk st' rt rc wt wc en sn th ro nw bf ve := by
  obtain ⟨a1, a2, a3, a4, a5, a6, a7, a8, a9, a10, a11, a12, a13⟩ := R
  exact ⟨a1, a2, a3, a4, a5, sv_K x a6, a7, a8, a9, a10, sv_N x a11, a12, sv_V x a13⟩
theorem pe_S {u : SX} {v : SY} (I : i_Rel 0 u v) (v1 v2 : Int32) : sm_S (fun post => wpX_persist post u v1 v2) (fun post => wpY_persist post v v1 v2) := by
  obtain ⟨n, m, cc, rq, md, bk, ct, rt, rc, lk, wt, wc, ch, st, en, sn, sk, sr, fr, lf, cr, rr, th, ro, nw, bf, ve, yl, la, od, sm, rfl, rfl, hn, hm, R, hP⟩ := I
  by_cases h : er_v bk v1 v2 = 0
  · obtain ⟨s, k, hs, hk, rfl, rfl, hb⟩ := er_0 h
    by_cases h0 : st (16 * s + k) = 0
    · refine ⟨(-1), (nI n, nI m, cc, rq, md, bk, ct, rt, rc, lk, wt, wc, ch, st, en, sn, sk, sr, fr, lf, cr, rr), (nI n, nI m, th, ch, ro, lk, st, nw, bf, ve, bk, md, yl, la, od, sm, fr, ct), ir_mk hn hm (R) hP, fun post hp => ?_, fun post hp => ?_⟩
      · simp (disch := omega) only [wpX_persist, vx_err, h, h0, nu_01, nu_40, nu_30, nu_20, nu_160, Int32.add_zero, Nat.reduceAdd, nu_m16, nu_16m, nu_m4, nu_4m, nu_m3, nu_3m, nu_m2, nu_2m, nI_1, nu_p2, nu_p3, nu_16p, nu_2p, nI_add, nu_cl, nu_in, Nat.add_zero, nu_l0, nu_l1, nu_l2, nu_l3, nu_l4, nu_i0_5, nu_i1_5, nu_i2_5, nu_i0_3, nu_i1_3, nu_i2_3, nu_n0, nu_n1, nu_na0, nu_na1, forall_eq, true_implies, false_implies, implies_true, not_true_eq_false, not_false_eq_true, and_true, true_and, and_self, true_or, or_true, false_or, or_false, false_and, and_false, eq_self]
        exact hp
      · simp (disch := omega) only [wpY_persist, vy_err, h, h0, nu_01, nu_40, nu_30, nu_20, nu_160, Int32.add_zero, Nat.reduceAdd, nu_m16, nu_16m, nu_m4, nu_4m, nu_m3, nu_3m, nu_m2, nu_2m, nI_1, nu_p2, nu_p3, nu_16p, nu_2p, nI_add, nu_cl, nu_in, Nat.add_zero, nu_l0, nu_l1, nu_l2, nu_l3, nu_l4, nu_i0_5, nu_i1_5, nu_i2_5, nu_i0_3, nu_i1_3, nu_i2_3, nu_n0, nu_n1, nu_na0, nu_na1, forall_eq, true_implies, false_implies, implies_true, not_true_eq_false, not_false_eq_true, and_true, true_and, and_self, true_or, or_true, false_or, or_false, false_and, and_false, eq_self]
        exact hp
    · by_cases h5 : st (16 * s + k) = 5
      · refine ⟨0, (nI n, nI m, cc, rq, md, bk, ct, rt, rc, lk, wt, wc, ch, upd st (16 * s + k) 4, en, sn, sk, sr, fr, lf, cr, rr), (nI n, nI m, th, ch, ro, lk, upd st (16 * s + k) 4, nw, bf, ve, bk, md, yl, la, od, sm, fr, ct), ir_mk hn hm (kd_R R (by decide) (Or.inr (Or.inr ⟨h0, by rw [h5]; decide⟩)) (fun _ => Or.inr h5)) hP, fun post hp => ?_, fun post hp => ?_⟩
        · simp (disch := omega) only [wpX_persist, vx_err, h, h5, nu_k01, nu_k02, nu_k03, nu_k04, nu_k05, nu_k10, nu_k12, nu_k13, nu_k14, nu_k15, nu_k20, nu_k21, nu_k23, nu_k24, nu_k25, nu_k30, nu_k31, nu_k32, nu_k34, nu_k35, nu_k40, nu_k41, nu_k42, nu_k43, nu_k45, nu_k50, nu_k51, nu_k52, nu_k53, nu_k54, nu_01, nu_40, nu_30, nu_20, nu_160, Int32.add_zero, Nat.reduceAdd, nu_m16, nu_16m, nu_m4, nu_4m, nu_m3, nu_3m, nu_m2, nu_2m, nI_1, nu_p2, nu_p3, nu_16p, nu_2p, nI_add, nu_cl, nu_in, Nat.add_zero, nu_l0, nu_l1, nu_l2, nu_l3, nu_l4, nu_i0_5, nu_i1_5, nu_i2_5, nu_i0_3, nu_i1_3, nu_i2_3, nu_n0, nu_n1, nu_na0, nu_na1, forall_eq, true_implies, false_implies, implies_true, not_true_eq_false, not_false_eq_true, and_true, true_and, and_self, true_or, or_true, false_or, or_false, false_and, and_false, eq_self]
          exact hp
        · simp (disch := omega) only [wpY_persist, wY_persist_52, vy_err, h, h5, pk_us, nu_k01, nu_k02, nu_k03, nu_k04, nu_k05, nu_k10, nu_k12, nu_k13, nu_k14, nu_k15, nu_k20, nu_k21, nu_k23, nu_k24, nu_k25, nu_k30, nu_k31, nu_k32, nu_k34, nu_k35, nu_k40, nu_k41, nu_k42, nu_k43, nu_k45, nu_k50, nu_k51, nu_k52, nu_k53, nu_k54, nu_01, nu_40, nu_30, nu_20, nu_160, Int32.add_zero, Nat.reduceAdd, nu_m16, nu_16m, nu_m4, nu_4m, nu_m3, nu_3m, nu_m2, nu_2m, nI_1, nu_p2, nu_p3, nu_16p, nu_2p, nI_add, nu_cl, nu_in, Nat.add_zero, nu_l0, nu_l1, nu_l2, nu_l3, nu_l4, nu_i0_5, nu_i1_5, nu_i2_5, nu_i0_3, nu_i1_3, nu_i2_3, nu_n0, nu_n1, nu_na0, nu_na1, forall_eq, true_implies, false_implies, implies_true, not_true_eq_false, not_false_eq_true, and_true, true_and, and_self, true_or, or_true, false_or, or_false, false_and, and_false, eq_self]
          exact hp
      · by_cases h1 : st (16 * s + k) = 1
        · by_cases hu : md 0 = 0
          · refine ⟨0, (nI n, nI m, cc, rq, md, bk, ct, rt, rc, lk, wt, wc, ch, upd st (16 * s + k) 2, en, sn, sk, sr, fr, lf, cr, rr), (nI n, nI m, th, ch, ro, lk, upd st (16 * s + k) 2, nw, bf, ve, bk, md, yl, la, od, sm, fr, ct), ir_mk hn hm (kd_R R (by decide) (Or.inr (Or.inr ⟨h0, by rw [h1]; decide⟩)) (fun q => absurd q (by decide))) hP, fun post hp => ?_, fun post hp => ?_⟩
            · simp (disch := omega) only [wpX_persist, wX_persist_84, vx_err, h, h1, hu, nu_k01, nu_k02, nu_k03, nu_k04, nu_k05, nu_k10, nu_k12, nu_k13, nu_k14, nu_k15, nu_k20, nu_k21, nu_k23, nu_k24, nu_k25, nu_k30, nu_k31, nu_k32, nu_k34, nu_k35, nu_k40, nu_k41, nu_k42, nu_k43, nu_k45, nu_k50, nu_k51, nu_k52, nu_k53, nu_k54, nu_01, nu_40, nu_30, nu_20, nu_160, Int32.add_zero, Nat.reduceAdd, nu_m16, nu_16m, nu_m4, nu_4m, nu_m3, nu_3m, nu_m2, nu_2m, nI_1, nu_p2, nu_p3, nu_16p, nu_2p, nI_add, nu_cl, nu_in, Nat.add_zero, nu_l0, nu_l1, nu_l2, nu_l3, nu_l4, nu_i0_5, nu_i1_5, nu_i2_5, nu_i0_3, nu_i1_3, nu_i2_3, nu_n0, nu_n1, nu_na0, nu_na1, forall_eq, true_implies, false_implies, implies_true, not_true_eq_false, not_false_eq_true, and_true, true_and, and_self, true_or, or_true, false_or, or_false, false_and, and_false, eq_self]
              exact hp
            · simp (disch := omega) only [wpY_persist, wY_persist_52, vy_err, h, h1, nu_k01, nu_k02, nu_k03, nu_k04, nu_k05, nu_k10, nu_k12, nu_k13, nu_k14, nu_k15, nu_k20, nu_k21, nu_k23, nu_k24, nu_k25, nu_k30, nu_k31, nu_k32, nu_k34, nu_k35, nu_k40, nu_k41, nu_k42, nu_k43, nu_k45, nu_k50, nu_k51, nu_k52, nu_k53, nu_k54, nu_01, nu_40, nu_30, nu_20, nu_160, Int32.add_zero, Nat.reduceAdd, nu_m16, nu_16m, nu_m4, nu_4m, nu_m3, nu_3m, nu_m2, nu_2m, nI_1, nu_p2, nu_p3, nu_16p, nu_2p, nI_add, nu_cl, nu_in, Nat.add_zero, nu_l0, nu_l1, nu_l2, nu_l3, nu_l4, nu_i0_5, nu_i1_5, nu_i2_5, nu_i0_3, nu_i1_3, nu_i2_3, nu_n0, nu_n1, nu_na0, nu_na1, forall_eq, true_implies, false_implies, implies_true, not_true_eq_false, not_false_eq_true, and_true, true_and, and_self, true_or, or_true, false_or, or_false, false_and, and_false, eq_self]
              refine ⟨1, ?_⟩
              simp only [wY_persist_86, hu, forall_eq, true_implies, false_implies, implies_true, not_true_eq_false, not_false_eq_true, and_true, true_and, and_self, true_or, or_true, false_or, or_false, false_and, and_false, eq_self]
              exact hp
          · have hE := re_rE R
            have hg : ∀ j, j < 16 → re_L (en (4 * (16 * s + j) + 2)) := fun j hj => hE (16 * s + j) (by omega)
            have hx := sv_chX (s := s) hg 16 st st (nI k) (Or.inr ⟨k, hk, rfl⟩) (sv_X0 s st)
            have hN : ∀ j, j < 16 → st (16 * s + j) = 1 → nw (3 * (16 * s + j) + 2) = en (4 * (16 * s + j) + 2) := fun j hj q => (re_rN R (16 * s + j) (by omega) (by rw [q]; decide) (by rw [q]; decide) 2 (by decide)).symm
            refine ⟨0, (nI n, nI m, cc, rq, md, bk, ct, rt, rc, lk, wt, wc, ch, sv_ch s (fun j => en (4 * (16 * s + j) + 2)) 16 st (nI k), en, sn, sk, sr, fr, lf, cr, rr), (nI n, nI m, th, ch, ro, lk, sv_ch s (fun j => en (4 * (16 * s + j) + 2)) 16 st (nI k), nw, bf, ve, bk, md, yl, la, od, sm, fr, ct), ir_mk hn hm (sv_R R hx) hP, fun post hp => ?_, fun post hp => ?_⟩
            · simp (disch := omega) only [wpX_persist, vx_err, h, h1, hu, nu_k01, nu_k02, nu_k03, nu_k04, nu_k05, nu_k10, nu_k12, nu_k13, nu_k14, nu_k15, nu_k20, nu_k21, nu_k23, nu_k24, nu_k25, nu_k30, nu_k31, nu_k32, nu_k34, nu_k35, nu_k40, nu_k41, nu_k42, nu_k43, nu_k45, nu_k50, nu_k51, nu_k52, nu_k53, nu_k54, nu_01, nu_40, nu_30, nu_20, nu_160, Int32.add_zero, Nat.reduceAdd, nu_m16, nu_16m, nu_m4, nu_4m, nu_m3, nu_3m, nu_m2, nu_2m, nI_1, nu_p2, nu_p3, nu_16p, nu_2p, nI_add, nu_cl, nu_in, Nat.add_zero, nu_l0, nu_l1, nu_l2, nu_l3, nu_l4, nu_i0_5, nu_i1_5, nu_i2_5, nu_i0_3, nu_i1_3, nu_i2_3, nu_n0, nu_n1, nu_na0, nu_na1, forall_eq, true_implies, false_implies, implies_true, not_true_eq_false, not_false_eq_true, and_true, true_and, and_self, true_or, or_true, false_or, or_false, false_and, and_false, eq_self]
              refine vx_ch hs hE (Or.inr ⟨k, hk, rfl⟩) ?_
              exact hp
            · simp (disch := omega) only [wpY_persist, wY_persist_52, vy_err, h, h1, nu_k01, nu_k02, nu_k03, nu_k04, nu_k05, nu_k10, nu_k12, nu_k13, nu_k14, nu_k15, nu_k20, nu_k21, nu_k23, nu_k24, nu_k25, nu_k30, nu_k31, nu_k32, nu_k34, nu_k35, nu_k40, nu_k41, nu_k42, nu_k43, nu_k45, nu_k50, nu_k51, nu_k52, nu_k53, nu_k54, nu_01, nu_40, nu_30, nu_20, nu_160, Int32.add_zero, Nat.reduceAdd, nu_m16, nu_16m, nu_m4, nu_4m, nu_m3, nu_3m, nu_m2, nu_2m, nI_1, nu_p2, nu_p3, nu_16p, nu_2p, nI_add, nu_cl, nu_in, Nat.add_zero, nu_l0, nu_l1, nu_l2, nu_l3, nu_l4, nu_i0_5, nu_i1_5, nu_i2_5, nu_i0_3, nu_i1_3, nu_i2_3, nu_n0, nu_n1, nu_na0, nu_na1, forall_eq, true_implies, false_implies, implies_true, not_true_eq_false, not_false_eq_true, and_true, true_and, and_self, true_or, or_true, false_or, or_false, false_and, and_false, eq_self]
              rw [sv_ch1 hk h1] at hp
              have hc := sv_1u (s := s) hk h1
              have h16 : sv_1 s st ≤ 16 := cn_le _ 16
              rw [hN k hk h1]
              refine ⟨16, vy_ch hs hE hu 15 _ _ (hg k hk) (by omega) ?_ 16 (by decide) hp⟩
              intro j hj q
              by_cases z : j = k
              · subst z
                exact hN j hj h1
              · rw [pk_un (by omega)] at q
                exact hN j hj q
        · refine ⟨0, (nI n, nI m, cc, rq, md, bk, ct, rt, rc, lk, wt, wc, ch, st, en, sn, sk, sr, fr, lf, cr, rr), (nI n, nI m, th, ch, ro, lk, st, nw, bf, ve, bk, md, yl, la, od, sm, fr, ct), ir_mk hn hm (R) hP, fun post hp => ?_, fun post hp => ?_⟩
          · simp (disch := omega) only [wpX_persist, wX_persist_84, vx_err, h, h0, h1, h5, nu_01, nu_40, nu_30, nu_20, nu_160, Int32.add_zero, Nat.reduceAdd, nu_m16, nu_16m, nu_m4, nu_4m, nu_m3, nu_3m, nu_m2, nu_2m, nI_1, nu_p2, nu_p3, nu_16p, nu_2p, nI_add, nu_cl, nu_in, Nat.add_zero, nu_l0, nu_l1, nu_l2, nu_l3, nu_l4, nu_i0_5, nu_i1_5, nu_i2_5, nu_i0_3, nu_i1_3, nu_i2_3, nu_n0, nu_n1, nu_na0, nu_na1, forall_eq, true_implies, false_implies, implies_true, not_true_eq_false, not_false_eq_true, and_true, true_and, and_self, true_or, or_true, false_or, or_false, false_and, and_false, eq_self]
            exact hp
          · simp (disch := omega) only [wpY_persist, wY_persist_52, vy_err, h, h0, h1, h5, nu_01, nu_40, nu_30, nu_20, nu_160, Int32.add_zero, Nat.reduceAdd, nu_m16, nu_16m, nu_m4, nu_4m, nu_m3, nu_3m, nu_m2, nu_2m, nI_1, nu_p2, nu_p3, nu_16p, nu_2p, nI_add, nu_cl, nu_in, Nat.add_zero, nu_l0, nu_l1, nu_l2, nu_l3, nu_l4, nu_i0_5, nu_i1_5, nu_i2_5, nu_i0_3, nu_i1_3, nu_i2_3, nu_n0, nu_n1, nu_na0, nu_na1, forall_eq, true_implies, false_implies, implies_true, not_true_eq_false, not_false_eq_true, and_true, true_and, and_self, true_or, or_true, false_or, or_false, false_and, and_false, eq_self]
            exact hp
  · refine ⟨(er_v bk v1 v2), (nI n, nI m, cc, rq, md, bk, ct, rt, rc, lk, wt, wc, ch, st, en, sn, sk, sr, fr, lf, cr, rr), (nI n, nI m, th, ch, ro, lk, st, nw, bf, ve, bk, md, yl, la, od, sm, fr, ct), ir_mk hn hm (R) hP, fun post hp => ?_, fun post hp => ?_⟩
    · simp (disch := omega) only [wpX_persist, vx_err, h, nu_01, nu_40, nu_30, nu_20, nu_160, Int32.add_zero, Nat.reduceAdd, nu_m16, nu_16m, nu_m4, nu_4m, nu_m3, nu_3m, nu_m2, nu_2m, nI_1, nu_p2, nu_p3, nu_16p, nu_2p, nI_add, nu_cl, nu_in, Nat.add_zero, nu_l0, nu_l1, nu_l2, nu_l3, nu_l4, nu_i0_5, nu_i1_5, nu_i2_5, nu_i0_3, nu_i1_3, nu_i2_3, nu_n0, nu_n1, nu_na0, nu_na1, forall_eq, true_implies, false_implies, implies_true, not_true_eq_false, not_false_eq_true, and_true, true_and, and_self, true_or, or_true, false_or, or_false, false_and, and_false, eq_self]
      exact hp
    · simp (disch := omega) only [wpY_persist, vy_err, h, nu_01, nu_40, nu_30, nu_20, nu_160, Int32.add_zero, Nat.reduceAdd, nu_m16, nu_16m, nu_m4, nu_4m, nu_m3, nu_3m, nu_m2, nu_2m, nI_1, nu_p2, nu_p3, nu_16p, nu_2p, nI_add, nu_cl, nu_in, Nat.add_zero, nu_l0, nu_l1, nu_l2, nu_l3, nu_l4, nu_i0_5, nu_i1_5, nu_i2_5, nu_i0_3, nu_i1_3, nu_i2_3, nu_n0, nu_n1, nu_na0, nu_na1, forall_eq, true_implies, false_implies, implies_true, not_true_eq_false, not_false_eq_true, and_true, true_and, and_self, true_or, or_true, false_or, or_false, false_and, and_false, eq_self]
      exact hp
