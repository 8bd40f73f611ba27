def re_B (f : Nat → Int32) : Prop := ∀ j, f j = 0 ∨ f j = 1
def re_K (st : Nat → Int32) : Prop := ∀ e, st e = 0 ∨ st e = 1 ∨ st e = 2 ∨ st e = 3 ∨ st e = 4 ∨ st e = 5
def re_Q (lk : Nat → Int32) : Prop := ∀ r, lk r = -1 ∨ ∃ s, s < 3 ∧ lk r = nI s
def re_L (x : Int32) : Prop := x = -1 ∨ ∃ j, j < 16 ∧ x = nI j
def re_T (rt wt th : Nat → Int32) : Prop := ∀ k, k < 16 → rt k = th k ∧ wt k = th (16 + k)
def re_C (rc wc ro : Nat → Int32) : Prop := ∀ k, k < 16 → ∀ c, c < 4 → rc (4 * k + c) = ro (4 * k + c) ∧ wc (4 * k + c) = ro (4 * (16 + k) + c)
def re_O (ro : Nat → Int32) : Prop := ∀ j, j < 32 → re_L (ro (4 * j + 2))
def re_E (en : Nat → Int32) : Prop := ∀ e, e < 48 → re_L (en (4 * e + 2))
def re_N (st en nw : Nat → Int32) : Prop := ∀ e, e < 48 → ¬ st e = 0 → ¬ st e = 3 → ∀ c, c < 3 → en (4 * e + c) = nw (3 * e + c)
def re_S (sn bf : Nat → Int32) : Prop := ∀ e, e < 48 → ∀ c, c < 3 → sn (4 * e + c) = bf (3 * e + c)
def re_V (st sn ve : Nat → Int32) : Prop := ∀ e, e < 48 → st e = 4 ∨ st e = 5 → sn (4 * e + 3) = ve e
def re_R (md bk ch lk st rt rc wt wc en sn th ro nw bf ve : Nat → Int32) : Prop :=
  re_B md ∧ re_B bk ∧ re_B ch ∧ re_B th ∧ re_Q lk ∧ re_K st ∧ re_T rt wt th ∧ re_C rc wc ro ∧ re_O ro ∧ re_E en ∧ re_N st en nw ∧ re_S sn bf ∧ re_V st sn ve
def re_P (n : Nat) (sk sr sm : Nat → Int32) : Prop := ∀ k, k < n → sk k = sm (2 * k) ∧ sr k = sm (2 * k + 1)
theorem re_Bu {f : Nat → Int32} {k : Nat} {x : Int32} (h : re_B f) (hx : x = 0 ∨ x = 1) : re_B (upd f k x) := by
  intro j
  by_cases q : j = k
  · subst q
    rw [pk_us]
    exact hx
  · rw [pk_un q]
    exact h j
theorem re_Bn {f : Nat → Int32} {k : Nat} {x : Int32} (h : re_B f) (hx : x = 0 ∨ x = 1) : re_B (upd f k (vp_nar .boolean x)) := by
  rw [nu_nb hx]
  exact re_Bu h hx
theorem re_Ku {st : Nat → Int32} {e : Nat} {x : Int32} (h : re_K st) (hx : x = 0 ∨ x = 1 ∨ x = 2 ∨ x = 3 ∨ x = 4 ∨ x = 5) : re_K (upd st e x) := by
  intro j
  by_cases q : j = e
  · subst q
    rw [pk_us]
    exact hx
  · rw [pk_un q]
    exact h j
theorem re_Qu {lk : Nat → Int32} {r : Nat} {x : Int32} (h : re_Q lk) (hx : x = -1 ∨ ∃ s, s < 3 ∧ x = nI s) : re_Q (upd lk r x) := by
  intro j
  by_cases q : j = r
  · subst q
    rw [pk_us]
    exact hx
  · rw [pk_un q]
    exact h j
theorem re_Lof {x : Int32} (h0 : ¬ x < -1) (h1 : ¬ 16 ≤ x) : re_L x := by
  by_cases h : x < 0
  · refine Or.inl ?_
    have e1 : (-1 : Int32).toInt = -1 := by decide
    have e0 : (0 : Int32).toInt = 0 := by decide
    have a := Int32.not_lt.mp h0
    rw [Int32.le_iff_toInt_le, e1] at a
    have b := h
    rw [Int32.lt_iff_toInt_lt, e0] at b
    apply Int32.toInt_inj.mp
    rw [e1]
    omega
  · rcases pk_ix x (n := 16) (by decide) with q | q | q
    · exact absurd q h
    · exact absurd q h1
    · exact Or.inr q
/-- a kind is set where the cells' clauses held before -/
theorem re_Nk {st en nw : Nat → Int32} {e : Nat} {x : Int32} (h : re_N st en nw) (hx : x = 0 ∨ x = 3 ∨ (¬ st e = 0 ∧ ¬ st e = 3)) : re_N (upd st e x) en nw := by
  intro j hj h0 h3
  by_cases q : j = e
  · subst q
    rw [pk_us] at h0 h3
    rcases hx with hx | hx | hx
    · exact absurd hx h0
    · exact absurd hx h3
    · exact h j hj hx.1 hx.2
  · rw [pk_un q] at h0 h3
    exact h j hj h0 h3
theorem re_Vk {st sn ve : Nat → Int32} {e : Nat} {x : Int32} (h : re_V st sn ve) (hx : x = 4 ∨ x = 5 → st e = 4 ∨ st e = 5) : re_V (upd st e x) sn ve := by
  intro j hj h4
  by_cases q : j = e
  · subst q
    rw [pk_us] at h4
    exact h j hj (hx h4)
  · rw [pk_un q] at h4
    exact h j hj h4
/-- the version where the kind isn't 4 or 5 is free -/
theorem re_Vf {st sn ve : Nat → Int32} {e : Nat} {x y : Int32} (h : re_V st sn ve) (hx : ¬ (x = 4 ∨ x = 5)) : re_V (upd st e x) sn (upd ve e y) := by
  intro j hj h4
  by_cases q : j = e
  · subst q
    rw [pk_us] at h4
    exact absurd h4 hx
  · rw [pk_un q] at h4 ⊢
    exact h j hj h4
theorem re_Eu {en : Nat → Int32} {e c : Nat} {x : Int32} (h : re_E en) (hc : c < 4) (hx : c = 2 → re_L x) : re_E (upd en (4 * e + c) x) := by
  intro j hj
  by_cases q : 4 * j + 2 = 4 * e + c
  · rw [q, pk_us]
    exact hx (by omega)
  · rw [pk_un q]
    exact h j hj
theorem re_Nu {st en nw : Nat → Int32} {e c : Nat} {x : Int32} (h : re_N st en nw) (hc : c < 3) : re_N st (upd en (4 * e + c) x) (upd nw (3 * e + c) x) := by
  intro j hj h0 h3 d hd
  by_cases q : j = e ∧ d = c
  · rw [q.1, q.2, pk_us, pk_us]
  · rw [pk_un (by omega), pk_un (by omega)]
    exact h j hj h0 h3 d hd
theorem re_Su {sn bf : Nat → Int32} {e c : Nat} {x : Int32} (h : re_S sn bf) (hc : c < 3) : re_S (upd sn (4 * e + c) x) (upd bf (3 * e + c) x) := by
  intro j hj d hd
  by_cases q : j = e ∧ d = c
  · rw [q.1, q.2, pk_us, pk_us]
  · rw [pk_un (by omega), pk_un (by omega)]
    exact h j hj d hd
theorem re_S3 {sn bf : Nat → Int32} {e : Nat} {x : Int32} (h : re_S sn bf) : re_S (upd sn (4 * e + 3) x) bf := by
  intro j hj d hd
  rw [pk_un (by omega)]
  exact h j hj d hd
theorem re_N3 {st en nw : Nat → Int32} {e : Nat} {x : Int32} (h : re_N st en nw) : re_N st (upd en (4 * e + 3) x) nw := by
  intro j hj h0 h3 d hd
  rw [pk_un (by omega)]
  exact h j hj h0 h3 d hd
/-- the cells of one entity are written anew -/
theorem re_Nw {st en nw : Nat → Int32} {e : Nat} {x a b c : Int32} (h : re_N st en nw) : re_N (upd st e x) (upd (upd (upd en (4 * e) a) (4 * e + 1) b) (4 * e + 2) c) (upd (upd (upd nw (3 * e) a) (3 * e + 1) b) (3 * e + 2) c) := by
  intro j hj h0 h3 d hd
  by_cases q : j = e
  · subst q
    rcases (show d = 0 ∨ d = 1 ∨ d = 2 by omega) with rfl | rfl | rfl
    · simp (disch := omega) only [Nat.add_zero, pk_us, pk_un]
    · rw [pk_un (by omega), pk_us, pk_un (by omega), pk_us]
    · rw [pk_us, pk_us]
  · rw [pk_un q] at h0 h3
    rw [pk_un (by omega), pk_un (by omega), pk_un (by omega), pk_un (by omega), pk_un (by omega), pk_un (by omega)]
    exact h j hj h0 h3 d hd
theorem re_Sw {sn bf : Nat → Int32} {e : Nat} {a b c : Int32} (h : re_S sn bf) : re_S (upd (upd (upd sn (4 * e) a) (4 * e + 1) b) (4 * e + 2) c) (upd (upd (upd bf (3 * e) a) (3 * e + 1) b) (3 * e + 2) c) := by
  have h1 := re_Su (e := e) (c := 0) (x := a) h (by decide)
  have h2 := re_Su (e := e) (c := 1) (x := b) h1 (by decide)
  exact re_Su (e := e) (c := 2) (x := c) h2 (by decide)
theorem re_Ew {en : Nat → Int32} {e : Nat} {a b c : Int32} (h : re_E en) (hc : re_L c) : re_E (upd (upd (upd en (4 * e) a) (4 * e + 1) b) (4 * e + 2) c) := by
  have h1 := re_Eu (e := e) (c := 0) (x := a) h (by decide) (fun q => absurd q (by decide))
  have h2 := re_Eu (e := e) (c := 1) (x := b) h1 (by decide) (fun q => absurd q (by decide))
  exact re_Eu (e := e) (c := 2) (x := c) h2 (by decide) (fun _ => hc)
theorem re_Vw {st sn ve : Nat → Int32} {e : Nat} {a b c d : Int32} (h : re_V st sn ve) : re_V (upd st e 4) (upd (upd (upd (upd sn (4 * e) a) (4 * e + 1) b) (4 * e + 2) c) (4 * e + 3) d) (upd ve e d) := by
  intro j hj h4
  by_cases q : j = e
  · subst q
    rw [pk_us, pk_us]
  · rw [pk_un q] at h4
    rw [pk_un (by omega), pk_un (by omega), pk_un (by omega), pk_un (by omega), pk_un q]
    exact h j hj h4
/-- a row's written place -/
theorem re_Tw {rt wt th : Nat → Int32} {k : Nat} {x : Int32} (h : re_T rt wt th) : re_T rt (upd wt k x) (upd th (16 + k) x) := by
  intro j hj
  refine ⟨?_, ?_⟩
  · rw [pk_un (by omega)]
    exact (h j hj).1
  · by_cases q : j = k
    · subst q
      rw [pk_us, pk_us]
    · rw [pk_un q, pk_un (by omega)]
      exact (h j hj).2
theorem re_Tr {rt wt th : Nat → Int32} {k : Nat} {x : Int32} (h : re_T rt wt th) (hk : k < 16) : re_T (upd rt k x) wt (upd th k x) := by
  intro j hj
  refine ⟨?_, ?_⟩
  · by_cases q : j = k
    · subst q
      rw [pk_us, pk_us]
    · rw [pk_un q, pk_un q]
      exact (h j hj).1
  · rw [pk_un (by omega)]
    exact (h j hj).2
theorem re_Cw {rc wc ro : Nat → Int32} {k c : Nat} {x : Int32} (h : re_C rc wc ro) (hc : c < 4) : re_C rc (upd wc (4 * k + c) x) (upd ro (4 * (16 + k) + c) x) := by
  intro j hj d hd
  refine ⟨?_, ?_⟩
  · rw [pk_un (by omega)]
    exact (h j hj d hd).1
  · by_cases q : j = k ∧ d = c
    · rw [q.1, q.2, pk_us, pk_us]
    · rw [pk_un (by omega), pk_un (by omega)]
      exact (h j hj d hd).2
theorem re_Cr {rc wc ro : Nat → Int32} {k c : Nat} {x : Int32} (h : re_C rc wc ro) (hk : k < 16) (hc : c < 4) : re_C (upd rc (4 * k + c) x) wc (upd ro (4 * k + c) x) := by
  intro j hj d hd
  refine ⟨?_, ?_⟩
  · by_cases q : j = k ∧ d = c
    · rw [q.1, q.2, pk_us, pk_us]
    · rw [pk_un (by omega), pk_un (by omega)]
      exact (h j hj d hd).1
  · rw [pk_un (by omega)]
    exact (h j hj d hd).2
theorem re_Ou {ro : Nat → Int32} {k c : Nat} {x : Int32} (h : re_O ro) (hc : c < 4) (hx : c = 2 → re_L x) : re_O (upd ro (4 * k + c) x) := by
  intro j hj
  by_cases q : 4 * j + 2 = 4 * k + c
  · rw [q, pk_us]
    exact hx (by omega)
  · rw [pk_un q]
    exact h j hj
/-- the statements' list grows by one -/
theorem re_Pu {n : Nat} {sk sr sm : Nat → Int32} {x y : Int32} (h : re_P n sk sr sm) : re_P (n + 1) (upd sk n x) (upd sr n y) (upd (upd sm (2 * n) x) (2 * n + 1) y) := by
  intro j hj
  by_cases q : j = n
  · subst q
    refine ⟨?_, ?_⟩
    · rw [pk_us, pk_un (by omega), pk_us]
    · rw [pk_us, pk_us]
  · refine ⟨?_, ?_⟩
    · rw [pk_un q, pk_un (by omega), pk_un (by omega)]
      exact (h j (by omega)).1
    · rw [pk_un q, pk_un (by omega), pk_un (by omega)]
      exact (h j (by omega)).2
theorem re_P0 {sk sr sm : Nat → Int32} : re_P 0 sk sr sm := fun k h => absurd h (Nat.not_lt_zero k)
/-- what a session sees of a row: there or not, a cell -/
def si_t (rt wt lk : Nat → Int32) (s k : Nat) : Int32 := if lk k = nI s then wt k else rt k
def si_c (rc wc lk : Nat → Int32) (s k c : Nat) : Int32 := if lk k = nI s then wc (4 * k + c) else rc (4 * k + c)
def si_f (lk : Nat → Int32) (s k : Nat) : Nat := if lk k = nI s then 16 + k else k
theorem si_ft {rt wt th lk : Nat → Int32} {s k : Nat} (h : re_T rt wt th) (hk : k < 16) : th (si_f lk s k) = si_t rt wt lk s k := by
  unfold si_f si_t
  split
  · exact (h k hk).2.symm
  · exact (h k hk).1.symm
theorem si_fc {rc wc ro lk : Nat → Int32} {s k c : Nat} (h : re_C rc wc ro) (hk : k < 16) (hc : c < 4) : ro (4 * si_f lk s k + c) = si_c rc wc lk s k c := by
  unfold si_f si_c
  split
  · exact (h k hk c hc).2.symm
  · exact (h k hk c hc).1.symm
theorem si_lt (lk : Nat → Int32) {s k : Nat} (hk : k < 16) : si_f lk s k < 32 := by
  unfold si_f
  split <;> omega
theorem si_01 {rt wt th lk : Nat → Int32} {s k : Nat} (h : re_T rt wt th) (hb : re_B th) (hk : k < 16) : si_t rt wt lk s k = 0 ∨ si_t rt wt lk s k = 1 := by
  rw [← si_ft h hk]
  exact hb _
theorem si_L {rc wc ro lk : Nat → Int32} {s k : Nat} (h : re_C rc wc ro) (ho : re_O ro) (hk : k < 16) : re_L (si_c rc wc lk s k 2) := by
  rw [← si_fc h hk (by decide)]
  exact ho _ (si_lt lk hk)
/-- dirty: a managed one whose cells differ -/
def di_P (st en sn : Nat → Int32) (e : Nat) : Prop := st e = 4 ∧ ¬ (en (4 * e) = sn (4 * e) ∧ en (4 * e + 1) = sn (4 * e + 1) ∧ en (4 * e + 2) = sn (4 * e + 2))
noncomputable def di_v (P : Prop) : Int32 := @ite Int32 P (Classical.propDecidable P) 1 0
theorem di_t {P : Prop} (h : P) : di_v P = 1 := by unfold di_v; rw [if_pos h]
theorem di_f {P : Prop} (h : ¬ P) : di_v P = 0 := by unfold di_v; rw [if_neg h]
theorem di_01 (P : Prop) : di_v P = 0 ∨ di_v P = 1 := by
  by_cases h : P
  · exact Or.inr (di_t h)
  · exact Or.inl (di_f h)
theorem di_z {P : Prop} : di_v P = 0 ↔ ¬ P := by
  refine ⟨fun h p => ?_, di_f⟩
  rw [di_t p] at h
  exact absurd h (by decide)
