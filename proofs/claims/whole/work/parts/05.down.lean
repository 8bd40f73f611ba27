noncomputable def rm_i (P : Prop) (a b : Int32) : Int32 := @ite Int32 P (Classical.propDecidable P) a b
theorem rm_t {P : Prop} {a b : Int32} (h : P) : rm_i P a b = a := by unfold rm_i; rw [if_pos h]
theorem rm_f {P : Prop} {a b : Int32} (h : ¬ P) : rm_i P a b = b := by unfold rm_i; rw [if_neg h]
def rm_d (s : Nat) (D : Nat → Prop) (e : Nat) : Prop := 16 * s ≤ e ∧ e < 16 * s + 16 ∧ D (e - 16 * s)
theorem rm_dk {s k : Nat} {D : Nat → Prop} (hk : k < 16) : rm_d s D (16 * s + k) ↔ D k := by
  unfold rm_d
  rw [Nat.add_sub_cancel_left]
  exact ⟨fun h => h.2.2, fun h => ⟨by omega, by omega, h⟩⟩
theorem rm_dn {s : Nat} {D : Nat → Prop} {e : Nat} (h : rm_d s D e) : ∃ k, k < 16 ∧ e = 16 * s + k ∧ D k :=
  ⟨e - 16 * s, by have := h.1; have := h.2.1; omega, by have := h.1; omega, h.2.2⟩
/-- the kinds, cells and versions when those of D have been changed -/
noncomputable def rm_st (s : Nat) (D : Nat → Prop) (st : Nat → Int32) : Nat → Int32 := fun e => rm_i (rm_d s D e) (if st e = 2 then 1 else 5) (st e)
noncomputable def rm_en (s : Nat) (D : Nat → Prop) (st : Nat → Int32) (w : Nat → Nat → Int32) (en : Nat → Int32) : Nat → Int32 := fun i => rm_i (rm_d s D (i / 4) ∧ (st (i / 4) = 0 ∨ st (i / 4) = 3)) (w (i / 4 - 16 * s) (i % 4)) (en i)
noncomputable def rm_nw (s : Nat) (D : Nat → Prop) (st : Nat → Int32) (w : Nat → Nat → Int32) (nw : Nat → Int32) : Nat → Int32 := fun i => rm_i (rm_d s D (i / 3) ∧ (st (i / 3) = 0 ∨ st (i / 3) = 3)) (w (i / 3 - 16 * s) (i % 3)) (nw i)
noncomputable def rm_ve (s : Nat) (D : Nat → Prop) (st : Nat → Int32) (w : Nat → Nat → Int32) (ve : Nat → Int32) : Nat → Int32 := fun e => rm_i (rm_d s D e ∧ (st e = 0 ∨ st e = 3)) (w (e - 16 * s) 3) (ve e)
theorem rm_enc {s e c : Nat} {D : Nat → Prop} {st en : Nat → Int32} {w : Nat → Nat → Int32} (hc : c < 4) : rm_en s D st w en (4 * e + c) = rm_i (rm_d s D e ∧ (st e = 0 ∨ st e = 3)) (w (e - 16 * s) c) (en (4 * e + c)) := by
  unfold rm_en
  rw [show (4 * e + c) / 4 = e by omega, show (4 * e + c) % 4 = c by omega]
theorem rm_nwc {s e c : Nat} {D : Nat → Prop} {st nw : Nat → Int32} {w : Nat → Nat → Int32} (hc : c < 3) : rm_nw s D st w nw (3 * e + c) = rm_i (rm_d s D e ∧ (st e = 0 ∨ st e = 3)) (w (e - 16 * s) c) (nw (3 * e + c)) := by
  unfold rm_nw
  rw [show (3 * e + c) / 3 = e by omega, show (3 * e + c) % 3 = c by omega]
theorem rm_st0 (s : Nat) (st : Nat → Int32) : rm_st s (fun _ => False) st = st := by
  funext e
  exact rm_f (fun h => h.2.2)
theorem rm_en0 (s : Nat) (st en : Nat → Int32) (w : Nat → Nat → Int32) : rm_en s (fun _ => False) st w en = en := by
  funext e
  exact rm_f (fun h => h.1.2.2)
theorem rm_nw0 (s : Nat) (st en : Nat → Int32) (w : Nat → Nat → Int32) : rm_nw s (fun _ => False) st w en = en := by
  funext e
  exact rm_f (fun h => h.1.2.2)
theorem rm_ve0 (s : Nat) (st en : Nat → Int32) (w : Nat → Nat → Int32) : rm_ve s (fun _ => False) st w en = en := by
  funext e
  exact rm_f (fun h => h.1.2.2)
/-- the same set, the same state -/
theorem rm_D {s : Nat} {D E : Nat → Prop} (h : ∀ k, k < 16 → (D k ↔ E k)) (e : Nat) : rm_d s D e ↔ rm_d s E e := by
  unfold rm_d
  refine ⟨fun q => ⟨q.1, q.2.1, (h _ (by have := q.2.1; have := q.1; omega)).mp q.2.2⟩, fun q => ⟨q.1, q.2.1, (h _ (by have := q.2.1; have := q.1; omega)).mpr q.2.2⟩⟩
theorem rm_stE {s : Nat} {D E : Nat → Prop} (h : ∀ k, k < 16 → (D k ↔ E k)) (st : Nat → Int32) : rm_st s D st = rm_st s E st := by
  funext e
  unfold rm_st
  rw [propext (rm_D h e)]
theorem rm_enE {s : Nat} {D E : Nat → Prop} (h : ∀ k, k < 16 → (D k ↔ E k)) (st en : Nat → Int32) (w : Nat → Nat → Int32) : rm_en s D st w en = rm_en s E st w en := by
  funext e
  unfold rm_en
  rw [propext (rm_D h _)]
theorem rm_nwE {s : Nat} {D E : Nat → Prop} (h : ∀ k, k < 16 → (D k ↔ E k)) (st en : Nat → Int32) (w : Nat → Nat → Int32) : rm_nw s D st w en = rm_nw s E st w en := by
  funext e
  unfold rm_nw
  rw [propext (rm_D h _)]
theorem rm_veE {s : Nat} {D E : Nat → Prop} (h : ∀ k, k < 16 → (D k ↔ E k)) (st en : Nat → Int32) (w : Nat → Nat → Int32) : rm_ve s D st w en = rm_ve s E st w en := by
  funext e
  unfold rm_ve
  rw [propext (rm_D h _)]
/-- one more is changed -/
theorem rm_dp {s k : Nat} {D E : Nat → Prop} (hk : k < 16) (hE : ∀ j, j < 16 → (E j ↔ D j ∨ j = k)) (e : Nat) : rm_d s E e ↔ rm_d s D e ∨ e = 16 * s + k := by
  constructor
  · intro h
    obtain ⟨j, hj, rfl, hd⟩ := rm_dn h
    rcases (hE j hj).mp hd with q | q
    · exact Or.inl ((rm_dk hj).mpr q)
    · exact Or.inr (by rw [q])
  · intro h
    rcases h with h | h
    · obtain ⟨j, hj, rfl, hd⟩ := rm_dn h
      exact (rm_dk hj).mpr ((hE j hj).mpr (Or.inl hd))
    · rw [h]
      exact (rm_dk hk).mpr ((hE k hk).mpr (Or.inr rfl))
theorem rm_ii {P Q : Prop} {a b : Int32} (h : P ↔ Q) : rm_i P a b = rm_i Q a b := by rw [propext h]
theorem rm_stp {s k : Nat} {D E : Nat → Prop} {st : Nat → Int32} (hk : k < 16) (hE : ∀ j, j < 16 → (E j ↔ D j ∨ j = k)) : rm_st s E st = upd (rm_st s D st) (16 * s + k) (if st (16 * s + k) = 2 then 1 else 5) := by
  funext e
  by_cases q : e = 16 * s + k
  · subst q
    rw [pk_us]
    exact rm_t ((rm_dp hk hE _).mpr (Or.inr rfl))
  · rw [pk_un q]
    exact rm_ii ⟨fun h => ((rm_dp hk hE _).mp h).resolve_right q, fun h => (rm_dp hk hE _).mpr (Or.inl h)⟩
theorem rm_enk {s k : Nat} {D E : Nat → Prop} {st en : Nat → Int32} {w : Nat → Nat → Int32} (hk : k < 16) (hE : ∀ j, j < 16 → (E j ↔ D j ∨ j = k)) (h : ¬ (st (16 * s + k) = 0 ∨ st (16 * s + k) = 3)) : rm_en s E st w en = rm_en s D st w en := by
  funext i
  refine rm_ii ⟨fun q => ⟨((rm_dp hk hE _).mp q.1).resolve_right (fun e => h (e ▸ q.2)), q.2⟩, fun q => ⟨(rm_dp hk hE _).mpr (Or.inl q.1), q.2⟩⟩
theorem rm_nwk {s k : Nat} {D E : Nat → Prop} {st en : Nat → Int32} {w : Nat → Nat → Int32} (hk : k < 16) (hE : ∀ j, j < 16 → (E j ↔ D j ∨ j = k)) (h : ¬ (st (16 * s + k) = 0 ∨ st (16 * s + k) = 3)) : rm_nw s E st w en = rm_nw s D st w en := by
  funext i
  refine rm_ii ⟨fun q => ⟨((rm_dp hk hE _).mp q.1).resolve_right (fun e => h (e ▸ q.2)), q.2⟩, fun q => ⟨(rm_dp hk hE _).mpr (Or.inl q.1), q.2⟩⟩
theorem rm_vek {s k : Nat} {D E : Nat → Prop} {st en : Nat → Int32} {w : Nat → Nat → Int32} (hk : k < 16) (hE : ∀ j, j < 16 → (E j ↔ D j ∨ j = k)) (h : ¬ (st (16 * s + k) = 0 ∨ st (16 * s + k) = 3)) : rm_ve s E st w en = rm_ve s D st w en := by
  funext i
  refine rm_ii ⟨fun q => ⟨((rm_dp hk hE _).mp q.1).resolve_right (fun e => h (e ▸ q.2)), q.2⟩, fun q => ⟨(rm_dp hk hE _).mpr (Or.inl q.1), q.2⟩⟩
theorem rm_enm {s k : Nat} {D E : Nat → Prop} {st en : Nat → Int32} {w : Nat → Nat → Int32} (hk : k < 16) (hE : ∀ j, j < 16 → (E j ↔ D j ∨ j = k)) (h : st (16 * s + k) = 0 ∨ st (16 * s + k) = 3) :
    rm_en s E st w en = upd (upd (upd (upd (rm_en s D st w en) (4 * (16 * s + k)) (w k 0)) (4 * (16 * s + k) + 1) (w k 1)) (4 * (16 * s + k) + 2) (w k 2)) (4 * (16 * s + k) + 3) (w k 3) := by
  funext i
  by_cases q : i / 4 = 16 * s + k
  · have hit : rm_en s E st w en i = w k (i % 4) := by
      unfold rm_en
      rw [rm_t ⟨(rm_dp hk hE _).mpr (Or.inr q), by rw [q]; exact h⟩, q, Nat.add_sub_cancel_left]
    rw [hit]
    rcases (show i % 4 = 0 ∨ i % 4 = 1 ∨ i % 4 = 2 ∨ i % 4 = 3 by omega) with r | r | r | r
    · rw [show i = 4 * (16 * s + k) by omega, pk_un (by omega), pk_un (by omega), pk_un (by omega), pk_us, show 4 * (16 * s + k) % 4 = 0 by omega]
    · rw [show i = 4 * (16 * s + k) + 1 by omega, pk_un (by omega), pk_un (by omega), pk_us, show (4 * (16 * s + k) + 1) % 4 = 1 by omega]
    · rw [show i = 4 * (16 * s + k) + 2 by omega, pk_un (by omega), pk_us, show (4 * (16 * s + k) + 2) % 4 = 2 by omega]
    · rw [show i = 4 * (16 * s + k) + 3 by omega, pk_us, show (4 * (16 * s + k) + 3) % 4 = 3 by omega]
  · rw [pk_un (by omega), pk_un (by omega), pk_un (by omega), pk_un (by omega)]
    exact rm_ii ⟨fun z => ⟨((rm_dp hk hE _).mp z.1).resolve_right q, z.2⟩, fun z => ⟨(rm_dp hk hE _).mpr (Or.inl z.1), z.2⟩⟩
theorem rm_nwm {s k : Nat} {D E : Nat → Prop} {st en : Nat → Int32} {w : Nat → Nat → Int32} (hk : k < 16) (hE : ∀ j, j < 16 → (E j ↔ D j ∨ j = k)) (h : st (16 * s + k) = 0 ∨ st (16 * s + k) = 3) :
    rm_nw s E st w en = upd (upd (upd (rm_nw s D st w en) (3 * (16 * s + k)) (w k 0)) (3 * (16 * s + k) + 1) (w k 1)) (3 * (16 * s + k) + 2) (w k 2) := by
  funext i
  by_cases q : i / 3 = 16 * s + k
  · have hit : rm_nw s E st w en i = w k (i % 3) := by
      unfold rm_nw
      rw [rm_t ⟨(rm_dp hk hE _).mpr (Or.inr q), by rw [q]; exact h⟩, q, Nat.add_sub_cancel_left]
    rw [hit]
    rcases (show i % 3 = 0 ∨ i % 3 = 1 ∨ i % 3 = 2 by omega) with r | r | r
    · rw [show i = 3 * (16 * s + k) by omega, pk_un (by omega), pk_un (by omega), pk_us, show 3 * (16 * s + k) % 3 = 0 by omega]
    · rw [show i = 3 * (16 * s + k) + 1 by omega, pk_un (by omega), pk_us, show (3 * (16 * s + k) + 1) % 3 = 1 by omega]
    · rw [show i = 3 * (16 * s + k) + 2 by omega, pk_us, show (3 * (16 * s + k) + 2) % 3 = 2 by omega]
  · rw [pk_un (by omega), pk_un (by omega), pk_un (by omega)]
    exact rm_ii ⟨fun z => ⟨((rm_dp hk hE _).mp z.1).resolve_right q, z.2⟩, fun z => ⟨(rm_dp hk hE _).mpr (Or.inl z.1), z.2⟩⟩
theorem rm_vem {s k : Nat} {D E : Nat → Prop} {st en : Nat → Int32} {w : Nat → Nat → Int32} (hk : k < 16) (hE : ∀ j, j < 16 → (E j ↔ D j ∨ j = k)) (h : st (16 * s + k) = 0 ∨ st (16 * s + k) = 3) :
    rm_ve s E st w en = upd (rm_ve s D st w en) (16 * s + k) (w k 3) := by
  funext e
  by_cases q : e = 16 * s + k
  · subst q
    rw [pk_us]
    unfold rm_ve
    rw [rm_t ⟨(rm_dp hk hE _).mpr (Or.inr rfl), h⟩, Nat.add_sub_cancel_left]
  · rw [pk_un q]
    exact rm_ii ⟨fun z => ⟨((rm_dp hk hE _).mp z.1).resolve_right q, z.2⟩, fun z => ⟨(rm_dp hk hE _).mpr (Or.inl z.1), z.2⟩⟩
/-- the clauses of the relation when those of D have been changed -/
theorem rm_K {s : Nat} {D : Nat → Prop} {st : Nat → Int32} (h : re_K st) : re_K (rm_st s D st) := by
  intro e
  by_cases q : rm_d s D e
  · unfold rm_st
    rw [rm_t q]
    split
    · exact Or.inr (Or.inl rfl)
    · exact Or.inr (Or.inr (Or.inr (Or.inr (Or.inr rfl))))
  · unfold rm_st
    rw [rm_f q]
    exact h e
theorem rm_E {s : Nat} {D : Nat → Prop} {st en : Nat → Int32} {w : Nat → Nat → Int32} (h : re_E en) (hw : ∀ k, k < 16 → re_L (w k 2)) : re_E (rm_en s D st w en) := by
  intro e he
  rw [rm_enc (by decide)]
  by_cases q : rm_d s D e ∧ (st e = 0 ∨ st e = 3)
  · rw [rm_t q]
    exact hw _ (by have := q.1.1; have := q.1.2.1; omega)
  · rw [rm_f q]
    exact h e he
theorem rm_N {s : Nat} {D : Nat → Prop} {st en nw : Nat → Int32} {w : Nat → Nat → Int32} (h : re_N st en nw) : re_N (rm_st s D st) (rm_en s D st w en) (rm_nw s D st w nw) := by
  intro e he h0 h3 c hc
  rw [rm_enc (by omega), rm_nwc hc]
  by_cases q : rm_d s D e ∧ (st e = 0 ∨ st e = 3)
  · rw [rm_t q, rm_t q]
  · rw [rm_f q, rm_f q]
    by_cases z : rm_d s D e
    · exact h e he (fun y => q ⟨z, Or.inl y⟩) (fun y => q ⟨z, Or.inr y⟩) c hc
    · have y : rm_st s D st e = st e := rm_f z
      rw [y] at h0 h3
      exact h e he h0 h3 c hc
theorem rm_S {s : Nat} {D : Nat → Prop} {st sn bf : Nat → Int32} {w : Nat → Nat → Int32} (h : re_S sn bf) : re_S (rm_en s D st w sn) (rm_nw s D st w bf) := by
  intro e he c hc
  rw [rm_enc (by omega), rm_nwc hc]
  by_cases q : rm_d s D e ∧ (st e = 0 ∨ st e = 3)
  · rw [rm_t q, rm_t q]
  · rw [rm_f q, rm_f q]
    exact h e he c hc
theorem rm_V {s : Nat} {D : Nat → Prop} {st sn ve : Nat → Int32} {w : Nat → Nat → Int32} (h : re_V st sn ve) (hD : ∀ k, k < 16 → D k → ¬ st (16 * s + k) = 1 ∧ ¬ st (16 * s + k) = 5) (hK : re_K st) : re_V (rm_st s D st) (rm_en s D st w sn) (rm_ve s D st w ve) := by
  intro e he h4
  rw [rm_enc (by decide)]
  unfold rm_ve
  by_cases q : rm_d s D e ∧ (st e = 0 ∨ st e = 3)
  · rw [rm_t q, rm_t q]
  · rw [rm_f q, rm_f q]
    by_cases z : rm_d s D e
    · have y : rm_st s D st e = if st e = 2 then 1 else 5 := rm_t z
      rw [y] at h4
      obtain ⟨k, hk, rfl, hd⟩ := rm_dn z
      have hd' := hD k hk hd
      refine h _ he ?_
      rcases hK (16 * s + k) with a | a | a | a | a | a
      · exact absurd ⟨z, Or.inl a⟩ q
      · exact absurd a hd'.1
      · rw [if_pos a] at h4
        exact absurd h4 (by decide)
      · exact absurd ⟨z, Or.inr a⟩ q
      · exact Or.inl a
      · exact absurd a hd'.2
    · have y : rm_st s D st e = st e := rm_f z
      rw [y] at h4
      exact h e he h4
/-- the closure from a key, reached in any order -/
def rm_Cl (key : Nat) (tg : Nat → Nat → Prop) (rem : Nat → Prop) (Q : Nat → Prop) : Prop := Q key ∧ ∀ k t, k < 16 → t < 16 → Q t → tg k t → rem k → Q k
def rm_I (key : Nat) (tg : Nat → Nat → Prop) (rem : Nat → Prop) (P Q : Nat → Prop) : Prop :=
  (∀ C, rm_Cl key tg rem C → ∀ k, k < 16 → Q k → C k) ∧ (∀ k, k < 16 → P k → Q k) ∧ (∀ k, k < 16 → (Q k ↔ k = key ∨ (rem k ∧ ∃ t, t < 16 ∧ P t ∧ tg k t)))
theorem rm_I0 {key : Nat} {tg : Nat → Nat → Prop} {rem : Nat → Prop} : rm_I key tg rem (fun _ => False) (fun k => k = key) := by
  refine ⟨?_, ?_, ?_⟩
  · intro C hC k _ hq
    rw [hq]
    exact hC.1
  · intro k _ h
    exact h.elim
  · intro k _
    refine ⟨Or.inl, ?_⟩
    intro h
    rcases h with h | ⟨_, t, _, h, _⟩
    · exact h
    · exact h.elim
theorem rm_Is {key t0 : Nat} {tg : Nat → Nat → Prop} {rem P Q : Nat → Prop} (h : rm_I key tg rem P Q) (ht : t0 < 16) (hq : Q t0) : rm_I key tg rem (fun k => P k ∨ k = t0) (fun k => Q k ∨ (rem k ∧ tg k t0)) := by
  obtain ⟨h1, h2, h3⟩ := h
  refine ⟨?_, ?_, ?_⟩
  · intro C hC k hk q
    rcases q with q | q
    · exact h1 C hC k hk q
    · exact hC.2 k t0 hk ht (h1 C hC t0 ht hq) q.2 q.1
  · intro k hk q
    rcases q with q | q
    · exact Or.inl (h2 k hk q)
    · rw [q]
      exact Or.inl hq
  · intro k hk
    constructor
    · intro q
      rcases q with q | q
      · rcases (h3 k hk).mp q with z | ⟨z, t, a, b, c⟩
        · exact Or.inl z
        · exact Or.inr ⟨z, t, a, Or.inl b, c⟩
      · exact Or.inr ⟨q.1, t0, ht, Or.inr rfl, q.2⟩
    · intro q
      rcases q with q | ⟨z, t, a, b | b, c⟩
      · exact Or.inl ((h3 k hk).mpr (Or.inl q))
      · exact Or.inl ((h3 k hk).mpr (Or.inr ⟨z, t, a, b, c⟩))
      · rw [b] at c
        exact Or.inr ⟨z, c⟩
theorem rm_Ic {key : Nat} {tg : Nat → Nat → Prop} {rem P Q : Nat → Prop} (hkey : key < 16) (h : rm_I key tg rem P Q) (he : ∀ k, k < 16 → Q k → P k) : rm_Cl key tg rem (fun k => k < 16 ∧ P k) := by
  refine ⟨⟨hkey, he key hkey ((h.2.2 key hkey).mpr (Or.inl rfl))⟩, ?_⟩
  intro k t hk ht q a b
  exact ⟨hk, he k hk ((h.2.2 k hk).mpr (Or.inr ⟨b, t, ht, q.2, a⟩))⟩
theorem rm_Iu {key : Nat} {tg : Nat → Nat → Prop} {rem P Q P' Q' : Nat → Prop} (hkey : key < 16) (h : rm_I key tg rem P Q) (he : ∀ k, k < 16 → Q k → P k) (h' : rm_I key tg rem P' Q') (he' : ∀ k, k < 16 → Q' k → P' k) : ∀ k, k < 16 → (P k ↔ P' k) := by
  intro k hk
  exact ⟨fun q => (h.1 _ (rm_Ic hkey h' he') k hk (h.2.1 k hk q)).2, fun q => (h'.1 _ (rm_Ic hkey h he) k hk (h'.2.1 k hk q)).2⟩
