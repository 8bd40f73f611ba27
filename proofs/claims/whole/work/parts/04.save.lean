/-- a chain of TRANSIENT ones becomes NEW -/
def sv_ch (s : Nat) (g : Nat → Int32) : Nat → (Nat → Int32) → Int32 → (Nat → Int32)
  | 0, st, _ => st
  | n + 1, st, x => if x < 0 then st else if st (16 * s + x.toNatClampNeg) = 1 then sv_ch s g n (upd st (16 * s + x.toNatClampNeg) 2) (g x.toNatClampNeg) else st
theorem sv_chm (s : Nat) (g : Nat → Int32) (n : Nat) (st : Nat → Int32) : sv_ch s g (n + 1) st (-1) = st := by
  rw [sv_ch, if_pos (by decide)]
theorem sv_ch1 {s : Nat} {g : Nat → Int32} {n l : Nat} {st : Nat → Int32} (hl : l < 16) (h : st (16 * s + l) = 1) : sv_ch s g (n + 1) st (nI l) = sv_ch s g n (upd st (16 * s + l) 2) (g l) := by
  rw [sv_ch, if_neg (nI_pos (by omega)), nI_clamp (by omega), if_pos h]
theorem sv_ch0 {s : Nat} {g : Nat → Int32} {n l : Nat} {st : Nat → Int32} (hl : l < 16) (h : ¬ st (16 * s + l) = 1) : sv_ch s g (n + 1) st (nI l) = st := by
  rw [sv_ch, if_neg (nI_pos (by omega)), nI_clamp (by omega), if_neg h]
noncomputable def sv_1 (s : Nat) (st : Nat → Int32) : Nat := cn_n (fun j => st (16 * s + j) = 1) 16
theorem sv_1u {s l : Nat} {st : Nat → Int32} (hl : l < 16) (h : st (16 * s + l) = 1) : sv_1 s (upd st (16 * s + l) 2) < sv_1 s st := by
  refine cn_lt (a := l) ?_ h ?_ hl
  · rw [pk_us]
    decide
  · intro k _ hk
    by_cases q : k = l
    · subst q
      exact h
    · rw [pk_un (by omega)] at hk
      exact hk
theorem sv_10 {s : Nat} {st : Nat → Int32} (h : sv_1 s st = 0) : ∀ l, l < 16 → ¬ st (16 * s + l) = 1 := cn_0 h
def sv_X (s : Nat) (st0 st : Nat → Int32) : Prop := ∀ e, st e = st0 e ∨ (st0 e = 1 ∧ st e = 2 ∧ ∃ j, j < 16 ∧ e = 16 * s + j)
def sv_C (s : Nat) (D : Nat → Prop) (g st : Nat → Int32) : Prop := ∀ j, j < 16 → (st (16 * s + j) = 2 ∨ D j) → ∀ l, l < 16 → g j = nI l → ¬ st (16 * s + l) = 1
def sv_M (s : Nat) (D : Nat → Prop) (g st0 st : Nat → Int32) : Prop := ∀ st', sv_X s st0 st' → sv_C s D g st' → ∀ e, st e = 2 → st' e = 2
theorem sv_uniq {s : Nat} {D : Nat → Prop} {g st0 a b : Nat → Int32} (xa : sv_X s st0 a) (ca : sv_C s D g a) (ma : sv_M s D g st0 a) (xb : sv_X s st0 b) (cb : sv_C s D g b) (mb : sv_M s D g st0 b) : a = b := by
  funext e
  by_cases h : a e = 2
  · rw [h, ma b xb cb e h]
  · have hb : ¬ b e = 2 := fun q => h (mb a xa ca e q)
    rcases xa e with p | p
    · rcases xb e with q | q
      · rw [p, q]
      · exact absurd q.2.1 hb
    · exact absurd p.2.1 h
theorem sv_X0 (s : Nat) (st : Nat → Int32) : sv_X s st st := fun _ => Or.inl rfl
theorem sv_M0 (s : Nat) (D : Nat → Prop) (g st : Nat → Int32) : sv_M s D g st st := by
  intro st' x _ e h
  rcases x e with p | p
  · rw [p, h]
  · exact p.2.1
/-- one TRANSIENT one becomes NEW that every closed state has as NEW -/
theorem sv_X1 {s l : Nat} {st0 st : Nat → Int32} (x : sv_X s st0 st) (hl : l < 16) (h : st (16 * s + l) = 1) : sv_X s st0 (upd st (16 * s + l) 2) := by
  intro e
  by_cases q : e = 16 * s + l
  · subst q
    rw [pk_us]
    rcases x (16 * s + l) with p | p
    · exact Or.inr ⟨by rw [← p, h], rfl, l, hl, rfl⟩
    · exact Or.inr ⟨p.1, rfl, l, hl, rfl⟩
  · rw [pk_un q]
    exact x e
theorem sv_M1 {s l : Nat} {D : Nat → Prop} {g st0 st : Nat → Int32} (m : sv_M s D g st0 st) (x : sv_X s st0 st) (h : st (16 * s + l) = 1) (hf : ∀ st', sv_X s st0 st' → sv_C s D g st' → ¬ st' (16 * s + l) = 1) : sv_M s D g st0 (upd st (16 * s + l) 2) := by
  intro st' x' c' e he
  by_cases q : e = 16 * s + l
  · subst q
    have h1 := hf st' x' c'
    rcases x' (16 * s + l) with p | p
    · rcases x (16 * s + l) with r | r
      · exact absurd (by rw [p, ← r, h]) h1
      · exact absurd (by rw [p, r.1]) h1
    · exact p.2.1
  · rw [pk_un q] at he
    exact m st' x' c' e he
/-- the dirty ones stay the dirty ones -/
theorem sv_D {s : Nat} {st0 st en sn : Nat → Int32} (x : sv_X s st0 st) (e : Nat) : di_P st en sn e ↔ di_P st0 en sn e := by
  unfold di_P
  rcases x e with p | p
  · rw [p]
  · rw [p.1, p.2.1]
    refine ⟨fun h => absurd h.1 (by decide), fun h => absurd h.1 (by decide)⟩
theorem sv_chain {s : Nat} {D : Nat → Prop} {g st0 : Nat → Int32} (hg : ∀ j, j < 16 → re_L (g j)) : ∀ (n : Nat) (st : Nat → Int32) (x : Int32), re_L x → sv_X s st0 st → sv_M s D g st0 st → sv_1 s st ≤ n →
    (∀ l, l < 16 → x = nI l → ∀ st', sv_X s st0 st' → sv_C s D g st' → ¬ st' (16 * s + l) = 1) →
    sv_X s st0 (sv_ch s g n st x) ∧ sv_M s D g st0 (sv_ch s g n st x) ∧ (∀ e, sv_ch s g n st x e = st e ∨ (st e = 1 ∧ sv_ch s g n st x e = 2)) ∧ (∀ l, l < 16 → x = nI l → ¬ sv_ch s g n st x (16 * s + l) = 1) ∧
    (∀ j, j < 16 → sv_ch s g n st x (16 * s + j) = 2 → ¬ st (16 * s + j) = 2 → ∀ l, l < 16 → g j = nI l → ¬ sv_ch s g n st x (16 * s + l) = 1) := by
  intro n
  induction n with
  | zero =>
    intro st x _ hx hm h1 _
    have h0 := sv_10 (s := s) (st := st) (by omega)
    exact ⟨hx, hm, fun e => Or.inl rfl, fun l hl _ => h0 l hl, fun j _ a b => absurd a b⟩
  | succ n ih =>
    intro st x hL hx hm h1 hf
    rcases hL with rfl | ⟨l, hl, rfl⟩
    · rw [sv_chm]
      exact ⟨hx, hm, fun e => Or.inl rfl, fun l hl q => absurd q (by rw [nu_men (by omega)]; exact id), fun j _ a b => absurd a b⟩
    · by_cases h : st (16 * s + l) = 1
      · rw [sv_ch1 hl h]
        have hx1 := sv_X1 hx hl h
        have hm1 := sv_M1 hm hx h (hf l hl rfl)
        have hc1 := sv_1u hl h
        have hf1 : ∀ l', l' < 16 → g l = nI l' → ∀ st', sv_X s st0 st' → sv_C s D g st' → ¬ st' (16 * s + l') = 1 := by
          intro l' hl' hg' st' x' c'
          have h2 : st' (16 * s + l) = 2 := hm1 st' x' c' (16 * s + l) pk_us
          exact c' l hl (Or.inl h2) l' hl' hg'
        obtain ⟨a1, a2, a3, a4, a5⟩ := ih (upd st (16 * s + l) 2) (g l) (hg l hl) hx1 hm1 (by omega) hf1
        refine ⟨a1, a2, ?_, ?_, ?_⟩
        · intro e
          rcases a3 e with p | p
          · by_cases q : e = 16 * s + l
            · subst q
              rw [pk_us] at p
              exact Or.inr ⟨h, p⟩
            · rw [pk_un q] at p
              exact Or.inl p
          · by_cases q : e = 16 * s + l
            · subst q
              exact Or.inr ⟨h, p.2⟩
            · rw [pk_un q] at p
              exact Or.inr p
        · intro l' hl' q
          have e : l = l' := (nI_eq (by omega) (by omega)).mp q
          subst e
          rcases a3 (16 * s + l) with p | p
          · rw [p, pk_us]
            decide
          · rw [p.2]
            decide
        · intro j hj q1 q2 l' hl' q3
          by_cases e : j = l
          · subst e
            exact a4 l' hl' q3
          · refine a5 j hj q1 ?_ l' hl' q3
            rw [pk_un (by omega)]
            exact q2
      · rw [sv_ch0 hl h]
        refine ⟨hx, hm, fun e => Or.inl rfl, ?_, fun j _ a b => absurd a b⟩
        intro l' hl' q
        have e : l = l' := (nI_eq (by omega) (by omega)).mp q
        subst e
        exact h
/-- the component's one pass with chains -/
def sv_I (s : Nat) (D : Nat → Prop) (g st0 : Nat → Int32) (i : Nat) (st : Nat → Int32) : Prop :=
  sv_X s st0 st ∧ sv_M s D g st0 st ∧ ∀ j, j < 16 → ((j < i ∧ (st (16 * s + j) = 2 ∨ D j)) ∨ (st (16 * s + j) = 2 ∧ ¬ st0 (16 * s + j) = 2)) → ∀ l, l < 16 → g j = nI l → ¬ st (16 * s + l) = 1
theorem sv_I0 (s : Nat) (D : Nat → Prop) (g st0 : Nat → Int32) : sv_I s D g st0 0 st0 := by
  refine ⟨sv_X0 s st0, sv_M0 s D g st0, ?_⟩
  intro j _ h
  rcases h with h | h
  · omega
  · exact absurd h.1 h.2
theorem sv_Ie {s : Nat} {D : Nat → Prop} {g st0 st : Nat → Int32} (h : sv_I s D g st0 16 st) : sv_C s D g st := fun j hj w => h.2.2 j hj (Or.inl ⟨hj, w⟩)
theorem sv_In {s i : Nat} {D : Nat → Prop} {g st0 st : Nat → Int32} (h : sv_I s D g st0 i st) (hn : (st (16 * s + i) = 2 ∨ D i) → ∀ l, l < 16 → g i = nI l → ¬ st (16 * s + l) = 1) : sv_I s D g st0 (i + 1) st := by
  refine ⟨h.1, h.2.1, ?_⟩
  intro j hj w
  by_cases q : j = i
  · subst q
    rcases w with w | w
    · exact hn w.2
    · exact hn (Or.inl w.1)
  · refine h.2.2 j hj ?_
    rcases w with w | w
    · exact Or.inl ⟨by omega, w.2⟩
    · exact Or.inr w
theorem sv_Is {s i : Nat} {D : Nat → Prop} {g st0 st : Nat → Int32} (hg : ∀ j, j < 16 → re_L (g j)) (hi : i < 16) (h : sv_I s D g st0 i st) (hw : st (16 * s + i) = 2 ∨ D i) : sv_I s D g st0 (i + 1) (sv_ch s g 16 st (g i)) := by
  have h16 : sv_1 s st ≤ 16 := cn_le _ 16
  have hf : ∀ l, l < 16 → g i = nI l → ∀ st', sv_X s st0 st' → sv_C s D g st' → ¬ st' (16 * s + l) = 1 := by
    intro l hl hgl st' x' c'
    refine c' i hi ?_ l hl hgl
    rcases hw with w | w
    · exact Or.inl (h.2.1 st' x' c' _ w)
    · exact Or.inr w
  obtain ⟨a1, a2, a3, a4, a5⟩ := sv_chain hg 16 st (g i) (hg i hi) h.1 h.2.1 h16 hf
  refine ⟨a1, a2, ?_⟩
  intro j hj w l hl hgl
  by_cases n2 : sv_ch s g 16 st (g i) (16 * s + j) = 2 ∧ ¬ st (16 * s + j) = 2
  · exact a5 j hj n2.1 n2.2 l hl hgl
  · by_cases q : j = i
    · subst q
      exact a4 l hl hgl
    · have keep : ¬ st (16 * s + l) = 1 → ¬ sv_ch s g 16 st (g i) (16 * s + l) = 1 := by
        intro z
        rcases a3 (16 * s + l) with p | p
        · rw [p]
          exact z
        · exact absurd p.1 z
      refine keep (h.2.2 j hj ?_ l hl hgl)
      have h2 : sv_ch s g 16 st (g i) (16 * s + j) = 2 → st (16 * s + j) = 2 := fun z => Classical.byContradiction fun y => n2 ⟨z, y⟩
      rcases w with w | w
      · rcases w.2 with v | v
        · exact Or.inl ⟨by omega, Or.inl (h2 v)⟩
        · exact Or.inl ⟨by omega, Or.inr v⟩
      · exact Or.inr ⟨h2 w.1, w.2⟩
/-- the kinds stay kinds, and the clauses of the relation last -/
theorem sv_K {s : Nat} {st0 st : Nat → Int32} (x : sv_X s st0 st) (h : re_K st0) : re_K st := by
  intro e
  rcases x e with p | p
  · rw [p]
    exact h e
  · exact Or.inr (Or.inr (Or.inl p.2.1))
theorem sv_N {s : Nat} {st0 st en nw : Nat → Int32} (x : sv_X s st0 st) (h : re_N st0 en nw) : re_N st en nw := by
  intro e he h0 h3
  rcases x e with p | p
  · rw [p] at h0 h3
    exact h e he h0 h3
  · exact h e he (by rw [p.1]; decide) (by rw [p.1]; decide)
theorem sv_V {s : Nat} {st0 st sn ve : Nat → Int32} (x : sv_X s st0 st) (h : re_V st0 sn ve) : re_V st sn ve := by
  intro e he h4
  rcases x e with p | p
  · rw [p] at h4
    exact h e he h4
  · rw [p.2.1] at h4
    exact absurd h4 (by decide)
theorem sv_chX {s : Nat} {g : Nat → Int32} (hg : ∀ j, j < 16 → re_L (g j)) : ∀ (n : Nat) (st0 st : Nat → Int32) (x : Int32), re_L x → sv_X s st0 st → sv_X s st0 (sv_ch s g n st x) := by
  intro n
  induction n with
  | zero =>
    intro st0 st x _ hx
    exact hx
  | succ n ih =>
    intro st0 st x hL hx
    rcases hL with rfl | ⟨l, hl, rfl⟩
    · rw [sv_chm]
      exact hx
    · by_cases h : st (16 * s + l) = 1
      · rw [sv_ch1 hl h]
        exact ih st0 _ _ (hg l hl) (sv_X1 hx hl h)
      · rw [sv_ch0 hl h]
        exact hx
