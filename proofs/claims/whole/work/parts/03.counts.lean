noncomputable def cn_b (P : Prop) : Nat := @ite Nat P (Classical.propDecidable P) 1 0
theorem cn_t {P : Prop} (h : P) : cn_b P = 1 := by unfold cn_b; rw [if_pos h]
theorem cn_f {P : Prop} (h : ¬ P) : cn_b P = 0 := by unfold cn_b; rw [if_neg h]
theorem cn_b1 (P : Prop) : cn_b P ≤ 1 := by
  by_cases h : P
  · rw [cn_t h]; omega
  · rw [cn_f h]; omega
theorem cn_bm {P Q : Prop} (h : P → Q) : cn_b P ≤ cn_b Q := by
  by_cases hp : P
  · rw [cn_t hp, cn_t (h hp)]; omega
  · rw [cn_f hp]; omega
noncomputable def cn_n (P : Nat → Prop) : Nat → Nat
  | 0 => 0
  | k + 1 => cn_n P k + cn_b (P k)
theorem cn_mono {P Q : Nat → Prop} : ∀ {N : Nat}, (∀ k, k < N → P k → Q k) → cn_n P N ≤ cn_n Q N
  | 0, _ => Nat.le_refl _
  | N + 1, h => by
    have a := cn_mono (P := P) (Q := Q) (N := N) (fun k hk => h k (by omega))
    have b := cn_bm (h N (by omega))
    simp only [cn_n]; omega
theorem cn_lt {P Q : Nat → Prop} {a : Nat} (hp : ¬ P a) (hq : Q a) : ∀ {N : Nat}, (∀ k, k < N → P k → Q k) → a < N → cn_n P N < cn_n Q N
  | 0, _, h => by omega
  | N + 1, h, ha => by
    simp only [cn_n]
    rcases Nat.lt_or_ge a N with z | z
    · have x := cn_lt hp hq (N := N) (fun k hk => h k (by omega)) z
      have b := cn_bm (h N (by omega))
      omega
    · have e : a = N := by omega
      subst e
      have x := cn_mono (P := P) (Q := Q) (N := a) (fun k hk => h k (by omega))
      rw [cn_t hq, cn_f hp]; omega
theorem cn_le (P : Nat → Prop) : ∀ N, cn_n P N ≤ N
  | 0 => Nat.le_refl _
  | N + 1 => by have := cn_le P N; have := cn_b1 (P N); simp only [cn_n]; omega
theorem cn_eq {P Q : Nat → Prop} {N : Nat} (h : ∀ k, k < N → (P k ↔ Q k)) : cn_n P N = cn_n Q N :=
  Nat.le_antisymm (cn_mono fun k hk => (h k hk).mp) (cn_mono fun k hk => (h k hk).mpr)
theorem cn_add {P : Nat → Prop} {a : Nat} (hp : ¬ P a) : ∀ {N : Nat}, a < N → cn_n (fun k => P k ∨ k = a) N = cn_n P N + 1
  | 0, h => by omega
  | N + 1, h => by
    simp only [cn_n]
    rcases Nat.lt_or_ge a N with z | z
    · rw [cn_add hp z]
      have : cn_b (P N ∨ N = a) = cn_b (P N) := Nat.le_antisymm (cn_bm fun q => q.elim id (fun e => by omega)) (cn_bm Or.inl)
      omega
    · have e : a = N := by omega
      subst e
      rw [cn_eq (P := fun k => P k ∨ k = a) (Q := P) (fun k hk => ⟨fun q => q.elim id (fun e => by omega), Or.inl⟩), cn_t (Or.inr rfl), cn_f hp]
theorem cn_F : ∀ N, cn_n (fun _ => False) N = 0
  | 0 => rfl
  | N + 1 => by simp only [cn_n]; rw [cn_F N, cn_f id]
theorem cn_0 {P : Nat → Prop} {N : Nat} (h : cn_n P N = 0) : ∀ k, k < N → ¬ P k := by
  intro k hk hp
  have := cn_lt (P := fun _ => False) (Q := P) (a := k) id hp (N := N) (fun _ _ q => q.elim) hk
  omega
theorem cn_z {P : Nat → Prop} {N : Nat} (h : ∀ k, k < N → ¬ P k) : cn_n P N = 0 := by
  have := cn_mono (P := P) (Q := fun _ => False) (N := N) (fun k hk q => h k hk q)
  rw [cn_F] at this
  omega
/-- a set and one that is taken out of it -/
theorem cn_out {P Q : Nat → Prop} {a N : Nat} (ha : a < N) (hp : P a) (h : ∀ k, k < N → (Q k ↔ P k ∧ k ≠ a)) : cn_n Q N + 1 = cn_n P N := by
  have hn : ¬ Q a := fun q => ((h a ha).mp q).2 rfl
  rw [← cn_add (P := Q) (a := a) hn ha]
  refine cn_eq fun k hk => ⟨fun q => ?_, fun q => ?_⟩
  · rcases q with q | q
    · exact ((h k hk).mp q).1
    · subst q
      exact hp
  · by_cases e : k = a
    · exact Or.inr e
    · exact Or.inl ((h k hk).mpr ⟨q, e⟩)
theorem cn_in {P Q : Nat → Prop} {a N : Nat} (ha : a < N) (hp : ¬ P a) (h : ∀ k, k < N → (Q k ↔ P k ∨ k = a)) : cn_n Q N = cn_n P N + 1 := by
  rw [← cn_add (P := P) (a := a) hp ha]
  exact cn_eq h
/-- three sets without a common one -/
theorem cn_3 {P Q R : Nat → Prop} (h1 : ∀ k, P k → ¬ Q k) (h2 : ∀ k, P k → ¬ R k) (h3 : ∀ k, Q k → ¬ R k) : ∀ N, cn_n P N + cn_n Q N + cn_n R N ≤ N
  | 0 => by simp only [cn_n]; omega
  | N + 1 => by
    have := cn_3 h1 h2 h3 N
    have a := cn_b1 (P N)
    have b := cn_b1 (Q N)
    have c := cn_b1 (R N)
    simp only [cn_n]
    by_cases p : P N
    · rw [cn_f (h1 N p), cn_f (h2 N p)]; omega
    · rw [cn_f p]
      by_cases q : Q N
      · rw [cn_f (h3 N q)]; omega
      · rw [cn_f q]; omega
