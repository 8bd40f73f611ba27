theorem re_rmd {md bk ch lk st rt rc wt wc en sn th ro nw bf ve : Nat → Int32} (R : re_R md bk ch lk st rt rc wt wc en sn th ro nw bf ve) : re_B md := R.1
theorem re_rbk {md bk ch lk st rt rc wt wc en sn th ro nw bf ve : Nat → Int32} (R : re_R md bk ch lk st rt rc wt wc en sn th ro nw bf ve) : re_B bk := R.2.1
theorem re_rch {md bk ch lk st rt rc wt wc en sn th ro nw bf ve : Nat → Int32} (R : re_R md bk ch lk st rt rc wt wc en sn th ro nw bf ve) : re_B ch := R.2.2.1
theorem re_rth {md bk ch lk st rt rc wt wc en sn th ro nw bf ve : Nat → Int32} (R : re_R md bk ch lk st rt rc wt wc en sn th ro nw bf ve) : re_B th := R.2.2.2.1
theorem re_rQ {md bk ch lk st rt rc wt wc en sn th ro nw bf ve : Nat → Int32} (R : re_R md bk ch lk st rt rc wt wc en sn th ro nw bf ve) : re_Q lk := R.2.2.2.2.1
theorem re_rK {md bk ch lk st rt rc wt wc en sn th ro nw bf ve : Nat → Int32} (R : re_R md bk ch lk st rt rc wt wc en sn th ro nw bf ve) : re_K st := R.2.2.2.2.2.1
theorem re_rT {md bk ch lk st rt rc wt wc en sn th ro nw bf ve : Nat → Int32} (R : re_R md bk ch lk st rt rc wt wc en sn th ro nw bf ve) : re_T rt wt th := R.2.2.2.2.2.2.1
theorem re_rC {md bk ch lk st rt rc wt wc en sn th ro nw bf ve : Nat → Int32} (R : re_R md bk ch lk st rt rc wt wc en sn th ro nw bf ve) : re_C rc wc ro := R.2.2.2.2.2.2.2.1
theorem re_rO {md bk ch lk st rt rc wt wc en sn th ro nw bf ve : Nat → Int32} (R : re_R md bk ch lk st rt rc wt wc en sn th ro nw bf ve) : re_O ro := R.2.2.2.2.2.2.2.2.1
theorem re_rE {md bk ch lk st rt rc wt wc en sn th ro nw bf ve : Nat → Int32} (R : re_R md bk ch lk st rt rc wt wc en sn th ro nw bf ve) : re_E en := R.2.2.2.2.2.2.2.2.2.1
theorem re_rN {md bk ch lk st rt rc wt wc en sn th ro nw bf ve : Nat → Int32} (R : re_R md bk ch lk st rt rc wt wc en sn th ro nw bf ve) : re_N st en nw := R.2.2.2.2.2.2.2.2.2.2.1
theorem re_rS {md bk ch lk st rt rc wt wc en sn th ro nw bf ve : Nat → Int32} (R : re_R md bk ch lk st rt rc wt wc en sn th ro nw bf ve) : re_S sn bf := R.2.2.2.2.2.2.2.2.2.2.2.1
theorem re_rV {md bk ch lk st rt rc wt wc en sn th ro nw bf ve : Nat → Int32} (R : re_R md bk ch lk st rt rc wt wc en sn th ro nw bf ve) : re_V st sn ve := R.2.2.2.2.2.2.2.2.2.2.2.2
/-- the least one below 16, or -1 -/
def le_S (P : Nat → Prop) (r : Int32) : Prop := (r = -1 ∧ ∀ k, k < 16 → ¬ P k) ∨ ∃ k, k < 16 ∧ r = nI k ∧ P k ∧ ∀ j, j < k → ¬ P j
theorem le_u {P : Nat → Prop} {r r' : Int32} (a : le_S P r) (b : le_S P r') : r = r' := by
  rcases a with ⟨rfl, a⟩ | ⟨k, hk, rfl, pk, mk⟩
  · rcases b with ⟨rfl, b⟩ | ⟨j, hj, rfl, pj, mj⟩
    · rfl
    · exact absurd pj (a j hj)
  · rcases b with ⟨rfl, b⟩ | ⟨j, hj, rfl, pj, mj⟩
    · exact absurd pk (b k hk)
    · have h1 : ¬ j < k := fun h => mk j h pj
      have h2 : ¬ k < j := fun h => mj k h pk
      rw [show j = k by omega]
theorem le_e {P Q : Nat → Prop} {r : Int32} (h : ∀ k, k < 16 → (P k ↔ Q k)) (a : le_S P r) : le_S Q r := by
  rcases a with ⟨rfl, a⟩ | ⟨k, hk, rfl, pk, mk⟩
  · exact Or.inl ⟨rfl, fun k hk q => a k hk ((h k hk).mpr q)⟩
  · exact Or.inr ⟨k, hk, rfl, (h k hk).mp pk, fun j hj q => mk j hj ((h j (by omega)).mpr q)⟩
def u3_f (f : Nat → Int32) (i : Nat) (a b c : Int32) : Nat → Int32 := upd (upd (upd f i a) (i + 1) b) (i + 2) c
def u4_f (f : Nat → Int32) (i : Nat) (a b c d : Int32) : Nat → Int32 := upd (upd (upd (upd f i a) (i + 1) b) (i + 2) c) (i + 3) d
theorem u4_o {f : Nat → Int32} {i j : Nat} {a b c d : Int32} (h : j < i ∨ i + 3 < j) : u4_f f i a b c d j = f j := by
  unfold u4_f
  rw [pk_un (by omega), pk_un (by omega), pk_un (by omega), pk_un (by omega)]
theorem u4_0 {f : Nat → Int32} {i : Nat} {a b c d : Int32} : u4_f f i a b c d i = a := by
  unfold u4_f
  rw [pk_un (by omega), pk_un (by omega), pk_un (by omega), pk_us]
theorem u4_1 {f : Nat → Int32} {i : Nat} {a b c d : Int32} : u4_f f i a b c d (i + 1) = b := by
  unfold u4_f
  rw [pk_un (by omega), pk_un (by omega), pk_us]
theorem u4_2 {f : Nat → Int32} {i : Nat} {a b c d : Int32} : u4_f f i a b c d (i + 2) = c := by
  unfold u4_f
  rw [pk_un (by omega), pk_us]
theorem u4_3 {f : Nat → Int32} {i : Nat} {a b c d : Int32} : u4_f f i a b c d (i + 3) = d := by
  unfold u4_f
  rw [pk_us]
theorem u3_o {f : Nat → Int32} {i j : Nat} {a b c : Int32} (h : j < i ∨ i + 2 < j) : u3_f f i a b c j = f j := by
  unfold u3_f
  rw [pk_un (by omega), pk_un (by omega), pk_un (by omega)]
theorem u3_0 {f : Nat → Int32} {i : Nat} {a b c : Int32} : u3_f f i a b c i = a := by
  unfold u3_f
  rw [pk_un (by omega), pk_un (by omega), pk_us]
theorem u3_1 {f : Nat → Int32} {i : Nat} {a b c : Int32} : u3_f f i a b c (i + 1) = b := by
  unfold u3_f
  rw [pk_un (by omega), pk_us]
theorem u3_2 {f : Nat → Int32} {i : Nat} {a b c : Int32} : u3_f f i a b c (i + 2) = c := by
  unfold u3_f
  rw [pk_us]
theorem re_K4 {st : Nat → Int32} {e : Nat} (h : re_K st) : re_K (upd st e 4) := re_Ku h (Or.inr (Or.inr (Or.inr (Or.inr (Or.inl rfl)))))
/-- an entity is managed from what its session sees -/
theorem mg_R {s k : Nat} {md bk ch lk st rt rc wt wc en sn th ro nw bf ve : Nat → Int32} (R : re_R md bk ch lk st rt rc wt wc en sn th ro nw bf ve) (hk : k < 16) :
    re_R md bk ch lk (upd st (16 * s + k) 4) rt rc wt wc
      (u4_f en (4 * (16 * s + k)) (si_c rc wc lk s k 0) (si_c rc wc lk s k 1) (si_c rc wc lk s k 2) (si_c rc wc lk s k 3))
      (u4_f sn (4 * (16 * s + k)) (si_c rc wc lk s k 0) (si_c rc wc lk s k 1) (si_c rc wc lk s k 2) (si_c rc wc lk s k 3)) th ro
      (u3_f nw (3 * (16 * s + k)) (si_c rc wc lk s k 0) (si_c rc wc lk s k 1) (si_c rc wc lk s k 2))
      (u3_f bf (3 * (16 * s + k)) (si_c rc wc lk s k 0) (si_c rc wc lk s k 1) (si_c rc wc lk s k 2)) (upd ve (16 * s + k) (si_c rc wc lk s k 3)) := by
  obtain ⟨a1, a2, a3, a4, a5, a6, a7, a8, a9, a10, a11, a12, a13⟩ := R
  exact ⟨a1, a2, a3, a4, a5, re_K4 a6, a7, a8, a9, re_Eu (c := 3) (re_Ew a10 (si_L a8 a9 hk)) (by decide) (fun q => absurd q (by decide)), re_N3 (re_Nw a11), re_S3 (re_Sw a12), re_Vw a13⟩
/-- the four cells of a row are written -/
theorem re_C4 {rc wc ro : Nat → Int32} {k : Nat} {a b c d : Int32} (h : re_C rc wc ro) : re_C rc (u4_f wc (4 * k) a b c d) (u4_f ro (4 * (16 + k)) a b c d) :=
  re_Cw (c := 3) (re_Cw (c := 2) (re_Cw (c := 1) (re_Cw (c := 0) h (by decide)) (by decide)) (by decide)) (by decide)
theorem re_Cp {rc wc ro : Nat → Int32} {k : Nat} {a b c d : Int32} (h : re_C rc wc ro) (hk : k < 16) : re_C (u4_f rc (4 * k) a b c d) wc (u4_f ro (4 * k) a b c d) :=
  re_Cr (c := 3) (re_Cr (c := 2) (re_Cr (c := 1) (re_Cr (c := 0) h hk (by decide)) hk (by decide)) hk (by decide)) hk (by decide)
theorem re_O4 {ro : Nat → Int32} {k : Nat} {a b c d : Int32} (h : re_O ro) (hc : re_L c) : re_O (u4_f ro (4 * k) a b c d) :=
  re_Ou (c := 3) (re_Ou (c := 2) (re_Ou (c := 1) (re_Ou (c := 0) h (by decide) (fun q => absurd q (by decide))) (by decide) (fun q => absurd q (by decide))) (by decide) (fun _ => hc)) (by decide) (fun q => absurd q (by decide))
theorem wr_R {s k : Nat} {v : Int32} {md bk ch lk st rt rc wt wc en sn th ro nw bf ve : Nat → Int32} (R : re_R md bk ch lk st rt rc wt wc en sn th ro nw bf ve) (hs : s < 3) (hk : k < 16) :
    re_R md bk (upd ch k 0) (upd lk k (nI s)) st rt rc (upd wt k 1) (u4_f wc (4 * k) (en (4 * (16 * s + k))) (en (4 * (16 * s + k) + 1)) (en (4 * (16 * s + k) + 2)) v) en sn
      (upd th (16 + k) 1) (u4_f ro (4 * (16 + k)) (en (4 * (16 * s + k))) (en (4 * (16 * s + k) + 1)) (en (4 * (16 * s + k) + 2)) v) nw bf ve := by
  obtain ⟨a1, a2, a3, a4, a5, a6, a7, a8, a9, a10, a11, a12, a13⟩ := R
  exact ⟨a1, a2, re_Bu a3 (Or.inl rfl), re_Bu a4 (Or.inr rfl), re_Qu a5 (Or.inr ⟨s, hs, rfl⟩), a6, re_Tw a7, re_C4 a8, re_O4 (k := 16 + k) a9 (a10 _ (by omega)), a10, a11, a12, a13⟩
theorem wr_cut {k : Nat} {md bk ch lk st rt rc wt wc en sn th ro nw bf ve : Nat → Int32} (R : re_R md bk ch lk st rt rc wt wc en sn th ro nw bf ve) :
    re_R md bk ch lk st rt rc wt (upd wc (4 * k + 2) (-1)) en sn th (upd ro (4 * (16 + k) + 2) (-1)) nw bf ve := by
  obtain ⟨a1, a2, a3, a4, a5, a6, a7, a8, a9, a10, a11, a12, a13⟩ := R
  exact ⟨a1, a2, a3, a4, a5, a6, a7, re_Cw a8 (by decide), re_Ou (k := 16 + k) a9 (by decide) (fun _ => Or.inl rfl), a10, a11, a12, a13⟩
theorem dl_R {s k : Nat} {md bk ch lk st rt rc wt wc en sn th ro nw bf ve : Nat → Int32} (R : re_R md bk ch lk st rt rc wt wc en sn th ro nw bf ve) (hs : s < 3) :
    re_R md bk (upd ch k 0) (upd lk k (nI s)) st rt rc (upd wt k 0) wc en sn (upd th (16 + k) 0) ro nw bf ve := by
  obtain ⟨a1, a2, a3, a4, a5, a6, a7, a8, a9, a10, a11, a12, a13⟩ := R
  exact ⟨a1, a2, re_Bu a3 (Or.inl rfl), re_Bu a4 (Or.inl rfl), re_Qu a5 (Or.inr ⟨s, hs, rfl⟩), a6, re_Tw a7, a8, a9, a10, a11, a12, a13⟩
theorem un_R {k : Nat} {md bk ch lk st rt rc wt wc en sn th ro nw bf ve : Nat → Int32} (R : re_R md bk ch lk st rt rc wt wc en sn th ro nw bf ve) :
    re_R md bk ch (upd lk k (-1)) st rt rc wt wc en sn th ro nw bf ve := by
  obtain ⟨a1, a2, a3, a4, a5, a6, a7, a8, a9, a10, a11, a12, a13⟩ := R
  exact ⟨a1, a2, a3, a4, re_Qu a5 (Or.inl rfl), a6, a7, a8, a9, a10, a11, a12, a13⟩
theorem pb_R {k : Nat} {md bk ch lk st rt rc wt wc en sn th ro nw bf ve : Nat → Int32} (R : re_R md bk ch lk st rt rc wt wc en sn th ro nw bf ve) (hk : k < 16) :
    re_R md bk (upd ch k (wt k)) (upd lk k (-1)) st (upd rt k (wt k)) (u4_f rc (4 * k) (wc (4 * k)) (wc (4 * k + 1)) (wc (4 * k + 2)) (wc (4 * k + 3))) wt wc en sn
      (upd th k (wt k)) (u4_f ro (4 * k) (wc (4 * k)) (wc (4 * k + 1)) (wc (4 * k + 2)) (wc (4 * k + 3))) nw bf ve := by
  obtain ⟨a1, a2, a3, a4, a5, a6, a7, a8, a9, a10, a11, a12, a13⟩ := R
  have hw : wt k = 0 ∨ wt k = 1 := by
    rw [(a7 k hk).2]
    exact a4 _
  have hl : re_L (wc (4 * k + 2)) := by
    rw [(a8 k hk 2 (by decide)).2]
    exact a9 (16 + k) (by omega)
  exact ⟨a1, a2, re_Bu a3 hw, re_Bu a4 hw, re_Qu a5 (Or.inl rfl), a6, re_Tr a7 hk, re_Cp a8 hk, re_O4 a9 hl, a10, a11, a12, a13⟩
/-- a kind is set -/
theorem kd_R {e : Nat} {x : Int32} {md bk ch lk st rt rc wt wc en sn th ro nw bf ve : Nat → Int32} (R : re_R md bk ch lk st rt rc wt wc en sn th ro nw bf ve) (hx : x = 0 ∨ x = 1 ∨ x = 2 ∨ x = 3 ∨ x = 4 ∨ x = 5)
    (hn : x = 0 ∨ x = 3 ∨ (¬ st e = 0 ∧ ¬ st e = 3)) (hv : x = 4 ∨ x = 5 → st e = 4 ∨ st e = 5) : re_R md bk ch lk (upd st e x) rt rc wt wc en sn th ro nw bf ve := by
  obtain ⟨a1, a2, a3, a4, a5, a6, a7, a8, a9, a10, a11, a12, a13⟩ := R
  exact ⟨a1, a2, a3, a4, a5, re_Ku a6 hx, a7, a8, a9, a10, re_Nk a11 hn, a12, re_Vk a13 hv⟩
/-- a row enters the cache -/
theorem ch_R {k : Nat} {x : Int32} {md bk ch lk st rt rc wt wc en sn th ro nw bf ve : Nat → Int32} (R : re_R md bk ch lk st rt rc wt wc en sn th ro nw bf ve) (hx : x = 0 ∨ x = 1) : re_R md bk (upd ch k x) lk st rt rc wt wc en sn th ro nw bf ve := by
  obtain ⟨a1, a2, a3, a4, a5, a6, a7, a8, a9, a10, a11, a12, a13⟩ := R
  exact ⟨a1, a2, re_Bu a3 hx, a4, a5, a6, a7, a8, a9, a10, a11, a12, a13⟩
theorem bk_R {k : Nat} {x : Int32} {md bk ch lk st rt rc wt wc en sn th ro nw bf ve : Nat → Int32} (R : re_R md bk ch lk st rt rc wt wc en sn th ro nw bf ve) (hx : x = 0 ∨ x = 1) : re_R md (upd bk k x) ch lk st rt rc wt wc en sn th ro nw bf ve := by
  obtain ⟨a1, a2, a3, a4, a5, a6, a7, a8, a9, a10, a11, a12, a13⟩ := R
  exact ⟨a1, re_Bu a2 hx, a3, a4, a5, a6, a7, a8, a9, a10, a11, a12, a13⟩
theorem md_R {k : Nat} {x : Int32} {md bk ch lk st rt rc wt wc en sn th ro nw bf ve : Nat → Int32} (R : re_R md bk ch lk st rt rc wt wc en sn th ro nw bf ve) (hx : x = 0 ∨ x = 1) : re_R (upd md k x) bk ch lk st rt rc wt wc en sn th ro nw bf ve := by
  obtain ⟨a1, a2, a3, a4, a5, a6, a7, a8, a9, a10, a11, a12, a13⟩ := R
  exact ⟨re_Bu a1 hx, a2, a3, a4, a5, a6, a7, a8, a9, a10, a11, a12, a13⟩
/-- a TRANSIENT one is made; a NEW one is filled -/
theorem mk_R {e : Nat} {x a b c y : Int32} {md bk ch lk st rt rc wt wc en sn th ro nw bf ve : Nat → Int32} (R : re_R md bk ch lk st rt rc wt wc en sn th ro nw bf ve) (hx : x = 1 ∨ x = 2) (hc : re_L c) :
    re_R md bk ch lk (upd st e x) rt rc wt wc (u3_f en (4 * e) a b c) sn th ro (u3_f nw (3 * e) a b c) bf (upd ve e y) := by
  obtain ⟨a1, a2, a3, a4, a5, a6, a7, a8, a9, a10, a11, a12, a13⟩ := R
  refine ⟨a1, a2, a3, a4, a5, re_Ku a6 ?_, a7, a8, a9, re_Ew a10 hc, re_Nw a11, a12, re_Vf a13 ?_⟩
  · rcases hx with h | h
    · exact Or.inr (Or.inl h)
    · exact Or.inr (Or.inr (Or.inl h))
  · rcases hx with h | h <;> rw [h] <;> decide
/-- a PROXY: the reference fills its cells, the component does not -/
theorem px_R {e : Nat} {a b c y : Int32} {md bk ch lk st rt rc wt wc en sn th ro nw bf ve : Nat → Int32} (R : re_R md bk ch lk st rt rc wt wc en sn th ro nw bf ve) :
    re_R md bk ch lk (upd st e 3) rt rc wt wc en sn th ro (u3_f nw (3 * e) a b c) bf (upd ve e y) := by
  obtain ⟨a1, a2, a3, a4, a5, a6, a7, a8, a9, a10, a11, a12, a13⟩ := R
  refine ⟨a1, a2, a3, a4, a5, re_Ku a6 (Or.inr (Or.inr (Or.inr (Or.inl rfl)))), a7, a8, a9, a10, ?_, a12, re_Vf a13 (by decide)⟩
  intro j hj h0 h3 d hd
  by_cases q : j = e
  · subst q
    rw [pk_us] at h3
    exact absurd rfl h3
  · rw [pk_un q] at h0 h3
    rw [u3_o (by omega)]
    exact a11 j hj h0 h3 d hd
/-- a cell is written -/
theorem ce_R {e c : Nat} {x : Int32} {md bk ch lk st rt rc wt wc en sn th ro nw bf ve : Nat → Int32} (R : re_R md bk ch lk st rt rc wt wc en sn th ro nw bf ve) (hc : c < 3) (hx : c = 2 → re_L x) :
    re_R md bk ch lk st rt rc wt wc (upd en (4 * e + c) x) sn th ro (upd nw (3 * e + c) x) bf ve := by
  obtain ⟨a1, a2, a3, a4, a5, a6, a7, a8, a9, a10, a11, a12, a13⟩ := R
  exact ⟨a1, a2, a3, a4, a5, a6, a7, a8, a9, re_Eu a10 (by omega) hx, re_Nu a11 hc, a12, a13⟩
/-- the three cells of an entity are written -/
theorem c3_R {e : Nat} {a b c : Int32} {md bk ch lk st rt rc wt wc en sn th ro nw bf ve : Nat → Int32} (R : re_R md bk ch lk st rt rc wt wc en sn th ro nw bf ve) (hc : re_L c) :
    re_R md bk ch lk st rt rc wt wc (u3_f en (4 * e) a b c) sn th ro (u3_f nw (3 * e) a b c) bf ve :=
  ce_R (c := 2) (ce_R (c := 1) (ce_R (c := 0) R (by decide) (fun q => absurd q (by decide))) (by decide) (fun q => absurd q (by decide))) (by decide) (fun _ => hc)
/-- what a call's first check answers -/
def er_v (bk : Nat → Int32) (s key : Int32) : Int32 := if key < 0 then -1 else if 16 ≤ key then -1 else if s < 0 then -1 else if 3 ≤ s then -1 else if bk s.toNatClampNeg = 0 then 0 else -2
theorem er_0 {bk : Nat → Int32} {s key : Int32} (h : er_v bk s key = 0) : ∃ i j, i < 3 ∧ j < 16 ∧ s = nI i ∧ key = nI j ∧ bk i = 0 := by
  unfold er_v at h
  by_cases h1 : key < 0
  · rw [if_pos h1] at h
    exact absurd h (by decide)
  rw [if_neg h1] at h
  by_cases h2 : 16 ≤ key
  · rw [if_pos h2] at h
    exact absurd h (by decide)
  rw [if_neg h2] at h
  by_cases h3 : s < 0
  · rw [if_pos h3] at h
    exact absurd h (by decide)
  rw [if_neg h3] at h
  by_cases h4 : 3 ≤ s
  · rw [if_pos h4] at h
    exact absurd h (by decide)
  rw [if_neg h4] at h
  rcases pk_ix key (n := 16) (by decide) with q | q | ⟨j, hj, rfl⟩
  · exact absurd q h1
  · exact absurd q h2
  rcases pk_ix s (n := 3) (by decide) with q | q | ⟨i, hi, rfl⟩
  · exact absurd q h3
  · exact absurd q h4
  refine ⟨i, j, hi, hj, rfl, rfl, ?_⟩
  rw [nI_clamp (by omega)] at h
  by_cases h5 : bk i = 0
  · exact h5
  · rw [if_neg h5] at h
    exact absurd h (by decide)
def lk_v (v : Int32) : Int32 := if v < -1 then 0 else if 16 ≤ v then 0 else 1
theorem lk_01 (v : Int32) : lk_v v = 0 ∨ lk_v v = 1 := by
  unfold lk_v
  split
  · exact Or.inl rfl
  · split
    · exact Or.inl rfl
    · exact Or.inr rfl
theorem lk_L {v : Int32} (h : ¬ lk_v v = 0) : re_L v := by
  unfold lk_v at h
  by_cases h1 : v < -1
  · rw [if_pos h1] at h
    exact absurd rfl h
  rw [if_neg h1] at h
  by_cases h2 : 16 ≤ v
  · rw [if_pos h2] at h
    exact absurd rfl h
  exact re_Lof h1 h2
