/-! chain: where wishes lead -/
def nz_ (nx : Nat → Nat) (x : Nat) : Nat := if x < 10 then nx x else x
def io_ (nx : Nat → Nat) : Nat → Nat → Nat
  | 0, a => a
  | k + 1, a => nz_ nx (io_ nx k a)
def em_ (nx : Nat → Nat) (g : Nat) : Prop := g < 10 ∧ nx g = 11
def cy_ (nx : Nat → Nat) (a : Nat) : Prop := ∃ k : Nat, 1 ≤ k ∧ k ≤ 10 ∧ io_ nx k a = a
section IT
variable {nx : Nat → Nat} {a b g : Nat}
theorem io_add : ∀ j k : Nat, io_ nx (j + k) a = io_ nx j (io_ nx k a) := by
  intro j
  induction j with
  | zero => intro k; rw [Nat.zero_add]; rfl
  | succ j ih =>
    intro k
    rw [show j + 1 + k = (j + k) + 1 by omega]
    show nz_ nx (io_ nx (j + k) a) = nz_ nx (io_ nx j (io_ nx k a))
    rw [ih k]
theorem io_1 (k : Nat) : io_ nx (k + 1) a = io_ nx k (nz_ nx a) := io_add k 1
theorem io_big {x : Nat} (hx : 10 ≤ x) : ∀ k : Nat, io_ nx k x = x := by
  intro k
  induction k with
  | zero => rfl
  | succ k ih =>
    show nz_ nx (io_ nx k x) = x
    rw [ih]
    exact if_neg (by omega)
theorem io_em (hg : em_ nx g) (k : Nat) : io_ nx (k + 1) g = 11 := by
  rw [io_1]
  unfold nz_
  rw [if_pos hg.1, hg.2, io_big (by omega)]
theorem em_uq {m m' : Nat} (h1 : em_ nx (io_ nx m a)) (h2 : em_ nx (io_ nx m' a)) : m = m' := by
  have key : ∀ m m' : Nat, m < m' → em_ nx (io_ nx m a) → em_ nx (io_ nx m' a) → False := by
    intro m m' hlt h1 h2
    obtain ⟨d, rfl⟩ : ∃ d, m' = d + 1 + m := ⟨m' - m - 1, by omega⟩
    rw [io_add, io_em h1] at h2
    exact absurd h2.1 (by decide)
  rcases Nat.lt_trichotomy m m' with h | h | h
  · exact absurd (key m m' h h1 h2) id
  · exact h
  · exact absurd (key m' m h h2 h1) id
theorem cy_mul {k : Nat} (h : io_ nx k a = a) : ∀ j : Nat, io_ nx (j * k) a = a := by
  intro j
  induction j with
  | zero => rw [Nat.zero_mul]; rfl
  | succ j ih => rw [show (j + 1) * k = j * k + k by rw [Nat.succ_mul], io_add, h, ih]
theorem cy_lt (ha : a < 10) (h : cy_ nx a) (k : Nat) : io_ nx k a < 10 := by
  obtain ⟨p, p1, p2, p3⟩ := h
  apply Classical.byContradiction
  intro hk
  have h1 := cy_mul p3 (k + 1)
  obtain ⟨d, hd⟩ : ∃ d, (k + 1) * p = d + k := ⟨(k + 1) * p - k, by
    have : (k + 1) * 1 ≤ (k + 1) * p := Nat.mul_le_mul_left _ p1
    omega⟩
  rw [hd, io_add, io_big (by omega)] at h1
  omega
theorem cy_ne (ha : a < 10) (h : cy_ nx a) (k : Nat) : ¬ em_ nx (io_ nx k a) := by
  intro he
  have := cy_lt ha h (k + 1)
  rw [show k + 1 = 0 + 1 + k by omega, io_add, io_em he] at this
  exact absurd this (by decide)
theorem cy_nx (ha : a < 10) (h : cy_ nx a) : nx a < 10 ∧ cy_ nx (nx a) := by
  have e : nz_ nx a = nx a := if_pos ha
  have h1 := cy_lt ha h 1
  have h1' : nx a < 10 := by
    have : io_ nx 1 a = nx a := e
    rw [← this]; exact h1
  obtain ⟨p, p1, p2, p3⟩ := h
  refine ⟨h1', p, p1, p2, ?_⟩
  rw [← e, ← io_1]
  show nz_ nx (io_ nx p a) = nz_ nx a
  rw [p3]
/-- two on rings with the same next one -/
theorem cy_inj (ha : a < 10) (hb : b < 10) (h1 : cy_ nx a) (h2 : cy_ nx b) (he : nx a = nx b) : a = b := by
  obtain ⟨p, p1, p2, p3⟩ := h1
  obtain ⟨q, q1, q2, q3⟩ := h2
  have e1 := cy_mul p3 q
  have e2 := cy_mul q3 p
  rw [Nat.mul_comm] at e2
  obtain ⟨d, hd⟩ : ∃ d, q * p = d + 1 := ⟨q * p - 1, by
    have : 1 * 1 ≤ q * p := Nat.mul_le_mul q1 p1
    omega⟩
  rw [hd, io_1] at e1 e2
  unfold nz_ at e1 e2
  rw [if_pos ha] at e1
  rw [if_pos hb] at e2
  rw [← e1, he, e2]
end IT
theorem phole_ {n : Nat} {h : Nat → Nat} (hh : ∀ i : Nat, i ≤ n → h i < n) : ∃ i j : Nat, i < j ∧ j ≤ n ∧ h i = h j := by
  apply Classical.byContradiction
  intro hno
  have nd : ((List.range (n + 1)).map h).Nodup := by
    unfold List.Nodup
    rw [List.pairwise_map]
    refine List.Pairwise.imp_of_mem ?_ List.pairwise_lt_range
    intro i j hi hj hij he
    rw [List.mem_range] at hi hj
    exact hno ⟨i, j, hij, by omega, he⟩
  have sub : (List.range (n + 1)).map h ⊆ List.range n := by
    intro x hx
    obtain ⟨i, hi, rfl⟩ := List.mem_map.mp hx
    rw [List.mem_range] at hi ⊢
    exact hh i (by omega)
  have := List.Nodup.length_le_of_subset nd sub
  simp at this
  omega
/-- a set that can move -/
def mv_ (nx : Nat → Nat) (S : Nat → Prop) : Prop := (∀ a : Nat, S a → a < 10 ∧ nx a < 10 ∧ (S (nx a) ∨ em_ nx (nx a))) ∧ ∀ a b : Nat, S a → S b → nx a = nx b → a = b
/-- what each house is worth -/
def vl_ (nx : Nat → Nat) (v : Nat → Nat) : Prop := ∀ g : Nat, g < 10 → (nx g = 11 → v g ≤ 10 ∧ (∀ w k : Nat, w < 10 → 1 ≤ k → k ≤ 10 → io_ nx k w = g → k ≤ v g) ∧ (v g = 0 ∨ ∃ w : Nat, w < 10 ∧ io_ nx (v g) w = g)) ∧ (nx g ≠ 11 → (v g = 1 ∧ cy_ nx g) ∨ (v g = 0 ∧ ¬ cy_ nx g))
section MV
variable {nx v : Nat → Nat} {S : Nat → Prop}
theorem mv_orb (hm : mv_ nx S) {a : Nat} (ha : S a) : ∀ k : Nat, (∀ j : Nat, j ≤ k → S (io_ nx j a)) ∨ ∃ j : Nat, 1 ≤ j ∧ j ≤ k ∧ em_ nx (io_ nx j a) ∧ ∀ i : Nat, i < j → S (io_ nx i a) := by
  intro k
  induction k with
  | zero => exact Or.inl (fun j hj => by
      have : j = 0 := by omega
      subst this
      exact ha)
  | succ k ih =>
    rcases ih with h | ⟨j, j1, j2, j3, j4⟩
    · obtain ⟨h1, h2, h3⟩ := hm.1 _ (h k (Nat.le_refl k))
      have e : io_ nx (k + 1) a = nx (io_ nx k a) := if_pos h1
      rcases h3 with h3 | h3
      · left
        intro j hj
        by_cases hjk : j = k + 1
        · subst hjk; rw [e]; exact h3
        · exact h j (by omega)
      · right
        exact ⟨k + 1, by omega, Nat.le_refl _, by rw [e]; exact h3, fun i hi => h i (by omega)⟩
    · exact Or.inr ⟨j, j1, by omega, j3, j4⟩
/-- back along the way -/
theorem mv_back (hm : mv_ nx S) {a b : Nat} : ∀ k : Nat, (∀ i : Nat, i < k → S (io_ nx i a)) → (∀ i : Nat, i < k → S (io_ nx i b)) → io_ nx k a = io_ nx k b → a = b := by
  intro k
  induction k with
  | zero => intro _ _ h; exact h
  | succ k ih =>
    intro h1 h2 h
    refine ih (fun i hi => h1 i (by omega)) (fun i hi => h2 i (by omega)) ?_
    have s1 := h1 k (by omega)
    have s2 := h2 k (by omega)
    have e1 : io_ nx (k + 1) a = nx (io_ nx k a) := if_pos (hm.1 _ s1).1
    have e2 : io_ nx (k + 1) b = nx (io_ nx k b) := if_pos (hm.1 _ s2).1
    rw [e1, e2] at h
    exact hm.2 _ _ s1 s2 h
/-- every one that moves stands in a ring, or on a way to an empty house -/
theorem mv_kind (hm : mv_ nx S) {a : Nat} (ha : S a) : (cy_ nx a ∧ nx a ≠ 11) ∨ ∃ k : Nat, 1 ≤ k ∧ k ≤ 10 ∧ em_ nx (io_ nx k a) ∧ ∀ i : Nat, i < k → S (io_ nx i a) := by
  have hne : nx a ≠ 11 := by have := (hm.1 a ha).2.1; omega
  rcases mv_orb hm ha 10 with h | ⟨j, j1, j2, j3, j4⟩
  · left
    refine ⟨?_, hne⟩
    obtain ⟨i, j, hij, hj, he⟩ := phole_ (n := 10) (h := fun k => io_ nx k a) (fun k hk => (hm.1 _ (h k hk)).1)
    refine ⟨j - i, by omega, by omega, ?_⟩
    symm
    refine mv_back hm i (fun k hk => h k (by omega)) (fun k hk => ?_) ?_
    · rw [← io_add]; exact h _ (by omega)
    · rw [← io_add, show i + (j - i) = j by omega]; exact he
  · exact Or.inr ⟨j, j1, j2, j3, j4⟩
/-- the places: one for a ring's house, as many as its worth for an empty one -/
def pl2_ (v : Nat → Nat) : Nat → List (Nat × Nat)
  | 0 => []
  | n + 1 => pl2_ v n ++ (List.range (v n)).map (fun k => (n, k))
def sm_ (v : Nat → Nat) : Nat → Nat
  | 0 => 0
  | n + 1 => sm_ v n + v n
theorem pl2_len : ∀ n : Nat, (pl2_ v n).length = sm_ v n := by
  intro n
  induction n with
  | zero => rfl
  | succ n ih =>
    show (pl2_ v n ++ _).length = sm_ v n + v n
    rw [List.length_append, ih, List.length_map, List.length_range]
theorem pl2_mem {g k : Nat} : ∀ n : Nat, g < n → k < v g → (g, k) ∈ pl2_ v n := by
  intro n
  induction n with
  | zero => intro h; omega
  | succ n ih =>
    intro h1 h2
    show (g, k) ∈ pl2_ v n ++ _
    rw [List.mem_append]
    by_cases hgn : g = n
    · subst hgn
      right
      rw [List.mem_map]
      exact ⟨k, List.mem_range.mpr h2, rfl⟩
    · exact Or.inl (ih (by omega) h2)
theorem mv_ub (hm : mv_ nx S) (hv : vl_ nx v) (l : List Nat) (hl : ∀ a ∈ l, S a) (nd : l.Nodup) : l.length ≤ sm_ v 10 := by
  have pick : ∀ a : Nat, ∃ p : Nat × Nat, S a → ((cy_ nx a ∧ nx a ≠ 11 ∧ p = (a, 0)) ∨ ∃ k : Nat, 1 ≤ k ∧ k ≤ 10 ∧ em_ nx (io_ nx k a) ∧ (∀ i : Nat, i < k → S (io_ nx i a)) ∧ p = (io_ nx k a, k - 1)) := by
    intro a
    by_cases hs : S a
    · rcases mv_kind hm hs with ⟨h1, h2⟩ | ⟨k, h1, h2, h3, h4⟩
      · exact ⟨(a, 0), fun _ => Or.inl ⟨h1, h2, rfl⟩⟩
      · exact ⟨(io_ nx k a, k - 1), fun _ => Or.inr ⟨k, h1, h2, h3, h4, rfl⟩⟩
    · exact ⟨(0, 0), fun h => absurd h hs⟩
  obtain ⟨ph, hph⟩ : ∃ ph : Nat → Nat × Nat, ∀ a : Nat, S a → ((cy_ nx a ∧ nx a ≠ 11 ∧ ph a = (a, 0)) ∨ ∃ k : Nat, 1 ≤ k ∧ k ≤ 10 ∧ em_ nx (io_ nx k a) ∧ (∀ i : Nat, i < k → S (io_ nx i a)) ∧ ph a = (io_ nx k a, k - 1)) := ⟨fun a => Classical.choose (pick a), fun a ha => Classical.choose_spec (pick a) ha⟩
  have nd2 : (l.map ph).Nodup := by
    unfold List.Nodup
    rw [List.pairwise_map]
    refine List.Pairwise.imp_of_mem ?_ nd
    intro a b ha hb hne he
    apply hne
    have sa := hl a ha
    have sb := hl b hb
    rcases hph a sa with ⟨a1, a2, a3⟩ | ⟨k, a1, a2, a3, a4, a5⟩
    · rcases hph b sb with ⟨b1, b2, b3⟩ | ⟨k', b1, b2, b3, b4, b5⟩
      · rw [a3, b3] at he
        exact congrArg Prod.fst he
      · rw [a3, b5] at he
        have e := congrArg Prod.fst he
        dsimp only at e
        rw [← e] at b3
        exact absurd b3.2 a2
    · rcases hph b sb with ⟨b1, b2, b3⟩ | ⟨k', b1, b2, b3, b4, b5⟩
      · rw [a5, b3] at he
        have e := congrArg Prod.fst he
        dsimp only at e
        rw [e] at a3
        exact absurd a3.2 b2
      · rw [a5, b5] at he
        have e := congrArg Prod.fst he
        have e2 := congrArg Prod.snd he
        dsimp only at e e2
        have ekk : k = k' := by omega
        subst ekk
        exact mv_back hm k a4 b4 e
  have sub : l.map ph ⊆ pl2_ v 10 := by
    intro p hp
    obtain ⟨a, ha, rfl⟩ := List.mem_map.mp hp
    have sa := hl a ha
    have ha10 := (hm.1 a sa).1
    rcases hph a sa with ⟨a1, a2, a3⟩ | ⟨k, a1, a2, a3, a4, a5⟩
    · rw [a3]
      rcases (hv a ha10).2 a2 with ⟨c1, _⟩ | ⟨_, c2⟩
      · exact pl2_mem 10 ha10 (by omega)
      · exact absurd a1 c2
    · rw [a5]
      have := ((hv _ a3.1).1 a3.2).2.1 a k ha10 a1 a2 rfl
      exact pl2_mem 10 a3.1 (by omega)
  have h1 := List.Nodup.length_le_of_subset nd2 sub
  rw [List.length_map, pl2_len] at h1
  exact h1
end MV
