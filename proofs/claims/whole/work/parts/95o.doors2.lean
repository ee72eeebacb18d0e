/-! game: who can win -/
def thr_ (S : Nat → Prop) : Prop := ∃ k : Nat, S k ∧ S (k + 1) ∧ S (k + 2)
def ad_ (S : Nat → Prop) (d : Nat) : Nat → Prop := fun k => S k ∨ k = d
def imm_ (n : Nat) (S : Nat → Prop) : Prop := ∃ i : Nat, i < n ∧ thr_ (ad_ S i)
noncomputable def fe_ (S : Nat → Prop) (j : Nat) : Bool := @decide (∀ k : Nat, S k → k + 2 < j ∨ j + 2 < k) (Classical.propDecidable _)
noncomputable def X_ (n : Nat) (S : Nat → Prop) : Nat := sn_ (fe_ S) 0 0 n
def cwin_ (n : Nat) (S : Nat → Prop) : Prop := imm_ n S ∨ X_ n S ≠ 0
theorem xcl_ {a b c : Nat} (h : a ^^^ b = a ^^^ c) : b = c := by
  have e : ∀ z : Nat, a ^^^ (a ^^^ z) = z := fun z => by rw [← Nat.xor_assoc, Nat.xor_self, Nat.zero_xor]
  rw [← e b, h, e c]
section PLY
variable {n : Nat} {S : Nat → Prop}
theorem sn_8 {fr : Nat → Bool} : ∀ D i c : Nat, c + D ≤ 18 → sn_ fr i c D < 8 := by
  have w8 : ∀ c : Nat, c ≤ 18 → W_ c < 2 ^ 3 := fun c h => by
    have := W_le ⟨c, by omega⟩
    dsimp only at this
    omega
  intro D
  induction D with
  | zero => intro i c h; exact w8 c (by omega)
  | succ D ih =>
    intro i c h
    cases hb : fr i
    · rw [sn_f hb]
      exact Nat.xor_lt_two_pow (n := 3) (w8 c (by omega)) (ih (i + 1) 0 (by omega))
    · rw [sn_t hb]
      exact ih (i + 1) (c + 1) (by omega)
theorem fe_t {j : Nat} : fe_ S j = true ↔ ∀ k : Nat, S k → k + 2 < j ∨ j + 2 < k := by
  unfold fe_
  exact @decide_eq_true_iff _ (Classical.propDecidable _)
theorem fe_n {j : Nat} : fe_ S j = false ↔ ∃ k : Nat, S k ∧ ¬ (k + 2 < j ∨ j + 2 < k) := by
  constructor
  · intro h
    apply Classical.byContradiction
    intro hn
    have : fe_ S j = true := fe_t.mpr (fun k hk => Classical.byContradiction (fun hc => hn ⟨k, hk, hc⟩))
    rw [h] at this
    exact absurd this (by decide)
  · rintro ⟨k, k1, k2⟩
    cases hb : fe_ S j
    · rfl
    · exact absurd (fe_t.mp hb k k1) k2
theorem imm_near {k k' : Nat} (hn : 3 ≤ n) (h1 : S k) (h2 : S k') (hlt : k < k') (hle : k' ≤ k + 2) (hk : k' < n) : imm_ n S := by
  by_cases h : k' = k + 1
  · subst h
    by_cases h3 : k + 2 < n
    · exact ⟨k + 2, h3, k, Or.inl h1, Or.inl h2, Or.inr rfl⟩
    · exact ⟨k - 1, by omega, k - 1, Or.inr rfl, Or.inl (by rw [show k - 1 + 1 = k by omega]; exact h1), Or.inl (by rw [show k - 1 + 2 = k + 1 by omega]; exact h2)⟩
  · have : k' = k + 2 := by omega
    subst this
    exact ⟨k + 1, by omega, k, Or.inl h1, Or.inr rfl, Or.inl h2⟩
theorem imm_no (hs : ∀ k k' : Nat, S k → S k' → k < k' → k + 2 < k') : ¬ imm_ n S := by
  rintro ⟨i, _, q, h1, h2, h3⟩
  rcases h1 with h1 | h1
  · rcases h2 with h2 | h2
    · have := hs _ _ h1 h2 (by omega); omega
    · rcases h3 with h3 | h3
      · have := hs _ _ h1 h3 (by omega); omega
      · omega
  · rcases h2 with h2 | h2
    · rcases h3 with h3 | h3
      · have := hs _ _ h2 h3 (by omega); omega
      · omega
    · omega
theorem fe_ad {d j : Nat} : fe_ (ad_ S d) j = (fe_ S j && (decide (j + 2 < d) || decide (d + 2 < j))) := by
  cases hb : fe_ S j
  · rw [Bool.false_and]
    obtain ⟨k, k1, k2⟩ := fe_n.mp hb
    exact fe_n.mpr ⟨k, Or.inl k1, k2⟩
  · rw [Bool.true_and]
    cases hc : (decide (j + 2 < d) || decide (d + 2 < j))
    · rw [Bool.or_eq_false_iff, decide_eq_false_iff_not, decide_eq_false_iff_not] at hc
      exact fe_n.mpr ⟨d, Or.inr rfl, by omega⟩
    · rw [Bool.or_eq_true, decide_eq_true_eq, decide_eq_true_eq] at hc
      refine fe_t.mpr (fun k hk => ?_)
      rcases hk with hk | hk
      · exact fe_t.mp hb k hk
      · subst hk; omega
/-- the worth after a mark in a run -/
theorem X_ad (hs : ∀ k k' : Nat, S k → S k' → k < k' → k + 2 < k') {s e : Nat} (hr : rn_ (fe_ S) n s e) : ∃ A B : Nat, X_ n S = A ^^^ (W_ (e - s) ^^^ B) ∧ ∀ d : Nat, s ≤ d → d < e → X_ n (ad_ S d) = A ^^^ (hm_ (d - s) (e - s) ^^^ B) := by
  obtain ⟨A, B, hAB⟩ := sn_dec hr
  obtain ⟨r1, r2, r3, r4, r5⟩ := id hr
  refine ⟨A, B, ?_, ?_⟩
  · unfold X_
    rw [hAB (fe_ S) (fun _ _ => rfl), sn_run (e - s) s 0 (fun j j1 j2 => r3 j j1 (by omega)), Nat.zero_add]
  · intro d d1 d2
    unfold X_
    rw [hAB (fe_ (ad_ S d)) ?_]
    · have e1 : sn_ (fe_ (ad_ S d)) s 0 (e - s) = hm_ (d - s) (e - s) := by
        have := sn_sh (fr := fe_ (ad_ S d)) s (e - s) 0 0
        rw [Nat.add_zero] at this
        rw [this]
        unfold hm_
        apply sn_cg
        intro j j1 j2
        show fe_ (ad_ S d) (s + j) = _
        rw [fe_ad, r3 (s + j) (by omega) (by omega), Bool.true_and]
        have q1 : decide (s + j + 2 < d) = decide (j + 2 < d - s) := by
          rw [decide_eq_decide]; omega
        have q2 : decide (d + 2 < s + j) = decide (d - s + 2 < j) := by
          rw [decide_eq_decide]; omega
        rw [q1, q2]
      rw [e1]
    · intro j hj
      rw [fe_ad]
      cases hb : fe_ S j
      · rw [Bool.false_and]
      · rw [Bool.true_and, Bool.or_eq_true, decide_eq_true_eq, decide_eq_true_eq]
        have hjf := fe_t.mp hb
        apply Classical.byContradiction
        intro hc
        rcases hj with hj | hj
        · have hs0 : s ≠ 0 := by omega
          have h4 : fe_ S (s - 1) = false := by
            rcases r4 with r4 | r4
            · exact absurd r4 hs0
            · exact r4
          obtain ⟨k, k1, k2⟩ := fe_n.mp h4
          have hsf := fe_t.mp (r3 s (Nat.le_refl s) r1) k k1
          have := hjf k k1
          omega
        · have h5 : fe_ S e = false := by
            rcases r5 with r5 | r5
            · omega
            · exact r5
          obtain ⟨k, k1, k2⟩ := fe_n.mp h5
          have hsf := fe_t.mp (r3 (e - 1) (by omega) (by omega)) k k1
          have := hjf k k1
          omega
theorem ply_ (hn : 3 ≤ n) (h18 : n ≤ 18) (hS : ∀ k : Nat, S k → k < n) (h3 : ¬ thr_ S) : (∃ d : Nat, d < n ∧ ¬ S d ∧ (thr_ (ad_ S d) ∨ ¬ cwin_ n (ad_ S d))) ↔ cwin_ n S := by
  by_cases him : imm_ n S
  · refine ⟨fun _ => Or.inl him, fun _ => ?_⟩
    obtain ⟨i, i1, i2⟩ := him
    refine ⟨i, i1, fun hi => h3 ?_, Or.inl i2⟩
    obtain ⟨k, k1, k2, k3⟩ := i2
    have e : ∀ x : Nat, ad_ S i x → S x := by
      intro x hx
      rcases hx with hx | hx
      · exact hx
      · rw [hx]; exact hi
    exact ⟨k, e _ k1, e _ k2, e _ k3⟩
  · have hs : ∀ k k' : Nat, S k → S k' → k < k' → k + 2 < k' := by
      intro k k' a b c
      apply Classical.byContradiction
      intro hc
      exact him (imm_near hn a b c (by omega) (hS k' b))
    have wle : ∀ s e : Nat, e ≤ n → W_ (e - s) ≤ 4 := fun s e h => W_le ⟨e - s, by omega⟩
    constructor
    · rintro ⟨d, d1, d2, d3⟩
      rcases d3 with d3 | d3
      · exact absurd ⟨d, d1, d3⟩ him
      · right
        have d4 : ¬ imm_ n (ad_ S d) := fun h => d3 (Or.inl h)
        have d5 : X_ n (ad_ S d) = 0 := Classical.byContradiction (fun h => d3 (Or.inr h))
        have hfree : fe_ S d = true := by
          refine fe_t.mpr (fun k hk => ?_)
          apply Classical.byContradiction
          intro hc
          apply d4
          by_cases hkd : k < d
          · exact imm_near hn (Or.inl hk) (Or.inr rfl) hkd (by omega) d1
          · have : k ≠ d := fun e => d2 (by rw [← e]; exact hk)
            exact imm_near hn (Or.inr rfl) (Or.inl hk) (show d < k by omega) (by omega) (hS k hk)
        obtain ⟨s, e, r1, r2, r3⟩ := rn_at d1 hfree
        obtain ⟨A, B, x1, x2⟩ := X_ad hs r1
        have q := (hmk_ok ⟨e - s, by have := r1.2.1; omega⟩).1 ⟨d - s, by have := r1.2.1; omega⟩ (by show d - s < e - s; omega)
        have x3 := x2 d r2 r3
        rw [d5] at x3
        intro x0
        rw [x0] at x1
        apply q
        show hm_ (d - s) (e - s) = W_ (e - s)
        have x4 := x3.symm.trans x1
        have x5 := xcl_ x4
        rw [Nat.xor_comm _ B, Nat.xor_comm _ B] at x5
        exact xcl_ x5
    · intro hc
      have hx : X_ n S ≠ 0 := by
        rcases hc with hc | hc
        · exact absurd hc him
        · exact hc
      have hx8 : X_ n S < 8 := sn_8 n 0 0 (by omega)
      obtain ⟨b, b1, b2⟩ := xr_ok ⟨X_ n S, hx8⟩ (by show 0 < X_ n S; omega)
      obtain ⟨s, e, r1, r2⟩ := rn_bit (fr := fe_ S) (b := b.val) n 0 0 (Nat.le_refl 0) (fun j h1 h2 => by omega) (Or.inl rfl) b1
      rw [Nat.zero_add] at r1
      have hw := wle s e r1.2.1
      have lt := b2 ⟨W_ (e - s), by omega⟩ r2
      have lt' : W_ (e - s) ^^^ X_ n S < W_ (e - s) := lt
      obtain ⟨p, p1, p2⟩ := (hmk_ok ⟨e - s, by have := r1.2.1; omega⟩).2 ⟨W_ (e - s) ^^^ X_ n S, by omega⟩ lt
      have p1' : p.val < e - s := p1
      have p2' : hm_ p.val (e - s) = W_ (e - s) ^^^ X_ n S := p2
      obtain ⟨A, B, x1, x2⟩ := X_ad hs r1
      have hse := r1.1
      have hen := r1.2.1
      have hfree := fe_t.mp (r1.2.2.1 (s + p.val) (by omega) (by omega))
      have hnd : ¬ S (s + p.val) := fun h => by have := hfree _ h; omega
      refine ⟨s + p.val, by omega, hnd, Or.inr ?_⟩
      have x3 := x2 (s + p.val) (by omega) (by omega)
      rw [show s + p.val - s = p.val by omega, p2'] at x3
      have x4 : X_ n (ad_ S (s + p.val)) = 0 := by
        rw [x3, Nat.xor_comm (W_ (e - s)) (X_ n S), Nat.xor_assoc, ← Nat.xor_assoc A (X_ n S), Nat.xor_comm A (X_ n S), Nat.xor_assoc, ← x1, Nat.xor_self]
      intro hcl
      rcases hcl with hcl | hcl
      · refine imm_no (n := n) ?_ hcl
        intro k k' a b c
        rcases a with a | a
        · rcases b with b | b
          · exact hs k k' a b c
          · have := hfree k a; omega
        · rcases b with b | b
          · have := hfree k' b; omega
          · omega
      · exact hcl x4
end PLY
