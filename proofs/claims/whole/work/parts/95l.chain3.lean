/-! chain: the reference's sets -/
def nr_ (nx : Nat → Nat) (r : Nat → Int32) : Prop := ∀ i : Nat, i < 10 → (nx i < 10 ∧ r i = nI (nx i + 2)) ∨ (nx i = 10 ∧ r i = 0) ∨ (nx i = 11 ∧ r i = 1)
section MC
variable {F S : Nat} {σ : nd_Mem} {nx v : Nat → Nat}
theorem tb10_ {i : Nat} (hS : S < 1024) (h : S.testBit i = true) : i < 10 := by
  apply Classical.byContradiction
  intro hn
  have h1 : S.testBit i = false := Nat.testBit_lt_two_pow (Nat.lt_of_lt_of_le hS (show 2 ^ 10 ≤ 2 ^ i from Nat.pow_le_pow_right (by decide) (by omega)))
  rw [h1] at h
  exact absurd h (by decide)
theorem m_can_ (hS : S < 1024) (hr : nr_ nx (σ 95)) : ∀ (d x f T : Nat), x + d = 10 → d < f → T < 1024 → (∀ j : Nat, T.testBit j = true ↔ ∃ a : Nat, a < x ∧ S.testBit a = true ∧ nx a = j) → (∀ a : Nat, a < x → S.testBit a = true → nx a < 10 ∧ (S.testBit (nx a) = true ∨ em_ nx (nx a))) → (∀ a b : Nat, a < x → b < x → S.testBit a = true → S.testBit b = true → nx a = nx b → a = b) → (f_X11_canMove_4 F f (nI S) (nI T) (nI x) σ = some (1, σ) ∧ mv_ nx (fun a => S.testBit a = true)) ∨ (f_X11_canMove_4 F f (nI S) (nI T) (nI x) σ = some (0, σ) ∧ ¬ mv_ nx (fun a => S.testBit a = true)) := by
  intro d
  induction d with
  | zero =>
    intro x f T hx hf hT h1 h2 h3
    obtain ⟨f, rfl⟩ : ∃ g, f = g + 1 := ⟨f - 1, by omega⟩
    have : x = 10 := by omega
    subst this
    left
    refine ⟨?_, ?_, ?_⟩
    · show f_X11_canMove_4_b F _ _ _ _ σ = _
      unfold f_X11_canMove_4_b
      rw [if_pos (by decide)]
    · intro a ha
      have hlt := tb10_ hS ha
      exact ⟨hlt, h2 a hlt ha⟩
    · intro a b ha hb he
      exact h3 a b (tb10_ hS ha) (tb10_ hS hb) ha hb he
  | succ d ih =>
    intro x f T hx hf hT h1 h2 h3
    obtain ⟨f, rfl⟩ : ∃ g, f = g + 1 := ⟨f - 1, by omega⟩
    have hx10 : x < 10 := by omega
    have head : f_X11_canMove_4 F (f + 1) (nI S) (nI T) (nI x) σ = (if (if S.testBit x = true then (1 : Int32) else 0) = 0 then f_X11_canMove_4 F f (nI S) (nI T) (nI (x + 1)) σ else (if ((σ 95 x) - (2 : Int32)) < 0 then some (0, σ) else (nd_bind (f_X11_has F (nI T) ((σ 95 x) - (2 : Int32)) σ) fun r4 σ5 => (if r4 = 0 then (if ((σ 95 x) - (2 : Int32)) < 0 ∨ 10 ≤ (((σ 95 x) - (2 : Int32))).toNatClampNeg then none else (if (σ5 95 (((σ 95 x) - (2 : Int32))).toNatClampNeg) = (1 : Int32) then f_X11_canMove_4 F f (nI S) (nI T ||| ((1 : Int32) <<< (((σ 95 x) - (2 : Int32)) &&& 31))) (nI (x + 1)) σ5 else (nd_bind (f_X11_has F (nI S) ((σ 95 x) - (2 : Int32)) σ5) fun r7 σ8 => (if r7 = 0 then some (0, σ8) else f_X11_canMove_4 F f (nI S) (nI T ||| ((1 : Int32) <<< (((σ 95 x) - (2 : Int32)) &&& 31))) (nI (x + 1)) σ8)))) else some (0, σ5))))) := by
      show f_X11_canMove_4_b F _ _ _ _ σ = _
      unfold f_X11_canMove_4_b f_X11_canMove_70 f_X11_canMove_77 f_X11_canMove_68
      rw [if_neg (show ¬ (10 : Int32) ≤ nI x from nI_ge (b := 10) hx10 (by decide)), hs_bit (by omega) (by omega), n_bind, if_neg (nI_in (by omega) (by decide)), nI_clamp (by omega), nI_1]
    rw [head]
    cases hb : S.testBit x
    · rw [if_pos (by decide)]
      refine ih (x + 1) f T (by omega) (by omega) hT ?_ ?_ ?_
      · intro j
        rw [h1]
        constructor
        · rintro ⟨a, a1, a2, a3⟩
          exact ⟨a, by omega, a2, a3⟩
        · rintro ⟨a, a1, a2, a3⟩
          refine ⟨a, ?_, a2, a3⟩
          have : a ≠ x := fun e => by rw [e, hb] at a2; exact absurd a2 (by decide)
          omega
      · intro a a1 a2
        have : a ≠ x := fun e => by rw [e, hb] at a2; exact absurd a2 (by decide)
        exact h2 a (by omega) a2
      · intro a b a1 b1 a2 b2 he
        have n1 : a ≠ x := fun e => by rw [e, hb] at a2; exact absurd a2 (by decide)
        have n2 : b ≠ x := fun e => by rw [e, hb] at b2; exact absurd b2 (by decide)
        exact h3 a b (by omega) (by omega) a2 b2 he
    · rw [if_neg (by decide)]
      rcases hr x hx10 with ⟨r1, r2⟩ | ⟨r1, r2⟩ | ⟨r1, r2⟩
      · have e0 : σ 95 x - (2 : Int32) = nI (nx x) := by rw [r2]; exact n_sub (a := nx x + 2) (b := 2) (by omega)
        rw [e0, if_neg (nI_pos (by omega)), hs_bit (by omega) (by omega), n_bind]
        cases ht : T.testBit (nx x)
        · rw [if_pos (by decide), if_neg (nI_in (by omega) (by decide)), nI_clamp (by omega)]
          have h1i : (1 : Int32) <<< (nI (nx x) &&& 31) = nI (2 ^ nx x) := n_one (by omega)
          rw [h1i, n_or]
          have hT' : T ||| 2 ^ nx x < 1024 := Nat.or_lt_two_pow (n := 10) hT (Nat.pow_lt_pow_right (by decide) r1)
          have go : (S.testBit (nx x) = true ∨ em_ nx (nx x)) → (f_X11_canMove_4 F f (nI S) (nI (T ||| 2 ^ nx x)) (nI (x + 1)) σ = some (1, σ) ∧ mv_ nx (fun a => S.testBit a = true)) ∨ (f_X11_canMove_4 F f (nI S) (nI (T ||| 2 ^ nx x)) (nI (x + 1)) σ = some (0, σ) ∧ ¬ mv_ nx (fun a => S.testBit a = true)) := by
            intro hor
            have fresh : ∀ a : Nat, a < x → S.testBit a = true → nx a ≠ nx x := by
              intro a a1 a2 e
              have := (h1 (nx x)).mpr ⟨a, a1, a2, e⟩
              rw [ht] at this
              exact absurd this (by decide)
            refine ih (x + 1) f _ (by omega) (by omega) hT' ?_ ?_ ?_
            · intro j
              rw [Nat.testBit_or, Bool.or_eq_true, h1, Nat.testBit_two_pow, decide_eq_true_eq]
              constructor
              · rintro (⟨a, a1, a2, a3⟩ | e)
                · exact ⟨a, by omega, a2, a3⟩
                · exact ⟨x, by omega, hb, e⟩
              · rintro ⟨a, a1, a2, a3⟩
                by_cases hax : a = x
                · subst hax; exact Or.inr a3
                · exact Or.inl ⟨a, by omega, a2, a3⟩
            · intro a a1 a2
              by_cases hax : a = x
              · subst hax; exact ⟨r1, hor⟩
              · exact h2 a (by omega) a2
            · intro a b a1 b1 a2 b2 he
              by_cases hax : a = x
              · by_cases hbx : b = x
                · rw [hax, hbx]
                · rw [hax] at he
                  exact absurd he.symm (fresh b (by omega) b2)
              · by_cases hbx : b = x
                · rw [hbx] at he
                  exact absurd he (fresh a (by omega) a2)
                · exact h3 a b (by omega) (by omega) a2 b2 he
          by_cases hem : nx (nx x) = 11
          · have e1 : σ 95 (nx x) = 1 := by
              rcases hr (nx x) r1 with ⟨q1, q2⟩ | ⟨q1, q2⟩ | ⟨q1, q2⟩
              · omega
              · omega
              · exact q2
            rw [if_pos e1]
            exact go (Or.inr ⟨r1, hem⟩)
          · have e1 : ¬ σ 95 (nx x) = 1 := by
              rcases hr (nx x) r1 with ⟨q1, q2⟩ | ⟨q1, q2⟩ | ⟨q1, q2⟩
              · rw [q2]
                intro e
                have := (nI_eq (a := nx (nx x) + 2) (b := 1) (by omega) (by decide)).mp e
                omega
              · rw [q2]; decide
              · exact absurd q1 hem
            rw [if_neg e1, hs_bit (by omega) (by omega), n_bind]
            cases hsb : S.testBit (nx x)
            · rw [if_pos (by decide)]
              right
              refine ⟨rfl, fun hm => ?_⟩
              rcases (hm.1 x hb).2.2 with e | e
              · rw [hsb] at e; exact absurd e (by decide)
              · exact hem e.2
            · rw [if_neg (by decide)]
              exact go (Or.inl hsb)
        · rw [if_neg (by decide)]
          right
          refine ⟨rfl, fun hm => ?_⟩
          obtain ⟨a, a1, a2, a3⟩ := (h1 (nx x)).mp ht
          have := hm.2 a x a2 hb a3
          omega
      · rw [r2, if_pos (by decide)]
        right
        refine ⟨rfl, fun hm => ?_⟩
        have := (hm.1 x hb).2.1
        omega
      · rw [r2, if_pos (by decide)]
        right
        refine ⟨rfl, fun hm => ?_⟩
        have := (hm.1 x hb).2.1
        omega
theorem m_can (hF : 300000 ≤ F) (hS : S < 1024) (hr : nr_ nx (σ 95)) : (f_X11_canMove F (nI S) σ = some (1, σ) ∧ mv_ nx (fun a => S.testBit a = true)) ∨ (f_X11_canMove F (nI S) σ = some (0, σ) ∧ ¬ mv_ nx (fun a => S.testBit a = true)) :=
  m_can_ (F := F) hS hr 10 0 F 0 (by omega) (by omega) (by decide) (fun j => ⟨fun h => by rw [Nat.zero_testBit] at h; exact absurd h (by decide), fun ⟨a, a1, _⟩ => by omega⟩) (fun a h => by omega) (fun a b h => by omega)
theorem m_chain_ (hF : 300000 ≤ F) (hr : nr_ nx (σ 95)) : ∀ (d S f b : Nat), S + d = 1024 → d < f → b ≤ 10 → ∃ b' : Nat, f_X11_chain_9 F f (nI b) (nI S) σ = some (nI b', σ) ∧ b ≤ b' ∧ (∀ s : Nat, S ≤ s → s < 1024 → mv_ nx (fun a => s.testBit a = true) → pc_ 10 s ≤ b') ∧ (b' = b ∨ ∃ s : Nat, s < 1024 ∧ mv_ nx (fun a => s.testBit a = true) ∧ b' = pc_ 10 s) := by
  intro d
  induction d with
  | zero =>
    intro S f b hS hf hb
    obtain ⟨f, rfl⟩ : ∃ g, f = g + 1 := ⟨f - 1, by omega⟩
    refine ⟨b, ?_, Nat.le_refl b, fun s h1 h2 => by omega, Or.inl rfl⟩
    have : S = 1024 := by omega
    subst this
    show f_X11_chain_9_b F _ _ _ σ = _
    unfold f_X11_chain_9_b
    rw [if_pos (by decide)]
  | succ d ih =>
    intro S f b hS hf hb
    obtain ⟨f, rfl⟩ : ∃ g, f = g + 1 := ⟨f - 1, by omega⟩
    have hS' : S < 2 ^ 10 := by omega
    have hpc := pc_le 10 S
    have step : f_X11_chain_9 F (f + 1) (nI b) (nI S) σ = (if nI (pc_ 10 S) ≤ nI b then f_X11_chain_9 F f (nI b) (nI (S + 1)) σ else (nd_bind (f_X11_canMove F (nI S) σ) fun r4 σ5 => (if r4 = 0 then f_X11_chain_9 F f (nI b) (nI (S + 1)) σ5 else (nd_bind (f_X11_onesOf F (nI S) σ5) fun r7 σ8 => f_X11_chain_9 F f r7 (nI (S + 1)) σ8)))) := by
      show f_X11_chain_9_b F _ _ _ σ = _
      unfold f_X11_chain_9_b f_X11_chain_39
      rw [if_neg (show ¬ (1024 : Int32) ≤ nI S from nI_ge (b := 1024) (by omega) (by decide)), e_ones (k := 10) hF (by decide) hS', n_bind, nI_1]
    rw [step]
    by_cases hle : pc_ 10 S ≤ b
    · rw [if_pos (nI_le hle (by omega))]
      obtain ⟨b', q1, q2, q3, q4⟩ := ih (S + 1) f b (by omega) (by omega) hb
      refine ⟨b', q1, q2, fun s h1 h2 h3 => ?_, q4⟩
      by_cases hs : s = S
      · subst hs; omega
      · exact q3 s (by omega) h2 h3
    · rw [if_neg (nI_ge (by omega) (by omega))]
      rcases m_can (F := F) (σ := σ) hF (show S < 1024 by omega) hr with ⟨c1, c2⟩ | ⟨c1, c2⟩
      · rw [c1, n_bind, if_neg n10, e_ones (k := 10) hF (by decide) hS', n_bind]
        obtain ⟨b', q1, q2, q3, q4⟩ := ih (S + 1) f (pc_ 10 S) (by omega) (by omega) hpc
        refine ⟨b', q1, by omega, fun s h1 h2 h3 => ?_, ?_⟩
        · by_cases hs : s = S
          · subst hs; omega
          · exact q3 s (by omega) h2 h3
        · rcases q4 with q4 | q4
          · exact Or.inr ⟨S, by omega, c2, q4⟩
          · exact Or.inr q4
      · rw [c1, n_bind, if_pos rfl]
        obtain ⟨b', q1, q2, q3, q4⟩ := ih (S + 1) f b (by omega) (by omega) hb
        refine ⟨b', q1, q2, fun s h1 h2 h3 => ?_, q4⟩
        by_cases hs : s = S
        · subst hs; exact absurd h3 c2
        · exact q3 s (by omega) h2 h3
theorem pc_nd : ∀ (l : List Nat), l.Nodup → (∀ x ∈ l, x < 10) → pc_ 10 (mk_ l) = l.length := by
  intro l
  rw [pc_bs]
  induction l with
  | nil => intro _ _; decide
  | cons x l ih =>
    intro nd hl
    have nd' := List.nodup_cons.mp nd
    have hx := hl x List.mem_cons_self
    show bs_ (mk_ l ||| 2 ^ x) 10 = _
    have hnx : (mk_ l).testBit x = false := by
      cases hc : (mk_ l).testBit x
      · rfl
      · exact absurd ((mk_tb _ _).mp hc) nd'.1
    rw [bs_or hnx 10, ih nd'.2 (fun z hz => hl z (List.mem_cons_of_mem x hz)), if_pos hx]
    rfl
/-- the bits of a set as a row -/
def bl_ (S : Nat) : Nat → List Nat
  | 0 => []
  | k + 1 => if S.testBit k = true then k :: bl_ S k else bl_ S k
theorem bl_mem : ∀ (k a : Nat), a ∈ bl_ S k → a < k ∧ S.testBit a = true := by
  intro k
  induction k with
  | zero => intro a h; cases h
  | succ k ih =>
    intro a h
    unfold bl_ at h
    by_cases hk : S.testBit k = true
    · rw [if_pos hk] at h
      rcases List.mem_cons.mp h with e | e
      · subst e; exact ⟨by omega, hk⟩
      · have := ih a e
        exact ⟨by omega, this.2⟩
    · rw [if_neg hk] at h
      have := ih a h
      exact ⟨by omega, this.2⟩
theorem bl_nd : ∀ k : Nat, (bl_ S k).Nodup := by
  intro k
  induction k with
  | zero => exact List.Pairwise.nil
  | succ k ih =>
    unfold bl_
    by_cases hk : S.testBit k = true
    · rw [if_pos hk]
      refine List.nodup_cons.mpr ⟨fun h => ?_, ih⟩
      have := (bl_mem k k h).1
      omega
    · rw [if_neg hk]; exact ih
theorem bl_len : ∀ k : Nat, (bl_ S k).length = bs_ S k := by
  intro k
  induction k with
  | zero => rfl
  | succ k ih =>
    unfold bl_ bs_
    by_cases hk : S.testBit k = true
    · rw [if_pos hk, if_pos hk, ← ih]; rfl
    · rw [if_neg hk, if_neg hk, ← ih]; rfl
theorem m_chain (hF : 300000 ≤ F) (hr : nr_ nx (σ 95)) (hv : vl_ nx v) : f_X11_chain_9 F F 0 0 σ = some (nI (sm_ v 10), σ) := by
  obtain ⟨b', q1, q2, q3, q4⟩ := m_chain_ (F := F) (σ := σ) hF hr 1024 0 F 0 (by omega) (by omega) (by omega)
  have e : b' = sm_ v 10 := by
    have up : b' ≤ sm_ v 10 := by
      rcases q4 with q4 | ⟨s, s1, s2, s3⟩
      · omega
      · rw [s3, pc_bs, ← bl_len]
        exact mv_ub s2 hv (bl_ s 10) (fun a ha => (bl_mem 10 a ha).2) (bl_nd 10)
    have lo : sm_ v 10 ≤ b' := by
      obtain ⟨l, l1, l2, l3⟩ := mv_lb hv
      have hl : ∀ x ∈ l, x < 10 := fun x hx => (l3.1 x hx).1
      have h1 := q3 (mk_ l) (Nat.zero_le _) (mk_lt (h := 10) l hl) (by
        have : (fun a => (mk_ l).testBit a = true) = (fun a => a ∈ l) := funext (fun a => propext (mk_tb l a))
        rw [this]
        exact l3)
      rw [pc_nd l l1 hl, l2] at h1
      exact h1
    omega
  rw [← e]
  exact q1
end MC
