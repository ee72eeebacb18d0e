/-! how many ones -/
def pc_ : Nat → Nat → Nat
  | 0, _ => 0
  | k + 1, x => x % 2 + pc_ k (x / 2)
theorem and_d2 (a b : Nat) : (a &&& b) / 2 = (a / 2) &&& (b / 2) := by
  apply Nat.eq_of_testBit_eq
  intro i
  rw [← Nat.testBit_succ, Nat.testBit_and, Nat.testBit_and, Nat.testBit_succ, Nat.testBit_succ]
theorem and_m2 {a b : Nat} (h : ¬ (a % 2 = 1 ∧ b % 2 = 1)) : (a &&& b) % 2 = 0 := by
  have h1 : (a &&& b).testBit 0 = (a.testBit 0 && b.testBit 0) := Nat.testBit_and a b 0
  rw [Nat.testBit_zero, Nat.testBit_zero, Nat.testBit_zero] at h1
  have h2 : ¬ (a &&& b) % 2 = 1 := by
    intro e
    rw [e] at h1
    simp only [decide_true] at h1
    have := h1.symm
    simp only [Bool.and_eq_true, decide_eq_true_eq] at this
    exact h this
  omega
theorem pc_and : ∀ (k x : Nat), 0 < x → x < 2 ^ k → pc_ k x = pc_ k (x &&& (x - 1)) + 1 ∧ x &&& (x - 1) < x := by
  intro k
  induction k with
  | zero => intro x h0 h1; simp at h1; omega
  | succ k ih =>
    intro x h0 h1
    refine ⟨?_, Nat.lt_of_le_of_lt Nat.and_le_right (by omega)⟩
    show x % 2 + pc_ k (x / 2) = (x &&& (x - 1)) % 2 + pc_ k ((x &&& (x - 1)) / 2) + 1
    rw [and_m2 (by omega), and_d2]
    by_cases hx : x % 2 = 1
    · rw [show (x - 1) / 2 = x / 2 by omega, Nat.and_self]
      omega
    · rw [show (x - 1) / 2 = x / 2 - 1 by omega]
      have := (ih (x / 2) (by omega) (by rw [Nat.pow_succ] at h1; omega)).1
      omega
theorem pc_0 : ∀ (k x : Nat), x < 2 ^ k → pc_ k x = 0 → x = 0 := by
  intro k x hx h
  apply Classical.byContradiction
  intro hne
  have := (pc_and k x (by omega) hx).1
  omega
theorem pc_le : ∀ (k x : Nat), pc_ k x ≤ k := by
  intro k
  induction k with
  | zero => intro x; exact Nat.le_refl 0
  | succ k ih =>
    intro x
    have := ih (x / 2)
    show x % 2 + pc_ k (x / 2) ≤ k + 1
    omega
theorem e_ones_ {F k : Nat} {σ : nd_Mem} (hk : k ≤ 30) : ∀ (p x a f : Nat), pc_ k x = p → x < 2 ^ k → p < f → f_X11_onesOf_4 F f (nI a) (nI x) σ = some (nI (a + p), σ) := by
  have h30 : 2 ^ k ≤ 2 ^ 30 := Nat.pow_le_pow_right (by decide) hk
  intro p
  induction p with
  | zero =>
    intro x a f hp hx hf
    obtain ⟨f, rfl⟩ : ∃ g, f = g + 1 := ⟨f - 1, by omega⟩
    have := pc_0 k x hx hp
    subst this
    show f_X11_onesOf_4_b F _ _ _ σ = _
    unfold f_X11_onesOf_4_b
    rw [if_pos nI_0]
    rfl
  | succ p ih =>
    intro x a f hp hx hf
    obtain ⟨f, rfl⟩ : ∃ g, f = g + 1 := ⟨f - 1, by omega⟩
    have h0 : 0 < x := by
      apply Nat.pos_of_ne_zero
      intro e
      subst e
      have : ∀ k : Nat, pc_ k 0 = 0 := by
        intro k
        induction k with
        | zero => rfl
        | succ k ih => show 0 % 2 + pc_ k (0 / 2) = 0; simpa using ih
      rw [this] at hp
      omega
    obtain ⟨h1, h2⟩ := pc_and k x h0 hx
    show f_X11_onesOf_4_b F _ _ _ σ = _
    unfold f_X11_onesOf_4_b
    rw [if_neg (nI_ne0 h0 (by omega)), nI_1, show nI x - 1 = nI (x - 1) from n_sub (b := 1) h0, n_and, ih _ (a + 1) f (by omega) (by omega) (by omega), show a + 1 + p = a + (p + 1) by omega]
theorem e_ones {F k x : Nat} {σ : nd_Mem} (hF : 300000 ≤ F) (hk : k ≤ 30) (hx : x < 2 ^ k) : f_X11_onesOf F (nI x) σ = some (nI (pc_ k x), σ) := by
  unfold f_X11_onesOf
  have := pc_le k x
  have h := e_ones_ (F := F) (σ := σ) hk (pc_ k x) x 0 F rfl hx (by omega)
  rw [Nat.zero_add] at h
  exact h
/-- the ones among the first j -/
def bs_ (x : Nat) : Nat → Nat
  | 0 => 0
  | j + 1 => bs_ x j + if x.testBit j = true then 1 else 0
theorem bs_s (x : Nat) : ∀ k : Nat, bs_ x (k + 1) = x % 2 + bs_ (x / 2) k := by
  intro k
  induction k with
  | zero =>
    show 0 + (if x.testBit 0 = true then 1 else 0) = x % 2 + 0
    rw [Nat.testBit_zero]
    by_cases h : x % 2 = 1
    · simp [h]
    · simp only [h, decide_false]
      have : x % 2 = 0 := by omega
      rw [this]
      rfl
  | succ k ih =>
    show bs_ x (k + 1) + (if x.testBit (k + 1) = true then 1 else 0) = x % 2 + (bs_ (x / 2) k + if (x / 2).testBit k = true then 1 else 0)
    rw [ih, Nat.testBit_succ]
    omega
theorem pc_bs : ∀ (k x : Nat), pc_ k x = bs_ x k := by
  intro k
  induction k with
  | zero => intro x; rfl
  | succ k ih =>
    intro x
    rw [bs_s, ← ih]
    rfl
/-- a number out of its bits -/
def bn_ (r : Nat → Bool) : Nat → Nat
  | 0 => 0
  | j + 1 => bn_ r j ||| (if r j = true then 2 ^ j else 0)
theorem bn_lt (r : Nat → Bool) : ∀ k : Nat, bn_ r k < 2 ^ k := by
  intro k
  induction k with
  | zero => exact (by decide : 0 < 2 ^ 0)
  | succ k ih =>
    show bn_ r k ||| _ < _
    have hp : 2 ^ k < 2 ^ (k + 1) := Nat.pow_lt_pow_right (by decide) (by omega)
    apply Nat.or_lt_two_pow (by omega)
    by_cases h : r k = true
    · rw [if_pos h]; exact hp
    · rw [if_neg h]; omega
theorem bn_tb (r : Nat → Bool) : ∀ k i : Nat, (bn_ r k).testBit i = (decide (i < k) && r i) := by
  intro k
  induction k with
  | zero => intro i; show (0 : Nat).testBit i = _; simp
  | succ k ih =>
    intro i
    show (bn_ r k ||| _).testBit i = _
    rw [Nat.testBit_or, ih]
    by_cases hi : i = k
    · subst hi
      by_cases h : r i = true
      · rw [if_pos h, Nat.testBit_two_pow_self, h]; simp
      · rw [if_neg h]; simp [h]
    · by_cases h : r k = true
      · rw [if_pos h, Nat.testBit_two_pow_of_ne (Ne.symm hi)]
        have : decide (i < k + 1) = decide (i < k) := by
          congr 1
          exact propext ⟨fun _ => by omega, fun _ => by omega⟩
        rw [this, Bool.or_false]
      · rw [if_neg h]
        have : decide (i < k + 1) = decide (i < k) := by
          congr 1
          exact propext ⟨fun _ => by omega, fun _ => by omega⟩
        rw [this]
        simp
