/-! THE INVARIANT: the class's rows against the reference's -/
/-- v is a number of lo .. hi -/
def iv_bt (v : Int32) (lo hi : Nat) : Prop := ∃ n : Nat, lo ≤ n ∧ n ≤ hi ∧ v = nI n
/-- two rows of told numbers, m at most, each of lo .. hi -/
def iv_row (m lo hi : Nat) (z : Int32) (a : Nat → Int32) (z' : Int32) (a' : Nat → Int32) : Prop := ∃ n : Nat, n ≤ m ∧ z = nI n ∧ z' = nI n ∧ ∀ i : Nat, i < n → a i = a' i ∧ iv_bt (a' i) lo hi
/-- who wants which house -/
def iv_want (w v : Int32) : Prop := (w = -1 ∧ v = 0) ∨ (w = -2 ∧ v = 1) ∨ ∃ b : Nat, b < 10 ∧ w = nI b ∧ v = nI (b + 2)
/-- persons -/
def iv_pers (z : Int32) (a : Nat → Int32) (z' : Int32) (p q : Nat → Int32) : Prop := ∃ n : Nat, n ≤ 14 ∧ z = nI n ∧ z' = nI n ∧ ∀ i : Nat, i < n → (a i = -1 ∧ p i = 0 ∧ q i = 0) ∨ ∃ x y : Nat, x < i ∧ y < i ∧ x ≠ y ∧ a i = nI (16 * x + y) ∧ p i = nI (x + 1) ∧ q i = nI (y + 1)
/-- couples: the list cs of the told ones, the reference's sets -/
def iv_coup (z : Int32) (a : Nat → Int32) (z' : Int32) (w p q : Nat → Int32) : Prop := ∃ cs : List (Nat × Nat), cs.length ≤ 6 ∧ z = nI cs.length ∧ z' = nI cs.length ∧ (∀ (i : Nat) (c : Nat × Nat), cs[i]? = some c → c.1 < 9 ∧ c.2 < 9 ∧ c.1 ≠ c.2 ∧ a i = nI (16 * c.1 + c.2)) ∧
  ∀ x : Nat, x < 9 → (∃ m : Nat, m < 512 ∧ w x = nI m ∧ ∀ y : Nat, m.testBit y = decide ((x, y) ∈ cs ∨ (y, x) ∈ cs)) ∧ (∃ m : Nat, m < 512 ∧ p x = nI m ∧ ∀ y : Nat, m.testBit y = decide ((x, y) ∈ cs)) ∧ ∃ m : Nat, m < 512 ∧ q x = nI m ∧ ∀ y : Nat, m.testBit y = decide ((y, x) ∈ cs)
/-- all that is told for thought; s: the class's memory from the Told cell b on; r: the reference's numbers and rows -/
def iv_told (σ : nd_Mem) (b : Nat) (cm : Int32) (ch : Nat → Int32) (bm : Int32) (bw bp bq : Nat → Int32) (dm : Int32) (ds : Nat → Int32) (pm : Int32) (pu po : Nat → Int32) (hm : Int32) (hs wn : Nat → Int32) : Prop :=
  iv_row 12 0 1 (σ (b + 1) 1) (σ (b + 2)) cm ch ∧ iv_coup (σ (b + 3) 1) (σ (b + 4)) bm bw bp bq ∧ iv_row 10 0 60 (σ (b + 5) 1) (σ (b + 6)) dm ds ∧ iv_pers (σ (b + 7) 1) (σ (b + 8)) pm pu po ∧ iv_row 10 1 60 (σ (b + 9) 1) (σ (b + 10)) hm hs ∧ ∀ i : Nat, i < 10 → iv_want (σ (b + 11) i) (wn i)
def iv_T (σ : nd_Mem) : Prop := iv_told σ 12 (σ 60 40) (σ 81) (σ 60 45) (σ 85) (σ 86) (σ 87) (σ 60 50) (σ 89) (σ 60 54) (σ 92) (σ 93) (σ 60 61) (σ 96) (σ 95)
/-! a Row of the class -/
section RW
variable {F : Nat} {σ : nd_Mem} {b a m : Nat}
theorem e_clear : f_X4_clear F b a m σ = some (0, nd_up σ b 1 0) := by
  unfold f_X4_clear nd_let
  simp [nd_up]
theorem e_add_full {n : Nat} (hn : σ b 1 = nI n) (hm : m < 2 ^ 31) (h : m ≤ n) (hn2 : n < 2 ^ 31) (x : Int32) : f_X4_add F b a m x σ = some (-1, σ) := by
  unfold f_X4_add
  rw [hn, if_neg]
  exact nI_nlt h hn2
theorem e_add {n : Nat} (hab : a ≠ b) (hn : σ b 1 = nI n) (hm : m < 2 ^ 31) (h : n < m) (x : Int32) : f_X4_add F b a m x σ = some (nI (n + 1), nd_up (nd_up σ a n x) b 1 (nI (n + 1))) := by
  unfold f_X4_add nd_let
  rw [hn, show Int32.ofNat m = nI m from rfl, if_pos (nI_lt h hm), if_neg (nI_in h hm), nI_clamp (by omega)]
  dsimp only
  have e1 : nd_up σ a n x b 1 = nI n := by rw [nd_up_ne (Ne.symm hab)]; exact hn
  rw [e1, nI_1]
  simp [nd_up]
end RW
/-- what telling does to a row of the class: the answer and the memory -/
def q_tell (b a m : Nat) (n : Nat) (x lo hi : Int32) (σ : nd_Mem) : Int32 × nd_Mem := if x = -1 then (0, nd_up σ b 1 0) else if x < lo ∨ hi < x then (-1, σ) else if m ≤ n then (-1, σ) else (nI (n + 1), nd_up (nd_up σ a n x) b 1 (nI (n + 1)))
theorem e_tell {F : Nat} {σ : nd_Mem} {b a m n : Nat} (hab : a ≠ b) (hn : σ b 1 = nI n) (hm : m < 2 ^ 31) (hnm : n ≤ m) (x lo hi : Int32) : f_X4_tell F b a m x lo hi σ = some (q_tell b a m n x lo hi σ) := by
  unfold f_X4_tell f_X4_tell_20 q_tell
  by_cases h1 : x = -1
  · rw [if_pos h1, if_pos h1, e_clear]; rfl
  · rw [if_neg h1, if_neg h1]
    by_cases h2 : x < lo
    · rw [if_pos h2, if_pos (Or.inl h2)]
    · rw [if_neg h2]
      by_cases h3 : x ≤ hi
      · rw [if_pos h3, if_neg (by rintro (h | h); exact h2 h; exact Int32.not_lt.mpr h3 h)]
        by_cases h4 : m ≤ n
        · rw [if_pos h4, e_add_full hn hm h4 (by omega)]; rfl
        · rw [if_neg h4, e_add hab hn hm (by omega)]; rfl
      · rw [if_neg h3, if_pos (Or.inr (Int32.not_le.mp h3))]
