/-! rows: counts -/
def cn_ (P : Nat → Bool) : Nat → Nat
  | 0 => 0
  | k + 1 => cn_ P k + if P k = true then 1 else 0
def fac_ : Nat → Nat
  | 0 => 1
  | k + 1 => (k + 1) * fac_ k
section CN
variable {P Q : Nat → Bool}
theorem cn_cg : ∀ k : Nat, (∀ i : Nat, i < k → P i = Q i) → cn_ P k = cn_ Q k := by
  intro k
  induction k with
  | zero => intro _; rfl
  | succ k ih =>
    intro h
    show cn_ P k + _ = cn_ Q k + _
    rw [ih (fun i hi => h i (by omega)), h k (by omega)]
theorem cn_0 : ∀ k : Nat, (∀ i : Nat, i < k → P i = false) → cn_ P k = 0 := by
  intro k
  induction k with
  | zero => intro _; rfl
  | succ k ih =>
    intro h
    show cn_ P k + (if P k = true then 1 else 0) = 0
    rw [ih (fun i hi => h i (by omega)), h k (by omega)]
    rfl
/-- one of them left out -/
theorem cn_but {a : Nat} (ha : P a = true) : ∀ k : Nat, a < k → cn_ P k = cn_ (fun i => P i && !decide (i = a)) k + 1 := by
  intro k
  induction k with
  | zero => intro h; omega
  | succ k ih =>
    intro h
    show cn_ P k + (if P k = true then 1 else 0) = cn_ (fun i => P i && !decide (i = a)) k + (if (P k && !decide (k = a)) = true then 1 else 0) + 1
    by_cases hk : k = a
    · subst hk
      rw [decide_eq_true rfl, Bool.not_true, Bool.and_false, if_pos ha, if_neg (by decide), cn_cg (P := P) (Q := fun i => P i && !decide (i = k)) k (fun i hi => by rw [decide_eq_false (by omega), Bool.not_false, Bool.and_true])]
    · rw [ih (by omega), decide_eq_false hk, Bool.not_false, Bool.and_true]
      omega
theorem cn_not {a : Nat} (ha : P a = false) (k : Nat) : cn_ (fun i => P i && !decide (i = a)) k = cn_ P k := by
  apply cn_cg
  intro i _
  by_cases hi : i = a
  · subst hi; rw [ha, Bool.false_and]
  · rw [decide_eq_false hi, Bool.not_false, Bool.and_true]
theorem cn_pos {a k : Nat} (ha : P a = true) (hk : a < k) : 0 < cn_ P k := by
  rw [cn_but ha k hk]
  omega
/-- a sum of equal numbers -/
theorem pz_cn {okq : Nat → Nat → Nat → Bool} {G : Nat → Nat} {S x c : Nat} : ∀ L : Nat, (∀ l : Nat, l < L → (if okq x S l = true then G l else 0) = if P l = true then c else 0) → pz_ okq G S x L = cn_ P L * c := by
  intro L
  induction L with
  | zero => intro _; rw [show cn_ P 0 = 0 from rfl, Nat.zero_mul]; rfl
  | succ L ih =>
    intro h
    show pz_ okq G S x L + (if okq x S L = true then G L else 0) = (cn_ P L + if P L = true then 1 else 0) * c
    rw [ih (fun l hl => h l (by omega)), h L (by omega), Nat.add_mul]
    cases hb : P L
    · rw [if_neg (by decide), if_neg (by decide), Nat.zero_mul]
    · rw [if_pos rfl, if_pos rfl, Nat.one_mul]
theorem fac_s {k : Nat} (h : 0 < k) : k * fac_ (k - 1) = fac_ k := by
  obtain ⟨j, rfl⟩ : ∃ j, k = j + 1 := ⟨k - 1, by omega⟩
  rfl
end CN
