/-! rows: the reference's table -/
def pz_ (okq : Nat → Nat → Nat → Bool) (G : Nat → Nat) (S x : Nat) : Nat → Nat
  | 0 => 0
  | L + 1 => pz_ okq G S x L + if okq x S L = true then G L else 0
def ini_ (fs : Nat → Bool) (S x : Nat) : Nat := if S = 0 ∧ fs x = true then 1 else 0
/-- the table while it grows -/
def iT_ (okq : Nat → Nat → Nat → Bool) (fs : Nat → Bool) (n : Nat) (T : Nat → Nat → Nat) (S l x : Nat) : Prop := (∀ s y : Nat, s < 2 ^ n → y < n → s.testBit y = false → T s y = 0) ∧ ∀ s y : Nat, s < 2 ^ n → y < n → s.testBit y = false → T (s ||| 2 ^ y) y = ini_ fs s y + (if s < S then pz_ okq (T s) s y n else if s = S then pz_ okq (T s) s y (if y < x then l + 1 else l) else 0)
/-- the table at the end -/
def dp_ (okq : Nat → Nat → Nat → Bool) (fs : Nat → Bool) (n : Nat) (T : Nat → Nat → Nat) : Prop := (∀ s y : Nat, s < 2 ^ n → y < n → s.testBit y = false → T s y = 0) ∧ ∀ s y : Nat, s < 2 ^ n → y < n → s.testBit y = false → T (s ||| 2 ^ y) y = ini_ fs s y + pz_ okq (T s) s y n
def tb_ (n : Nat) (g : Nat → Int32) (T : Nat → Nat → Nat) : Prop := ∀ s y : Nat, s < 2 ^ n → y < 9 → g (9 * s + y) = nI (T s y)
section RT
variable {okq : Nat → Nat → Nat → Bool} {fs : Nat → Bool} {n : Nat} {T : Nat → Nat → Nat}
theorem pz_cg {G G' : Nat → Nat} {S x : Nat} : ∀ L : Nat, (∀ l : Nat, l < L → G l = G' l) → pz_ okq G S x L = pz_ okq G' S x L := by
  intro L
  induction L with
  | zero => intro _; rfl
  | succ L ih =>
    intro h
    show pz_ okq G S x L + _ = pz_ okq G' S x L + _
    rw [ih (fun l hl => h l (by omega)), h L (by omega)]
theorem pz_le {G : Nat → Nat} {S x B : Nat} : ∀ L : Nat, (∀ l : Nat, l < L → G l ≤ B) → pz_ okq G S x L ≤ L * B := by
  intro L
  induction L with
  | zero => intro _; exact Nat.zero_le _
  | succ L ih =>
    intro h
    have h1 := ih (fun l hl => h l (by omega))
    have h2 := h L (by omega)
    show pz_ okq G S x L + (if okq x S L = true then G L else 0) ≤ (L + 1) * B
    rw [Nat.succ_mul]
    by_cases hb : okq x S L = true
    · rw [if_pos hb]; omega
    · rw [if_neg hb]; omega
/-- a set without one of its members -/
theorem cut_ {s y : Nat} (h : s.testBit y = true) : ∃ r : Nat, r.testBit y = false ∧ r ||| 2 ^ y = s ∧ r < s := by
  refine ⟨s ^^^ 2 ^ y, ?_, ?_, ?_⟩
  · rw [Nat.testBit_xor, h, Nat.testBit_two_pow, decide_eq_true rfl]; rfl
  · apply Nat.eq_of_testBit_eq
    intro i
    rw [Nat.testBit_or, Nat.testBit_xor, Nat.testBit_two_pow]
    by_cases hi : y = i
    · subst hi; rw [h, decide_eq_true rfl]; rfl
    · rw [decide_eq_false hi, Bool.xor_false, Bool.or_false]
  · have e : s ^^^ 2 ^ y ≤ s := by
      have : s ^^^ 2 ^ y = (s ^^^ 2 ^ y) &&& s := by
        apply Nat.eq_of_testBit_eq
        intro i
        rw [Nat.testBit_and, Nat.testBit_xor, Nat.testBit_two_pow]
        by_cases hi : y = i
        · subst hi; rw [h, decide_eq_true rfl]; rfl
        · rw [decide_eq_false hi, Bool.xor_false, Bool.and_self]
      rw [this]
      exact Nat.and_le_right
    have ne : s ^^^ 2 ^ y ≠ s := by
      intro he
      have := congrArg (fun z => z.testBit y) he
      rw [Nat.testBit_xor, h, Nat.testBit_two_pow, decide_eq_true rfl] at this
      exact absurd this (by decide)
    omega
theorem or_gt {s y : Nat} (h : s.testBit y = false) : s < s ||| 2 ^ y := by
  have h4 : s ≤ s ||| 2 ^ y := Nat.left_le_or
  have h5 : s ||| 2 ^ y ≠ s := fun e => by
    have := or_tb.mp e
    rw [h] at this
    exact absurd this (by decide)
  omega
theorem or_inj {s r y : Nat} (h1 : s.testBit y = false) (h2 : r.testBit y = false) (h : s ||| 2 ^ y = r ||| 2 ^ y) : s = r := by
  apply Nat.eq_of_testBit_eq
  intro i
  have := congrArg (fun z => z.testBit i) h
  rw [Nat.testBit_or, Nat.testBit_or, Nat.testBit_two_pow] at this
  by_cases hi : y = i
  · subst hi; rw [h1, h2]
  · rw [decide_eq_false hi, Bool.or_false, Bool.or_false] at this
    exact this
/-- the numbers stay small -/
theorem iT_le (hn : n ≤ 9) {S l x : Nat} (h : iT_ okq fs n T S l x) : ∀ (s : Nat), s ≤ S → s < 2 ^ n → ∀ y : Nat, y < n → T s y ≤ 10 ^ bs_ s 9 := by
  intro s
  induction s using Nat.strongRecOn with
  | ind s ih =>
    intro hs hsn y hy
    cases hb : s.testBit y
    · rw [h.1 s y hsn hy hb]; exact Nat.zero_le _
    · obtain ⟨r, r1, r2, r3⟩ := cut_ hb
      have hr := h.2 r y (by omega) hy r1
      rw [if_pos (show r < S by omega), r2] at hr
      have hle := pz_le (okq := okq) (G := T r) (S := r) (x := y) (B := 10 ^ bs_ r 9) n (fun l hl => ih r r3 (by omega) (by omega) l hl)
      have hbs : bs_ s 9 = bs_ r 9 + 1 := by
        rw [← r2, bs_or r1 9, if_pos (by omega)]
      have h1 : ini_ fs r y ≤ 1 := by
        unfold ini_
        by_cases hc : r = 0 ∧ fs y = true
        · rw [if_pos hc]; omega
        · rw [if_neg hc]; omega
      have hp : 1 ≤ 10 ^ bs_ r 9 := Nat.pos_of_ne_zero (Nat.pos_iff_ne_zero.mp (Nat.pow_pos (by decide)))
      have h9 : n * 10 ^ bs_ r 9 ≤ 9 * 10 ^ bs_ r 9 := Nat.mul_le_mul_right _ hn
      rw [hbs, Nat.pow_succ, hr]
      omega
/-- nothing is added -/
theorem iT_no {S l x : Nat} (h : iT_ okq fs n T S l x) (hno : S.testBit x = true ∨ okq x S l = false) : iT_ okq fs n T S l (x + 1) := by
  refine ⟨h.1, fun s y h1 h2 h3 => ?_⟩
  rw [h.2 s y h1 h2 h3]
  by_cases hs : s < S
  · rw [if_pos hs, if_pos hs]
  · rw [if_neg hs, if_neg hs]
    by_cases he : s = S
    · subst he
      rw [if_pos rfl, if_pos rfl]
      by_cases hy : y < x
      · rw [if_pos hy, if_pos (show y < x + 1 by omega)]
      · rw [if_neg hy]
        by_cases hyx : y = x
        · subst hyx
          rw [if_pos (show y < y + 1 by omega)]
          rcases hno with e | e
          · rw [h3] at e; exact absurd e (by decide)
          · show _ = ini_ fs s y + (pz_ okq (T s) s y l + if okq y s l = true then T s l else 0)
            rw [e, if_neg (by decide), Nat.add_zero]
        · rw [if_neg (show ¬ y < x + 1 by omega)]
    · rw [if_neg he, if_neg he]
/-- one number is added -/
theorem iT_add {S l x : Nat} (h : iT_ okq fs n T S l x) (hx : x < n) (hb : S.testBit x = false) (ho : okq x S l = true) : iT_ okq fs n (fun s y => if s = (S ||| 2 ^ x) ∧ y = x then T s y + T S l else T s y) S l (x + 1) := by
  have hgt := or_gt hb
  have old : ∀ s : Nat, s ≤ S → (fun s y => if s = (S ||| 2 ^ x) ∧ y = x then T s y + T S l else T s y) s = T s := by
    intro s hs
    funext y
    exact if_neg (fun e => by omega)
  refine ⟨fun s y h1 h2 h3 => ?_, fun s y h1 h2 h3 => ?_⟩
  · show (if s = (S ||| 2 ^ x) ∧ y = x then T s y + T S l else T s y) = 0
    rw [if_neg (fun e => by
      obtain ⟨e1, e2⟩ := e
      rw [e1, e2, Nat.testBit_or, Nat.testBit_two_pow, decide_eq_true rfl, Bool.or_true] at h3
      exact absurd h3 (by decide))]
    exact h.1 s y h1 h2 h3
  · show (if (s ||| 2 ^ y) = (S ||| 2 ^ x) ∧ y = x then T (s ||| 2 ^ y) y + T S l else T (s ||| 2 ^ y) y) = _
    have hold := h.2 s y h1 h2 h3
    by_cases hs : s < S
    · rw [if_neg (fun e => by
        obtain ⟨e1, e2⟩ := e
        subst e2
        have := or_inj h3 hb e1
        omega), if_pos hs, old s (by omega)]
      rw [if_pos hs] at hold
      exact hold
    · rw [if_neg hs] at hold ⊢
      by_cases he : s = S
      · subst he
        rw [if_pos rfl] at hold ⊢
        rw [old s (Nat.le_refl s)]
        by_cases hyx : y = x
        · subst hyx
          rw [if_neg (Nat.lt_irrefl y)] at hold
          rw [if_pos ⟨rfl, rfl⟩, if_pos (show y < y + 1 by omega), hold]
          show _ = ini_ fs s y + (pz_ okq (T s) s y l + if okq y s l = true then T s l else 0)
          rw [if_pos ho]
          omega
        · rw [if_neg (fun e => hyx e.2), hold]
          by_cases hy : y < x
          · rw [if_pos hy, if_pos (show y < x + 1 by omega)]
          · rw [if_neg hy, if_neg (show ¬ y < x + 1 by omega)]
      · rw [if_neg he] at hold ⊢
        rw [if_neg (fun e => by
          obtain ⟨e1, e2⟩ := e
          subst e2
          exact he (or_inj h3 hb e1))]
        exact hold
/-- all of a place is done -/
theorem iT_l {S l x : Nat} (h : iT_ okq fs n T S l x) (hx : n ≤ x) : iT_ okq fs n T S (l + 1) 0 := by
  refine ⟨h.1, fun s y h1 h2 h3 => ?_⟩
  rw [h.2 s y h1 h2 h3, if_pos (show y < x by omega), if_neg (show ¬ y < 0 by omega)]
/-- nothing lies here -/
theorem iT_z {S l x : Nat} (h : iT_ okq fs n T S l x) (hz : T S l = 0) : iT_ okq fs n T S (l + 1) 0 := by
  refine ⟨h.1, fun s y h1 h2 h3 => ?_⟩
  rw [h.2 s y h1 h2 h3, if_neg (show ¬ y < 0 by omega)]
  by_cases hs : s < S
  · rw [if_pos hs, if_pos hs]
  · rw [if_neg hs, if_neg hs]
    by_cases he : s = S
    · subst he
      rw [if_pos rfl, if_pos rfl]
      by_cases hy : y < x
      · rw [if_pos hy]
      · rw [if_neg hy]
        show _ = ini_ fs s y + (pz_ okq (T s) s y l + if okq y s l = true then T s l else 0)
        rw [hz, ite_self, Nat.add_zero]
    · rw [if_neg he, if_neg he]
theorem iT_S {S l : Nat} (h : iT_ okq fs n T S l 0) (hl : l = n) : iT_ okq fs n T (S + 1) 0 0 := by
  refine ⟨h.1, fun s y h1 h2 h3 => ?_⟩
  rw [h.2 s y h1 h2 h3, if_neg (show ¬ y < 0 by omega), if_neg (show ¬ y < 0 by omega)]
  by_cases hs : s < S
  · rw [if_pos hs, if_pos (show s < S + 1 by omega)]
  · rw [if_neg hs]
    by_cases he : s = S
    · rw [if_pos he, if_pos (show s < S + 1 by omega), hl]
    · rw [if_neg he, if_neg (show ¬ s < S + 1 by omega)]
      by_cases he' : s = S + 1
      · rw [if_pos he']; rfl
      · rw [if_neg he']
theorem iT_dp {S : Nat} (h : iT_ okq fs n T S 0 0) (hS : 2 ^ n ≤ S + 1) : dp_ okq fs n T := by
  refine ⟨h.1, fun s y h1 h2 h3 => ?_⟩
  have : s ≠ 2 ^ n - 1 := by
    intro e
    rw [e, Nat.testBit_two_pow_sub_one, decide_eq_true h2] at h3
    exact absurd h3 (by decide)
  rw [h.2 s y h1 h2 h3, if_pos (show s < S by omega)]
end RT
