/-! game: runs of safe doors -/
def sn_ (fr : Nat → Bool) : Nat → Nat → Nat → Nat
  | _, c, 0 => W_ c
  | i, c, D + 1 => if fr i = true then sn_ fr (i + 1) (c + 1) D else W_ c ^^^ sn_ fr (i + 1) 0 D
section SN
variable {fr fr' : Nat → Bool} {n : Nat}
theorem sn_t {i c D : Nat} (h : fr i = true) : sn_ fr i c (D + 1) = sn_ fr (i + 1) (c + 1) D := if_pos h
theorem sn_f {i c D : Nat} (h : fr i = false) : sn_ fr i c (D + 1) = W_ c ^^^ sn_ fr (i + 1) 0 D := if_neg (by rw [h]; decide)
theorem sn_split {q : Nat} (hq : fr q = false) : ∀ L i c D : Nat, i + L = q → sn_ fr i c (L + 1 + D) = sn_ fr i c L ^^^ sn_ fr (q + 1) 0 D := by
  intro L
  induction L with
  | zero =>
    intro i c D hi
    have : i = q := by omega
    subst this
    rw [show 0 + 1 + D = D + 1 by omega, sn_f hq]
    rfl
  | succ L ih =>
    intro i c D hi
    rw [show L + 1 + 1 + D = (L + 1 + D) + 1 by omega]
    cases h : fr i
    · rw [sn_f h, sn_f h, ih (i + 1) 0 D (by omega), Nat.xor_assoc]
    · rw [sn_t h, sn_t h, ih (i + 1) (c + 1) D (by omega)]
theorem sn_run : ∀ L i c : Nat, (∀ j : Nat, i ≤ j → j < i + L → fr j = true) → sn_ fr i c L = W_ (c + L) := by
  intro L
  induction L with
  | zero => intro i c _; rfl
  | succ L ih =>
    intro i c h
    rw [sn_t (h i (by omega) (by omega)), ih (i + 1) (c + 1) (fun j h1 h2 => h j (by omega) (by omega)), show c + 1 + L = c + (L + 1) by omega]
theorem sn_cg : ∀ D i c : Nat, (∀ j : Nat, i ≤ j → j < i + D → fr j = fr' j) → sn_ fr i c D = sn_ fr' i c D := by
  intro D
  induction D with
  | zero => intro i c _; rfl
  | succ D ih =>
    intro i c h
    have e := h i (by omega) (by omega)
    have ih' := fun c => ih (i + 1) c (fun j h1 h2 => h j (by omega) (by omega))
    cases hb : fr i
    · rw [hb] at e
      rw [sn_f hb, sn_f e.symm, ih']
    · rw [hb] at e
      rw [sn_t hb, sn_t e.symm, ih']
theorem sn_sh (s : Nat) : ∀ D i c : Nat, sn_ fr (s + i) c D = sn_ (fun j => fr (s + j)) i c D := by
  intro D
  induction D with
  | zero => intro i c; rfl
  | succ D ih =>
    intro i c
    cases hb : fr (s + i)
    · rw [sn_f hb, sn_f (fr := fun j => fr (s + j)) hb, ← ih]
      rfl
    · rw [sn_t hb, sn_t (fr := fun j => fr (s + j)) hb, ← ih]
      rfl
/-- a whole run -/
def rn_ (fr : Nat → Bool) (n s e : Nat) : Prop := s < e ∧ e ≤ n ∧ (∀ j : Nat, s ≤ j → j < e → fr j = true) ∧ (s = 0 ∨ fr (s - 1) = false) ∧ (e = n ∨ fr e = false)
theorem sn_dec {s e : Nat} (h : rn_ fr n s e) : ∃ A B : Nat, ∀ fr' : Nat → Bool, (∀ j : Nat, j < s ∨ (e ≤ j ∧ j < n) → fr' j = fr j) → sn_ fr' 0 0 n = A ^^^ (sn_ fr' s 0 (e - s) ^^^ B) := by
  obtain ⟨h1, h2, h3, h4, h5⟩ := h
  have right : ∃ B : Nat, ∀ fr' : Nat → Bool, (∀ j : Nat, j < s ∨ (e ≤ j ∧ j < n) → fr' j = fr j) → sn_ fr' s 0 (n - s) = sn_ fr' s 0 (e - s) ^^^ B := by
    rcases h5 with h5 | h5
    · exact ⟨0, fun fr' _ => by rw [h5, Nat.xor_zero]⟩
    · by_cases hen : e = n
      · exact ⟨0, fun fr' _ => by rw [hen, Nat.xor_zero]⟩
      · refine ⟨sn_ fr (e + 1) 0 (n - e - 1), fun fr' hf => ?_⟩
        rw [show n - s = (e - s) + 1 + (n - e - 1) by omega, sn_split (q := e) (by rw [hf e (by omega)]; exact h5) (e - s) s 0 (n - e - 1) (by omega)]
        rw [sn_cg (fr := fr') (fr' := fr) (n - e - 1) (e + 1) 0 (fun j j1 j2 => hf j (by omega))]
  obtain ⟨B, hB⟩ := right
  by_cases hs : s = 0
  · refine ⟨0, B, fun fr' hf => ?_⟩
    have := hB fr' hf
    rw [Nat.zero_xor, ← this, hs]
    rfl
  · refine ⟨sn_ fr 0 0 (s - 1), B, fun fr' hf => ?_⟩
    have h4' : fr' (s - 1) = false := by
      rw [hf (s - 1) (by omega)]
      rcases h4 with h4 | h4
      · exact absurd h4 hs
      · exact h4
    rw [← hB fr' hf, ← sn_cg (fr := fr') (fr' := fr) (s - 1) 0 0 (fun j j1 j2 => hf j (by omega))]
    have := sn_split h4' (s - 1) 0 0 (n - s) (by omega)
    rw [show s - 1 + 1 + (n - s) = n by omega, show s - 1 + 1 = s by omega] at this
    exact this
theorem rn_at {d : Nat} (hd : d < n) (hf : fr d = true) : ∃ s e : Nat, rn_ fr n s e ∧ s ≤ d ∧ d < e := by
  have down : ∀ d : Nat, fr d = true → ∃ s : Nat, s ≤ d ∧ (∀ j : Nat, s ≤ j → j ≤ d → fr j = true) ∧ (s = 0 ∨ fr (s - 1) = false) := by
    intro d
    induction d with
    | zero =>
      intro h
      exact ⟨0, Nat.le_refl 0, fun j _ h2 => by rw [show j = 0 by omega]; exact h, Or.inl rfl⟩
    | succ d ih =>
      intro h
      cases hb : fr d
      · exact ⟨d + 1, Nat.le_refl _, fun j h1 h2 => by rw [show j = d + 1 by omega]; exact h, Or.inr hb⟩
      · obtain ⟨s, s1, s2, s3⟩ := ih hb
        refine ⟨s, by omega, fun j h1 h2 => ?_, s3⟩
        by_cases hj : j = d + 1
        · rw [hj]; exact h
        · exact s2 j h1 (by omega)
  have up : ∀ k d : Nat, d + k + 1 = n → fr d = true → ∃ e : Nat, d < e ∧ e ≤ n ∧ (∀ j : Nat, d ≤ j → j < e → fr j = true) ∧ (e = n ∨ fr e = false) := by
    intro k
    induction k with
    | zero =>
      intro d h0 h
      exact ⟨n, by omega, Nat.le_refl n, fun j h1 h2 => by rw [show j = d by omega]; exact h, Or.inl rfl⟩
    | succ k ih =>
      intro d h0 h
      cases hb : fr (d + 1)
      · exact ⟨d + 1, by omega, by omega, fun j h1 h2 => by rw [show j = d by omega]; exact h, Or.inr hb⟩
      · obtain ⟨e, e1, e2, e3, e4⟩ := ih (d + 1) (by omega) hb
        refine ⟨e, by omega, e2, fun j h1 h2 => ?_, e4⟩
        by_cases hj : j = d
        · rw [hj]; exact h
        · exact e3 j (by omega) h2
  obtain ⟨s, s1, s2, s3⟩ := down d hf
  obtain ⟨e, e1, e2, e3, e4⟩ := up (n - d - 1) d (by omega) hf
  refine ⟨s, e, ⟨by omega, e2, fun j h1 h2 => ?_, s3, e4⟩, s1, e1⟩
  by_cases hj : j ≤ d
  · exact s2 j h1 hj
  · exact e3 j (by omega) h2
theorem rn_bit {b : Nat} : ∀ D i t : Nat, t ≤ i → (∀ j : Nat, t ≤ j → j < i → fr j = true) → (t = 0 ∨ fr (t - 1) = false) → (sn_ fr i (i - t) D).testBit b = true → ∃ s e : Nat, rn_ fr (i + D) s e ∧ (W_ (e - s)).testBit b = true := by
  have ne : ∀ x y : Nat, x ≤ y → (W_ (y - x)).testBit b = true → x < y := by
    intro x y hxy h
    apply Classical.byContradiction
    intro hn
    rw [show y - x = 0 by omega, show W_ 0 = 0 from rfl, Nat.zero_testBit] at h
    exact absurd h (by decide)
  intro D
  induction D with
  | zero =>
    intro i t h1 h2 h3 h4
    exact ⟨t, i, ⟨ne t i h1 h4, by omega, h2, h3, Or.inl rfl⟩, h4⟩
  | succ D ih =>
    intro i t h1 h2 h3 h4
    cases hb : fr i
    · rw [sn_f hb, Nat.testBit_xor] at h4
      cases hw : (W_ (i - t)).testBit b
      · rw [hw, Bool.false_xor] at h4
        have := ih (i + 1) (i + 1) (Nat.le_refl _) (fun j j1 j2 => by omega) (Or.inr hb) (by rw [Nat.sub_self]; exact h4)
        rw [show i + 1 + D = i + (D + 1) by omega] at this
        exact this
      · exact ⟨t, i, ⟨ne t i h1 hw, by omega, h2, h3, Or.inr hb⟩, hw⟩
    · rw [sn_t hb, show i - t + 1 = i + 1 - t by omega] at h4
      have := ih (i + 1) t (by omega) (fun j j1 j2 => by
        by_cases hj : j = i
        · rw [hj]; exact hb
        · exact h2 j j1 (by omega)) h3 h4
      rw [show i + 1 + D = i + (D + 1) by omega] at this
      exact this
end SN
/-- a run after a mark at p -/
def hm_ (p len : Nat) : Nat := sn_ (fun j => decide (j + 2 < p) || decide (p + 2 < j)) 0 0 len
theorem hmk_ok : ∀ len : Fin 19, (∀ p : Fin 19, p.val < len.val → hm_ p.val len.val ≠ W_ len.val) ∧ ∀ y : Fin 5, y.val < W_ len.val → ∃ p : Fin 19, p.val < len.val ∧ hm_ p.val len.val = y.val := by decide +kernel
theorem xr_ok : ∀ x : Fin 8, 0 < x.val → ∃ b : Fin 3, x.val.testBit b.val = true ∧ ∀ w : Fin 5, w.val.testBit b.val = true → w.val ^^^ x.val < w.val := by decide +kernel
