/-! rows -/
section RR
variable {F n : Nat} {σ τ : nd_Mem} {A B : Nat → Nat → Bool} {m : Nat → Nat}
theorem cn_k {P : Nat → Bool} : ∀ k : Nat, cn_ P k ≤ k := by
  intro k
  induction k with
  | zero => exact Nat.le_refl 0
  | succ k ih =>
    show cn_ P k + (if P k = true then 1 else 0) ≤ k + 1
    by_cases hb : P k = true
    · rw [if_pos hb]; omega
    · rw [if_neg hb]; omega
theorem sm_le {f : Nat → Nat} (c : Nat) : ∀ k : Nat, (∀ v : Nat, v < k → f v ≤ c) → smv_ f k ≤ c * k := by
  intro k
  induction k with
  | zero => intro _; exact Nat.zero_le _
  | succ k ih =>
    intro h
    have h1 := ih (fun v hv => h v (by omega))
    have h2 := h k (by omega)
    show smv_ f k + f k ≤ c * (k + 1)
    rw [Nat.mul_succ]
    omega
theorem c_109 (hF : 300000 ≤ F) (hn : n ≤ 9) (hsg : sg_ A) (hm : ma_ A n m) (hd : ds_ τ n m) (hdeg : ∀ v : Nat, v < n → cn_ (A v) n ≤ 2) : ∀ d w f g en S : Nat, w + d = n → d < f → gI_ A n S g en → (∀ i : Nat, i < w → S.testBit i = true) → g ≤ w → ∃ g' en' S' : Nat, gI_ A n S' g' en' ∧ (∀ i : Nat, i < n → S'.testBit i = true) ∧ g' ≤ n ∧ f_X7_rowsSideBySide_109 F f (nI n) (nI g) (nI en) (nI S) (nI (smv_ (fun v => cn_ (A v) n) w)) (nI w) τ = some (if smv_ (fun v => cn_ (A v) n) n / 2 = n - g' then nI (fac_ g' * 2 ^ en') else 0, τ) := by
  have h9 := p9_ hn
  intro d
  induction d with
  | zero =>
    intro w f g en S hw hf hg hS hgw
    obtain ⟨f, rfl⟩ : ∃ g, f = g + 1 := ⟨f - 1, by omega⟩
    have : w = n := by omega
    subst this
    have hb := sm_le (f := fun v => cn_ (A v) w) 2 w (fun v hv => hdeg v hv)
    have hen := hg.2.2.2.2.2
    refine ⟨g, en, S, hg, hS, hgw, ?_⟩
    show f_X7_rowsSideBySide_109_b F _ _ _ _ _ _ _ _ = _
    unfold f_X7_rowsSideBySide_109_b
    rw [if_pos (nI_le (Nat.le_refl _) (by omega)), show nI (smv_ (fun v => cn_ (A v) w) w) / (2 : Int32) = nI (smv_ (fun v => cn_ (A v) w) w / 2) from n_div (b := 2) (by omega) (by decide), n_sub hgw]
    by_cases he : smv_ (fun v => cn_ (A v) w) w / 2 = w - g
    · rw [if_pos he, if_pos (by rw [he]), c_fac hF (by omega), n_bind, show nI en &&& 31 = nI en from n_31 (by omega), n_shl (by omega), Nat.shiftLeft_eq]
    · rw [if_neg he, if_neg (fun e => he ((nI_eq (by omega) (by omega)).mp e))]
  | succ d ih =>
    intro w f g en S hw hf hg hS hgw
    obtain ⟨f, rfl⟩ : ∃ g, f = g + 1 := ⟨f - 1, by omega⟩
    have hwn : w < n := by omega
    have hdw := hdeg w hwn
    have hSlt := hg.1
    have hsm : smv_ (fun v => cn_ (A v) n) w + cn_ (A w) n = smv_ (fun v => cn_ (A v) n) (w + 1) := rfl
    have eb := n_bit0 (k := w) (a := S) (by omega) (by omega)
    show ∃ g' en' S' : Nat, _ ∧ _ ∧ _ ∧ f_X7_rowsSideBySide_109_b F _ _ _ _ _ _ _ _ = _
    unfold f_X7_rowsSideBySide_109_b f_X7_rowsSideBySide_178 f_X7_rowsSideBySide_180
    rw [if_neg (nI_ge (by omega) (by omega)), if_neg (nI_in (by omega) (by decide)), nI_clamp (by omega), (hd w hwn).1, bc_A hn (hd w hwn).2 (P := A w) (fun i hi => (hm w hwn).2 i hi), n_bind, if_pos (show nI (cn_ (A w) n) ≤ (2 : Int32) from nI_le (b := 2) hdw (by decide)), n_add, hsm]
    by_cases hb : S.testBit w = false
    · rw [if_pos (show ((nI S >>> (nI w &&& 31)) &&& 1) = 0 from eb.mpr hb), c_group hF hn hd hwn, n_bind, n_or, nI_1, nI_1]
      have hnew := gI_s hsg hdeg hm hg hwn hb
      have hall : ∀ i : Nat, i < w + 1 → (S ||| rdv_ m n (2 ^ w) n).testBit i = true := fun i hi => by
        by_cases hiw : i = w
        · rw [hiw, Nat.testBit_or, (gp_1 hm hwn).1, Bool.or_true]
        · exact or_ss (hS i (by omega))
      by_cases h0 : cn_ (A w) n = 0
      · rw [if_pos h0] at hnew
        rw [h0, if_pos (show nI 0 ≤ (0 : Int32) by decide), show nI en + (0 : Int32) = nI (en + 0) from n_add en 0]
        exact ih (w + 1) f (g + 1) (en + 0) _ (by omega) (by omega) hnew hall (by omega)
      · rw [if_neg h0] at hnew
        rw [if_neg (show ¬ nI (cn_ (A w) n) ≤ (0 : Int32) from nI_ge (a := 0) (by omega) (by omega)), nI_1]
        exact ih (w + 1) f (g + 1) (en + 1) _ (by omega) (by omega) hnew hall (by omega)
    · rw [if_neg (show ¬ ((nI S >>> (nI w &&& 31)) &&& 1) = 0 from fun e => hb (eb.mp e)), nI_1]
      refine ih (w + 1) f g en S (by omega) (by omega) hg (fun i hi => ?_) (by omega)
      by_cases hiw : i = w
      · rw [hiw]
        cases hh : S.testBit w
        · exact absurd hh hb
        · rfl
      · exact hS i (by omega)
theorem c_109b (hF : 300000 ≤ F) (hn : n ≤ 9) (hm : ma_ A n m) (hd : ds_ τ n m) {v : Nat} (hv : v < n) (hdv : 2 < cn_ (A v) n) : ∀ (d w f : Nat) (x2 x3 x4 x5 : Int32), w + d = v → d < f → f_X7_rowsSideBySide_109 F f (nI n) x2 x3 x4 x5 (nI w) τ = some (0, τ) := by
  have h9 := p9_ hn
  intro d
  induction d with
  | zero =>
    intro w f x2 x3 x4 x5 hw hf
    obtain ⟨f, rfl⟩ : ∃ g, f = g + 1 := ⟨f - 1, by omega⟩
    have : w = v := by omega
    subst this
    have hk := cn_k (P := A w) n
    show f_X7_rowsSideBySide_109_b F _ _ _ _ _ _ _ _ = _
    unfold f_X7_rowsSideBySide_109_b
    rw [if_neg (nI_ge (by omega) (by omega)), if_neg (nI_in (by omega) (by decide)), nI_clamp (by omega), (hd w hv).1, bc_A hn (hd w hv).2 (P := A w) (fun i hi => (hm w hv).2 i hi), n_bind, if_neg (show ¬ nI (cn_ (A w) n) ≤ (2 : Int32) from nI_ge (a := 2) hdv (by omega))]
  | succ d ih =>
    intro w f x2 x3 x4 x5 hw hf
    obtain ⟨f, rfl⟩ : ∃ g, f = g + 1 := ⟨f - 1, by omega⟩
    have hwn : w < n := by omega
    have hk := cn_k (P := A w) n
    show f_X7_rowsSideBySide_109_b F _ _ _ _ _ _ _ _ = _
    unfold f_X7_rowsSideBySide_109_b f_X7_rowsSideBySide_178 f_X7_rowsSideBySide_180
    rw [if_neg (nI_ge (by omega) (by omega)), if_neg (nI_in (by omega) (by decide)), nI_clamp (by omega), (hd w hwn).1, bc_A hn (hd w hwn).2 (P := A w) (fun i hi => (hm w hwn).2 i hi), n_bind]
    by_cases h2 : cn_ (A w) n ≤ 2
    · rw [if_pos (show nI (cn_ (A w) n) ≤ (2 : Int32) from nI_le (b := 2) h2 (by decide))]
      by_cases hb : ((x4 >>> (nI w &&& 31)) &&& (1 : Int32)) = 0
      · rw [if_pos hb, c_group hF hn hd hwn, n_bind, nI_1]
        by_cases h0 : nI (cn_ (A w) n) ≤ (0 : Int32)
        · rw [if_pos h0]
          exact ih (w + 1) f _ _ _ _ (by omega) (by omega)
        · rw [if_neg h0]
          exact ih (w + 1) f _ _ _ _ (by omega) (by omega)
      · rw [if_neg hb, nI_1]
        exact ih (w + 1) f _ _ _ _ (by omega) (by omega)
    · rw [if_neg (show ¬ nI (cn_ (A w) n) ≤ (2 : Int32) from nI_ge (a := 2) (by omega) (by omega))]
theorem and0_ {a b : Nat} : a &&& b = 0 ↔ ∀ i : Nat, a.testBit i = true → b.testBit i = false := by
  constructor
  · intro h i ha
    cases hb : b.testBit i
    · rfl
    · have e : (a &&& b).testBit i = false := by rw [h, Nat.zero_testBit]
      rw [Nat.testBit_and, ha, hb] at e
      exact absurd e (by decide)
  · intro h
    apply Nat.eq_of_testBit_eq
    intro i
    rw [Nat.testBit_and, Nat.zero_testBit]
    cases ha : a.testBit i
    · rfl
    · rw [h i ha]; rfl
def gdb_ (B : Nat → Nat → Bool) (n : Nat) (m : Nat → Nat) (w : Nat) : Prop := (∀ p : Nat, p < w → cn_ (fun y => B y p) n ≤ 1) ∧ (∀ y p p' : Nat, p < w → p' < w → B y p = true → B y p' = true → p = p') ∧ ∀ p : Nat, p < w → (rdv_ m n (m p) n).testBit p = false
theorem c_70 (hF : 300000 ≤ F) (hn : n ≤ 9) (hm : mb_ B n m) (hd : ds_ τ n m) (hB : ∀ y p : Nat, B y p = true → y < n ∧ p < n) : ∀ d w f t : Nat, w + d = n → d < f → t < 2 ^ n → (∀ y : Nat, t.testBit y = true ↔ ∃ p : Nat, p < w ∧ B y p = true) → gdb_ B n m w → (((∃ p : Nat, p < n ∧ 1 < cn_ (fun y => B y p) n) ∨ (∃ y p p' : Nat, p ≠ p' ∧ B y p = true ∧ B y p' = true) ∨ ∃ w : Nat, w < n ∧ (rdv_ m n (m w) n).testBit w = true) ∧ f_X7_rowsBehind_70 F f (nI n) (nI (smv_ (fun p => cn_ (fun y => B y p) n) w)) (nI t) (nI w) τ = some (0, τ)) ∨ (gdb_ B n m n ∧ f_X7_rowsBehind_70 F f (nI n) (nI (smv_ (fun p => cn_ (fun y => B y p) n) w)) (nI t) (nI w) τ = some (nI (fac_ (n - smv_ (fun p => cn_ (fun y => B y p) n) n)), τ)) := by
  have h9 := p9_ hn
  intro d
  induction d with
  | zero =>
    intro w f t hw hf ht hty hg
    obtain ⟨f, rfl⟩ : ∃ g, f = g + 1 := ⟨f - 1, by omega⟩
    have : w = n := by omega
    subst this
    have hb := sm_le (f := fun p => cn_ (fun y => B y p) w) 1 w (fun v hv => hg.1 v hv)
    right
    refine ⟨hg, ?_⟩
    show f_X7_rowsBehind_70_b F _ _ _ _ _ _ = _
    unfold f_X7_rowsBehind_70_b
    rw [if_pos (nI_le (Nat.le_refl _) (by omega)), n_sub (by omega), c_fac hF (by omega), n_bind]
  | succ d ih =>
    intro w f t hw hf ht hty hg
    obtain ⟨f, rfl⟩ : ∃ g, f = g + 1 := ⟨f - 1, by omega⟩
    have hwn : w < n := by omega
    have hk := cn_k (P := fun y => B y w) n
    have hmw := (hd w hwn).2
    have hsm : smv_ (fun p => cn_ (fun y => B y p) n) w + cn_ (fun y => B y w) n = smv_ (fun p => cn_ (fun y => B y p) n) (w + 1) := rfl
    have hbc : ∀ t : nd_Mem, f_J6_bitCount_0f7a4 F (nI (m w)) t = some (nI (cn_ (fun y => B y w) n), t) := fun t => bc_A hn hmw (P := fun y => B y w) (fun i hi => (hm w hwn).2 i hi)
    have hun : f_X7_rowsBehind_70 F (f + 1) (nI n) (nI (smv_ (fun p => cn_ (fun y => B y p) n) w)) (nI t) (nI w) τ = (if (1 : Int32) < nI (cn_ (fun y => B y w) n) then some (0, τ) else if nI (t &&& m w) = 0 then (if (rdv_ m n (m w) n).testBit w = true then some (0, τ) else f_X7_rowsBehind_70 F f (nI n) (nI (smv_ (fun p => cn_ (fun y => B y p) n) (w + 1))) (nI (t ||| m w)) (nI (w + 1)) τ) else some (0, τ)) := by
      show f_X7_rowsBehind_70_b F _ _ _ _ _ _ = _
      unfold f_X7_rowsBehind_70_b f_X7_rowsBehind_111
      rw [if_neg (nI_ge (by omega) (by omega)), if_neg (nI_in (by omega) (by decide)), nI_clamp (by omega), (hd w hwn).1, hbc, n_bind, n_and, c_back hF hn hd hwn, n_bind]
      by_cases hr : (rdv_ m n (m w) n).testBit w = true
      · rw [if_pos hr, if_neg n10, if_pos hr]
      · rw [if_neg hr, if_pos rfl, if_neg hr, hbc, n_bind, n_add, hsm, n_or, nI_1]
    rw [hun]
    by_cases h1 : 1 < cn_ (fun y => B y w) n
    · left
      exact ⟨Or.inl ⟨w, hwn, h1⟩, if_pos (show (1 : Int32) < nI (cn_ (fun y => B y w) n) from nI_lt (a := 1) h1 (by omega))⟩
    · rw [if_neg (show ¬ (1 : Int32) < nI (cn_ (fun y => B y w) n) from nI_nlt (a := 1) (by omega) (by decide))]
      by_cases h2 : t &&& m w = 0
      · rw [h2, if_pos (show nI 0 = (0 : Int32) from rfl)]
        by_cases hr : (rdv_ m n (m w) n).testBit w = true
        · left
          exact ⟨Or.inr (Or.inr ⟨w, hwn, hr⟩), if_pos hr⟩
        · rw [if_neg hr]
          have hz := and0_.mp h2
          have fresh : ∀ y p : Nat, p < w → B y p = true → B y w = true → False := fun y p hp e1 e2 => by
            have h3 := hz y ((hty y).mpr ⟨p, hp, e1⟩)
            rw [(hm w hwn).2 y (hB y w e2).1, e2] at h3
            exact absurd h3 (by decide)
          refine ih (w + 1) f (t ||| m w) (by omega) (by omega) (Nat.or_lt_two_pow ht hmw) (fun y => ?_) ⟨fun p hp => ?_, fun y p p' hp hp' e1 e2 => ?_, fun p hp => ?_⟩
          · rw [Nat.testBit_or, Bool.or_eq_true, hty y]
            constructor
            · rintro (⟨p, p1, p2⟩ | e)
              · exact ⟨p, by omega, p2⟩
              · exact ⟨w, by omega, by rw [← (hm w hwn).2 y (tb_big hmw e)]; exact e⟩
            · rintro ⟨p, p1, p2⟩
              by_cases hpw : p = w
              · rw [hpw] at p2
                exact Or.inr (by rw [(hm w hwn).2 y (hB y w p2).1]; exact p2)
              · exact Or.inl ⟨p, by omega, p2⟩
          · by_cases hpw : p = w
            · rw [hpw]; omega
            · exact hg.1 p (by omega)
          · by_cases hpw : p = w
            · by_cases hpw' : p' = w
              · rw [hpw, hpw']
              · rw [hpw] at e1
                exact absurd (fresh y p' (by omega) e2 e1) id
            · by_cases hpw' : p' = w
              · rw [hpw'] at e2
                exact absurd (fresh y p (by omega) e1 e2) id
              · exact hg.2.1 y p p' (by omega) (by omega) e1 e2
          · by_cases hpw : p = w
            · rw [hpw]
              cases hh : (rdv_ m n (m w) n).testBit w
              · rfl
              · exact absurd hh hr
            · exact hg.2.2 p (by omega)
      · left
        have hle : t &&& m w < 2 ^ n := Nat.lt_of_le_of_lt Nat.and_le_left ht
        refine ⟨Or.inr (Or.inl ?_), if_neg (show ¬ nI (t &&& m w) = (0 : Int32) from fun e => h2 ((nI_eq (b := 0) (by omega) (by decide)).mp e))⟩
        apply Classical.byContradiction
        intro hc
        apply h2
        apply and0_.mpr
        intro y hy
        obtain ⟨p, p1, p2⟩ := (hty y).mp hy
        cases hb : (m w).testBit y
        · rfl
        · exact absurd ⟨y, p, w, by omega, p2, by rw [← (hm w hwn).2 y (tb_big hmw hb)]; exact hb⟩ hc
end RR
