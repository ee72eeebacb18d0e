/-! feuds: who stands above whom -/
def ab_ (fm : Nat → Nat) (a b : Nat) : Bool := (fm a).testBit b && !(fm b).testBit a
theorem bits_ {m : Nat} {P : Nat → Bool} (hm : m < 65536) (h : ∀ i : Nat, i < 16 → m.testBit i = P i) : m = bn_ P 16 := by
  apply Nat.eq_of_testBit_eq
  intro i
  rw [bn_tb]
  by_cases hi : i < 16
  · rw [h i hi, decide_eq_true hi, Bool.true_and]
  · rw [decide_eq_false hi, Bool.false_and]
    apply Nat.testBit_lt_two_pow
    exact Nat.lt_of_lt_of_le hm (show 2 ^ 16 ≤ 2 ^ i from Nat.pow_le_pow_right (by decide) (by omega))
section FD
variable {F n : Nat} {σ : nd_Mem} {fm : Nat → Nat}
theorem hs_bit {m k : Nat} {τ : nd_Mem} (hm : m < 65536) (hk : k < 16) : f_X11_has F (nI m) (nI k) τ = some (if m.testBit k = true then 1 else 0, τ) := by
  rw [e_has]
  by_cases h : m.testBit k = true
  · rw [if_pos h, if_pos (show ((nI m >>> (nI k &&& 31)) &&& (1 : Int32)) = 1 from (n_bit (k := k) (a := m) (by omega) (by omega)).mpr h)]
  · rw [if_neg h, if_neg (show ¬ ((nI m >>> (nI k &&& 31)) &&& (1 : Int32)) = 1 from fun e => h ((n_bit (k := k) (a := m) (by omega) (by omega)).mp e))]
theorem e_above {a b : Nat} (ha : a < 16) (hb : b < 16) (hr : ∀ h : Nat, h < 16 → σ 76 h = nI (fm h)) (hf : ∀ h : Nat, h < 16 → fm h < 65536) : f_X11_isAbove F (nI a) (nI b) σ = some (if ab_ fm a b = true then 1 else 0, σ) := by
  unfold f_X11_isAbove f_X11_isAbove_32 ab_
  rw [if_neg (nI_in (by omega) (by decide)), nI_clamp (by omega), hr a ha, hs_bit (hf a ha) hb, n_bind]
  cases h1 : (fm a).testBit b
  · rw [if_pos (by decide), Bool.false_and]
    rfl
  · rw [if_pos rfl, if_neg n10, if_neg (nI_in (by omega) (by decide)), nI_clamp (by omega), hr b hb, hs_bit (hf b hb) ha, n_bind]
    cases h2 : (fm b).testBit a
    · rw [if_pos (by decide)]
      rfl
    · rw [if_pos rfl, if_neg n10, if_neg (by decide)]
theorem e_below_ {a : Nat} (ha : a < 16) (hc : ∀ h : Nat, h < 16 → σ 10 h = nI (fm h)) (hf : ∀ h : Nat, h < 16 → fm h < 65536) : ∀ (d i f : Nat), i + d = 16 → d < f → f_X5_below_4 F 3 f (nI a) (nI (bn_ (ab_ fm a) i)) (nI i) σ = some (nI (bn_ (ab_ fm a) 16), σ) := by
  intro d
  induction d with
  | zero =>
    intro i f hi hf'
    obtain ⟨f, rfl⟩ : ∃ g, f = g + 1 := ⟨f - 1, by omega⟩
    have : i = 16 := by omega
    subst this
    show f_X5_below_4_b F _ 3 _ _ _ σ = _
    unfold f_X5_below_4_b
    rw [if_pos (by decide)]
  | succ d ih =>
    intro i f hi hf'
    obtain ⟨f, rfl⟩ : ∃ g, f = g + 1 := ⟨f - 1, by omega⟩
    have ih' := ih (i + 1) f (by omega) (by omega)
    show f_X5_below_4_b F _ 3 _ _ _ σ = _
    unfold f_X5_below_4_b f_X5_below_41
    have b1 := n_bit (k := i) (a := fm a) (by omega) (by have := hf a ha; omega)
    have b2 := n_bit0 (k := a) (a := fm i) (by omega) (by have := hf i (by omega); omega)
    have h1i : (1 : Int32) <<< (nI i &&& 31) = nI (2 ^ i) := n_one (by omega)
    have eb : bn_ (ab_ fm a) (i + 1) = bn_ (ab_ fm a) i ||| (if ab_ fm a i = true then 2 ^ i else 0) := rfl
    rw [eb] at ih'
    rw [if_neg (show ¬ (16 : Int32) ≤ nI i from nI_ge (b := 16) (by omega) (by decide)), e_feudsOf (hc a ha) ha, n_bind, nI_1]
    unfold ab_ at ih'
    cases h1 : (fm a).testBit i
    · rw [if_neg (show ¬ ((nI (fm a) >>> (nI i &&& 31)) &&& (1 : Int32)) = 1 from fun e => by
        have := b1.mp e
        rw [h1] at this
        exact absurd this (by decide))]
      rw [h1, Bool.false_and, if_neg (by decide), Nat.or_zero] at ih'
      exact ih'
    · rw [if_pos (show ((nI (fm a) >>> (nI i &&& 31)) &&& (1 : Int32)) = 1 from b1.mpr h1), e_feudsOf (hc i (by omega)) (by omega), n_bind]
      cases h2 : (fm i).testBit a
      · rw [if_pos (show ((nI (fm i) >>> (nI a &&& 31)) &&& (1 : Int32)) = 0 from b2.mpr h2), h1i, n_or]
        rw [h1, h2, if_pos (by decide)] at ih'
        exact ih'
      · rw [if_neg (show ¬ ((nI (fm i) >>> (nI a &&& 31)) &&& (1 : Int32)) = 0 from fun e => by
          have := b2.mp e
          rw [h2] at this
          exact absurd this (by decide))]
        rw [h1, h2, if_neg (by decide), Nat.or_zero] at ih'
        exact ih'
theorem e_below (hF : 300000 ≤ F) {a : Nat} (ha : a < 16) (hc : ∀ h : Nat, h < 16 → σ 10 h = nI (fm h)) (hf : ∀ h : Nat, h < 16 → fm h < 65536) : f_X5_below F 3 (nI a) σ = some (nI (bn_ (ab_ fm a) 16), σ) := by
  unfold f_X5_below
  exact e_below_ (F := F) ha hc hf 16 0 F (by omega) (by omega)
/-- a reaches b: it is it, stands above it, or above one of the first i that stands above it -/
def rc_ (fm : Nat → Nat) (a i b : Nat) : Prop := a = b ∨ ab_ fm a b = true ∨ ∃ c : Nat, c < i ∧ ab_ fm a c = true ∧ ab_ fm c b = true
theorem e_kin (hF : 300000 ≤ F) {a : Nat} (ha : a < n) (hn : n ≤ 16) (hc : ∀ h : Nat, h < 16 → σ 10 h = nI (fm h)) (hf : ∀ h : Nat, h < 16 → fm h < 65536) (hg : ∀ h b : Nat, h < 16 → n ≤ b → (fm h).testBit b = false) {rec4 : Int32 → Int32 → Int32 → nd_Mem → nd_Res} {x2 : Int32} : ∀ (d i f R : Nat), i + d = n → d < f → R < 65536 → (∀ b : Nat, R.testBit b = true ↔ rc_ fm a i b) → ∃ z : Int32, f_X5_kings_27 F rec4 3 f (nI n) x2 (nI a) (nI (bn_ (ab_ fm a) 16)) (nI R) (nI i) σ = rec4 (nI n) z (nI (a + 1)) σ ∧ (((∀ b : Nat, b < n → rc_ fm a n b) ∧ z = (x2 ||| nI (2 ^ a))) ∨ (¬ (∀ b : Nat, b < n → rc_ fm a n b) ∧ z = x2)) := by
  have abn : ∀ x y : Nat, x < 16 → n ≤ y → ab_ fm x y = false := fun x y hx hy => by
    unfold ab_
    rw [hg x y hx hy, Bool.false_and]
  have h1a : (1 : Int32) <<< (nI a &&& 31) = nI (2 ^ a) := n_one (by omega)
  have h1n : (1 : Int32) <<< (nI n &&& 31) = nI (2 ^ n) := n_one (by omega)
  have hpn : 2 ^ n ≤ 2 ^ 16 := Nat.pow_le_pow_right (by decide) hn
  have hp0 : 0 < 2 ^ n := Nat.two_pow_pos _
  intro d
  induction d with
  | zero =>
    intro i f R hi hf' hR hb
    obtain ⟨f, rfl⟩ : ∃ g, f = g + 1 := ⟨f - 1, by omega⟩
    have : i = n := by omega
    subst this
    have iff1 : (nI R = nI (2 ^ i) - (1 : Int32)) ↔ ∀ b : Nat, b < i → rc_ fm a i b := by
      rw [show nI (2 ^ i) - (1 : Int32) = nI (2 ^ i - 1) from n_sub (b := 1) hp0, nI_eq (by omega) (by omega)]
      constructor
      · intro e b hbi
        rw [← hb b, e, Nat.testBit_two_pow_sub_one, decide_eq_true hbi]
      · intro h
        apply Nat.eq_of_testBit_eq
        intro b
        rw [Nat.testBit_two_pow_sub_one]
        by_cases hbi : b < i
        · rw [decide_eq_true hbi]; exact (hb b).mpr (h b hbi)
        · rw [decide_eq_false hbi]
          cases hrb : R.testBit b
          · rfl
          · exfalso
            rcases (hb b).mp hrb with e | e | ⟨c, c1, c2, c3⟩
            · omega
            · rw [abn a b (by omega) (by omega)] at e; exact absurd e (by decide)
            · rw [abn c b (by omega) (by omega)] at c3; exact absurd c3 (by decide)
    have step : f_X5_kings_27 F rec4 3 (f + 1) (nI i) x2 (nI a) (nI (bn_ (ab_ fm a) 16)) (nI R) (nI i) σ = (if nI R = nI (2 ^ i) - (1 : Int32) then rec4 (nI i) (x2 ||| nI (2 ^ a)) (nI (a + 1)) σ else rec4 (nI i) x2 (nI (a + 1)) σ) := by
      show f_X5_kings_27_b F rec4 _ 3 _ _ _ _ _ _ σ = _
      unfold f_X5_kings_27_b f_X5_kings_77
      rw [if_pos (nI_le (Nat.le_refl i) (by omega)), h1n, h1a, nI_1]
    rw [step]
    by_cases hk : ∀ b : Nat, b < i → rc_ fm a i b
    · rw [if_pos (iff1.mpr hk)]
      exact ⟨_, rfl, Or.inl ⟨hk, rfl⟩⟩
    · rw [if_neg (fun e => hk (iff1.mp e))]
      exact ⟨_, rfl, Or.inr ⟨hk, rfl⟩⟩
  | succ d ih =>
    intro i f R hi hf' hR hb
    obtain ⟨f, rfl⟩ : ∃ g, f = g + 1 := ⟨f - 1, by omega⟩
    have bl := bn_lt (ab_ fm a) 16
    have bi := bn_lt (ab_ fm i) 16
    have b1 := n_bit (k := i) (a := bn_ (ab_ fm a) 16) (by omega) (by omega)
    have tb : (bn_ (ab_ fm a) 16).testBit i = ab_ fm a i := by rw [bn_tb, decide_eq_true (by omega), Bool.true_and]
    show ∃ z : Int32, f_X5_kings_27_b F rec4 _ 3 _ _ _ _ _ _ σ = _ ∧ _
    unfold f_X5_kings_27_b f_X5_kings_55
    rw [if_neg (nI_ge (by omega) (by omega)), nI_1]
    cases hi1 : ab_ fm a i
    · rw [if_neg (show ¬ ((nI (bn_ (ab_ fm a) 16) >>> (nI i &&& 31)) &&& (1 : Int32)) = 1 from fun e => by
        have := b1.mp e
        rw [tb, hi1] at this
        exact absurd this (by decide))]
      refine ih (i + 1) f R (by omega) (by omega) hR (fun b => ?_)
      rw [hb b]
      constructor
      · rintro (e | e | ⟨c, c1, c2, c3⟩)
        · exact Or.inl e
        · exact Or.inr (Or.inl e)
        · exact Or.inr (Or.inr ⟨c, by omega, c2, c3⟩)
      · rintro (e | e | ⟨c, c1, c2, c3⟩)
        · exact Or.inl e
        · exact Or.inr (Or.inl e)
        · refine Or.inr (Or.inr ⟨c, ?_, c2, c3⟩)
          by_cases hci : c = i
          · subst hci; rw [hi1] at c2; exact absurd c2 (by decide)
          · omega
    · rw [if_pos (show ((nI (bn_ (ab_ fm a) 16) >>> (nI i &&& 31)) &&& (1 : Int32)) = 1 from b1.mpr (by rw [tb]; exact hi1)), e_below hF (by omega) hc hf, n_bind, n_or]
      refine ih (i + 1) f _ (by omega) (by omega) (Nat.or_lt_two_pow (n := 16) hR bi) (fun b => ?_)
      rw [Nat.testBit_or, Bool.or_eq_true, hb b, bn_tb, Bool.and_eq_true, decide_eq_true_eq]
      constructor
      · rintro ((e | e | ⟨c, c1, c2, c3⟩) | ⟨_, e⟩)
        · exact Or.inl e
        · exact Or.inr (Or.inl e)
        · exact Or.inr (Or.inr ⟨c, by omega, c2, c3⟩)
        · exact Or.inr (Or.inr ⟨i, by omega, hi1, e⟩)
      · rintro (e | e | ⟨c, c1, c2, c3⟩)
        · exact Or.inl (Or.inl e)
        · exact Or.inl (Or.inr (Or.inl e))
        · by_cases hci : c = i
          · subst hci
            right
            refine ⟨?_, c3⟩
            apply Classical.byContradiction
            intro hbb
            rw [abn c b (by omega) (by omega)] at c3
            exact absurd c3 (by decide)
          · exact Or.inl (Or.inr (Or.inr ⟨c, by omega, c2, c3⟩))
theorem m_kin {a b : Nat} (h6 : σ 60 6 = nI n) (ha : a < n) (hb : b < n) (hn : n ≤ 16) (hr : ∀ h : Nat, h < 16 → σ 76 h = nI (fm h)) (hf : ∀ h : Nat, h < 16 → fm h < 65536) {rec2 : Int32 → Int32 → nd_Mem → nd_Res} : ∀ (d i f : Nat) (x : Int32), i + d = n → d < f → ((x = 1 ∧ rc_ fm a i b) ∨ (x = 0 ∧ ¬ rc_ fm a i b)) → (f_X11_isKing_33 F rec2 f (nI a) (nI b) x (nI i) σ = rec2 (nI a) (nI (b + 1)) σ ∧ rc_ fm a n b) ∨ (f_X11_isKing_33 F rec2 f (nI a) (nI b) x (nI i) σ = some (0, σ) ∧ ¬ rc_ fm a n b) := by
  intro d
  induction d with
  | zero =>
    intro i f x hi hf' hx
    obtain ⟨f, rfl⟩ : ∃ g, f = g + 1 := ⟨f - 1, by omega⟩
    have : i = n := by omega
    subst this
    have step : f_X11_isKing_33 F rec2 (f + 1) (nI a) (nI b) x (nI i) σ = (if x = 0 then some (0, σ) else rec2 (nI a) (nI (b + 1)) σ) := by
      show f_X11_isKing_33_b F rec2 _ _ _ _ _ σ = _
      unfold f_X11_isKing_33_b
      rw [h6, if_pos (nI_le (Nat.le_refl i) (by omega)), nI_1]
    rw [step]
    rcases hx with ⟨rfl, h⟩ | ⟨rfl, h⟩
    · left; exact ⟨by rw [if_neg n10], h⟩
    · right; exact ⟨by rw [if_pos rfl], h⟩
  | succ d ih =>
    intro i f x hi hf' hx
    obtain ⟨f, rfl⟩ : ∃ g, f = g + 1 := ⟨f - 1, by omega⟩
    have step : f_X11_isKing_33 F rec2 (f + 1) (nI a) (nI b) x (nI i) σ = f_X11_isKing_33 F rec2 f (nI a) (nI b) (if ab_ fm a i = true ∧ ab_ fm i b = true then 1 else x) (nI (i + 1)) σ := by
      show f_X11_isKing_33_b F rec2 _ _ _ _ _ σ = _
      unfold f_X11_isKing_33_b f_X11_isKing_64
      rw [h6, if_neg (nI_ge (by omega) (by omega)), e_above (by omega) (by omega) hr hf, n_bind, nI_1]
      cases h1 : ab_ fm a i
      · rw [if_pos (by decide), if_neg (fun e => absurd e.1 (by decide))]
      · rw [if_pos rfl, if_neg n10, e_above (by omega) (by omega) hr hf, n_bind]
        cases h2 : ab_ fm i b
        · rw [if_pos (by decide), if_neg (fun e => absurd e.2 (by decide))]
        · rw [if_pos rfl, if_neg n10, if_pos ⟨rfl, rfl⟩]
    rw [step]
    apply ih (i + 1) f _ (by omega) (by omega)
    by_cases hc : ab_ fm a i = true ∧ ab_ fm i b = true
    · rw [if_pos hc]
      exact Or.inl ⟨rfl, Or.inr (Or.inr ⟨i, by omega, hc.1, hc.2⟩)⟩
    · rw [if_neg hc]
      have same : rc_ fm a (i + 1) b ↔ rc_ fm a i b := by
        constructor
        · rintro (e | e | ⟨c, c1, c2, c3⟩)
          · exact Or.inl e
          · exact Or.inr (Or.inl e)
          · refine Or.inr (Or.inr ⟨c, ?_, c2, c3⟩)
            by_cases hci : c = i
            · subst hci; exact absurd ⟨c2, c3⟩ hc
            · omega
        · rintro (e | e | ⟨c, c1, c2, c3⟩)
          · exact Or.inl e
          · exact Or.inr (Or.inl e)
          · exact Or.inr (Or.inr ⟨c, by omega, c2, c3⟩)
      rcases hx with ⟨e, h⟩ | ⟨e, h⟩
      · exact Or.inl ⟨e, same.mpr h⟩
      · exact Or.inr ⟨e, fun h2 => h (same.mp h2)⟩
theorem m_king (hF : 300000 ≤ F) {a : Nat} (h6 : σ 60 6 = nI n) (ha : a < n) (hn : n ≤ 16) (hr : ∀ h : Nat, h < 16 → σ 76 h = nI (fm h)) (hf : ∀ h : Nat, h < 16 → fm h < 65536) : ∀ (d b f : Nat), b + d = n → d < f → (∀ c : Nat, c < b → rc_ fm a n c) → (f_X11_isKing_2 F f (nI a) (nI b) σ = some (1, σ) ∧ ∀ c : Nat, c < n → rc_ fm a n c) ∨ (f_X11_isKing_2 F f (nI a) (nI b) σ = some (0, σ) ∧ ¬ ∀ c : Nat, c < n → rc_ fm a n c) := by
  intro d
  induction d with
  | zero =>
    intro b f hb hf' hc
    obtain ⟨f, rfl⟩ : ∃ g, f = g + 1 := ⟨f - 1, by omega⟩
    have : b = n := by omega
    subst this
    left
    refine ⟨?_, hc⟩
    show f_X11_isKing_2_b F _ _ _ σ = _
    unfold f_X11_isKing_2_b
    rw [h6, if_pos (nI_le (Nat.le_refl b) (by omega))]
  | succ d ih =>
    intro b f hb hf' hc
    obtain ⟨f, rfl⟩ : ∃ g, f = g + 1 := ⟨f - 1, by omega⟩
    have go : ∀ x : Int32, ((x = 1 ∧ rc_ fm a 0 b) ∨ (x = 0 ∧ ¬ rc_ fm a 0 b)) → (f_X11_isKing_29 F (f_X11_isKing_2 F f) (nI a) (nI b) x σ = some (1, σ) ∧ ∀ c : Nat, c < n → rc_ fm a n c) ∨ (f_X11_isKing_29 F (f_X11_isKing_2 F f) (nI a) (nI b) x σ = some (0, σ) ∧ ¬ ∀ c : Nat, c < n → rc_ fm a n c) := by
      intro x hx
      unfold f_X11_isKing_29
      rcases m_kin (F := F) (σ := σ) (rec2 := f_X11_isKing_2 F f) h6 ha (show b < n by omega) hn hr hf n 0 F x (by omega) (by omega) hx with ⟨e1, e2⟩ | ⟨e1, e2⟩
      · have := ih (b + 1) f (by omega) (by omega) (fun c hcb => by
          by_cases hcb' : c = b
          · subst hcb'; exact e2
          · exact hc c (by omega))
        rw [← e1] at this
        exact this
      · right
        exact ⟨e1, fun h => e2 (h b (by omega))⟩
    have step : f_X11_isKing_2 F (f + 1) (nI a) (nI b) σ = f_X11_isKing_29 F (f_X11_isKing_2 F f) (nI a) (nI b) (if a = b ∨ ab_ fm a b = true then 1 else 0) σ := by
      show f_X11_isKing_2_b F _ _ _ σ = _
      unfold f_X11_isKing_2_b f_X11_isKing_24
      rw [h6, if_neg (nI_ge (by omega) (by omega))]
      by_cases hab : a = b
      · rw [if_pos (by rw [hab]), if_pos (Or.inl hab)]
      · rw [if_neg (fun e => hab ((nI_eq (by omega) (by omega)).mp e)), e_above (by omega) (by omega) hr hf, n_bind]
        cases h1 : ab_ fm a b
        · rw [if_pos (by decide), if_neg (fun e => e.elim hab (by decide))]
        · rw [if_pos rfl, if_neg n10, if_pos (Or.inr rfl)]
    rw [step]
    apply go
    by_cases h : a = b ∨ ab_ fm a b = true
    · rw [if_pos h]
      exact Or.inl ⟨rfl, h.elim Or.inl (fun e => Or.inr (Or.inl e))⟩
    · rw [if_neg h]
      refine Or.inr ⟨rfl, ?_⟩
      rintro (e | e | ⟨c, c1, _⟩)
      · exact h (Or.inl e)
      · exact h (Or.inr e)
      · omega
theorem kings_ (hF : 300000 ≤ F) {τ : nd_Mem} (h6 : τ 60 6 = nI n) (hn : n ≤ 16) (hc : ∀ h : Nat, h < 16 → σ 10 h = nI (fm h)) (hr : ∀ h : Nat, h < 16 → τ 76 h = nI (fm h)) (hf : ∀ h : Nat, h < 16 → fm h < 65536) (hg : ∀ h b : Nat, h < 16 → n ≤ b → (fm h).testBit b = false) : ∀ (d a f f' : Nat) (x : Int32), a + d = n → d < f → d < f' → ∃ v : Int32, f_X5_kings_4 F 3 f (nI n) x (nI a) σ = some (v, σ) ∧ f_X11_feuds_25 F f' x (nI a) τ = some (v, τ) := by
  intro d
  induction d with
  | zero =>
    intro a f f' x ha hf1 hf2
    obtain ⟨f, rfl⟩ : ∃ g, f = g + 1 := ⟨f - 1, by omega⟩
    obtain ⟨f', rfl⟩ : ∃ g, f' = g + 1 := ⟨f' - 1, by omega⟩
    refine ⟨x, ?_, ?_⟩
    · show f_X5_kings_4_b F _ 3 _ _ _ σ = _
      unfold f_X5_kings_4_b
      rw [if_pos (nI_le (by omega) (by omega))]
    · show f_X11_feuds_25_b F _ _ _ τ = _
      unfold f_X11_feuds_25_b
      rw [h6, if_pos (nI_le (by omega) (by omega))]
  | succ d ih =>
    intro a f f' x ha hf1 hf2
    obtain ⟨f, rfl⟩ : ∃ g, f = g + 1 := ⟨f - 1, by omega⟩
    obtain ⟨f', rfl⟩ : ∃ g, f' = g + 1 := ⟨f' - 1, by omega⟩
    have h1a : (1 : Int32) <<< (nI a &&& 31) = nI (2 ^ a) := n_one (by omega)
    have bl := bn_lt (ab_ fm a) 16
    have hpa : 2 ^ a < 2 ^ 16 := Nat.pow_lt_pow_right (by decide) (by omega)
    obtain ⟨z, e1, e2⟩ := e_kin (F := F) (σ := σ) (rec4 := f_X5_kings_4 F 3 f) (x2 := x) hF (show a < n by omega) hn hc hf hg n 0 F (bn_ (ab_ fm a) 16 ||| 2 ^ a) (by omega) (by omega) (Nat.or_lt_two_pow (n := 16) bl hpa) (fun b => by
      rw [Nat.testBit_or, Bool.or_eq_true, bn_tb, Bool.and_eq_true, decide_eq_true_eq, Nat.testBit_two_pow, decide_eq_true_eq]
      constructor
      · rintro (⟨_, e⟩ | e)
        · exact Or.inr (Or.inl e)
        · exact Or.inl e
      · rintro (e | e | ⟨c, c1, _⟩)
        · exact Or.inr e
        · left
          refine ⟨?_, e⟩
          apply Classical.byContradiction
          intro hb
          unfold ab_ at e
          rw [hg a b (by omega) (by omega), Bool.false_and] at e
          exact absurd e (by decide)
        · omega)
    have stepC : f_X5_kings_4 F 3 (f + 1) (nI n) x (nI a) σ = f_X5_kings_4 F 3 f (nI n) z (nI (a + 1)) σ := by
      show f_X5_kings_4_b F _ 3 _ _ _ σ = _
      unfold f_X5_kings_4_b
      rw [if_neg (nI_ge (by omega) (by omega)), e_below hF (by omega) hc hf, n_bind, h1a, n_or]
      exact e1
    have stepM : f_X11_feuds_25 F (f' + 1) x (nI a) τ = f_X11_feuds_25 F f' z (nI (a + 1)) τ := by
      show f_X11_feuds_25_b F _ _ _ τ = _
      unfold f_X11_feuds_25_b f_X11_feuds_47
      rw [h6, if_neg (nI_ge (by omega) (by omega)), nI_1]
      rcases m_king (F := F) (σ := τ) hF h6 (show a < n by omega) hn hr hf n 0 F (by omega) (by omega) (fun c hc => by omega) with ⟨q1, q2⟩ | ⟨q1, q2⟩
      · have q1' : f_X11_isKing F (nI a) τ = some (1, τ) := q1
        rcases e2 with ⟨_, e2⟩ | ⟨e2, _⟩
        · rw [q1', n_bind, if_neg n10, h1a, e2]
        · exact absurd q2 e2
      · have q1' : f_X11_isKing F (nI a) τ = some (0, τ) := q1
        rcases e2 with ⟨e2, _⟩ | ⟨_, e2⟩
        · exact absurd e2 q2
        · rw [q1', n_bind, if_pos rfl, e2]
    rw [stepC, stepM]
    exact ih (a + 1) f f' z (by omega) (by omega) (by omega)
end FD
