/-! powers, common parts -/
theorem i01 {p : Prop} [Decidable p] : ((if p then nI 0 else nI 1) = nI 0) = p := by
  by_cases h : p
  · simp [h]
  · simp [h]; decide
theorem i10 {p : Prop} [Decidable p] : ((if p then nI 1 else nI 0) = nI 0) = ¬ p := by
  by_cases h : p
  · simp [h]; decide
  · simp [h]
theorem rngL (m : Nat) (hm : m < 2147483648) {x lo : Int32} (h : ¬ (x < lo ∨ nI m < x)) (hlo : ¬ lo < 0) : ∃ a : Nat, a ≤ m ∧ x = nI a := by
  refine rng m hm (fun e => h (Or.inl ?_)) (fun e => h (Or.inr e))
  rw [Int32.lt_iff_toInt_lt] at *
  have : (0 : Int32).toInt = 0 := rfl
  omega
section NUM
variable {F : Nat} {σ : nd_Mem}
theorem e_pow_ {a k : Nat} (hk : k < 2147483648) : ∀ (d i p f : Nat), i + d = k → d < f → f_X0_power_4 F f (nI a) (nI k) (nI p) (nI i) σ = some (nI (p * a ^ d), σ) := by
  intro d
  induction d with
  | zero =>
    intro i p f hi hf
    obtain ⟨f, rfl⟩ : ∃ g, f = g + 1 := ⟨f - 1, by omega⟩
    unfold f_X0_power_4 f_X0_power_4_b
    simp (disch := omega) only [n_lit, n_add, n_mul, n_sub, n_lt, n_le, n_eq, n_cl, n_nle, n_yle, n_nlt, n_ylt, n_neq, n_m1, n_m1l, n_m1g, n_bind, u_eq, u_ne1, u_ne2, w_eq, w_ne, eq_self, nd_let, ite_true, ite_false, if_true, if_false, false_or, or_false, true_and, and_true, not_true, not_false, true_or, or_true, Nat.not_lt_zero, Nat.zero_le, Nat.pow_zero, Nat.mul_one]
  | succ d ih =>
    intro i p f hi hf
    obtain ⟨f, rfl⟩ : ∃ g, f = g + 1 := ⟨f - 1, by omega⟩
    unfold f_X0_power_4 f_X0_power_4_b
    simp (disch := omega) only [n_lit, n_add, n_mul, n_sub, n_lt, n_le, n_eq, n_cl, n_nle, n_yle, n_nlt, n_ylt, n_neq, n_m1, n_m1l, n_m1g, n_bind, u_eq, u_ne1, u_ne2, w_eq, w_ne, eq_self, nd_let, ite_true, ite_false, if_true, if_false, false_or, or_false, true_and, and_true, not_true, not_false, true_or, or_true, Nat.not_lt_zero, Nat.zero_le]
    rw [ih (i + 1) (p * a) f (by omega) (by omega), Nat.pow_succ, Nat.mul_assoc, Nat.mul_comm a]
theorem e_pow {a k : Nat} (hF : k < F) (hk : k < 2147483648) : f_X0_power F (nI a) (nI k) σ = some (nI (a ^ k), σ) := by
  unfold f_X0_power
  have := e_pow_ (F := F) (σ := σ) (a := a) hk k 0 1 F (by omega) hF
  rw [Nat.one_mul] at this
  exact this
theorem e_powM_ {a k : Nat} (hk : k < 2147483648) : ∀ (d i p f : Nat), i + d = k → d < f → f_X11_power_5 F f (nI a) (nI k) (nI p) (nI i) σ = some (nI (p * a ^ d), σ) := by
  intro d
  induction d with
  | zero =>
    intro i p f hi hf
    obtain ⟨f, rfl⟩ : ∃ g, f = g + 1 := ⟨f - 1, by omega⟩
    unfold f_X11_power_5 f_X11_power_5_b
    simp (disch := omega) only [n_lit, n_add, n_mul, n_sub, n_lt, n_le, n_eq, n_cl, n_nle, n_yle, n_nlt, n_ylt, n_neq, n_m1, n_m1l, n_m1g, n_bind, u_eq, u_ne1, u_ne2, w_eq, w_ne, eq_self, nd_let, ite_true, ite_false, if_true, if_false, false_or, or_false, true_and, and_true, not_true, not_false, true_or, or_true, Nat.not_lt_zero, Nat.zero_le, Nat.pow_zero, Nat.mul_one]
  | succ d ih =>
    intro i p f hi hf
    obtain ⟨f, rfl⟩ : ∃ g, f = g + 1 := ⟨f - 1, by omega⟩
    unfold f_X11_power_5 f_X11_power_5_b
    simp (disch := omega) only [n_lit, n_add, n_mul, n_sub, n_lt, n_le, n_eq, n_cl, n_nle, n_yle, n_nlt, n_ylt, n_neq, n_m1, n_m1l, n_m1g, n_bind, u_eq, u_ne1, u_ne2, w_eq, w_ne, eq_self, nd_let, ite_true, ite_false, if_true, if_false, false_or, or_false, true_and, and_true, not_true, not_false, true_or, or_true, Nat.not_lt_zero, Nat.zero_le]
    rw [ih (i + 1) (p * a) f (by omega) (by omega), Nat.pow_succ, Nat.mul_assoc, Nat.mul_comm a]
theorem e_powM {a k : Nat} (hF : k < F) (hk : k < 2147483648) : f_X11_power F (nI a) (nI k) σ = some (nI (a ^ k), σ) := by
  unfold f_X11_power
  have := e_powM_ (F := F) (σ := σ) (a := a) hk k 0 1 F (by omega) hF
  rw [Nat.one_mul] at this
  exact this
theorem gcd_half {x y : Nat} (h : 0 < x % y) (hy : 0 < y) : y % (x % y) * 2 < y := by
  have h1 : x % y < y := Nat.mod_lt _ hy
  have h2 : y % (x % y) < x % y := Nat.mod_lt _ h
  have h3 := Nat.div_add_mod y (x % y)
  have h4 : 1 ≤ y / (x % y) := (Nat.one_le_div_iff h).mpr (by omega)
  have h5 : (x % y) * 1 ≤ (x % y) * (y / (x % y)) := Nat.mul_le_mul_left _ h4
  omega
theorem e_gcd_ : ∀ (m x y i f : Nat), x < 2147483648 → y < 2147483648 → y < 2 ^ m → i + 2 * m ≤ 100 → 2 * m < f → f_X0_commonPart_7 F f (nI x) (nI y) (nI i) σ = some (nI (Nat.gcd y x), σ) := by
  intro m
  induction m with
  | zero =>
    intro x y i f hx hy h1 h2 hf
    obtain ⟨f, rfl⟩ : ∃ g, f = g + 1 := ⟨f - 1, by omega⟩
    have : y = 0 := by omega
    subst this
    unfold f_X0_commonPart_7 f_X0_commonPart_7_b f_X0_commonPart_34
    simp (disch := omega) only [n_lit, n_add, n_mul, n_sub, n_lt, n_le, n_eq, n_cl, n_nle, n_yle, n_nlt, n_ylt, n_neq, n_m1, n_m1l, n_m1g, n_bind, u_eq, u_ne1, u_ne2, w_eq, w_ne, eq_self, nd_let, ite_true, ite_false, if_true, if_false, false_or, or_false, true_and, and_true, not_true, not_false, true_or, or_true, Nat.not_lt_zero, Nat.zero_le, Nat.gcd_zero_left, ite_self]
  | succ m ih =>
    intro x y i f hx hy h1 h2 hf
    obtain ⟨f, rfl⟩ : ∃ g, f = g + 1 := ⟨f - 1, by omega⟩
    unfold f_X0_commonPart_7 f_X0_commonPart_7_b f_X0_commonPart_34
    by_cases h0 : y = 0
    · subst h0
      simp (disch := omega) only [n_lit, n_add, n_mul, n_sub, n_lt, n_le, n_eq, n_cl, n_nle, n_yle, n_nlt, n_ylt, n_neq, n_m1, n_m1l, n_m1g, n_bind, u_eq, u_ne1, u_ne2, w_eq, w_ne, eq_self, nd_let, ite_true, ite_false, if_true, if_false, false_or, or_false, true_and, and_true, not_true, not_false, true_or, or_true, Nat.not_lt_zero, Nat.zero_le, Nat.gcd_zero_left, ite_self]
    · have hm : x % y < y := Nat.mod_lt _ (by omega)
      simp (disch := omega) only [n_lit, n_add, n_mul, n_sub, n_lt, n_le, n_eq, n_cl, n_nle, n_yle, n_nlt, n_ylt, n_neq, n_m1, n_m1l, n_m1g, n_bind, u_eq, u_ne1, u_ne2, w_eq, w_ne, eq_self, nd_let, ite_true, ite_false, if_true, if_false, false_or, or_false, true_and, and_true, not_true, not_false, true_or, or_true, Nat.not_lt_zero, Nat.zero_le, n_rem]
      obtain ⟨f, rfl⟩ : ∃ g, f = g + 1 := ⟨f - 1, by omega⟩
      unfold f_X0_commonPart_7 f_X0_commonPart_7_b f_X0_commonPart_34
      by_cases h3 : x % y = 0
      · rw [h3]
        simp (disch := omega) only [n_lit, n_add, n_mul, n_sub, n_lt, n_le, n_eq, n_cl, n_nle, n_yle, n_nlt, n_ylt, n_neq, n_m1, n_m1l, n_m1g, n_bind, u_eq, u_ne1, u_ne2, w_eq, w_ne, eq_self, nd_let, ite_true, ite_false, if_true, if_false, false_or, or_false, true_and, and_true, not_true, not_false, true_or, or_true, Nat.not_lt_zero, Nat.zero_le, ite_self]
        rw [Nat.gcd_rec, h3, Nat.gcd_zero_left]
      · have hh := gcd_half (x := x) (y := y) (by omega) (by omega)
        have hm2 : y % (x % y) < x % y := Nat.mod_lt _ (by omega)
        simp (disch := omega) only [n_lit, n_add, n_mul, n_sub, n_lt, n_le, n_eq, n_cl, n_nle, n_yle, n_nlt, n_ylt, n_neq, n_m1, n_m1l, n_m1g, n_bind, u_eq, u_ne1, u_ne2, w_eq, w_ne, eq_self, nd_let, ite_true, ite_false, if_true, if_false, false_or, or_false, true_and, and_true, not_true, not_false, true_or, or_true, Nat.not_lt_zero, Nat.zero_le, n_rem]
        rw [Nat.pow_succ] at h1
        rw [ih _ _ _ f (by omega) (by omega) (by omega) (by omega) (by omega), ← Nat.gcd_rec, ← Nat.gcd_rec]
theorem e_gcd {x y : Nat} (hx : x < 2147483648) (hy : y < 2147483648) (hF : 300000 ≤ F) : f_X0_commonPart F (nI x) (nI y) σ = some (nI (Nat.gcd x y), σ) := by
  unfold f_X0_commonPart
  rw [Nat.gcd_comm]
  exact e_gcd_ 31 x y 0 F hx hy hy (by omega) (by omega)
theorem e_gcdM_ : ∀ (m x y f : Nat), x < 2147483648 → y < 2147483648 → y < 2 ^ m → 2 * m < f → f_X11_common_23 F f (nI x) (nI y) σ = some (nI (Nat.gcd y x), σ) := by
  intro m
  induction m with
  | zero =>
    intro x y f hx hy h1 hf
    obtain ⟨f, rfl⟩ : ∃ g, f = g + 1 := ⟨f - 1, by omega⟩
    have : y = 0 := by omega
    subst this
    unfold f_X11_common_23 f_X11_common_23_b
    simp (disch := omega) only [n_lit, n_add, n_mul, n_sub, n_lt, n_le, n_eq, n_cl, n_nle, n_yle, n_nlt, n_ylt, n_neq, n_m1, n_m1l, n_m1g, n_bind, u_eq, u_ne1, u_ne2, w_eq, w_ne, eq_self, nd_let, ite_true, ite_false, if_true, if_false, false_or, or_false, true_and, and_true, not_true, not_false, true_or, or_true, Nat.not_lt_zero, Nat.zero_le, Nat.gcd_zero_left, ite_self]
  | succ m ih =>
    intro x y f hx hy h1 hf
    obtain ⟨f, rfl⟩ : ∃ g, f = g + 1 := ⟨f - 1, by omega⟩
    unfold f_X11_common_23 f_X11_common_23_b
    by_cases h0 : y = 0
    · subst h0
      simp (disch := omega) only [n_lit, n_add, n_mul, n_sub, n_lt, n_le, n_eq, n_cl, n_nle, n_yle, n_nlt, n_ylt, n_neq, n_m1, n_m1l, n_m1g, n_bind, u_eq, u_ne1, u_ne2, w_eq, w_ne, eq_self, nd_let, ite_true, ite_false, if_true, if_false, false_or, or_false, true_and, and_true, not_true, not_false, true_or, or_true, Nat.not_lt_zero, Nat.zero_le, Nat.gcd_zero_left, ite_self]
    · have hm : x % y < y := Nat.mod_lt _ (by omega)
      simp (disch := omega) only [n_lit, n_add, n_mul, n_sub, n_lt, n_le, n_eq, n_cl, n_nle, n_yle, n_nlt, n_ylt, n_neq, n_m1, n_m1l, n_m1g, n_bind, u_eq, u_ne1, u_ne2, w_eq, w_ne, eq_self, nd_let, ite_true, ite_false, if_true, if_false, false_or, or_false, true_and, and_true, not_true, not_false, true_or, or_true, Nat.not_lt_zero, Nat.zero_le, n_rem]
      obtain ⟨f, rfl⟩ : ∃ g, f = g + 1 := ⟨f - 1, by omega⟩
      unfold f_X11_common_23 f_X11_common_23_b
      by_cases h3 : x % y = 0
      · rw [h3]
        simp (disch := omega) only [n_lit, n_add, n_mul, n_sub, n_lt, n_le, n_eq, n_cl, n_nle, n_yle, n_nlt, n_ylt, n_neq, n_m1, n_m1l, n_m1g, n_bind, u_eq, u_ne1, u_ne2, w_eq, w_ne, eq_self, nd_let, ite_true, ite_false, if_true, if_false, false_or, or_false, true_and, and_true, not_true, not_false, true_or, or_true, Nat.not_lt_zero, Nat.zero_le, ite_self]
        rw [Nat.gcd_rec, h3, Nat.gcd_zero_left]
      · have hh := gcd_half (x := x) (y := y) (by omega) (by omega)
        have hm2 : y % (x % y) < x % y := Nat.mod_lt _ (by omega)
        simp (disch := omega) only [n_lit, n_add, n_mul, n_sub, n_lt, n_le, n_eq, n_cl, n_nle, n_yle, n_nlt, n_ylt, n_neq, n_m1, n_m1l, n_m1g, n_bind, u_eq, u_ne1, u_ne2, w_eq, w_ne, eq_self, nd_let, ite_true, ite_false, if_true, if_false, false_or, or_false, true_and, and_true, not_true, not_false, true_or, or_true, Nat.not_lt_zero, Nat.zero_le, n_rem]
        rw [Nat.pow_succ] at h1
        rw [ih _ _ f (by omega) (by omega) (by omega) (by omega), ← Nat.gcd_rec, ← Nat.gcd_rec]
theorem e_gcdM {x y : Nat} (hx : x < 2147483648) (hy : y < 2147483648) (hF : 300000 ≤ F) : f_X11_common F (nI x) (nI y) σ = some (nI (Nat.gcd x y), σ) := by
  unfold f_X11_common f_X11_common_10 f_X11_common_21
  rw [if_pos (nI_pos' hx), if_pos (nI_pos' hy), Nat.gcd_comm]
  exact e_gcdM_ 31 x y F hx hy hy (by omega)
theorem e_low {x y : Nat} (w : Int32) (hx : x < 2147483648) (hy : 0 < y) (hy2 : y < 2147483648) (hF : 300000 ≤ F) : f_X0_lowest F (nI x) (nI y) w σ = some (if w = 0 then nI (x / Nat.gcd x y) else nI (y / Nat.gcd x y), σ) := by
  have hg : 0 < Nat.gcd x y := Nat.gcd_pos_of_pos_right _ hy
  have hg2 : Nat.gcd x y ≤ y := Nat.gcd_le_right _ hy
  unfold f_X0_lowest
  rw [e_gcd hx hy2 hF, n_bind]
  have h0 : ¬ nI (Nat.gcd x y) = 0 := nI_ne0 hg (by omega)
  rw [if_neg h0, if_neg h0, if_neg h0]
  simp (disch := omega) only [n_lit, n_add, n_mul, n_sub, n_lt, n_le, n_eq, n_cl, n_nle, n_yle, n_nlt, n_ylt, n_neq, n_m1, n_m1l, n_m1g, n_bind, u_eq, u_ne1, u_ne2, w_eq, w_ne, eq_self, nd_let, ite_true, ite_false, if_true, if_false, false_or, or_false, true_and, and_true, not_true, not_false, true_or, or_true, Nat.not_lt_zero, Nat.zero_le, n_div]
  by_cases hw : w = nI 0
  · simp only [hw, if_true]
  · simp only [hw, if_false]
theorem e_frac {x y : Nat} (hx : x < 2147483648) (hy : 0 < y) (hy2 : y < 2147483648) (hF : 300000 ≤ F) : f_X11_isFraction F (nI x) (nI y) σ = some (0, nd_up (nd_up σ 60 58 (nI (x / Nat.gcd x y))) 60 59 (nI (y / Nat.gcd x y))) := by
  have hg : 0 < Nat.gcd x y := Nat.gcd_pos_of_pos_right _ hy
  have hg2 : Nat.gcd x y ≤ y := Nat.gcd_le_right _ hy
  unfold f_X11_isFraction f_X11_isFraction_18 f_X11_isFraction_34
  have h0 : ¬ nI (Nat.gcd x y) = 0 := nI_ne0 hg (by omega)
  simp only [e_gcdM hx hy2 hF, n_bind, if_pos (nI_pos' hy2), if_neg h0]
  rw [n_div hx (by omega), n_div hy2 (by omega)]
  rfl
theorem m_toInt {n : Nat} (h : n < 2147483648) : (-nI n).toInt = -(n : Int) := by
  rw [Int32.toInt_neg, nI_toInt h]
  exact Int.bmod_eq_of_le (by omega) (by omega)
theorem neg_neg_ (x : Int32) : -(-x) = x := Int32.neg_neg
theorem e_fracN {x y : Nat} (hx : x < 2147483648) (hy : 0 < y) (hy2 : y < 2147483648) (hF : 300000 ≤ F) : f_X11_isFraction F (- nI x) (- nI y) σ = some (0, nd_up (nd_up σ 60 58 (nI (x / Nat.gcd x y))) 60 59 (nI (y / Nat.gcd x y))) := by
  have hg : 0 < Nat.gcd x y := Nat.gcd_pos_of_pos_right _ hy
  have hg2 : Nat.gcd x y ≤ y := Nat.gcd_le_right _ hy
  have hny : ¬ 0 ≤ - nI y := by
    rw [Int32.le_iff_toInt_le, m_toInt hy2]
    show ¬ (0 : Int) ≤ _
    omega
  have e1 : f_X11_common F (- nI x) (- nI y) σ = some (nI (Nat.gcd x y), σ) := by
    have e2 : f_X11_common_10 F (- nI y) (nI x) σ = some (nI (Nat.gcd x y), σ) := by
      unfold f_X11_common_10 f_X11_common_21
      rw [if_neg hny, neg_neg_, Nat.gcd_comm]
      exact e_gcdM_ 31 x y F hx hy2 hy2 (by omega)
    unfold f_X11_common
    by_cases hx0 : x = 0
    · subst hx0
      rw [show - nI 0 = nI 0 from rfl, if_pos (show (0 : Int32) ≤ nI 0 by decide)]
      exact e2
    · have hnx : ¬ 0 ≤ - nI x := by
        rw [Int32.le_iff_toInt_le, m_toInt hx]
        show ¬ (0 : Int) ≤ _
        omega
      rw [if_neg hnx, neg_neg_]
      exact e2
  unfold f_X11_isFraction f_X11_isFraction_18 f_X11_isFraction_34
  have h0 : ¬ nI (Nat.gcd x y) = 0 := nI_ne0 hg (by omega)
  simp only [e1, n_bind, if_neg hny, neg_neg_, if_neg h0]
  rw [n_div hx (by omega), n_div hy2 (by omega)]
  rfl
end NUM
theorem div_np {x : Int32} {c : Nat} (h : x < 0) (h0 : 0 < c) (hc : c < 2147483648) : x / nI c < 1 := by
  rw [Int32.lt_iff_toInt_lt] at h ⊢
  have e : (x / nI c).toInt = x.toInt.tdiv (nI c).toInt := by
    apply Int32.toInt_div_of_ne_right
    intro e
    exact li_m1 c hc e
  rw [e, nI_toInt hc]
  have h1 : x.toInt < 0 := h
  have h2 := Int.tdiv_nonneg (a := -x.toInt) (b := (c : Int)) (by omega) (by omega)
  rw [Int.neg_tdiv] at h2
  show x.toInt.tdiv (c : Int) < 1
  omega
