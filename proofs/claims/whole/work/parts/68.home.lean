/-! home, streets -/
def w_sum (n on back : Nat) : Nat → Nat
  | 0 => 0
  | i + 1 => w_sum n on back i + back ^ i * on ^ (n - 1 - i)
section HM
variable {F : Nat} {σ : nd_Mem}
theorem e_wei_ {i n a b : Nat} (hF : 300000 ≤ F) (hi : i ≤ n) (hn : n ≤ 8) : ∀ (d j f : Nat), j + d = i → d < f → f_X0_weight_6 F f (nI i) (nI n) (nI a) (nI b) (nI (w_sum n a b j)) (nI j) σ = some (nI (w_sum n a b i), σ) := by
  intro d
  induction d with
  | zero =>
    intro j f hj hf
    obtain ⟨f, rfl⟩ : ∃ g, f = g + 1 := ⟨f - 1, by omega⟩
    have : j = i := by omega
    subst this
    unfold f_X0_weight_6 f_X0_weight_6_b
    simp (disch := omega) only [n_lit, n_add, n_mul, n_sub, n_lt, n_le, n_eq, n_cl, n_nle, n_yle, n_nlt, n_ylt, n_neq, n_m1, n_m1l, n_m1g, n_bind, u_eq, u_ne1, u_ne2, w_eq, w_ne, eq_self, nd_let, ite_true, ite_false, if_true, if_false, false_or, or_false, true_and, and_true, not_true, not_false, true_or, or_true, Nat.not_lt_zero, Nat.zero_le]
  | succ d ih =>
    intro j f hj hf
    obtain ⟨f, rfl⟩ : ∃ g, f = g + 1 := ⟨f - 1, by omega⟩
    unfold f_X0_weight_6 f_X0_weight_6_b
    simp (disch := omega) only [n_lit, n_add, n_mul, n_sub, n_lt, n_le, n_eq, n_cl, n_nle, n_yle, n_nlt, n_ylt, n_neq, n_m1, n_m1l, n_m1g, n_bind, u_eq, u_ne1, u_ne2, w_eq, w_ne, eq_self, nd_let, ite_true, ite_false, if_true, if_false, false_or, or_false, true_and, and_true, not_true, not_false, true_or, or_true, Nat.not_lt_zero, Nat.zero_le]
    rw [e_pow (by omega) (by omega), n_bind, e_pow (by omega) (by omega), n_bind]
    simp (disch := omega) only [n_lit, n_add, n_mul, n_sub, n_lt, n_le, n_eq, n_cl, n_nle, n_yle, n_nlt, n_ylt, n_neq, n_m1, n_m1l, n_m1g, n_bind, u_eq, u_ne1, u_ne2, w_eq, w_ne, eq_self, nd_let, ite_true, ite_false, if_true, if_false, false_or, or_false, true_and, and_true, not_true, not_false, true_or, or_true, Nat.not_lt_zero, Nat.zero_le]
    exact ih (j + 1) f (by omega) (by omega)
theorem e_wei {i n a b : Nat} (hF : 300000 ≤ F) (hi : i ≤ n) (hn : n ≤ 8) : f_X0_weight F (nI i) (nI n) (nI a) (nI b) σ = some (nI (w_sum n a b i), σ) := e_wei_ hF hi hn i 0 F (by omega) (by omega)
end HM
def hm_ok (n i a b : Nat) : Bool :=
  let u := w_sum n a (b - a) i
  let v := w_sum n a (b - a) n
  let c := b - a
  0 < v && v < 2147483648 && u < 2147483648 &&
  (if a = c then decide (u / Nat.gcd u v = i / Nat.gcd i n) && decide (v / Nat.gcd u v = n / Nat.gcd i n)
   else if c < a then
    let p := a ^ (n - i) * (a ^ i - c ^ i)
    let q := a ^ n - c ^ n
    decide (c ^ i ≤ a ^ i) && decide (c ^ n ≤ a ^ n) && decide (0 < q) && decide (q < 2147483648) && decide (p < 2147483648) && decide (u / Nat.gcd u v = p / Nat.gcd p q) && decide (v / Nat.gcd u v = q / Nat.gcd p q)
   else
    let p := a ^ (n - i) * (c ^ i - a ^ i)
    let q := c ^ n - a ^ n
    decide (a ^ i ≤ c ^ i) && decide (a ^ n ≤ c ^ n) && decide (0 < q) && decide (q < 2147483648) && decide (p < 2147483648) && decide (u / Nat.gcd u v = p / Nat.gcd p q) && decide (v / Nat.gcd u v = q / Nat.gcd p q))
theorem hm_all : ((List.range 9).all fun n => (List.range 9).all fun i => (List.range 6).all fun a => (List.range 7).all fun b => decide (n = 0) || decide (n < i) || decide (a = 0) || decide (b ≤ a) || hm_ok n i a b) = true := by decide +kernel
theorem hm_at {n i a b : Nat} (hn : n ≤ 8) (hn1 : 1 ≤ n) (hi : i ≤ n) (ha : 1 ≤ a) (ha5 : a ≤ 5) (hb : b ≤ 6) (hab : a < b) : hm_ok n i a b = true := by
  have h := hm_all
  simp only [List.all_eq_true, List.mem_range, Bool.or_eq_true, decide_eq_true_eq] at h
  have := h n (by omega) i (by omega) a (by omega) b (by omega)
  rcases this with (((h | h) | h) | h) | h
  · omega
  · omega
  · omega
  · omega
  · exact h
theorem sub_neg_ {a b : Nat} (h : a ≤ b) : nI a - nI b = - nI (b - a) := by
  have e : b = (b - a) + a := by omega
  generalize hd : b - a = d at *
  subst e
  rw [← n_add]
  grind
theorem mul_neg__ (a b : Int32) : a * -b = -(a * b) := by grind
/-! scratch: cells and slots of which the invariant says nothing -/
abbrev sc_S : List Nat := [39, 40, 41, 42, 43, 44, 45, 46, 52, 53, 54, 56, 58, 63, 74, 78, 79, 80, 82, 83, 84, 88, 90, 91, 94, 97, 98]
abbrev sc_K : List Nat := [0, 58, 59]
theorem op_sc {C M : nd_Mem → nd_Res} (h : ∀ (σ : nd_Mem) (n : Nat), iv_I n σ → ∃ (r : Int32) (τ ρ : nd_Mem), C σ = some (r, τ) ∧ M τ = some (r, ρ) ∧ fr_ sc_S sc_K σ ρ) : op_ C M := by
  intro σ n hI
  obtain ⟨r, τ, ρ, a, b, c⟩ := h σ n hI
  exact ⟨r, τ, ρ, n, a, b, iv_fr c (by decide) hI, congrFun (c.1 0 (by decide) (by decide)) 10⟩
theorem if_t {c : Prop} [Decidable c] {α : Type} {a b : α} (h : c) : (if c then a else b) = a := if_pos h
theorem home_eq {F : Nat} (hF : 300000 ≤ F) (x1 x2 x3 x4 : Int32) (σ : nd_Mem) : ∃ (r : Int32) (ρ : nd_Mem), f_X10_home F x1 x2 x3 x4 σ = some (r, σ) ∧ f_X11_home F x1 x2 x3 x4 σ = some (r, ρ) ∧ fr_ sc_S sc_K σ ρ := by
  have hf0 : fr_ sc_S sc_K σ (nd_up σ 60 0 0) := (by repeat first | exact fr_rf | (refine fr_up57 ?_ (by decide)) | (refine fr_up ?_ (by decide) (by decide)) | (refine fr_row ?_ (by decide) (by decide)))
  unfold f_X10_home f_X10_home_68 f_X10_home_69 f_X10_home_87 f_X11_home f_X11_home_80 f_X11_home_149 nd_let
  simp only [e_isIn, n_bind]
  by_cases h2 : x2 < 1 ∨ 8 < x2
  · refine ⟨-1, _, ?_, ?_, hf0⟩
    · rcases h2 with h | h
      · simp [h]
      · by_cases h' : x2 < 1 <;> simp [h, h']
    · simp [h2]
  obtain ⟨m, hm, rfl⟩ := rngL 8 (by decide) (x := x2) h2 (by decide)
  by_cases h1 : x1 < 0 ∨ nI m < x1
  · refine ⟨-1, _, ?_, ?_, hf0⟩
    · have h3 : ¬ nI m < 1 := by grind
      have h4 : ¬ 8 < nI m := by grind
      rcases h1 with h | h
      · simp [h, h3, h4]
      · by_cases h' : x1 < 0 <;> simp [h, h', h3, h4]
    · simp [h2, h1]
  obtain ⟨i, hi, rfl⟩ := rng m (by omega) (x := x1) (by grind) (by grind)
  have hm1 : 1 ≤ m := by
    have : ¬ nI m < 1 := by grind
    simp (disch := omega) only [n_lit, n_add, n_mul, n_sub, n_lt, n_le, n_eq, n_cl, n_nle, n_yle, n_nlt, n_ylt, n_neq, n_m1, n_m1l, n_m1g, n_bind, u_eq, u_ne1, u_ne2, w_eq, w_ne, eq_self, nd_let, ite_true, ite_false, if_true, if_false, false_or, or_false, true_and, and_true, not_true, not_false, true_or, or_true, Nat.not_lt_zero, Nat.zero_le] at this
    omega
  by_cases h3 : x3 < 0
  · refine ⟨-1, _, ?_, ?_, hf0⟩
    · have := div_np (c := 10) h3 (by decide) (by decide)
      have h5 : x3 / 10 < 1 := this
      simp only [h5, if_true, ite_self]
    · have : x3 < 12 := by grind
      simp [this, h1, h2]
  obtain ⟨c, hc, rfl⟩ := nI_of h3
  have hd : c / 10 < 2147483648 := by omega
  by_cases hv : 12 ≤ c ∧ c ≤ 56 ∧ 2 ≤ c % 10 ∧ c % 10 ≤ 6 ∧ c / 10 < c % 10
  · by_cases h4 : x4 < 0 ∨ 1 < x4
    · refine ⟨-1, _, ?_, ?_, hf0⟩
      · by_cases h4' : x4 < nI 0
        · simp (disch := omega) only [n_lit, n_add, n_mul, n_sub, n_lt, n_le, n_eq, n_cl, n_nle, n_yle, n_nlt, n_ylt, n_neq, n_m1, n_m1l, n_m1g, n_bind, u_eq, u_ne1, u_ne2, w_eq, w_ne, eq_self, nd_let, ite_true, ite_false, if_true, if_false, false_or, or_false, true_and, and_true, not_true, not_false, true_or, or_true, Nat.not_lt_zero, Nat.zero_le, n_31, n_tb, n_tb0, n_p2, n_or, n_div, n_rem, h4']
        · have h5 : ¬ x4 ≤ nI 1 := fun h => by
            rcases h4 with q | q
            · exact h4' q
            · exact absurd q (Int32.not_lt.mpr h)
          simp (disch := omega) only [n_lit, n_add, n_mul, n_sub, n_lt, n_le, n_eq, n_cl, n_nle, n_yle, n_nlt, n_ylt, n_neq, n_m1, n_m1l, n_m1g, n_bind, u_eq, u_ne1, u_ne2, w_eq, w_ne, eq_self, nd_let, ite_true, ite_false, if_true, if_false, false_or, or_false, true_and, and_true, not_true, not_false, true_or, or_true, Nat.not_lt_zero, Nat.zero_le, n_31, n_tb, n_tb0, n_p2, n_or, n_div, n_rem, h4', h5]
      · have h4 : x4 < nI 0 ∨ nI 1 < x4 := h4
        simp (disch := omega) only [n_lit, n_add, n_mul, n_sub, n_lt, n_le, n_eq, n_cl, n_nle, n_yle, n_nlt, n_ylt, n_neq, n_m1, n_m1l, n_m1g, n_bind, u_eq, u_ne1, u_ne2, w_eq, w_ne, eq_self, nd_let, ite_true, ite_false, if_true, if_false, false_or, or_false, true_and, and_true, not_true, not_false, true_or, or_true, Nat.not_lt_zero, Nat.zero_le, n_31, n_tb, n_tb0, n_p2, n_or, n_div, n_rem, h4]
    · have h4a : ¬ x4 < nI 0 := by intro h; exact h4 (Or.inl h)
      have h4b : ¬ nI 1 < x4 := by intro h; exact h4 (Or.inr h)
      have h4c : x4 ≤ nI 1 := by grind
      have h4d : ¬ (x4 < nI 0 ∨ nI 1 < x4) := h4
      have ok := hm_at (n := m) (i := i) (a := c / 10) (b := c % 10) hm hm1 hi (by omega) (by omega) (by omega) (by omega)
      unfold hm_ok at ok
      simp only [Bool.and_eq_true, decide_eq_true_eq] at ok
      obtain ⟨⟨⟨o1, o2⟩, o3⟩, ok⟩ := ok
      generalize ha : c / 10 = a at *
      generalize hb : c % 10 = b at *
      have hba : nI b - nI a = nI (b - a) := n_sub (by omega)
      have eC : ∀ u v : Nat, u = w_sum m a (b - a) i → v = w_sum m a (b - a) m → 0 < v → v < 2147483648 → u < 2147483648 → (nd_bind (f_X0_weight F (nI i) (nI m) (nI a) (nI (b - a)) σ) fun r1 σ2 => (nd_bind (f_X0_weight F (nI m) (nI m) (nI a) (nI (b - a)) σ2) fun r4 σ5 => (nd_bind (f_X0_lowest F r1 r4 x4 σ5) fun r7 σ8 => (some (r7, σ8))))) = some (if x4 = 0 then nI (u / Nat.gcd u v) else nI (v / Nat.gcd u v), σ) := by
        intro u v hu hv h1 h2 h3
        rw [e_wei hF hi hm, n_bind, e_wei hF (Nat.le_refl m) hm, n_bind, ← hu, ← hv, e_low x4 h3 h1 h2 hF, n_bind]
      have eC := eC _ _ rfl rfl o1 o2 o3
      generalize hu : w_sum m a (b - a) i = u at *
      generalize hv : w_sum m a (b - a) m = v at *
      have fr2 : ∀ p q : Int32, fr_ sc_S sc_K σ (nd_up (nd_up (nd_up σ 60 0 0) 60 58 p) 60 59 q) := fun p q => (by repeat first | exact fr_rf | (refine fr_up57 ?_ (by decide)) | (refine fr_up ?_ (by decide) (by decide)) | (refine fr_row ?_ (by decide) (by decide)))
      refine ⟨if x4 = 0 then nI (u / Nat.gcd u v) else nI (v / Nat.gcd u v), nd_up (nd_up (nd_up σ 60 0 0) 60 58 (nI (u / Nat.gcd u v))) 60 59 (nI (v / Nat.gcd u v)), ?_, ?_, fr2 _ _⟩
      · simp (disch := omega) only [n_lit, n_add, n_mul, n_sub, n_lt, n_le, n_eq, n_cl, n_nle, n_yle, n_nlt, n_ylt, n_neq, n_m1, n_m1l, n_m1g, n_bind, u_eq, u_ne1, u_ne2, w_eq, w_ne, eq_self, nd_let, ite_true, ite_false, if_true, if_false, false_or, or_false, true_and, and_true, not_true, not_false, true_or, or_true, Nat.not_lt_zero, Nat.zero_le, n_31, n_tb, n_tb0, n_p2, n_or, n_div, n_rem, h4a, h4c, ha, hb, hba]
        exact eC
      · simp (disch := omega) only [n_lit, n_add, n_mul, n_sub, n_lt, n_le, n_eq, n_cl, n_nle, n_yle, n_nlt, n_ylt, n_neq, n_m1, n_m1l, n_m1g, n_bind, u_eq, u_ne1, u_ne2, w_eq, w_ne, eq_self, nd_let, ite_true, ite_false, if_true, if_false, false_or, or_false, true_and, and_true, not_true, not_false, true_or, or_true, Nat.not_lt_zero, Nat.zero_le, n_31, n_tb, n_tb0, n_p2, n_or, n_div, n_rem, h4d, ha, hb, hba]
        by_cases hac : a = b - a
        · rw [if_pos hac] at ok
          simp only [Bool.and_eq_true, decide_eq_true_eq] at ok
          rw [if_pos hac, e_frac (by omega) (by omega) (by omega) hF, n_bind, ok.1, ok.2]
          by_cases hx : x4 = nI 0
          · simp only [hx, if_true]; rfl
          · simp only [hx, if_false]; rfl
        · rw [if_neg hac] at ok
          rw [if_neg hac, e_powM (by omega) (by omega), n_bind, e_powM (by omega) (by omega), n_bind, e_powM (by omega) (by omega), n_bind, e_powM (by omega) (by omega), n_bind, e_powM (by omega) (by omega), n_bind]
          by_cases hca : b - a < a
          · rw [if_pos hca] at ok
            simp only [Bool.and_eq_true, decide_eq_true_eq] at ok
            obtain ⟨⟨⟨⟨⟨⟨k1, k2⟩, k3⟩, k4⟩, k5⟩, k6⟩, k7⟩ := ok
            rw [n_sub k1, n_sub k2, n_mul, e_frac k5 k3 k4 hF, n_bind, k6, k7]
            by_cases hx : x4 = nI 0
            · simp only [hx, if_true]; rfl
            · simp only [hx, if_false]; rfl
          · rw [if_neg hca] at ok
            simp only [Bool.and_eq_true, decide_eq_true_eq] at ok
            obtain ⟨⟨⟨⟨⟨⟨k1, k2⟩, k3⟩, k4⟩, k5⟩, k6⟩, k7⟩ := ok
            rw [sub_neg_ k1, sub_neg_ k2, mul_neg__, n_mul, e_fracN k5 k3 k4 hF, n_bind, k6, k7]
            by_cases hx : x4 = nI 0
            · simp only [hx, if_true]; rfl
            · simp only [hx, if_false]; rfl
  · refine ⟨-1, _, ?_, ?_, hf0⟩
    · simp (disch := omega) only [n_lit, n_add, n_mul, n_sub, n_lt, n_le, n_eq, n_cl, n_nle, n_yle, n_nlt, n_ylt, n_neq, n_m1, n_m1l, n_m1g, n_bind, u_eq, u_ne1, u_ne2, w_eq, w_ne, eq_self, nd_let, ite_true, ite_false, if_true, if_false, false_or, or_false, true_and, and_true, not_true, not_false, true_or, or_true, Nat.not_lt_zero, Nat.zero_le, n_31, n_tb, n_tb0, n_p2, n_or, n_div, n_rem]
      (repeat' split) <;> first | rfl | (exfalso; omega)
    · simp (disch := omega) only [n_lit, n_add, n_mul, n_sub, n_lt, n_le, n_eq, n_cl, n_nle, n_yle, n_nlt, n_ylt, n_neq, n_m1, n_m1l, n_m1g, n_bind, u_eq, u_ne1, u_ne2, w_eq, w_ne, eq_self, nd_let, ite_true, ite_false, if_true, if_false, false_or, or_false, true_and, and_true, not_true, not_false, true_or, or_true, Nat.not_lt_zero, Nat.zero_le, n_31, n_tb, n_tb0, n_p2, n_or, n_div, n_rem, i01, i10]
      (repeat' split) <;> first | rfl | (exfalso; omega)
theorem op_home {F : Nat} (hF : 300000 ≤ F) (x1 x2 x3 x4 : Int32) : op_ (f_X10_home F x1 x2 x3 x4) (f_X11_home F x1 x2 x3 x4) := op_sc (fun σ n hI => by
  obtain ⟨r, ρ, a, b, c⟩ := home_eq hF x1 x2 x3 x4 σ
  exact ⟨r, σ, ρ, a, b, c⟩)
