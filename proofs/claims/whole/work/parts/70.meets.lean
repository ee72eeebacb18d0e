/-! meets -/
theorem xor_neg_ {x y : Int32} (hx : x < 0) (hy : 0 ≤ y) : ¬ 0 ≤ x ^^^ y := by
  rw [Int32.lt_iff_toInt_lt] at hx
  rw [Int32.le_iff_toInt_le] at hy ⊢
  have h1 : x.toBitVec.msb = true := by rw [BitVec.msb_eq_toInt]; exact decide_eq_true hx
  have h2 : y.toBitVec.msb = false := by
    rw [BitVec.msb_eq_toInt]
    exact decide_eq_false (Int.not_lt.mpr hy)
  have h3 : (x ^^^ y).toBitVec.msb = true := by rw [Int32.toBitVec_xor, BitVec.msb_xor, h1, h2]; rfl
  rw [BitVec.msb_eq_toInt] at h3
  have h4 : (x ^^^ y).toBitVec.toInt < 0 := of_decide_eq_true h3
  exact Int.not_le.mpr h4
theorem neg_lt_ {w : Nat} (h0 : 0 < w) (h : w < 2147483648) : - nI w < 0 := by
  rw [Int32.lt_iff_toInt_lt, m_toInt h]
  show _ < (0 : Int)
  omega
theorem n_remN {w n : Nat} (hw : w < 2147483648) (hn : n < 2147483648) : q_rem (- nI w) (nI n) = - nI (w % n) := by
  have hd : - nI w / nI n = - nI (w / n) := by
    apply Int32.toInt_inj.mp
    have hle : w / n ≤ w := Nat.div_le_self w n
    rw [Int32.toInt_div_of_ne_right _ _ (li_m1 n hn), m_toInt hw, nI_toInt hn, m_toInt (by omega), Int.neg_tdiv]
    rfl
  unfold q_rem
  have e : nI w = nI (w / n) * nI n + nI (w % n) := by
    rw [n_mul, n_add]
    congr 1
    have := Nat.div_add_mod w n
    rw [Nat.mul_comm] at this
    omega
  rw [hd]
  grind
theorem km_ {n K X : Nat} (hn : 0 < n) : (X + K * (n - 1)) % n = (X + (n - K % n)) % n := by
  have h1 := Nat.div_add_mod K n
  have h2 : K % n < n := Nat.mod_lt _ hn
  generalize K / n = q at *
  generalize K % n = c at *
  subst h1
  by_cases hc : c = 0
  · subst hc
    rw [Nat.add_zero, Nat.sub_zero, Nat.mul_assoc, Nat.add_mul_mod_self_left, Nat.add_mod_right]
  · obtain ⟨c', rfl⟩ : ∃ c', c = c' + 1 := ⟨c - 1, by omega⟩
    obtain ⟨e, rfl⟩ : ∃ e, n = c' + 1 + e := ⟨n - (c' + 1), by omega⟩
    have e1 : c' + 1 + e - 1 = c' + e := by omega
    have e2 : c' + 1 + e - (c' + 1) = e := by omega
    rw [e1, e2]
    have e3 : X + ((c' + 1 + e) * q + (c' + 1)) * (c' + e) = X + e + (c' + 1 + e) * (q * (c' + e) + c') := by grind
    rw [e3, Nat.add_mul_mod_self_left]
theorem e_fm {F : Nat} {σ : nd_Mem} {u v n : Nat} (hu : u < 1000000) (hv : v < 1000000) (hn : 0 < n) (hn2 : n < 1000) : f_J9_floorMod_7cf53 F (nI u - nI v) (nI n) σ = some (nI ((u + v * (n - 1)) % n), σ) := by
  have hm : ∀ x : Nat, x % n < n := fun x => Nat.mod_lt _ hn
  unfold f_J9_floorMod_7cf53 f_J9_floorMod_7cf53_18
  rw [if_neg (nI_ne0 hn (by omega))]
  by_cases h : v ≤ u
  · rw [n_sub h, n_xor]
    have hx : (u - v) ^^^ n < 2 ^ 31 := Nat.xor_lt_two_pow (by omega) (by omega)
    rw [if_pos (nI_pos' hx), n_rem (by omega) (by omega)]
    have e : u + v * (n - 1) = (u - v) + n * v := by
      obtain ⟨n', rfl⟩ : ∃ n', n = n' + 1 := ⟨n - 1, by omega⟩
      obtain ⟨d, rfl⟩ : ∃ d, u = v + d := ⟨u - v, by omega⟩
      rw [Nat.add_sub_cancel, Nat.add_sub_cancel_left]
      grind
    rw [e, Nat.add_mul_mod_self_left]
  · have hw : 0 < v - u := by omega
    rw [sub_neg_ (by omega), if_neg (xor_neg_ (neg_lt_ hw (by omega)) (nI_pos' (by omega))), n_remN (by omega) (by omega)]
    have e : u + v * (n - 1) = (v - u) * (n - 1) + n * u := by
      obtain ⟨n', rfl⟩ : ∃ n', n = n' + 1 := ⟨n - 1, by omega⟩
      obtain ⟨d, rfl⟩ : ∃ d, v = u + d := ⟨v - u, by omega⟩
      rw [Nat.add_sub_cancel, Nat.add_sub_cancel_left]
      grind
    have e2 := km_ (n := n) (K := v - u) (X := 0) hn
    rw [Nat.zero_add, Nat.zero_add] at e2
    rw [e, Nat.add_mul_mod_self_left, e2]
    have h3 := hm (v - u)
    generalize (v - u) % n = r at *
    by_cases hr : r = 0
    · subst hr
      rw [Nat.sub_zero, Nat.mod_self]
      rfl
    · have h4 : ¬ - nI r = 0 := by
        intro e5
        have := neg_lt_ (w := r) (by omega) (by omega)
        rw [e5] at this
        exact absurd this (by decide)
      rw [if_neg h4, Nat.mod_eq_of_lt (by omega), ← n_sub (by omega)]
      congr 2
      grind
def ap_ (n k p t : Nat) : Nat := (p + (k + 1) * t * (n - 1)) % n
section MT
variable {F : Nat} {σ : nd_Mem}
theorem e_apart {n k p t : Nat} (hn : 0 < n) (hn2 : n ≤ 500) (hk : k ≤ 9) (hp : p < n) (ht : t ≤ n) : f_X0_apartBehind F (nI n) (nI k) (nI p) (nI t) σ = some (nI (ap_ n k p t), σ) := by
  have hkt : (k + 1) * t ≤ 10 * 500 := Nat.mul_le_mul (by omega) (by omega)
  unfold f_X0_apartBehind
  rw [if_neg (nI_nle hn (by omega)), nI_1, n_mul, e_fm (by omega) (by omega) hn (by omega), n_bind]
  rfl
theorem ap_lt {n k p t : Nat} (hn : 0 < n) : ap_ n k p t < n := Nat.mod_lt _ hn
theorem ap_s {n k p t : Nat} (hn : 0 < n) : (ap_ n k p t + n - (k + 1) % n) % n = ap_ n k p (t + 1) := by
  have h2 : (k + 1) % n < n := Nat.mod_lt _ hn
  have h3 : ap_ n k p t + n - (k + 1) % n = ap_ n k p t + (n - (k + 1) % n) := by omega
  rw [h3, ← km_ hn]
  unfold ap_
  rw [Nat.mod_add_mod]
  congr 1
  grind
theorem sub_add__ {a c n : Nat} (h : c ≤ n) : nI a - nI c + nI n = nI (a + n - c) := by
  rw [← n_sub (by omega), ← n_add]
  grind
theorem e_rest {n k p t : Nat} (hn : 0 < n) (hn2 : n ≤ 500) (hk : k ≤ 9) : q_rem ((nI (ap_ n k p t) - q_rem (nI k + 1) (nI n)) + nI n) (nI n) = nI (ap_ n k p (t + 1)) := by
  have h2 : (k + 1) % n < n := Nat.mod_lt _ hn
  have h1 : ap_ n k p t < n := ap_lt hn
  rw [nI_1, n_rem (by omega) (by omega), sub_add__ (by omega), n_rem (by omega) (by omega), ap_s hn]
theorem e_rest2 {n k p t : Nat} (hn : 0 < n) (hn2 : n ≤ 500) (hk : k ≤ 9) : q_rem ((nI (ap_ n k p t) - q_rem (nI (k + 1)) (nI n)) + nI n) (nI n) = nI (ap_ n k p (t + 1)) := by
  rw [← nI_1]; exact e_rest hn hn2 hk
/-- what 0 -/
theorem mt0 {n k p : Nat} {x7 : Int32} (hn : 0 < n) (hn2 : n ≤ 500) (hk : k ≤ 9) (hp : p < n) {τ : nd_Mem} : ∀ (d t f f' : Nat) (x7 : Int32), t + d = n → d < f → d < f' → ∃ r : Int32, f_X0_meetsBehind_2 F f (nI n) (nI k) (nI p) (nI t) σ = some (r, σ) ∧ f_X11_meets_96 F f' (nI n) (nI k) 0 x7 (nI (ap_ n k p t)) (nI t) τ = some (r, τ) := by
  intro d
  induction d with
  | zero =>
    intro t f f' x7 ht hf hf'
    obtain ⟨f, rfl⟩ : ∃ g, f = g + 1 := ⟨f - 1, by omega⟩
    obtain ⟨f', rfl⟩ : ∃ g, f' = g + 1 := ⟨f' - 1, by omega⟩
    unfold f_X0_meetsBehind_2 f_X0_meetsBehind_2_b f_X11_meets_96 f_X11_meets_96_b
    rw [if_pos (nI_le (by omega) (by omega)), if_pos (nI_le (by omega) (by omega)), if_pos rfl]
    exact ⟨-1, rfl, rfl⟩
  | succ d ih =>
    intro t f f' x7 ht hf hf'
    obtain ⟨f, rfl⟩ : ∃ g, f = g + 1 := ⟨f - 1, by omega⟩
    obtain ⟨f', rfl⟩ : ∃ g, f' = g + 1 := ⟨f' - 1, by omega⟩
    have hl := ap_lt (n := n) (k := k) (p := p) (t := t) hn
    unfold f_X0_meetsBehind_2 f_X0_meetsBehind_2_b f_X11_meets_96 f_X11_meets_96_b f_X11_meets_131
    rw [if_neg (nI_ge (by omega) (by omega)), if_neg (nI_ge (by omega) (by omega)), e_apart hn hn2 hk hp (by omega), n_bind]
    by_cases h0 : ap_ n k p t = 0
    · rw [h0, if_pos nI_0, if_pos nI_0, if_pos rfl]
      exact ⟨nI t, rfl, rfl⟩
    · have h1 : ¬ nI (ap_ n k p t) = 0 := nI_ne0 (by omega) (by omega)
      have h9 : ¬ nI n = 0 := nI_ne0 hn (by omega)
      simp only [if_neg h1, nI_1, e_rest2 hn hn2 hk, if_neg h9]
      by_cases hc : nI (k + 1) ≤ nI (ap_ n k p t)
      · rw [if_pos hc]
        exact ih (t + 1) f f' _ (by omega) (by omega) (by omega)
      · rw [if_neg hc]
        exact ih (t + 1) f f' _ (by omega) (by omega) (by omega)
theorem mt1a {n k p : Nat} (hn : 0 < n) (hn2 : n ≤ 500) (hk : k ≤ 9) (hp : p < n) : ∀ (d t f' : Nat), t + d = n → d < f' → f_X11_meets_96 F f' (nI n) (nI k) 1 1 (nI (ap_ n k p t)) (nI t) σ = some (1, σ) := by
  intro d
  induction d with
  | zero =>
    intro t f' ht hf'
    obtain ⟨f', rfl⟩ : ∃ g, f' = g + 1 := ⟨f' - 1, by omega⟩
    unfold f_X11_meets_96 f_X11_meets_96_b
    rw [if_pos (nI_le (by omega) (by omega)), if_neg (by decide)]
  | succ d ih =>
    intro t f' ht hf'
    obtain ⟨f', rfl⟩ : ∃ g, f' = g + 1 := ⟨f' - 1, by omega⟩
    unfold f_X11_meets_96 f_X11_meets_96_b f_X11_meets_131
    rw [if_neg (nI_ge (by omega) (by omega)), if_neg (show ¬ (1 : Int32) = 0 by decide), e_rest hn hn2 hk, if_neg (nI_ne0 hn (by omega)), if_neg (nI_ne0 hn (by omega)), nI_1, nI_1, ih (t + 1) f' (by omega) (by omega), ite_self, ite_self]
theorem mt1 {n k p : Nat} (hn : 0 < n) (hn2 : n ≤ 500) (hk : k ≤ 9) (hp : p < n) {τ : nd_Mem} : ∀ (d t f f' : Nat), t + d = n → d < f → d < f' → ∃ r : Int32, f_X0_passesFirst_2 F f (nI n) (nI k) (nI p) (nI t) σ = some (r, σ) ∧ f_X11_meets_96 F f' (nI n) (nI k) 1 0 (nI (ap_ n k p t)) (nI t) τ = some (r, τ) := by
  intro d
  induction d with
  | zero =>
    intro t f f' ht hf hf'
    obtain ⟨f, rfl⟩ : ∃ g, f = g + 1 := ⟨f - 1, by omega⟩
    obtain ⟨f', rfl⟩ : ∃ g, f' = g + 1 := ⟨f' - 1, by omega⟩
    unfold f_X0_passesFirst_2 f_X0_passesFirst_2_b f_X11_meets_96 f_X11_meets_96_b
    rw [if_pos (nI_le (by omega) (by omega)), if_pos (nI_le (by omega) (by omega)), if_neg (by decide)]
    exact ⟨0, rfl, rfl⟩
  | succ d ih =>
    intro t f f' ht hf hf'
    obtain ⟨f, rfl⟩ : ∃ g, f = g + 1 := ⟨f - 1, by omega⟩
    obtain ⟨f', rfl⟩ : ∃ g, f' = g + 1 := ⟨f' - 1, by omega⟩
    have hl := ap_lt (n := n) (k := k) (p := p) (t := t) hn
    unfold f_X0_passesFirst_2 f_X0_passesFirst_2_b f_X11_meets_96 f_X11_meets_96_b f_X11_meets_131
    rw [if_neg (nI_ge (by omega) (by omega)), if_neg (nI_ge (by omega) (by omega)), e_apart hn hn2 hk hp (by omega), n_bind]
    by_cases h0 : ap_ n k p t = 0
    · rw [h0, if_neg (nI_nlt (by omega) (by omega)), if_pos nI_0, if_pos nI_0, if_neg (by decide)]
      exact ⟨0, rfl, rfl⟩
    · have h1 : ¬ nI (ap_ n k p t) = 0 := nI_ne0 (by omega) (by omega)
      have h9 : ¬ nI n = 0 := nI_ne0 hn (by omega)
      simp only [if_neg h1, nI_1, e_rest2 hn hn2 hk, if_neg h9]
      by_cases hc : k < ap_ n k p t
      · rw [if_pos (nI_lt hc (by omega)), if_pos (nI_le hc (by omega))]
        exact ih (t + 1) f f' (by omega) (by omega) (by omega)
      · rw [if_neg (nI_nlt (by omega) (by omega)), if_neg (nI_ge (by omega) (by omega)), mt1a hn hn2 hk hp d (t + 1) f' (by omega) (by omega)]
        exact ⟨1, rfl, rfl⟩
end MT
theorem meets_eq {F : Nat} (hF : 300000 ≤ F) (x1 x2 x3 x4 : Int32) (σ : nd_Mem) : ∃ (r : Int32) (ρ : nd_Mem), f_X10_meets F x1 x2 x3 x4 σ = some (r, σ) ∧ f_X11_meets F x1 x2 x3 x4 σ = some (r, ρ) ∧ fr_ sc_S sc_K σ ρ := by
  have hf0 : fr_ sc_S sc_K σ (nd_up σ 60 0 0) := (by repeat first | exact fr_rf | (refine fr_up57 ?_ (by decide)) | (refine fr_up ?_ (by decide) (by decide)) | (refine fr_row ?_ (by decide) (by decide)))
  unfold f_X10_meets f_X10_meets_57 f_X10_meets_58 f_X10_meets_76 f_X11_meets f_X11_meets_77 nd_let
  simp only [e_isIn, n_bind]
  by_cases h1 : x1 < 2 ∨ 500 < x1
  · refine ⟨-1, _, ?_, ?_, hf0⟩
    · by_cases h : x1 < 2
      · simp [h]
      · have h' : 500 < x1 := by grind
        simp [h, h']
    · simp [h1]
  obtain ⟨n, hn, rfl⟩ := rngL 500 (by decide) (x := x1) h1 (by decide)
  have h1a : ¬ nI n < 2 := by grind
  have h1b : ¬ 500 < nI n := by grind
  have hn1 : 2 ≤ n := by
    have := h1a
    simp (disch := omega) only [n_lit, n_add, n_mul, n_sub, n_lt, n_le, n_eq, n_cl, n_nle, n_yle, n_nlt, n_ylt, n_neq, n_m1, n_m1l, n_m1g, n_bind, u_eq, u_ne1, u_ne2, w_eq, w_ne, eq_self, nd_let, ite_true, ite_false, if_true, if_false, false_or, or_false, true_and, and_true, not_true, not_false, true_or, or_true, Nat.not_lt_zero, Nat.zero_le] at this
    omega
  rw [if_neg h1a, if_neg h1b, if_neg h1, if_neg n10]
  by_cases h2 : x2 < 1 ∨ 9 < x2
  · refine ⟨-1, _, ?_, ?_, hf0⟩
    · by_cases h : x2 < 1
      · simp [h]
      · have h' : 9 < x2 := by grind
        simp [h, h']
    · simp [h2]
  obtain ⟨k, hk, rfl⟩ := rngL 9 (by decide) (x := x2) h2 (by decide)
  have h2a : ¬ nI k < 1 := by grind
  have h2b : ¬ 9 < nI k := by grind
  rw [if_neg h2a, if_neg h2b, if_neg h2, if_neg n10]
  by_cases h3 : x3 < 0
  · refine ⟨-1, _, ?_, ?_, hf0⟩
    · simp [h3]
    · simp [h3]
  obtain ⟨c, hc, rfl⟩ := nI_of h3
  have ed : nI c / 1000 = nI (c / 1000) := n_div (b := 1000) (by omega) (by omega)
  have er : q_rem (nI c) 1000 = nI (c % 1000) := n_rem (b := 1000) (by omega) (by omega)
  rw [if_neg h3, ed, er]
  by_cases hv : c / 1000 < n ∧ c % 1000 < n
  · have ha : ¬ nI n ≤ nI (c / 1000) := nI_ge hv.1 (by omega)
    have hb : ¬ nI n ≤ nI (c % 1000) := nI_ge hv.2 (by omega)
    have hi : ¬ (nI c < 0 ∨ 499499 < nI c) := by
      rintro (h | h)
      · exact h3 h
      · exact (nI_nlt (by omega) (by omega) : ¬ nI 499499 < nI c) h
    simp only [if_neg ha, if_neg hb, if_neg hi, if_neg n10]
    by_cases h4 : x4 < 0 ∨ 1 < x4
    · refine ⟨-1, _, ?_, ?_, hf0⟩
      · by_cases h : x4 < 0
        · simp [h]
        · have h' : ¬ x4 ≤ 1 := by grind
          simp [h, h']
      · simp [h4]
    have h4a : ¬ x4 < 0 := by grind
    have h4b : x4 ≤ 1 := by grind
    have hl : (c % 1000 + c / 1000 * (n - 1)) % n < n := Nat.mod_lt _ (by omega)
    have e0 : q_rem ((nI (c % 1000) - nI (c / 1000)) + nI n) (nI n) = nI ((c % 1000 + c / 1000 * (n - 1)) % n) := by
      rw [sub_add__ (by omega), n_rem (by omega) (by omega), km_ (by omega), Nat.mod_eq_of_lt hv.1]
      congr 2
      omega
    have e1 : ap_ n k ((c % 1000 + c / 1000 * (n - 1)) % n) 0 = (c % 1000 + c / 1000 * (n - 1)) % n := by
      unfold ap_
      rw [Nat.mul_zero, Nat.zero_mul, Nat.add_zero, Nat.mod_eq_of_lt hl]
    rw [if_neg h4a, if_pos h4b, e_fm (by omega) (by omega) (by omega) (by omega), n_bind, if_neg h4, if_neg n10, if_neg (nI_ne0 (by omega) (by omega)), e0]
    generalize (c % 1000 + c / 1000 * (n - 1)) % n = p at *
    by_cases hw : x4 = 0
    · subst hw
      obtain ⟨r, a, b⟩ := mt0 (F := F) (σ := σ) (τ := nd_up σ 60 0 0) (x7 := 0) (k := k) (p := p) (show 0 < n by omega) hn hk hl n 0 F F 0 (by omega) (by omega) (by omega)
      rw [e1] at b
      refine ⟨r, _, ?_, b, hf0⟩
      unfold f_X0_meetsBehind
      rw [if_pos rfl, show (0 : Int32) = nI 0 from rfl, a, n_bind]
    · have hw1 : x4 = 1 := by grind
      subst hw1
      obtain ⟨r, a, b⟩ := mt1 (F := F) (σ := σ) (τ := nd_up σ 60 0 0) (k := k) (p := p) (show 0 < n by omega) hn hk hl n 0 F F (by omega) (by omega) (by omega)
      rw [e1] at b
      refine ⟨r, _, ?_, b, hf0⟩
      unfold f_X0_passesFirst
      rw [if_neg (by decide), show (0 : Int32) = nI 0 from rfl, a, n_bind]
  · have hor : n ≤ c / 1000 ∨ n ≤ c % 1000 := by omega
    have key : nI n ≤ nI (c / 1000) ∨ nI n ≤ nI (c % 1000) := by
      rcases hor with h | h
      · exact Or.inl (nI_le h (by omega))
      · exact Or.inr (nI_le h (by omega))
    refine ⟨-1, _, ?_, ?_, hf0⟩
    · by_cases h : nI n ≤ nI (c / 1000)
      · simp [h]
      · have h' : nI n ≤ nI (c % 1000) := by grind
        simp [h, h']
    · by_cases h : nI n ≤ nI (c / 1000)
      · simp [h]
      · have h' : nI n ≤ nI (c % 1000) := by grind
        simp [h, h']
theorem op_meets {F : Nat} (hF : 300000 ≤ F) (x1 x2 x3 x4 : Int32) : op_ (f_X10_meets F x1 x2 x3 x4) (f_X11_meets F x1 x2 x3 x4) := op_sc (fun σ n hI => by
  obtain ⟨r, ρ, a, b, c⟩ := meets_eq hF x1 x2 x3 x4 σ
  exact ⟨r, σ, ρ, a, b, c⟩)
