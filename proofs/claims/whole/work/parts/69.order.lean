/-! streets, order -/
theorem n10 : ¬ (1 : Int32) = 0 := by decide
def st_sum (n k : Nat) : Nat → Nat
  | 0 => 0
  | t + 1 => st_sum n k t + k ^ Nat.gcd (t + 1) n
def bh_sum (n k : Nat) : Nat → Nat
  | 0 => 0
  | w + 1 => bh_sum n k w + k ^ ((n + (if n % 2 = 1 then 1 else w % 2 * 2)) / 2)
def mi_sum (n k : Nat) : Nat := if n % 2 = 1 then n * k ^ ((n + 1) / 2) else n / 2 * (k ^ (n / 2) + k ^ (n / 2 + 1))
theorem st_all : ((List.range 13).all fun n => (List.range 5).all fun k => decide (st_sum n k n < 1000000000) && decide (bh_sum n k n = mi_sum n k) && decide (mi_sum n k < 1000000000)) = true := by decide +kernel
theorem st_at {n k : Nat} (hn : n ≤ 12) (hk : k ≤ 4) : st_sum n k n < 1000000000 ∧ bh_sum n k n = mi_sum n k ∧ mi_sum n k < 1000000000 := by
  have h := st_all
  simp only [List.all_eq_true, List.mem_range, Bool.and_eq_true, decide_eq_true_eq] at h
  have := h n (by omega) k (by omega)
  exact ⟨this.1.1, this.1.2, this.2⟩
section ST
variable {F : Nat} {σ : nd_Mem}
theorem e_turn_ {n k : Nat} (hF : 300000 ≤ F) (hn : n ≤ 12) : ∀ (d t f : Nat), t + d = n → d < f → f_X0_sameTurned_4 F f (nI n) (nI k) (nI (st_sum n k t)) (nI (t + 1)) σ = some (nI (st_sum n k n), σ) := by
  intro d
  induction d with
  | zero =>
    intro t f ht hf
    obtain ⟨f, rfl⟩ : ∃ g, f = g + 1 := ⟨f - 1, by omega⟩
    have : t = n := by omega
    subst this
    unfold f_X0_sameTurned_4 f_X0_sameTurned_4_b
    simp (disch := omega) only [n_lit, n_add, n_mul, n_sub, n_lt, n_le, n_eq, n_cl, n_nle, n_yle, n_nlt, n_ylt, n_neq, n_m1, n_m1l, n_m1g, n_bind, u_eq, u_ne1, u_ne2, w_eq, w_ne, eq_self, nd_let, ite_true, ite_false, if_true, if_false, false_or, or_false, true_and, and_true, not_true, not_false, true_or, or_true, Nat.not_lt_zero, Nat.zero_le]
  | succ d ih =>
    intro t f ht hf
    obtain ⟨f, rfl⟩ : ∃ g, f = g + 1 := ⟨f - 1, by omega⟩
    have hg : Nat.gcd (t + 1) n ≤ n := Nat.gcd_le_right _ (by omega)
    unfold f_X0_sameTurned_4 f_X0_sameTurned_4_b
    simp (disch := omega) only [n_lit, n_add, n_mul, n_sub, n_lt, n_le, n_eq, n_cl, n_nle, n_yle, n_nlt, n_ylt, n_neq, n_m1, n_m1l, n_m1g, n_bind, u_eq, u_ne1, u_ne2, w_eq, w_ne, eq_self, nd_let, ite_true, ite_false, if_true, if_false, false_or, or_false, true_and, and_true, not_true, not_false, true_or, or_true, Nat.not_lt_zero, Nat.zero_le]
    rw [e_gcd (by omega) (by omega) hF, n_bind, e_pow (by omega) (by omega), n_bind]
    simp (disch := omega) only [n_lit, n_add, n_mul, n_sub, n_lt, n_le, n_eq, n_cl, n_nle, n_yle, n_nlt, n_ylt, n_neq, n_m1, n_m1l, n_m1g, n_bind, u_eq, u_ne1, u_ne2, w_eq, w_ne, eq_self, nd_let, ite_true, ite_false, if_true, if_false, false_or, or_false, true_and, and_true, not_true, not_false, true_or, or_true, Nat.not_lt_zero, Nat.zero_le]
    exact ih (t + 1) f (by omega) (by omega)
theorem e_behind_ {n k : Nat} (hF : 300000 ≤ F) (hn : n ≤ 12) : ∀ (d w f : Nat), w + d = n → d < f → f_X0_sameFromBehind_4 F f (nI n) (nI k) (nI (bh_sum n k w)) (nI w) σ = some (nI (bh_sum n k n), σ) := by
  intro d
  induction d with
  | zero =>
    intro w f ht hf
    obtain ⟨f, rfl⟩ : ∃ g, f = g + 1 := ⟨f - 1, by omega⟩
    have : w = n := by omega
    subst this
    unfold f_X0_sameFromBehind_4 f_X0_sameFromBehind_4_b
    simp (disch := omega) only [n_lit, n_add, n_mul, n_sub, n_lt, n_le, n_eq, n_cl, n_nle, n_yle, n_nlt, n_ylt, n_neq, n_m1, n_m1l, n_m1g, n_bind, u_eq, u_ne1, u_ne2, w_eq, w_ne, eq_self, nd_let, ite_true, ite_false, if_true, if_false, false_or, or_false, true_and, and_true, not_true, not_false, true_or, or_true, Nat.not_lt_zero, Nat.zero_le]
  | succ d ih =>
    intro w f ht hf
    obtain ⟨f, rfl⟩ : ∃ g, f = g + 1 := ⟨f - 1, by omega⟩
    have key : ∀ a : Nat, a ≤ 2 → a = (if n % 2 = 1 then 1 else w % 2 * 2) → f_X0_sameFromBehind_25 F (f_X0_sameFromBehind_4 F f) (nI n) (nI k) (nI (bh_sum n k w)) (nI w) (nI a) σ = some (nI (bh_sum n k n), σ) := by
      intro a ha hh
      unfold f_X0_sameFromBehind_25
      simp (disch := omega) only [n_lit, n_add, n_mul, n_sub, n_lt, n_le, n_eq, n_cl, n_nle, n_yle, n_nlt, n_ylt, n_neq, n_m1, n_m1l, n_m1g, n_bind, u_eq, u_ne1, u_ne2, w_eq, w_ne, eq_self, nd_let, ite_true, ite_false, if_true, if_false, false_or, or_false, true_and, and_true, not_true, not_false, true_or, or_true, Nat.not_lt_zero, Nat.zero_le, n_31, n_tb, n_tb0, n_p2, n_or, n_div, n_rem]
      rw [e_pow (by omega) (by omega), n_bind, n_add]
      have e : bh_sum n k w + k ^ ((n + a) / 2) = bh_sum n k (w + 1) := by rw [hh]; rfl
      rw [e]
      exact ih (w + 1) f (by omega) (by omega)
    unfold f_X0_sameFromBehind_4 f_X0_sameFromBehind_4_b
    simp (disch := omega) only [n_lit, n_add, n_mul, n_sub, n_lt, n_le, n_eq, n_cl, n_nle, n_yle, n_nlt, n_ylt, n_neq, n_m1, n_m1l, n_m1g, n_bind, u_eq, u_ne1, u_ne2, w_eq, w_ne, eq_self, nd_let, ite_true, ite_false, if_true, if_false, false_or, or_false, true_and, and_true, not_true, not_false, true_or, or_true, Nat.not_lt_zero, Nat.zero_le, n_31, n_tb, n_tb0, n_p2, n_or, n_div, n_rem]
    by_cases h2 : n % 2 = 1
    · rw [if_pos h2]
      exact key 1 (by omega) (by rw [if_pos h2])
    · rw [if_neg h2]
      exact key (w % 2 * 2) (by omega) (by rw [if_neg h2])
theorem e_turnM_ {n k : Nat} {x3 : Int32} (hF : 300000 ≤ F) (hn : n ≤ 12) : ∀ (d t f : Nat), t + d = n → d < f → f_X11_streets_44 F f (nI n) (nI k) x3 (nI (st_sum n k t)) (nI (t + 1)) σ = f_X11_streets_44_b F (fun _ _ _ _ _ _ => none) (nI n) (nI k) x3 (nI (st_sum n k n)) (nI (n + 1)) σ := by
  intro d
  induction d with
  | zero =>
    intro t f ht hf
    obtain ⟨f, rfl⟩ : ∃ g, f = g + 1 := ⟨f - 1, by omega⟩
    have : t = n := by omega
    subst this
    unfold f_X11_streets_44 f_X11_streets_44_b
    simp (disch := omega) only [n_lit, n_add, n_mul, n_sub, n_lt, n_le, n_eq, n_cl, n_nle, n_yle, n_nlt, n_ylt, n_neq, n_m1, n_m1l, n_m1g, n_bind, u_eq, u_ne1, u_ne2, w_eq, w_ne, eq_self, nd_let, ite_true, ite_false, if_true, if_false, false_or, or_false, true_and, and_true, not_true, not_false, true_or, or_true, Nat.not_lt_zero, Nat.zero_le]
  | succ d ih =>
    intro t f ht hf
    obtain ⟨f, rfl⟩ : ∃ g, f = g + 1 := ⟨f - 1, by omega⟩
    have hg : Nat.gcd (t + 1) n ≤ n := Nat.gcd_le_right _ (by omega)
    rw [← ih (t + 1) f (by omega) (by omega)]
    conv => lhs; unfold f_X11_streets_44 f_X11_streets_44_b
    simp (disch := omega) only [n_lit, n_add, n_mul, n_sub, n_lt, n_le, n_eq, n_cl, n_nle, n_yle, n_nlt, n_ylt, n_neq, n_m1, n_m1l, n_m1g, n_bind, u_eq, u_ne1, u_ne2, w_eq, w_ne, eq_self, nd_let, ite_true, ite_false, if_true, if_false, false_or, or_false, true_and, and_true, not_true, not_false, true_or, or_true, Nat.not_lt_zero, Nat.zero_le]
    rw [e_gcdM (by omega) (by omega) hF, n_bind, e_powM (by omega) (by omega), n_bind]
    simp (disch := omega) only [n_lit, n_add, n_mul, n_sub, n_lt, n_le, n_eq, n_cl, n_nle, n_yle, n_nlt, n_ylt, n_neq, n_m1, n_m1l, n_m1g, n_bind, u_eq, u_ne1, u_ne2, w_eq, w_ne, eq_self, nd_let, ite_true, ite_false, if_true, if_false, false_or, or_false, true_and, and_true, not_true, not_false, true_or, or_true, Nat.not_lt_zero, Nat.zero_le]
    rfl
end ST
theorem streets_eq {F : Nat} (hF : 300000 ≤ F) (x1 x2 x3 : Int32) (σ : nd_Mem) : ∃ (r : Int32) (ρ : nd_Mem), f_X10_streets F x1 x2 x3 σ = some (r, σ) ∧ f_X11_streets F x1 x2 x3 σ = some (r, ρ) ∧ fr_ sc_S sc_K σ ρ := by
  have hf0 : fr_ sc_S sc_K σ (nd_up σ 60 0 0) := (by repeat first | exact fr_rf | (refine fr_up57 ?_ (by decide)) | (refine fr_up ?_ (by decide) (by decide)) | (refine fr_row ?_ (by decide) (by decide)))
  unfold f_X10_streets f_X10_streets_21 f_X11_streets f_X11_streets_36 nd_let
  simp only [e_isIn, n_bind]
  by_cases h1 : x1 < 1 ∨ 12 < x1
  · refine ⟨-1, _, ?_, ?_, hf0⟩
    · rcases h1 with h | h
      · simp [h]
      · by_cases h' : x1 < 1 <;> simp [h, h']
    · simp [h1]
  by_cases h2 : x2 < 1 ∨ 4 < x2
  · refine ⟨-1, _, ?_, ?_, hf0⟩
    · have h3 : ¬ x1 < 1 := by grind
      have h4 : ¬ 12 < x1 := by grind
      by_cases h : x2 < 1
      · simp [h, h3, h4]
      · have h' : ¬ x2 ≤ 4 := by grind
        simp [h, h', h3, h4]
    · simp [h1, h2]
  obtain ⟨n, hn, rfl⟩ := rngL 12 (by decide) (x := x1) h1 (by decide)
  obtain ⟨k, hk, rfl⟩ := rngL 4 (by decide) (x := x2) h2 (by decide)
  have hn1 : 1 ≤ n := by
    have : ¬ nI n < 1 := by grind
    simp (disch := omega) only [n_lit, n_add, n_mul, n_sub, n_lt, n_le, n_eq, n_cl, n_nle, n_yle, n_nlt, n_ylt, n_neq, n_m1, n_m1l, n_m1g, n_bind, u_eq, u_ne1, u_ne2, w_eq, w_ne, eq_self, nd_let, ite_true, ite_false, if_true, if_false, false_or, or_false, true_and, and_true, not_true, not_false, true_or, or_true, Nat.not_lt_zero, Nat.zero_le] at this
    omega
  have hk1 : 1 ≤ k := by
    have : ¬ nI k < 1 := by grind
    simp (disch := omega) only [n_lit, n_add, n_mul, n_sub, n_lt, n_le, n_eq, n_cl, n_nle, n_yle, n_nlt, n_ylt, n_neq, n_m1, n_m1l, n_m1g, n_bind, u_eq, u_ne1, u_ne2, w_eq, w_ne, eq_self, nd_let, ite_true, ite_false, if_true, if_false, false_or, or_false, true_and, and_true, not_true, not_false, true_or, or_true, Nat.not_lt_zero, Nat.zero_le] at this
    omega
  obtain ⟨s1, s2, s3⟩ := st_at hn hk
  have eT : f_X0_sameTurned F (nI n) (nI k) σ = some (nI (st_sum n k n), σ) := e_turn_ hF hn n 0 F (by omega) (by omega)
  have eB : f_X0_sameFromBehind F (nI n) (nI k) σ = some (nI (bh_sum n k n), σ) := e_behind_ hF hn n 0 F (by omega) (by omega)
  have eM : f_X11_streets_44 F F (nI n) (nI k) x3 0 1 (nd_up σ 60 0 0) = _ := e_turnM_ (σ := nd_up σ 60 0 0) (k := k) (x3 := x3) hF hn n 0 F (by omega) (by omega)
  by_cases c0 : x3 = 0
  · subst c0
    refine ⟨nI (st_sum n k n / n), _, ?_, ?_, hf0⟩
    · simp (disch := omega) only [n_lit, n_add, n_mul, n_sub, n_lt, n_le, n_eq, n_cl, n_nle, n_yle, n_nlt, n_ylt, n_neq, n_m1, n_m1l, n_m1g, n_bind, u_eq, u_ne1, u_ne2, w_eq, w_ne, eq_self, nd_let, ite_true, ite_false, if_true, if_false, false_or, or_false, true_and, and_true, not_true, not_false, true_or, or_true, Nat.not_lt_zero, Nat.zero_le, n_31, n_tb, n_tb0, n_p2, n_or, n_div, n_rem, eT]
    · rw [if_neg h1, if_neg n10, if_neg h2, if_neg n10, if_neg (by decide), eM]
      unfold f_X11_streets_44_b
      simp (disch := omega) only [n_lit, n_add, n_mul, n_sub, n_lt, n_le, n_eq, n_cl, n_nle, n_yle, n_nlt, n_ylt, n_neq, n_m1, n_m1l, n_m1g, n_bind, u_eq, u_ne1, u_ne2, w_eq, w_ne, eq_self, nd_let, ite_true, ite_false, if_true, if_false, false_or, or_false, true_and, and_true, not_true, not_false, true_or, or_true, Nat.not_lt_zero, Nat.zero_le, n_31, n_tb, n_tb0, n_p2, n_or, n_div, n_rem]
  by_cases c1 : x3 = 1
  · subst c1
    refine ⟨nI ((st_sum n k n + mi_sum n k) / (2 * n)), _, ?_, ?_, hf0⟩
    · rw [s2] at eB
      simp (disch := omega) only [n_lit, n_add, n_mul, n_sub, n_lt, n_le, n_eq, n_cl, n_nle, n_yle, n_nlt, n_ylt, n_neq, n_m1, n_m1l, n_m1g, n_bind, u_eq, u_ne1, u_ne2, w_eq, w_ne, eq_self, nd_let, ite_true, ite_false, if_true, if_false, false_or, or_false, true_and, and_true, not_true, not_false, true_or, or_true, Nat.not_lt_zero, Nat.zero_le, n_31, n_tb, n_tb0, n_p2, n_or, n_div, n_rem, eT, eB]
    · rw [if_neg h1, if_neg n10, if_neg h2, if_neg n10, if_neg (by decide), eM]
      unfold f_X11_streets_44_b f_X11_streets_127
      unfold mi_sum at s3 ⊢
      by_cases h2 : n % 2 = 1
      · rw [if_pos h2] at s3 ⊢
        simp (disch := omega) only [n_lit, n_add, n_mul, n_sub, n_lt, n_le, n_eq, n_cl, n_nle, n_yle, n_nlt, n_ylt, n_neq, n_m1, n_m1l, n_m1g, n_bind, u_eq, u_ne1, u_ne2, w_eq, w_ne, eq_self, nd_let, ite_true, ite_false, if_true, if_false, false_or, or_false, true_and, and_true, not_true, not_false, true_or, or_true, Nat.not_lt_zero, Nat.zero_le, n_31, n_tb, n_tb0, n_p2, n_or, n_div, n_rem, h2]
        rw [e_powM (by omega) (by omega), n_bind]
        simp (disch := omega) only [n_lit, n_add, n_mul, n_sub, n_lt, n_le, n_eq, n_cl, n_nle, n_yle, n_nlt, n_ylt, n_neq, n_m1, n_m1l, n_m1g, n_bind, u_eq, u_ne1, u_ne2, w_eq, w_ne, eq_self, nd_let, ite_true, ite_false, if_true, if_false, false_or, or_false, true_and, and_true, not_true, not_false, true_or, or_true, Nat.not_lt_zero, Nat.zero_le, n_31, n_tb, n_tb0, n_p2, n_or, n_div, n_rem]
      · rw [if_neg h2] at s3 ⊢
        simp (disch := omega) only [n_lit, n_add, n_mul, n_sub, n_lt, n_le, n_eq, n_cl, n_nle, n_yle, n_nlt, n_ylt, n_neq, n_m1, n_m1l, n_m1g, n_bind, u_eq, u_ne1, u_ne2, w_eq, w_ne, eq_self, nd_let, ite_true, ite_false, if_true, if_false, false_or, or_false, true_and, and_true, not_true, not_false, true_or, or_true, Nat.not_lt_zero, Nat.zero_le, n_31, n_tb, n_tb0, n_p2, n_or, n_div, n_rem, h2]
        rw [e_powM (by omega) (by omega), n_bind, e_powM (by omega) (by omega), n_bind]
        simp (disch := omega) only [n_lit, n_add, n_mul, n_sub, n_lt, n_le, n_eq, n_cl, n_nle, n_yle, n_nlt, n_ylt, n_neq, n_m1, n_m1l, n_m1g, n_bind, u_eq, u_ne1, u_ne2, w_eq, w_ne, eq_self, nd_let, ite_true, ite_false, if_true, if_false, false_or, or_false, true_and, and_true, not_true, not_false, true_or, or_true, Nat.not_lt_zero, Nat.zero_le, n_31, n_tb, n_tb0, n_p2, n_or, n_div, n_rem]
  refine ⟨-1, _, ?_, ?_, hf0⟩
  · have : ¬ x3 = nI 0 := c0
    have : ¬ x3 = nI 1 := c1
    simp (disch := omega) only [n_lit, n_add, n_mul, n_sub, n_lt, n_le, n_eq, n_cl, n_nle, n_yle, n_nlt, n_ylt, n_neq, n_m1, n_m1l, n_m1g, n_bind, u_eq, u_ne1, u_ne2, w_eq, w_ne, eq_self, nd_let, ite_true, ite_false, if_true, if_false, false_or, or_false, true_and, and_true, not_true, not_false, true_or, or_true, Nat.not_lt_zero, Nat.zero_le, n_31, n_tb, n_tb0, n_p2, n_or, n_div, n_rem]
    simp [*]
  · have h3 : x3 < 0 ∨ 1 < x3 := by grind
    simp [h1, h2, h3]
theorem op_streets {F : Nat} (hF : 300000 ≤ F) (x1 x2 x3 : Int32) : op_ (f_X10_streets F x1 x2 x3) (f_X11_streets F x1 x2 x3) := op_sc (fun σ n hI => by
  obtain ⟨r, ρ, a, b, c⟩ := streets_eq hF x1 x2 x3 σ
  exact ⟨r, σ, ρ, a, b, c⟩)
/-! order -/
def gt_ (n i : Nat) : Nat := if (n + 1) / 2 ≤ i then 2 * (i - (n + 1) / 2) + 1 else 2 * i
def it_ (n : Nat) : Nat → Nat → Nat
  | 0, i => i
  | t + 1, i => it_ n t (gt_ n i)
def ck_ (n t : Nat) : Nat → Nat → Bool
  | 0, _ => true
  | d + 1, i => decide (it_ n t i = i) && ck_ n t d (i + 1)
def od_ (n : Nat) : Nat → Nat → Option Nat
  | 0, _ => none
  | d + 1, t => if ck_ n t n 0 = true then some t else od_ n d (t + 1)
def rd_ (n i : Nat) : Nat → Nat → Nat → Option Nat
  | 0, _, _ => none
  | d + 1, p, k => if p = i then some k else rd_ n i d (gt_ n p) (k + 1)
def lc_ (n : Nat) : Nat → Nat → Nat → Option Nat
  | 0, m, _ => some m
  | d + 1, m, k => match rd_ n k 60 (gt_ n k) 1 with
    | none => none
    | some r => if m < 32768 ∧ 0 < r ∧ r < 32768 then lc_ n d (m / Nat.gcd m r * r) (k + 1) else none
theorem od_all : ((List.range 52).all fun n => (od_ (n + 1) 60 1).isSome && decide (od_ (n + 1) 60 1 = lc_ (n + 1) (n + 1) 1 0)) = true := by decide +kernel
theorem od_at {n : Nat} (h1 : 1 ≤ n) (h2 : n ≤ 52) : ∃ r : Nat, od_ n 60 1 = some r ∧ lc_ n n 1 0 = some r := by
  have h := od_all
  simp only [List.all_eq_true, List.mem_range, Bool.and_eq_true, decide_eq_true_eq] at h
  have := h (n - 1) (by omega)
  rw [show n - 1 + 1 = n by omega] at this
  obtain ⟨r, hr⟩ := Option.isSome_iff_exists.mp this.1
  exact ⟨r, hr, by rw [← this.2]; exact hr⟩
theorem gt_lt {n i : Nat} (h : i < n) : gt_ n i < n := by
  unfold gt_
  split <;> omega
section OD
variable {F : Nat} {σ : nd_Mem}
theorem e_goesTo {n i : Nat} (hn : n ≤ 52) (h : i < n) : f_X11_goesTo F (nI n) (nI i) σ = some (nI (gt_ n i), σ) := by
  unfold f_X11_goesTo gt_
  simp (disch := omega) only [n_lit, n_add, n_mul, n_sub, n_lt, n_le, n_eq, n_cl, n_nle, n_yle, n_nlt, n_ylt, n_neq, n_m1, n_m1l, n_m1g, n_bind, u_eq, u_ne1, u_ne2, w_eq, w_ne, eq_self, nd_let, ite_true, ite_false, if_true, if_false, false_or, or_false, true_and, and_true, not_true, not_false, true_or, or_true, Nat.not_lt_zero, Nat.zero_le, n_31, n_tb, n_tb0, n_p2, n_or, n_div, n_rem]
  by_cases hh : (n + 1) / 2 ≤ i
  · simp (disch := omega) only [n_lit, n_add, n_mul, n_sub, n_lt, n_le, n_eq, n_cl, n_nle, n_yle, n_nlt, n_ylt, n_neq, n_m1, n_m1l, n_m1g, n_bind, u_eq, u_ne1, u_ne2, w_eq, w_ne, eq_self, nd_let, ite_true, ite_false, if_true, if_false, false_or, or_false, true_and, and_true, not_true, not_false, true_or, or_true, Nat.not_lt_zero, Nat.zero_le, n_31, n_tb, n_tb0, n_p2, n_or, n_div, n_rem, hh]
  · simp (disch := omega) only [n_lit, n_add, n_mul, n_sub, n_lt, n_le, n_eq, n_cl, n_nle, n_yle, n_nlt, n_ylt, n_neq, n_m1, n_m1l, n_m1g, n_bind, u_eq, u_ne1, u_ne2, w_eq, w_ne, eq_self, nd_let, ite_true, ite_false, if_true, if_false, false_or, or_false, true_and, and_true, not_true, not_false, true_or, or_true, Nat.not_lt_zero, Nat.zero_le, n_31, n_tb, n_tb0, n_p2, n_or, n_div, n_rem, hh]
theorem e_place_ {n T : Nat} (hn : n ≤ 52) (hT : T ≤ 2000) : ∀ (d i t f : Nat), i < n → t + d = T → d < f → f_X0_placeBehind_12 F f (nI T) (nI ((n + 1) / 2)) (nI i) (nI t) σ = some (nI (it_ n d i), σ) := by
  intro d
  induction d with
  | zero =>
    intro i t f hi ht hf
    obtain ⟨f, rfl⟩ : ∃ g, f = g + 1 := ⟨f - 1, by omega⟩
    unfold f_X0_placeBehind_12 f_X0_placeBehind_12_b
    simp (disch := omega) only [n_lit, n_add, n_mul, n_sub, n_lt, n_le, n_eq, n_cl, n_nle, n_yle, n_nlt, n_ylt, n_neq, n_m1, n_m1l, n_m1g, n_bind, u_eq, u_ne1, u_ne2, w_eq, w_ne, eq_self, nd_let, ite_true, ite_false, if_true, if_false, false_or, or_false, true_and, and_true, not_true, not_false, true_or, or_true, Nat.not_lt_zero, Nat.zero_le]
    rfl
  | succ d ih =>
    intro i t f hi ht hf
    obtain ⟨f, rfl⟩ : ∃ g, f = g + 1 := ⟨f - 1, by omega⟩
    have hg := gt_lt hi
    have := ih (gt_ n i) (t + 1) f hg (by omega) (by omega)
    unfold f_X0_placeBehind_12 f_X0_placeBehind_12_b f_X0_placeBehind_39
    show _ = some (nI (it_ n d (gt_ n i)), σ)
    rw [← this]
    unfold gt_
    by_cases hh : (n + 1) / 2 ≤ i
    · rw [if_pos hh]
      simp (disch := omega) only [n_lit, n_add, n_mul, n_sub, n_lt, n_le, n_eq, n_cl, n_nle, n_yle, n_nlt, n_ylt, n_neq, n_m1, n_m1l, n_m1g, n_bind, u_eq, u_ne1, u_ne2, w_eq, w_ne, eq_self, nd_let, ite_true, ite_false, if_true, if_false, false_or, or_false, true_and, and_true, not_true, not_false, true_or, or_true, Nat.not_lt_zero, Nat.zero_le, n_31, n_tb, n_tb0, n_p2, n_or, n_div, n_rem]
    · rw [if_neg hh]
      simp (disch := omega) only [n_lit, n_add, n_mul, n_sub, n_lt, n_le, n_eq, n_cl, n_nle, n_yle, n_nlt, n_ylt, n_neq, n_m1, n_m1l, n_m1g, n_bind, u_eq, u_ne1, u_ne2, w_eq, w_ne, eq_self, nd_let, ite_true, ite_false, if_true, if_false, false_or, or_false, true_and, and_true, not_true, not_false, true_or, or_true, Nat.not_lt_zero, Nat.zero_le, n_31, n_tb, n_tb0, n_p2, n_or, n_div, n_rem]
theorem e_place {n i T : Nat} (hF : 300000 ≤ F) (hn : n ≤ 52) (hi : i < n) (hT : T ≤ 2000) : f_X0_placeBehind F (nI n) (nI i) (nI T) σ = some (nI (it_ n T i), σ) := by
  unfold f_X0_placeBehind
  simp (disch := omega) only [n_lit, n_add, n_mul, n_sub, n_lt, n_le, n_eq, n_cl, n_nle, n_yle, n_nlt, n_ylt, n_neq, n_m1, n_m1l, n_m1g, n_bind, u_eq, u_ne1, u_ne2, w_eq, w_ne, eq_self, nd_let, ite_true, ite_false, if_true, if_false, false_or, or_false, true_and, and_true, not_true, not_false, true_or, or_true, Nat.not_lt_zero, Nat.zero_le, n_31, n_tb, n_tb0, n_p2, n_or, n_div, n_rem]
  exact e_place_ hn hT T i 0 F hi (by omega) (by omega)
theorem e_placeM_ {n T : Nat} (hn : n ≤ 52) (hT : T ≤ 2000) : ∀ (d i t f : Nat), i < n → t + d = T → d < f → f_X11_order_102 F f (nI n) (nI T) (nI i) (nI t) σ = some (nI (it_ n d i), σ) := by
  intro d
  induction d with
  | zero =>
    intro i t f hi ht hf
    obtain ⟨f, rfl⟩ : ∃ g, f = g + 1 := ⟨f - 1, by omega⟩
    unfold f_X11_order_102 f_X11_order_102_b
    simp (disch := omega) only [n_lit, n_add, n_mul, n_sub, n_lt, n_le, n_eq, n_cl, n_nle, n_yle, n_nlt, n_ylt, n_neq, n_m1, n_m1l, n_m1g, n_bind, u_eq, u_ne1, u_ne2, w_eq, w_ne, eq_self, nd_let, ite_true, ite_false, if_true, if_false, false_or, or_false, true_and, and_true, not_true, not_false, true_or, or_true, Nat.not_lt_zero, Nat.zero_le]
    rfl
  | succ d ih =>
    intro i t f hi ht hf
    obtain ⟨f, rfl⟩ : ∃ g, f = g + 1 := ⟨f - 1, by omega⟩
    have hg := gt_lt hi
    have := ih (gt_ n i) (t + 1) f hg (by omega) (by omega)
    unfold f_X11_order_102 f_X11_order_102_b
    show _ = some (nI (it_ n d (gt_ n i)), σ)
    rw [← this, e_goesTo hn hi, n_bind]
    simp (disch := omega) only [n_lit, n_add, n_mul, n_sub, n_lt, n_le, n_eq, n_cl, n_nle, n_yle, n_nlt, n_ylt, n_neq, n_m1, n_m1l, n_m1g, n_bind, u_eq, u_ne1, u_ne2, w_eq, w_ne, eq_self, nd_let, ite_true, ite_false, if_true, if_false, false_or, or_false, true_and, and_true, not_true, not_false, true_or, or_true, Nat.not_lt_zero, Nat.zero_le]
theorem it_lt {n : Nat} : ∀ (t i : Nat), i < n → it_ n t i < n := by
  intro t
  induction t with
  | zero => intro i h; exact h
  | succ t ih => intro i h; exact ih _ (gt_lt h)
theorem e_ck_ {n t : Nat} {rec2 : Int32 → Int32 → nd_Mem → nd_Res} (hF : 300000 ≤ F) (hn : n ≤ 52) (ht : t ≤ 1000) : ∀ (d i f : Nat), i + d = n → d + 1 < f → f_X0_inOrderBehind_13 F rec2 f (nI n) (nI t) 1 (nI i) σ = if ck_ n t d i = true then some (nI t, σ) else rec2 (nI n) (nI (t + 1)) σ := by
  intro d
  induction d with
  | zero =>
    intro i f hi hf
    obtain ⟨f, rfl⟩ : ∃ g, f = g + 1 := ⟨f - 1, by omega⟩
    unfold f_X0_inOrderBehind_13 f_X0_inOrderBehind_13_b f_X0_inOrderBehind_44
    rw [show ck_ n t 0 i = true from rfl]
    simp (disch := omega) only [n_lit, n_add, n_mul, n_sub, n_lt, n_le, n_eq, n_cl, n_nle, n_yle, n_nlt, n_ylt, n_neq, n_m1, n_m1l, n_m1g, n_bind, u_eq, u_ne1, u_ne2, w_eq, w_ne, eq_self, nd_let, ite_true, ite_false, if_true, if_false, false_or, or_false, true_and, and_true, not_true, not_false, true_or, or_true, Nat.not_lt_zero, Nat.zero_le]
  | succ d ih =>
    intro i f hi hf
    obtain ⟨f, rfl⟩ : ∃ g, f = g + 1 := ⟨f - 1, by omega⟩
    have hl := it_lt t i (show i < n by omega)
    unfold f_X0_inOrderBehind_13 f_X0_inOrderBehind_13_b f_X0_inOrderBehind_37 f_X0_inOrderBehind_44
    rw [if_neg (nI_ge (by omega) (by omega)), if_neg (by decide), e_place hF hn (by omega) (by omega), n_bind]
    by_cases hh : it_ n t i = i
    · rw [show ck_ n t (d + 1) i = (decide (it_ n t i = i) && ck_ n t d (i + 1)) from rfl, hh]
      rw [if_pos rfl, nI_1, ih (i + 1) f (by omega) (by omega)]
      simp
    · rw [show ck_ n t (d + 1) i = (decide (it_ n t i = i) && ck_ n t d (i + 1)) from rfl]
      simp only [hh, decide_false, Bool.false_and]
      rw [if_neg (fun e => hh ((nI_eq (by omega) (by omega)).mp e))]
      obtain ⟨f, rfl⟩ : ∃ g, f = g + 1 := ⟨f - 1, by omega⟩
      unfold f_X0_inOrderBehind_13 f_X0_inOrderBehind_13_b f_X0_inOrderBehind_44
      simp only [if_true, ite_self, nI_1]
      simp
theorem e_od_ {n : Nat} (hF : 300000 ≤ F) (hn : n ≤ 52) : ∀ (d t f r : Nat), od_ n d t = some r → t + d ≤ 1001 → d < f → f_X0_inOrderBehind_2 F f (nI n) (nI t) σ = some (nI r, σ) := by
  intro d
  induction d with
  | zero => intro t f r h; exact absurd h (by simp [od_])
  | succ d ih =>
    intro t f r h ht hf
    obtain ⟨f, rfl⟩ : ∃ g, f = g + 1 := ⟨f - 1, by omega⟩
    unfold f_X0_inOrderBehind_2 f_X0_inOrderBehind_2_b
    rw [if_neg (show ¬ (1000 : Int32) < nI t from (nI_nlt (by omega) (by omega) : ¬ nI 1000 < nI t))]
    have := e_ck_ (σ := σ) (rec2 := f_X0_inOrderBehind_2 F f) (t := t) hF hn (by omega) n 0 F (by omega) (by omega)
    rw [show (0 : Int32) = nI 0 from rfl, this]
    unfold od_ at h
    by_cases hc : ck_ n t n 0 = true
    · rw [if_pos hc] at h ⊢
      rw [Option.some.inj h]
    · rw [if_neg hc] at h ⊢
      exact ih (t + 1) f r h (by omega) (by omega)
theorem e_rd_ {n i : Nat} (hn : n ≤ 52) (hi : i < n) : ∀ (d p k f r : Nat), rd_ n i d p k = some r → p < n → d ≤ f → f_X11_roundOf_10 F f (nI n) (nI i) (nI k) (nI p) σ = some (nI r, σ) := by
  intro d
  induction d with
  | zero => intro p k f r h; exact absurd h (by simp [rd_])
  | succ d ih =>
    intro p k f r h hp hf
    obtain ⟨f, rfl⟩ : ∃ g, f = g + 1 := ⟨f - 1, by omega⟩
    unfold f_X11_roundOf_10 f_X11_roundOf_10_b
    unfold rd_ at h
    by_cases hc : p = i
    · rw [if_pos hc] at h
      rw [if_pos (by rw [hc]), Option.some.inj h]
    · rw [if_neg hc] at h
      rw [if_neg (fun e => hc ((nI_eq (by omega) (by omega)).mp e)), e_goesTo hn hp, n_bind, nI_1]
      exact ih _ _ f r h (gt_lt hp) (by omega)
theorem e_lc_ {n : Nat} (hF : 300000 ≤ F) (hn : n ≤ 52) : ∀ (d m k f r : Nat), lc_ n d m k = some r → k + d = n → d < f → f_X11_order_41 F f (nI n) (nI m) (nI k) σ = some (nI r, σ) := by
  intro d
  induction d with
  | zero =>
    intro m k f r h hk hf
    obtain ⟨f, rfl⟩ : ∃ g, f = g + 1 := ⟨f - 1, by omega⟩
    unfold f_X11_order_41 f_X11_order_41_b
    unfold lc_ at h
    rw [Option.some.inj h]
    simp (disch := omega) only [n_lit, n_add, n_mul, n_sub, n_lt, n_le, n_eq, n_cl, n_nle, n_yle, n_nlt, n_ylt, n_neq, n_m1, n_m1l, n_m1g, n_bind, u_eq, u_ne1, u_ne2, w_eq, w_ne, eq_self, nd_let, ite_true, ite_false, if_true, if_false, false_or, or_false, true_and, and_true, not_true, not_false, true_or, or_true, Nat.not_lt_zero, Nat.zero_le]
  | succ d ih =>
    intro m k f r h hk hf
    obtain ⟨f, rfl⟩ : ∃ g, f = g + 1 := ⟨f - 1, by omega⟩
    unfold f_X11_order_41 f_X11_order_41_b
    unfold lc_ at h
    cases hr : rd_ n k 60 (gt_ n k) 1 with
    | none => rw [hr] at h; exact absurd h (by simp)
    | some q =>
      rw [hr] at h
      simp only at h
      by_cases hc : m < 32768 ∧ 0 < q ∧ q < 32768
      · rw [if_pos hc] at h
        have e1 : ∀ σ, f_X11_roundOf F (nI n) (nI k) σ = some (nI q, σ) := by
          intro σ
          unfold f_X11_roundOf
          rw [e_goesTo hn (by omega), n_bind]
          exact e_rd_ hn (by omega) 60 _ 1 F q hr (gt_lt (by omega)) (by omega)
        have hg : 0 < Nat.gcd m q := Nat.gcd_pos_of_pos_right _ (by omega)
        have hg2 : Nat.gcd m q ≤ q := Nat.gcd_le_right _ (by omega)
        rw [if_neg (nI_ge (by omega) (by omega)), e1, n_bind, e_gcdM (by omega) (by omega) hF, n_bind, if_neg (nI_ne0 hg (by omega)), e1, n_bind, n_div (by omega) (by omega), n_mul, nI_1]
        exact ih _ _ f r h (by omega) (by omega)
      · rw [if_neg hc] at h
        exact absurd h (by simp)
end OD
theorem order_eq {F : Nat} (hF : 300000 ≤ F) (x1 x2 x3 : Int32) (σ : nd_Mem) : ∃ (r : Int32) (ρ : nd_Mem), f_X10_order F x1 x2 x3 σ = some (r, σ) ∧ f_X11_order F x1 x2 x3 σ = some (r, ρ) ∧ fr_ sc_S sc_K σ ρ := by
  have hf0 : fr_ sc_S sc_K σ (nd_up σ 60 0 0) := (by repeat first | exact fr_rf | (refine fr_up57 ?_ (by decide)) | (refine fr_up ?_ (by decide) (by decide)) | (refine fr_row ?_ (by decide) (by decide)))
  unfold f_X10_order f_X10_order_11 f_X10_order_47 f_X10_order_48 f_X11_order f_X11_order_28 nd_let
  simp only [e_isIn, n_bind]
  by_cases h1 : x1 < 1 ∨ 52 < x1
  · refine ⟨-1, _, ?_, ?_, hf0⟩
    · by_cases h : x1 < 1
      · simp [h]
      · have h' : ¬ x1 ≤ 52 := by grind
        simp [h, h']
    · simp [h1]
  obtain ⟨n, hn, rfl⟩ := rngL 52 (by decide) (x := x1) h1 (by decide)
  have h1a : ¬ nI n < 1 := by grind
  have h1b : nI n ≤ 52 := by grind
  have hn1 : 1 ≤ n := by
    have := h1a
    simp (disch := omega) only [n_lit, n_add, n_mul, n_sub, n_lt, n_le, n_eq, n_cl, n_nle, n_yle, n_nlt, n_ylt, n_neq, n_m1, n_m1l, n_m1g, n_bind, u_eq, u_ne1, u_ne2, w_eq, w_ne, eq_self, nd_let, ite_true, ite_false, if_true, if_false, false_or, or_false, true_and, and_true, not_true, not_false, true_or, or_true, Nat.not_lt_zero, Nat.zero_le] at this
    omega
  have en : nI n - 1 = nI (n - 1) := n_sub hn1
  rw [if_neg h1a, if_pos h1b, if_neg h1, if_neg n10, en]
  by_cases c0 : x2 = -1
  · subst c0
    obtain ⟨r, r1, r2⟩ := od_at hn1 hn
    have eC : f_X0_inOrderBehind F (nI n) σ = some (nI r, σ) := e_od_ hF hn 60 1 F r r1 (by omega) (by omega)
    have eM := e_lc_ (σ := nd_up σ 60 0 0) hF hn n 1 0 F r r2 (by omega) (by omega)
    have hlt : ¬ ((-1 : Int32) < -1 ∨ nI (n - 1) < -1) := by
      have := nI_pos' (n := n - 1) (by omega)
      grind
    refine ⟨nI r, _, ?_, ?_, hf0⟩
    · rw [if_pos rfl, eC, n_bind]
    · rw [if_neg hlt, if_neg n10, if_pos rfl]
      exact eM
  rw [if_neg c0]
  by_cases c1 : x2 < 0 ∨ nI n ≤ x2
  · refine ⟨-1, _, ?_, ?_, hf0⟩
    · by_cases h : x2 < 0
      · simp [h]
      · have h' : nI n ≤ x2 := by grind
        simp [h, h']
    · have : x2 < -1 ∨ nI (n - 1) < x2 := by
        rcases c1 with h | h
        · left; grind
        · right
          rw [← en, b_decN (by omega)]
          exact h
      rw [if_pos this, if_neg n10, if_pos rfl]
  obtain ⟨i, hi, rfl⟩ := rng n (by omega) (x := x2) (by grind) (by grind)
  have hi2 : i < n := by
    have h : ¬ nI n ≤ nI i := by grind
    simp (disch := omega) only [n_lit, n_add, n_mul, n_sub, n_lt, n_le, n_eq, n_cl, n_nle, n_yle, n_nlt, n_ylt, n_neq, n_m1, n_m1l, n_m1g, n_bind, u_eq, u_ne1, u_ne2, w_eq, w_ne, eq_self, nd_let, ite_true, ite_false, if_true, if_false, false_or, or_false, true_and, and_true, not_true, not_false, true_or, or_true, Nat.not_lt_zero, Nat.zero_le] at h
    omega
  have c1a : ¬ nI i < 0 := by grind
  have c1b : ¬ nI n ≤ nI i := by grind
  have c2 : ¬ (nI i < -1 ∨ nI (n - 1) < nI i) := by
    rw [← en, b_decN (by omega)]
    grind
  rw [if_neg c1a, if_neg c1b, if_neg c2, if_neg n10, if_neg c0]
  by_cases c3 : x3 < 0 ∨ 1000 < x3
  · refine ⟨-1, _, ?_, ?_, hf0⟩
    · by_cases h : x3 < 0
      · simp [h]
      · have h' : 1000 < x3 := by grind
        simp [h, h']
    · rw [if_pos c3, if_neg n10, if_pos rfl]
  obtain ⟨T, hT, rfl⟩ := rngL 1000 (by decide) (x := x3) c3 (by decide)
  refine ⟨nI (it_ n T i), _, ?_, ?_, hf0⟩
  · rw [if_neg (by grind), if_neg (by grind), e_place hF hn hi2 (by omega), n_bind]
  · rw [if_neg c3, if_neg (by decide)]
    exact e_placeM_ hn (by omega) T i 0 F hi2 (by omega) (by omega)
theorem op_order {F : Nat} (hF : 300000 ≤ F) (x1 x2 x3 : Int32) : op_ (f_X10_order F x1 x2 x3) (f_X11_order F x1 x2 x3) := op_sc (fun σ n hI => by
  obtain ⟨r, ρ, a, b, c⟩ := order_eq hF x1 x2 x3 σ
  exact ⟨r, σ, ρ, a, b, c⟩)
