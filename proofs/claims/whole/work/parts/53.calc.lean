/-! numbers nI: rules for simp -/
theorem n_lit (n : Nat) : (@OfNat.ofNat Int32 n Int32.instOfNat) = nI (@OfNat.ofNat Nat n (instOfNatNat n)) := rfl
theorem n_add (a b : Nat) : nI a + nI b = nI (a + b) := nI_add a b
theorem n_mul (a b : Nat) : nI a * nI b = nI (a * b) := (Int32.ofNat_mul a b).symm
theorem n_sub {a b : Nat} (h : b ≤ a) : nI a - nI b = nI (a - b) := by
  have e : a = (a - b) + b := by omega
  rw [e, ← n_add, Int32.add_sub_cancel, ← e]
theorem n_lt {a b : Nat} (ha : a < 2147483648) (hb : b < 2147483648) : (nI a < nI b) = (a < b) := propext (nI_ltI ha hb)
theorem n_le {a b : Nat} (ha : a < 2147483648) (hb : b < 2147483648) : (nI a ≤ nI b) = (a ≤ b) := propext (nI_leI ha hb)
theorem n_eq {a b : Nat} (ha : a < 2147483648) (hb : b < 2147483648) : (nI a = nI b) = (a = b) := propext (nI_eq ha hb)
theorem n_cl {a : Nat} (h : a < 2147483648) : (nI a).toNatClampNeg = a := nI_clamp h
theorem n_nle {a b : Nat} (h : b < a) : (a ≤ b) = False := eq_false (by omega)
theorem n_yle {a b : Nat} (h : a ≤ b) : (a ≤ b) = True := eq_true h
theorem n_nlt {a b : Nat} (h : b ≤ a) : (a < b) = False := eq_false (by omega)
theorem n_ylt {a b : Nat} (h : a < b) : (a < b) = True := eq_true h
theorem n_bind {r : Int32} {σ : nd_Mem} {k : Int32 → nd_Mem → nd_Res} : nd_bind (some (r, σ)) k = k r σ := rfl
theorem u_app (σ : nd_Mem) (i k : Nat) (v : Int32) (a j : Nat) : nd_up σ i k v a j = if a = i then (if j = k then v else σ a j) else σ a j := rfl
theorem u_eq (σ : nd_Mem) (i k : Nat) (v : Int32) : nd_up σ i k v i k = v := by rw [u_app, if_pos rfl, if_pos rfl]
theorem u_ne1 {σ : nd_Mem} {i k : Nat} {v : Int32} {a j : Nat} (h : a ≠ i) : nd_up σ i k v a j = σ a j := by rw [u_app, if_neg h]
theorem u_ne2 {σ : nd_Mem} {i k : Nat} {v : Int32} {a j : Nat} (h : j ≠ k) : nd_up σ i k v a j = σ a j := by rw [u_app, if_neg h, ite_self]
theorem w_eq (σ : nd_Mem) (i : Nat) (f : Nat → Int32) (j : Nat) : nd_row σ i f i j = f j := by rw [row_app, if_pos rfl]
theorem w_ne {σ : nd_Mem} {i : Nat} {f : Nat → Int32} {a j : Nat} (h : a ≠ i) : nd_row σ i f a j = σ a j := by rw [row_app, if_neg h]
theorem rng (m : Nat) (hm : m < 2147483648) {x : Int32} (h0 : ¬ x < 0) (h1 : ¬ nI m < x) : ∃ a : Nat, a ≤ m ∧ x = nI a := by
  obtain ⟨a, ha, rfl⟩ := nI_of h0
  exact ⟨a, Nat.not_lt.mp (fun e => h1 (nI_lt e ha)), rfl⟩
theorem rng2 (m : Nat) (hm : m < 2147483648) {x : Int32} (h : 0 ≤ x ∧ x ≤ nI m) : ∃ a : Nat, a ≤ m ∧ x = nI a := rng m hm (Int32.not_lt.mpr h.1) (Int32.not_lt.mpr h.2)
theorem n_neq {a b : Nat} (h : a ≠ b) : (a = b) = False := eq_false h
theorem n_m1 {a : Nat} (h : a < 2147483648) : (nI a = -nI 1) = False := eq_false (li_m1 a h)
theorem n_m1l {a : Nat} (h : a < 2147483648) : (nI a ≤ -nI 1) = False := by
  apply eq_false
  rw [Int32.le_iff_toInt_le, nI_toInt h, show (-nI 1).toInt = -1 from rfl]
  omega
theorem n_m1g {a : Nat} (h : a < 2147483648) : (-nI 1 < nI a) = True := by
  apply eq_true
  rw [Int32.lt_iff_toInt_lt, nI_toInt h, show (-nI 1).toInt = -1 from rfl]
  omega
section T
variable {F : Nat} {σ : nd_Mem} {b a n h : Nat} {v : Int32}
theorem e_get0 (hn : σ b 1 = nI n) (hh : h < n) (h16 : n ≤ 16) : f_X6_get F b a (nI h) 0 σ = some (σ a (h * 6), σ) := by
  unfold f_X6_get f_X6_get_27
  simp (disch := omega) only [n_lit, n_add, n_mul, n_sub, n_lt, n_le, n_eq, n_cl, n_nle, n_yle, n_nlt, n_ylt, n_neq, n_m1, n_m1l, n_m1g, n_bind, u_eq, u_ne1, u_ne2, w_eq, w_ne, eq_self, nd_let, ite_true, ite_false, if_true, if_false, false_or, or_false, true_and, and_true, not_true, not_false, true_or, or_true, Nat.not_lt_zero, Nat.zero_le, hn, Nat.add_zero]
theorem e_put0 (hn : σ b 1 = nI n) (hh : h < n) (h16 : n ≤ 16) : f_X6_put F b a (nI h) 0 v σ = some (0, nd_up σ a (h * 6) v) := by
  unfold f_X6_put
  simp (disch := omega) only [n_lit, n_add, n_mul, n_sub, n_lt, n_le, n_eq, n_cl, n_nle, n_yle, n_nlt, n_ylt, n_neq, n_m1, n_m1l, n_m1g, n_bind, u_eq, u_ne1, u_ne2, w_eq, w_ne, eq_self, nd_let, ite_true, ite_false, if_true, if_false, false_or, or_false, true_and, and_true, not_true, not_false, true_or, or_true, Nat.not_lt_zero, Nat.zero_le, hn, Nat.add_zero]
theorem e_get1 (hn : σ b 1 = nI n) (hh : h < n) (h16 : n ≤ 16) : f_X6_get F b a (nI h) 1 σ = some (σ a (h * 6 + 1), σ) := by
  unfold f_X6_get f_X6_get_27
  simp (disch := omega) only [n_lit, n_add, n_mul, n_sub, n_lt, n_le, n_eq, n_cl, n_nle, n_yle, n_nlt, n_ylt, n_neq, n_m1, n_m1l, n_m1g, n_bind, u_eq, u_ne1, u_ne2, w_eq, w_ne, eq_self, nd_let, ite_true, ite_false, if_true, if_false, false_or, or_false, true_and, and_true, not_true, not_false, true_or, or_true, Nat.not_lt_zero, Nat.zero_le, hn]
theorem e_put1 (hn : σ b 1 = nI n) (hh : h < n) (h16 : n ≤ 16) : f_X6_put F b a (nI h) 1 v σ = some (0, nd_up σ a (h * 6 + 1) v) := by
  unfold f_X6_put
  simp (disch := omega) only [n_lit, n_add, n_mul, n_sub, n_lt, n_le, n_eq, n_cl, n_nle, n_yle, n_nlt, n_ylt, n_neq, n_m1, n_m1l, n_m1g, n_bind, u_eq, u_ne1, u_ne2, w_eq, w_ne, eq_self, nd_let, ite_true, ite_false, if_true, if_false, false_or, or_false, true_and, and_true, not_true, not_false, true_or, or_true, Nat.not_lt_zero, Nat.zero_le, hn]
theorem e_get2 (hn : σ b 1 = nI n) (hh : h < n) (h16 : n ≤ 16) : f_X6_get F b a (nI h) 2 σ = some (σ a (h * 6 + 2), σ) := by
  unfold f_X6_get f_X6_get_27
  simp (disch := omega) only [n_lit, n_add, n_mul, n_sub, n_lt, n_le, n_eq, n_cl, n_nle, n_yle, n_nlt, n_ylt, n_neq, n_m1, n_m1l, n_m1g, n_bind, u_eq, u_ne1, u_ne2, w_eq, w_ne, eq_self, nd_let, ite_true, ite_false, if_true, if_false, false_or, or_false, true_and, and_true, not_true, not_false, true_or, or_true, Nat.not_lt_zero, Nat.zero_le, hn]
theorem e_put2 (hn : σ b 1 = nI n) (hh : h < n) (h16 : n ≤ 16) : f_X6_put F b a (nI h) 2 v σ = some (0, nd_up σ a (h * 6 + 2) v) := by
  unfold f_X6_put
  simp (disch := omega) only [n_lit, n_add, n_mul, n_sub, n_lt, n_le, n_eq, n_cl, n_nle, n_yle, n_nlt, n_ylt, n_neq, n_m1, n_m1l, n_m1g, n_bind, u_eq, u_ne1, u_ne2, w_eq, w_ne, eq_self, nd_let, ite_true, ite_false, if_true, if_false, false_or, or_false, true_and, and_true, not_true, not_false, true_or, or_true, Nat.not_lt_zero, Nat.zero_le, hn]
theorem e_get3 (hn : σ b 1 = nI n) (hh : h < n) (h16 : n ≤ 16) : f_X6_get F b a (nI h) 3 σ = some (σ a (h * 6 + 3), σ) := by
  unfold f_X6_get f_X6_get_27
  simp (disch := omega) only [n_lit, n_add, n_mul, n_sub, n_lt, n_le, n_eq, n_cl, n_nle, n_yle, n_nlt, n_ylt, n_neq, n_m1, n_m1l, n_m1g, n_bind, u_eq, u_ne1, u_ne2, w_eq, w_ne, eq_self, nd_let, ite_true, ite_false, if_true, if_false, false_or, or_false, true_and, and_true, not_true, not_false, true_or, or_true, Nat.not_lt_zero, Nat.zero_le, hn]
theorem e_put3 (hn : σ b 1 = nI n) (hh : h < n) (h16 : n ≤ 16) : f_X6_put F b a (nI h) 3 v σ = some (0, nd_up σ a (h * 6 + 3) v) := by
  unfold f_X6_put
  simp (disch := omega) only [n_lit, n_add, n_mul, n_sub, n_lt, n_le, n_eq, n_cl, n_nle, n_yle, n_nlt, n_ylt, n_neq, n_m1, n_m1l, n_m1g, n_bind, u_eq, u_ne1, u_ne2, w_eq, w_ne, eq_self, nd_let, ite_true, ite_false, if_true, if_false, false_or, or_false, true_and, and_true, not_true, not_false, true_or, or_true, Nat.not_lt_zero, Nat.zero_le, hn]
theorem e_get4 (hn : σ b 1 = nI n) (hh : h < n) (h16 : n ≤ 16) : f_X6_get F b a (nI h) 4 σ = some (σ a (h * 6 + 4), σ) := by
  unfold f_X6_get f_X6_get_27
  simp (disch := omega) only [n_lit, n_add, n_mul, n_sub, n_lt, n_le, n_eq, n_cl, n_nle, n_yle, n_nlt, n_ylt, n_neq, n_m1, n_m1l, n_m1g, n_bind, u_eq, u_ne1, u_ne2, w_eq, w_ne, eq_self, nd_let, ite_true, ite_false, if_true, if_false, false_or, or_false, true_and, and_true, not_true, not_false, true_or, or_true, Nat.not_lt_zero, Nat.zero_le, hn]
theorem e_put4 (hn : σ b 1 = nI n) (hh : h < n) (h16 : n ≤ 16) : f_X6_put F b a (nI h) 4 v σ = some (0, nd_up σ a (h * 6 + 4) v) := by
  unfold f_X6_put
  simp (disch := omega) only [n_lit, n_add, n_mul, n_sub, n_lt, n_le, n_eq, n_cl, n_nle, n_yle, n_nlt, n_ylt, n_neq, n_m1, n_m1l, n_m1g, n_bind, u_eq, u_ne1, u_ne2, w_eq, w_ne, eq_self, nd_let, ite_true, ite_false, if_true, if_false, false_or, or_false, true_and, and_true, not_true, not_false, true_or, or_true, Nat.not_lt_zero, Nat.zero_le, hn]
theorem e_get5 (hn : σ b 1 = nI n) (hh : h < n) (h16 : n ≤ 16) : f_X6_get F b a (nI h) 5 σ = some (σ a (h * 6 + 5), σ) := by
  unfold f_X6_get f_X6_get_27
  simp (disch := omega) only [n_lit, n_add, n_mul, n_sub, n_lt, n_le, n_eq, n_cl, n_nle, n_yle, n_nlt, n_ylt, n_neq, n_m1, n_m1l, n_m1g, n_bind, u_eq, u_ne1, u_ne2, w_eq, w_ne, eq_self, nd_let, ite_true, ite_false, if_true, if_false, false_or, or_false, true_and, and_true, not_true, not_false, true_or, or_true, Nat.not_lt_zero, Nat.zero_le, hn]
theorem e_put5 (hn : σ b 1 = nI n) (hh : h < n) (h16 : n ≤ 16) : f_X6_put F b a (nI h) 5 v σ = some (0, nd_up σ a (h * 6 + 5) v) := by
  unfold f_X6_put
  simp (disch := omega) only [n_lit, n_add, n_mul, n_sub, n_lt, n_le, n_eq, n_cl, n_nle, n_yle, n_nlt, n_ylt, n_neq, n_m1, n_m1l, n_m1g, n_bind, u_eq, u_ne1, u_ne2, w_eq, w_ne, eq_self, nd_let, ite_true, ite_false, if_true, if_false, false_or, or_false, true_and, and_true, not_true, not_false, true_or, or_true, Nat.not_lt_zero, Nat.zero_le, hn]
theorem e_addS0 (hn : σ b 1 = nI n) (hh : h < n) (h16 : n ≤ 16) : f_X6_add F b a (nI h) 0 v σ = some (0, nd_up σ a (h * 6) (if 9 < σ a (h * 6) + v then 9 else σ a (h * 6) + v)) := by
  unfold f_X6_add
  rw [e_get0 hn hh h16, n_bind, if_neg (by decide), if_neg (by decide), if_neg (by decide), e_put0 hn hh h16]
  rfl
theorem e_addS1 (hn : σ b 1 = nI n) (hh : h < n) (h16 : n ≤ 16) : f_X6_add F b a (nI h) 1 v σ = some (0, nd_up σ a (h * 6 + 1) (if 9 < σ a (h * 6 + 1) + v then 9 else σ a (h * 6 + 1) + v)) := by
  unfold f_X6_add
  rw [e_get1 hn hh h16, n_bind, if_neg (by decide), if_neg (by decide), if_neg (by decide), e_put1 hn hh h16]
  rfl
theorem e_addS2 (hn : σ b 1 = nI n) (hh : h < n) (h16 : n ≤ 16) : f_X6_add F b a (nI h) 2 v σ = some (0, nd_up σ a (h * 6 + 2) (if 9999 < σ a (h * 6 + 2) + v then 9999 else σ a (h * 6 + 2) + v)) := by
  unfold f_X6_add
  rw [e_get2 hn hh h16, n_bind, if_neg (by decide), if_neg (by decide), if_neg (by decide), e_put2 hn hh h16]
  rfl
theorem e_addS3 (hn : σ b 1 = nI n) (hh : h < n) (h16 : n ≤ 16) : f_X6_add F b a (nI h) 3 v σ = some (0, nd_up σ a (h * 6 + 3) (if 9 < σ a (h * 6 + 3) + v then 9 else σ a (h * 6 + 3) + v)) := by
  unfold f_X6_add
  rw [e_get3 hn hh h16, n_bind, if_neg (by decide), if_neg (by decide), if_neg (by decide), e_put3 hn hh h16]
  rfl
theorem e_addS4 (hn : σ b 1 = nI n) (hh : h < n) (h16 : n ≤ 16) : f_X6_add F b a (nI h) 4 v σ = some (0, nd_up σ a (h * 6 + 4) (if 1 < σ a (h * 6 + 4) + v then 1 else σ a (h * 6 + 4) + v)) := by
  unfold f_X6_add
  rw [e_get4 hn hh h16, n_bind, if_neg (by decide), if_neg (by decide), if_neg (by decide), e_put4 hn hh h16]
  rfl
theorem e_hasS (hn : σ b 1 = nI n) (h16 : n ≤ 16) (x : Int32) : (∃ h : Nat, h < n ∧ x = nI h ∧ f_X6_has F b a x σ = some (1, σ)) ∨ ((x < 0 ∨ nI n ≤ x) ∧ f_X6_has F b a x σ = some (0, σ)) := by
  unfold f_X6_has f_X6_has_16
  by_cases h1 : x < 0
  · right; exact ⟨Or.inl h1, by rw [if_pos h1]⟩
  · obtain ⟨j, hj, rfl⟩ := nI_of h1
    rw [if_neg h1, hn]
    by_cases h2 : n ≤ j
    · right; exact ⟨Or.inr (nI_le h2 hj), by rw [if_pos (nI_le h2 hj)]⟩
    · left; exact ⟨j, by omega, rfl, by rw [if_neg (nI_ge (by omega) (by omega))]⟩
end T
