/-! the law: every call in turn -/
theorem lc_188 (F Ln : Nat) (hF : 300000 ≤ F) (xs : Nat → Int32) (rec18 : Int32 → nd_Mem → nd_Res) (k : Nat) (hk : k + 6 ≤ Ln) (hL : Ln ≤ 3072) {σ : nd_Mem} {n : Nat} (hI : iv_I n σ) (hrec : ∀ (ρ : nd_Mem) (m : Nat), iv_I m ρ → ∃ z, rec18 (nI (k + 6)) ρ = some z) : ∃ z, f_law_188 F Ln xs rec18 (nI k) σ = some z := by
  obtain ⟨r, τ, ρ, n', e1, e2, hI', h0⟩ := op_state hF (xs (k + 1)) σ n hI
  unfold f_law_188
  simp (disch := omega) only [n_lit, n_add, n_mul, n_sub, n_lt, n_le, n_eq, n_cl, n_nle, n_yle, n_nlt, n_ylt, n_neq, n_m1, n_m1l, n_m1g, n_bind, u_eq, u_ne1, u_ne2, w_eq, w_ne, eq_self, nd_let, ite_true, ite_false, if_true, if_false, false_or, or_false, true_and, and_true, not_true, not_false, true_or, or_true, Nat.not_lt_zero, Nat.zero_le, e1, e2, h0]
  exact hrec ρ n' hI'
theorem lc_211 (F Ln : Nat) (hF : 300000 ≤ F) (xs : Nat → Int32) (rec18 : Int32 → nd_Mem → nd_Res) (k : Nat) (hk : k + 6 ≤ Ln) (hL : Ln ≤ 3072) {σ : nd_Mem} {n : Nat} (hI : iv_I n σ) (hrec : ∀ (ρ : nd_Mem) (m : Nat), iv_I m ρ → ∃ z, rec18 (nI (k + 6)) ρ = some z) : ∃ z, f_law_211 F Ln xs rec18 (nI k) σ = some z := by
  obtain ⟨r, τ, ρ, n', e1, e2, hI', h0⟩ := op_house hF (xs (k + 1)) (xs (k + 2)) (xs (k + 3)) σ n hI
  unfold f_law_211
  simp (disch := omega) only [n_lit, n_add, n_mul, n_sub, n_lt, n_le, n_eq, n_cl, n_nle, n_yle, n_nlt, n_ylt, n_neq, n_m1, n_m1l, n_m1g, n_bind, u_eq, u_ne1, u_ne2, w_eq, w_ne, eq_self, nd_let, ite_true, ite_false, if_true, if_false, false_or, or_false, true_and, and_true, not_true, not_false, true_or, or_true, Nat.not_lt_zero, Nat.zero_le, e1, e2, h0]
  exact hrec ρ n' hI'
theorem lc_254 (F Ln : Nat) (hF : 300000 ≤ F) (xs : Nat → Int32) (rec18 : Int32 → nd_Mem → nd_Res) (k : Nat) (hk : k + 6 ≤ Ln) (hL : Ln ≤ 3072) {σ : nd_Mem} {n : Nat} (hI : iv_I n σ) (hrec : ∀ (ρ : nd_Mem) (m : Nat), iv_I m ρ → ∃ z, rec18 (nI (k + 6)) ρ = some z) : ∃ z, f_law_254 F Ln xs rec18 (nI k) σ = some z := by
  obtain ⟨r, τ, ρ, n', e1, e2, hI', h0⟩ := op_set hF (xs (k + 1)) (xs (k + 2)) (xs (k + 3)) σ n hI
  unfold f_law_254
  simp (disch := omega) only [n_lit, n_add, n_mul, n_sub, n_lt, n_le, n_eq, n_cl, n_nle, n_yle, n_nlt, n_ylt, n_neq, n_m1, n_m1l, n_m1g, n_bind, u_eq, u_ne1, u_ne2, w_eq, w_ne, eq_self, nd_let, ite_true, ite_false, if_true, if_false, false_or, or_false, true_and, and_true, not_true, not_false, true_or, or_true, Nat.not_lt_zero, Nat.zero_le, e1, e2, h0]
  exact hrec ρ n' hI'
theorem lc_297 (F Ln : Nat) (hF : 300000 ≤ F) (xs : Nat → Int32) (rec18 : Int32 → nd_Mem → nd_Res) (k : Nat) (hk : k + 6 ≤ Ln) (hL : Ln ≤ 3072) {σ : nd_Mem} {n : Nat} (hI : iv_I n σ) (hrec : ∀ (ρ : nd_Mem) (m : Nat), iv_I m ρ → ∃ z, rec18 (nI (k + 6)) ρ = some z) : ∃ z, f_law_297 F Ln xs rec18 (nI k) σ = some z := by
  obtain ⟨r, τ, ρ, n', e1, e2, hI', h0⟩ := op_act hF (xs (k + 1)) (xs (k + 2)) σ n hI
  unfold f_law_297
  simp (disch := omega) only [n_lit, n_add, n_mul, n_sub, n_lt, n_le, n_eq, n_cl, n_nle, n_yle, n_nlt, n_ylt, n_neq, n_m1, n_m1l, n_m1g, n_bind, u_eq, u_ne1, u_ne2, w_eq, w_ne, eq_self, nd_let, ite_true, ite_false, if_true, if_false, false_or, or_false, true_and, and_true, not_true, not_false, true_or, or_true, Nat.not_lt_zero, Nat.zero_le, e1, e2, h0]
  exact hrec ρ n' hI'
theorem lc_330 (F Ln : Nat) (hF : 300000 ≤ F) (xs : Nat → Int32) (rec18 : Int32 → nd_Mem → nd_Res) (k : Nat) (hk : k + 6 ≤ Ln) (hL : Ln ≤ 3072) {σ : nd_Mem} {n : Nat} (hI : iv_I n σ) (hrec : ∀ (ρ : nd_Mem) (m : Nat), iv_I m ρ → ∃ z, rec18 (nI (k + 6)) ρ = some z) : ∃ z, f_law_330 F Ln xs rec18 (nI k) σ = some z := by
  obtain ⟨r, τ, ρ, n', e1, e2, hI', h0⟩ := op_years hF (xs (k + 1)) σ n hI
  unfold f_law_330
  simp (disch := omega) only [n_lit, n_add, n_mul, n_sub, n_lt, n_le, n_eq, n_cl, n_nle, n_yle, n_nlt, n_ylt, n_neq, n_m1, n_m1l, n_m1g, n_bind, u_eq, u_ne1, u_ne2, w_eq, w_ne, eq_self, nd_let, ite_true, ite_false, if_true, if_false, false_or, or_false, true_and, and_true, not_true, not_false, true_or, or_true, Nat.not_lt_zero, Nat.zero_le, e1, e2, h0]
  exact hrec ρ n' hI'
theorem lc_353 (F Ln : Nat) (hF : 300000 ≤ F) (xs : Nat → Int32) (rec18 : Int32 → nd_Mem → nd_Res) (k : Nat) (hk : k + 6 ≤ Ln) (hL : Ln ≤ 3072) {σ : nd_Mem} {n : Nat} (hI : iv_I n σ) (hrec : ∀ (ρ : nd_Mem) (m : Nat), iv_I m ρ → ∃ z, rec18 (nI (k + 6)) ρ = some z) : ∃ z, f_law_353 F Ln xs rec18 (nI k) σ = some z := by
  obtain ⟨r, τ, ρ, n', e1, e2, hI', h0⟩ := op_feed hF (xs (k + 1)) (xs (k + 2)) (xs (k + 3)) (xs (k + 4)) (xs (k + 5)) σ n hI
  unfold f_law_353
  simp (disch := omega) only [n_lit, n_add, n_mul, n_sub, n_lt, n_le, n_eq, n_cl, n_nle, n_yle, n_nlt, n_ylt, n_neq, n_m1, n_m1l, n_m1g, n_bind, u_eq, u_ne1, u_ne2, w_eq, w_ne, eq_self, nd_let, ite_true, ite_false, if_true, if_false, false_or, or_false, true_and, and_true, not_true, not_false, true_or, or_true, Nat.not_lt_zero, Nat.zero_le, e1, e2, h0]
  exact hrec ρ n' hI'
theorem lc_416 (F Ln : Nat) (hF : 300000 ≤ F) (xs : Nat → Int32) (rec18 : Int32 → nd_Mem → nd_Res) (k : Nat) (hk : k + 6 ≤ Ln) (hL : Ln ≤ 3072) {σ : nd_Mem} {n : Nat} (hI : iv_I n σ) (hrec : ∀ (ρ : nd_Mem) (m : Nat), iv_I m ρ → ∃ z, rec18 (nI (k + 6)) ρ = some z) : ∃ z, f_law_416 F Ln xs rec18 (nI k) σ = some z := by
  obtain ⟨r, τ, ρ, n', e1, e2, hI', h0⟩ := op_end hF (xs (k + 1)) σ n hI
  unfold f_law_416
  simp (disch := omega) only [n_lit, n_add, n_mul, n_sub, n_lt, n_le, n_eq, n_cl, n_nle, n_yle, n_nlt, n_ylt, n_neq, n_m1, n_m1l, n_m1g, n_bind, u_eq, u_ne1, u_ne2, w_eq, w_ne, eq_self, nd_let, ite_true, ite_false, if_true, if_false, false_or, or_false, true_and, and_true, not_true, not_false, true_or, or_true, Nat.not_lt_zero, Nat.zero_le, e1, e2, h0]
  exact hrec ρ n' hI'
theorem lc_439 (F Ln : Nat) (hF : 300000 ≤ F) (xs : Nat → Int32) (rec18 : Int32 → nd_Mem → nd_Res) (k : Nat) (hk : k + 6 ≤ Ln) (hL : Ln ≤ 3072) {σ : nd_Mem} {n : Nat} (hI : iv_I n σ) (hrec : ∀ (ρ : nd_Mem) (m : Nat), iv_I m ρ → ∃ z, rec18 (nI (k + 6)) ρ = some z) : ∃ z, f_law_439 F Ln xs rec18 (nI k) σ = some z := by
  obtain ⟨r, τ, ρ, n', e1, e2, hI', h0⟩ := op_text hF (xs (k + 1)) σ n hI
  unfold f_law_439
  simp (disch := omega) only [n_lit, n_add, n_mul, n_sub, n_lt, n_le, n_eq, n_cl, n_nle, n_yle, n_nlt, n_ylt, n_neq, n_m1, n_m1l, n_m1g, n_bind, u_eq, u_ne1, u_ne2, w_eq, w_ne, eq_self, nd_let, ite_true, ite_false, if_true, if_false, false_or, or_false, true_and, and_true, not_true, not_false, true_or, or_true, Nat.not_lt_zero, Nat.zero_le, e1, e2, h0]
  exact hrec ρ n' hI'
theorem lc_462 (F Ln : Nat) (hF : 300000 ≤ F) (xs : Nat → Int32) (rec18 : Int32 → nd_Mem → nd_Res) (k : Nat) (hk : k + 6 ≤ Ln) (hL : Ln ≤ 3072) {σ : nd_Mem} {n : Nat} (hI : iv_I n σ) (hrec : ∀ (ρ : nd_Mem) (m : Nat), iv_I m ρ → ∃ z, rec18 (nI (k + 6)) ρ = some z) : ∃ z, f_law_462 F Ln xs rec18 (nI k) σ = some z := by
  obtain ⟨r, τ, ρ, n', e1, e2, hI', h0⟩ := op_fault hF (xs (k + 1)) σ n hI
  unfold f_law_462
  simp (disch := omega) only [n_lit, n_add, n_mul, n_sub, n_lt, n_le, n_eq, n_cl, n_nle, n_yle, n_nlt, n_ylt, n_neq, n_m1, n_m1l, n_m1g, n_bind, u_eq, u_ne1, u_ne2, w_eq, w_ne, eq_self, nd_let, ite_true, ite_false, if_true, if_false, false_or, or_false, true_and, and_true, not_true, not_false, true_or, or_true, Nat.not_lt_zero, Nat.zero_le, e1, e2, h0]
  exact hrec ρ n' hI'
theorem lc_485 (F Ln : Nat) (hF : 300000 ≤ F) (xs : Nat → Int32) (rec18 : Int32 → nd_Mem → nd_Res) (k : Nat) (hk : k + 6 ≤ Ln) (hL : Ln ≤ 3072) {σ : nd_Mem} {n : Nat} (hI : iv_I n σ) (hrec : ∀ (ρ : nd_Mem) (m : Nat), iv_I m ρ → ∃ z, rec18 (nI (k + 6)) ρ = some z) : ∃ z, f_law_485 F Ln xs rec18 (nI k) σ = some z := by
  obtain ⟨r, τ, ρ, n', e1, e2, hI', h0⟩ := op_of hF (xs (k + 1)) (xs (k + 2)) σ n hI
  unfold f_law_485
  simp (disch := omega) only [n_lit, n_add, n_mul, n_sub, n_lt, n_le, n_eq, n_cl, n_nle, n_yle, n_nlt, n_ylt, n_neq, n_m1, n_m1l, n_m1g, n_bind, u_eq, u_ne1, u_ne2, w_eq, w_ne, eq_self, nd_let, ite_true, ite_false, if_true, if_false, false_or, or_false, true_and, and_true, not_true, not_false, true_or, or_true, Nat.not_lt_zero, Nat.zero_le, e1, e2, h0]
  exact hrec ρ n' hI'
theorem lc_518 (F Ln : Nat) (hF : 300000 ≤ F) (xs : Nat → Int32) (rec18 : Int32 → nd_Mem → nd_Res) (k : Nat) (hk : k + 6 ≤ Ln) (hL : Ln ≤ 3072) {σ : nd_Mem} {n : Nat} (hI : iv_I n σ) (hrec : ∀ (ρ : nd_Mem) (m : Nat), iv_I m ρ → ∃ z, rec18 (nI (k + 6)) ρ = some z) : ∃ z, f_law_518 F Ln xs rec18 (nI k) σ = some z := by
  obtain ⟨r, τ, ρ, n', e1, e2, hI', h0⟩ := op_book hF (xs (k + 1)) (xs (k + 2)) σ n hI
  unfold f_law_518
  simp (disch := omega) only [n_lit, n_add, n_mul, n_sub, n_lt, n_le, n_eq, n_cl, n_nle, n_yle, n_nlt, n_ylt, n_neq, n_m1, n_m1l, n_m1g, n_bind, u_eq, u_ne1, u_ne2, w_eq, w_ne, eq_self, nd_let, ite_true, ite_false, if_true, if_false, false_or, or_false, true_and, and_true, not_true, not_false, true_or, or_true, Nat.not_lt_zero, Nat.zero_le, e1, e2, h0]
  exact hrec ρ n' hI'
theorem lc_551 (F Ln : Nat) (hF : 300000 ≤ F) (xs : Nat → Int32) (rec18 : Int32 → nd_Mem → nd_Res) (k : Nat) (hk : k + 6 ≤ Ln) (hL : Ln ≤ 3072) {σ : nd_Mem} {n : Nat} (hI : iv_I n σ) (hrec : ∀ (ρ : nd_Mem) (m : Nat), iv_I m ρ → ∃ z, rec18 (nI (k + 6)) ρ = some z) : ∃ z, f_law_551 F Ln xs rec18 (nI k) σ = some z := by
  obtain ⟨r, τ, ρ, n', e1, e2, hI', h0⟩ := op_goes hF (xs (k + 1)) (xs (k + 2)) σ n hI
  unfold f_law_551
  simp (disch := omega) only [n_lit, n_add, n_mul, n_sub, n_lt, n_le, n_eq, n_cl, n_nle, n_yle, n_nlt, n_ylt, n_neq, n_m1, n_m1l, n_m1g, n_bind, u_eq, u_ne1, u_ne2, w_eq, w_ne, eq_self, nd_let, ite_true, ite_false, if_true, if_false, false_or, or_false, true_and, and_true, not_true, not_false, true_or, or_true, Nat.not_lt_zero, Nat.zero_le, e1, e2, h0]
  exact hrec ρ n' hI'
theorem lc_584 (F Ln : Nat) (hF : 300000 ≤ F) (xs : Nat → Int32) (rec18 : Int32 → nd_Mem → nd_Res) (k : Nat) (hk : k + 6 ≤ Ln) (hL : Ln ≤ 3072) {σ : nd_Mem} {n : Nat} (hI : iv_I n σ) (hrec : ∀ (ρ : nd_Mem) (m : Nat), iv_I m ρ → ∃ z, rec18 (nI (k + 6)) ρ = some z) : ∃ z, f_law_584 F Ln xs rec18 (nI k) σ = some z := by
  obtain ⟨r, τ, ρ, n', e1, e2, hI', h0⟩ := op_jug hF (xs (k + 1)) σ n hI
  unfold f_law_584
  simp (disch := omega) only [n_lit, n_add, n_mul, n_sub, n_lt, n_le, n_eq, n_cl, n_nle, n_yle, n_nlt, n_ylt, n_neq, n_m1, n_m1l, n_m1g, n_bind, u_eq, u_ne1, u_ne2, w_eq, w_ne, eq_self, nd_let, ite_true, ite_false, if_true, if_false, false_or, or_false, true_and, and_true, not_true, not_false, true_or, or_true, Nat.not_lt_zero, Nat.zero_le, e1, e2, h0]
  exact hrec ρ n' hI'
theorem lc_607 (F Ln : Nat) (hF : 300000 ≤ F) (xs : Nat → Int32) (rec18 : Int32 → nd_Mem → nd_Res) (k : Nat) (hk : k + 6 ≤ Ln) (hL : Ln ≤ 3072) {σ : nd_Mem} {n : Nat} (hI : iv_I n σ) (hrec : ∀ (ρ : nd_Mem) (m : Nat), iv_I m ρ → ∃ z, rec18 (nI (k + 6)) ρ = some z) : ∃ z, f_law_607 F Ln xs rec18 (nI k) σ = some z := by
  obtain ⟨r, τ, ρ, n', e1, e2, hI', h0⟩ := op_meets hF (xs (k + 1)) (xs (k + 2)) (xs (k + 3)) (xs (k + 4)) σ n hI
  unfold f_law_607
  simp (disch := omega) only [n_lit, n_add, n_mul, n_sub, n_lt, n_le, n_eq, n_cl, n_nle, n_yle, n_nlt, n_ylt, n_neq, n_m1, n_m1l, n_m1g, n_bind, u_eq, u_ne1, u_ne2, w_eq, w_ne, eq_self, nd_let, ite_true, ite_false, if_true, if_false, false_or, or_false, true_and, and_true, not_true, not_false, true_or, or_true, Nat.not_lt_zero, Nat.zero_le, e1, e2, h0]
  exact hrec ρ n' hI'
theorem lc_660 (F Ln : Nat) (hF : 300000 ≤ F) (xs : Nat → Int32) (rec18 : Int32 → nd_Mem → nd_Res) (k : Nat) (hk : k + 6 ≤ Ln) (hL : Ln ≤ 3072) {σ : nd_Mem} {n : Nat} (hI : iv_I n σ) (hrec : ∀ (ρ : nd_Mem) (m : Nat), iv_I m ρ → ∃ z, rec18 (nI (k + 6)) ρ = some z) : ∃ z, f_law_660 F Ln xs rec18 (nI k) σ = some z := by
  obtain ⟨r, τ, ρ, n', e1, e2, hI', h0⟩ := op_child hF (xs (k + 1)) σ n hI
  unfold f_law_660
  simp (disch := omega) only [n_lit, n_add, n_mul, n_sub, n_lt, n_le, n_eq, n_cl, n_nle, n_yle, n_nlt, n_ylt, n_neq, n_m1, n_m1l, n_m1g, n_bind, u_eq, u_ne1, u_ne2, w_eq, w_ne, eq_self, nd_let, ite_true, ite_false, if_true, if_false, false_or, or_false, true_and, and_true, not_true, not_false, true_or, or_true, Nat.not_lt_zero, Nat.zero_le, e1, e2, h0]
  exact hrec ρ n' hI'
theorem lc_683 (F Ln : Nat) (hF : 300000 ≤ F) (xs : Nat → Int32) (rec18 : Int32 → nd_Mem → nd_Res) (k : Nat) (hk : k + 6 ≤ Ln) (hL : Ln ≤ 3072) {σ : nd_Mem} {n : Nat} (hI : iv_I n σ) (hrec : ∀ (ρ : nd_Mem) (m : Nat), iv_I m ρ → ∃ z, rec18 (nI (k + 6)) ρ = some z) : ∃ z, f_law_683 F Ln xs rec18 (nI k) σ = some z := by
  obtain ⟨r, τ, ρ, n', e1, e2, hI', h0⟩ := op_planned hF (xs (k + 1)) σ n hI
  unfold f_law_683
  simp (disch := omega) only [n_lit, n_add, n_mul, n_sub, n_lt, n_le, n_eq, n_cl, n_nle, n_yle, n_nlt, n_ylt, n_neq, n_m1, n_m1l, n_m1g, n_bind, u_eq, u_ne1, u_ne2, w_eq, w_ne, eq_self, nd_let, ite_true, ite_false, if_true, if_false, false_or, or_false, true_and, and_true, not_true, not_false, true_or, or_true, Nat.not_lt_zero, Nat.zero_le, e1, e2, h0]
  exact hrec ρ n' hI'
theorem lc_706 (F Ln : Nat) (hF : 300000 ≤ F) (xs : Nat → Int32) (rec18 : Int32 → nd_Mem → nd_Res) (k : Nat) (hk : k + 6 ≤ Ln) (hL : Ln ≤ 3072) {σ : nd_Mem} {n : Nat} (hI : iv_I n σ) (hrec : ∀ (ρ : nd_Mem) (m : Nat), iv_I m ρ → ∃ z, rec18 (nI (k + 6)) ρ = some z) : ∃ z, f_law_706 F Ln xs rec18 (nI k) σ = some z := by
  obtain ⟨r, τ, ρ, n', e1, e2, hI', h0⟩ := op_siding hF (xs (k + 1)) (xs (k + 2)) σ n hI
  unfold f_law_706
  simp (disch := omega) only [n_lit, n_add, n_mul, n_sub, n_lt, n_le, n_eq, n_cl, n_nle, n_yle, n_nlt, n_ylt, n_neq, n_m1, n_m1l, n_m1g, n_bind, u_eq, u_ne1, u_ne2, w_eq, w_ne, eq_self, nd_let, ite_true, ite_false, if_true, if_false, false_or, or_false, true_and, and_true, not_true, not_false, true_or, or_true, Nat.not_lt_zero, Nat.zero_le, e1, e2, h0]
  exact hrec ρ n' hI'
theorem lc_739 (F Ln : Nat) (hF : 300000 ≤ F) (xs : Nat → Int32) (rec18 : Int32 → nd_Mem → nd_Res) (k : Nat) (hk : k + 6 ≤ Ln) (hL : Ln ≤ 3072) {σ : nd_Mem} {n : Nat} (hI : iv_I n σ) (hrec : ∀ (ρ : nd_Mem) (m : Nat), iv_I m ρ → ∃ z, rec18 (nI (k + 6)) ρ = some z) : ∃ z, f_law_739 F Ln xs rec18 (nI k) σ = some z := by
  obtain ⟨r, τ, ρ, n', e1, e2, hI', h0⟩ := op_bought hF (xs (k + 1)) (xs (k + 2)) σ n hI
  unfold f_law_739
  simp (disch := omega) only [n_lit, n_add, n_mul, n_sub, n_lt, n_le, n_eq, n_cl, n_nle, n_yle, n_nlt, n_ylt, n_neq, n_m1, n_m1l, n_m1g, n_bind, u_eq, u_ne1, u_ne2, w_eq, w_ne, eq_self, nd_let, ite_true, ite_false, if_true, if_false, false_or, or_false, true_and, and_true, not_true, not_false, true_or, or_true, Nat.not_lt_zero, Nat.zero_le, e1, e2, h0]
  exact hrec ρ n' hI'
theorem lc_772 (F Ln : Nat) (hF : 300000 ≤ F) (xs : Nat → Int32) (rec18 : Int32 → nd_Mem → nd_Res) (k : Nat) (hk : k + 6 ≤ Ln) (hL : Ln ≤ 3072) {σ : nd_Mem} {n : Nat} (hI : iv_I n σ) (hrec : ∀ (ρ : nd_Mem) (m : Nat), iv_I m ρ → ∃ z, rec18 (nI (k + 6)) ρ = some z) : ∃ z, f_law_772 F Ln xs rec18 (nI k) σ = some z := by
  obtain ⟨r, τ, ρ, n', e1, e2, hI', h0⟩ := op_rows hF (xs (k + 1)) (xs (k + 2)) σ n hI
  unfold f_law_772
  simp (disch := omega) only [n_lit, n_add, n_mul, n_sub, n_lt, n_le, n_eq, n_cl, n_nle, n_yle, n_nlt, n_ylt, n_neq, n_m1, n_m1l, n_m1g, n_bind, u_eq, u_ne1, u_ne2, w_eq, w_ne, eq_self, nd_let, ite_true, ite_false, if_true, if_false, false_or, or_false, true_and, and_true, not_true, not_false, true_or, or_true, Nat.not_lt_zero, Nat.zero_le, e1, e2, h0]
  exact hrec ρ n' hI'
theorem lc_805 (F Ln : Nat) (hF : 300000 ≤ F) (xs : Nat → Int32) (rec18 : Int32 → nd_Mem → nd_Res) (k : Nat) (hk : k + 6 ≤ Ln) (hL : Ln ≤ 3072) {σ : nd_Mem} {n : Nat} (hI : iv_I n σ) (hrec : ∀ (ρ : nd_Mem) (m : Nat), iv_I m ρ → ∃ z, rec18 (nI (k + 6)) ρ = some z) : ∃ z, f_law_805 F Ln xs rec18 (nI k) σ = some z := by
  obtain ⟨r, τ, ρ, n', e1, e2, hI', h0⟩ := op_dowry hF (xs (k + 1)) σ n hI
  unfold f_law_805
  simp (disch := omega) only [n_lit, n_add, n_mul, n_sub, n_lt, n_le, n_eq, n_cl, n_nle, n_yle, n_nlt, n_ylt, n_neq, n_m1, n_m1l, n_m1g, n_bind, u_eq, u_ne1, u_ne2, w_eq, w_ne, eq_self, nd_let, ite_true, ite_false, if_true, if_false, false_or, or_false, true_and, and_true, not_true, not_false, true_or, or_true, Nat.not_lt_zero, Nat.zero_le, e1, e2, h0]
  exact hrec ρ n' hI'
theorem lc_828 (F Ln : Nat) (hF : 300000 ≤ F) (xs : Nat → Int32) (rec18 : Int32 → nd_Mem → nd_Res) (k : Nat) (hk : k + 6 ≤ Ln) (hL : Ln ≤ 3072) {σ : nd_Mem} {n : Nat} (hI : iv_I n σ) (hrec : ∀ (ρ : nd_Mem) (m : Nat), iv_I m ρ → ∃ z, rec18 (nI (k + 6)) ρ = some z) : ∃ z, f_law_828 F Ln xs rec18 (nI k) σ = some z := by
  obtain ⟨r, τ, ρ, n', e1, e2, hI', h0⟩ := op_pushed hF (xs (k + 1)) σ n hI
  unfold f_law_828
  simp (disch := omega) only [n_lit, n_add, n_mul, n_sub, n_lt, n_le, n_eq, n_cl, n_nle, n_yle, n_nlt, n_ylt, n_neq, n_m1, n_m1l, n_m1g, n_bind, u_eq, u_ne1, u_ne2, w_eq, w_ne, eq_self, nd_let, ite_true, ite_false, if_true, if_false, false_or, or_false, true_and, and_true, not_true, not_false, true_or, or_true, Nat.not_lt_zero, Nat.zero_le, e1, e2, h0]
  exact hrec ρ n' hI'
theorem lc_851 (F Ln : Nat) (hF : 300000 ≤ F) (xs : Nat → Int32) (rec18 : Int32 → nd_Mem → nd_Res) (k : Nat) (hk : k + 6 ≤ Ln) (hL : Ln ≤ 3072) {σ : nd_Mem} {n : Nat} (hI : iv_I n σ) (hrec : ∀ (ρ : nd_Mem) (m : Nat), iv_I m ρ → ∃ z, rec18 (nI (k + 6)) ρ = some z) : ∃ z, f_law_851 F Ln xs rec18 (nI k) σ = some z := by
  obtain ⟨r, τ, ρ, n', e1, e2, hI', h0⟩ := op_feuds hF (xs (k + 1)) σ n hI
  unfold f_law_851
  simp (disch := omega) only [n_lit, n_add, n_mul, n_sub, n_lt, n_le, n_eq, n_cl, n_nle, n_yle, n_nlt, n_ylt, n_neq, n_m1, n_m1l, n_m1g, n_bind, u_eq, u_ne1, u_ne2, w_eq, w_ne, eq_self, nd_let, ite_true, ite_false, if_true, if_false, false_or, or_false, true_and, and_true, not_true, not_false, true_or, or_true, Nat.not_lt_zero, Nat.zero_le, e1, e2, h0]
  exact hrec ρ n' hI'
theorem lc_874 (F Ln : Nat) (hF : 300000 ≤ F) (xs : Nat → Int32) (rec18 : Int32 → nd_Mem → nd_Res) (k : Nat) (hk : k + 6 ≤ Ln) (hL : Ln ≤ 3072) {σ : nd_Mem} {n : Nat} (hI : iv_I n σ) (hrec : ∀ (ρ : nd_Mem) (m : Nat), iv_I m ρ → ∃ z, rec18 (nI (k + 6)) ρ = some z) : ∃ z, f_law_874 F Ln xs rec18 (nI k) σ = some z := by
  obtain ⟨r, τ, ρ, n', e1, e2, hI', h0⟩ := op_person hF (xs (k + 1)) (xs (k + 2)) σ n hI
  unfold f_law_874
  simp (disch := omega) only [n_lit, n_add, n_mul, n_sub, n_lt, n_le, n_eq, n_cl, n_nle, n_yle, n_nlt, n_ylt, n_neq, n_m1, n_m1l, n_m1g, n_bind, u_eq, u_ne1, u_ne2, w_eq, w_ne, eq_self, nd_let, ite_true, ite_false, if_true, if_false, false_or, or_false, true_and, and_true, not_true, not_false, true_or, or_true, Nat.not_lt_zero, Nat.zero_le, e1, e2, h0]
  exact hrec ρ n' hI'
theorem lc_907 (F Ln : Nat) (hF : 300000 ≤ F) (xs : Nat → Int32) (rec18 : Int32 → nd_Mem → nd_Res) (k : Nat) (hk : k + 6 ≤ Ln) (hL : Ln ≤ 3072) {σ : nd_Mem} {n : Nat} (hI : iv_I n σ) (hrec : ∀ (ρ : nd_Mem) (m : Nat), iv_I m ρ → ∃ z, rec18 (nI (k + 6)) ρ = some z) : ∃ z, f_law_907 F Ln xs rec18 (nI k) σ = some z := by
  obtain ⟨r, τ, ρ, n', e1, e2, hI', h0⟩ := op_akin hF (xs (k + 1)) (xs (k + 2)) (xs (k + 3)) σ n hI
  unfold f_law_907
  simp (disch := omega) only [n_lit, n_add, n_mul, n_sub, n_lt, n_le, n_eq, n_cl, n_nle, n_yle, n_nlt, n_ylt, n_neq, n_m1, n_m1l, n_m1g, n_bind, u_eq, u_ne1, u_ne2, w_eq, w_ne, eq_self, nd_let, ite_true, ite_false, if_true, if_false, false_or, or_false, true_and, and_true, not_true, not_false, true_or, or_true, Nat.not_lt_zero, Nat.zero_le, e1, e2, h0]
  exact hrec ρ n' hI'
theorem lc_950 (F Ln : Nat) (hF : 300000 ≤ F) (xs : Nat → Int32) (rec18 : Int32 → nd_Mem → nd_Res) (k : Nat) (hk : k + 6 ≤ Ln) (hL : Ln ≤ 3072) {σ : nd_Mem} {n : Nat} (hI : iv_I n σ) (hrec : ∀ (ρ : nd_Mem) (m : Nat), iv_I m ρ → ∃ z, rec18 (nI (k + 6)) ρ = some z) : ∃ z, f_law_950 F Ln xs rec18 (nI k) σ = some z := by
  obtain ⟨r, τ, ρ, n', e1, e2, hI', h0⟩ := op_home hF (xs (k + 1)) (xs (k + 2)) (xs (k + 3)) (xs (k + 4)) σ n hI
  unfold f_law_950
  simp (disch := omega) only [n_lit, n_add, n_mul, n_sub, n_lt, n_le, n_eq, n_cl, n_nle, n_yle, n_nlt, n_ylt, n_neq, n_m1, n_m1l, n_m1g, n_bind, u_eq, u_ne1, u_ne2, w_eq, w_ne, eq_self, nd_let, ite_true, ite_false, if_true, if_false, false_or, or_false, true_and, and_true, not_true, not_false, true_or, or_true, Nat.not_lt_zero, Nat.zero_le, e1, e2, h0]
  exact hrec ρ n' hI'
theorem lc_1003 (F Ln : Nat) (hF : 300000 ≤ F) (xs : Nat → Int32) (rec18 : Int32 → nd_Mem → nd_Res) (k : Nat) (hk : k + 6 ≤ Ln) (hL : Ln ≤ 3072) {σ : nd_Mem} {n : Nat} (hI : iv_I n σ) (hrec : ∀ (ρ : nd_Mem) (m : Nat), iv_I m ρ → ∃ z, rec18 (nI (k + 6)) ρ = some z) : ∃ z, f_law_1003 F Ln xs rec18 (nI k) σ = some z := by
  obtain ⟨r, τ, ρ, n', e1, e2, hI', h0⟩ := op_streets hF (xs (k + 1)) (xs (k + 2)) (xs (k + 3)) σ n hI
  unfold f_law_1003
  simp (disch := omega) only [n_lit, n_add, n_mul, n_sub, n_lt, n_le, n_eq, n_cl, n_nle, n_yle, n_nlt, n_ylt, n_neq, n_m1, n_m1l, n_m1g, n_bind, u_eq, u_ne1, u_ne2, w_eq, w_ne, eq_self, nd_let, ite_true, ite_false, if_true, if_false, false_or, or_false, true_and, and_true, not_true, not_false, true_or, or_true, Nat.not_lt_zero, Nat.zero_le, e1, e2, h0]
  exact hrec ρ n' hI'
theorem lc_1046 (F Ln : Nat) (hF : 300000 ≤ F) (xs : Nat → Int32) (rec18 : Int32 → nd_Mem → nd_Res) (k : Nat) (hk : k + 6 ≤ Ln) (hL : Ln ≤ 3072) {σ : nd_Mem} {n : Nat} (hI : iv_I n σ) (hrec : ∀ (ρ : nd_Mem) (m : Nat), iv_I m ρ → ∃ z, rec18 (nI (k + 6)) ρ = some z) : ∃ z, f_law_1046 F Ln xs rec18 (nI k) σ = some z := by
  obtain ⟨r, τ, ρ, n', e1, e2, hI', h0⟩ := op_moved hF (xs (k + 1)) (xs (k + 2)) σ n hI
  unfold f_law_1046
  simp (disch := omega) only [n_lit, n_add, n_mul, n_sub, n_lt, n_le, n_eq, n_cl, n_nle, n_yle, n_nlt, n_ylt, n_neq, n_m1, n_m1l, n_m1g, n_bind, u_eq, u_ne1, u_ne2, w_eq, w_ne, eq_self, nd_let, ite_true, ite_false, if_true, if_false, false_or, or_false, true_and, and_true, not_true, not_false, true_or, or_true, Nat.not_lt_zero, Nat.zero_le, e1, e2, h0]
  exact hrec ρ n' hI'
theorem lc_1079 (F Ln : Nat) (hF : 300000 ≤ F) (xs : Nat → Int32) (rec18 : Int32 → nd_Mem → nd_Res) (k : Nat) (hk : k + 6 ≤ Ln) (hL : Ln ≤ 3072) {σ : nd_Mem} {n : Nat} (hI : iv_I n σ) (hrec : ∀ (ρ : nd_Mem) (m : Nat), iv_I m ρ → ∃ z, rec18 (nI (k + 6)) ρ = some z) : ∃ z, f_law_1079 F Ln xs rec18 (nI k) σ = some z := by
  obtain ⟨r, τ, ρ, n', e1, e2, hI', h0⟩ := op_chain hF  σ n hI
  unfold f_law_1079
  simp (disch := omega) only [n_lit, n_add, n_mul, n_sub, n_lt, n_le, n_eq, n_cl, n_nle, n_yle, n_nlt, n_ylt, n_neq, n_m1, n_m1l, n_m1g, n_bind, u_eq, u_ne1, u_ne2, w_eq, w_ne, eq_self, nd_let, ite_true, ite_false, if_true, if_false, false_or, or_false, true_and, and_true, not_true, not_false, true_or, or_true, Nat.not_lt_zero, Nat.zero_le, e1, e2, h0]
  exact hrec ρ n' hI'
theorem lc_1092 (F Ln : Nat) (hF : 300000 ≤ F) (xs : Nat → Int32) (rec18 : Int32 → nd_Mem → nd_Res) (k : Nat) (hk : k + 6 ≤ Ln) (hL : Ln ≤ 3072) {σ : nd_Mem} {n : Nat} (hI : iv_I n σ) (hrec : ∀ (ρ : nd_Mem) (m : Nat), iv_I m ρ → ∃ z, rec18 (nI (k + 6)) ρ = some z) : ∃ z, f_law_1092 F Ln xs rec18 (nI k) σ = some z := by
  obtain ⟨r, τ, ρ, n', e1, e2, hI', h0⟩ := op_order hF (xs (k + 1)) (xs (k + 2)) (xs (k + 3)) σ n hI
  unfold f_law_1092
  simp (disch := omega) only [n_lit, n_add, n_mul, n_sub, n_lt, n_le, n_eq, n_cl, n_nle, n_yle, n_nlt, n_ylt, n_neq, n_m1, n_m1l, n_m1g, n_bind, u_eq, u_ne1, u_ne2, w_eq, w_ne, eq_self, nd_let, ite_true, ite_false, if_true, if_false, false_or, or_false, true_and, and_true, not_true, not_false, true_or, or_true, Nat.not_lt_zero, Nat.zero_le, e1, e2, h0]
  exact hrec ρ n' hI'
theorem lc_1135 (F Ln : Nat) (hF : 300000 ≤ F) (xs : Nat → Int32) (rec18 : Int32 → nd_Mem → nd_Res) (k : Nat) (hk : k + 6 ≤ Ln) (hL : Ln ≤ 3072) {σ : nd_Mem} {n : Nat} (hI : iv_I n σ) (hrec : ∀ (ρ : nd_Mem) (m : Nat), iv_I m ρ → ∃ z, rec18 (nI (k + 6)) ρ = some z) : ∃ z, f_law_1135 F Ln xs rec18 (nI k) σ = some z := by
  obtain ⟨r, τ, ρ, n', e1, e2, hI', h0⟩ := op_height hF (xs (k + 1)) σ n hI
  unfold f_law_1135
  simp (disch := omega) only [n_lit, n_add, n_mul, n_sub, n_lt, n_le, n_eq, n_cl, n_nle, n_yle, n_nlt, n_ylt, n_neq, n_m1, n_m1l, n_m1g, n_bind, u_eq, u_ne1, u_ne2, w_eq, w_ne, eq_self, nd_let, ite_true, ite_false, if_true, if_false, false_or, or_false, true_and, and_true, not_true, not_false, true_or, or_true, Nat.not_lt_zero, Nat.zero_le, e1, e2, h0]
  exact hrec ρ n' hI'
theorem lc_1158 (F Ln : Nat) (hF : 300000 ≤ F) (xs : Nat → Int32) (rec18 : Int32 → nd_Mem → nd_Res) (k : Nat) (hk : k + 6 ≤ Ln) (hL : Ln ≤ 3072) {σ : nd_Mem} {n : Nat} (hI : iv_I n σ) (hrec : ∀ (ρ : nd_Mem) (m : Nat), iv_I m ρ → ∃ z, rec18 (nI (k + 6)) ρ = some z) : ∃ z, f_law_1158 F Ln xs rec18 (nI k) σ = some z := by
  obtain ⟨r, τ, ρ, n', e1, e2, hI', h0⟩ := op_windows hF (xs (k + 1)) σ n hI
  unfold f_law_1158
  simp (disch := omega) only [n_lit, n_add, n_mul, n_sub, n_lt, n_le, n_eq, n_cl, n_nle, n_yle, n_nlt, n_ylt, n_neq, n_m1, n_m1l, n_m1g, n_bind, u_eq, u_ne1, u_ne2, w_eq, w_ne, eq_self, nd_let, ite_true, ite_false, if_true, if_false, false_or, or_false, true_and, and_true, not_true, not_false, true_or, or_true, Nat.not_lt_zero, Nat.zero_le, e1, e2, h0]
  exact hrec ρ n' hI'
theorem lc_1181 (F Ln : Nat) (hF : 300000 ≤ F) (xs : Nat → Int32) (rec18 : Int32 → nd_Mem → nd_Res) (k : Nat) (hk : k + 6 ≤ Ln) (hL : Ln ≤ 3072) {σ : nd_Mem} {n : Nat} (hI : iv_I n σ) (hrec : ∀ (ρ : nd_Mem) (m : Nat), iv_I m ρ → ∃ z, rec18 (nI (k + 6)) ρ = some z) : ∃ z, f_law_1181 F Ln xs rec18 (nI k) σ = some z := by
  obtain ⟨r, τ, ρ, n', e1, e2, hI', h0⟩ := op_game hF (xs (k + 1)) (xs (k + 2)) (xs (k + 3)) σ n hI
  unfold f_law_1181
  simp (disch := omega) only [n_lit, n_add, n_mul, n_sub, n_lt, n_le, n_eq, n_cl, n_nle, n_yle, n_nlt, n_ylt, n_neq, n_m1, n_m1l, n_m1g, n_bind, u_eq, u_ne1, u_ne2, w_eq, w_ne, eq_self, nd_let, ite_true, ite_false, if_true, if_false, false_or, or_false, true_and, and_true, not_true, not_false, true_or, or_true, Nat.not_lt_zero, Nat.zero_le, e1, e2, h0]
  exact hrec ρ n' hI'
theorem lc_1224 (F Ln : Nat) (hF : 300000 ≤ F) (xs : Nat → Int32) (rec18 : Int32 → nd_Mem → nd_Res) (k : Nat) (hk : k + 6 ≤ Ln) (hL : Ln ≤ 3072) {σ : nd_Mem} {n : Nat} (hI : iv_I n σ) (hrec : ∀ (ρ : nd_Mem) (m : Nat), iv_I m ρ → ∃ z, rec18 (nI (k + 6)) ρ = some z) : ∃ z, f_law_1224 F Ln xs rec18 (nI k) σ = some z := by
  obtain ⟨r, τ, ρ, n', e1, e2, hI', h0⟩ := op_undo hF  σ n hI
  unfold f_law_1224
  simp (disch := omega) only [n_lit, n_add, n_mul, n_sub, n_lt, n_le, n_eq, n_cl, n_nle, n_yle, n_nlt, n_ylt, n_neq, n_m1, n_m1l, n_m1g, n_bind, u_eq, u_ne1, u_ne2, w_eq, w_ne, eq_self, nd_let, ite_true, ite_false, if_true, if_false, false_or, or_false, true_and, and_true, not_true, not_false, true_or, or_true, Nat.not_lt_zero, Nat.zero_le, e1, e2, h0]
  exact hrec ρ n' hI'
theorem lc_1237 (F Ln : Nat) (hF : 300000 ≤ F) (xs : Nat → Int32) (rec18 : Int32 → nd_Mem → nd_Res) (k : Nat) (hk : k + 6 ≤ Ln) (hL : Ln ≤ 3072) {σ : nd_Mem} {n : Nat} (hI : iv_I n σ) (hrec : ∀ (ρ : nd_Mem) (m : Nat), iv_I m ρ → ∃ z, rec18 (nI (k + 6)) ρ = some z) : ∃ z, f_law_1237 F Ln xs rec18 (nI k) σ = some z := by
  unfold f_law_1237
  simp (disch := omega) only [n_lit, n_add, n_mul, n_sub, n_lt, n_le, n_eq, n_cl, n_nle, n_yle, n_nlt, n_ylt, n_neq, n_m1, n_m1l, n_m1g, n_bind, u_eq, u_ne1, u_ne2, w_eq, w_ne, eq_self, nd_let, ite_true, ite_false, if_true, if_false, false_or, or_false, true_and, and_true, not_true, not_false, true_or, or_true, Nat.not_lt_zero, Nat.zero_le]
  by_cases hx : xs (k + 1) = nI 0
  · obtain ⟨r, τ, ρ, n', e1, e2, hI', h0⟩ := op_imageB0 hF σ n hI
    have e1 : f_X10_imageB F (nI 0) σ = some (r, τ) := e1
    have e2 : f_X11_image F (nI 0) τ = some (r, ρ) := e2
    simp (disch := omega) only [n_lit, n_add, n_mul, n_sub, n_lt, n_le, n_eq, n_cl, n_nle, n_yle, n_nlt, n_ylt, n_neq, n_m1, n_m1l, n_m1g, n_bind, u_eq, u_ne1, u_ne2, w_eq, w_ne, eq_self, nd_let, ite_true, ite_false, if_true, if_false, false_or, or_false, true_and, and_true, not_true, not_false, true_or, or_true, Nat.not_lt_zero, Nat.zero_le, hx, e1, e2, h0]
    exact hrec ρ n' hI'
  · by_cases hf : σ 0 10 = nI 0
    · obtain ⟨r, τ, ρ, n', e1, e2, hI', h0⟩ := op_imageA hF σ n hI hf
      have e1 : f_X10_imageA F (nI 1) σ = some (r, τ) := e1
      have e2 : f_X11_image F (nI 1) τ = some (r, ρ) := e2
      have h0 : ¬ ρ 0 10 = nI 0 := h0
      simp (disch := omega) only [n_lit, n_add, n_mul, n_sub, n_lt, n_le, n_eq, n_cl, n_nle, n_yle, n_nlt, n_ylt, n_neq, n_m1, n_m1l, n_m1g, n_bind, u_eq, u_ne1, u_ne2, w_eq, w_ne, eq_self, nd_let, ite_true, ite_false, if_true, if_false, false_or, or_false, true_and, and_true, not_true, not_false, true_or, or_true, Nat.not_lt_zero, Nat.zero_le, hx, hf, e1, e2, h0]
      exact hrec ρ n' hI'
    · obtain ⟨r, τ, ρ, n', e1, e2, hI', h0⟩ := op_imageB1 hF σ n hI hf
      have e1 : f_X10_imageB F (nI 1) σ = some (r, τ) := e1
      have e2 : f_X11_image F (nI 1) τ = some (r, ρ) := e2
      simp (disch := omega) only [n_lit, n_add, n_mul, n_sub, n_lt, n_le, n_eq, n_cl, n_nle, n_yle, n_nlt, n_ylt, n_neq, n_m1, n_m1l, n_m1g, n_bind, u_eq, u_ne1, u_ne2, w_eq, w_ne, eq_self, nd_let, ite_true, ite_false, if_true, if_false, false_or, or_false, true_and, and_true, not_true, not_false, true_or, or_true, Nat.not_lt_zero, Nat.zero_le, hx, hf, e1, e2, h0]
      exact hrec ρ n' hI'
theorem lc_1276 (F Ln : Nat) (hF : 300000 ≤ F) (xs : Nat → Int32) (rec18 : Int32 → nd_Mem → nd_Res) (k : Nat) (hk : k + 6 ≤ Ln) (hL : Ln ≤ 3072) {σ : nd_Mem} {n : Nat} (hI : iv_I n σ) (hrec : ∀ (ρ : nd_Mem) (m : Nat), iv_I m ρ → ∃ z, rec18 (nI (k + 6)) ρ = some z) : ∃ z, f_law_1276 F Ln xs rec18 (nI k) σ = some z := by
  obtain ⟨r, τ, ρ, n', e1, e2, hI', h0⟩ := op_look hF (xs (k + 1)) σ n hI
  unfold f_law_1276
  simp (disch := omega) only [n_lit, n_add, n_mul, n_sub, n_lt, n_le, n_eq, n_cl, n_nle, n_yle, n_nlt, n_ylt, n_neq, n_m1, n_m1l, n_m1g, n_bind, u_eq, u_ne1, u_ne2, w_eq, w_ne, eq_self, nd_let, ite_true, ite_false, if_true, if_false, false_or, or_false, true_and, and_true, not_true, not_false, true_or, or_true, Nat.not_lt_zero, Nat.zero_le, e1, e2, h0]
  exact hrec ρ n' hI'
theorem law_18 {F Ln : Nat} (hF : 300000 ≤ F) (xs : Nat → Int32) (hL : Ln ≤ 3072) : ∀ (f k : Nat) (σ : nd_Mem) (n : Nat), Ln + 6 < k + 6 * f → k ≤ Ln + 6 → iv_I n σ → ∃ z, f_law_18 F Ln xs f (nI k) σ = some z := by
  intro f
  induction f with
  | zero => intro k σ n h1 h2 _; omega
  | succ f ih =>
    intro k σ n h1 h2 hI
    unfold f_law_18 f_law_18_b
    by_cases hlt : (Int32.ofNat Ln - 6 : Int32) < nI k
    · rw [if_pos hlt]; exact ⟨_, rfl⟩
    · rw [if_neg hlt]
      have hk : k + 6 ≤ Ln := by
        apply Classical.byContradiction
        intro hc
        apply hlt
        have e1 : (Int32.ofNat Ln - 6 : Int32) = nI Ln - nI 6 := rfl
        rw [e1, Int32.lt_iff_toInt_lt, nI_toInt (by omega), Int32.toInt_sub, nI_toInt (by omega), nI_toInt (by omega), Int.bmod_eq_of_le (by omega) (by omega)]
        omega
      have hr : ∀ (ρ : nd_Mem) (m : Nat), iv_I m ρ → ∃ z, f_law_18 F Ln xs f (nI (k + 6)) ρ = some z := fun ρ m h => ih (k + 6) ρ m (by omega) (by omega) h
      have hd : ∃ z, f_law_18 F Ln xs f (nI k + 6) σ = some z := by
        rw [show nI k + 6 = nI (k + 6) from nI_add k 6]; exact hr σ n hI
      rw [if_neg (nI_in (by omega) (by omega)), nI_clamp (by omega)]
      generalize (xs k &&& 63 : Int32) = c
      by_cases h0 : c = 0
      · rw [if_pos h0]; exact lc_188 F Ln hF xs _ k hk hL hI hr
      rw [if_neg h0]
      by_cases h1 : c = 1
      · rw [if_pos h1]; exact lc_211 F Ln hF xs _ k hk hL hI hr
      rw [if_neg h1]
      by_cases h2 : c = 2
      · rw [if_pos h2]; exact lc_254 F Ln hF xs _ k hk hL hI hr
      rw [if_neg h2]
      by_cases h3 : c = 3
      · rw [if_pos h3]; exact lc_297 F Ln hF xs _ k hk hL hI hr
      rw [if_neg h3]
      by_cases h4 : c = 4
      · rw [if_pos h4]; exact lc_330 F Ln hF xs _ k hk hL hI hr
      rw [if_neg h4]
      by_cases h5 : c = 5
      · rw [if_pos h5]; exact lc_353 F Ln hF xs _ k hk hL hI hr
      rw [if_neg h5]
      by_cases h6 : c = 6
      · rw [if_pos h6]; exact lc_416 F Ln hF xs _ k hk hL hI hr
      rw [if_neg h6]
      by_cases h7 : c = 7
      · rw [if_pos h7]; exact lc_439 F Ln hF xs _ k hk hL hI hr
      rw [if_neg h7]
      by_cases h8 : c = 8
      · rw [if_pos h8]; exact lc_462 F Ln hF xs _ k hk hL hI hr
      rw [if_neg h8]
      by_cases h9 : c = 9
      · rw [if_pos h9]; exact lc_485 F Ln hF xs _ k hk hL hI hr
      rw [if_neg h9]
      by_cases h10 : c = 10
      · rw [if_pos h10]; exact lc_518 F Ln hF xs _ k hk hL hI hr
      rw [if_neg h10]
      by_cases h11 : c = 11
      · rw [if_pos h11]; exact lc_551 F Ln hF xs _ k hk hL hI hr
      rw [if_neg h11]
      by_cases h12 : c = 12
      · rw [if_pos h12]; exact lc_584 F Ln hF xs _ k hk hL hI hr
      rw [if_neg h12]
      by_cases h13 : c = 13
      · rw [if_pos h13]; exact lc_607 F Ln hF xs _ k hk hL hI hr
      rw [if_neg h13]
      by_cases h14 : c = 14
      · rw [if_pos h14]; exact lc_660 F Ln hF xs _ k hk hL hI hr
      rw [if_neg h14]
      by_cases h15 : c = 15
      · rw [if_pos h15]; exact lc_683 F Ln hF xs _ k hk hL hI hr
      rw [if_neg h15]
      by_cases h16 : c = 16
      · rw [if_pos h16]; exact lc_706 F Ln hF xs _ k hk hL hI hr
      rw [if_neg h16]
      by_cases h17 : c = 17
      · rw [if_pos h17]; exact lc_739 F Ln hF xs _ k hk hL hI hr
      rw [if_neg h17]
      by_cases h18 : c = 18
      · rw [if_pos h18]; exact lc_772 F Ln hF xs _ k hk hL hI hr
      rw [if_neg h18]
      by_cases h19 : c = 19
      · rw [if_pos h19]; exact lc_805 F Ln hF xs _ k hk hL hI hr
      rw [if_neg h19]
      by_cases h20 : c = 20
      · rw [if_pos h20]; exact lc_828 F Ln hF xs _ k hk hL hI hr
      rw [if_neg h20]
      by_cases h21 : c = 21
      · rw [if_pos h21]; exact lc_851 F Ln hF xs _ k hk hL hI hr
      rw [if_neg h21]
      by_cases h22 : c = 22
      · rw [if_pos h22]; exact lc_874 F Ln hF xs _ k hk hL hI hr
      rw [if_neg h22]
      by_cases h23 : c = 23
      · rw [if_pos h23]; exact lc_907 F Ln hF xs _ k hk hL hI hr
      rw [if_neg h23]
      by_cases h24 : c = 24
      · rw [if_pos h24]; exact lc_950 F Ln hF xs _ k hk hL hI hr
      rw [if_neg h24]
      by_cases h25 : c = 25
      · rw [if_pos h25]; exact lc_1003 F Ln hF xs _ k hk hL hI hr
      rw [if_neg h25]
      by_cases h26 : c = 26
      · rw [if_pos h26]; exact lc_1046 F Ln hF xs _ k hk hL hI hr
      rw [if_neg h26]
      by_cases h27 : c = 27
      · rw [if_pos h27]; exact lc_1079 F Ln hF xs _ k hk hL hI hr
      rw [if_neg h27]
      by_cases h28 : c = 28
      · rw [if_pos h28]; exact lc_1092 F Ln hF xs _ k hk hL hI hr
      rw [if_neg h28]
      by_cases h29 : c = 29
      · rw [if_pos h29]; exact lc_1135 F Ln hF xs _ k hk hL hI hr
      rw [if_neg h29]
      by_cases h30 : c = 30
      · rw [if_pos h30]; exact lc_1158 F Ln hF xs _ k hk hL hI hr
      rw [if_neg h30]
      by_cases h31 : c = 31
      · rw [if_pos h31]; exact lc_1181 F Ln hF xs _ k hk hL hI hr
      rw [if_neg h31]
      by_cases h32 : c = 32
      · rw [if_pos h32]; exact lc_1224 F Ln hF xs _ k hk hL hI hr
      rw [if_neg h32]
      by_cases h33 : c = 33
      · rw [if_pos h33]; exact lc_1237 F Ln hF xs _ k hk hL hI hr
      rw [if_neg h33]
      by_cases h34 : c = 34
      · rw [if_pos h34]; exact lc_1276 F Ln hF xs _ k hk hL hI hr
      rw [if_neg h34]
      rw [if_neg (fun h => h rfl)]; exact hd
theorem nd_pureF (F : Nat) (hF : 300000 ≤ F) (Ln : Nat) (xs : Nat → Int32) (hL : Ln ≤ 3072) : ∃ z, f_law F Ln xs (fun _ _ => 0) = some z := by
  obtain ⟨r, s, τ, ρ, e1, e2, hI, h0⟩ := law_init hF
  obtain ⟨z, hz⟩ := law_18 hF xs hL F 0 ρ 0 (by omega) (by omega) hI
  refine ⟨z, ?_⟩
  unfold f_law nd_let
  dsimp only
  rw [e1, n_bind, e2, n_bind, if_neg (by rw [h0]; exact fun h => h rfl)]
  exact hz
theorem nd_pure : nd_Pure := fun Ln xs hL => ⟨300000, nd_pureF 300000 (Nat.le_refl _) Ln xs hL⟩
