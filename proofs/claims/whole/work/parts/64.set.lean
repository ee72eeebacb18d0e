/-! set -/
theorem e_hou {F : Nat} {τ : nd_Mem} {n : Nat} (h6 : τ 60 6 = nI n) (h16 : n ≤ 16) (h : Nat) (hh : h < n) : f_X11_isHouse F (nI h) τ = some (1, τ) := by
  rw [e_isHouse, h6, if_neg]
  rintro (e | e)
  · exact nI_pos (by omega) e
  · exact nI_ge hh (by omega) e
theorem e_hou0 {F : Nat} {τ : nd_Mem} {n : Nat} (h6 : τ 60 6 = nI n) {x : Int32} (h : x < 0 ∨ nI n ≤ x) : f_X11_isHouse F x τ = some (0, τ) := by
  rw [e_isHouse, h6, if_pos h]
theorem set_0 {F : Nat} {σ : nd_Mem} {n h : Nat} {v : Int32} (hI : iv_I n σ) (hh : h < n) (b1 : ¬ v < 0) (b2 : ¬ 9 < v) : ∃ (r : Int32) (τ ρ : nd_Mem) (n' : Nat), f_X10_set F 0 (nI h) v σ = some (r, τ) ∧ f_X11_set F 0 (nI h) v τ = some (r, ρ) ∧ iv_I n' ρ ∧ ρ 0 10 = σ 0 10 := by
  obtain ⟨⟨hn, hq1, hq2, hq3, hq4, hq5, hq6, hq7, hq8, hla, hpl, hfd, hsd⟩, hpa, htp, hpi, hfx⟩ := id hI
  obtain ⟨s1, s3, s4, s5, s6, s7, s8, s9, s10, s11, s12⟩ := id hq7
  obtain ⟨m, x, m1, m2, m3, m4, m5, m6⟩ := id hpa
  have bb : 0 ≤ v ∧ v ≤ 9 := ⟨Int32.not_lt.mp b1, Int32.not_lt.mp b2⟩
  have b3 : ¬ (v < 0 ∨ 9 < v) := not_or.mpr ⟨b1, b2⟩
  have h16 := hn.1
  have e1 : f_X10_set F 0 (nI h) v σ = some (1, nd_up (nd_up σ 2 (h * 6) v) 24 1 0) := by
    unfold f_X10_set f_X6_has f_X1_forget
    rw [if_neg (nI_pos (by omega)), s1, if_neg (nI_ge hh (by omega)), n_bind, if_neg (by decide), e_canBe0, if_neg b3, n_bind, if_neg (by decide), e_put0 s1 hh h16]
    rfl
  have e2 : ∀ τ : nd_Mem, τ 60 6 = nI n → f_X11_set F 0 (nI h) v τ = some (1, nd_up (nd_up (nd_up τ 60 0 0) 61 (7 + h) v) 60 3 0) := by
    intro τ h6
    have h6' : nd_up τ 60 0 0 60 6 = nI n := h6
    unfold f_X11_set f_X11_set_48 f_X11_set_70 f_X11_set_85 f_X11_set_100 f_X11_set_115 f_X11_set_130 nd_let
    dsimp only
    simp only [e_isIn, n_bind, e_hou h6' h16 h hh, if_neg b3]
    simp (disch := omega) only [n_lit, n_add, n_mul, n_sub, n_lt, n_le, n_eq, n_cl, n_nle, n_yle, n_nlt, n_ylt, n_neq, n_m1, n_m1l, n_m1g, n_bind, u_eq, u_ne1, u_ne2, w_eq, w_ne, eq_self, nd_let, ite_true, ite_false, if_true, if_false, false_or, or_false, true_and, and_true, not_true, not_false, true_or, or_true, Nat.not_lt_zero, Nat.zero_le]
  have hf : fr_ [2, 24, 61] [0, 3] σ (nd_up (nd_up (nd_up (nd_up (nd_up σ 2 (h * 6) v) 24 1 0) 60 0 0) 61 (7 + h) v) 60 3 0) := (by repeat first | exact fr_rf | (refine fr_up57 ?_ (by decide)) | (refine fr_up ?_ (by decide) (by decide)) | (refine fr_row ?_ (by decide) (by decide)))
  refine ⟨1, _, _, n, e1, e2 _ hn.2, ⟨⟨c_hn (fr_use hf (by decide)) hn, c_hq1 (fr_use hf (by decide)) hq1, c_hq2 (fr_use hf (by decide)) hq2, c_hq3 (fr_use hf (by decide)) hq3, c_hq4 (fr_use hf (by decide)) hq4, c_hq5 (fr_use hf (by decide)) hq5, c_hq6 (fr_use hf (by decide)) hq6, ?_, c_hq8 (fr_use hf (by decide)) hq8, c_hla (fr_use hf (by decide)) hla, c_hpl (fr_use hf (by decide)) hpl, c_hfd (fr_use hf (by decide)) hfd, c_hsd (fr_use hf (by decide)) hsd⟩, past_0 rfl rfl m2 m5, c_htp (fr_use hf (by decide)) htp, c_hpi (fr_use hf (by decide)) hpi, c_hfx (fr_use hf (by decide)) hfx⟩, congrFun (hf.1 0 (by decide) (by decide)) 10⟩
  refine ⟨by simp (disch := omega) only [u_eq, u_ne1, u_ne2, w_eq, w_ne, n_neq, eq_self, ite_true, ite_false, if_true, if_false]; exact s1, by simp (disch := omega) only [u_eq, u_ne1, u_ne2, w_eq, w_ne, n_neq, eq_self, ite_true, ite_false, if_true, if_false]; exact s3, by simp (disch := omega) only [u_eq, u_ne1, u_ne2, w_eq, w_ne, n_neq, eq_self, ite_true, ite_false, if_true, if_false]; exact s4, by simp (disch := omega) only [u_eq, u_ne1, u_ne2, w_eq, w_ne, n_neq, eq_self, ite_true, ite_false, if_true, if_false]; exact s5, by simp (disch := omega) only [u_eq, u_ne1, u_ne2, w_eq, w_ne, n_neq, eq_self, ite_true, ite_false, if_true, if_false]; exact s6, by simp (disch := omega) only [u_eq, u_ne1, u_ne2, w_eq, w_ne, n_neq, eq_self, ite_true, ite_false, if_true, if_false]; exact s7, by simp (disch := omega) only [u_eq, u_ne1, u_ne2, w_eq, w_ne, n_neq, eq_self, ite_true, ite_false, if_true, if_false]; exact s8, by simp (disch := omega) only [u_eq, u_ne1, u_ne2, w_eq, w_ne, n_neq, eq_self, ite_true, ite_false, if_true, if_false]; exact s9, fun e => absurd e (by omega), fun _ => by simp (disch := omega) only [u_eq, u_ne1, u_ne2, w_eq, w_ne, n_neq, eq_self, ite_true, ite_false, if_true, if_false]; exact s11 (by omega), fun i hi => ?_⟩
  obtain ⟨a0, a1, a2, a3, a4, a5⟩ := s12 i hi
  by_cases hih : i = h
  · subst hih
    simp (disch := omega) only [u_eq, u_ne1, u_ne2, w_eq, w_ne, n_neq, eq_self, ite_true, ite_false, if_true, if_false]
    exact ⟨⟨trivial, bb⟩, a1, a2, a3, a4, a5⟩
  · simp (disch := omega) only [u_eq, u_ne1, u_ne2, w_eq, w_ne, n_neq, eq_self, ite_true, ite_false, if_true, if_false]
    exact ⟨a0, a1, a2, a3, a4, a5⟩
theorem set_1 {F : Nat} {σ : nd_Mem} {n h : Nat} {v : Int32} (hI : iv_I n σ) (hh : h < n) (b1 : ¬ v < 0) (b2 : ¬ 9 < v) : ∃ (r : Int32) (τ ρ : nd_Mem) (n' : Nat), f_X10_set F 1 (nI h) v σ = some (r, τ) ∧ f_X11_set F 1 (nI h) v τ = some (r, ρ) ∧ iv_I n' ρ ∧ ρ 0 10 = σ 0 10 := by
  obtain ⟨⟨hn, hq1, hq2, hq3, hq4, hq5, hq6, hq7, hq8, hla, hpl, hfd, hsd⟩, hpa, htp, hpi, hfx⟩ := id hI
  obtain ⟨s1, s3, s4, s5, s6, s7, s8, s9, s10, s11, s12⟩ := id hq7
  obtain ⟨m, x, m1, m2, m3, m4, m5, m6⟩ := id hpa
  have bb : 0 ≤ v ∧ v ≤ 9 := ⟨Int32.not_lt.mp b1, Int32.not_lt.mp b2⟩
  have b3 : ¬ (v < 0 ∨ 9 < v) := not_or.mpr ⟨b1, b2⟩
  have h16 := hn.1
  have e1 : f_X10_set F 1 (nI h) v σ = some (1, nd_up (nd_up σ 2 (h * 6 + 1) v) 24 1 0) := by
    unfold f_X10_set f_X6_has f_X1_forget
    rw [if_neg (nI_pos (by omega)), s1, if_neg (nI_ge hh (by omega)), n_bind, if_neg (by decide), e_canBe1, if_neg b3, n_bind, if_neg (by decide), e_put1 s1 hh h16]
    rfl
  have e2 : ∀ τ : nd_Mem, τ 60 6 = nI n → f_X11_set F 1 (nI h) v τ = some (1, nd_up (nd_up (nd_up τ 60 0 0) 61 (23 + h) v) 60 3 0) := by
    intro τ h6
    have h6' : nd_up τ 60 0 0 60 6 = nI n := h6
    unfold f_X11_set f_X11_set_48 f_X11_set_70 f_X11_set_85 f_X11_set_100 f_X11_set_115 f_X11_set_130 nd_let
    dsimp only
    simp only [e_isIn, n_bind, e_hou h6' h16 h hh, if_neg b3]
    simp (disch := omega) only [n_lit, n_add, n_mul, n_sub, n_lt, n_le, n_eq, n_cl, n_nle, n_yle, n_nlt, n_ylt, n_neq, n_m1, n_m1l, n_m1g, n_bind, u_eq, u_ne1, u_ne2, w_eq, w_ne, eq_self, nd_let, ite_true, ite_false, if_true, if_false, false_or, or_false, true_and, and_true, not_true, not_false, true_or, or_true, Nat.not_lt_zero, Nat.zero_le]
  have hf : fr_ [2, 24, 61] [0, 3] σ (nd_up (nd_up (nd_up (nd_up (nd_up σ 2 (h * 6 + 1) v) 24 1 0) 60 0 0) 61 (23 + h) v) 60 3 0) := (by repeat first | exact fr_rf | (refine fr_up57 ?_ (by decide)) | (refine fr_up ?_ (by decide) (by decide)) | (refine fr_row ?_ (by decide) (by decide)))
  refine ⟨1, _, _, n, e1, e2 _ hn.2, ⟨⟨c_hn (fr_use hf (by decide)) hn, c_hq1 (fr_use hf (by decide)) hq1, c_hq2 (fr_use hf (by decide)) hq2, c_hq3 (fr_use hf (by decide)) hq3, c_hq4 (fr_use hf (by decide)) hq4, c_hq5 (fr_use hf (by decide)) hq5, c_hq6 (fr_use hf (by decide)) hq6, ?_, c_hq8 (fr_use hf (by decide)) hq8, c_hla (fr_use hf (by decide)) hla, c_hpl (fr_use hf (by decide)) hpl, c_hfd (fr_use hf (by decide)) hfd, c_hsd (fr_use hf (by decide)) hsd⟩, past_0 rfl rfl m2 m5, c_htp (fr_use hf (by decide)) htp, c_hpi (fr_use hf (by decide)) hpi, c_hfx (fr_use hf (by decide)) hfx⟩, congrFun (hf.1 0 (by decide) (by decide)) 10⟩
  refine ⟨by simp (disch := omega) only [u_eq, u_ne1, u_ne2, w_eq, w_ne, n_neq, eq_self, ite_true, ite_false, if_true, if_false]; exact s1, by simp (disch := omega) only [u_eq, u_ne1, u_ne2, w_eq, w_ne, n_neq, eq_self, ite_true, ite_false, if_true, if_false]; exact s3, by simp (disch := omega) only [u_eq, u_ne1, u_ne2, w_eq, w_ne, n_neq, eq_self, ite_true, ite_false, if_true, if_false]; exact s4, by simp (disch := omega) only [u_eq, u_ne1, u_ne2, w_eq, w_ne, n_neq, eq_self, ite_true, ite_false, if_true, if_false]; exact s5, by simp (disch := omega) only [u_eq, u_ne1, u_ne2, w_eq, w_ne, n_neq, eq_self, ite_true, ite_false, if_true, if_false]; exact s6, by simp (disch := omega) only [u_eq, u_ne1, u_ne2, w_eq, w_ne, n_neq, eq_self, ite_true, ite_false, if_true, if_false]; exact s7, by simp (disch := omega) only [u_eq, u_ne1, u_ne2, w_eq, w_ne, n_neq, eq_self, ite_true, ite_false, if_true, if_false]; exact s8, by simp (disch := omega) only [u_eq, u_ne1, u_ne2, w_eq, w_ne, n_neq, eq_self, ite_true, ite_false, if_true, if_false]; exact s9, fun e => absurd e (by omega), fun _ => by simp (disch := omega) only [u_eq, u_ne1, u_ne2, w_eq, w_ne, n_neq, eq_self, ite_true, ite_false, if_true, if_false]; exact s11 (by omega), fun i hi => ?_⟩
  obtain ⟨a0, a1, a2, a3, a4, a5⟩ := s12 i hi
  by_cases hih : i = h
  · subst hih
    simp (disch := omega) only [u_eq, u_ne1, u_ne2, w_eq, w_ne, n_neq, eq_self, ite_true, ite_false, if_true, if_false]
    exact ⟨a0, ⟨trivial, bb⟩, a2, a3, a4, a5⟩
  · simp (disch := omega) only [u_eq, u_ne1, u_ne2, w_eq, w_ne, n_neq, eq_self, ite_true, ite_false, if_true, if_false]
    exact ⟨a0, a1, a2, a3, a4, a5⟩
theorem set_2 {F : Nat} {σ : nd_Mem} {n h : Nat} {v : Int32} (hI : iv_I n σ) (hh : h < n) (b1 : ¬ v < 0) (b2 : ¬ 9999 < v) : ∃ (r : Int32) (τ ρ : nd_Mem) (n' : Nat), f_X10_set F 2 (nI h) v σ = some (r, τ) ∧ f_X11_set F 2 (nI h) v τ = some (r, ρ) ∧ iv_I n' ρ ∧ ρ 0 10 = σ 0 10 := by
  obtain ⟨⟨hn, hq1, hq2, hq3, hq4, hq5, hq6, hq7, hq8, hla, hpl, hfd, hsd⟩, hpa, htp, hpi, hfx⟩ := id hI
  obtain ⟨s1, s3, s4, s5, s6, s7, s8, s9, s10, s11, s12⟩ := id hq7
  obtain ⟨m, x, m1, m2, m3, m4, m5, m6⟩ := id hpa
  have bb : 0 ≤ v ∧ v ≤ 9999 := ⟨Int32.not_lt.mp b1, Int32.not_lt.mp b2⟩
  have b3 : ¬ (v < 0 ∨ 9999 < v) := not_or.mpr ⟨b1, b2⟩
  have h16 := hn.1
  have e1 : f_X10_set F 2 (nI h) v σ = some (1, nd_up (nd_up σ 2 (h * 6 + 2) v) 24 1 0) := by
    unfold f_X10_set f_X6_has f_X1_forget
    rw [if_neg (nI_pos (by omega)), s1, if_neg (nI_ge hh (by omega)), n_bind, if_neg (by decide), e_canBe2, if_neg b3, n_bind, if_neg (by decide), e_put2 s1 hh h16]
    rfl
  have e2 : ∀ τ : nd_Mem, τ 60 6 = nI n → f_X11_set F 2 (nI h) v τ = some (1, nd_up (nd_up (nd_up τ 60 0 0) 61 (55 + h) v) 60 3 0) := by
    intro τ h6
    have h6' : nd_up τ 60 0 0 60 6 = nI n := h6
    unfold f_X11_set f_X11_set_48 f_X11_set_70 f_X11_set_85 f_X11_set_100 f_X11_set_115 f_X11_set_130 nd_let
    dsimp only
    simp only [e_isIn, n_bind, e_hou h6' h16 h hh, if_neg b3]
    simp (disch := omega) only [n_lit, n_add, n_mul, n_sub, n_lt, n_le, n_eq, n_cl, n_nle, n_yle, n_nlt, n_ylt, n_neq, n_m1, n_m1l, n_m1g, n_bind, u_eq, u_ne1, u_ne2, w_eq, w_ne, eq_self, nd_let, ite_true, ite_false, if_true, if_false, false_or, or_false, true_and, and_true, not_true, not_false, true_or, or_true, Nat.not_lt_zero, Nat.zero_le]
  have hf : fr_ [2, 24, 61] [0, 3] σ (nd_up (nd_up (nd_up (nd_up (nd_up σ 2 (h * 6 + 2) v) 24 1 0) 60 0 0) 61 (55 + h) v) 60 3 0) := (by repeat first | exact fr_rf | (refine fr_up57 ?_ (by decide)) | (refine fr_up ?_ (by decide) (by decide)) | (refine fr_row ?_ (by decide) (by decide)))
  refine ⟨1, _, _, n, e1, e2 _ hn.2, ⟨⟨c_hn (fr_use hf (by decide)) hn, c_hq1 (fr_use hf (by decide)) hq1, c_hq2 (fr_use hf (by decide)) hq2, c_hq3 (fr_use hf (by decide)) hq3, c_hq4 (fr_use hf (by decide)) hq4, c_hq5 (fr_use hf (by decide)) hq5, c_hq6 (fr_use hf (by decide)) hq6, ?_, c_hq8 (fr_use hf (by decide)) hq8, c_hla (fr_use hf (by decide)) hla, c_hpl (fr_use hf (by decide)) hpl, c_hfd (fr_use hf (by decide)) hfd, c_hsd (fr_use hf (by decide)) hsd⟩, past_0 rfl rfl m2 m5, c_htp (fr_use hf (by decide)) htp, c_hpi (fr_use hf (by decide)) hpi, c_hfx (fr_use hf (by decide)) hfx⟩, congrFun (hf.1 0 (by decide) (by decide)) 10⟩
  refine ⟨by simp (disch := omega) only [u_eq, u_ne1, u_ne2, w_eq, w_ne, n_neq, eq_self, ite_true, ite_false, if_true, if_false]; exact s1, by simp (disch := omega) only [u_eq, u_ne1, u_ne2, w_eq, w_ne, n_neq, eq_self, ite_true, ite_false, if_true, if_false]; exact s3, by simp (disch := omega) only [u_eq, u_ne1, u_ne2, w_eq, w_ne, n_neq, eq_self, ite_true, ite_false, if_true, if_false]; exact s4, by simp (disch := omega) only [u_eq, u_ne1, u_ne2, w_eq, w_ne, n_neq, eq_self, ite_true, ite_false, if_true, if_false]; exact s5, by simp (disch := omega) only [u_eq, u_ne1, u_ne2, w_eq, w_ne, n_neq, eq_self, ite_true, ite_false, if_true, if_false]; exact s6, by simp (disch := omega) only [u_eq, u_ne1, u_ne2, w_eq, w_ne, n_neq, eq_self, ite_true, ite_false, if_true, if_false]; exact s7, by simp (disch := omega) only [u_eq, u_ne1, u_ne2, w_eq, w_ne, n_neq, eq_self, ite_true, ite_false, if_true, if_false]; exact s8, by simp (disch := omega) only [u_eq, u_ne1, u_ne2, w_eq, w_ne, n_neq, eq_self, ite_true, ite_false, if_true, if_false]; exact s9, fun e => absurd e (by omega), fun _ => by simp (disch := omega) only [u_eq, u_ne1, u_ne2, w_eq, w_ne, n_neq, eq_self, ite_true, ite_false, if_true, if_false]; exact s11 (by omega), fun i hi => ?_⟩
  obtain ⟨a0, a1, a2, a3, a4, a5⟩ := s12 i hi
  by_cases hih : i = h
  · subst hih
    simp (disch := omega) only [u_eq, u_ne1, u_ne2, w_eq, w_ne, n_neq, eq_self, ite_true, ite_false, if_true, if_false]
    exact ⟨a0, a1, ⟨trivial, bb⟩, a3, a4, a5⟩
  · simp (disch := omega) only [u_eq, u_ne1, u_ne2, w_eq, w_ne, n_neq, eq_self, ite_true, ite_false, if_true, if_false]
    exact ⟨a0, a1, a2, a3, a4, a5⟩
theorem set_3 {F : Nat} {σ : nd_Mem} {n h : Nat} {v : Int32} (hI : iv_I n σ) (hh : h < n) (b1 : ¬ v < 0) (b2 : ¬ 9 < v) : ∃ (r : Int32) (τ ρ : nd_Mem) (n' : Nat), f_X10_set F 3 (nI h) v σ = some (r, τ) ∧ f_X11_set F 3 (nI h) v τ = some (r, ρ) ∧ iv_I n' ρ ∧ ρ 0 10 = σ 0 10 := by
  obtain ⟨⟨hn, hq1, hq2, hq3, hq4, hq5, hq6, hq7, hq8, hla, hpl, hfd, hsd⟩, hpa, htp, hpi, hfx⟩ := id hI
  obtain ⟨s1, s3, s4, s5, s6, s7, s8, s9, s10, s11, s12⟩ := id hq7
  obtain ⟨m, x, m1, m2, m3, m4, m5, m6⟩ := id hpa
  have bb : 0 ≤ v ∧ v ≤ 9 := ⟨Int32.not_lt.mp b1, Int32.not_lt.mp b2⟩
  have b3 : ¬ (v < 0 ∨ 9 < v) := not_or.mpr ⟨b1, b2⟩
  have h16 := hn.1
  have e1 : f_X10_set F 3 (nI h) v σ = some (1, nd_up (nd_up σ 2 (h * 6 + 3) v) 24 1 0) := by
    unfold f_X10_set f_X6_has f_X1_forget
    rw [if_neg (nI_pos (by omega)), s1, if_neg (nI_ge hh (by omega)), n_bind, if_neg (by decide), e_canBe3, if_neg b3, n_bind, if_neg (by decide), e_put3 s1 hh h16]
    rfl
  have e2 : ∀ τ : nd_Mem, τ 60 6 = nI n → f_X11_set F 3 (nI h) v τ = some (1, nd_up (nd_up (nd_up τ 60 0 0) 61 (39 + h) v) 60 3 0) := by
    intro τ h6
    have h6' : nd_up τ 60 0 0 60 6 = nI n := h6
    unfold f_X11_set f_X11_set_48 f_X11_set_70 f_X11_set_85 f_X11_set_100 f_X11_set_115 f_X11_set_130 nd_let
    dsimp only
    simp only [e_isIn, n_bind, e_hou h6' h16 h hh, if_neg b3]
    simp (disch := omega) only [n_lit, n_add, n_mul, n_sub, n_lt, n_le, n_eq, n_cl, n_nle, n_yle, n_nlt, n_ylt, n_neq, n_m1, n_m1l, n_m1g, n_bind, u_eq, u_ne1, u_ne2, w_eq, w_ne, eq_self, nd_let, ite_true, ite_false, if_true, if_false, false_or, or_false, true_and, and_true, not_true, not_false, true_or, or_true, Nat.not_lt_zero, Nat.zero_le]
  have hf : fr_ [2, 24, 61] [0, 3] σ (nd_up (nd_up (nd_up (nd_up (nd_up σ 2 (h * 6 + 3) v) 24 1 0) 60 0 0) 61 (39 + h) v) 60 3 0) := (by repeat first | exact fr_rf | (refine fr_up57 ?_ (by decide)) | (refine fr_up ?_ (by decide) (by decide)) | (refine fr_row ?_ (by decide) (by decide)))
  refine ⟨1, _, _, n, e1, e2 _ hn.2, ⟨⟨c_hn (fr_use hf (by decide)) hn, c_hq1 (fr_use hf (by decide)) hq1, c_hq2 (fr_use hf (by decide)) hq2, c_hq3 (fr_use hf (by decide)) hq3, c_hq4 (fr_use hf (by decide)) hq4, c_hq5 (fr_use hf (by decide)) hq5, c_hq6 (fr_use hf (by decide)) hq6, ?_, c_hq8 (fr_use hf (by decide)) hq8, c_hla (fr_use hf (by decide)) hla, c_hpl (fr_use hf (by decide)) hpl, c_hfd (fr_use hf (by decide)) hfd, c_hsd (fr_use hf (by decide)) hsd⟩, past_0 rfl rfl m2 m5, c_htp (fr_use hf (by decide)) htp, c_hpi (fr_use hf (by decide)) hpi, c_hfx (fr_use hf (by decide)) hfx⟩, congrFun (hf.1 0 (by decide) (by decide)) 10⟩
  refine ⟨by simp (disch := omega) only [u_eq, u_ne1, u_ne2, w_eq, w_ne, n_neq, eq_self, ite_true, ite_false, if_true, if_false]; exact s1, by simp (disch := omega) only [u_eq, u_ne1, u_ne2, w_eq, w_ne, n_neq, eq_self, ite_true, ite_false, if_true, if_false]; exact s3, by simp (disch := omega) only [u_eq, u_ne1, u_ne2, w_eq, w_ne, n_neq, eq_self, ite_true, ite_false, if_true, if_false]; exact s4, by simp (disch := omega) only [u_eq, u_ne1, u_ne2, w_eq, w_ne, n_neq, eq_self, ite_true, ite_false, if_true, if_false]; exact s5, by simp (disch := omega) only [u_eq, u_ne1, u_ne2, w_eq, w_ne, n_neq, eq_self, ite_true, ite_false, if_true, if_false]; exact s6, by simp (disch := omega) only [u_eq, u_ne1, u_ne2, w_eq, w_ne, n_neq, eq_self, ite_true, ite_false, if_true, if_false]; exact s7, by simp (disch := omega) only [u_eq, u_ne1, u_ne2, w_eq, w_ne, n_neq, eq_self, ite_true, ite_false, if_true, if_false]; exact s8, by simp (disch := omega) only [u_eq, u_ne1, u_ne2, w_eq, w_ne, n_neq, eq_self, ite_true, ite_false, if_true, if_false]; exact s9, fun e => absurd e (by omega), fun _ => by simp (disch := omega) only [u_eq, u_ne1, u_ne2, w_eq, w_ne, n_neq, eq_self, ite_true, ite_false, if_true, if_false]; exact s11 (by omega), fun i hi => ?_⟩
  obtain ⟨a0, a1, a2, a3, a4, a5⟩ := s12 i hi
  by_cases hih : i = h
  · subst hih
    simp (disch := omega) only [u_eq, u_ne1, u_ne2, w_eq, w_ne, n_neq, eq_self, ite_true, ite_false, if_true, if_false]
    exact ⟨a0, a1, a2, ⟨trivial, bb⟩, a4, a5⟩
  · simp (disch := omega) only [u_eq, u_ne1, u_ne2, w_eq, w_ne, n_neq, eq_self, ite_true, ite_false, if_true, if_false]
    exact ⟨a0, a1, a2, a3, a4, a5⟩
theorem set_4 {F : Nat} {σ : nd_Mem} {n h : Nat} {v : Int32} (hI : iv_I n σ) (hh : h < n) (b1 : ¬ v < 0) (b2 : ¬ 1 < v) : ∃ (r : Int32) (τ ρ : nd_Mem) (n' : Nat), f_X10_set F 4 (nI h) v σ = some (r, τ) ∧ f_X11_set F 4 (nI h) v τ = some (r, ρ) ∧ iv_I n' ρ ∧ ρ 0 10 = σ 0 10 := by
  obtain ⟨⟨hn, hq1, hq2, hq3, hq4, hq5, hq6, hq7, hq8, hla, hpl, hfd, hsd⟩, hpa, htp, hpi, hfx⟩ := id hI
  obtain ⟨s1, s3, s4, s5, s6, s7, s8, s9, s10, s11, s12⟩ := id hq7
  obtain ⟨m, x, m1, m2, m3, m4, m5, m6⟩ := id hpa
  have bb : 0 ≤ v ∧ v ≤ 1 := ⟨Int32.not_lt.mp b1, Int32.not_lt.mp b2⟩
  have b3 : ¬ (v < 0 ∨ 1 < v) := not_or.mpr ⟨b1, b2⟩
  have h16 := hn.1
  have e1 : f_X10_set F 4 (nI h) v σ = some (1, nd_up (nd_up σ 2 (h * 6 + 4) v) 24 1 0) := by
    unfold f_X10_set f_X6_has f_X1_forget
    rw [if_neg (nI_pos (by omega)), s1, if_neg (nI_ge hh (by omega)), n_bind, if_neg (by decide), e_canBe4, if_neg b3, n_bind, if_neg (by decide), e_put4 s1 hh h16]
    rfl
  have e2 : ∀ τ : nd_Mem, τ 60 6 = nI n → f_X11_set F 4 (nI h) v τ = some (1, nd_up (nd_up (nd_up τ 60 0 0) 61 (87 + h) v) 60 3 0) := by
    intro τ h6
    have h6' : nd_up τ 60 0 0 60 6 = nI n := h6
    unfold f_X11_set f_X11_set_48 f_X11_set_70 f_X11_set_85 f_X11_set_100 f_X11_set_115 f_X11_set_130 nd_let
    dsimp only
    simp only [e_isIn, n_bind, e_hou h6' h16 h hh, if_neg b3]
    simp (disch := omega) only [n_lit, n_add, n_mul, n_sub, n_lt, n_le, n_eq, n_cl, n_nle, n_yle, n_nlt, n_ylt, n_neq, n_m1, n_m1l, n_m1g, n_bind, u_eq, u_ne1, u_ne2, w_eq, w_ne, eq_self, nd_let, ite_true, ite_false, if_true, if_false, false_or, or_false, true_and, and_true, not_true, not_false, true_or, or_true, Nat.not_lt_zero, Nat.zero_le]
  have hf : fr_ [2, 24, 61] [0, 3] σ (nd_up (nd_up (nd_up (nd_up (nd_up σ 2 (h * 6 + 4) v) 24 1 0) 60 0 0) 61 (87 + h) v) 60 3 0) := (by repeat first | exact fr_rf | (refine fr_up57 ?_ (by decide)) | (refine fr_up ?_ (by decide) (by decide)) | (refine fr_row ?_ (by decide) (by decide)))
  refine ⟨1, _, _, n, e1, e2 _ hn.2, ⟨⟨c_hn (fr_use hf (by decide)) hn, c_hq1 (fr_use hf (by decide)) hq1, c_hq2 (fr_use hf (by decide)) hq2, c_hq3 (fr_use hf (by decide)) hq3, c_hq4 (fr_use hf (by decide)) hq4, c_hq5 (fr_use hf (by decide)) hq5, c_hq6 (fr_use hf (by decide)) hq6, ?_, c_hq8 (fr_use hf (by decide)) hq8, c_hla (fr_use hf (by decide)) hla, c_hpl (fr_use hf (by decide)) hpl, c_hfd (fr_use hf (by decide)) hfd, c_hsd (fr_use hf (by decide)) hsd⟩, past_0 rfl rfl m2 m5, c_htp (fr_use hf (by decide)) htp, c_hpi (fr_use hf (by decide)) hpi, c_hfx (fr_use hf (by decide)) hfx⟩, congrFun (hf.1 0 (by decide) (by decide)) 10⟩
  refine ⟨by simp (disch := omega) only [u_eq, u_ne1, u_ne2, w_eq, w_ne, n_neq, eq_self, ite_true, ite_false, if_true, if_false]; exact s1, by simp (disch := omega) only [u_eq, u_ne1, u_ne2, w_eq, w_ne, n_neq, eq_self, ite_true, ite_false, if_true, if_false]; exact s3, by simp (disch := omega) only [u_eq, u_ne1, u_ne2, w_eq, w_ne, n_neq, eq_self, ite_true, ite_false, if_true, if_false]; exact s4, by simp (disch := omega) only [u_eq, u_ne1, u_ne2, w_eq, w_ne, n_neq, eq_self, ite_true, ite_false, if_true, if_false]; exact s5, by simp (disch := omega) only [u_eq, u_ne1, u_ne2, w_eq, w_ne, n_neq, eq_self, ite_true, ite_false, if_true, if_false]; exact s6, by simp (disch := omega) only [u_eq, u_ne1, u_ne2, w_eq, w_ne, n_neq, eq_self, ite_true, ite_false, if_true, if_false]; exact s7, by simp (disch := omega) only [u_eq, u_ne1, u_ne2, w_eq, w_ne, n_neq, eq_self, ite_true, ite_false, if_true, if_false]; exact s8, by simp (disch := omega) only [u_eq, u_ne1, u_ne2, w_eq, w_ne, n_neq, eq_self, ite_true, ite_false, if_true, if_false]; exact s9, fun e => absurd e (by omega), fun _ => by simp (disch := omega) only [u_eq, u_ne1, u_ne2, w_eq, w_ne, n_neq, eq_self, ite_true, ite_false, if_true, if_false]; exact s11 (by omega), fun i hi => ?_⟩
  obtain ⟨a0, a1, a2, a3, a4, a5⟩ := s12 i hi
  by_cases hih : i = h
  · subst hih
    simp (disch := omega) only [u_eq, u_ne1, u_ne2, w_eq, w_ne, n_neq, eq_self, ite_true, ite_false, if_true, if_false]
    exact ⟨a0, a1, a2, a3, ⟨trivial, bb⟩, a5⟩
  · simp (disch := omega) only [u_eq, u_ne1, u_ne2, w_eq, w_ne, n_neq, eq_self, ite_true, ite_false, if_true, if_false]
    exact ⟨a0, a1, a2, a3, a4, a5⟩
theorem op_set {F : Nat} (hF : 300000 ≤ F) (x1 x2 x3 : Int32) : op_ (f_X10_set F x1 x2 x3) (f_X11_set F x1 x2 x3) := by
  intro σ n hI
  obtain ⟨⟨hn, hq1, hq2, hq3, hq4, hq5, hq6, hq7, hq8, hla, hpl, hfd, hsd⟩, hpa, htp, hpi, hfx⟩ := id hI
  obtain ⟨s1, s3, s4, s5, s6, s7, s8, s9, s10, s11, s12⟩ := id hq7
  have hf0 : fr_ [] [0] σ (nd_up σ 60 0 0) := (by repeat first | exact fr_rf | (refine fr_up57 ?_ (by decide)) | (refine fr_up ?_ (by decide) (by decide)) | (refine fr_row ?_ (by decide) (by decide)))
  have e6 : nd_up σ 60 0 0 60 6 = nI n := hn.2
  rcases e_hasS (F := F) (a := 2) s1 hn.1 x2 with ⟨h, hh, rfl, eh⟩ | ⟨hb, eh⟩
  · have hh6 := e_hou (F := F) e6 hn.1 h hh
    have no : ∀ (hb : f_X10_canBe F x1 x3 σ = some (0, σ)) (hm : f_X11_set F x1 (nI h) x3 σ = some (0, nd_up σ 60 0 0)), ∃ (r : Int32) (τ ρ : nd_Mem) (n' : Nat), f_X10_set F x1 (nI h) x3 σ = some (r, τ) ∧ f_X11_set F x1 (nI h) x3 τ = some (r, ρ) ∧ iv_I n' ρ ∧ ρ 0 10 = σ 0 10 := by
      intro hb hm
      refine ⟨0, σ, nd_up σ 60 0 0, n, ?_, hm, iv_fr hf0 (by decide) hI, rfl⟩
      unfold f_X10_set f_X10_set_19
      rw [eh, n_bind, if_neg (by decide), hb, n_bind, if_pos rfl]
    by_cases c1 : x1 < 0 ∨ 4 < x1
    · apply no
      · unfold f_X10_canBe f_X10_canBe_29
        by_cases d1 : x1 < 0
        · rw [if_pos d1]
        · rw [if_neg d1, if_pos (show 5 ≤ x1 by clear s12 hI; grind)]
      · unfold f_X11_set f_X11_set_54 nd_let
        dsimp only
        rw [e_isIn, n_bind, if_pos c1, if_pos rfl]
    · simp only [not_or] at c1
      obtain ⟨j, hj, rfl⟩ := rng 4 (by decide) c1.1 c1.2
      have hj : j = 0 ∨ j = 1 ∨ j = 2 ∨ j = 3 ∨ j = 4 := by omega
      rcases hj with rfl | rfl | rfl | rfl | rfl
      · by_cases c2 : x3 < 0 ∨ 9 < x3
        · apply no
          · exact (e_canBe0 (F := F) (σ := σ) x3).trans (by rw [if_pos c2])
          · show f_X11_set F 0 (nI h) x3 σ = _
            unfold f_X11_set f_X11_set_48 f_X11_set_54 nd_let
            dsimp only
            simp only [e_isIn, n_bind, hh6, if_pos c2]
            rfl
        · simp only [not_or] at c2
          exact set_0 hI hh c2.1 c2.2
      · by_cases c2 : x3 < 0 ∨ 9 < x3
        · apply no
          · exact (e_canBe1 (F := F) (σ := σ) x3).trans (by rw [if_pos c2])
          · show f_X11_set F 1 (nI h) x3 σ = _
            unfold f_X11_set f_X11_set_48 f_X11_set_54 nd_let
            dsimp only
            simp only [e_isIn, n_bind, hh6, if_pos c2]
            rfl
        · simp only [not_or] at c2
          exact set_1 hI hh c2.1 c2.2
      · by_cases c2 : x3 < 0 ∨ 9999 < x3
        · apply no
          · exact (e_canBe2 (F := F) (σ := σ) x3).trans (by rw [if_pos c2])
          · show f_X11_set F 2 (nI h) x3 σ = _
            unfold f_X11_set f_X11_set_48 f_X11_set_54 nd_let
            dsimp only
            simp only [e_isIn, n_bind, hh6, if_pos c2]
            rfl
        · simp only [not_or] at c2
          exact set_2 hI hh c2.1 c2.2
      · by_cases c2 : x3 < 0 ∨ 9 < x3
        · apply no
          · exact (e_canBe3 (F := F) (σ := σ) x3).trans (by rw [if_pos c2])
          · show f_X11_set F 3 (nI h) x3 σ = _
            unfold f_X11_set f_X11_set_48 f_X11_set_54 nd_let
            dsimp only
            simp only [e_isIn, n_bind, hh6, if_pos c2]
            rfl
        · simp only [not_or] at c2
          exact set_3 hI hh c2.1 c2.2
      · by_cases c2 : x3 < 0 ∨ 1 < x3
        · apply no
          · exact (e_canBe4 (F := F) (σ := σ) x3).trans (by rw [if_pos c2])
          · show f_X11_set F 4 (nI h) x3 σ = _
            unfold f_X11_set f_X11_set_48 f_X11_set_54 nd_let
            dsimp only
            simp only [e_isIn, n_bind, hh6, if_pos c2]
            rfl
        · simp only [not_or] at c2
          exact set_4 hI hh c2.1 c2.2
  · refine ⟨0, σ, nd_up σ 60 0 0, n, ?_, ?_, iv_fr hf0 (by decide) hI, rfl⟩
    · unfold f_X10_set f_X10_set_19
      rw [eh, n_bind, if_pos rfl]
    · unfold f_X11_set f_X11_set_54 nd_let
      dsimp only
      rw [e_isIn, n_bind]
      by_cases c1 : x1 < 0 ∨ 4 < x1
      · rw [if_pos c1, if_pos rfl]
      · rw [if_neg c1, if_neg (by decide), e_hou0 e6 hb, n_bind, if_pos rfl]
