/-! house, set, look -/
theorem e_canBe0 {F : Nat} {σ : nd_Mem} (v : Int32) : f_X10_canBe F 0 v σ = some (if v < 0 ∨ 9 < v then 0 else 1, σ) := by
  unfold f_X10_canBe f_X10_canBe_29
  by_cases h1 : v < 0 <;> by_cases h2 : 9 < v <;> simp [h1, h2, nd_mo]
theorem e_canBe1 {F : Nat} {σ : nd_Mem} (v : Int32) : f_X10_canBe F 1 v σ = some (if v < 0 ∨ 9 < v then 0 else 1, σ) := by
  unfold f_X10_canBe f_X10_canBe_29
  by_cases h1 : v < 0 <;> by_cases h2 : 9 < v <;> simp [h1, h2, nd_mo]
theorem e_canBe2 {F : Nat} {σ : nd_Mem} (v : Int32) : f_X10_canBe F 2 v σ = some (if v < 0 ∨ 9999 < v then 0 else 1, σ) := by
  unfold f_X10_canBe f_X10_canBe_29
  by_cases h1 : v < 0 <;> by_cases h2 : 9999 < v <;> simp [h1, h2, nd_mo]
theorem e_canBe3 {F : Nat} {σ : nd_Mem} (v : Int32) : f_X10_canBe F 3 v σ = some (if v < 0 ∨ 9 < v then 0 else 1, σ) := by
  unfold f_X10_canBe f_X10_canBe_29
  by_cases h1 : v < 0 <;> by_cases h2 : 9 < v <;> simp [h1, h2, nd_mo]
theorem e_canBe4 {F : Nat} {σ : nd_Mem} (v : Int32) : f_X10_canBe F 4 v σ = some (if v < 0 ∨ 1 < v then 0 else 1, σ) := by
  unfold f_X10_canBe f_X10_canBe_29
  by_cases h1 : v < 0 <;> by_cases h2 : 1 < v <;> simp [h1, h2, nd_mo]
theorem up_same {M : nd_Mem} {i k : Nat} {v : Int32} (h : M i k = v) : nd_up M i k v = M := by
  funext a j
  rw [u_app]
  by_cases ha : a = i
  · rw [if_pos ha]
    by_cases hj : j = k
    · rw [if_pos hj, ha, hj, h]
    · rw [if_neg hj]
  · rw [if_neg ha]
theorem plan_up {σ : nd_Mem} {n : Nat} (h : iv_plan σ σ n) : iv_plan σ σ (n + 1) := by
  obtain ⟨P, h1, h2, h3, h4⟩ := h
  refine ⟨P, h1, h2, h3, fun j hj => ?_⟩
  obtain ⟨d1, k, who, d2, d3, d4⟩ := h4 j hj
  exact ⟨d1, k, who, d2, by omega, d4⟩
theorem feud_up {σ : nd_Mem} {n : Nat} (h : iv_feud σ σ n) : iv_feud σ σ (n + 1) := by
  refine ⟨h.1, fun k hk => ?_⟩
  obtain ⟨m, h1, h2⟩ := h.2 k hk
  exact ⟨m, by rw [Nat.pow_succ]; omega, h2⟩
theorem op_house {F : Nat} (hF : 300000 ≤ F) (x1 x2 x3 : Int32) : op_ (f_X10_house F x1 x2 x3) (f_X11_house F x1 x2 x3) := by
  intro σ n hI
  obtain ⟨⟨hn, hq1, hq2, hq3, hq4, hq5, hq6, hq7, hq8, hla, hpl, hfd, hsd⟩, hpa, htp, hpi, hfx⟩ := id hI
  obtain ⟨s1, s3, s4, s5, s6, s7, s8, s9, s10, s11, s12⟩ := id hq7
  obtain ⟨m, x, m1, m2, m3, m4, m5, m6⟩ := id hpa
  have hf0 : fr_ [] [0] σ (nd_up σ 60 0 0) := (by repeat first | exact fr_rf | (refine fr_up57 ?_ (by decide)) | (refine fr_up ?_ (by decide) (by decide)) | (refine fr_row ?_ (by decide) (by decide)))
  have e6 : nd_up σ 60 0 0 60 6 = nI n := hn.2
  by_cases hc : n = 16 ∨ (x1 < 0 ∨ 9 < x1) ∨ (x2 < 0 ∨ 9 < x2) ∨ (x3 < 0 ∨ 9999 < x3)
  · refine ⟨-1, σ, nd_up σ 60 0 0, n, ?_, ?_, iv_fr hf0 (by decide) hI, rfl⟩
    · have : f_X6_build F 1 2 x1 x2 x3 σ = some (-1, σ) := by
        unfold f_X6_build f_X6_build_33
        by_cases c1 : n = 16
        · rw [s1, c1]; rfl
        · rw [s1, if_neg (show ¬ (16 : Int32) ≤ nI n from (nI_ge (by omega) (by decide) : ¬ nI 16 ≤ nI n)), e_canBe0, n_bind]
          by_cases c2 : x1 < 0 ∨ 9 < x1
          · rw [if_pos c2, if_pos rfl]
          · rw [if_neg c2, if_neg (by decide), e_canBe1, n_bind]
            by_cases c3 : x2 < 0 ∨ 9 < x2
            · rw [if_pos c3, if_pos rfl]
            · rw [if_neg c3, if_neg (by decide), e_canBe2, n_bind]
              have c4 : x3 < 0 ∨ 9999 < x3 := by
                rcases hc with h | h | h | h
                · exact absurd h c1
                · exact absurd h c2
                · exact absurd h c3
                · exact h
              rw [if_pos c4, if_pos rfl]
      unfold f_X10_house f_X10_house_25
      rw [this, n_bind, if_pos rfl]
    · unfold f_X11_house f_X11_house_48 nd_let
      simp only [e_isIn, n_bind]
      by_cases c2 : x1 < 0 ∨ 9 < x1
      · rw [if_pos c2, if_pos rfl]
      · rw [if_neg c2, if_neg (by decide)]
        by_cases c3 : x2 < 0 ∨ 9 < x2
        · rw [if_pos c3, if_pos rfl]
        · rw [if_neg c3, if_neg (by decide)]
          by_cases c4 : x3 < 0 ∨ 9999 < x3
          · rw [if_pos c4, if_pos rfl]
          · have c1 : n = 16 := by
              rcases hc with h | h | h | h
              · exact h
              · exact absurd h c2
              · exact absurd h c3
              · exact absurd h c4
            rw [if_neg c4, if_neg (by decide), e6, c1, if_pos (show nI 16 = 16 from rfl)]
  · simp only [not_or] at hc
    obtain ⟨c1, c2, c3, c4⟩ := hc
    have d2 : ¬ (x1 < 0 ∨ 9 < x1) := not_or.mpr c2
    have d3 : ¬ (x2 < 0 ∨ 9 < x2) := not_or.mpr c3
    have d4 : ¬ (x3 < 0 ∨ 9999 < x3) := not_or.mpr c4
    have hnn : n < 16 := by have := hn.1; omega
    have b1 : 0 ≤ x1 ∧ x1 ≤ 9 := ⟨Int32.not_lt.mp c2.1, Int32.not_lt.mp c2.2⟩
    have b2 : 0 ≤ x2 ∧ x2 ≤ 9 := ⟨Int32.not_lt.mp c3.1, Int32.not_lt.mp c3.2⟩
    have b3 : 0 ≤ x3 ∧ x3 ≤ 9999 := ⟨Int32.not_lt.mp c4.1, Int32.not_lt.mp c4.2⟩
    have hb : ∀ (p : Int32) (hp : p = if n = 0 then 0 else σ 1 2), f_X6_build F 1 2 x1 x2 x3 σ = some (nI n, nd_up (nd_up (nd_up (nd_up (nd_up (nd_up (nd_up (nd_up σ 1 1 (nI (n + 1))) 2 (n * 6) x1) 2 (n * 6 + 1) x2) 2 (n * 6 + 2) x3) 2 (n * 6 + 3) 0) 2 (n * 6 + 4) 0) 2 (n * 6 + 5) (nI n)) 1 2 p) := by
      intro p hp
      unfold f_X6_build f_X6_build_110
      rw [s1, if_neg (show ¬ (16 : Int32) ≤ nI n from (nI_ge (by omega) (by decide) : ¬ nI 16 ≤ nI n)), e_canBe0, n_bind, if_neg d2, if_neg (by decide), e_canBe1, n_bind, if_neg d3, if_neg (by decide), e_canBe2, n_bind, if_neg d4, if_neg (by decide), s1, nI_1]
      unfold nd_let
      dsimp only
      rw [e_put0 (n := n + 1) rfl (by omega) (by omega), n_bind, e_put1 (n := n + 1) rfl (by omega) (by omega), n_bind, e_put2 (n := n + 1) rfl (by omega) (by omega), n_bind, e_put3 (n := n + 1) rfl (by omega) (by omega), n_bind, e_put4 (n := n + 1) rfl (by omega) (by omega), n_bind, e_put5 (n := n + 1) rfl (by omega) (by omega), n_bind]
      by_cases h0 : n = 0
      · rw [if_pos (show nI n = 0 by rw [h0]; rfl), hp, if_pos h0]
      · rw [if_neg (nI_ne0 (by omega) (by omega)), hp, if_neg h0]
        exact congrArg (fun M => some (nI n, M)) (up_same rfl).symm
    generalize hp : (if n = 0 then 0 else σ 1 2 : Int32) = p at hb
    have hb := hb p rfl
    have e1 : f_X10_house F x1 x2 x3 σ = some (nI n, nd_up (nd_up (nd_up (nd_up (nd_up (nd_up (nd_up (nd_up (nd_up σ 1 1 (nI (n + 1))) 2 (n * 6) x1) 2 (n * 6 + 1) x2) 2 (n * 6 + 2) x3) 2 (n * 6 + 3) 0) 2 (n * 6 + 4) 0) 2 (n * 6 + 5) (nI n)) 1 2 p) 24 1 0) := by
      unfold f_X10_house f_X10_house_25 f_X1_forget
      rw [hb, n_bind, if_neg (li_m1 n (by omega))]
      rfl
    generalize hτ : nd_up (nd_up (nd_up (nd_up (nd_up (nd_up (nd_up (nd_up (nd_up σ 1 1 (nI (n + 1))) 2 (n * 6) x1) 2 (n * 6 + 1) x2) 2 (n * 6 + 2) x3) 2 (n * 6 + 3) 0) 2 (n * 6 + 4) 0) 2 (n * 6 + 5) (nI n)) 1 2 p) 24 1 0 = τ at e1
    have t6 : τ 60 6 = nI n := by rw [← hτ]; exact hn.2
    have e2 : f_X11_house F x1 x2 x3 τ = some (nI n, nd_up (nd_up (nd_up (nd_up (nd_up (nd_up (nd_up (nd_up (nd_up τ 60 0 0) 61 (7 + n) x1) 61 (23 + n) x2) 61 (39 + n) 0) 61 (55 + n) x3) 61 (71 + n) (nI (n + 1))) 61 (87 + n) 0) 60 6 (nI (n + 1))) 60 3 0) := by
      unfold f_X11_house nd_let
      simp only [e_isIn, n_bind, if_neg d2, if_neg d3, if_neg d4]
      simp (disch := omega) only [n_lit, n_add, n_mul, n_sub, n_lt, n_le, n_eq, n_cl, n_nle, n_yle, n_nlt, n_ylt, n_neq, n_m1, n_m1l, n_m1g, n_bind, u_eq, u_ne1, u_ne2, w_eq, w_ne, eq_self, nd_let, ite_true, ite_false, if_true, if_false, false_or, or_false, true_and, and_true, not_true, not_false, true_or, or_true, Nat.not_lt_zero, Nat.zero_le, t6]
      rfl
    have hf : fr_ [1, 2, 24, 61] [0, 3, 6] σ (nd_up (nd_up (nd_up (nd_up (nd_up (nd_up (nd_up (nd_up (nd_up τ 60 0 0) 61 (7 + n) x1) 61 (23 + n) x2) 61 (39 + n) 0) 61 (55 + n) x3) 61 (71 + n) (nI (n + 1))) 61 (87 + n) 0) 60 6 (nI (n + 1))) 60 3 0) := by
      rw [← hτ]
      exact (by repeat first | exact fr_rf | (refine fr_up57 ?_ (by decide)) | (refine fr_up ?_ (by decide) (by decide)) | (refine fr_row ?_ (by decide) (by decide)))
    refine ⟨nI n, τ, _, n + 1, e1, e2, ⟨⟨?_, c_hq1 (fr_use hf (by decide)) hq1, c_hq2 (fr_use hf (by decide)) hq2, c_hq3 (fr_use hf (by decide)) hq3, c_hq4 (fr_use hf (by decide)) hq4, c_hq5 (fr_use hf (by decide)) hq5, c_hq6 (fr_use hf (by decide)) hq6, ?_, c_hq8 (fr_use hf (by decide)) hq8, c_hla (fr_use hf (by decide)) hla, c_hpl (fr_use hf (by decide)) (plan_up hpl), c_hfd (fr_use hf (by decide)) (feud_up hfd), c_hsd (fr_use hf (by decide)) hsd⟩, ?_, c_htp (fr_use hf (by decide)) htp, c_hpi (fr_use hf (by decide)) hpi, c_hfx (fr_use hf (by decide)) hfx⟩, congrFun (hf.1 0 (by decide) (by decide)) 10⟩
    · exact ⟨by omega, rfl⟩
    · subst hτ
      refine ⟨by simp (disch := omega) only [u_eq, u_ne1, u_ne2, w_eq, w_ne, n_neq, eq_self, ite_true, ite_false, if_true, if_false], by simp (disch := omega) only [u_eq, u_ne1, u_ne2, w_eq, w_ne, n_neq, eq_self, ite_true, ite_false, if_true, if_false]; exact s3, by simp (disch := omega) only [u_eq, u_ne1, u_ne2, w_eq, w_ne, n_neq, eq_self, ite_true, ite_false, if_true, if_false]; exact s4, by simp (disch := omega) only [u_eq, u_ne1, u_ne2, w_eq, w_ne, n_neq, eq_self, ite_true, ite_false, if_true, if_false]; exact s5, by simp (disch := omega) only [u_eq, u_ne1, u_ne2, w_eq, w_ne, n_neq, eq_self, ite_true, ite_false, if_true, if_false]; exact s6, by simp (disch := omega) only [u_eq, u_ne1, u_ne2, w_eq, w_ne, n_neq, eq_self, ite_true, ite_false, if_true, if_false]; exact s7, by simp (disch := omega) only [u_eq, u_ne1, u_ne2, w_eq, w_ne, n_neq, eq_self, ite_true, ite_false, if_true, if_false]; exact s8, by simp (disch := omega) only [u_eq, u_ne1, u_ne2, w_eq, w_ne, n_neq, eq_self, ite_true, ite_false, if_true, if_false]; exact s9, fun h => absurd h (by omega), fun _ => ?_, fun h hh => ?_⟩
      · simp (disch := omega) only [u_eq, u_ne1, u_ne2, w_eq, w_ne, n_neq, eq_self, ite_true, ite_false, if_true, if_false]
        rw [← hp]
        by_cases h0 : n = 0
        · rw [if_pos h0, (s10 h0).2]
        · rw [if_neg h0]; exact s11 (by omega)
      · by_cases hhn : h = n
        · subst hhn
          simp (disch := omega) only [u_eq, u_ne1, u_ne2, w_eq, w_ne, n_neq, eq_self, ite_true, ite_false, if_true, if_false]
          refine ⟨⟨trivial, b1⟩, ⟨trivial, b2⟩, ⟨trivial, b3⟩, ⟨trivial, by decide⟩, ⟨trivial, by decide⟩, (nI_pred _).symm, nI_pos' (by omega), show nI (h + 1) ≤ nI 16 from nI_le (by omega) (by decide)⟩
        · have := s12 h (by omega)
          simp (disch := omega) only [u_eq, u_ne1, u_ne2, w_eq, w_ne, n_neq, eq_self, ite_true, ite_false, if_true, if_false]
          exact this
    · subst hτ
      exact past_0 rfl rfl m2 m5
