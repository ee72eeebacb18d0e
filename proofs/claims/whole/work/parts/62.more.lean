/-! persons, houses, set, look -/
theorem b_decN {k : Nat} (h : k ≤ 150) (x : Int32) : (nI k - 1 < x) = (nI k ≤ x) := b_dec (nI_pos' (by omega)) (show nI k ≤ nI 150 from nI_le h (by decide))
theorem pe_o {F : Nat} {σ : nd_Mem} : f_X10_person F (-1) (-1) σ = f_X10_person_109 F (-1) σ := rfl
theorem op_person {F : Nat} (hF : 300000 ≤ F) (x1 x2 : Int32) : op_ (f_X10_person F x1 x2) (f_X11_person F x1 x2) := by
  intro σ n hI
  obtain ⟨⟨hn, hq1, hq2, hq3, hq4, hq5, hq6, hq7, hq8, hla, hpl, hfd, hsd⟩, hpa, htp, hpi, hfx⟩ := id hI
  obtain ⟨k, k1, k2, k3, k4⟩ := id hq4
  have hf0 : fr_ [] [0] σ (nd_up σ 60 0 0) := (by repeat first | exact fr_rf | (refine fr_up57 ?_ (by decide)) | (refine fr_up ?_ (by decide) (by decide)) | (refine fr_row ?_ (by decide) (by decide)))
  have e0 : nd_up σ 60 0 0 60 54 = nI k := k3
  by_cases c1 : x1 = -10
  · have hf : fr_ [19] [0, 54] σ (nd_up (nd_up (nd_up σ 19 1 0) 60 0 0) 60 54 0) := (by repeat first | exact fr_rf | (refine fr_up57 ?_ (by decide)) | (refine fr_up ?_ (by decide) (by decide)) | (refine fr_row ?_ (by decide) (by decide)))
    refine ⟨0, nd_up σ 19 1 0, _, n, ?_, ?_, ⟨⟨c_hn (fr_use hf (by decide)) hn, c_hq1 (fr_use hf (by decide)) hq1, c_hq2 (fr_use hf (by decide)) hq2, c_hq3 (fr_use hf (by decide)) hq3, ?_, c_hq5 (fr_use hf (by decide)) hq5, c_hq6 (fr_use hf (by decide)) hq6, c_hq7 (fr_use hf (by decide)) hq7, c_hq8 (fr_use hf (by decide)) hq8, c_hla (fr_use hf (by decide)) hla, c_hpl (fr_use hf (by decide)) hpl, c_hfd (fr_use hf (by decide)) hfd, c_hsd (fr_use hf (by decide)) hsd⟩, c_hpa (fr_use hf (by decide)) hpa, c_htp (fr_use hf (by decide)) htp, c_hpi (fr_use hf (by decide)) hpi, c_hfx (fr_use hf (by decide)) hfx⟩, congrFun (hf.1 0 (by decide) (by decide)) 10⟩
    · unfold f_X10_person
      rw [if_pos c1, e_clear]; rfl
    · unfold f_X11_person nd_let
      dsimp only
      rw [if_pos c1]
    · exact ⟨0, by omega, rfl, rfl, fun i hi => absurd hi (Nat.not_lt_zero i)⟩
  · by_cases c2 : x1 = -1 ∧ x2 = -1
    · obtain ⟨rfl, rfl⟩ := c2
      by_cases c3 : k = 14
      · refine ⟨-1, σ, nd_up σ 60 0 0, n, ?_, ?_, iv_fr hf0 (by decide) hI, rfl⟩
        · rw [pe_o]
          unfold f_X10_person_109
          rw [e_add_full k2 (by decide) (by omega) (by omega)]
          rfl
        · unfold f_X11_person f_X11_person_33 f_X11_person_73 f_X11_person_82 nd_let
          dsimp only
          rw [e0, c3]; rfl
      · have hf : fr_ [19, 20, 92, 93] [0, 54] σ (nd_up (nd_up (nd_up (nd_up (nd_up (nd_up σ 20 k (-1)) 19 1 (nI (k + 1))) 60 0 0) 92 k 0) 93 k 0) 60 54 (nI (k + 1))) := (by repeat first | exact fr_rf | (refine fr_up57 ?_ (by decide)) | (refine fr_up ?_ (by decide) (by decide)) | (refine fr_row ?_ (by decide) (by decide)))
        refine ⟨nI k, nd_up (nd_up σ 20 k (-1)) 19 1 (nI (k + 1)), _, n, ?_, ?_, ⟨⟨c_hn (fr_use hf (by decide)) hn, c_hq1 (fr_use hf (by decide)) hq1, c_hq2 (fr_use hf (by decide)) hq2, c_hq3 (fr_use hf (by decide)) hq3, ?_, c_hq5 (fr_use hf (by decide)) hq5, c_hq6 (fr_use hf (by decide)) hq6, c_hq7 (fr_use hf (by decide)) hq7, c_hq8 (fr_use hf (by decide)) hq8, c_hla (fr_use hf (by decide)) hla, c_hpl (fr_use hf (by decide)) hpl, c_hfd (fr_use hf (by decide)) hfd, c_hsd (fr_use hf (by decide)) hsd⟩, c_hpa (fr_use hf (by decide)) hpa, c_htp (fr_use hf (by decide)) htp, c_hpi (fr_use hf (by decide)) hpi, c_hfx (fr_use hf (by decide)) hfx⟩, congrFun (hf.1 0 (by decide) (by decide)) 10⟩
        · rw [pe_o]
          unfold f_X10_person_109
          rw [e_add (by decide) k2 (by decide) (by omega), n_bind, if_neg (li_m1 _ (by omega)), nI_pred]
        · unfold f_X11_person f_X11_person_33 f_X11_person_73
          simp (disch := omega) only [n_lit, n_add, n_mul, n_sub, n_lt, n_le, n_eq, n_cl, n_nle, n_yle, n_nlt, n_ylt, n_neq, n_m1, n_m1l, n_m1g, n_bind, u_eq, u_ne1, u_ne2, w_eq, w_ne, eq_self, nd_let, ite_true, ite_false, if_true, if_false, false_or, or_false, true_and, and_true, not_true, not_false, true_or, or_true, Nat.not_lt_zero, Nat.zero_le, k3]
          rfl
        · refine ⟨k + 1, by omega, rfl, rfl, fun i hi => ?_⟩
          by_cases hik : i = k
          · left
            subst hik
            simp (disch := omega) only [u_eq, u_ne1, u_ne2, w_eq, w_ne, n_neq, eq_self, ite_true, ite_false, if_true, if_false]
            exact ⟨trivial, trivial, trivial⟩
          · have := k4 i (by omega)
            simp (disch := omega) only [u_eq, u_ne1, u_ne2, w_eq, w_ne, n_neq, eq_self, ite_true, ite_false, if_true, if_false]
            exact this
    · by_cases c3 : (x1 < 0 ∨ nI k ≤ x1) ∨ (x2 < 0 ∨ nI k ≤ x2) ∨ x1 = x2
      · refine ⟨-1, σ, nd_up σ 60 0 0, n, ?_, ?_, iv_fr hf0 (by decide) hI, rfl⟩
        · unfold f_X10_person f_X10_person_42 f_X10_person_43 f_X10_person_72 f_X10_person_73 f_X10_person_87
          rw [if_neg c1, k2]
          clear k4 hI
          grind
        · unfold f_X11_person f_X11_person_32 f_X11_person_33 f_X11_person_82 nd_let
          simp only [e_isIn, n_bind, e0]
          rw [if_neg c1]
          have d1 : (nI k - 1 < x1) = (nI k ≤ x1) := b_decN (by omega) _
          have d2 : (nI k - 1 < x2) = (nI k ≤ x2) := b_decN (by omega) _
          simp only [d1, d2]
          clear k4 hI
          grind
      · simp only [not_or] at c3
        obtain ⟨⟨a1, a2⟩, ⟨b1, b2⟩, ab⟩ := c3
        have g1 : ¬ x1 = -1 := by clear k4 hI; grind
        obtain ⟨a, ha, rfl⟩ := rng k (by omega) a1 (fun e => a2 (Int32.le_of_lt e))
        obtain ⟨b, hb, rfl⟩ := rng k (by omega) b1 (fun e => b2 (Int32.le_of_lt e))
        simp (disch := omega) only [n_lit, n_add, n_mul, n_sub, n_lt, n_le, n_eq, n_cl, n_nle, n_yle, n_nlt, n_ylt, n_neq, n_m1, n_m1l, n_m1g, n_bind, u_eq, u_ne1, u_ne2, w_eq, w_ne, eq_self, nd_let, ite_true, ite_false, if_true, if_false, false_or, or_false, true_and, and_true, not_true, not_false, true_or, or_true, Nat.not_lt_zero, Nat.zero_le] at a2 b2 ab
        have d1 : (nI k - 1 < nI a) = (nI k ≤ nI a) := b_decN (by omega) _
        have d2 : (nI k - 1 < nI b) = (nI k ≤ nI b) := b_decN (by omega) _
        by_cases c3 : k = 14
        · refine ⟨-1, σ, nd_up σ 60 0 0, n, ?_, ?_, iv_fr hf0 (by decide) hI, rfl⟩
          · unfold f_X10_person f_X10_person_42 f_X10_person_43 f_X10_person_73 f_X10_person_87 f_X10_person_109
            rw [if_neg c1, if_neg g1]
            simp (disch := omega) only [n_lit, n_add, n_mul, n_sub, n_lt, n_le, n_eq, n_cl, n_nle, n_yle, n_nlt, n_ylt, n_neq, n_m1, n_m1l, n_m1g, n_bind, u_eq, u_ne1, u_ne2, w_eq, w_ne, eq_self, nd_let, ite_true, ite_false, if_true, if_false, false_or, or_false, true_and, and_true, not_true, not_false, true_or, or_true, Nat.not_lt_zero, Nat.zero_le, k2, e_add_full k2 (show 14 < 2 ^ 31 by decide) (show 14 ≤ k by omega) (by omega)]
          · unfold f_X11_person f_X11_person_32 f_X11_person_33 f_X11_person_73 f_X11_person_82 nd_let
            simp only [e_isIn, n_bind, e0, d1, d2]
            rw [if_neg c1, if_neg g1]
            simp (disch := omega) only [n_lit, n_add, n_mul, n_sub, n_lt, n_le, n_eq, n_cl, n_nle, n_yle, n_nlt, n_ylt, n_neq, n_m1, n_m1l, n_m1g, n_bind, u_eq, u_ne1, u_ne2, w_eq, w_ne, eq_self, nd_let, ite_true, ite_false, if_true, if_false, false_or, or_false, true_and, and_true, not_true, not_false, true_or, or_true, Nat.not_lt_zero, Nat.zero_le, c3]
        · have e16 : nI a * 16 + nI b = nI (16 * a + b) := by
            simp (disch := omega) only [n_lit, n_add, n_mul, n_sub, n_lt, n_le, n_eq, n_cl, n_nle, n_yle, n_nlt, n_ylt, n_neq, n_m1, n_m1l, n_m1g, n_bind, u_eq, u_ne1, u_ne2, w_eq, w_ne, eq_self, nd_let, ite_true, ite_false, if_true, if_false, false_or, or_false, true_and, and_true, not_true, not_false, true_or, or_true, Nat.not_lt_zero, Nat.zero_le]
            rw [Nat.mul_comm]
          have hf : fr_ [19, 20, 92, 93] [0, 54] σ (nd_up (nd_up (nd_up (nd_up (nd_up (nd_up σ 20 k (nI (16 * a + b))) 19 1 (nI (k + 1))) 60 0 0) 92 k (nI (a + 1))) 93 k (nI (b + 1))) 60 54 (nI (k + 1))) := (by repeat first | exact fr_rf | (refine fr_up57 ?_ (by decide)) | (refine fr_up ?_ (by decide) (by decide)) | (refine fr_row ?_ (by decide) (by decide)))
          refine ⟨nI k, nd_up (nd_up σ 20 k (nI (16 * a + b))) 19 1 (nI (k + 1)), _, n, ?_, ?_, ⟨⟨c_hn (fr_use hf (by decide)) hn, c_hq1 (fr_use hf (by decide)) hq1, c_hq2 (fr_use hf (by decide)) hq2, c_hq3 (fr_use hf (by decide)) hq3, ?_, c_hq5 (fr_use hf (by decide)) hq5, c_hq6 (fr_use hf (by decide)) hq6, c_hq7 (fr_use hf (by decide)) hq7, c_hq8 (fr_use hf (by decide)) hq8, c_hla (fr_use hf (by decide)) hla, c_hpl (fr_use hf (by decide)) hpl, c_hfd (fr_use hf (by decide)) hfd, c_hsd (fr_use hf (by decide)) hsd⟩, c_hpa (fr_use hf (by decide)) hpa, c_htp (fr_use hf (by decide)) htp, c_hpi (fr_use hf (by decide)) hpi, c_hfx (fr_use hf (by decide)) hfx⟩, congrFun (hf.1 0 (by decide) (by decide)) 10⟩
          · unfold f_X10_person f_X10_person_42 f_X10_person_43 f_X10_person_73 f_X10_person_87 f_X10_person_109
            rw [if_neg c1, if_neg g1, e16]
            simp (disch := omega) only [n_lit, n_add, n_mul, n_sub, n_lt, n_le, n_eq, n_cl, n_nle, n_yle, n_nlt, n_ylt, n_neq, n_m1, n_m1l, n_m1g, n_bind, u_eq, u_ne1, u_ne2, w_eq, w_ne, eq_self, nd_let, ite_true, ite_false, if_true, if_false, false_or, or_false, true_and, and_true, not_true, not_false, true_or, or_true, Nat.not_lt_zero, Nat.zero_le, k2, e_add (show 20 ≠ 19 by decide) k2 (show 14 < 2 ^ 31 by decide) (show k < 14 by omega)]
            rfl
          · unfold f_X11_person f_X11_person_32 f_X11_person_33 f_X11_person_73 nd_let
            simp only [e_isIn, n_bind, u_eq, u_ne1 (show 60 ≠ 19 by decide), u_ne1 (show 60 ≠ 20 by decide), u_ne2 (show 54 ≠ 0 by decide), k3, d1, d2]
            rw [if_neg c1, if_neg g1]
            simp (disch := omega) only [n_lit, n_add, n_mul, n_sub, n_lt, n_le, n_eq, n_cl, n_nle, n_yle, n_nlt, n_ylt, n_neq, n_m1, n_m1l, n_m1g, n_bind, u_eq, u_ne1, u_ne2, w_eq, w_ne, eq_self, nd_let, ite_true, ite_false, if_true, if_false, false_or, or_false, true_and, and_true, not_true, not_false, true_or, or_true, Nat.not_lt_zero, Nat.zero_le, k3]
            rfl
          · refine ⟨k + 1, by omega, rfl, rfl, fun i hi => ?_⟩
            by_cases hik : i = k
            · right
              subst hik
              refine ⟨a, b, by omega, by omega, ab, ?_⟩
              simp (disch := omega) only [u_eq, u_ne1, u_ne2, w_eq, w_ne, n_neq, eq_self, ite_true, ite_false, if_true, if_false]
              exact ⟨trivial, trivial, trivial⟩
            · have := k4 i (by omega)
              simp (disch := omega) only [u_eq, u_ne1, u_ne2, w_eq, w_ne, n_neq, eq_self, ite_true, ite_false, if_true, if_false]
              exact this
