/-! calls that change little -/
theorem past_0 {σ : nd_Mem} {n x : Nat} (h1 : σ 24 1 = 0) (h2 : σ 60 3 = 0) (hx : x < 6) (h3 : σ 24 2 = nI x) : iv_past σ n := ⟨0, x, by omega, hx, h1, h2, h3, fun j hj => absurd hj (Nat.not_lt_zero j)⟩
theorem op_state {F : Nat} (hF : 300000 ≤ F) (x1 : Int32) : op_ (f_X10_state F x1) (f_X11_state F x1) := by
  intro σ n hI
  obtain ⟨⟨hn, hq1, hq2, hq3, hq4, hq5, hq6, hq7, hq8, hla, hpl, hfd, hsd⟩, hpa, htp, hpi, hfx⟩ := hI
  obtain ⟨m, x, m1, m2, m3, m4, m5, m6⟩ := id hpa
  have e1 : f_X10_state F x1 σ = some (σ 1 7, nd_up (nd_up σ 1 7 x1) 24 1 0) := rfl
  have e2 : ∀ τ, f_X11_state F x1 τ = some (τ 61 1, nd_up (nd_up (nd_up τ 60 0 0) 61 1 x1) 60 3 0) := fun τ => rfl
  have hf : fr_ [1, 24, 61] [0, 3] σ (nd_up (nd_up (nd_up (nd_up (nd_up σ 1 7 x1) 24 1 0) 60 0 0) 61 1 x1) 60 3 0) := (by repeat first | exact fr_rf | (refine fr_up57 ?_ (by decide)) | (refine fr_up ?_ (by decide) (by decide)) | (refine fr_row ?_ (by decide) (by decide)))
  have e3 : (nd_up (nd_up σ 1 7 x1) 24 1 0) 61 1 = σ 1 7 := by
    obtain ⟨s1, s3, s4, s5, s6, s7, s8⟩ := hq7
    exact s7.symm
  refine ⟨_, _, _, n, e1, by rw [e2, e3], ⟨⟨c_hn (fr_use hf (by decide)) hn, c_hq1 (fr_use hf (by decide)) hq1, c_hq2 (fr_use hf (by decide)) hq2, c_hq3 (fr_use hf (by decide)) hq3, c_hq4 (fr_use hf (by decide)) hq4, c_hq5 (fr_use hf (by decide)) hq5, c_hq6 (fr_use hf (by decide)) hq6, ?_, c_hq8 (fr_use hf (by decide)) hq8, c_hla (fr_use hf (by decide)) hla, c_hpl (fr_use hf (by decide)) hpl, c_hfd (fr_use hf (by decide)) hfd, c_hsd (fr_use hf (by decide)) hsd⟩, ?_, c_htp (fr_use hf (by decide)) htp, c_hpi (fr_use hf (by decide)) hpi, c_hfx (fr_use hf (by decide)) hfx⟩, congrFun (hf.1 0 (by decide) (by decide)) 10⟩
  · obtain ⟨s1, s3, s4, s5, s6, s7, s8⟩ := hq7
    obtain ⟨s8, s9, s10, s11, s12⟩ := s8
    refine ⟨s1, s3, s4, s5, s6, rfl, s8, s9, s10, s11, fun h hh => ?_⟩
    have := s12 h hh
    simp (disch := omega) only [u_eq, u_ne1, u_ne2, w_eq, w_ne, n_neq, eq_self, ite_true, ite_false, if_true, if_false]
    exact this
  · exact past_0 rfl rfl m2 m5
theorem op_fault {F : Nat} (hF : 300000 ≤ F) (x1 : Int32) : op_ (f_X10_fault F x1) (f_X11_fault F x1) := by
  intro σ n hI
  obtain ⟨⟨hn, hq1, hq2, hq3, hq4, hq5, hq6, hq7, hq8, hla, hpl, hfd, hsd⟩, hpa, htp, hpi, hfx⟩ := id hI
  have hf : fr_ [] [0] σ (nd_up σ 60 0 0) := (by repeat first | exact fr_rf | (refine fr_up57 ?_ (by decide)) | (refine fr_up ?_ (by decide) (by decide)) | (refine fr_row ?_ (by decide) (by decide)))
  obtain ⟨t1, t2, t3⟩ := id htp
  unfold f_X10_fault f_X11_fault nd_let
  dsimp only
  by_cases c0 : x1 = 0
  · exact ⟨_, σ, nd_up σ 60 0 0, n, by rw [if_pos c0], by rw [if_pos c0, t1]; rfl, iv_fr hf (by decide) hI, rfl⟩
  · by_cases c1 : x1 = 1
    · exact ⟨_, σ, nd_up σ 60 0 0, n, by rw [if_neg c0, if_pos c1], by rw [if_neg c0, if_pos c1, t2]; rfl, iv_fr hf (by decide) hI, rfl⟩
    · exact ⟨_, σ, nd_up σ 60 0 0, n, by rw [if_neg c0, if_neg c1], by rw [if_neg c0, if_neg c1], iv_fr hf (by decide) hI, rfl⟩
theorem op_moved {F : Nat} (hF : 300000 ≤ F) (x1 x2 : Int32) : op_ (f_X10_moved F x1 x2) (f_X11_moved F x1 x2) := by
  intro σ n hI
  obtain ⟨⟨hn, hq1, hq2, hq3, hq4, hq5, hq6, hq7, hq8, hla, hpl, hfd, hsd⟩, hpa, htp, hpi, hfx⟩ := id hI
  by_cases hc : (x1 < 0 ∨ 9 < x1) ∨ (x2 < -2 ∨ 9 < x2) ∨ x1 = x2
  · have hf : fr_ [] [0] σ (nd_up σ 60 0 0) := (by repeat first | exact fr_rf | (refine fr_up57 ?_ (by decide)) | (refine fr_up ?_ (by decide) (by decide)) | (refine fr_row ?_ (by decide) (by decide)))
    refine ⟨0, σ, nd_up σ 60 0 0, n, ?_, ?_, iv_fr hf (by decide) hI, rfl⟩
    · unfold f_X10_moved f_X10_moved_31 f_X10_moved_32 f_X10_moved_47
      grind
    · unfold f_X11_moved f_X11_moved_33 nd_let
      simp only [e_isIn, n_bind]
      grind
  · have h1 : ¬ x1 < 0 := by grind
    have h2 : ¬ 9 < x1 := by grind
    have h5 : ¬ x1 = x2 := by grind
    obtain ⟨a, ha, rfl⟩ := rng 9 (by decide) h1 h2
    have h3 : ¬ x2 < -2 := by grind
    have h4 : ¬ 9 < x2 := by grind
    have e1 : f_X10_moved F (nI a) x2 σ = some (1, nd_up σ 23 a x2) := by
      unfold f_X10_moved f_X10_moved_32 f_X10_moved_47
      rw [if_neg h1, if_neg h2, if_neg h3, if_neg h4, if_neg h5, if_neg (by decide), if_neg (nI_in (by omega) (by decide)), nI_clamp (by omega)]
      rfl
    have e2 : ∀ τ, ∃ v, iv_want x2 v ∧ f_X11_moved F (nI a) x2 τ = some (1, nd_up (nd_up τ 60 0 0) 95 a v) := by
      intro τ
      unfold f_X11_moved f_X11_moved_62 nd_let
      simp only [e_isIn, n_bind]
      rw [if_neg (show ¬ (nI a < 0 ∨ 9 < nI a) by grind), if_neg (by decide), if_neg (show ¬ (x2 < -2 ∨ 9 < x2) by grind), if_neg (by decide), if_neg h5]
      have hin := nI_in (show a < 10 by omega) (by decide)
      have hcl := nI_clamp (show a < 2 ^ 31 by omega)
      by_cases c1 : x2 = -1
      · exact ⟨0, Or.inl ⟨c1, rfl⟩, by rw [if_pos c1, if_neg hin, hcl]⟩
      · rw [if_neg c1]
        by_cases c2 : x2 = -2
        · exact ⟨1, Or.inr (Or.inl ⟨c2, rfl⟩), by rw [if_pos c2, if_neg hin, hcl]⟩
        · rw [if_neg c2, if_neg hin, hcl]
          obtain ⟨b, hb, rfl⟩ := rng 9 (by decide) (x := x2) (by grind) h4
          exact ⟨nI b + 2, Or.inr (Or.inr ⟨b, by omega, rfl, nI_add b 2⟩), rfl⟩
    obtain ⟨v, hv, e2⟩ := e2 (nd_up σ 23 a x2)
    have hf : fr_ [23, 95] [0] σ (nd_up (nd_up (nd_up σ 23 a x2) 60 0 0) 95 a v) := (by repeat first | exact fr_rf | (refine fr_up57 ?_ (by decide)) | (refine fr_up ?_ (by decide) (by decide)) | (refine fr_row ?_ (by decide) (by decide)))
    refine ⟨1, _, _, n, e1, e2, ⟨⟨c_hn (fr_use hf (by decide)) hn, c_hq1 (fr_use hf (by decide)) hq1, c_hq2 (fr_use hf (by decide)) hq2, c_hq3 (fr_use hf (by decide)) hq3, c_hq4 (fr_use hf (by decide)) hq4, c_hq5 (fr_use hf (by decide)) hq5, ?_, c_hq7 (fr_use hf (by decide)) hq7, c_hq8 (fr_use hf (by decide)) hq8, c_hla (fr_use hf (by decide)) hla, c_hpl (fr_use hf (by decide)) hpl, c_hfd (fr_use hf (by decide)) hfd, c_hsd (fr_use hf (by decide)) hsd⟩, c_hpa (fr_use hf (by decide)) hpa, c_htp (fr_use hf (by decide)) htp, c_hpi (fr_use hf (by decide)) hpi, c_hfx (fr_use hf (by decide)) hfx⟩, congrFun (hf.1 0 (by decide) (by decide)) 10⟩
    intro i hi
    show iv_want (if i = a then x2 else σ 23 i) (if i = a then v else σ 95 i)
    by_cases hia : i = a
    · rw [if_pos hia, if_pos hia]; exact hv
    · rw [if_neg hia, if_neg hia]; exact hq6 i hi
theorem op_end {F : Nat} (hF : 300000 ≤ F) (x1 : Int32) : op_ (f_X10_end F x1) (f_X11_end F x1) := by
  intro σ n hI
  obtain ⟨⟨hn, hq1, hq2, hq3, hq4, hq5, hq6, hq7, hq8, hla, hpl, hfd, hsd⟩, hpa, htp, hpi, hfx⟩ := id hI
  obtain ⟨t1, t2, m, t3, t4, t5, t6⟩ := id htp
  by_cases hc : x1 < 0 ∨ nI m < x1
  · have hf : fr_ [] [0] σ (nd_up σ 60 0 0) := (by repeat first | exact fr_rf | (refine fr_up57 ?_ (by decide)) | (refine fr_up ?_ (by decide) (by decide)) | (refine fr_row ?_ (by decide) (by decide)))
    refine ⟨0, σ, nd_up σ 60 0 0, n, ?_, ?_, iv_fr hf (by decide) hI, rfl⟩
    · unfold f_X10_end f_X3_cut f_X3_cut_12
      rw [t4]
      have : ¬ (¬ x1 < 0 ∧ x1 ≤ nI m) := by grind
      by_cases c : x1 < 0
      · rw [if_pos c, n_bind, if_neg (by decide)]
      · rw [if_neg c, if_neg (by grind), n_bind, if_neg (by decide)]
    · unfold f_X11_end nd_let
      simp only [e_isIn, n_bind]
      rw [show nd_up σ 60 0 0 60 9 = nI m from t5, if_pos hc, if_pos rfl]
  · obtain ⟨a, ha, rfl⟩ := nI_of (x := x1) (by grind)
    have ham : ¬ nI m < nI a := by grind
    have h0 : ¬ nI a < 0 := by grind
    simp (disch := omega) only [n_lit, n_add, n_mul, n_sub, n_lt, n_le, n_eq, n_cl, n_nle, n_yle, n_nlt, n_ylt, n_neq, n_m1, n_m1l, n_m1g, n_bind, u_eq, u_ne1, u_ne2, w_eq, w_ne, eq_self, nd_let, ite_true, ite_false, if_true, if_false, false_or, or_false, true_and, and_true, not_true, not_false, true_or, or_true, Nat.not_lt_zero, Nat.zero_le] at ham
    have hf : fr_ [38] [0, 9] σ (nd_up (nd_up (nd_up σ 38 2 (nI a)) 60 0 0) 60 9 (nI a)) := (by repeat first | exact fr_rf | (refine fr_up57 ?_ (by decide)) | (refine fr_up ?_ (by decide) (by decide)) | (refine fr_row ?_ (by decide) (by decide)))
    refine ⟨1, nd_up σ 38 2 (nI a), _, n, ?_, ?_, ⟨⟨c_hn (fr_use hf (by decide)) hn, c_hq1 (fr_use hf (by decide)) hq1, c_hq2 (fr_use hf (by decide)) hq2, c_hq3 (fr_use hf (by decide)) hq3, c_hq4 (fr_use hf (by decide)) hq4, c_hq5 (fr_use hf (by decide)) hq5, c_hq6 (fr_use hf (by decide)) hq6, c_hq7 (fr_use hf (by decide)) hq7, c_hq8 (fr_use hf (by decide)) hq8, c_hla (fr_use hf (by decide)) hla, c_hpl (fr_use hf (by decide)) hpl, c_hfd (fr_use hf (by decide)) hfd, c_hsd (fr_use hf (by decide)) hsd⟩, c_hpa (fr_use hf (by decide)) hpa, ?_, c_hpi (fr_use hf (by decide)) hpi, c_hfx (fr_use hf (by decide)) hfx⟩, congrFun (hf.1 0 (by decide) (by decide)) 10⟩
    · unfold f_X10_end f_X3_cut
      rw [t4, if_neg h0, if_pos (nI_le (by omega) (by omega))]
      rfl
    · unfold f_X11_end nd_let
      simp only [e_isIn, n_bind]
      rw [show nd_up (nd_up σ 38 2 (nI a)) 60 0 0 60 9 = nI m from t5, if_neg hc, if_neg (by decide)]
    · exact ⟨t1, t2, a, by omega, rfl, rfl, fun i hi => t6 i (by omega)⟩
theorem b_dec {x w : Int32} (h1 : 0 ≤ w) (h2 : w ≤ 150) : (w - 1 < x) = (w ≤ x) := by grind
theorem op_book {F : Nat} (hF : 300000 ≤ F) (x1 x2 : Int32) : op_ (f_X10_book F x1 x2) (f_X11_book F x1 x2) := by
  intro σ n hI
  obtain ⟨⟨hn, hq1, hq2, hq3, hq4, hq5, hq6, hq7, hq8, hla, hpl, hfd, hsd⟩, hpa, htp, hpi, hfx⟩ := id hI
  obtain ⟨s1, s3, s4, s5, s6, s7, s8, s9, s10⟩ := id hq7
  clear s10
  have hf : fr_ [] [0] σ (nd_up σ 60 0 0) := (by repeat first | exact fr_rf | (refine fr_up57 ?_ (by decide)) | (refine fr_up ?_ (by decide) (by decide)) | (refine fr_row ?_ (by decide) (by decide)))
  have e0 : nd_up σ 60 0 0 61 2 = σ 61 2 := rfl
  obtain ⟨l, hl, el⟩ := rng2 150 (by decide) s9
  by_cases hc : (x1 < 0 ∨ nI l ≤ x1) ∨ (x2 < 0 ∨ 3 < x2)
  · refine ⟨-1, σ, nd_up σ 60 0 0, n, ?_, ?_, iv_fr hf (by decide) hI, rfl⟩
    · unfold f_X10_book f_X10_book_24
      rw [s8, el]
      grind
    · unfold f_X11_book f_X11_book_45 nd_let
      simp only [e_isIn, n_bind]
      rw [if_neg (by decide), show Int32.toNatClampNeg 2 = 2 from rfl, e0]
      simp only [b_dec s9.1 s9.2]
      simp only [el]
      by_cases c1 : x1 < 0 ∨ nI l ≤ x1
      · rw [if_pos c1, if_pos rfl]
      · rw [if_neg c1, if_neg (by decide)]
        have c2 : x2 < 0 ∨ 3 < x2 := by grind
        rw [if_pos c2, if_pos rfl]
  · simp only [not_or] at hc
    obtain ⟨⟨hc1, hc2⟩, hc3, hc4⟩ := hc
    obtain ⟨a, ha, rfl⟩ := rng l (by omega) hc1 (fun e => hc2 (Int32.le_of_lt e))
    obtain ⟨b, hb, rfl⟩ := rng 3 (by decide) hc3 hc4
    simp (disch := omega) only [n_lit, n_add, n_mul, n_sub, n_lt, n_le, n_eq, n_cl, n_nle, n_yle, n_nlt, n_ylt, n_neq, n_m1, n_m1l, n_m1g, n_bind, u_eq, u_ne1, u_ne2, w_eq, w_ne, eq_self, nd_let, ite_true, ite_false, if_true, if_false, false_or, or_false, true_and, and_true, not_true, not_false, true_or, or_true, Nat.not_lt_zero, Nat.zero_le] at hc2
    have g8 := hq8 (a * 4 + b) (by omega)
    refine ⟨σ 11 (a * 4 + b), σ, nd_up σ 60 0 0, n, ?_, ?_, iv_fr hf (by decide) hI, rfl⟩
    · unfold f_X10_book
      simp (disch := omega) only [n_lit, n_add, n_mul, n_sub, n_lt, n_le, n_eq, n_cl, n_nle, n_yle, n_nlt, n_ylt, n_neq, n_m1, n_m1l, n_m1g, n_bind, u_eq, u_ne1, u_ne2, w_eq, w_ne, eq_self, nd_let, ite_true, ite_false, if_true, if_false, false_or, or_false, true_and, and_true, not_true, not_false, true_or, or_true, Nat.not_lt_zero, Nat.zero_le, s8, el]
    · have e4 : 4 * a + b = a * 4 + b := by omega
      unfold f_X11_book nd_let
      simp only [e_isIn, n_bind]
      rw [if_neg (by decide), show Int32.toNatClampNeg 2 = 2 from rfl, e0]
      simp only [b_dec s9.1 s9.2]
      simp only [el]
      simp (disch := omega) only [n_lit, n_add, n_mul, n_sub, n_lt, n_le, n_eq, n_cl, n_nle, n_yle, n_nlt, n_ylt, n_neq, n_m1, n_m1l, n_m1g, n_bind, u_eq, u_ne1, u_ne2, w_eq, w_ne, eq_self, nd_let, ite_true, ite_false, if_true, if_false, false_or, or_false, true_and, and_true, not_true, not_false, true_or, or_true, Nat.not_lt_zero, Nat.zero_le, e4, g8]
