/-! what is told for thought -/
theorem tell_new {m lo hi n : Nat} {a a' : Nat → Int32} (hlo : lo < 2147483648) (hhi : hi < 2147483648) {x : Int32} (hx : ¬ (x < nI lo ∨ nI hi < x)) (hn : n < m) (h : ∀ i : Nat, i < n → a i = a' i ∧ iv_bt (a' i) lo hi) : iv_row m lo hi (nI (n + 1)) (upd a n x) (nI (n + 1)) (upd a' n x) := by
  refine ⟨n + 1, by omega, rfl, rfl, fun i hi2 => ?_⟩
  by_cases hin : i = n
  · subst hin
    refine ⟨by simp [upd], ?_⟩
    simp only [upd, if_true]
    simp only [not_or] at hx
    have h1 : ¬ x < 0 := by
      have := nI_pos' (n := lo) hlo
      intro e
      apply hx.1
      rw [Int32.lt_iff_toInt_lt] at e ⊢
      rw [Int32.le_iff_toInt_le] at this
      omega
    obtain ⟨j, hj, rfl⟩ := nI_of h1
    refine ⟨j, ?_, ?_, rfl⟩
    · exact Nat.not_lt.mp (fun e => hx.1 (nI_lt e hlo))
    · exact Nat.not_lt.mp (fun e => hx.2 (nI_lt e hj))
  · simp only [upd, hin, if_false]
    exact h i (by omega)
theorem tell_0 {m lo hi : Nat} {a a' : Nat → Int32} : iv_row m lo hi 0 a 0 a' := ⟨0, by omega, rfl, rfl, fun i hi => absurd hi (Nat.not_lt_zero i)⟩
theorem op_child {F : Nat} (hF : 300000 ≤ F) (x1 : Int32) : op_ (f_X10_child F x1) (f_X11_child F x1) := by
  intro σ n hI
  obtain ⟨⟨hn, hq1, hq2, hq3, hq4, hq5, hq6, hq7, hq8, hla, hpl, hfd, hsd⟩, hpa, htp, hpi, hfx⟩ := hI
  obtain ⟨k, hk, hz, hz', hr⟩ := id hq1
  have e1 : f_X10_child F x1 σ = some (q_tell 13 14 12 k x1 0 1 σ) := by
    unfold f_X10_child
    rw [e_tell (by decide) hz (by decide) hk]; rfl
  have e2 := fun τ h => e_childM (F := F) (σ := τ) (n := k) h hk x1
  unfold q_tell at e1
  unfold q_tellM at e2
  by_cases c1 : x1 = -1
  · simp only [c1, if_true] at e1 e2
    subst c1
    have hf : fr_ [13, 14, 81] [0, 40] σ (nd_up (nd_up (nd_up σ 13 1 0) 60 0 0) 60 40 0) := (by repeat first | exact fr_rf | (refine fr_up57 ?_ (by decide)) | (refine fr_up ?_ (by decide) (by decide)) | (refine fr_row ?_ (by decide) (by decide)))
    exact ⟨_, _, _, n, e1, e2 _ hz', ⟨⟨c_hn (fr_use hf (by decide)) hn, tell_0, c_hq2 (fr_use hf (by decide)) hq2, c_hq3 (fr_use hf (by decide)) hq3, c_hq4 (fr_use hf (by decide)) hq4, c_hq5 (fr_use hf (by decide)) hq5, c_hq6 (fr_use hf (by decide)) hq6, c_hq7 (fr_use hf (by decide)) hq7, c_hq8 (fr_use hf (by decide)) hq8, c_hla (fr_use hf (by decide)) hla, c_hpl (fr_use hf (by decide)) hpl, c_hfd (fr_use hf (by decide)) hfd, c_hsd (fr_use hf (by decide)) hsd⟩, c_hpa (fr_use hf (by decide)) hpa, c_htp (fr_use hf (by decide)) htp, c_hpi (fr_use hf (by decide)) hpi, c_hfx (fr_use hf (by decide)) hfx⟩, congrFun (hf.1 0 (by decide) (by decide)) 10⟩
  · simp only [c1, if_false] at e1 e2
    by_cases c2 : x1 < 0 ∨ 1 < x1
    · simp only [c2, if_true] at e1 e2
      have hf : fr_ [13, 14, 81] [0, 40] σ (nd_up σ 60 0 0) := (by repeat first | exact fr_rf | (refine fr_up57 ?_ (by decide)) | (refine fr_up ?_ (by decide) (by decide)) | (refine fr_row ?_ (by decide) (by decide)))
      exact ⟨_, _, _, n, e1, e2 _ hz', ⟨⟨c_hn (fr_use hf (by decide)) hn, hq1, c_hq2 (fr_use hf (by decide)) hq2, c_hq3 (fr_use hf (by decide)) hq3, c_hq4 (fr_use hf (by decide)) hq4, c_hq5 (fr_use hf (by decide)) hq5, c_hq6 (fr_use hf (by decide)) hq6, c_hq7 (fr_use hf (by decide)) hq7, c_hq8 (fr_use hf (by decide)) hq8, c_hla (fr_use hf (by decide)) hla, c_hpl (fr_use hf (by decide)) hpl, c_hfd (fr_use hf (by decide)) hfd, c_hsd (fr_use hf (by decide)) hsd⟩, c_hpa (fr_use hf (by decide)) hpa, c_htp (fr_use hf (by decide)) htp, c_hpi (fr_use hf (by decide)) hpi, c_hfx (fr_use hf (by decide)) hfx⟩, congrFun (hf.1 0 (by decide) (by decide)) 10⟩
    · simp only [c2, if_false] at e1 e2
      by_cases c3 : 12 ≤ k
      · have c4 : 12 = k := by omega
        rw [if_pos c3] at e1
        simp only [if_pos c4] at e2
        have hf : fr_ [13, 14, 81] [0, 40] σ (nd_up σ 60 0 0) := (by repeat first | exact fr_rf | (refine fr_up57 ?_ (by decide)) | (refine fr_up ?_ (by decide) (by decide)) | (refine fr_row ?_ (by decide) (by decide)))
        exact ⟨_, _, _, n, e1, e2 _ hz', ⟨⟨c_hn (fr_use hf (by decide)) hn, hq1, c_hq2 (fr_use hf (by decide)) hq2, c_hq3 (fr_use hf (by decide)) hq3, c_hq4 (fr_use hf (by decide)) hq4, c_hq5 (fr_use hf (by decide)) hq5, c_hq6 (fr_use hf (by decide)) hq6, c_hq7 (fr_use hf (by decide)) hq7, c_hq8 (fr_use hf (by decide)) hq8, c_hla (fr_use hf (by decide)) hla, c_hpl (fr_use hf (by decide)) hpl, c_hfd (fr_use hf (by decide)) hfd, c_hsd (fr_use hf (by decide)) hsd⟩, c_hpa (fr_use hf (by decide)) hpa, c_htp (fr_use hf (by decide)) htp, c_hpi (fr_use hf (by decide)) hpi, c_hfx (fr_use hf (by decide)) hfx⟩, congrFun (hf.1 0 (by decide) (by decide)) 10⟩
      · have c4 : ¬ 12 = k := by omega
        rw [if_neg c3] at e1
        simp only [if_neg c4] at e2
        have hf : fr_ [13, 14, 81] [0, 40] σ (nd_up (nd_up (nd_up (nd_up (nd_up σ 14 k x1) 13 1 (nI (k + 1))) 60 0 0) 81 k x1) 60 40 (nI (k + 1))) := (by repeat first | exact fr_rf | (refine fr_up57 ?_ (by decide)) | (refine fr_up ?_ (by decide) (by decide)) | (refine fr_row ?_ (by decide) (by decide)))
        refine ⟨_, _, _, n, e1, e2 _ hz', ⟨⟨c_hn (fr_use hf (by decide)) hn, ?_, c_hq2 (fr_use hf (by decide)) hq2, c_hq3 (fr_use hf (by decide)) hq3, c_hq4 (fr_use hf (by decide)) hq4, c_hq5 (fr_use hf (by decide)) hq5, c_hq6 (fr_use hf (by decide)) hq6, c_hq7 (fr_use hf (by decide)) hq7, c_hq8 (fr_use hf (by decide)) hq8, c_hla (fr_use hf (by decide)) hla, c_hpl (fr_use hf (by decide)) hpl, c_hfd (fr_use hf (by decide)) hfd, c_hsd (fr_use hf (by decide)) hsd⟩, c_hpa (fr_use hf (by decide)) hpa, c_htp (fr_use hf (by decide)) htp, c_hpi (fr_use hf (by decide)) hpi, c_hfx (fr_use hf (by decide)) hfx⟩, congrFun (hf.1 0 (by decide) (by decide)) 10⟩
        exact tell_new (by decide) (by decide) c2 (by omega) hr
theorem op_dowry {F : Nat} (hF : 300000 ≤ F) (x1 : Int32) : op_ (f_X10_dowry F x1) (f_X11_dowry F x1) := by
  intro σ n hI
  obtain ⟨⟨hn, hq1, hq2, hq3, hq4, hq5, hq6, hq7, hq8, hla, hpl, hfd, hsd⟩, hpa, htp, hpi, hfx⟩ := hI
  obtain ⟨k, hk, hz, hz', hr⟩ := id hq3
  have e1 : f_X10_dowry F x1 σ = some (q_tell 17 18 10 k x1 0 60 σ) := by
    unfold f_X10_dowry
    rw [e_tell (by decide) hz (by decide) hk]; rfl
  have e2 := fun τ h => e_dowryM (F := F) (σ := τ) (n := k) h hk x1
  unfold q_tell at e1
  unfold q_tellM at e2
  by_cases c1 : x1 = -1
  · simp only [c1, if_true] at e1 e2
    subst c1
    have hf : fr_ [17, 18, 89] [0, 50] σ (nd_up (nd_up (nd_up σ 17 1 0) 60 0 0) 60 50 0) := (by repeat first | exact fr_rf | (refine fr_up57 ?_ (by decide)) | (refine fr_up ?_ (by decide) (by decide)) | (refine fr_row ?_ (by decide) (by decide)))
    exact ⟨_, _, _, n, e1, e2 _ hz', ⟨⟨c_hn (fr_use hf (by decide)) hn, c_hq1 (fr_use hf (by decide)) hq1, c_hq2 (fr_use hf (by decide)) hq2, tell_0, c_hq4 (fr_use hf (by decide)) hq4, c_hq5 (fr_use hf (by decide)) hq5, c_hq6 (fr_use hf (by decide)) hq6, c_hq7 (fr_use hf (by decide)) hq7, c_hq8 (fr_use hf (by decide)) hq8, c_hla (fr_use hf (by decide)) hla, c_hpl (fr_use hf (by decide)) hpl, c_hfd (fr_use hf (by decide)) hfd, c_hsd (fr_use hf (by decide)) hsd⟩, c_hpa (fr_use hf (by decide)) hpa, c_htp (fr_use hf (by decide)) htp, c_hpi (fr_use hf (by decide)) hpi, c_hfx (fr_use hf (by decide)) hfx⟩, congrFun (hf.1 0 (by decide) (by decide)) 10⟩
  · simp only [c1, if_false] at e1 e2
    by_cases c2 : x1 < 0 ∨ 60 < x1
    · simp only [c2, if_true] at e1 e2
      have hf : fr_ [17, 18, 89] [0, 50] σ (nd_up σ 60 0 0) := (by repeat first | exact fr_rf | (refine fr_up57 ?_ (by decide)) | (refine fr_up ?_ (by decide) (by decide)) | (refine fr_row ?_ (by decide) (by decide)))
      exact ⟨_, _, _, n, e1, e2 _ hz', ⟨⟨c_hn (fr_use hf (by decide)) hn, c_hq1 (fr_use hf (by decide)) hq1, c_hq2 (fr_use hf (by decide)) hq2, hq3, c_hq4 (fr_use hf (by decide)) hq4, c_hq5 (fr_use hf (by decide)) hq5, c_hq6 (fr_use hf (by decide)) hq6, c_hq7 (fr_use hf (by decide)) hq7, c_hq8 (fr_use hf (by decide)) hq8, c_hla (fr_use hf (by decide)) hla, c_hpl (fr_use hf (by decide)) hpl, c_hfd (fr_use hf (by decide)) hfd, c_hsd (fr_use hf (by decide)) hsd⟩, c_hpa (fr_use hf (by decide)) hpa, c_htp (fr_use hf (by decide)) htp, c_hpi (fr_use hf (by decide)) hpi, c_hfx (fr_use hf (by decide)) hfx⟩, congrFun (hf.1 0 (by decide) (by decide)) 10⟩
    · simp only [c2, if_false] at e1 e2
      by_cases c3 : 10 ≤ k
      · have c4 : 10 = k := by omega
        rw [if_pos c3] at e1
        simp only [if_pos c4] at e2
        have hf : fr_ [17, 18, 89] [0, 50] σ (nd_up σ 60 0 0) := (by repeat first | exact fr_rf | (refine fr_up57 ?_ (by decide)) | (refine fr_up ?_ (by decide) (by decide)) | (refine fr_row ?_ (by decide) (by decide)))
        exact ⟨_, _, _, n, e1, e2 _ hz', ⟨⟨c_hn (fr_use hf (by decide)) hn, c_hq1 (fr_use hf (by decide)) hq1, c_hq2 (fr_use hf (by decide)) hq2, hq3, c_hq4 (fr_use hf (by decide)) hq4, c_hq5 (fr_use hf (by decide)) hq5, c_hq6 (fr_use hf (by decide)) hq6, c_hq7 (fr_use hf (by decide)) hq7, c_hq8 (fr_use hf (by decide)) hq8, c_hla (fr_use hf (by decide)) hla, c_hpl (fr_use hf (by decide)) hpl, c_hfd (fr_use hf (by decide)) hfd, c_hsd (fr_use hf (by decide)) hsd⟩, c_hpa (fr_use hf (by decide)) hpa, c_htp (fr_use hf (by decide)) htp, c_hpi (fr_use hf (by decide)) hpi, c_hfx (fr_use hf (by decide)) hfx⟩, congrFun (hf.1 0 (by decide) (by decide)) 10⟩
      · have c4 : ¬ 10 = k := by omega
        rw [if_neg c3] at e1
        simp only [if_neg c4] at e2
        have hf : fr_ [17, 18, 89] [0, 50] σ (nd_up (nd_up (nd_up (nd_up (nd_up σ 18 k x1) 17 1 (nI (k + 1))) 60 0 0) 89 k x1) 60 50 (nI (k + 1))) := (by repeat first | exact fr_rf | (refine fr_up57 ?_ (by decide)) | (refine fr_up ?_ (by decide) (by decide)) | (refine fr_row ?_ (by decide) (by decide)))
        refine ⟨_, _, _, n, e1, e2 _ hz', ⟨⟨c_hn (fr_use hf (by decide)) hn, c_hq1 (fr_use hf (by decide)) hq1, c_hq2 (fr_use hf (by decide)) hq2, ?_, c_hq4 (fr_use hf (by decide)) hq4, c_hq5 (fr_use hf (by decide)) hq5, c_hq6 (fr_use hf (by decide)) hq6, c_hq7 (fr_use hf (by decide)) hq7, c_hq8 (fr_use hf (by decide)) hq8, c_hla (fr_use hf (by decide)) hla, c_hpl (fr_use hf (by decide)) hpl, c_hfd (fr_use hf (by decide)) hfd, c_hsd (fr_use hf (by decide)) hsd⟩, c_hpa (fr_use hf (by decide)) hpa, c_htp (fr_use hf (by decide)) htp, c_hpi (fr_use hf (by decide)) hpi, c_hfx (fr_use hf (by decide)) hfx⟩, congrFun (hf.1 0 (by decide) (by decide)) 10⟩
        exact tell_new (by decide) (by decide) c2 (by omega) hr
theorem op_height {F : Nat} (hF : 300000 ≤ F) (x1 : Int32) : op_ (f_X10_height F x1) (f_X11_height F x1) := by
  intro σ n hI
  obtain ⟨⟨hn, hq1, hq2, hq3, hq4, hq5, hq6, hq7, hq8, hla, hpl, hfd, hsd⟩, hpa, htp, hpi, hfx⟩ := hI
  obtain ⟨k, hk, hz, hz', hr⟩ := id hq5
  have e1 : f_X10_height F x1 σ = some (q_tell 21 22 10 k x1 1 60 σ) := by
    unfold f_X10_height
    rw [e_tell (by decide) hz (by decide) hk]; rfl
  have e2 := fun τ h => e_heightM (F := F) (σ := τ) (n := k) h hk x1
  unfold q_tell at e1
  unfold q_tellM at e2
  by_cases c1 : x1 = -1
  · simp only [c1, if_true] at e1 e2
    subst c1
    have hf : fr_ [21, 22, 96] [0, 61] σ (nd_up (nd_up (nd_up σ 21 1 0) 60 0 0) 60 61 0) := (by repeat first | exact fr_rf | (refine fr_up57 ?_ (by decide)) | (refine fr_up ?_ (by decide) (by decide)) | (refine fr_row ?_ (by decide) (by decide)))
    exact ⟨_, _, _, n, e1, e2 _ hz', ⟨⟨c_hn (fr_use hf (by decide)) hn, c_hq1 (fr_use hf (by decide)) hq1, c_hq2 (fr_use hf (by decide)) hq2, c_hq3 (fr_use hf (by decide)) hq3, c_hq4 (fr_use hf (by decide)) hq4, tell_0, c_hq6 (fr_use hf (by decide)) hq6, c_hq7 (fr_use hf (by decide)) hq7, c_hq8 (fr_use hf (by decide)) hq8, c_hla (fr_use hf (by decide)) hla, c_hpl (fr_use hf (by decide)) hpl, c_hfd (fr_use hf (by decide)) hfd, c_hsd (fr_use hf (by decide)) hsd⟩, c_hpa (fr_use hf (by decide)) hpa, c_htp (fr_use hf (by decide)) htp, c_hpi (fr_use hf (by decide)) hpi, c_hfx (fr_use hf (by decide)) hfx⟩, congrFun (hf.1 0 (by decide) (by decide)) 10⟩
  · simp only [c1, if_false] at e1 e2
    by_cases c2 : x1 < 1 ∨ 60 < x1
    · simp only [c2, if_true] at e1 e2
      have hf : fr_ [21, 22, 96] [0, 61] σ (nd_up σ 60 0 0) := (by repeat first | exact fr_rf | (refine fr_up57 ?_ (by decide)) | (refine fr_up ?_ (by decide) (by decide)) | (refine fr_row ?_ (by decide) (by decide)))
      exact ⟨_, _, _, n, e1, e2 _ hz', ⟨⟨c_hn (fr_use hf (by decide)) hn, c_hq1 (fr_use hf (by decide)) hq1, c_hq2 (fr_use hf (by decide)) hq2, c_hq3 (fr_use hf (by decide)) hq3, c_hq4 (fr_use hf (by decide)) hq4, hq5, c_hq6 (fr_use hf (by decide)) hq6, c_hq7 (fr_use hf (by decide)) hq7, c_hq8 (fr_use hf (by decide)) hq8, c_hla (fr_use hf (by decide)) hla, c_hpl (fr_use hf (by decide)) hpl, c_hfd (fr_use hf (by decide)) hfd, c_hsd (fr_use hf (by decide)) hsd⟩, c_hpa (fr_use hf (by decide)) hpa, c_htp (fr_use hf (by decide)) htp, c_hpi (fr_use hf (by decide)) hpi, c_hfx (fr_use hf (by decide)) hfx⟩, congrFun (hf.1 0 (by decide) (by decide)) 10⟩
    · simp only [c2, if_false] at e1 e2
      by_cases c3 : 10 ≤ k
      · have c4 : 10 = k := by omega
        rw [if_pos c3] at e1
        simp only [if_pos c4] at e2
        have hf : fr_ [21, 22, 96] [0, 61] σ (nd_up σ 60 0 0) := (by repeat first | exact fr_rf | (refine fr_up57 ?_ (by decide)) | (refine fr_up ?_ (by decide) (by decide)) | (refine fr_row ?_ (by decide) (by decide)))
        exact ⟨_, _, _, n, e1, e2 _ hz', ⟨⟨c_hn (fr_use hf (by decide)) hn, c_hq1 (fr_use hf (by decide)) hq1, c_hq2 (fr_use hf (by decide)) hq2, c_hq3 (fr_use hf (by decide)) hq3, c_hq4 (fr_use hf (by decide)) hq4, hq5, c_hq6 (fr_use hf (by decide)) hq6, c_hq7 (fr_use hf (by decide)) hq7, c_hq8 (fr_use hf (by decide)) hq8, c_hla (fr_use hf (by decide)) hla, c_hpl (fr_use hf (by decide)) hpl, c_hfd (fr_use hf (by decide)) hfd, c_hsd (fr_use hf (by decide)) hsd⟩, c_hpa (fr_use hf (by decide)) hpa, c_htp (fr_use hf (by decide)) htp, c_hpi (fr_use hf (by decide)) hpi, c_hfx (fr_use hf (by decide)) hfx⟩, congrFun (hf.1 0 (by decide) (by decide)) 10⟩
      · have c4 : ¬ 10 = k := by omega
        rw [if_neg c3] at e1
        simp only [if_neg c4] at e2
        have hf : fr_ [21, 22, 96] [0, 61] σ (nd_up (nd_up (nd_up (nd_up (nd_up σ 22 k x1) 21 1 (nI (k + 1))) 60 0 0) 96 k x1) 60 61 (nI (k + 1))) := (by repeat first | exact fr_rf | (refine fr_up57 ?_ (by decide)) | (refine fr_up ?_ (by decide) (by decide)) | (refine fr_row ?_ (by decide) (by decide)))
        refine ⟨_, _, _, n, e1, e2 _ hz', ⟨⟨c_hn (fr_use hf (by decide)) hn, c_hq1 (fr_use hf (by decide)) hq1, c_hq2 (fr_use hf (by decide)) hq2, c_hq3 (fr_use hf (by decide)) hq3, c_hq4 (fr_use hf (by decide)) hq4, ?_, c_hq6 (fr_use hf (by decide)) hq6, c_hq7 (fr_use hf (by decide)) hq7, c_hq8 (fr_use hf (by decide)) hq8, c_hla (fr_use hf (by decide)) hla, c_hpl (fr_use hf (by decide)) hpl, c_hfd (fr_use hf (by decide)) hfd, c_hsd (fr_use hf (by decide)) hsd⟩, c_hpa (fr_use hf (by decide)) hpa, c_htp (fr_use hf (by decide)) htp, c_hpi (fr_use hf (by decide)) hpi, c_hfx (fr_use hf (by decide)) hfx⟩, congrFun (hf.1 0 (by decide) (by decide)) 10⟩
        exact tell_new (by decide) (by decide) c2 (by omega) hr
