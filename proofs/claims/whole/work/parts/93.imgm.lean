/-! the reference takes an image, or goes back to it -/
section IMG
variable {F : Nat} {τ : nd_Mem}
theorem e_f1 {k idx : Nat} {K : nd_Mem → nd_Res} (hi : idx ≠ 67 ∧ idx ≠ 65) (hk : k < 2400) (h67 : τ 60 67 = nI k) : ∃ τ' : nd_Mem, nd_bind (f_X11_keeps F (τ 60 idx) τ) (fun r σ2 => nd_let (nd_up σ2 60 idx r) K) = K τ' ∧ im_ F (τ 60 65) 60 idx k τ τ' := e_item (F := F) (τ := τ) (cell := 60) (idx := idx) (k := k) (K := K) (by decide) (fun e => e.2.elim hi.1 hi.2) hk h67
/-- nine numbers -/
theorem e_nine {K : nd_Mem → nd_Res} (h67 : τ 60 67 = nI 103) : ∃ τ' : nd_Mem, (nd_bind (f_X11_keeps F (τ 60 6) τ) fun r1 σ2 => (nd_let (nd_up σ2 60 6 r1) fun σ4 => (nd_bind (f_X11_keeps F (σ4 60 31) σ4) fun r5 σ6 => (nd_let (nd_up σ6 60 31 r5) fun σ8 => (nd_bind (f_X11_keeps F (σ8 60 33) σ8) fun r9 σ10 => (nd_let (nd_up σ10 60 33 r9) fun σ12 => (nd_bind (f_X11_keeps F (σ12 60 35) σ12) fun r13 σ14 => (nd_let (nd_up σ14 60 35 r13) fun σ16 => (nd_bind (f_X11_keeps F (σ16 60 40) σ16) fun r17 σ18 => (nd_let (nd_up σ18 60 40 r17) fun σ20 => (nd_bind (f_X11_keeps F (σ20 60 45) σ20) fun r21 σ22 => (nd_let (nd_up σ22 60 45 r21) fun σ24 => (nd_bind (f_X11_keeps F (σ24 60 50) σ24) fun r25 σ26 => (nd_let (nd_up σ26 60 50 r25) fun σ28 => (nd_bind (f_X11_keeps F (σ28 60 54) σ28) fun r29 σ30 => (nd_let (nd_up σ30 60 54 r29) fun σ32 => (nd_bind (f_X11_keeps F (σ32 60 61) σ32) fun r33 σ34 => (nd_let (nd_up σ34 60 61 r33) fun σ36 => K σ36)))))))))))))))))) = K τ' ∧ lo_ (τ 60 65) [60] 103 112 τ τ' ∧ (∀ j : Nat, j ∉ [6, 31, 33, 35, 40, 45, 50, 54, 61] → j ≠ 67 → τ' 60 j = τ 60 j) ∧ τ' 60 6 = τ' 99 103 ∧ τ' 60 31 = τ' 99 104 ∧ τ' 60 33 = τ' 99 105 ∧ τ' 60 35 = τ' 99 106 ∧ τ' 60 40 = τ' 99 107 ∧ τ' 60 45 = τ' 99 108 ∧ τ' 60 50 = τ' 99 109 ∧ τ' 60 54 = τ' 99 110 ∧ τ' 60 61 = τ' 99 111 := by
  obtain ⟨s1, e0, q0⟩ := e_f1 (F := F) (τ := τ) (k := 103) (idx := 6) (K := _) (by decide) (by decide) h67
  have l0 := lo_im (A := [60]) (by simp) (by decide) q0
  have x1 : s1 60 65 = τ 60 65 := l0.2.1
  obtain ⟨s2, e1, q1⟩ := e_f1 (F := F) (τ := s1) (k := 104) (idx := 31) (K := _) (by decide) (by decide) q0.1
  rw [x1] at q1
  have l1 := lo_im (A := [60]) (by simp) (by decide) q1
  have x2 : s2 60 65 = τ 60 65 := by rw [l1.2.1, x1]
  obtain ⟨s3, e2, q2⟩ := e_f1 (F := F) (τ := s2) (k := 105) (idx := 33) (K := _) (by decide) (by decide) q1.1
  rw [x2] at q2
  have l2 := lo_im (A := [60]) (by simp) (by decide) q2
  have x3 : s3 60 65 = τ 60 65 := by rw [l2.2.1, x2]
  obtain ⟨s4, e3, q3⟩ := e_f1 (F := F) (τ := s3) (k := 106) (idx := 35) (K := _) (by decide) (by decide) q2.1
  rw [x3] at q3
  have l3 := lo_im (A := [60]) (by simp) (by decide) q3
  have x4 : s4 60 65 = τ 60 65 := by rw [l3.2.1, x3]
  obtain ⟨s5, e4, q4⟩ := e_f1 (F := F) (τ := s4) (k := 107) (idx := 40) (K := _) (by decide) (by decide) q3.1
  rw [x4] at q4
  have l4 := lo_im (A := [60]) (by simp) (by decide) q4
  have x5 : s5 60 65 = τ 60 65 := by rw [l4.2.1, x4]
  obtain ⟨s6, e5, q5⟩ := e_f1 (F := F) (τ := s5) (k := 108) (idx := 45) (K := _) (by decide) (by decide) q4.1
  rw [x5] at q5
  have l5 := lo_im (A := [60]) (by simp) (by decide) q5
  have x6 : s6 60 65 = τ 60 65 := by rw [l5.2.1, x5]
  obtain ⟨s7, e6, q6⟩ := e_f1 (F := F) (τ := s6) (k := 109) (idx := 50) (K := _) (by decide) (by decide) q5.1
  rw [x6] at q6
  have l6 := lo_im (A := [60]) (by simp) (by decide) q6
  have x7 : s7 60 65 = τ 60 65 := by rw [l6.2.1, x6]
  obtain ⟨s8, e7, q7⟩ := e_f1 (F := F) (τ := s7) (k := 110) (idx := 54) (K := _) (by decide) (by decide) q6.1
  rw [x7] at q7
  have l7 := lo_im (A := [60]) (by simp) (by decide) q7
  have x8 : s8 60 65 = τ 60 65 := by rw [l7.2.1, x7]
  obtain ⟨s9, e8, q8⟩ := e_f1 (F := F) (τ := s8) (k := 111) (idx := 61) (K := _) (by decide) (by decide) q7.1
  rw [x8] at q8
  have l8 := lo_im (A := [60]) (by simp) (by decide) q8
  have x9 : s9 60 65 = τ 60 65 := by rw [l8.2.1, x8]
  refine ⟨s9, ?_, ?_, ?_, ?_, ?_, ?_, ?_, ?_, ?_, ?_, ?_, ?_⟩
  · rw [e0, e1, e2, e3, e4, e5, e6, e7, e8]
  · exact lo_w (lo_tr (by omega) (by omega) (lo_tr (by omega) (by omega) (lo_tr (by omega) (by omega) (lo_tr (by omega) (by omega) (lo_tr (by omega) (by omega) (lo_tr (by omega) (by omega) (lo_tr (by omega) (by omega) (lo_tr (by omega) (by omega) l0 l1) l2) l3) l4) l5) l6) l7) l8) (by simp)
  · intro j hj h67
    simp only [List.mem_cons, List.not_mem_nil, or_false, not_or] at hj
    rw [q8.2.2.2.2 60 j (by omega) (by omega) (by omega), q7.2.2.2.2 60 j (by omega) (by omega) (by omega), q6.2.2.2.2 60 j (by omega) (by omega) (by omega), q5.2.2.2.2 60 j (by omega) (by omega) (by omega), q4.2.2.2.2 60 j (by omega) (by omega) (by omega), q3.2.2.2.2 60 j (by omega) (by omega) (by omega), q2.2.2.2.2 60 j (by omega) (by omega) (by omega), q1.2.2.2.2 60 j (by omega) (by omega) (by omega), q0.2.2.2.2 60 j (by omega) (by omega) (by omega)]
  · rw [q8.2.2.2.2 60 6 (by omega) (by omega) (by omega), q7.2.2.2.2 60 6 (by omega) (by omega) (by omega), q6.2.2.2.2 60 6 (by omega) (by omega) (by omega), q5.2.2.2.2 60 6 (by omega) (by omega) (by omega), q4.2.2.2.2 60 6 (by omega) (by omega) (by omega), q3.2.2.2.2 60 6 (by omega) (by omega) (by omega), q2.2.2.2.2 60 6 (by omega) (by omega) (by omega), q1.2.2.2.2 60 6 (by omega) (by omega) (by omega), l8.2.2.2.2.2 _ (by omega), l7.2.2.2.2.2 _ (by omega), l6.2.2.2.2.2 _ (by omega), l5.2.2.2.2.2 _ (by omega), l4.2.2.2.2.2 _ (by omega), l3.2.2.2.2.2 _ (by omega), l2.2.2.2.2.2 _ (by omega), l1.2.2.2.2.2 _ (by omega)]
    exact q0.2.1
  · rw [q8.2.2.2.2 60 31 (by omega) (by omega) (by omega), q7.2.2.2.2 60 31 (by omega) (by omega) (by omega), q6.2.2.2.2 60 31 (by omega) (by omega) (by omega), q5.2.2.2.2 60 31 (by omega) (by omega) (by omega), q4.2.2.2.2 60 31 (by omega) (by omega) (by omega), q3.2.2.2.2 60 31 (by omega) (by omega) (by omega), q2.2.2.2.2 60 31 (by omega) (by omega) (by omega), l8.2.2.2.2.2 _ (by omega), l7.2.2.2.2.2 _ (by omega), l6.2.2.2.2.2 _ (by omega), l5.2.2.2.2.2 _ (by omega), l4.2.2.2.2.2 _ (by omega), l3.2.2.2.2.2 _ (by omega), l2.2.2.2.2.2 _ (by omega)]
    exact q1.2.1
  · rw [q8.2.2.2.2 60 33 (by omega) (by omega) (by omega), q7.2.2.2.2 60 33 (by omega) (by omega) (by omega), q6.2.2.2.2 60 33 (by omega) (by omega) (by omega), q5.2.2.2.2 60 33 (by omega) (by omega) (by omega), q4.2.2.2.2 60 33 (by omega) (by omega) (by omega), q3.2.2.2.2 60 33 (by omega) (by omega) (by omega), l8.2.2.2.2.2 _ (by omega), l7.2.2.2.2.2 _ (by omega), l6.2.2.2.2.2 _ (by omega), l5.2.2.2.2.2 _ (by omega), l4.2.2.2.2.2 _ (by omega), l3.2.2.2.2.2 _ (by omega)]
    exact q2.2.1
  · rw [q8.2.2.2.2 60 35 (by omega) (by omega) (by omega), q7.2.2.2.2 60 35 (by omega) (by omega) (by omega), q6.2.2.2.2 60 35 (by omega) (by omega) (by omega), q5.2.2.2.2 60 35 (by omega) (by omega) (by omega), q4.2.2.2.2 60 35 (by omega) (by omega) (by omega), l8.2.2.2.2.2 _ (by omega), l7.2.2.2.2.2 _ (by omega), l6.2.2.2.2.2 _ (by omega), l5.2.2.2.2.2 _ (by omega), l4.2.2.2.2.2 _ (by omega)]
    exact q3.2.1
  · rw [q8.2.2.2.2 60 40 (by omega) (by omega) (by omega), q7.2.2.2.2 60 40 (by omega) (by omega) (by omega), q6.2.2.2.2 60 40 (by omega) (by omega) (by omega), q5.2.2.2.2 60 40 (by omega) (by omega) (by omega), l8.2.2.2.2.2 _ (by omega), l7.2.2.2.2.2 _ (by omega), l6.2.2.2.2.2 _ (by omega), l5.2.2.2.2.2 _ (by omega)]
    exact q4.2.1
  · rw [q8.2.2.2.2 60 45 (by omega) (by omega) (by omega), q7.2.2.2.2 60 45 (by omega) (by omega) (by omega), q6.2.2.2.2 60 45 (by omega) (by omega) (by omega), l8.2.2.2.2.2 _ (by omega), l7.2.2.2.2.2 _ (by omega), l6.2.2.2.2.2 _ (by omega)]
    exact q5.2.1
  · rw [q8.2.2.2.2 60 50 (by omega) (by omega) (by omega), q7.2.2.2.2 60 50 (by omega) (by omega) (by omega), l8.2.2.2.2.2 _ (by omega), l7.2.2.2.2.2 _ (by omega)]
    exact q6.2.1
  · rw [q8.2.2.2.2 60 54 (by omega) (by omega) (by omega), l8.2.2.2.2.2 _ (by omega)]
    exact q7.2.1
  · exact q8.2.1
end IMG
