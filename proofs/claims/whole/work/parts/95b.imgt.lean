/-! the class's copies: what is told; all of it -/
theorem e_copyT {F : Nat} {σ : nd_Mem} {b o : Nat} (hq : (b = 112 ∧ o = 12) ∨ (b = 12 ∧ o = 112)) {m1 m2 m3 m4 m5 : Nat} (s1 : σ (o + 1) 1 = nI m1) (s2 : σ (o + 3) 1 = nI m2) (s3 : σ (o + 5) 1 = nI m3) (s4 : σ (o + 7) 1 = nI m4) (s5 : σ (o + 9) 1 = nI m5) (k1 : m1 ≤ 12) (k2 : m2 ≤ 6) (k3 : m3 ≤ 10) (k4 : m4 ≤ 14) (k5 : m5 ≤ 10) : ∃ τ : nd_Mem, f_X8_copy F b o σ = some (0, τ) ∧ fr_ [b + 1, b + 2, b + 3, b + 4, b + 5, b + 6, b + 7, b + 8, b + 9, b + 10, b + 11] [] σ τ ∧ (τ (b + 1) 1 = nI m1 ∧ ∀ k : Nat, k < m1 → τ (b + 2) k = σ (o + 2) k) ∧ (τ (b + 3) 1 = nI m2 ∧ ∀ k : Nat, k < m2 → τ (b + 4) k = σ (o + 4) k) ∧ (τ (b + 5) 1 = nI m3 ∧ ∀ k : Nat, k < m3 → τ (b + 6) k = σ (o + 6) k) ∧ (τ (b + 7) 1 = nI m4 ∧ ∀ k : Nat, k < m4 → τ (b + 8) k = σ (o + 8) k) ∧ (τ (b + 9) 1 = nI m5 ∧ ∀ k : Nat, k < m5 → τ (b + 10) k = σ (o + 10) k) ∧ ∀ k : Nat, k < 10 → τ (b + 11) k = σ (o + 11) k := by
  have F0 : fr_ [b + 1, b + 2, b + 3, b + 4, b + 5, b + 6, b + 7, b + 8, b + 9, b + 10, b + 11] [] σ σ := fr_rf
  obtain ⟨g1, c1, d1⟩ := e_copyR (F := F) (σ := σ) (b := b + 1) (a := b + 2) (n := 12) (ob := o + 1) (oa := o + 2) (by omega) (by omega) (by omega) (by omega) (by decide) s1 k1
  obtain ⟨t1, h1⟩ : ∃ t : nd_Mem, t = nd_row (nd_up σ (b + 1) 1 (nI m1)) (b + 2) g1 := ⟨_, rfl⟩
  rw [← h1] at c1
  have F1 : fr_ [b + 1, b + 2, b + 3, b + 4, b + 5, b + 6, b + 7, b + 8, b + 9, b + 10, b + 11] [] σ t1 := by
    rw [h1]
    exact fr_row (fr_up F0 (by simp) (by omega)) (by simp) (by omega)
  have o1 : ∀ i : Nat, (i < b + 1 ∨ b + 11 < i) → i ≠ 60 → t1 i = σ i := fun i hi h57 => F1.1 i (by simp only [List.mem_cons, List.not_mem_nil, or_false]; omega) h57
  obtain ⟨g2, c2, d2⟩ := e_copyR (F := F) (σ := t1) (b := b + 3) (a := b + 4) (n := 6) (ob := o + 3) (oa := o + 4) (by omega) (by omega) (by omega) (by omega) (by decide) (by rw [o1 (o + 3) (by omega) (by omega)]; exact s2) k2
  obtain ⟨t2, h2⟩ : ∃ t : nd_Mem, t = nd_row (nd_up t1 (b + 3) 1 (nI m2)) (b + 4) g2 := ⟨_, rfl⟩
  rw [← h2] at c2
  have F2 : fr_ [b + 1, b + 2, b + 3, b + 4, b + 5, b + 6, b + 7, b + 8, b + 9, b + 10, b + 11] [] σ t2 := by
    rw [h2]
    exact fr_row (fr_up F1 (by simp) (by omega)) (by simp) (by omega)
  have o2 : ∀ i : Nat, (i < b + 1 ∨ b + 11 < i) → i ≠ 60 → t2 i = σ i := fun i hi h57 => F2.1 i (by simp only [List.mem_cons, List.not_mem_nil, or_false]; omega) h57
  obtain ⟨g3, c3, d3⟩ := e_copyR (F := F) (σ := t2) (b := b + 5) (a := b + 6) (n := 10) (ob := o + 5) (oa := o + 6) (by omega) (by omega) (by omega) (by omega) (by decide) (by rw [o2 (o + 5) (by omega) (by omega)]; exact s3) k3
  obtain ⟨t3, h3⟩ : ∃ t : nd_Mem, t = nd_row (nd_up t2 (b + 5) 1 (nI m3)) (b + 6) g3 := ⟨_, rfl⟩
  rw [← h3] at c3
  have F3 : fr_ [b + 1, b + 2, b + 3, b + 4, b + 5, b + 6, b + 7, b + 8, b + 9, b + 10, b + 11] [] σ t3 := by
    rw [h3]
    exact fr_row (fr_up F2 (by simp) (by omega)) (by simp) (by omega)
  have o3 : ∀ i : Nat, (i < b + 1 ∨ b + 11 < i) → i ≠ 60 → t3 i = σ i := fun i hi h57 => F3.1 i (by simp only [List.mem_cons, List.not_mem_nil, or_false]; omega) h57
  obtain ⟨g4, c4, d4⟩ := e_copyR (F := F) (σ := t3) (b := b + 7) (a := b + 8) (n := 14) (ob := o + 7) (oa := o + 8) (by omega) (by omega) (by omega) (by omega) (by decide) (by rw [o3 (o + 7) (by omega) (by omega)]; exact s4) k4
  obtain ⟨t4, h4⟩ : ∃ t : nd_Mem, t = nd_row (nd_up t3 (b + 7) 1 (nI m4)) (b + 8) g4 := ⟨_, rfl⟩
  rw [← h4] at c4
  have F4 : fr_ [b + 1, b + 2, b + 3, b + 4, b + 5, b + 6, b + 7, b + 8, b + 9, b + 10, b + 11] [] σ t4 := by
    rw [h4]
    exact fr_row (fr_up F3 (by simp) (by omega)) (by simp) (by omega)
  have o4 : ∀ i : Nat, (i < b + 1 ∨ b + 11 < i) → i ≠ 60 → t4 i = σ i := fun i hi h57 => F4.1 i (by simp only [List.mem_cons, List.not_mem_nil, or_false]; omega) h57
  obtain ⟨g5, c5, d5⟩ := e_copyR (F := F) (σ := t4) (b := b + 9) (a := b + 10) (n := 10) (ob := o + 9) (oa := o + 10) (by omega) (by omega) (by omega) (by omega) (by decide) (by rw [o4 (o + 9) (by omega) (by omega)]; exact s5) k5
  obtain ⟨t5, h5⟩ : ∃ t : nd_Mem, t = nd_row (nd_up t4 (b + 9) 1 (nI m5)) (b + 10) g5 := ⟨_, rfl⟩
  rw [← h5] at c5
  have F5 : fr_ [b + 1, b + 2, b + 3, b + 4, b + 5, b + 6, b + 7, b + 8, b + 9, b + 10, b + 11] [] σ t5 := by
    rw [h5]
    exact fr_row (fr_up F4 (by simp) (by omega)) (by simp) (by omega)
  have o5 : ∀ i : Nat, (i < b + 1 ∨ b + 11 < i) → i ≠ 60 → t5 i = σ i := fun i hi h57 => F5.1 i (by simp only [List.mem_cons, List.not_mem_nil, or_false]; omega) h57
  refine ⟨nd_row t5 (b + 11) (va_cpy (t5 (o + 11)) (t5 (b + 11)) 0 0 10), ?_, fr_row F5 (by simp) (by omega), ⟨?_, fun k hk => ?_⟩, ⟨?_, fun k hk => ?_⟩, ⟨?_, fun k hk => ?_⟩, ⟨?_, fun k hk => ?_⟩, ⟨?_, fun k hk => ?_⟩, fun k hk => ?_⟩
  · unfold f_X8_copy
    rw [c1, n_bind, c2, n_bind, c3, n_bind, c4, n_bind, c5, n_bind, if_neg (by decide), n_let]
    rfl
  · rw [w_ne (by omega), h5, w_ne (by omega), u_ne1 (by omega), h4, w_ne (by omega), u_ne1 (by omega), h3, w_ne (by omega), u_ne1 (by omega), h2, w_ne (by omega), u_ne1 (by omega), h1, w_ne (by omega), u_eq]
  · rw [w_ne (by omega), h5, w_ne (by omega), u_ne1 (by omega), h4, w_ne (by omega), u_ne1 (by omega), h3, w_ne (by omega), u_ne1 (by omega), h2, w_ne (by omega), u_ne1 (by omega), h1, w_eq, d1 k hk]
  · rw [w_ne (by omega), h5, w_ne (by omega), u_ne1 (by omega), h4, w_ne (by omega), u_ne1 (by omega), h3, w_ne (by omega), u_ne1 (by omega), h2, w_ne (by omega), u_eq]
  · rw [w_ne (by omega), h5, w_ne (by omega), u_ne1 (by omega), h4, w_ne (by omega), u_ne1 (by omega), h3, w_ne (by omega), u_ne1 (by omega), h2, w_eq, d2 k hk, o1 (o + 4) (by omega) (by omega)]
  · rw [w_ne (by omega), h5, w_ne (by omega), u_ne1 (by omega), h4, w_ne (by omega), u_ne1 (by omega), h3, w_ne (by omega), u_eq]
  · rw [w_ne (by omega), h5, w_ne (by omega), u_ne1 (by omega), h4, w_ne (by omega), u_ne1 (by omega), h3, w_eq, d3 k hk, o2 (o + 6) (by omega) (by omega)]
  · rw [w_ne (by omega), h5, w_ne (by omega), u_ne1 (by omega), h4, w_ne (by omega), u_eq]
  · rw [w_ne (by omega), h5, w_ne (by omega), u_ne1 (by omega), h4, w_eq, d4 k hk, o3 (o + 8) (by omega) (by omega)]
  · rw [w_ne (by omega), h5, w_ne (by omega), u_eq]
  · rw [w_ne (by omega), h5, w_eq, d5 k hk, o4 (o + 10) (by omega) (by omega)]
  · rw [w_eq, va_lo hk, o5 (o + 11) (by omega) (by omega)]
