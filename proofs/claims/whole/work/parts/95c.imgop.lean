/-! image: the calls -/
theorem rw_mk {c c' : nd_Mem} {b M m : Nat} (h1 : c b 1 = nI m) (h2 : c' b 1 = nI m) (hm : m ≤ M) (hM : M < 2147483648) (h3 : ∀ k : Nat, k < m → c' (b + 1) k = c (b + 1) k) : rw_ c c' b M := by
  refine ⟨by rw [h1, h2], fun n k e hn hk => h3 k ?_⟩
  rw [h1] at e
  have := (nI_eq (by omega) (by omega)).mp e
  omega
theorem sizes_ {c r : nd_Mem} {n : Nat} (hK : iv_K c r n) : ∃ m1 m2 m3 m4 m5 m6 m7 m8 : Nat, (c 4 1 = nI m1 ∧ m1 ≤ 64) ∧ (c 6 1 = nI m2 ∧ m2 ≤ 400) ∧ (c 8 1 = nI m3 ∧ m3 ≤ 64) ∧ (c 13 1 = nI m4 ∧ m4 ≤ 12) ∧ (c 15 1 = nI m5 ∧ m5 ≤ 6) ∧ (c 17 1 = nI m6 ∧ m6 ≤ 10) ∧ (c 19 1 = nI m7 ∧ m7 ≤ 14) ∧ (c 21 1 = nI m8 ∧ m8 ≤ 10) := by
  obtain ⟨hn, ⟨n1, a1, a2, _⟩, ⟨cs, b1, b2, _⟩, ⟨n3, c1, c2, _⟩, ⟨n4, d1, d2, _⟩, ⟨n5, e1, e2, _⟩, hq6, hq7, hq8, ⟨L, C, l1, l2, l3, l4, _⟩, ⟨P, p1, p2, _⟩, hfd, hsd⟩ := hK
  exact ⟨4 * L, C, 4 * P, n1, cs.length, n3, n4, n5, ⟨l3, by omega⟩, ⟨l4, l2⟩, ⟨p2, by omega⟩, ⟨a2, a1⟩, ⟨b2, b1⟩, ⟨c2, c1⟩, ⟨d2, d1⟩, ⟨e2, e1⟩⟩
abbrev pic_ : List Nat := [101, 102, 103, 104, 105, 106, 107, 108, 109, 110, 111, 112, 113, 114, 115, 116, 117, 118, 119, 120, 121, 122, 123]
theorem e_takeC {F n : Nat} {σ r : nd_Mem} (hF : 300000 ≤ F) (hK : iv_K σ r n) : ∃ τ : nd_Mem, f_X2_take F 1 2 3 11 600 12 σ = some (0, τ) ∧ fr_ pic_ [] σ τ ∧ cg_ σ (fun i => τ (100 + i)) := by
  obtain ⟨m1, m2, m3, m4, m5, m6, m7, m8, ⟨h1, k1⟩, ⟨h2, k2⟩, ⟨h3, k3⟩, ⟨h4, k4⟩, ⟨h5, k5⟩, ⟨h6, k6⟩, ⟨h7, k7⟩, ⟨h8, k8⟩⟩ := sizes_ hK
  obtain ⟨u, v, c1, c2, c3⟩ := e_copyS (F := F) (σ := σ) (b := 101) (a := 102) (b' := 1) (a' := 2) (by decide) (by decide) (by decide)
  obtain ⟨t1, q1⟩ : ∃ t : nd_Mem, t = nd_row (nd_row σ 102 v) 101 u := ⟨_, rfl⟩
  rw [← q1] at c1
  have f1 : fr_ pic_ [] σ t1 := by rw [q1]; exact (by repeat first | exact fr_rf | (refine fr_up57 ?_ (by decide)) | (refine fr_up ?_ (by decide) (by decide)) | (refine fr_row ?_ (by decide) (by decide)))
  obtain ⟨t2, d1, d2, ⟨d3, d4, d5⟩, ⟨d6, d7⟩, ⟨d8, d9⟩, ⟨d10, d11⟩, d12⟩ := e_copyU (F := F) (σ := t1) (b := 103) (o := 3) (by omega) hF (by rw [f1.1 (3 + 1) (by decide) (by decide)]; exact h1) (by rw [f1.1 (3 + 3) (by decide) (by decide)]; exact h2) (by rw [f1.1 (3 + 5) (by decide) (by decide)]; exact h3) k1 k2 k3
  have f2 : fr_ pic_ [] σ t2 := fr_t f1 (fr_w d2 (by decide) (fun _ h => h))
  obtain ⟨t3, q3⟩ : ∃ t : nd_Mem, t = nd_row t2 111 (va_cpy (t2 11) (t2 111) 0 0 600) := ⟨_, rfl⟩
  have f3 : fr_ pic_ [] σ t3 := by rw [q3]; exact fr_row f2 (by decide) (by decide)
  obtain ⟨t4, g1, g2, ⟨g3, g4⟩, ⟨g5, g6⟩, ⟨g7, g8⟩, ⟨g9, g10⟩, ⟨g11, g12⟩, g13⟩ := e_copyT (F := F) (σ := t3) (b := 112) (o := 12) (by omega) (by rw [f3.1 (12 + 1) (by decide) (by decide)]; exact h4) (by rw [f3.1 (12 + 3) (by decide) (by decide)]; exact h5) (by rw [f3.1 (12 + 5) (by decide) (by decide)]; exact h6) (by rw [f3.1 (12 + 7) (by decide) (by decide)]; exact h7) (by rw [f3.1 (12 + 9) (by decide) (by decide)]; exact h8) k4 k5 k6 k7 k8
  have f4 : fr_ pic_ [] σ t4 := fr_t f3 (fr_w g2 (by decide) (fun _ h => h))
  have b4 : ∀ i : Nat, i < 112 → i ≠ 60 → t4 i = t3 i := fun i hi h57 => g2.1 i (by simp only [List.mem_cons, List.not_mem_nil, or_false]; omega) h57
  have b2 : ∀ i : Nat, (i < 103 ∨ 110 < i) → i ≠ 60 → t2 i = t1 i := fun i hi h57 => d2.1 i (by simp only [List.mem_cons, List.not_mem_nil, or_false]; omega) h57
  have b3 : ∀ i : Nat, i ≠ 111 → t3 i = t2 i := fun i hi => by rw [q3, nd_row_ne hi]
  refine ⟨t4, ?_, f4, ?_⟩
  · unfold f_X2_take
    rw [c1, n_bind, d1, n_bind, if_neg (by decide), n_let]
    show nd_bind (f_X8_copy F 112 12 (nd_row t2 111 (va_cpy (t2 11) (t2 111) 0 0 600))) _ = _
    rw [← q3, g1, n_bind]
  · refine ⟨fun k a b => ?_, fun k a => ?_, ⟨?_, ?_, ?_⟩, rw_mk h1 ?_ k1 (by decide) (fun k hk => ?_), rw_mk h2 ?_ k2 (by decide) (fun k hk => ?_), rw_mk h3 ?_ k3 (by decide) (fun k hk => ?_), fun k hk => ?_, fun k hk => ?_, rw_mk h4 g3 k4 (by decide) (fun k hk => ?_), rw_mk h5 g5 k5 (by decide) (fun k hk => ?_), rw_mk h6 g7 k6 (by decide) (fun k hk => ?_), rw_mk h7 g9 k7 (by decide) (fun k hk => ?_), rw_mk h8 g11 k8 (by decide) (fun k hk => ?_), fun k hk => ?_⟩
    · show t4 101 k = _
      rw [b4 101 (by decide) (by decide), b3 101 (by decide), b2 101 (by decide) (by decide), q1, w_eq, c2 k a b]
    · show t4 102 k = _
      rw [b4 102 (by decide) (by decide), b3 102 (by decide), b2 102 (by decide) (by decide), q1, w_ne (by decide), w_eq, c3 k a]
    · show t4 103 4 = _
      rw [b4 103 (by decide) (by decide), b3 103 (by decide), d3, f1.1 3 (by decide) (by decide)]
    · show t4 103 5 = _
      rw [b4 103 (by decide) (by decide), b3 103 (by decide), d4, f1.1 3 (by decide) (by decide)]
    · show t4 103 6 = _
      rw [b4 103 (by decide) (by decide), b3 103 (by decide), d5, f1.1 3 (by decide) (by decide)]
    · show t4 104 1 = _
      rw [b4 104 (by decide) (by decide), b3 104 (by decide)]
      exact d6
    · show t4 105 k = _
      rw [b4 105 (by decide) (by decide), b3 105 (by decide), show t2 105 k = t1 5 k from d7 k hk, f1.1 5 (by decide) (by decide)]
    · show t4 106 1 = _
      rw [b4 106 (by decide) (by decide), b3 106 (by decide)]
      exact d8
    · show t4 107 k = _
      rw [b4 107 (by decide) (by decide), b3 107 (by decide), show t2 107 k = t1 7 k from d9 k hk, f1.1 7 (by decide) (by decide)]
    · show t4 108 1 = _
      rw [b4 108 (by decide) (by decide), b3 108 (by decide)]
      exact d10
    · show t4 109 k = _
      rw [b4 109 (by decide) (by decide), b3 109 (by decide), show t2 109 k = t1 9 k from d11 k hk, f1.1 9 (by decide) (by decide)]
    · show t4 110 k = _
      rw [b4 110 (by decide) (by decide), b3 110 (by decide), show t2 110 k = t1 10 k from d12 k hk, f1.1 10 (by decide) (by decide)]
    · show t4 111 k = _
      rw [b4 111 (by decide) (by decide), q3, w_eq, va_lo hk, f2.1 11 (by decide) (by decide)]
    · show t4 114 k = _
      rw [show t4 114 k = t3 14 k from g4 k hk, f3.1 14 (by decide) (by decide)]
    · show t4 116 k = _
      rw [show t4 116 k = t3 16 k from g6 k hk, f3.1 16 (by decide) (by decide)]
    · show t4 118 k = _
      rw [show t4 118 k = t3 18 k from g8 k hk, f3.1 18 (by decide) (by decide)]
    · show t4 120 k = _
      rw [show t4 120 k = t3 20 k from g10 k hk, f3.1 20 (by decide) (by decide)]
    · show t4 122 k = _
      rw [show t4 122 k = t3 22 k from g12 k hk, f3.1 22 (by decide) (by decide)]
    · show t4 123 k = _
      rw [show t4 123 k = t3 23 k from g13 k hk, f3.1 23 (by decide) (by decide)]
abbrev cls_ : List Nat := [1, 2, 3, 4, 5, 6, 7, 8, 9, 10, 11, 13, 14, 15, 16, 17, 18, 19, 20, 21, 22, 23]
theorem e_giveC {F n : Nat} {σ r : nd_Mem} (hF : 300000 ≤ F) (hK : iv_K (fun i => σ (100 + i)) r n) : ∃ τ : nd_Mem, f_X2_give F 1 2 3 11 600 12 σ = some (0, τ) ∧ fr_ cls_ [] σ τ ∧ cg_ (fun i => σ (100 + i)) τ := by
  obtain ⟨m1, m2, m3, m4, m5, m6, m7, m8, ⟨h1, k1⟩, ⟨h2, k2⟩, ⟨h3, k3⟩, ⟨h4, k4⟩, ⟨h5, k5⟩, ⟨h6, k6⟩, ⟨h7, k7⟩, ⟨h8, k8⟩⟩ := sizes_ hK
  obtain ⟨u, v, c1, c2, c3⟩ := e_copyS (F := F) (σ := σ) (b := 1) (a := 2) (b' := 101) (a' := 102) (by decide) (by decide) (by decide)
  obtain ⟨t1, q1⟩ : ∃ t : nd_Mem, t = nd_row (nd_row σ 2 v) 1 u := ⟨_, rfl⟩
  rw [← q1] at c1
  have f1 : fr_ cls_ [] σ t1 := by rw [q1]; exact (by repeat first | exact fr_rf | (refine fr_up57 ?_ (by decide)) | (refine fr_up ?_ (by decide) (by decide)) | (refine fr_row ?_ (by decide) (by decide)))
  obtain ⟨t2, d1, d2, ⟨d3, d4, d5⟩, ⟨d6, d7⟩, ⟨d8, d9⟩, ⟨d10, d11⟩, d12⟩ := e_copyU (F := F) (σ := t1) (b := 3) (o := 103) (by omega) hF (by rw [f1.1 (103 + 1) (by decide) (by decide)]; exact h1) (by rw [f1.1 (103 + 3) (by decide) (by decide)]; exact h2) (by rw [f1.1 (103 + 5) (by decide) (by decide)]; exact h3) k1 k2 k3
  have f2 : fr_ cls_ [] σ t2 := fr_t f1 (fr_w d2 (by decide) (fun _ h => h))
  obtain ⟨t3, q3⟩ : ∃ t : nd_Mem, t = nd_row t2 11 (va_cpy (t2 111) (t2 11) 0 0 600) := ⟨_, rfl⟩
  have f3 : fr_ cls_ [] σ t3 := by rw [q3]; exact fr_row f2 (by decide) (by decide)
  obtain ⟨t4, g1, g2, ⟨g3, g4⟩, ⟨g5, g6⟩, ⟨g7, g8⟩, ⟨g9, g10⟩, ⟨g11, g12⟩, g13⟩ := e_copyT (F := F) (σ := t3) (b := 12) (o := 112) (by omega) (by rw [f3.1 (112 + 1) (by decide) (by decide)]; exact h4) (by rw [f3.1 (112 + 3) (by decide) (by decide)]; exact h5) (by rw [f3.1 (112 + 5) (by decide) (by decide)]; exact h6) (by rw [f3.1 (112 + 7) (by decide) (by decide)]; exact h7) (by rw [f3.1 (112 + 9) (by decide) (by decide)]; exact h8) k4 k5 k6 k7 k8
  have f4 : fr_ cls_ [] σ t4 := fr_t f3 (fr_w g2 (by decide) (fun _ h => h))
  have b4 : ∀ i : Nat, i < 13 → t4 i = t3 i := fun i hi => g2.1 i (by simp only [List.mem_cons, List.not_mem_nil, or_false]; omega) (by omega)
  have b2 : ∀ i : Nat, (i < 3 ∨ 10 < i) → i ≠ 60 → t2 i = t1 i := fun i hi h57 => d2.1 i (by simp only [List.mem_cons, List.not_mem_nil, or_false]; omega) h57
  have b3 : ∀ i : Nat, i ≠ 11 → t3 i = t2 i := fun i hi => by rw [q3, nd_row_ne hi]
  refine ⟨t4, ?_, f4, ?_⟩
  · unfold f_X2_give
    rw [c1, n_bind, d1, n_bind, if_neg (by decide), n_let]
    show nd_bind (f_X8_copy F 12 112 (nd_row t2 11 (va_cpy (t2 111) (t2 11) 0 0 600))) _ = _
    rw [← q3, g1, n_bind]
  · refine ⟨fun k a b => ?_, fun k a => ?_, ⟨?_, ?_, ?_⟩, rw_mk h1 ?_ k1 (by decide) (fun k hk => ?_), rw_mk h2 ?_ k2 (by decide) (fun k hk => ?_), rw_mk h3 ?_ k3 (by decide) (fun k hk => ?_), fun k hk => ?_, fun k hk => ?_, rw_mk h4 g3 k4 (by decide) (fun k hk => ?_), rw_mk h5 g5 k5 (by decide) (fun k hk => ?_), rw_mk h6 g7 k6 (by decide) (fun k hk => ?_), rw_mk h7 g9 k7 (by decide) (fun k hk => ?_), rw_mk h8 g11 k8 (by decide) (fun k hk => ?_), fun k hk => ?_⟩
    · rw [b4 1 (by decide), b3 1 (by decide), b2 1 (by decide) (by decide), q1, w_eq]
      exact c2 k a b
    · rw [b4 2 (by decide), b3 2 (by decide), b2 2 (by decide) (by decide), q1, w_ne (by decide), w_eq]
      exact c3 k a
    · show t4 3 4 = σ 103 4
      rw [b4 3 (by decide), b3 3 (by decide), d3, f1.1 103 (by decide) (by decide)]
    · show t4 3 5 = σ 103 5
      rw [b4 3 (by decide), b3 3 (by decide), d4, f1.1 103 (by decide) (by decide)]
    · show t4 3 6 = σ 103 6
      rw [b4 3 (by decide), b3 3 (by decide), d5, f1.1 103 (by decide) (by decide)]
    · rw [b4 4 (by decide), b3 4 (by decide)]
      exact d6
    · show t4 5 k = σ 105 k
      rw [b4 5 (by decide), b3 5 (by decide), show t2 5 k = t1 105 k from d7 k hk, f1.1 105 (by decide) (by decide)]
    · rw [b4 6 (by decide), b3 6 (by decide)]
      exact d8
    · show t4 7 k = σ 107 k
      rw [b4 7 (by decide), b3 7 (by decide), show t2 7 k = t1 107 k from d9 k hk, f1.1 107 (by decide) (by decide)]
    · rw [b4 8 (by decide), b3 8 (by decide)]
      exact d10
    · show t4 9 k = σ 109 k
      rw [b4 9 (by decide), b3 9 (by decide), show t2 9 k = t1 109 k from d11 k hk, f1.1 109 (by decide) (by decide)]
    · show t4 10 k = σ 110 k
      rw [b4 10 (by decide), b3 10 (by decide), show t2 10 k = t1 110 k from d12 k hk, f1.1 110 (by decide) (by decide)]
    · show t4 11 k = σ 111 k
      rw [b4 11 (by decide), q3, w_eq, va_lo hk, f2.1 111 (by decide) (by decide)]
    · show t4 14 k = σ 114 k
      rw [show t4 14 k = t3 114 k from g4 k hk, f3.1 114 (by decide) (by decide)]
    · show t4 16 k = σ 116 k
      rw [show t4 16 k = t3 116 k from g6 k hk, f3.1 116 (by decide) (by decide)]
    · show t4 18 k = σ 118 k
      rw [show t4 18 k = t3 118 k from g8 k hk, f3.1 118 (by decide) (by decide)]
    · show t4 20 k = σ 120 k
      rw [show t4 20 k = t3 120 k from g10 k hk, f3.1 120 (by decide) (by decide)]
    · show t4 22 k = σ 122 k
      rw [show t4 22 k = t3 122 k from g12 k hk, f3.1 122 (by decide) (by decide)]
    · show t4 23 k = σ 123 k
      rw [show t4 23 k = t3 123 k from g13 k hk, f3.1 123 (by decide) (by decide)]
