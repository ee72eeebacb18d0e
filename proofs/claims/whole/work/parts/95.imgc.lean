/-! the class takes an image, or goes back to it -/
section CPY
variable {F : Nat} {σ : nd_Mem}
theorem e_copyR {b a n ob oa m : Nat} (h1 : a ≠ b) (h2 : ob ≠ b) (h3 : oa ≠ b) (h5 : oa ≠ a) (hn : n < 2147483648) (hm : σ ob 1 = nI m) (hmn : m ≤ n) : ∃ g : Nat → Int32, f_X4_copy F b a n ob oa n σ = some (0, nd_row (nd_up σ b 1 (nI m)) a g) ∧ ∀ k : Nat, k < m → g k = σ oa k := by
  unfold f_X4_copy
  rw [hm, if_neg (show ¬ Int32.ofNat n < nI m from nI_nlt (a := n) hmn (by omega)), n_let, u_eq, nI_clamp (by omega), k_0, if_neg (by
    rintro (e | e | e | e | e)
    · exact absurd e (by decide)
    · exact absurd e (by decide)
    · exact nI_pos (by omega) e
    · omega
    · omega), n_let]
  refine ⟨_, rfl, fun k hk => ?_⟩
  rw [va_lo hk, u_ne1 h3]
/-- what a copy of the rules does -/
theorem e_copyU {b o : Nat} (hq : (b = 103 ∧ o = 3) ∨ (b = 3 ∧ o = 103)) (hF : 300000 ≤ F) {m1 m2 m3 : Nat} (s1 : σ (o + 1) 1 = nI m1) (s2 : σ (o + 3) 1 = nI m2) (s3 : σ (o + 5) 1 = nI m3) (k1 : m1 ≤ 64) (k2 : m2 ≤ 400) (k3 : m3 ≤ 64) : ∃ τ : nd_Mem, f_X5_copy F b o σ = some (0, τ) ∧ fr_ [b, b + 1, b + 2, b + 3, b + 4, b + 5, b + 6, b + 7] [] σ τ ∧ (τ b 4 = σ o 4 ∧ τ b 5 = σ o 5 ∧ τ b 6 = σ o 6) ∧ (τ (b + 1) 1 = nI m1 ∧ ∀ k : Nat, k < m1 → τ (b + 2) k = σ (o + 2) k) ∧ (τ (b + 3) 1 = nI m2 ∧ ∀ k : Nat, k < m2 → τ (b + 4) k = σ (o + 4) k) ∧ (τ (b + 5) 1 = nI m3 ∧ ∀ k : Nat, k < m3 → τ (b + 6) k = σ (o + 6) k) ∧ ∀ k : Nat, k < 16 → τ (b + 7) k = σ (o + 7) k := by
  obtain ⟨g1, c1, d1⟩ := e_copyR (F := F) (σ := σ) (b := b + 1) (a := b + 2) (n := 64) (ob := o + 1) (oa := o + 2) (by omega) (by omega) (by omega) (by omega) (by decide) s1 k1
  obtain ⟨g2, c2, d2⟩ := e_copyR (F := F) (σ := nd_row (nd_up σ (b + 1) 1 (nI m1)) (b + 2) g1) (b := b + 3) (a := b + 4) (n := 400) (ob := o + 3) (oa := o + 4) (by omega) (by omega) (by omega) (by omega) (by decide) (by rw [w_ne (by omega), u_ne1 (by omega)]; exact s2) k2
  obtain ⟨g3, c3, d3⟩ := e_copyR (F := F) (σ := nd_row (nd_up (nd_row (nd_up σ (b + 1) 1 (nI m1)) (b + 2) g1) (b + 3) 1 (nI m2)) (b + 4) g2) (b := b + 5) (a := b + 6) (n := 64) (ob := o + 5) (oa := o + 6) (by omega) (by omega) (by omega) (by omega) (by decide) (by rw [w_ne (by omega), u_ne1 (by omega), w_ne (by omega), u_ne1 (by omega)]; exact s3) k3
  have e0 : f_X5_take F b o (nI 0) σ = some (0, nd_row (nd_up (nd_row (nd_up σ (b + 1) 1 (nI m1)) (b + 2) g1) (b + 3) 1 (nI m2)) (b + 4) g2) := by
    unfold f_X5_take
    rw [if_pos (by decide), c1, n_bind, c2, n_bind]
  have e1 : f_X5_take F b o (nI 1) (nd_row (nd_up (nd_row (nd_up σ (b + 1) 1 (nI m1)) (b + 2) g1) (b + 3) 1 (nI m2)) (b + 4) g2) = some (0, nd_row (nd_up (nd_row (nd_up (nd_row (nd_up σ (b + 1) 1 (nI m1)) (b + 2) g1) (b + 3) 1 (nI m2)) (b + 4) g2) (b + 5) 1 (nI m3)) (b + 6) g3) := by
    unfold f_X5_take
    rw [if_neg (by decide), if_pos (by decide), c3, n_bind]
  obtain ⟨t1, ht1⟩ : ∃ t : nd_Mem, t = nd_row (nd_up (nd_row (nd_up (nd_row (nd_up σ (b + 1) 1 (nI m1)) (b + 2) g1) (b + 3) 1 (nI m2)) (b + 4) g2) (b + 5) 1 (nI m3)) (b + 6) g3 := ⟨_, rfl⟩
  rw [← ht1] at e1
  have e2 : ∃ g4 : Nat → Int32, f_X5_take F b o (nI 2) t1 = some (0, nd_up (nd_row t1 (b + 7) g4) b 4 (t1 o 4)) ∧ ∀ k : Nat, k < 16 → g4 k = t1 (o + 7) k := by
    unfold f_X5_take
    rw [if_neg (by decide), if_neg (by decide), if_pos (by decide), if_neg (by decide), n_let, n_let, w_ne (by omega)]
    exact ⟨_, rfl, fun k hk => va_lo hk⟩
  obtain ⟨g4, e2, d4⟩ := e2
  have e3 : f_X5_take F b o (nI 3) (nd_up (nd_row t1 (b + 7) g4) b 4 (t1 o 4)) = some (0, nd_up (nd_up (nd_up (nd_row t1 (b + 7) g4) b 4 (t1 o 4)) b 5 (t1 o 5)) b 6 (t1 o 6)) := by
    unfold f_X5_take
    rw [if_neg (by decide), if_neg (by decide), if_neg (by decide), n_let, n_let, u_ne1 (by omega), w_ne (by omega), u_ne1 (by omega), u_ne1 (by omega), w_ne (by omega)]
  have f1 : fr_ [b, b + 1, b + 2, b + 3, b + 4, b + 5, b + 6, b + 7] [] σ t1 := by
    rw [ht1]
    exact fr_row (fr_up (fr_row (fr_up (fr_row (fr_up fr_rf (by simp) (by omega)) (by simp) (by omega)) (by simp) (by omega)) (by simp) (by omega)) (by simp) (by omega)) (by simp) (by omega)
  have out : ∀ i : Nat, (i < b ∨ b + 7 < i) → i ≠ 60 → t1 i = σ i := fun i hi h57 => f1.1 i (by simp only [List.mem_cons, List.not_mem_nil, or_false]; omega) h57
  refine ⟨nd_up (nd_up (nd_up (nd_row t1 (b + 7) g4) b 4 (t1 o 4)) b 5 (t1 o 5)) b 6 (t1 o 6), ?_, ?_, ⟨?_, ?_, ?_⟩, ⟨?_, fun k hk => ?_⟩, ⟨?_, fun k hk => ?_⟩, ⟨?_, fun k hk => ?_⟩, fun k hk => ?_⟩
  · unfold f_X5_copy
    have key : ∀ f : Nat, f_X5_copy_2 F b o (f + 1 + 1 + 1 + 1 + 1) (nI 0) σ = some (0, nd_up (nd_up (nd_up (nd_row t1 (b + 7) g4) b 4 (t1 o 4)) b 5 (t1 o 5)) b 6 (t1 o 6)) := by
      intro f
      show f_X5_copy_2_b F _ b o (nI 0) σ = _
      unfold f_X5_copy_2_b
      rw [if_neg (by decide), e0, n_bind, nI_1]
      show f_X5_copy_2_b F _ b o (nI 1) _ = _
      unfold f_X5_copy_2_b
      rw [if_neg (by decide), e1, n_bind, nI_1]
      show f_X5_copy_2_b F _ b o (nI 2) _ = _
      unfold f_X5_copy_2_b
      rw [if_neg (by decide), e2, n_bind, nI_1]
      show f_X5_copy_2_b F _ b o (nI 3) _ = _
      unfold f_X5_copy_2_b
      rw [if_neg (by decide), e3, n_bind, nI_1]
      show f_X5_copy_2_b F _ b o (nI 4) _ = _
      unfold f_X5_copy_2_b
      rw [if_pos (by decide)]
    obtain ⟨f, hf⟩ : ∃ f, F = f + 1 + 1 + 1 + 1 + 1 := ⟨F - 5, by omega⟩
    have := key f
    rw [← hf] at this
    exact this
  · exact fr_up (fr_up (fr_up (fr_row f1 (by simp) (by omega)) (by simp) (by omega)) (by simp) (by omega)) (by simp) (by omega)
  · rw [u_ne2 (by decide), u_ne2 (by decide), u_eq, out o (by omega) (by omega)]
  · rw [u_ne2 (by decide), u_eq, out o (by omega) (by omega)]
  · rw [u_eq, out o (by omega) (by omega)]
  · rw [u_ne1 (by omega), u_ne1 (by omega), u_ne1 (by omega), w_ne (by omega), ht1, w_ne (by omega), u_ne1 (by omega), w_ne (by omega), u_ne1 (by omega), w_ne (by omega), u_eq]
  · rw [u_ne1 (by omega), u_ne1 (by omega), u_ne1 (by omega), w_ne (by omega), ht1, w_ne (by omega), u_ne1 (by omega), w_ne (by omega), u_ne1 (by omega), w_eq, d1 k hk]
  · rw [u_ne1 (by omega), u_ne1 (by omega), u_ne1 (by omega), w_ne (by omega), ht1, w_ne (by omega), u_ne1 (by omega), w_ne (by omega), u_eq]
  · rw [u_ne1 (by omega), u_ne1 (by omega), u_ne1 (by omega), w_ne (by omega), ht1, w_ne (by omega), u_ne1 (by omega), w_eq, d2 k hk, w_ne (by omega), u_ne1 (by omega)]
  · rw [u_ne1 (by omega), u_ne1 (by omega), u_ne1 (by omega), w_ne (by omega), ht1, w_ne (by omega), u_eq]
  · rw [u_ne1 (by omega), u_ne1 (by omega), u_ne1 (by omega), w_ne (by omega), ht1, w_eq, d3 k hk, w_ne (by omega), u_ne1 (by omega), w_ne (by omega), u_ne1 (by omega)]
  · rw [u_ne1 (by omega), u_ne1 (by omega), u_ne1 (by omega), w_eq, d4 k hk, out (o + 7) (by omega) (by omega)]
end CPY
