/-! look -/
theorem wid_eq {F : Nat} {σ τ : nd_Mem} {n : Nat} (h6 : τ 60 6 = nI n) (s1 : σ 1 1 = nI n) (h16 : n ≤ 16) (hg : ∀ i : Nat, i < n → σ 2 (i * 6 + 4) = τ 61 (87 + i)) : ∀ (d i : Nat) (acc : Int32) (f f' : Nat), i + d = n → d < f → d < f' → ∃ r : Int32, f_X6_widows_4 F 1 2 f acc (nI i) σ = some (r, σ) ∧ f_X11_look_183 F f' acc (nI i) τ = some (r, τ) := by
  intro d
  induction d with
  | zero =>
    intro i acc f f' hi hf hf'
    obtain ⟨f, rfl⟩ : ∃ g, f = g + 1 := ⟨f - 1, by omega⟩
    obtain ⟨f', rfl⟩ : ∃ g, f' = g + 1 := ⟨f' - 1, by omega⟩
    refine ⟨acc, ?_, ?_⟩
    · unfold f_X6_widows_4 f_X6_widows_4_b
      simp (disch := omega) only [n_lit, n_add, n_mul, n_sub, n_lt, n_le, n_eq, n_cl, n_nle, n_yle, n_nlt, n_ylt, n_neq, n_m1, n_m1l, n_m1g, n_bind, u_eq, u_ne1, u_ne2, w_eq, w_ne, eq_self, nd_let, ite_true, ite_false, if_true, if_false, false_or, or_false, true_and, and_true, not_true, not_false, true_or, or_true, Nat.not_lt_zero, Nat.zero_le, s1]
    · unfold f_X11_look_183 f_X11_look_183_b
      simp (disch := omega) only [n_lit, n_add, n_mul, n_sub, n_lt, n_le, n_eq, n_cl, n_nle, n_yle, n_nlt, n_ylt, n_neq, n_m1, n_m1l, n_m1g, n_bind, u_eq, u_ne1, u_ne2, w_eq, w_ne, eq_self, nd_let, ite_true, ite_false, if_true, if_false, false_or, or_false, true_and, and_true, not_true, not_false, true_or, or_true, Nat.not_lt_zero, Nat.zero_le, h6]
  | succ d ih =>
    intro i acc f f' hi hf hf'
    obtain ⟨f, rfl⟩ : ∃ g, f = g + 1 := ⟨f - 1, by omega⟩
    obtain ⟨f', rfl⟩ : ∃ g, f' = g + 1 := ⟨f' - 1, by omega⟩
    unfold f_X6_widows_4 f_X6_widows_4_b f_X6_widows_28 f_X11_look_183 f_X11_look_183_b f_X11_look_210
    rw [e_get4 s1 (by omega) h16]
    simp (disch := omega) only [n_lit, n_add, n_mul, n_sub, n_lt, n_le, n_eq, n_cl, n_nle, n_yle, n_nlt, n_ylt, n_neq, n_m1, n_m1l, n_m1g, n_bind, u_eq, u_ne1, u_ne2, w_eq, w_ne, eq_self, nd_let, ite_true, ite_false, if_true, if_false, false_or, or_false, true_and, and_true, not_true, not_false, true_or, or_true, Nat.not_lt_zero, Nat.zero_le, s1, h6]
    rw [hg i (by omega)]
    by_cases hc : τ 61 (87 + i) = nI 1
    · simp only [hc, if_true]
      exact ih (i + 1) _ f f' (by omega) (by omega) (by omega)
    · simp only [hc, if_false]
      exact ih (i + 1) _ f f' (by omega) (by omega) (by omega)
theorem n_div4 {L : Nat} (h : L ≤ 16) : nI (4 * L) / 4 = nI L := by
  show nI (4 * L) / nI 4 = nI L
  rw [n_div (by omega) (by omega)]
  congr 1
  omega
theorem op_look {F : Nat} (hF : 300000 ≤ F) (x1 : Int32) : op_ (f_X10_look F x1) (f_X11_look F x1) := by
  intro σ n hI
  obtain ⟨⟨hn, hq1, hq2, hq3, hq4, hq5, hq6, hq7, hq8, hla, hpl, hfd, hsd⟩, hpa, htp, hpi, hfx⟩ := id hI
  obtain ⟨s1, s3, s4, s5, s6, s7, s8, s9, s10, s11, s12⟩ := id hq7
  obtain ⟨m, x, m1, m2, m3, m4, m5, m6⟩ := id hpa
  obtain ⟨L, C, l1, l2, l3, l4, l5, l6, l7⟩ := id hla
  obtain ⟨P, p1, p2, p3, p4⟩ := id hpl
  have hf0 : fr_ [] [0] σ (nd_up σ 60 0 0) := (by repeat first | exact fr_rf | (refine fr_up57 ?_ (by decide)) | (refine fr_up ?_ (by decide) (by decide)) | (refine fr_row ?_ (by decide) (by decide)))
  have fin : ∀ r : Int32, f_X10_look F x1 σ = some (r, σ) → f_X11_look F x1 σ = some (r, nd_up σ 60 0 0) → ∃ (r : Int32) (τ ρ : nd_Mem) (n' : Nat), f_X10_look F x1 σ = some (r, τ) ∧ f_X11_look F x1 τ = some (r, ρ) ∧ iv_I n' ρ ∧ ρ 0 10 = σ 0 10 := fun r a b => ⟨r, σ, _, n, a, b, iv_fr hf0 (by decide) hI, rfl⟩
  by_cases c0 : x1 = 0
  · subst c0; exact fin (nI n) (by show some (σ 1 1, σ) = _; rw [s1]) (by show some (σ 60 6, _) = _; rw [hn.2])
  by_cases c1 : x1 = 1
  · subst c1; exact fin (σ 61 5) (by show some (σ 1 5, σ) = _; rw [s5]) rfl
  by_cases c2 : x1 = 2
  · subst c2; exact fin (σ 61 3) (by show some (σ 1 3, σ) = _; rw [s3]) rfl
  by_cases c3 : x1 = 3
  · subst c3; exact fin (σ 61 4) (by show some (σ 1 4, σ) = _; rw [s4]) rfl
  by_cases c4 : x1 = 4
  · subst c4
    refine fin (σ 1 2) rfl ?_
    show (if σ 60 6 = 0 then some (-1, nd_up σ 60 0 0) else some (σ 61 6, nd_up σ 60 0 0)) = _
    rw [hn.2]
    by_cases h0 : n = 0
    · rw [if_pos (by rw [h0]; rfl), (s10 h0).1]
    · rw [if_neg (nI_ne0 (by omega) (by have := hn.1; omega)), s11 (by omega)]
  by_cases c5 : x1 = 5
  · subst c5
    obtain ⟨r, e1, e2⟩ := wid_eq (F := F) (σ := σ) (τ := nd_up σ 60 0 0) hn.2 s1 hn.1 (fun i hi => (s12 i hi).2.2.2.2.1.1) n 0 0 F F (by omega) (by have := hn.1; omega) (by have := hn.1; omega)
    refine fin r ?_ ?_
    · show nd_bind (f_X6_widows F 1 2 σ) (fun r7 σ8 => some (r7, σ8)) = _
      unfold f_X6_widows
      rw [show (0 : Int32) = nI 0 from rfl] at *
      rw [e1, n_bind]
    · show f_X11_look_183 F F 0 0 (nd_up σ 60 0 0) = _
      exact e2
  by_cases c6 : x1 = 6
  · subst c6; exact fin (σ 61 0) (by show some (σ 1 6, σ) = _; rw [s6]) rfl
  by_cases c7 : x1 = 7
  · subst c7; exact fin (σ 61 2) (by show some (σ 1 8, σ) = _; rw [s8]) rfl
  by_cases c8 : x1 = 8
  · subst c8; exact fin (σ 61 1) (by show some (σ 1 7, σ) = _; rw [s7]) rfl
  by_cases c9 : x1 = 9
  · subst c9; exact fin (nI L) (by show some (σ 4 1 / 4, σ) = _; rw [l3, n_div4 l1]) (by show some (σ 67 0, _) = _; rw [l5])
  by_cases c10 : x1 = 10
  · subst c10; exact fin (nI P) (by show some (σ 8 1 / 4, σ) = _; rw [p2, n_div4 p1]) (by show some (σ 60 31, _) = _; rw [p3])
  by_cases c11 : x1 = 11
  · subst c11; exact fin (σ 60 33) (by show some (σ 3 4, σ) = _; rw [hfd.1]) rfl
  by_cases c12 : x1 = 12
  · subst c12; exact fin (σ 60 35) (by show some (σ 3 6, σ) = _; rw [hsd.1]) rfl
  by_cases c13 : x1 = 13
  · subst c13; exact fin (nI m) (by show some (σ 24 1, σ) = _; rw [m3]) (by show some (σ 60 3, _) = _; rw [m4])
  refine fin (-100000) ?_ ?_
  · unfold f_X10_look
    rw [if_neg c0, if_neg c1, if_neg c2, if_neg c3, if_neg c4, if_neg c5, if_neg c6, if_neg c7, if_neg c8, if_neg c9, if_neg c10, if_neg c11, if_neg c12, if_neg c13]
  · unfold f_X11_look nd_let
    dsimp only
    rw [if_neg c0, if_neg c1, if_neg c2, if_neg c3, if_neg c4, if_neg c6, if_neg c7, if_neg c8, if_neg c9, if_neg c10, if_neg c11, if_neg c12, if_neg c13, if_neg c5]
