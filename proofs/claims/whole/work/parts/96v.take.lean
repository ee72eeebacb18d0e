/-! text: what was read is taken -/
section TA
variable {F : Nat} {c r c' r' : nd_Mem}
theorem lw_f (h4 : c' 4 = c 4) (h5 : c' 5 = c 5) (h6 : c' 6 = c 6) (h7 : c' 7 = c 7) (g64 : r' 67 = r 67) (g : ∀ i : Nat, i < 32 → r' 68 i = r 68 i ∧ r' 69 i = r 69 i ∧ r' 70 i = r 70 i ∧ r' 71 i = r 71 i) (g' : ∀ i : Nat, i < 800 → r' 72 i = r 72 i ∧ r' 73 i = r 73 i) (h : iv_law c r) : iv_law c' r' := by
  obtain ⟨L, C, a1, a2, a3, a4, a5, a6, a7⟩ := h
  refine ⟨L, C, a1, a2, by rw [h4]; exact a3, by rw [h6]; exact a4, by rw [g64]; exact a5, fun l hl => ?_, fun i hi => ?_⟩
  · obtain ⟨w, f, p, t, b1, b2, b3, b4, b5, b6, b7, b8, b9, b10, b11, b12, ⟨x, b13⟩, b14⟩ := a6 l hl
    obtain ⟨q1, q2, q3, q4⟩ := g l (by omega)
    have ty : ∀ (a m : Nat) (s : List Nat), a + m ≤ C → ty_run (r' 72) (r' 73) a m s = ty_run (r 72) (r 73) a m s := fun a m s hm => ty_run_c m a s (fun j _ hj => g' j (by omega))
    refine ⟨w, f, p, t, b1, b2, b3, b4, by rw [h5]; exact b5, by rw [q1]; exact b6, by rw [h5]; exact b7, by rw [q2]; exact b8, by rw [h5]; exact b9, by rw [q3]; exact b10, by rw [h5]; exact b11, by rw [q4]; exact b12, ⟨x, by rw [ty _ _ _ (by omega)]; exact b13⟩, ?_⟩
    rcases b14 with e | e
    · exact Or.inl e
    · exact Or.inr (by rw [ty _ _ _ (by omega)]; exact e)
  · rw [h7, (g' i (by omega)).1, (g' i (by omega)).2]
    exact a7 i hi
theorem pn_f {n : Nat} (h8 : c' 8 = c 8) (h9 : c' 9 = c 9) (g : ∀ i : Nat, i < 64 → r' 75 i = r 75 i) (g31 : r' 60 31 = r 60 31) (h : iv_plan c r n) : iv_plan c' r' n := by
  obtain ⟨P, a1, a2, a3, a4⟩ := h
  refine ⟨P, a1, by rw [h8]; exact a2, by rw [g31]; exact a3, fun j hj => ?_⟩
  have := a4 j hj
  unfold iv_deed at this ⊢
  rw [h9, g (4 * j) (by omega), g (4 * j + 1) (by omega), g (4 * j + 2) (by omega), g (4 * j + 3) (by omega)]
  exact this
theorem fe_f {n : Nat} (h3 : c' 3 4 = c 3 4) (h10 : c' 10 = c 10) (g : ∀ i : Nat, i < 16 → r' 76 i = r 76 i) (g33 : r' 60 33 = r 60 33) (h : iv_feud c r n) : iv_feud c' r' n := by
  refine ⟨by rw [h3, g33]; exact h.1, fun a ha => ?_⟩
  rw [h10, g a ha]
  exact h.2 a ha
theorem si_f (h5 : c' 3 5 = c 3 5) (h6 : c' 3 6 = c 3 6) (g : ∀ i : Nat, i < 16 → r' 77 i = r 77 i) (g35 : r' 60 35 = r 60 35) (h : iv_side c r) : iv_side c' r' := by
  obtain ⟨a1, m, a2, a3, a4⟩ := h
  refine ⟨by rw [h6, g35]; exact a1, m, a2, by rw [h5]; exact a3, fun a ha => ?_⟩
  rw [g a ha]
  exact a4 a ha
/-- lines -/
theorem tl_2 {L : Nat} (hL : L ≤ 16) : ∀ (d : Nat) (r : nd_Mem) (l g : Nat), L - l = d → l ≤ L → r 60 22 = nI 0 → d < g → ∃ r' : nd_Mem, f_X11_takesLaw_2 F g (nI L) (nI l) r = f_X11_takesLaw_107 F F (nI L) 0 r' ∧ (∀ j : Nat, l ≤ j → j < L → r' 68 j = r 68 (32 + j) ∧ r' 69 j = r 69 (32 + j) ∧ r' 70 j = r 70 (32 + j) ∧ r' 71 j = r 71 (32 + j)) ∧ (∀ j : Nat, j < l ∨ 32 ≤ j → r' 68 j = r 68 j ∧ r' 69 j = r 69 j ∧ r' 70 j = r 70 j ∧ r' 71 j = r 71 j) ∧ ∀ a : Nat, a ≠ 68 → a ≠ 69 → a ≠ 70 → a ≠ 71 → r' a = r a := by
  intro d
  induction d with
  | zero =>
    intro r l g hd hl h22 hg
    obtain ⟨g, rfl⟩ : ∃ q, g = q + 1 := ⟨g - 1, by omega⟩
    have : l = L := by omega
    subst this
    refine ⟨r, ?_, fun j h1 h2 => absurd h2 (by omega), fun j _ => ⟨rfl, rfl, rfl, rfl⟩, fun _ _ _ _ _ => rfl⟩
    show f_X11_takesLaw_2_b F _ _ _ _ = _
    unfold f_X11_takesLaw_2_b
    rw [if_pos (show nI l ≤ nI l from nI_le (Nat.le_refl l) (by omega))]
  | succ d ih =>
    intro r l g hd hl h22 hg
    obtain ⟨g, rfl⟩ : ∃ q, g = q + 1 := ⟨g - 1, by omega⟩
    have step : f_X11_takesLaw_2 F (g + 1) (nI L) (nI l) r = f_X11_takesLaw_2 F g (nI L) (nI (l + 1)) (nd_up (nd_up (nd_up (nd_up r 68 l (r 68 (32 + l))) 69 l (r 69 (32 + l))) 70 l (r 70 (32 + l))) 71 l (r 71 (32 + l))) := by
      show f_X11_takesLaw_2_b F _ _ _ _ = _
      unfold f_X11_takesLaw_2_b
      simp (disch := omega) only [n_lit, n_add, n_mul, n_sub, n_lt, n_le, n_eq, n_cl, n_nle, n_yle, n_nlt, n_ylt, n_neq, n_m1, n_m1l, n_m1g, n_bind, u_eq, u_ne1, u_ne2, w_eq, w_ne, eq_self, nd_let, ite_true, ite_false, if_true, if_false, false_or, or_false, true_and, and_true, not_true, not_false, true_or, or_true, Nat.not_lt_zero, Nat.zero_le, h22, Nat.zero_mul, Nat.mul_zero, Nat.zero_add]
    obtain ⟨r', a1, a2, a3, a4⟩ := ih (nd_up (nd_up (nd_up (nd_up r 68 l (r 68 (32 + l))) 69 l (r 69 (32 + l))) 70 l (r 70 (32 + l))) 71 l (r 71 (32 + l))) (l + 1) g (by omega) (by omega) (by simp (disch := omega) only [u_eq, u_ne1, u_ne2, w_eq, w_ne, n_neq, eq_self, ite_true, ite_false, if_true, if_false]; exact h22) (by omega)
    refine ⟨r', by rw [step]; exact a1, fun j h1 h2 => ?_, fun j hj => ?_, fun a h1 h2 h3 h4 => ?_⟩
    · by_cases e : j = l
      · subst e
        obtain ⟨b1, b2, b3, b4⟩ := a3 j (by omega)
        rw [b1, b2, b3, b4]
        refine ⟨?_, ?_, ?_, ?_⟩ <;> simp (disch := omega) only [u_eq, u_ne1, u_ne2, w_eq, w_ne, n_neq, eq_self, ite_true, ite_false, if_true, if_false]
      · obtain ⟨b1, b2, b3, b4⟩ := a2 j (by omega) h2
        rw [b1, b2, b3, b4]
        refine ⟨?_, ?_, ?_, ?_⟩ <;> simp (disch := omega) only [u_eq, u_ne1, u_ne2, w_eq, w_ne, n_neq, eq_self, ite_true, ite_false, if_true, if_false]
    · obtain ⟨b1, b2, b3, b4⟩ := a3 j (by omega)
      rw [b1, b2, b3, b4]
      refine ⟨?_, ?_, ?_, ?_⟩ <;> simp (disch := omega) only [u_eq, u_ne1, u_ne2, w_eq, w_ne, n_neq, eq_self, ite_true, ite_false, if_true, if_false]
    · rw [a4 a h1 h2 h3 h4, nd_up_ne h4, nd_up_ne h3, nd_up_ne h2, nd_up_ne h1]
theorem tl_107 {L C : Nat} (hC : C ≤ 400) : ∀ (d : Nat) (r : nd_Mem) (i g : Nat), C - i = d → i ≤ C → r 60 22 = nI 0 → r 60 23 = nI C → d < g → ∃ r' : nd_Mem, f_X11_takesLaw_107 F g (nI L) (nI i) r = some (0, nd_up r' 67 0 (nI L)) ∧ (∀ j : Nat, i ≤ j → j < C → r' 72 j = r 72 (800 + j) ∧ r' 73 j = r 73 (800 + j)) ∧ (∀ j : Nat, j < i ∨ 400 ≤ j → r' 72 j = r 72 j ∧ r' 73 j = r 73 j) ∧ ∀ a : Nat, a ≠ 72 → a ≠ 73 → r' a = r a := by
  intro d
  induction d with
  | zero =>
    intro r i g hd hl h22 h23 hg
    obtain ⟨g, rfl⟩ : ∃ q, g = q + 1 := ⟨g - 1, by omega⟩
    have : i = C := by omega
    subst this
    refine ⟨r, ?_, fun j h1 h2 => absurd h2 (by omega), fun j _ => ⟨rfl, rfl⟩, fun _ _ _ => rfl⟩
    show f_X11_takesLaw_107_b F _ _ _ _ = _
    unfold f_X11_takesLaw_107_b
    simp (disch := omega) only [n_lit, n_add, n_mul, n_sub, n_lt, n_le, n_eq, n_cl, n_nle, n_yle, n_nlt, n_ylt, n_neq, n_m1, n_m1l, n_m1g, n_bind, u_eq, u_ne1, u_ne2, w_eq, w_ne, eq_self, nd_let, ite_true, ite_false, if_true, if_false, false_or, or_false, true_and, and_true, not_true, not_false, true_or, or_true, Nat.not_lt_zero, Nat.zero_le, h22, h23, Nat.le_refl]
  | succ d ih =>
    intro r i g hd hl h22 h23 hg
    obtain ⟨g, rfl⟩ : ∃ q, g = q + 1 := ⟨g - 1, by omega⟩
    have step : f_X11_takesLaw_107 F (g + 1) (nI L) (nI i) r = f_X11_takesLaw_107 F g (nI L) (nI (i + 1)) (nd_up (nd_up r 72 i (r 72 (800 + i))) 73 i (r 73 (800 + i))) := by
      show f_X11_takesLaw_107_b F _ _ _ _ = _
      unfold f_X11_takesLaw_107_b
      simp (disch := omega) only [n_lit, n_add, n_mul, n_sub, n_lt, n_le, n_eq, n_cl, n_nle, n_yle, n_nlt, n_ylt, n_neq, n_m1, n_m1l, n_m1g, n_bind, u_eq, u_ne1, u_ne2, w_eq, w_ne, eq_self, nd_let, ite_true, ite_false, if_true, if_false, false_or, or_false, true_and, and_true, not_true, not_false, true_or, or_true, Nat.not_lt_zero, Nat.zero_le, h22, h23, Nat.zero_mul, Nat.mul_zero, Nat.zero_add]
    obtain ⟨r', a1, a2, a3, a4⟩ := ih (nd_up (nd_up r 72 i (r 72 (800 + i))) 73 i (r 73 (800 + i))) (i + 1) g (by omega) (by omega) (by simp (disch := omega) only [u_eq, u_ne1, u_ne2, w_eq, w_ne, n_neq, eq_self, ite_true, ite_false, if_true, if_false]; exact h22) (by simp (disch := omega) only [u_eq, u_ne1, u_ne2, w_eq, w_ne, n_neq, eq_self, ite_true, ite_false, if_true, if_false]; exact h23) (by omega)
    refine ⟨r', by rw [step]; exact a1, fun j h1 h2 => ?_, fun j hj => ?_, fun a h1 h2 => ?_⟩
    · by_cases e : j = i
      · subst e
        obtain ⟨b1, b2⟩ := a3 j (by omega)
        rw [b1, b2]
        refine ⟨?_, ?_⟩ <;> simp (disch := omega) only [u_eq, u_ne1, u_ne2, w_eq, w_ne, n_neq, eq_self, ite_true, ite_false, if_true, if_false]
      · obtain ⟨b1, b2⟩ := a2 j (by omega) h2
        rw [b1, b2]
        refine ⟨?_, ?_⟩ <;> simp (disch := omega) only [u_eq, u_ne1, u_ne2, w_eq, w_ne, n_neq, eq_self, ite_true, ite_false, if_true, if_false]
    · obtain ⟨b1, b2⟩ := a3 j (by omega)
      rw [b1, b2]
      refine ⟨?_, ?_⟩ <;> simp (disch := omega) only [u_eq, u_ne1, u_ne2, w_eq, w_ne, n_neq, eq_self, ite_true, ite_false, if_true, if_false]
    · rw [a4 a h1 h2, nd_up_ne h2, nd_up_ne h1]
theorem to_7 {P : Nat} (hP : P ≤ 16) : ∀ (d : Nat) (r : nd_Mem) (i g : Nat), 4 * P - i = d → i ≤ 4 * P → d < g → ∃ r' : nd_Mem, f_X11_takesOther_7 F g 1 (nI P) (nI i) r = f_X11_takesOther_40 F 1 (nI P) (nd_up r' 60 31 (nI P)) ∧ (∀ j : Nat, i ≤ j → j < 4 * P → r' 75 j = r 75 (64 + j)) ∧ (∀ j : Nat, j < i ∨ 64 ≤ j → r' 75 j = r 75 j) ∧ ∀ a : Nat, a ≠ 75 → r' a = r a := by
  intro d
  induction d with
  | zero =>
    intro r i g hd hl hg
    obtain ⟨g, rfl⟩ : ∃ q, g = q + 1 := ⟨g - 1, by omega⟩
    have : i = 4 * P := by omega
    subst this
    refine ⟨r, ?_, fun j h1 h2 => absurd h2 (by omega), fun j _ => rfl, fun _ _ => rfl⟩
    show f_X11_takesOther_7_b F _ _ _ _ _ = _
    unfold f_X11_takesOther_7_b
    rw [show (4 : Int32) * nI P = nI (4 * P) from n_mul 4 P, if_pos (show nI (4 * P) ≤ nI (4 * P) from nI_le (Nat.le_refl _) (by omega)), n_let]
  | succ d ih =>
    intro r i g hd hl hg
    obtain ⟨g, rfl⟩ : ∃ q, g = q + 1 := ⟨g - 1, by omega⟩
    have step : f_X11_takesOther_7 F (g + 1) 1 (nI P) (nI i) r = f_X11_takesOther_7 F g 1 (nI P) (nI (i + 1)) (nd_up r 75 i (r 75 (64 + i))) := by
      show f_X11_takesOther_7_b F _ _ _ _ _ = _
      unfold f_X11_takesOther_7_b
      simp (disch := omega) only [n_lit, n_add, n_mul, n_sub, n_lt, n_le, n_eq, n_cl, n_nle, n_yle, n_nlt, n_ylt, n_neq, n_m1, n_m1l, n_m1g, n_bind, u_eq, u_ne1, u_ne2, w_eq, w_ne, eq_self, nd_let, ite_true, ite_false, if_true, if_false, false_or, or_false, true_and, and_true, not_true, not_false, true_or, or_true, Nat.not_lt_zero, Nat.zero_le]
    obtain ⟨r', a1, a2, a3, a4⟩ := ih (nd_up r 75 i (r 75 (64 + i))) (i + 1) g (by omega) (by omega) (by omega)
    refine ⟨r', by rw [step]; exact a1, fun j h1 h2 => ?_, fun j hj => ?_, fun a h1 => ?_⟩
    · by_cases e : j = i
      · subst e
        rw [a3 j (by omega), u_eq]
      · rw [a2 j (by omega) h2, u_ne2 (by omega)]
    · rw [a3 j (by omega), u_ne2 (by omega)]
    · rw [a4 a h1, nd_up_ne h1]
theorem to_421 {x2 : Int32} : ∀ (d : Nat) (r : nd_Mem) (h g : Nat), 16 - h = d → h ≤ 16 → d < g → f_X11_takesOther_42 F g 1 x2 (nI h) r = some (0, nd_up r 60 3 0) := by
  intro d
  induction d with
  | zero =>
    intro r h g hd hl hg
    obtain ⟨g, rfl⟩ : ∃ q, g = q + 1 := ⟨g - 1, by omega⟩
    have : h = 16 := by omega
    subst this
    rfl
  | succ d ih =>
    intro r h g hd hl hg
    obtain ⟨g, rfl⟩ : ∃ q, g = q + 1 := ⟨g - 1, by omega⟩
    show f_X11_takesOther_42_b F _ _ _ _ _ = _
    unfold f_X11_takesOther_42_b f_X11_takesOther_68 f_X11_takesOther_88
    rw [if_neg (show ¬ (16 : Int32) ≤ nI h from nI_ge (b := 16) (by omega) (by decide)), if_neg (by decide), if_neg (by decide), nI_1]
    exact ih r (h + 1) g (by omega) (by omega) (by omega)
theorem to_422 {x2 : Int32} : ∀ (d : Nat) (r : nd_Mem) (h g : Nat), 16 - h = d → h ≤ 16 → d < g → ∃ r' : nd_Mem, f_X11_takesOther_42 F g 2 x2 (nI h) r = some (0, nd_up (nd_up r' 60 33 x2) 60 3 0) ∧ (∀ j : Nat, h ≤ j → j < 16 → r' 76 j = r 76 (16 + j)) ∧ (∀ j : Nat, j < h ∨ 16 ≤ j → r' 76 j = r 76 j) ∧ ∀ a : Nat, a ≠ 76 → r' a = r a := by
  intro d
  induction d with
  | zero =>
    intro r h g hd hl hg
    obtain ⟨g, rfl⟩ : ∃ q, g = q + 1 := ⟨g - 1, by omega⟩
    have : h = 16 := by omega
    subst this
    exact ⟨r, rfl, fun j h1 h2 => absurd h2 (by omega), fun j _ => rfl, fun _ _ => rfl⟩
  | succ d ih =>
    intro r h g hd hl hg
    obtain ⟨g, rfl⟩ : ∃ q, g = q + 1 := ⟨g - 1, by omega⟩
    have step : f_X11_takesOther_42 F (g + 1) 2 x2 (nI h) r = f_X11_takesOther_42 F g 2 x2 (nI (h + 1)) (nd_up r 76 h (r 76 (16 + h))) := by
      show f_X11_takesOther_42_b F _ _ _ _ _ = _
      unfold f_X11_takesOther_42_b f_X11_takesOther_68 f_X11_takesOther_88
      simp (disch := omega) only [n_lit, n_add, n_mul, n_sub, n_lt, n_le, n_eq, n_cl, n_nle, n_yle, n_nlt, n_ylt, n_neq, n_m1, n_m1l, n_m1g, n_bind, u_eq, u_ne1, u_ne2, w_eq, w_ne, eq_self, nd_let, ite_true, ite_false, if_true, if_false, false_or, or_false, true_and, and_true, not_true, not_false, true_or, or_true, Nat.not_lt_zero, Nat.zero_le]
    obtain ⟨r', a1, a2, a3, a4⟩ := ih (nd_up r 76 h (r 76 (16 + h))) (h + 1) g (by omega) (by omega) (by omega)
    refine ⟨r', by rw [step]; exact a1, fun j h1 h2 => ?_, fun j hj => ?_, fun a h1 => ?_⟩
    · by_cases e : j = h
      · subst e
        rw [a3 j (by omega), u_eq]
      · rw [a2 j (by omega) h2, u_ne2 (by omega)]
    · rw [a3 j (by omega), u_ne2 (by omega)]
    · rw [a4 a h1, nd_up_ne h1]
theorem to_423 {x2 : Int32} : ∀ (d : Nat) (r : nd_Mem) (h g : Nat), 16 - h = d → h ≤ 16 → d < g → ∃ r' : nd_Mem, f_X11_takesOther_42 F g 3 x2 (nI h) r = some (0, nd_up (nd_up r' 60 35 x2) 60 3 0) ∧ (∀ j : Nat, h ≤ j → j < 16 → r' 77 j = r 77 (16 + j)) ∧ (∀ j : Nat, j < h ∨ 16 ≤ j → r' 77 j = r 77 j) ∧ ∀ a : Nat, a ≠ 77 → r' a = r a := by
  intro d
  induction d with
  | zero =>
    intro r h g hd hl hg
    obtain ⟨g, rfl⟩ : ∃ q, g = q + 1 := ⟨g - 1, by omega⟩
    have : h = 16 := by omega
    subst this
    exact ⟨r, rfl, fun j h1 h2 => absurd h2 (by omega), fun j _ => rfl, fun _ _ => rfl⟩
  | succ d ih =>
    intro r h g hd hl hg
    obtain ⟨g, rfl⟩ : ∃ q, g = q + 1 := ⟨g - 1, by omega⟩
    have step : f_X11_takesOther_42 F (g + 1) 3 x2 (nI h) r = f_X11_takesOther_42 F g 3 x2 (nI (h + 1)) (nd_up r 77 h (r 77 (16 + h))) := by
      show f_X11_takesOther_42_b F _ _ _ _ _ = _
      unfold f_X11_takesOther_42_b f_X11_takesOther_68 f_X11_takesOther_88
      simp (disch := omega) only [n_lit, n_add, n_mul, n_sub, n_lt, n_le, n_eq, n_cl, n_nle, n_yle, n_nlt, n_ylt, n_neq, n_m1, n_m1l, n_m1g, n_bind, u_eq, u_ne1, u_ne2, w_eq, w_ne, eq_self, nd_let, ite_true, ite_false, if_true, if_false, false_or, or_false, true_and, and_true, not_true, not_false, true_or, or_true, Nat.not_lt_zero, Nat.zero_le]
    obtain ⟨r', a1, a2, a3, a4⟩ := ih (nd_up r 77 h (r 77 (16 + h))) (h + 1) g (by omega) (by omega) (by omega)
    refine ⟨r', by rw [step]; exact a1, fun j h1 h2 => ?_, fun j hj => ?_, fun a h1 => ?_⟩
    · by_cases e : j = h
      · subst e
        rw [a3 j (by omega), u_eq]
      · rw [a2 j (by omega) h2, u_ne2 (by omega)]
    · rw [a3 j (by omega), u_ne2 (by omega)]
    · rw [a4 a h1, nd_up_ne h1]
theorem rh_2 {x1 : Int32} : ∀ (d : Nat) (r : nd_Mem) (h g : Nat), 16 - h = d → h ≤ 16 → d < g → ∃ r' : nd_Mem, f_X11_readHouses_2 F g x1 (nI h) r = f_X11_readHouses_36 F F x1 0 r' ∧ (∀ j : Nat, h ≤ j → j < 16 → r' 76 (16 + j) = 0 ∧ r' 77 (16 + j) = 0) ∧ (∀ j : Nat, j < 16 + h → r' 76 j = r 76 j ∧ r' 77 j = r 77 j) ∧ ∀ a : Nat, a ≠ 76 → a ≠ 77 → r' a = r a := by
  intro d
  induction d with
  | zero =>
    intro r h g hd hl hg
    obtain ⟨g, rfl⟩ : ∃ q, g = q + 1 := ⟨g - 1, by omega⟩
    have : h = 16 := by omega
    subst this
    exact ⟨r, rfl, fun j h1 h2 => absurd h2 (by omega), fun j _ => ⟨rfl, rfl⟩, fun _ _ _ => rfl⟩
  | succ d ih =>
    intro r h g hd hl hg
    obtain ⟨g, rfl⟩ : ∃ q, g = q + 1 := ⟨g - 1, by omega⟩
    have step : f_X11_readHouses_2 F (g + 1) x1 (nI h) r = f_X11_readHouses_2 F g x1 (nI (h + 1)) (nd_up (nd_up r 76 (16 + h) 0) 77 (16 + h) 0) := by
      show f_X11_readHouses_2_b F _ _ _ _ = _
      unfold f_X11_readHouses_2_b
      simp (disch := omega) only [n_lit, n_add, n_mul, n_sub, n_lt, n_le, n_eq, n_cl, n_nle, n_yle, n_nlt, n_ylt, n_neq, n_m1, n_m1l, n_m1g, n_bind, u_eq, u_ne1, u_ne2, w_eq, w_ne, eq_self, nd_let, ite_true, ite_false, if_true, if_false, false_or, or_false, true_and, and_true, not_true, not_false, true_or, or_true, Nat.not_lt_zero, Nat.zero_le]
    obtain ⟨r', a1, a2, a3, a4⟩ := ih (nd_up (nd_up r 76 (16 + h) 0) 77 (16 + h) 0) (h + 1) g (by omega) (by omega) (by omega)
    refine ⟨r', by rw [step]; exact a1, fun j h1 h2 => ?_, fun j hj => ?_, fun a h1 h2 => ?_⟩
    · by_cases e : j = h
      · subst e
        obtain ⟨b1, b2⟩ := a3 (16 + j) (by omega)
        rw [b1, b2]
        exact ⟨by rw [u_ne1 (by decide), u_eq], u_eq _ _ _ _⟩
      · exact a2 j (by omega) h2
    · obtain ⟨b1, b2⟩ := a3 j (by omega)
      rw [b1, b2]
      exact ⟨by rw [u_ne2 (by omega), u_ne2 (by omega)], by rw [u_ne2 (by omega), u_ne2 (by omega)]⟩
    · rw [a4 a h1 h2, nd_up_ne h2, nd_up_ne h1]
end TA
