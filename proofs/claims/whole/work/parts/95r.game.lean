/-! game -/
section GT
variable {F n x : Nat} {σ : nd_Mem} {x3 : Int32}
theorem sup_or {q d : Nat} (h : q &&& x = x) : (q ||| 2 ^ d) &&& x = x := by
  apply Nat.eq_of_testBit_eq
  intro i
  have h1 := congrArg (fun z => z.testBit i) h
  rw [Nat.testBit_and] at h1
  rw [Nat.testBit_and, Nat.testBit_or]
  cases hx : x.testBit i
  · rw [Bool.and_false]
  · rw [hx, Bool.and_true] at h1
    rw [h1]
    rfl
theorem m_wd {m : Nat} (hF : 300000 ≤ F) (h18 : n ≤ 18) (hm : m < 2 ^ n) (hmx : m &&& x = x) {g : Nat → Int32} (hg : ∀ q : Nat, m < q → q < 2 ^ n → q &&& x = x → ¬ thr_ (Sb_ q) → (g q = 0 ∧ ¬ cw_ n q) ∨ (g q = 1 ∧ cw_ n q)) : ∃ z : Int32, f_X11_winningDoor F (nI n) (nI m) (nd_row σ 98 g) = some (z, nd_row σ 98 g) ∧ lw_ n m 0 z := by
  refine m_wd_ (F := F) (σ := nd_row σ 98 g) h18 hm ?_ n 0 F (by omega) (by omega)
  intro d h1 h2 h3
  rw [w_eq]
  have hlt : m < m ||| 2 ^ d := by
    have h4 : m ≤ m ||| 2 ^ d := Nat.left_le_or
    have h5 : m ||| 2 ^ d ≠ m := fun e => by
      have := or_tb.mp e
      rw [h2] at this
      exact absurd this (by decide)
    omega
  rcases hg _ hlt (Nat.or_lt_two_pow hm (Nat.pow_lt_pow_right (by decide) h1)) (sup_or hmx) h3 with ⟨a, b⟩ | ⟨a, b⟩
  · exact ⟨fun _ => b, fun _ => a⟩
  · exact ⟨fun e => by rw [a] at e; exact absurd e (by decide), fun e => absurd b e⟩
theorem m_tab (hF : 300000 ≤ F) (h18 : n ≤ 18) (hx : x < 2 ^ n) : ∀ (D y f : Nat) (g : Nat → Int32), y = x + D → y ≤ 2 ^ n → D < f → (∀ q : Nat, y ≤ q → q < 2 ^ n → q &&& x = x → ¬ thr_ (Sb_ q) → (g q = 0 ∧ ¬ cw_ n q) ∨ (g q = 1 ∧ cw_ n q)) → ∃ g' : Nat → Int32, f_X11_game_57 F f (nI n) (nI x) x3 (nI y - 1) (nd_row σ 98 g) = (if x3 = 0 then some (g' x, nd_row σ 98 g') else nd_bind (f_X11_winningDoor F (nI n) (nI x) (nd_row σ 98 g')) fun r1 σ2 => some (r1, σ2)) ∧ ∀ q : Nat, x ≤ q → q < 2 ^ n → q &&& x = x → ¬ thr_ (Sb_ q) → (g' q = 0 ∧ ¬ cw_ n q) ∨ (g' q = 1 ∧ cw_ n q) := by
  have hp := p18 h18
  intro D
  induction D with
  | zero =>
    intro y f g hy hyn hf hg
    obtain ⟨f, rfl⟩ : ∃ g, f = g + 1 := ⟨f - 1, by omega⟩
    have : y = x := by omega
    subst this
    refine ⟨g, ?_, hg⟩
    have hlt : nI y - 1 < nI y := by
      by_cases h0 : y = 0
      · rw [h0]; decide
      · have e : nI y - 1 = nI (y - 1) := n_sub (a := y) (b := 1) (by omega)
        rw [e]
        exact nI_lt (by omega) (by omega)
    show f_X11_game_57_b F _ _ _ _ _ _ = _
    unfold f_X11_game_57_b
    rw [if_pos hlt, if_neg (nI_in (by omega) (by decide)), nI_clamp (by omega), w_eq]
  | succ D ih =>
    intro y f g hy hyn hf hg
    obtain ⟨f, rfl⟩ : ∃ g, f = g + 1 := ⟨f - 1, by omega⟩
    obtain ⟨q, rfl⟩ : ∃ q, y = q + 1 := ⟨x + D, by omega⟩
    have eq1 : nI (q + 1) - 1 = nI q := n_sub (a := q + 1) (b := 1) (by omega)
    have em : nI q + (-1 : Int32) = nI q - 1 := (Int32.sub_eq_add_neg _ _).symm
    have hqx : ¬ nI q < nI x := nI_nlt (by omega) (by omega)
    rw [eq1]
    have head : f_X11_game_57 F (f + 1) (nI n) (nI x) x3 (nI q) (nd_row σ 98 g) = (if nI (q &&& x) = nI x then (nd_bind (f_X11_hasThree F (nI q) (nd_row σ 98 g)) fun r4 σ5 => (if r4 = 0 then (nd_bind (f_X11_winningDoor F (nI n) (nI q) σ5) fun r7 σ8 => (if r7 = (-1 : Int32) then f_X11_game_57 F f (nI n) (nI x) x3 (nI q - 1) (nd_up σ8 98 q 0) else f_X11_game_57 F f (nI n) (nI x) x3 (nI q - 1) (nd_up σ8 98 q 1))) else f_X11_game_57 F f (nI n) (nI x) x3 (nI q - 1) σ5)) else f_X11_game_57 F f (nI n) (nI x) x3 (nI q - 1) (nd_row σ 98 g)) := by
      show f_X11_game_57_b F _ _ _ _ _ _ = _
      have hcl : (nI q).toNatClampNeg = q := nI_clamp (by omega)
      have hbad : (nI q < 0 ∨ 262144 ≤ q) = False := eq_false (nn_in (by omega) (by omega))
      unfold f_X11_game_57_b f_X11_game_102 f_X11_game_103 nd_let
      rw [if_neg hqx, n_and, em]
      simp only [hcl, hbad, if_false]
    rw [head]
    by_cases hs : q &&& x = x
    · rw [if_pos (by rw [hs])]
      rcases t3_m (F := F) (σ := nd_row σ 98 g) (x := q) (by omega) with ⟨t1, t2⟩ | ⟨t1, t2⟩
      · rw [t1, n_bind, if_pos rfl]
        obtain ⟨z, z1, z2⟩ := m_wd (F := F) (σ := σ) hF h18 (show q < 2 ^ n by omega) hs (g := g) (fun q' h1 h2 => hg q' (by omega) h2)
        rw [z1, n_bind, up_row, up_row]
        have next : ∀ v : Int32, ((v = 0 ∧ ¬ cw_ n q) ∨ (v = 1 ∧ cw_ n q)) → ∀ q' : Nat, q ≤ q' → q' < 2 ^ n → q' &&& x = x → ¬ thr_ (Sb_ q') → (upd g q v q' = 0 ∧ ¬ cw_ n q') ∨ (upd g q v q' = 1 ∧ cw_ n q') := by
          intro v hv q' h1 h2 h3 h4
          by_cases hqq : q' = q
          · subst hqq
            rw [show upd g q' v q' = v from if_pos rfl]
            exact hv
          · rw [show upd g q v q' = g q' from if_neg hqq]
            exact hg q' (by omega) h2 h3 h4
        rcases lw_cw h18 (show q < 2 ^ n by omega) t2 z2 with ⟨a, b⟩ | ⟨a, b⟩
        · rw [if_pos a]
          exact ih q f (upd g q 0) (by omega) (by omega) (by omega) (next 0 (Or.inl ⟨rfl, b⟩))
        · rw [if_neg a]
          exact ih q f (upd g q 1) (by omega) (by omega) (by omega) (next 1 (Or.inr ⟨rfl, b⟩))
      · rw [t1, n_bind, if_neg n10]
        refine ih q f g (by omega) (by omega) (by omega) (fun q' h1 h2 h3 h4 => ?_)
        by_cases hqq : q' = q
        · subst hqq; exact absurd t2 h4
        · exact hg q' (by omega) h2 h3 h4
    · rw [if_neg (fun e => hs ((nI_eq (by have : q &&& x ≤ q := Nat.and_le_left; omega) (by omega)).mp e))]
      refine ih q f g (by omega) (by omega) (by omega) (fun q' h1 h2 h3 h4 => ?_)
      by_cases hqq : q' = q
      · subst hqq; exact absurd h3 hs
      · exact hg q' (by omega) h2 h3 h4
end GT
theorem op_game {F : Nat} (hF : 300000 ≤ F) (x1 x2 x3 : Int32) : op_ (f_X10_game F x1 x2 x3) (f_X11_game F x1 x2 x3) := op_sc (fun σ m0 hI => by
  have hfix : iv_fix σ := hI.2.2.2.2
  have hw : ∀ j : Nat, j < 19 → σ 59 j = nI (W_ j) := hfix.1
  have hf0 : fr_ sc_S sc_K σ (nd_up σ 60 0 0) := (by repeat first | exact fr_rf | (refine fr_up57 ?_ (by decide)) | (refine fr_up ?_ (by decide) (by decide)) | (refine fr_row ?_ (by decide) (by decide)))
  have bad34 : f_X10_game_34 F x1 x2 x3 0 σ = some (-1, σ) := by
    unfold f_X10_game_34 f_X10_game_50
    rw [if_pos rfl]
  by_cases h1 : x1 < 1 ∨ 18 < x1
  · refine ⟨-1, σ, nd_up σ 60 0 0, ?_, ?_, hf0⟩
    · unfold f_X10_game f_X10_game_33
      rcases h1 with h | h
      · rw [if_pos h, bad34]
      · by_cases h' : x1 < 1
        · rw [if_pos h', bad34]
        · rw [if_neg h', if_pos h, bad34]
    · unfold f_X11_game f_X11_game_48
      rw [n_let, e_isIn, n_bind, if_pos h1, if_pos rfl]
  · have h1a : ¬ x1 < 1 := fun e => h1 (Or.inl e)
    have h1b : ¬ 18 < x1 := fun e => h1 (Or.inr e)
    obtain ⟨n, hn, rfl⟩ := rng 18 (by decide) (x := x1) (by grind) h1b
    have hn1 : 1 ≤ n := by
      apply Classical.byContradiction
      intro h
      exact h1a (show nI n < (1 : Int32) from nI_lt (b := 1) (by omega) (by decide))
    have hp := p18 hn
    have h1i : (1 : Int32) <<< (nI n &&& 31) = nI (2 ^ n) := n_one (by omega)
    have hpos : 0 < 2 ^ n := Nat.two_pow_pos n
    have hsub : nI (2 ^ n) - (1 : Int32) = nI (2 ^ n - 1) := n_sub (a := 2 ^ n) (b := 1) (by omega)
    have refb : ∀ t : nd_Mem, (x2 < 0 ∨ nI (2 ^ n - 1) < x2) → f_X11_game F (nI n) x2 x3 t = some (-1, nd_up t 60 0 0) := by
      intro t h
      unfold f_X11_game f_X11_game_48
      rw [n_let, e_isIn, n_bind, if_neg h1, if_neg n10, h1i, hsub, e_isIn, n_bind, if_pos h, if_pos rfl]
    by_cases h2 : x2 < 0
    · refine ⟨-1, σ, nd_up σ 60 0 0, ?_, refb σ (Or.inl h2), hf0⟩
      unfold f_X10_game f_X10_game_33
      rw [if_neg h1a, if_neg h1b, if_pos h2, bad34]
    · obtain ⟨m, hm, rfl⟩ := nI_of h2
      by_cases h3 : 2 ^ n ≤ m
      · refine ⟨-1, σ, nd_up σ 60 0 0, ?_, refb σ (Or.inr (nI_lt (by omega) (by omega))), hf0⟩
        unfold f_X10_game f_X10_game_33
        rw [if_neg h1a, if_neg h1b, if_neg h2, h1i, if_pos (nI_le h3 (by omega)), bad34]
      · have hm' : m < 2 ^ n := by omega
        have c1 : f_X10_game F (nI n) (nI m) x3 σ = (nd_bind (f_X7_threeTogether F (nI m) σ) fun r1 σ2 => (if r1 = 0 then (f_X10_game_34 F (nI n) (nI m) x3 (1 : Int32) σ2) else (f_X10_game_34 F (nI n) (nI m) x3 0 σ2))) := by
          unfold f_X10_game f_X10_game_33
          rw [if_neg h1a, if_neg h1b, if_neg h2, h1i, if_neg (show ¬ nI (2 ^ n) ≤ nI m from nI_ge (by omega) (by omega))]
        have r1 : f_X11_game F (nI n) (nI m) x3 σ = (nd_bind (f_X11_hasThree F (nI m) (nd_up σ 60 0 0)) fun r8 σ9 => (if r8 = 0 then (nd_bind (f_X11_isIn F x3 (0 : Int32) (1 : Int32) σ9) fun r11 σ12 => (if r11 = 0 then (some (-1, σ12)) else (f_X11_game_57 F F (nI n) (nI m) x3 (nI (2 ^ n) - (1 : Int32)) σ12))) else (some (-1, σ9)))) := by
          unfold f_X11_game f_X11_game_48
          rw [n_let, e_isIn, n_bind, if_neg h1, if_neg n10, h1i, e_isIn, n_bind, hsub, if_neg (show ¬ (nI m < 0 ∨ nI (2 ^ n - 1) < nI m) from fun e => e.elim h2 (fun e => nI_nlt (by omega) (by omega) e)), if_neg n10]
        rcases t3_c (F := F) (σ := σ) (x := m) hm with ⟨t1, t2⟩ | ⟨t1, t2⟩
        · have t3 : ∀ t : nd_Mem, f_X11_hasThree F (nI m) t = some (0, t) := fun t => by
            rcases t3_m (F := F) (σ := t) (x := m) hm with ⟨a, _⟩ | ⟨_, b⟩
            · exact a
            · exact absurd b t2
          rw [t1, n_bind, if_pos rfl] at c1
          rw [t3, n_bind, if_pos rfl, e_isIn, n_bind] at r1
          by_cases h4 : x3 < 0 ∨ 1 < x3
          · refine ⟨-1, σ, nd_up σ 60 0 0, ?_, ?_, hf0⟩
            · rw [c1]
              unfold f_X10_game_34 f_X10_game_50
              rw [if_neg n10]
              by_cases h5 : x3 < 0
              · rw [if_pos h5]
              · rw [if_neg h5, if_neg (show ¬ x3 ≤ 1 by grind)]
            · rw [r1, if_pos h4, if_pos rfl]
          · rw [if_neg h4, if_neg n10] at r1
            obtain ⟨z, z1, z2⟩ := c_lwd (F := F) (σ := σ) hF hn hm' hw t2
            have c2 : f_X10_game F (nI n) (nI m) x3 σ = (if x3 = (1 : Int32) then (some (z, σ)) else (if z = (-1 : Int32) then (some ((0 : Int32), σ)) else (some ((1 : Int32), σ)))) := by
              rw [c1]
              unfold f_X10_game_34
              rw [if_neg n10, if_neg (fun e => h4 (Or.inl e)), if_pos (show x3 ≤ 1 by grind), z1, n_bind]
            obtain ⟨g', g1, g2⟩ := m_tab (F := F) (x3 := x3) (σ := nd_up σ 60 0 0) hF hn hm' (2 ^ n - m) (2 ^ n) F ((nd_up σ 60 0 0) 98) (by omega) (by omega) (by omega) (fun q h1 h2 => by omega)
            rw [row_id] at g1
            rw [g1] at r1
            have hf1 : fr_ sc_S sc_K σ (nd_row (nd_up σ 60 0 0) 98 g') := (by repeat first | exact fr_rf | (refine fr_up57 ?_ (by decide)) | (refine fr_up ?_ (by decide) (by decide)) | (refine fr_row ?_ (by decide) (by decide)))
            have hmm : m &&& m = m := Nat.and_self m
            by_cases h5 : x3 = 0
            · have gm := g2 m (Nat.le_refl m) hm' hmm t2
              rw [if_pos h5] at r1
              rw [if_neg (show ¬ x3 = 1 by rw [h5]; decide)] at c2
              refine ⟨g' m, σ, _, ?_, r1, hf1⟩
              rw [c2]
              rcases lw_cw hn hm' t2 z2 with ⟨a, b⟩ | ⟨a, b⟩
              · rcases gm with ⟨p, _⟩ | ⟨_, p⟩
                · rw [if_pos a, p]
                · exact absurd p b
              · rcases gm with ⟨_, p⟩ | ⟨p, _⟩
                · exact absurd b p
                · rw [if_neg a, p]
            · have h6 : x3 = 1 := by grind
              obtain ⟨z', y1, y2⟩ := m_wd (F := F) (σ := nd_up σ 60 0 0) hF hn hm' hmm (g := g') (fun q h1 h2 => g2 q (by omega) h2)
              rw [if_neg h5, y1, n_bind] at r1
              rw [if_pos h6] at c2
              refine ⟨z, σ, _, c2, ?_, hf1⟩
              rw [r1, lw_uq z2 y2]
        · have t3 : ∀ t : nd_Mem, f_X11_hasThree F (nI m) t = some (1, t) := fun t => by
            rcases t3_m (F := F) (σ := t) (x := m) hm with ⟨_, b⟩ | ⟨a, _⟩
            · exact absurd t2 b
            · exact a
          refine ⟨-1, σ, nd_up σ 60 0 0, ?_, ?_, hf0⟩
          · rw [c1, t1, n_bind, if_neg n10, bad34]
          · rw [r1, t3, n_bind, if_neg n10])
