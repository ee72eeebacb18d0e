/-! game: the doors that win, the table -/
/-- the one to move can win -/
def cw_ (n m : Nat) : Prop := 3 ≤ n ∧ cwin_ n (Sb_ m)
def gd_ (n m d : Nat) : Prop := m.testBit d = false ∧ (thr_ (Sb_ (m ||| 2 ^ d)) ∨ (3 ≤ n ∧ ¬ cwin_ n (Sb_ (m ||| 2 ^ d))))
def lw_ (n m i : Nat) (z : Int32) : Prop := (z = -1 ∧ ∀ d : Nat, i ≤ d → d < n → ¬ gd_ n m d) ∨ ∃ d : Nat, i ≤ d ∧ d < n ∧ gd_ n m d ∧ (∀ d' : Nat, i ≤ d' → d' < d → ¬ gd_ n m d') ∧ z = nI d
section GM
variable {F n m : Nat} {σ : nd_Mem}
theorem lw_uq {i : Nat} {z z' : Int32} (h : lw_ n m i z) (h' : lw_ n m i z') : z = z' := by
  rcases h with ⟨a1, a2⟩ | ⟨d, a1, a2, a3, a4, a5⟩
  · rcases h' with ⟨b1, b2⟩ | ⟨d', b1, b2, b3, b4, b5⟩
    · rw [a1, b1]
    · exact absurd b3 (a2 d' b1 b2)
  · rcases h' with ⟨b1, b2⟩ | ⟨d', b1, b2, b3, b4, b5⟩
    · exact absurd a3 (b2 d a1 a2)
    · have h1 : ¬ d < d' := fun h => b4 d a1 h a3
      have h2 : ¬ d' < d := fun h => a4 d' b1 h b3
      have : d = d' := by omega
      rw [a5, b5, this]
theorem lw_s {i : Nat} {z : Int32} (hn : ¬ gd_ n m i) (h : lw_ n m (i + 1) z) : lw_ n m i z := by
  have key : ∀ d : Nat, i ≤ d → ¬ i + 1 ≤ d → ¬ gd_ n m d := fun d h1 h2 => by
    have : d = i := by omega
    rw [this]; exact hn
  rcases h with ⟨a1, a2⟩ | ⟨d, a1, a2, a3, a4, a5⟩
  · refine Or.inl ⟨a1, fun d h1 h2 => ?_⟩
    by_cases h3 : i + 1 ≤ d
    · exact a2 d h3 h2
    · exact key d h1 h3
  · refine Or.inr ⟨d, by omega, a2, a3, fun d' h1 h2 => ?_, a5⟩
    by_cases h3 : i + 1 ≤ d'
    · exact a4 d' h3 h2
    · exact key d' h1 h3
theorem lw_0 {i : Nat} (hi : i < n) (h : gd_ n m i) : lw_ n m i (nI i) := Or.inr ⟨i, Nat.le_refl i, hi, h, fun d' h1 h2 => by omega, rfl⟩
theorem or_tb {d : Nat} : m ||| 2 ^ d = m ↔ m.testBit d = true := by
  constructor
  · intro h
    rw [← h, Nat.testBit_or, Nat.testBit_two_pow, decide_eq_true rfl, Bool.or_true]
  · intro h
    apply Nat.eq_of_testBit_eq
    intro i
    rw [Nat.testBit_or, Nat.testBit_two_pow]
    by_cases hi : d = i
    · subst hi; rw [h]; rfl
    · rw [decide_eq_false hi, Bool.or_false]
theorem ply2_ (h18 : n ≤ 18) (hm : m < 2 ^ n) (h3 : ¬ thr_ (Sb_ m)) : (∃ d : Nat, d < n ∧ gd_ n m d) ↔ cw_ n m := by
  by_cases hn : 3 ≤ n
  · have h := ply_ (n := n) (S := Sb_ m) hn h18 (fun k hk => Sb_lt hm hk) h3
    unfold cw_
    constructor
    · rintro ⟨d, d1, d2, d3⟩
      refine ⟨hn, h.mp ⟨d, d1, fun hc => ?_, ?_⟩⟩
      · unfold Sb_ at hc
        rw [d2] at hc
        exact absurd hc (by decide)
      · rw [← Sb_or]
        exact d3.elim Or.inl (fun e => Or.inr e.2)
    · rintro ⟨_, hc⟩
      obtain ⟨d, d1, d2, d3⟩ := h.mpr hc
      refine ⟨d, d1, ?_, ?_⟩
      · cases hb : m.testBit d
        · rfl
        · exact absurd hb d2
      · rw [← Sb_or] at d3
        exact d3.elim Or.inl (fun e => Or.inr ⟨hn, e⟩)
  · constructor
    · rintro ⟨d, d1, d2, d3⟩
      rcases d3 with ⟨k, k1, k2, k3⟩ | d3
      · have := Sb_lt (n := n) (Nat.or_lt_two_pow hm (Nat.pow_lt_pow_right (by decide) d1)) k3
        omega
      · exact absurd d3.1 hn
    · intro h; exact absurd h.1 hn
theorem lw_cw {z : Int32} (h18 : n ≤ 18) (hm : m < 2 ^ n) (h3 : ¬ thr_ (Sb_ m)) (h : lw_ n m 0 z) : (z = -1 ∧ ¬ cw_ n m) ∨ (z ≠ -1 ∧ cw_ n m) := by
  rw [← ply2_ h18 hm h3]
  rcases h with ⟨a1, a2⟩ | ⟨d, a1, a2, a3, a4, a5⟩
  · exact Or.inl ⟨a1, fun ⟨d, d1, d2⟩ => a2 d (Nat.zero_le d) d1 d2⟩
  · exact Or.inr ⟨by rw [a5]; exact li_m1 d (by omega), d, a2, a3⟩
theorem c_lwd_ (hF : 300000 ≤ F) (hn : 3 ≤ n) (h18 : n ≤ 18) (hm : m < 2 ^ n) (hw : ∀ j : Nat, j < 19 → σ 59 j = nI (W_ j)) : ∀ (D i f : Nat), i + D = n → D < f → ∃ z : Int32, f_X7_leastWinningDoor_9 F f (nI n) (nI m) (nI i) σ = some (z, σ) ∧ lw_ n m i z := by
  have hp := p18 h18
  intro D
  induction D with
  | zero =>
    intro i f hi hf
    obtain ⟨f, rfl⟩ : ∃ g, f = g + 1 := ⟨f - 1, by omega⟩
    have : i = n := by omega
    subst this
    refine ⟨-1, ?_, Or.inl ⟨rfl, fun d h1 h2 => by omega⟩⟩
    show f_X7_leastWinningDoor_9_b F _ _ _ _ σ = _
    unfold f_X7_leastWinningDoor_9_b
    rw [if_pos (Int32.le_refl _)]
  | succ D ih =>
    intro i f hi hf
    obtain ⟨f, rfl⟩ : ∃ g, f = g + 1 := ⟨f - 1, by omega⟩
    have hin : i < n := by omega
    have h1i : (1 : Int32) <<< (nI i &&& 31) = nI (2 ^ i) := n_one (by omega)
    have hor : m ||| 2 ^ i < 2 ^ n := Nat.or_lt_two_pow hm (Nat.pow_lt_pow_right (by decide) hin)
    have head : f_X7_leastWinningDoor_9 F (f + 1) (nI n) (nI m) (nI i) σ = (if nI (m ||| 2 ^ i) = nI m then (f_X7_leastWinningDoor_9 F f (nI n) (nI m) (nI (i + 1)) σ) else (nd_bind (f_X7_threeTogether F (nI (m ||| 2 ^ i)) σ) fun r1 σ2 => (if r1 = 0 then (nd_bind (f_X7_nextCanWin F (nI n) (nI (m ||| 2 ^ i)) σ2) fun r4 σ5 => (if r4 = 0 then some (nI i, σ5) else (f_X7_leastWinningDoor_9 F f (nI n) (nI m) (nI (i + 1)) σ5))) else some (nI i, σ2)))) := by
      show f_X7_leastWinningDoor_9_b F _ _ _ _ σ = _
      unfold f_X7_leastWinningDoor_9_b f_X7_leastWinningDoor_47 f_X7_leastWinningDoor_45
      rw [if_neg (show ¬ nI n ≤ nI i from nI_ge hin (by omega)), h1i, n_or, nI_1]
    rw [head]
    obtain ⟨z, z1, z2⟩ := ih (i + 1) f (by omega) (by omega)
    cases hb : m.testBit i
    · rw [if_neg (fun e => by
        have := or_tb.mp ((nI_eq (by omega) (by omega)).mp e)
        rw [hb] at this
        exact absurd this (by decide))]
      rcases t3_c (F := F) (σ := σ) (x := m ||| 2 ^ i) (by omega) with ⟨t1, t2⟩ | ⟨t1, t2⟩
      · rw [t1, n_bind, if_pos rfl]
        rcases c_ncw (F := F) (σ := σ) hF h18 (by omega) hor hw with ⟨c1, c2⟩ | ⟨c1, c2⟩
        · rw [c1, n_bind, if_neg n10]
          exact ⟨z, z1, lw_s (fun h => h.2.elim t2 (fun e => e.2 c2)) z2⟩
        · rw [c1, n_bind, if_pos rfl]
          exact ⟨nI i, rfl, lw_0 hin ⟨hb, Or.inr ⟨hn, c2⟩⟩⟩
      · rw [t1, n_bind, if_neg n10]
        exact ⟨nI i, rfl, lw_0 hin ⟨hb, Or.inl t2⟩⟩
    · rw [if_pos (by rw [or_tb.mpr hb])]
      exact ⟨z, z1, lw_s (fun h => by rw [h.1] at hb; exact absurd hb (by decide)) z2⟩
theorem c_lwd (hF : 300000 ≤ F) (h18 : n ≤ 18) (hm : m < 2 ^ n) (hw : ∀ j : Nat, j < 19 → σ 59 j = nI (W_ j)) (h3 : ¬ thr_ (Sb_ m)) : ∃ z : Int32, f_X7_leastWinningDoor F (nI n) (nI m) σ = some (z, σ) ∧ lw_ n m 0 z := by
  unfold f_X7_leastWinningDoor
  by_cases hn : 3 ≤ n
  · rw [if_pos (show (3 : Int32) ≤ nI n from nI_le (a := 3) hn (by omega))]
    exact c_lwd_ (F := F) hF hn h18 hm hw n 0 F (by omega) (by omega)
  · rw [if_neg (show ¬ (3 : Int32) ≤ nI n from nI_ge (b := 3) (by omega) (by decide))]
    refine ⟨-1, rfl, Or.inl ⟨rfl, fun d h1 h2 h => ?_⟩⟩
    exact hn ((ply2_ h18 hm h3).mp ⟨d, h2, h⟩).1
theorem hs_b2 {k : Nat} {τ : nd_Mem} (hm : m < 2147483648) (hk : k < 32) : f_X11_has F (nI m) (nI k) τ = some (if m.testBit k = true then 1 else 0, τ) := by
  rw [e_has]
  by_cases h : m.testBit k = true
  · rw [if_pos h, if_pos (show ((nI m >>> (nI k &&& 31)) &&& (1 : Int32)) = 1 from (n_bit (k := k) (a := m) hk hm).mpr h)]
  · rw [if_neg h, if_neg (show ¬ ((nI m >>> (nI k &&& 31)) &&& (1 : Int32)) = 1 from fun e => h ((n_bit (k := k) (a := m) hk hm).mp e))]
theorem m_wd_ (h18 : n ≤ 18) (hm : m < 2 ^ n) (ht : ∀ d : Nat, d < n → m.testBit d = false → ¬ thr_ (Sb_ (m ||| 2 ^ d)) → (σ 98 (m ||| 2 ^ d) = 0 ↔ ¬ cw_ n (m ||| 2 ^ d))) : ∀ (D i f : Nat), i + D = n → D < f → ∃ z : Int32, f_X11_winningDoor_2 F f (nI n) (nI m) (nI i) σ = some (z, σ) ∧ lw_ n m i z := by
  have hp := p18 h18
  intro D
  induction D with
  | zero =>
    intro i f hi hf
    obtain ⟨f, rfl⟩ : ∃ g, f = g + 1 := ⟨f - 1, by omega⟩
    have : i = n := by omega
    subst this
    refine ⟨-1, ?_, Or.inl ⟨rfl, fun d h1 h2 => by omega⟩⟩
    show f_X11_winningDoor_2_b F _ _ _ _ σ = _
    unfold f_X11_winningDoor_2_b
    rw [if_pos (Int32.le_refl _)]
  | succ D ih =>
    intro i f hi hf
    obtain ⟨f, rfl⟩ : ∃ g, f = g + 1 := ⟨f - 1, by omega⟩
    have hin : i < n := by omega
    have h1i : (1 : Int32) <<< (nI i &&& 31) = nI (2 ^ i) := n_one (by omega)
    have hor : m ||| 2 ^ i < 2 ^ n := Nat.or_lt_two_pow hm (Nat.pow_lt_pow_right (by decide) hin)
    have head : f_X11_winningDoor_2 F (f + 1) (nI n) (nI m) (nI i) σ = (if (if m.testBit i = true then (1 : Int32) else 0) = 0 then (nd_bind (f_X11_hasThree F (nI (m ||| 2 ^ i)) σ) fun r4 σ5 => (if r4 = 0 then (if nI n ≤ (2 : Int32) then (f_X11_winningDoor_2 F f (nI n) (nI m) (nI (i + 1)) σ5) else (if (σ5 98 (m ||| 2 ^ i)) = 0 then some (nI i, σ5) else (f_X11_winningDoor_2 F f (nI n) (nI m) (nI (i + 1)) σ5))) else some (nI i, σ5))) else (f_X11_winningDoor_2 F f (nI n) (nI m) (nI (i + 1)) σ)) := by
      show f_X11_winningDoor_2_b F _ _ _ _ σ = _
      unfold f_X11_winningDoor_2_b f_X11_winningDoor_49 f_X11_winningDoor_47
      rw [if_neg (show ¬ nI n ≤ nI i from nI_ge hin (by omega)), hs_b2 (by omega) (by omega), n_bind, h1i, n_or, nI_1]
      have hbad : (nI (m ||| 2 ^ i) < 0 ∨ 262144 ≤ m ||| 2 ^ i) = False := eq_false (nn_in (by omega) (by omega))
      have hcl : (nI (m ||| 2 ^ i)).toNatClampNeg = m ||| 2 ^ i := nI_clamp (by omega)
      simp only [hbad, if_false, hcl]
    rw [head]
    obtain ⟨z, z1, z2⟩ := ih (i + 1) f (by omega) (by omega)
    cases hb : m.testBit i
    · rw [if_pos (by decide)]
      rcases t3_m (F := F) (σ := σ) (x := m ||| 2 ^ i) (by omega) with ⟨t1, t2⟩ | ⟨t1, t2⟩
      · rw [t1, n_bind, if_pos rfl]
        by_cases hn : 3 ≤ n
        · rw [if_neg (show ¬ nI n ≤ (2 : Int32) from nI_ge (a := 2) (by omega) (by omega))]
          by_cases hz : σ 98 (m ||| 2 ^ i) = 0
          · rw [if_pos hz]
            exact ⟨nI i, rfl, lw_0 hin ⟨hb, Or.inr ⟨hn, fun h => (ht i hin hb t2).mp hz ⟨hn, h⟩⟩⟩⟩
          · rw [if_neg hz]
            refine ⟨z, z1, lw_s (fun h => h.2.elim t2 (fun e => ?_)) z2⟩
            exact hz ((ht i hin hb t2).mpr (fun c => e.2 c.2))
        · rw [if_pos (show nI n ≤ (2 : Int32) from nI_le (b := 2) (by omega) (by decide))]
          exact ⟨z, z1, lw_s (fun h => h.2.elim t2 (fun e => hn e.1)) z2⟩
      · rw [t1, n_bind, if_neg n10]
        exact ⟨nI i, rfl, lw_0 hin ⟨hb, Or.inl t2⟩⟩
    · rw [if_neg (by decide)]
      exact ⟨z, z1, lw_s (fun h => by rw [h.1] at hb; exact absurd hb (by decide)) z2⟩
end GM
