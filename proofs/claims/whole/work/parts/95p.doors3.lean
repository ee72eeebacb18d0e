/-! game: the class -/
def Sb_ (m : Nat) : Nat → Prop := fun k => m.testBit k = true
theorem z_tb {x : Nat} : x = 0 ↔ ∀ j : Nat, x.testBit j = false := by
  constructor
  · intro h j; rw [h, Nat.zero_testBit]
  · intro h
    apply Nat.eq_of_testBit_eq
    intro j
    rw [h, Nat.zero_testBit]
theorem Sb_or (m d : Nat) : Sb_ (m ||| 2 ^ d) = ad_ (Sb_ m) d := by
  funext k
  unfold Sb_ ad_
  rw [Nat.testBit_or, Bool.or_eq_true, Nat.testBit_two_pow, decide_eq_true_eq]
  exact propext ⟨fun h => h.elim Or.inl (fun e => Or.inr e.symm), fun h => h.elim Or.inl (fun e => Or.inr e.symm)⟩
theorem Sb_lt {n m k : Nat} (hm : m < 2 ^ n) (h : Sb_ m k) : k < n := by
  apply Classical.byContradiction
  intro hn
  have h1 : m.testBit k = false := Nat.testBit_lt_two_pow (Nat.lt_of_lt_of_le hm (Nat.pow_le_pow_right (by decide) (by omega)))
  unfold Sb_ at h
  rw [h1] at h
  exact absurd h (by decide)
theorem thr_0 {m : Nat} (hm : m < 2147483648) : ((nI m &&& (nI m >>> ((1 : Int32) &&& 31))) &&& (nI m >>> ((2 : Int32) &&& 31))) = 0 ↔ ¬ thr_ (Sb_ m) := by
  have e1 : nI m >>> ((1 : Int32) &&& 31) = nI (m >>> 1) := n_shr (k := 1) (by decide) hm
  have e2 : nI m >>> ((2 : Int32) &&& 31) = nI (m >>> 2) := n_shr (k := 2) (by decide) hm
  rw [e1, e2, n_and, n_and]
  have hle : (m &&& m >>> 1) &&& m >>> 2 ≤ m := Nat.le_trans Nat.and_le_left Nat.and_le_left
  have e3 : (nI ((m &&& m >>> 1) &&& m >>> 2) = 0) ↔ ((m &&& m >>> 1) &&& m >>> 2) = 0 := nI_eq (b := 0) (by omega) (by decide)
  rw [e3, z_tb]
  constructor
  · rintro h ⟨k, k1, k2, k3⟩
    have := h k
    rw [Nat.testBit_and, Nat.testBit_and, Nat.testBit_shiftRight, Nat.testBit_shiftRight, show 1 + k = k + 1 by omega, show 2 + k = k + 2 by omega] at this
    unfold Sb_ at k1 k2 k3
    rw [k1, k2, k3] at this
    exact absurd this (by decide)
  · intro h j
    rw [Nat.testBit_and, Nat.testBit_and, Nat.testBit_shiftRight, Nat.testBit_shiftRight, show 1 + j = j + 1 by omega, show 2 + j = j + 2 by omega]
    cases h1 : m.testBit j
    · rfl
    · cases h2 : m.testBit (j + 1)
      · rfl
      · cases h3 : m.testBit (j + 2)
        · rfl
        · exact absurd ⟨j, h1, h2, h3⟩ h
theorem fe_0 {m i : Nat} (hm : m < 262144) (hi : i < 32) : (((nI m <<< ((2 : Int32) &&& 31)) >>> (nI i &&& 31)) &&& (31 : Int32)) = 0 ↔ fe_ (Sb_ m) i = true := by
  have hs4 : m <<< 2 = m * 4 := by rw [Nat.shiftLeft_eq]
  have e1 : nI m <<< ((2 : Int32) &&& 31) = nI (m <<< 2) := n_shl (k := 2) (by decide)
  have e2 : nI i &&& (31 : Int32) = nI i := n_31 hi
  rw [e1, e2, n_shr hi (by omega)]
  have e3 : nI ((m <<< 2) >>> i) &&& (31 : Int32) = nI ((m <<< 2) >>> i &&& 31) := n_and _ 31
  have hle : (m <<< 2) >>> i &&& 31 ≤ 31 := Nat.and_le_right
  have e4 : (nI ((m <<< 2) >>> i &&& 31) = 0) ↔ ((m <<< 2) >>> i &&& 31) = 0 := nI_eq (b := 0) (by omega) (by decide)
  rw [e3, e4, z_tb, fe_t]
  have e5 : ∀ j : Nat, (31 : Nat).testBit j = decide (j < 5) := fun j => Nat.testBit_two_pow_sub_one 5 j
  constructor
  · intro h k hk
    apply Classical.byContradiction
    intro hc
    have := h (k + 2 - i)
    rw [Nat.testBit_and, Nat.testBit_shiftRight, Nat.testBit_shiftLeft, e5, decide_eq_true (show k + 2 - i < 5 by omega), decide_eq_true (show i + (k + 2 - i) ≥ 2 by omega), show i + (k + 2 - i) - 2 = k by omega, Bool.true_and, Bool.and_true] at this
    unfold Sb_ at hk
    rw [hk] at this
    exact absurd this (by decide)
  · intro h j
    rw [Nat.testBit_and, Nat.testBit_shiftRight, Nat.testBit_shiftLeft, e5]
    by_cases hj : j < 5
    · by_cases h2 : i + j ≥ 2
      · rw [decide_eq_true h2, Bool.true_and]
        cases hb : m.testBit (i + j - 2)
        · rfl
        · have := h (i + j - 2) hb
          omega
      · rw [decide_eq_false h2, Bool.false_and, Bool.false_and]
    · rw [decide_eq_false hj, Bool.and_false]
section GC
variable {F n m : Nat} {σ : nd_Mem}
theorem e_wrn {c : Nat} (hw : ∀ j : Nat, j < 19 → σ 59 j = nI (W_ j)) (hc : c ≤ 18) : f_X7_worthOfRun F (nI c) σ = some (nI (W_ c), σ) := by
  have := e_wr (F := F) (σ := σ) (n := 19) (a := c) (c := 0) hc (by omega) hw (by omega)
  rw [n_sub (Nat.zero_le c), Nat.sub_zero] at this
  exact this
theorem t3_c {x : Nat} (hx : x < 2147483648) : (f_X7_threeTogether F (nI x) σ = some (0, σ) ∧ ¬ thr_ (Sb_ x)) ∨ (f_X7_threeTogether F (nI x) σ = some (1, σ) ∧ thr_ (Sb_ x)) := by
  unfold f_X7_threeTogether
  by_cases h : thr_ (Sb_ x)
  · right
    exact ⟨if_neg (fun e => (thr_0 hx).mp e h), h⟩
  · left
    exact ⟨if_pos ((thr_0 hx).mpr h), h⟩
theorem t3_m {x : Nat} (hx : x < 2147483648) : (f_X11_hasThree F (nI x) σ = some (0, σ) ∧ ¬ thr_ (Sb_ x)) ∨ (f_X11_hasThree F (nI x) σ = some (1, σ) ∧ thr_ (Sb_ x)) := by
  unfold f_X11_hasThree
  by_cases h : thr_ (Sb_ x)
  · right
    exact ⟨if_neg (fun e => (thr_0 hx).mp e h), h⟩
  · left
    exact ⟨if_pos ((thr_0 hx).mpr h), h⟩
theorem p18 {n : Nat} (h : n ≤ 18) : 2 ^ n ≤ 262144 := show 2 ^ n ≤ 2 ^ 18 from Nat.pow_le_pow_right (by decide) h
theorem c_ncw_ (h18 : n ≤ 18) (hm : m < 2 ^ n) (hw : ∀ j : Nat, j < 19 → σ 59 j = nI (W_ j)) : ∀ (D i f T c : Nat), i + D = n → D < f → c ≤ i → (∀ i' : Nat, i' < i → ¬ thr_ (ad_ (Sb_ m) i')) → (D = 0 → T = X_ n (Sb_ m)) → (0 < D → fe_ (Sb_ m) i = true → T ^^^ sn_ (fe_ (Sb_ m)) i c D = X_ n (Sb_ m)) → (0 < D → fe_ (Sb_ m) i = false → T ^^^ sn_ (fe_ (Sb_ m)) i 0 D = X_ n (Sb_ m)) → (f_X7_nextCanWin_8 F f (nI n) (nI m) (nI T) (nI c) (nI i) σ = some (1, σ) ∧ cwin_ n (Sb_ m)) ∨ (f_X7_nextCanWin_8 F f (nI n) (nI m) (nI T) (nI c) (nI i) σ = some (0, σ) ∧ ¬ cwin_ n (Sb_ m)) := by
  have hp := p18 h18
  have hx8 : X_ n (Sb_ m) < 8 := sn_8 n 0 0 (by omega)
  intro D
  induction D with
  | zero =>
    intro i f T c hi hf hc hno h1 h2 h3
    obtain ⟨f, rfl⟩ : ∃ g, f = g + 1 := ⟨f - 1, by omega⟩
    have : i = n := by omega
    subst this
    have hT := h1 rfl
    have head : f_X7_nextCanWin_8 F (f + 1) (nI i) (nI m) (nI T) (nI c) (nI i) σ = (if nI T = 0 then (some ((0 : Int32), σ)) else (some ((1 : Int32), σ))) := by
      show f_X7_nextCanWin_8_b F _ _ _ _ _ _ σ = _
      unfold f_X7_nextCanWin_8_b
      rw [if_pos (Int32.le_refl _)]
    rw [head]
    by_cases h0 : T = 0
    · right
      refine ⟨by rw [h0]; exact if_pos rfl, fun h => ?_⟩
      rcases h with ⟨i', a, b⟩ | h
      · exact hno i' a b
      · omega
    · left
      exact ⟨if_neg (nI_ne0 (by omega) (by omega)), Or.inr (by omega)⟩
  | succ D ih =>
    intro i f T c hi hf hc hno h1 h2 h3
    obtain ⟨f, rfl⟩ : ∃ g, f = g + 1 := ⟨f - 1, by omega⟩
    have hin : i < n := by omega
    have h1i : (1 : Int32) <<< (nI i &&& 31) = nI (2 ^ i) := n_one (by omega)
    have hpi : 2 ^ i < 2 ^ n := Nat.pow_lt_pow_right (by decide) hin
    have hor : m ||| 2 ^ i < 2 ^ n := Nat.or_lt_two_pow hm hpi
    have head : f_X7_nextCanWin_8 F (f + 1) (nI n) (nI m) (nI T) (nI c) (nI i) σ = (nd_bind (f_X7_threeTogether F (nI (m ||| 2 ^ i)) σ) fun r1 σ2 => (if r1 = 0 then (if (((nI m <<< ((2 : Int32) &&& 31)) >>> (nI i &&& 31)) &&& (31 : Int32)) = 0 then (f_X7_nextCanWin_45 F (f_X7_nextCanWin_8 F f) (nI n) (nI m) (nI T) (nI c) (nI i) (1 : Int32) σ2) else (f_X7_nextCanWin_45 F (f_X7_nextCanWin_8 F f) (nI n) (nI m) (nI T) (nI c) (nI i) (0 : Int32) σ2)) else (some ((1 : Int32), σ2)))) := by
      show f_X7_nextCanWin_8_b F _ _ _ _ _ _ σ = _
      unfold f_X7_nextCanWin_8_b
      rw [if_neg (show ¬ nI n ≤ nI i from nI_ge hin (by omega)), h1i, n_or]
    rw [head]
    rcases t3_c (F := F) (σ := σ) (x := m ||| 2 ^ i) (by omega) with ⟨t1, t2⟩ | ⟨t1, t2⟩
    · rw [t1, n_bind, if_pos rfl]
      rw [Sb_or] at t2
      have hno' : ∀ i' : Nat, i' < i + 1 → ¬ thr_ (ad_ (Sb_ m) i') := by
        intro i' h
        by_cases hii : i' = i
        · rw [hii]; exact t2
        · exact hno i' (by omega)
      cases hfe : fe_ (Sb_ m) i
      · rw [if_neg (fun e => by
          have := (fe_0 (show m < 262144 by omega) (show i < 32 by omega)).mp e
          rw [hfe] at this
          exact absurd this (by decide))]
        have s1 : f_X7_nextCanWin_45 F (f_X7_nextCanWin_8 F f) (nI n) (nI m) (nI T) (nI c) (nI i) 0 σ = f_X7_nextCanWin_8 F f (nI n) (nI m) (nI T) (nI 0) (nI (i + 1)) σ := by
          unfold f_X7_nextCanWin_45 f_X7_nextCanWin_60 f_X7_nextCanWin_84 f_X7_nextCanWin_89 f_X7_nextCanWin_110
          rw [if_pos rfl, if_pos rfl, if_pos rfl, nI_1, ite_self, ite_self]
          rfl
        rw [s1]
        have h3' := h3 (by omega) hfe
        rw [sn_f hfe, show W_ 0 = 0 from rfl, Nat.zero_xor] at h3'
        refine ih (i + 1) f T 0 (by omega) (by omega) (by omega) hno' ?_ (fun _ _ => h3') (fun _ _ => h3')
        intro hD
        rw [hD] at h3'
        have : T ^^^ W_ 0 = X_ n (Sb_ m) := h3'
        rw [show W_ 0 = 0 from rfl, Nat.xor_zero] at this
        exact this
      · rw [if_pos ((fe_0 (show m < 262144 by omega) (show i < 32 by omega)).mpr hfe)]
        have h2' := h2 (by omega) hfe
        rw [sn_t hfe] at h2'
        have add : nd_bind (f_X7_worthOfRun F (nI (c + 1)) σ) (fun r1 σ2 => f_X7_nextCanWin_8 F f (nI n) (nI m) (nI T ^^^ r1) (nI (c + 1)) (nI (i + 1)) σ2) = f_X7_nextCanWin_8 F f (nI n) (nI m) (nI (T ^^^ W_ (c + 1))) (nI (c + 1)) (nI (i + 1)) σ := by
          rw [e_wrn hw (by omega), n_bind, n_xor]
        by_cases hl : i = n - 1
        · have hD : D = 0 := by omega
          have s1 : f_X7_nextCanWin_45 F (f_X7_nextCanWin_8 F f) (nI n) (nI m) (nI T) (nI c) (nI i) 1 σ = f_X7_nextCanWin_8 F f (nI n) (nI m) (nI (T ^^^ W_ (c + 1))) (nI (c + 1)) (nI (i + 1)) σ := by
            unfold f_X7_nextCanWin_45 f_X7_nextCanWin_60 f_X7_nextCanWin_84 f_X7_nextCanWin_89 f_X7_nextCanWin_110
            rw [if_neg n10, if_pos (show nI i = nI n - 1 by rw [hl]; exact (n_sub (a := n) (b := 1) (by omega)).symm), if_neg n10, if_neg n10, nI_1, nI_1]
            exact add
          rw [s1]
          rw [hD] at h2'
          exact ih (i + 1) f _ (c + 1) (by omega) (by omega) (by omega) hno' (fun _ => h2') (fun h => by omega) (fun h => by omega)
        · have hne : ¬ nI i = nI n - 1 := by
            intro e
            have e' : nI n - 1 = nI (n - 1) := n_sub (a := n) (b := 1) (by omega)
            rw [e'] at e
            exact hl ((nI_eq (by omega) (by omega)).mp e)
          cases hfn : fe_ (Sb_ m) (i + 1)
          · have s1 : f_X7_nextCanWin_45 F (f_X7_nextCanWin_8 F f) (nI n) (nI m) (nI T) (nI c) (nI i) 1 σ = f_X7_nextCanWin_8 F f (nI n) (nI m) (nI (T ^^^ W_ (c + 1))) (nI (c + 1)) (nI (i + 1)) σ := by
              unfold f_X7_nextCanWin_45 f_X7_nextCanWin_60 f_X7_nextCanWin_84 f_X7_nextCanWin_89 f_X7_nextCanWin_110
              rw [if_neg n10, if_neg hne, nI_1, nI_1, if_neg (fun e => by
                have := (fe_0 (show m < 262144 by omega) (show i + 1 < 32 by omega)).mp e
                rw [hfn] at this
                exact absurd this (by decide)), if_neg n10, if_neg n10]
              exact add
            rw [s1]
            obtain ⟨D', rfl⟩ : ∃ D', D = D' + 1 := ⟨D - 1, by omega⟩
            rw [sn_f hfn, ← Nat.xor_assoc] at h2'
            refine ih (i + 1) f _ (c + 1) (by omega) (by omega) (by omega) hno' (fun h => by omega) (fun _ h => by rw [hfn] at h; exact absurd h (by decide)) (fun _ _ => ?_)
            rw [sn_f hfn, show W_ 0 = 0 from rfl, Nat.zero_xor]
            exact h2'
          · have s1 : f_X7_nextCanWin_45 F (f_X7_nextCanWin_8 F f) (nI n) (nI m) (nI T) (nI c) (nI i) 1 σ = f_X7_nextCanWin_8 F f (nI n) (nI m) (nI T) (nI (c + 1)) (nI (i + 1)) σ := by
              unfold f_X7_nextCanWin_45 f_X7_nextCanWin_60 f_X7_nextCanWin_84 f_X7_nextCanWin_89 f_X7_nextCanWin_110
              rw [if_neg n10, if_neg hne, nI_1, nI_1, if_pos ((fe_0 (show m < 262144 by omega) (show i + 1 < 32 by omega)).mpr hfn), if_neg n10, if_pos rfl]
            rw [s1]
            exact ih (i + 1) f T (c + 1) (by omega) (by omega) (by omega) hno' (fun h => by omega) (fun _ _ => h2') (fun _ h => by rw [hfn] at h; exact absurd h (by decide))
    · rw [t1, n_bind, if_neg n10]
      rw [Sb_or] at t2
      exact Or.inl ⟨rfl, Or.inl ⟨i, hin, t2⟩⟩
theorem c_ncw (hF : 300000 ≤ F) (h18 : n ≤ 18) (h1 : 1 ≤ n) (hm : m < 2 ^ n) (hw : ∀ j : Nat, j < 19 → σ 59 j = nI (W_ j)) : (f_X7_nextCanWin F (nI n) (nI m) σ = some (1, σ) ∧ cwin_ n (Sb_ m)) ∨ (f_X7_nextCanWin F (nI n) (nI m) σ = some (0, σ) ∧ ¬ cwin_ n (Sb_ m)) :=
  c_ncw_ (F := F) h18 hm hw n 0 F 0 0 (by omega) (by omega) (by omega) (fun i h => by omega) (fun h => by omega) (fun _ _ => by rw [Nat.zero_xor]; rfl) (fun _ _ => by rw [Nat.zero_xor]; rfl)
end GC
