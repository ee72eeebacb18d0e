/-! siding -/
theorem lN_dv {a b : Nat} (ha : a < 2147483648) (hb : b < 2147483648) : lN a / lN b = lN (a / b) := by
  have hne : lN a ≠ Int64.minValue := by
    intro h
    have h1 := lN_toInt (n := a) ha
    rw [h] at h1
    have h2 : Int64.minValue.toInt = -9223372036854775808 := by decide
    omega
  apply Int64.toInt_inj.mp
  rw [Int64.toInt_div_of_ne_left _ _ hne, lN_toInt ha, lN_toInt hb, lN_toInt (Nat.lt_of_le_of_lt (Nat.div_le_self a b) ha)]
  rfl
theorem lN_rm {a b : Nat} (ha : a < 2147483648) (hb : b < 2147483648) : q_lrem (lN a) (lN b) = lN (a % b) := by
  unfold q_lrem
  rw [lN_dv ha hb, lN_mul, lN_sub (Nat.div_mul_le_self a b)]
  congr 1
  have := Nat.div_add_mod a b
  rw [Nat.mul_comm] at this
  omega
theorem lcmp_0 {a b : Nat} (ha : a < 2147483648) (hb : b < 2147483648) : (lg_cmp (lN a) (lN b) = 0) ↔ a = b := by
  unfold lg_cmp
  by_cases h1 : b < a
  · rw [if_pos ((lN_lt hb ha).mpr h1)]
    constructor
    · intro e; exact absurd e (by decide)
    · intro e; omega
  · rw [if_neg (fun e => h1 ((lN_lt hb ha).mp e))]
    by_cases h2 : a = b
    · rw [if_pos (by rw [h2])]
      exact ⟨fun _ => h2, fun _ => rfl⟩
    · rw [if_neg (fun e => h2 ((lN_eq ha hb).mp e))]
      constructor
      · intro e; exact absurd e (by decide)
      · intro e; exact absurd e h2
def sq_ (v : Nat) : Nat → Nat
  | 0 => 0
  | k + 1 => sq_ v k ||| 2 ^ (v / 10 ^ k % 10)
theorem sq_lt (v : Nat) : ∀ k : Nat, sq_ v k < 2 ^ 10 := by
  intro k
  induction k with
  | zero => exact (by decide : 0 < 2 ^ 10)
  | succ k ih => exact Nat.or_lt_two_pow ih (Nat.pow_lt_pow_right (by decide) (Nat.mod_lt _ (by decide)))
theorem dv_s (v i : Nat) : v / 10 ^ i / 10 = v / 10 ^ (i + 1) := by
  rw [Nat.pow_succ, Nat.div_div_eq_div_mul]
section SDW
variable {F : Nat} {σ : nd_Mem} {v : Nat}
theorem c_wag (hv : v < 2147483648) : ∀ (d i f : Nat), i + d = 9 → d < f → (∀ j : Nat, j < i → 10 ≤ v / 10 ^ j) → ∃ n : Nat, i ≤ n ∧ n ≤ 9 ∧ (∀ j : Nat, j < n → 10 ≤ v / 10 ^ j) ∧ v / 10 ^ n < 10 ∧ f_X0_wagons_9 F f (nI (sq_ v i)) (nI i) (nI (v / 10 ^ i)) (nI i) σ = f_X0_wagons_45 F (nI (sq_ v n)) (nI n) (nI (v / 10 ^ n)) σ := by
  intro d
  induction d with
  | zero =>
    intro i f hi hf hj
    obtain ⟨f, rfl⟩ : ∃ g, f = g + 1 := ⟨f - 1, by omega⟩
    have hi9 : i = 9 := by omega
    subst hi9
    have h9 : v / 10 ^ 9 < 10 := by
      rw [show (10 : Nat) ^ 9 = 1000000000 from rfl]
      omega
    refine ⟨9, Nat.le_refl 9, by omega, hj, h9, ?_⟩
    show f_X0_wagons_9_b F _ _ _ _ _ σ = _
    unfold f_X0_wagons_9_b
    rw [if_neg (by decide), if_pos (show nI (v / 10 ^ 9) < (10 : Int32) from nI_lt (b := 10) h9 (by decide))]
  | succ d ih =>
    intro i f hi hf hj
    obtain ⟨f, rfl⟩ : ∃ g, f = g + 1 := ⟨f - 1, by omega⟩
    have hle : v / 10 ^ i ≤ v := Nat.div_le_self _ _
    by_cases h10 : v / 10 ^ i < 10
    · refine ⟨i, Nat.le_refl i, by omega, hj, h10, ?_⟩
      show f_X0_wagons_9_b F _ _ _ _ _ σ = _
      unfold f_X0_wagons_9_b
      rw [if_neg (show ¬ (10 : Int32) ≤ nI i from nI_ge (b := 10) (by omega) (by decide)), if_pos (show nI (v / 10 ^ i) < (10 : Int32) from nI_lt (b := 10) h10 (by decide))]
    · obtain ⟨n, n1, n2, n3, n4, n5⟩ := ih (i + 1) f (by omega) (by omega) (fun j hji => by
        by_cases hje : j = i
        · subst hje; omega
        · exact hj j (by omega))
      refine ⟨n, by omega, n2, n3, n4, ?_⟩
      show f_X0_wagons_9_b F _ _ _ _ _ σ = _
      unfold f_X0_wagons_9_b
      have hm : v / 10 ^ i % 10 < 10 := Nat.mod_lt _ (by decide)
      have e1 : (1 : Int32) <<< (nI (v / 10 ^ i % 10) &&& 31) = nI (2 ^ (v / 10 ^ i % 10)) := n_one (by omega)
      rw [if_neg (show ¬ (10 : Int32) ≤ nI i from nI_ge (b := 10) (by omega) (by decide)), if_neg (show ¬ nI (v / 10 ^ i) < (10 : Int32) from nI_nlt (b := 10) (by omega) (by omega)), show q_rem (nI (v / 10 ^ i)) 10 = nI (v / 10 ^ i % 10) from n_rem (b := 10) (by omega) (by omega), e1, n_or, show nI (v / 10 ^ i) / 10 = nI (v / 10 ^ i / 10) from n_div (b := 10) (by omega) (by omega), dv_s, nI_1]
      exact n5
theorem m_wag1 (hv : v < 2147483648) {n : Nat} (hn : n ≤ 9) (h1 : ∀ j : Nat, j < n → 10 ≤ v / 10 ^ j) (h2 : v / 10 ^ n < 10) : ∀ (d i f : Nat), i + d = n → d < f → f_X11_takesWagons_4 F f (nI v) (nI i) (nI (v / 10 ^ i)) σ = (if nI v < (10 : Int32) then some (-1, σ) else f_X11_takesWagons_46 F F (nI n) 0 (nI v) (nI n - 1) σ) := by
  intro d
  induction d with
  | zero =>
    intro i f hi hf
    obtain ⟨f, rfl⟩ : ∃ g, f = g + 1 := ⟨f - 1, by omega⟩
    have : i = n := by omega
    subst this
    show f_X11_takesWagons_4_b F _ _ _ _ σ = _
    unfold f_X11_takesWagons_4_b f_X11_takesWagons_34
    rw [if_pos (show nI (v / 10 ^ i) ≤ (9 : Int32) from nI_le (b := 9) (by omega) (by decide)), if_pos (show nI i ≤ (9 : Int32) from nI_le (b := 9) hn (by decide))]
  | succ d ih =>
    intro i f hi hf
    obtain ⟨f, rfl⟩ : ∃ g, f = g + 1 := ⟨f - 1, by omega⟩
    have hle : v / 10 ^ i ≤ v := Nat.div_le_self _ _
    have := h1 i (by omega)
    show f_X11_takesWagons_4_b F _ _ _ _ σ = _
    unfold f_X11_takesWagons_4_b
    rw [if_neg (show ¬ nI (v / 10 ^ i) ≤ (9 : Int32) from nI_ge (a := 9) (by omega) (by omega)), show nI (v / 10 ^ i) / 10 = nI (v / 10 ^ i / 10) from n_div (b := 10) (by omega) (by omega), dv_s, nI_1]
    exact ih (i + 1) f (by omega) (by omega)
theorem m_wag2 (hv : v < 2147483648) {n : Nat} (hn : n ≤ 9) : ∀ (d i f : Nat) (g : Nat → Int32), i + d = n → d < f → (∀ k : Nat, d ≤ k → k < n → g k = nI (v / 10 ^ (n - 1 - k) % 10)) → ∃ g' : Nat → Int32, (∀ k : Nat, k < n → g' k = nI (v / 10 ^ (n - 1 - k) % 10)) ∧ f_X11_takesWagons_46 F f (nI n) (nI (sq_ v i)) (nI (v / 10 ^ i)) (nI d + -1) (nd_row σ 82 g) = (if nI (v / 10 ^ n) = 1 then (if nI (sq_ v n) = ((1 : Int32) <<< (nI n &&& 31)) - 1 then some (nI n, nd_row σ 82 g') else some (-1, nd_row σ 82 g')) else some (-1, nd_row σ 82 g')) := by
  intro d
  induction d with
  | zero =>
    intro i f g hi hf hg
    obtain ⟨f, rfl⟩ : ∃ g, f = g + 1 := ⟨f - 1, by omega⟩
    have : i = n := by omega
    subst this
    refine ⟨g, fun k hk => hg k (by omega) hk, ?_⟩
    show f_X11_takesWagons_46_b F _ _ _ _ _ _ = _
    unfold f_X11_takesWagons_46_b f_X11_takesWagons_105
    rw [if_pos (by decide)]
  | succ d ih =>
    intro i f g hi hf hg
    obtain ⟨f, rfl⟩ : ∃ g, f = g + 1 := ⟨f - 1, by omega⟩
    have hle : v / 10 ^ i ≤ v := Nat.div_le_self _ _
    have hm : v / 10 ^ i % 10 < 10 := Nat.mod_lt _ (by decide)
    have e1 : (1 : Int32) <<< (nI (v / 10 ^ i % 10) &&& 31) = nI (2 ^ (v / 10 ^ i % 10)) := n_one (by omega)
    obtain ⟨g', q1, q2⟩ := ih (i + 1) f (upd g d (nI (v / 10 ^ i % 10))) (by omega) (by omega) (fun k h1 h2 => by
      by_cases hkd : k = d
      · subst hkd
        rw [upd_eq, show n - 1 - k = i by omega]
      · rw [upd_ne hkd]
        exact hg k (by omega) h2)
    refine ⟨g', q1, ?_⟩
    rw [nI_down]
    show f_X11_takesWagons_46_b F _ _ _ _ _ _ = _
    unfold f_X11_takesWagons_46_b
    rw [if_neg (nI_pos (by omega)), if_neg (nI_in (by omega) (by decide)), nI_clamp (by omega), show q_rem (nI (v / 10 ^ i)) 10 = nI (v / 10 ^ i % 10) from n_rem (b := 10) (by omega) (by omega), n_let, up_row, e1, n_or, show nI (v / 10 ^ i) / 10 = nI (v / 10 ^ i / 10) from n_div (b := 10) (by omega) (by omega), dv_s]
    exact q2
end SDW
/-- the stack as a number -/
def sv_ (st : Nat → Nat) : Nat → Nat
  | 0 => 0
  | m + 1 => sv_ st m * 10 + st m
theorem sv_lt {st : Nat → Nat} : ∀ m : Nat, (∀ k : Nat, k < m → st k < 10) → sv_ st m < 10 ^ m := by
  intro m
  induction m with
  | zero => intro _; exact (by decide : 0 < 10 ^ 0)
  | succ m ih =>
    intro h
    have h1 := ih (fun k hk => h k (by omega))
    have h2 := h m (by omega)
    show sv_ st m * 10 + st m < 10 ^ (m + 1)
    rw [Nat.pow_succ]
    omega
theorem sv_cg {st st' : Nat → Nat} : ∀ m : Nat, (∀ k : Nat, k < m → st' k = st k) → sv_ st' m = sv_ st m := by
  intro m
  induction m with
  | zero => intro _; rfl
  | succ m ih =>
    intro h
    show sv_ st' m * 10 + st' m = sv_ st m * 10 + st m
    rw [ih (fun k hk => h k (by omega)), h m (by omega)]
theorem sv_b {st : Nat → Nat} {m : Nat} (hm : m ≤ 9) (h : ∀ k : Nat, k < m → st k < 10) : sv_ st m < 1000000000 := Nat.lt_of_lt_of_le (sv_lt m h) (Nat.le_trans (Nat.pow_le_pow_right (by decide) hm) (by decide))
section SDG
variable {F : Nat} {σ τ : nd_Mem} {v n : Nat}
/-- out of the siding: both alike -/
theorem pop_ (hn : n ≤ 9) {st : Nat → Nat} {g : Nat → Int32} {x7 x5 : Int32} {p q : Nat} {rec16 : Int32 → Int32 → Int64 → Int32 → Int32 → Int32 → Int32 → nd_Mem → nd_Res} {rec10 : Int32 → Int32 → Int32 → Int32 → Int32 → nd_Mem → nd_Res} (hst : ∀ k : Nat, k < 9 → st k < 10) : ∀ (m d out f f' : Nat), m ≤ 9 → d + m ≤ 9 → out + m ≤ n → m < f → m < f' → (∀ k : Nat, k < m → g k = nI (st k)) → ∃ m' d' : Nat, m' ≤ m ∧ d' + m' = d + m ∧ (∀ m0 : Nat, m = m0 + 1 → st m0 ≠ d → m' = m) ∧ f_X0_mostInSiding_73 F rec16 f (nI v) (nI n) (lN (sv_ st m)) (nI m) (nI p) (nI d) x7 (nI out) σ = rec16 (nI v) (nI n) (lN (sv_ st m')) (nI m') (nI p) (nI d') (x7 + -1) σ ∧ f_X11_deepest_51 F rec10 f' (nI n) (nI d) (nI m) (nI q) x5 (nd_row τ 83 g) = f_X11_deepest_78 F rec10 (nI n) (nI d') (nI m') (nI q) x5 (nd_row τ 83 g) := by
  intro m
  induction m with
  | zero =>
    intro d out f f' hm hd ho hf hf' hg
    obtain ⟨f, rfl⟩ : ∃ g, f = g + 1 := ⟨f - 1, by omega⟩
    obtain ⟨f', rfl⟩ : ∃ g, f' = g + 1 := ⟨f' - 1, by omega⟩
    refine ⟨0, d, Nat.le_refl 0, rfl, fun m0 e => by omega, ?_, ?_⟩
    · show f_X0_mostInSiding_73_b F rec16 _ _ _ _ _ _ _ _ _ σ = _
      unfold f_X0_mostInSiding_73_b f_X0_mostInSiding_114
      by_cases h : nI n ≤ nI out
      · rw [if_pos h]
      · rw [if_neg h, if_pos (by decide)]
    · show f_X11_deepest_51_b F rec10 _ _ _ _ _ _ _ = _
      unfold f_X11_deepest_51_b
      rw [if_pos (by decide)]
  | succ m ih =>
    intro d out f f' hm hd ho hf hf' hg
    obtain ⟨f, rfl⟩ : ∃ g, f = g + 1 := ⟨f - 1, by omega⟩
    obtain ⟨f', rfl⟩ : ∃ g, f' = g + 1 := ⟨f' - 1, by omega⟩
    have hb := sv_b (st := st) (m := m + 1) hm (fun k hk => hst k (by omega))
    have hs : sv_ st (m + 1) = sv_ st m * 10 + st m := rfl
    have hstm := hst m (by omega)
    have emod : sv_ st (m + 1) % 10 = st m := by rw [hs]; omega
    have ediv : sv_ st (m + 1) / 10 = sv_ st m := by rw [hs]; omega
    have stepC : f_X0_mostInSiding_73 F rec16 (f + 1) (nI v) (nI n) (lN (sv_ st (m + 1))) (nI (m + 1)) (nI p) (nI d) x7 (nI out) σ = (if st m = d then f_X0_mostInSiding_73 F rec16 f (nI v) (nI n) (lN (sv_ st m)) (nI m) (nI p) (nI (d + 1)) x7 (nI (out + 1)) σ else rec16 (nI v) (nI n) (lN (sv_ st (m + 1))) (nI (m + 1)) (nI p) (nI d) (x7 + -1) σ) := by
      show f_X0_mostInSiding_73_b F rec16 _ _ _ _ _ _ _ _ _ σ = _
      unfold f_X0_mostInSiding_73_b f_X0_mostInSiding_114
      rw [if_neg (nI_ge (by omega) (by omega)), if_neg (nI_nle (by omega) (by omega)), show q_lrem (lN (sv_ st (m + 1))) 10 = lN (st m) by rw [show (10 : Int64) = lN 10 from rfl, lN_rm (by omega) (by omega), emod], nI_l (by omega), show lN (sv_ st (m + 1)) / 10 = lN (sv_ st m) by rw [show (10 : Int64) = lN 10 from rfl, lN_dv (by omega) (by omega), ediv], nI_down, nI_1, nI_1]
      by_cases h : st m = d
      · rw [if_pos h, if_pos ((lcmp_0 (by omega) (by omega)).mpr h)]
      · rw [if_neg h, if_neg (fun e => h ((lcmp_0 (by omega) (by omega)).mp e))]
    have stepM : f_X11_deepest_51 F rec10 (f' + 1) (nI n) (nI d) (nI (m + 1)) (nI q) x5 (nd_row τ 83 g) = (if st m = d then f_X11_deepest_51 F rec10 f' (nI n) (nI (d + 1)) (nI m) (nI q) x5 (nd_row τ 83 g) else f_X11_deepest_78 F rec10 (nI n) (nI d) (nI (m + 1)) (nI q) x5 (nd_row τ 83 g)) := by
      show f_X11_deepest_51_b F rec10 _ _ _ _ _ _ _ = _
      unfold f_X11_deepest_51_b
      rw [if_neg (nI_nle (by omega) (by omega)), nI_pred, if_neg (nI_in (by omega) (by decide)), nI_clamp (by omega), w_eq, hg m (by omega), nI_1]
      by_cases h : st m = d
      · rw [if_pos h, if_pos (by rw [h])]
      · rw [if_neg h, if_neg (fun e => h ((nI_eq (by omega) (by omega)).mp e))]
    rw [stepC, stepM]
    by_cases h : st m = d
    · rw [if_pos h, if_pos h]
      obtain ⟨m', d', a1, a2, _, a3, a4⟩ := ih (d + 1) (out + 1) f f' (by omega) (by omega) (by omega) (by omega) (by omega) (fun k hk => hg k (by omega))
      exact ⟨m', d', by omega, by omega, fun m0 e hne => absurd (by rw [← show m = m0 by omega]; exact h) hne, a3, a4⟩
    · rw [if_neg h, if_neg h]
      exact ⟨m + 1, d, Nat.le_refl _, rfl, fun _ _ _ => rfl, rfl, rfl⟩
theorem deep_ (hF : 300000 ≤ F) (hv : v < 2147483648) (hn : n ≤ 9) (hw : ∀ k : Nat, k < n → τ 82 k = nI (v / 10 ^ (n - 1 - k) % 10)) : ∀ (r k f f' m d p : Nat) (st : Nat → Nat) (g : Nat → Int32), k + r = n → r < f → r < f' → d + m = k → m ≤ p → p ≤ 9 → (∀ j : Nat, j < 9 → st j < 10) → (∀ j : Nat, j < m → g j = nI (st j)) → ∃ (z : Int32) (g' : Nat → Int32), f_X0_mostInSiding_16 F f (nI v) (nI n) (lN (sv_ st m)) (nI m) (nI p) (nI d) (nI r + -1) σ = some (z, σ) ∧ f_X11_deepest_10 F f' (nI n) (nI d) (nI m) (nI p) (nI k) (nd_row τ 83 g) = some (z, nd_row τ 83 g') := by
  intro r
  induction r with
  | zero =>
    intro k f f' m d p st g hk hf hf' hdm hmp hp9 hst hg
    obtain ⟨f, rfl⟩ : ∃ g, f = g + 1 := ⟨f - 1, by omega⟩
    obtain ⟨f', rfl⟩ : ∃ g, f' = g + 1 := ⟨f' - 1, by omega⟩
    have e1 : f_X0_mostInSiding_16 F (f + 1) (nI v) (nI n) (lN (sv_ st m)) (nI m) (nI p) (nI d) (nI 0 + -1) σ = (if nI m = 0 then some (nI p, σ) else some (-1, σ)) := by
      show f_X0_mostInSiding_16_b F _ _ _ _ _ _ _ _ σ = _
      unfold f_X0_mostInSiding_16_b
      rw [if_pos (by decide)]
    have e2 : f_X11_deepest_10 F (f' + 1) (nI n) (nI d) (nI m) (nI p) (nI k) (nd_row τ 83 g) = (if nI m = 0 then some (nI p, nd_row τ 83 g) else some (-1, nd_row τ 83 g)) := by
      show f_X11_deepest_10_b F _ _ _ _ _ _ _ = _
      unfold f_X11_deepest_10_b
      rw [if_pos (nI_le (by omega) (by omega))]
    rw [e1, e2]
    by_cases h0 : nI m = 0
    · rw [if_pos h0, if_pos h0]; exact ⟨_, g, rfl, rfl⟩
    · rw [if_neg h0, if_neg h0]; exact ⟨_, g, rfl, rfl⟩
  | succ r ih =>
    intro k f f' m d p st g hk hf hf' hdm hmp hp9 hst hg
    obtain ⟨f, rfl⟩ : ∃ g, f = g + 1 := ⟨f - 1, by omega⟩
    obtain ⟨f', rfl⟩ : ∃ g, f' = g + 1 := ⟨f' - 1, by omega⟩
    have hwk := hw k (by omega)
    rw [show n - 1 - k = r by omega] at hwk
    have hp10 : 10 ^ r ≤ 10 ^ 9 := Nat.pow_le_pow_right (by decide) (by omega)
    have hpp : 0 < 10 ^ r := Nat.pow_pos (by decide)
    have hle : v / 10 ^ r ≤ v := Nat.div_le_self _ _
    have hm10 : v / 10 ^ r % 10 < 10 := Nat.mod_lt _ (by decide)
    rw [nI_down]
    have stepC : f_X0_mostInSiding_16 F (f + 1) (nI v) (nI n) (lN (sv_ st m)) (nI m) (nI p) (nI d) (nI r) σ = (if v / 10 ^ r % 10 = d then f_X0_mostInSiding_73 F (f_X0_mostInSiding_16 F f) F (nI v) (nI n) (lN (sv_ st m)) (nI m) (nI p) (nI (d + 1)) (nI r) (nI 0) σ else f_X0_mostInSiding_73 F (f_X0_mostInSiding_16 F f) F (nI v) (nI n) (lN (sv_ st m * 10 + v / 10 ^ r % 10)) (nI (m + 1)) (nI (if p < m + 1 then m + 1 else p)) (nI d) (nI r) (nI 0) σ) := by
      show f_X0_mostInSiding_16_b F _ _ _ _ _ _ _ _ σ = _
      unfold f_X0_mostInSiding_16_b f_X0_mostInSiding_70
      rw [if_neg (nI_pos (by omega)), show (10 : Int32) = nI 10 from rfl, e_pow (by omega) (by omega), n_bind, if_neg (nI_ne0 hpp (by omega)), n_div (by omega) (by omega), n_rem (by omega) (by omega), nI_1, nI_1, nI_l (by omega), show (10 : Int64) = lN 10 from rfl, lN_mul, lN_add]
      have emx : (if nI p < nI (m + 1) then nI (m + 1) else nI p) = nI (if p < m + 1 then m + 1 else p) := by
        by_cases hlt : p < m + 1
        · rw [if_pos (nI_lt hlt (by omega)), if_pos hlt]
        · rw [if_neg (nI_nlt (by omega) (by omega)), if_neg hlt]
      rw [emx]
      by_cases h : v / 10 ^ r % 10 = d
      · rw [if_pos h, if_pos (by rw [h])]
        rfl
      · rw [if_neg h, if_neg (fun e => h ((nI_eq (by omega) (by omega)).mp e))]
        rfl
    have stepM : f_X11_deepest_10 F (f' + 1) (nI n) (nI d) (nI m) (nI p) (nI k) (nd_row τ 83 g) = (if v / 10 ^ r % 10 = d then f_X11_deepest_51 F (f_X11_deepest_10 F f') F (nI n) (nI (d + 1)) (nI m) (nI p) (nI k) (nd_row τ 83 g) else f_X11_deepest_51 F (f_X11_deepest_10 F f') F (nI n) (nI d) (nI (m + 1)) (nI p) (nI k) (nd_row τ 83 (upd g m (nI (v / 10 ^ r % 10))))) := by
      show f_X11_deepest_10_b F _ _ _ _ _ _ _ = _
      unfold f_X11_deepest_10_b
      rw [if_neg (nI_ge (by omega) (by omega)), if_neg (nI_in (by omega) (by decide)), nI_clamp (by omega), w_ne (by decide), hwk, nI_1, nI_1]
      by_cases h : v / 10 ^ r % 10 = d
      · rw [if_pos h, if_pos (by rw [h])]
      · rw [if_neg h, if_neg (fun e => h ((nI_eq (by omega) (by omega)).mp e)), if_neg (nn_in (by omega) (by omega)), if_neg (nI_in (by omega) (by decide)), nI_clamp (by omega), n_let, up_row]
    rw [stepC, stepM]
    by_cases h : v / 10 ^ r % 10 = d
    · rw [if_pos h, if_pos h]
      obtain ⟨m', d', a1, a2, _, a3, a4⟩ := pop_ (F := F) (σ := σ) (τ := τ) (v := v) hn (st := st) (g := g) (x7 := nI r) (x5 := nI k) (p := p) (q := p) (rec16 := f_X0_mostInSiding_16 F f) (rec10 := f_X11_deepest_10 F f') hst m (d + 1) 0 F F (by omega) (by omega) (by omega) (by omega) (by omega) hg
      rw [a3, a4]
      unfold f_X11_deepest_78
      rw [e_greater, n_bind, nI_1]
      have eg : (if nI p ≤ nI m' then nI m' else nI p) = nI p := by
        by_cases hle2 : nI p ≤ nI m'
        · rw [if_pos hle2]
          have := (nI_leI (by omega) (by omega)).mp hle2
          rw [show m' = p by omega]
        · rw [if_neg hle2]
      rw [eg]
      exact ih (k + 1) f f' m' d' p st g (by omega) (by omega) (by omega) (by omega) (by omega) hp9 hst (fun j hj => hg j (by omega))
    · rw [if_neg h, if_neg h]
      obtain ⟨st', hst'⟩ : ∃ s : Nat → Nat, s = fun j => if j = m then v / 10 ^ r % 10 else st j := ⟨_, rfl⟩
      have hs' : ∀ j : Nat, st' j = if j = m then v / 10 ^ r % 10 else st j := fun j => by rw [hst']
      have s1 : ∀ j : Nat, j < 9 → st' j < 10 := fun j hj => by
        rw [hs']
        by_cases hjm : j = m
        · rw [if_pos hjm]; exact hm10
        · rw [if_neg hjm]; exact hst j hj
      have s2 : sv_ st m * 10 + v / 10 ^ r % 10 = sv_ st' (m + 1) := by
        show _ = sv_ st' m * 10 + st' m
        rw [sv_cg (st := st) (st' := st') m (fun j hj => by rw [hs']; exact if_neg (by omega)), hs', if_pos rfl]
      have s3 : ∀ j : Nat, j < m + 1 → upd g m (nI (v / 10 ^ r % 10)) j = nI (st' j) := fun j hj => by
        rw [hs']
        by_cases hjm : j = m
        · subst hjm; rw [upd_eq, if_pos rfl]
        · rw [upd_ne hjm, if_neg hjm]; exact hg j (by omega)
      have stop : st' m ≠ d := by
        rw [hs', if_pos rfl]
        exact h
      rw [s2]
      obtain ⟨m', d', a1, a2, a5, a3, a4⟩ := pop_ (F := F) (σ := σ) (τ := τ) (v := v) hn (st := st') (g := upd g m (nI (v / 10 ^ r % 10))) (x7 := nI r) (x5 := nI k) (p := if p < m + 1 then m + 1 else p) (q := p) (rec16 := f_X0_mostInSiding_16 F f) (rec10 := f_X11_deepest_10 F f') s1 (m + 1) d 0 F F (by omega) (by omega) (by omega) (by omega) (by omega) s3
      have m'e := a5 m rfl stop
      subst m'e
      have d'e : d' = d := by omega
      subst d'e
      rw [a3, a4]
      unfold f_X11_deepest_78
      rw [e_greater, n_bind, nI_1]
      have eg : (if nI p ≤ nI (m + 1) then nI (m + 1) else nI p) = nI (if p < m + 1 then m + 1 else p) := by
        by_cases hlt : p < m + 1
        · rw [if_pos (nI_le (by omega) (by omega)), if_pos hlt]
        · rw [if_neg hlt]
          by_cases heq : p = m + 1
          · rw [heq, if_pos (nI_le (Nat.le_refl _) (by omega))]
          · rw [if_neg (nI_ge (by omega) (by omega))]
      rw [eg]
      have hp' : m + 1 ≤ (if p < m + 1 then m + 1 else p) ∧ (if p < m + 1 then m + 1 else p) ≤ 9 := by
        by_cases hlt : p < m + 1
        · rw [if_pos hlt]; omega
        · rw [if_neg hlt]; omega
      exact ih (k + 1) f f' (m + 1) d' _ st' _ (by omega) (by omega) (by omega) (by omega) hp'.1 hp'.2 s1 s3
end SDG
/-! how many rows can go on -/
def ct_ : List Nat := [1, 1, 2, 5, 14, 42, 132, 429, 1430, 4862]
def cv_ (i : Nat) : Nat := ct_.getD i 0
def cs_ (m : Nat) : Nat → Nat
  | 0 => 0
  | k + 1 => cs_ m k + cv_ k * cv_ (m - 1 - k)
theorem ct_1 : ∀ i : Fin 9, cv_ i.val * 2 * (2 * (i.val + 1) - 1) / (i.val + 1 + 1) = cv_ (i.val + 1) ∧ cv_ i.val * 2 * (2 * (i.val + 1) - 1) < 2147483648 := by decide
theorem ct_2 : ∀ m : Fin 10, 0 < m.val → cs_ m.val m.val = cv_ m.val := by decide
section CAT
variable {F : Nat} {σ : nd_Mem} {n : Nat}
theorem c_cat (hn : n ≤ 9) : ∀ (d i f : Nat), i + d = n → d < f → f_X0_rowsThatGo_4 F f (nI n) (nI (cv_ i)) (nI (i + 1)) σ = some (nI (cv_ n), σ) := by
  intro d
  induction d with
  | zero =>
    intro i f hi hf
    obtain ⟨f, rfl⟩ : ∃ g, f = g + 1 := ⟨f - 1, by omega⟩
    have : i = n := by omega
    subst this
    show f_X0_rowsThatGo_4_b F _ _ _ _ σ = _
    unfold f_X0_rowsThatGo_4_b
    rw [if_pos (nI_lt (by omega) (by omega))]
  | succ d ih =>
    intro i f hi hf
    obtain ⟨f, rfl⟩ : ∃ g, f = g + 1 := ⟨f - 1, by omega⟩
    obtain ⟨c1, c2⟩ := ct_1 ⟨i, by omega⟩
    dsimp only at c1 c2
    show f_X0_rowsThatGo_4_b F _ _ _ _ σ = _
    unfold f_X0_rowsThatGo_4_b
    rw [if_neg (nI_nlt (by omega) (by omega)), nI_1, if_neg (nI_ne0 (by omega) (by omega)), show (2 : Int32) * nI (i + 1) - 1 = nI (2 * (i + 1) - 1) by rw [show (2 : Int32) = nI 2 from rfl, n_mul]; exact n_sub (b := 1) (by omega), show nI (cv_ i) * 2 = nI (cv_ i * 2) from n_mul _ 2, n_mul, n_div c2 (by omega), c1]
    exact ih (i + 1) f (by omega) (by omega)
theorem m_cin {m : Nat} (hm0 : 0 < m) (hm : m ≤ 9) {rec61 : Int32 → Int32 → nd_Mem → nd_Res} : ∀ (d k f : Nat) (g : Nat → Int32), k + d = m → d < f → (∀ j : Nat, j < m → g j = nI (cv_ j)) → g m = nI (cs_ m k) → ∃ g' : Nat → Int32, f_X11_siding_87 F rec61 f (nI n) (nI m) (nI k) (nd_row σ 84 g) = rec61 (nI n) (nI (m + 1)) (nd_row σ 84 g') ∧ ∀ j : Nat, j < m + 1 → g' j = nI (cv_ j) := by
  intro d
  induction d with
  | zero =>
    intro k f g hk hf hg hgm
    obtain ⟨f, rfl⟩ : ∃ g, f = g + 1 := ⟨f - 1, by omega⟩
    have : k = m := by omega
    subst this
    refine ⟨g, ?_, fun j hj => ?_⟩
    · show f_X11_siding_87_b F rec61 _ _ _ _ _ = _
      unfold f_X11_siding_87_b
      rw [if_pos (nI_le (Nat.le_refl k) (by omega)), nI_1]
    · by_cases hjk : j = k
      · subst hjk
        rw [hgm, ct_2 ⟨j, by omega⟩ hm0]
      · exact hg j (by omega)
  | succ d ih =>
    intro k f g hk hf hg hgm
    obtain ⟨f, rfl⟩ : ∃ g, f = g + 1 := ⟨f - 1, by omega⟩
    obtain ⟨g', q1, q2⟩ := ih (k + 1) f (upd g m (nI (cs_ m k + cv_ k * cv_ (m - 1 - k)))) (by omega) (by omega) (fun j hj => by rw [upd_ne (by omega)]; exact hg j hj) upd_eq
    refine ⟨g', ?_, q2⟩
    show f_X11_siding_87_b F rec61 _ _ _ _ _ = _
    unfold f_X11_siding_87_b
    rw [show nI m - (1 : Int32) = nI (m - 1) from n_sub (b := 1) hm0, n_sub (by omega), if_neg (nI_ge (by omega) (by omega)), if_neg (nI_in (by omega) (by decide)), if_neg (nI_in (by omega) (by decide)), if_neg (nI_in (by omega) (by decide)), if_neg (nI_in (by omega) (by decide)), nI_clamp (by omega), nI_clamp (by omega), nI_clamp (by omega), n_let, w_eq, w_eq, w_eq, hgm, hg k (by omega), hg (m - 1 - k) (by omega), n_mul, n_add, up_row, nI_1]
    exact q1
theorem m_cat (hF : 300000 ≤ F) (hn : n ≤ 9) : ∀ (d m f : Nat) (g : Nat → Int32), m + d = n + 1 → d < f → (∀ j : Nat, j < m → g j = nI (cv_ j)) → ∃ g' : Nat → Int32, f_X11_siding_61 F f (nI n) (nI m) (nd_row σ 84 g) = some (nI (cv_ n), nd_row σ 84 g') := by
  intro d
  induction d with
  | zero =>
    intro m f g hm hf hg
    obtain ⟨f, rfl⟩ : ∃ g, f = g + 1 := ⟨f - 1, by omega⟩
    refine ⟨g, ?_⟩
    show f_X11_siding_61_b F _ _ _ _ = _
    unfold f_X11_siding_61_b
    rw [if_pos (nI_lt (by omega) (by omega)), if_neg (nI_in (by omega) (by decide)), nI_clamp (by omega), w_eq, hg n (by omega)]
  | succ d ih =>
    intro m f g hm hf hg
    obtain ⟨f, rfl⟩ : ∃ g, f = g + 1 := ⟨f - 1, by omega⟩
    show ∃ g' : Nat → Int32, f_X11_siding_61_b F _ _ _ _ = _
    unfold f_X11_siding_61_b f_X11_siding_83
    rw [if_neg (nI_nlt (by omega) (by omega)), if_neg (nI_in (by omega) (by decide)), nI_clamp (by omega), n_let, n_let, up_row, up_row]
    by_cases h0 : m = 0
    · subst h0
      rw [if_pos nI_0]
      obtain ⟨f1, rfl⟩ : ∃ x, F = x + 1 := ⟨F - 1, by omega⟩
      have e1 : ∀ (r61 : Int32 → Int32 → nd_Mem → nd_Res) (t : nd_Mem), f_X11_siding_87 (f1 + 1) r61 (f1 + 1) (nI n) (nI 0) 0 t = r61 (nI n) (nI 1) t := by
        intro r61 t
        show f_X11_siding_87_b (f1 + 1) r61 _ _ _ _ _ = _
        unfold f_X11_siding_87_b
        rw [if_pos (by decide)]
        rfl
      rw [e1]
      exact ih 1 f _ (by omega) (by omega) (fun j hj => by
        have : j = 0 := by omega
        subst this
        rw [upd_eq]
        rfl)
    · rw [if_neg (nI_ne0 (by omega) (by omega)), if_neg (nn_in (by omega) (by omega))]
      obtain ⟨g', q1, q2⟩ := m_cin (F := F) (σ := σ) (n := n) (m := m) (by omega) (by omega) (rec61 := f_X11_siding_61 F f) m 0 F (upd g m 0) (by omega) (by omega) (fun j hj => by rw [upd_ne (by omega)]; exact hg j hj) (by rw [upd_eq]; rfl)
      have q1' : f_X11_siding_87 F (f_X11_siding_61 F f) F (nI n) (nI m) 0 (nd_row σ 84 (upd g m 0)) = f_X11_siding_61 F f (nI n) (nI (m + 1)) (nd_row σ 84 g') := q1
      rw [q1']
      exact ih (m + 1) f g' (by omega) (by omega) q2
end CAT
theorem op_siding {F : Nat} (hF : 300000 ≤ F) (x1 x2 : Int32) : op_ (f_X10_siding F x1 x2) (f_X11_siding F x1 x2) := op_sc (fun σ m0 hI => by
  have hf0 : fr_ sc_S sc_K σ (nd_up σ 60 0 0) := (by repeat first | exact fr_rf | (refine fr_up57 ?_ (by decide)) | (refine fr_up ?_ (by decide) (by decide)) | (refine fr_row ?_ (by decide) (by decide)))
  by_cases hneg : x1 < 10
  · refine ⟨-1, σ, nd_up σ 60 0 0, ?_, ?_, hf0⟩
    · unfold f_X10_siding f_X0_wagons
      obtain ⟨f, hf⟩ : ∃ f, F = f + 1 := ⟨F - 1, by omega⟩
      have e1 : f_X0_wagons_9 F F 0 0 x1 0 σ = some (-1, σ) := by
        rw [hf]
        show f_X0_wagons_9_b (f + 1) _ _ _ _ _ σ = _
        unfold f_X0_wagons_9_b f_X0_wagons_45 f_X0_wagons_74
        rw [if_neg (by decide), if_pos hneg]
        by_cases h1 : x1 = 1
        · rw [if_pos h1, if_pos (by decide)]
        · rw [if_neg h1]
      rw [e1, n_bind, if_pos rfl]
    · unfold f_X11_siding f_X11_siding_26 f_X11_takesWagons
      obtain ⟨f, hf⟩ : ∃ f, F = f + 1 := ⟨F - 1, by omega⟩
      have e1 : ∀ t : nd_Mem, f_X11_takesWagons_4 F F x1 0 x1 t = some (-1, t) := by
        intro t
        rw [hf]
        show f_X11_takesWagons_4_b (f + 1) _ _ _ _ t = _
        unfold f_X11_takesWagons_4_b f_X11_takesWagons_34
        rw [if_pos (show x1 ≤ 9 by grind), if_pos hneg]
      rw [n_let, e1, n_bind, if_pos rfl]
  · have h0 : ¬ x1 < 0 := by grind
    obtain ⟨v, hv, rfl⟩ := nI_of h0
    have hv10 : 10 ≤ v := by
      apply Classical.byContradiction
      intro h
      exact hneg (show nI v < (10 : Int32) from nI_lt (b := 10) (by omega) (by decide))
    obtain ⟨n, n1, n2, n3, n4, n5⟩ := c_wag (F := F) (σ := σ) hv 9 0 F (by omega) (by omega) (fun j hj => by omega)
    have hn1 : 1 ≤ n := by
      apply Classical.byContradiction
      intro h
      have : n = 0 := by omega
      subst this
      rw [Nat.pow_zero, Nat.div_one] at n4
      omega
    rw [Nat.pow_zero, Nat.div_one] at n5
    have n5' : f_X0_wagons F (nI v) σ = f_X0_wagons_45 F (nI (sq_ v n)) (nI n) (nI (v / 10 ^ n)) σ := n5
    have m1 : ∀ t : nd_Mem, f_X11_takesWagons F (nI v) t = f_X11_takesWagons_46 F F (nI n) 0 (nI v) (nI n - 1) t := by
      intro t
      have := m_wag1 (F := F) (σ := t) hv n2 n3 n4 n 0 F (by omega) (by omega)
      rw [Nat.pow_zero, Nat.div_one, if_neg hneg] at this
      exact this
    obtain ⟨g, g1, g2⟩ := m_wag2 (F := F) (σ := nd_up σ 60 0 0) hv n2 n 0 F ((nd_up σ 60 0 0) 82) (by omega) (by omega) (fun k h1 h2 => by omega)
    rw [row_id, Nat.pow_zero, Nat.div_one, ← Int32.sub_eq_add_neg] at g2
    have g2' : f_X11_takesWagons F (nI v) (nd_up σ 60 0 0) = (if nI (v / 10 ^ n) = 1 then (if nI (sq_ v n) = ((1 : Int32) <<< (nI n &&& 31)) - 1 then some (nI n, nd_row (nd_up σ 60 0 0) 82 g) else some (-1, nd_row (nd_up σ 60 0 0) 82 g)) else some (-1, nd_row (nd_up σ 60 0 0) 82 g)) := by
      rw [m1]
      exact g2
    have hf1 : fr_ sc_S sc_K σ (nd_row (nd_up σ 60 0 0) 82 g) := (by repeat first | exact fr_rf | (refine fr_up57 ?_ (by decide)) | (refine fr_up ?_ (by decide) (by decide)) | (refine fr_row ?_ (by decide) (by decide)))
    have bad : f_X0_wagons F (nI v) σ = some (-1, σ) → f_X11_takesWagons F (nI v) (nd_up σ 60 0 0) = some (-1, nd_row (nd_up σ 60 0 0) 82 g) → ∃ (r : Int32) (τ ρ : nd_Mem), f_X10_siding F (nI v) x2 σ = some (r, τ) ∧ f_X11_siding F (nI v) x2 τ = some (r, ρ) ∧ fr_ sc_S sc_K σ ρ := by
      intro a b
      refine ⟨-1, σ, _, ?_, ?_, hf1⟩
      · unfold f_X10_siding
        rw [a, n_bind, if_pos rfl]
      · unfold f_X11_siding f_X11_siding_26
        rw [n_let, b, n_bind, if_pos rfl]
    unfold f_X0_wagons_45 f_X0_wagons_74 at n5'
    by_cases c1 : nI (v / 10 ^ n) = 1
    · rw [if_pos c1, if_neg (show ¬ nI n < (1 : Int32) from nI_nlt (b := 1) hn1 (by omega)), if_neg (show ¬ (9 : Int32) < nI n from nI_nlt (a := 9) n2 (by omega))] at n5'
      rw [if_pos c1] at g2'
      by_cases c2 : nI (sq_ v n) = ((1 : Int32) <<< (nI n &&& 31)) - 1
      · rw [if_pos c2] at n5' g2'
        have hm1 := li_m1 n (by omega)
        by_cases w2 : x2 = 2
        · subst w2
          obtain ⟨g', q1⟩ := m_cat (F := F) (σ := nd_row (nd_up σ 60 0 0) 82 g) hF n2 (n + 1) 0 F ((nd_row (nd_up σ 60 0 0) 82 g) 84) (by omega) (by omega) (fun j hj => by omega)
          rw [row_id] at q1
          have q2 := c_cat (F := F) (σ := σ) n2 n 0 F (by omega) (by omega)
          refine ⟨nI (cv_ n), σ, nd_row (nd_row (nd_up σ 60 0 0) 82 g) 84 g', ?_, ?_, (by repeat first | exact fr_rf | (refine fr_up57 ?_ (by decide)) | (refine fr_up ?_ (by decide) (by decide)) | (refine fr_row ?_ (by decide) (by decide)))⟩
          · unfold f_X10_siding
            rw [n5', n_bind, if_neg hm1, if_neg (by decide), if_neg (by decide), if_pos rfl]
            have q2' : f_X0_rowsThatGo F (nI n) σ = some (nI (cv_ n), σ) := q2
            rw [q2', n_bind]
          · unfold f_X11_siding
            rw [n_let, g2', n_bind, if_neg hm1, e_isIn, n_bind, if_neg (by decide), if_neg (by decide), if_neg (by decide)]
            exact q1
        · obtain ⟨z, g', q1, q2⟩ := deep_ (F := F) (σ := σ) (τ := nd_row (nd_up σ 60 0 0) 82 g) hF hv n2 (fun k hk => by rw [w_eq]; exact g1 k hk) n 0 F F 0 0 0 (fun _ => 0) ((nd_row (nd_up σ 60 0 0) 82 g) 83) (by omega) (by omega) (by omega) (by omega) (by omega) (by omega) (fun _ _ => by omega) (fun j hj => by omega)
          rw [row_id] at q2
          rw [← Int32.sub_eq_add_neg] at q1
          have q1' : f_X0_mostInSiding F (nI v) (nI n) σ = some (z, σ) := q1
          have q2' : f_X11_deepest F (nI n) (nd_row (nd_up σ 60 0 0) 82 g) = some (z, nd_row (nd_row (nd_up σ 60 0 0) 82 g) 83 g') := q2
          have hf2 : fr_ sc_S sc_K σ (nd_row (nd_row (nd_up σ 60 0 0) 82 g) 83 g') := (by repeat first | exact fr_rf | (refine fr_up57 ?_ (by decide)) | (refine fr_up ?_ (by decide) (by decide)) | (refine fr_row ?_ (by decide) (by decide)))
          by_cases w0 : x2 = 0
          · subst w0
            by_cases hz : z = -1
            · refine ⟨0, σ, _, ?_, ?_, hf2⟩
              · unfold f_X10_siding
                rw [n5', n_bind, if_neg hm1, if_pos rfl, q1', n_bind, if_pos hz]
              · unfold f_X11_siding
                rw [n_let, g2', n_bind, if_neg hm1, e_isIn, n_bind, if_neg (by decide), if_pos rfl, q2', n_bind, if_pos hz]
            · refine ⟨1, σ, _, ?_, ?_, hf2⟩
              · unfold f_X10_siding
                rw [n5', n_bind, if_neg hm1, if_pos rfl, q1', n_bind, if_neg hz]
              · unfold f_X11_siding
                rw [n_let, g2', n_bind, if_neg hm1, e_isIn, n_bind, if_neg (by decide), if_pos rfl, q2', n_bind, if_neg hz]
          · by_cases w1 : x2 = 1
            · subst w1
              refine ⟨z, σ, _, ?_, ?_, hf2⟩
              · unfold f_X10_siding
                rw [n5', n_bind, if_neg hm1, if_neg (by decide), if_pos rfl, q1', n_bind]
              · unfold f_X11_siding
                rw [n_let, g2', n_bind, if_neg hm1, e_isIn, n_bind, if_neg (by decide), if_neg (by decide), if_pos rfl, q2', n_bind]
            · refine ⟨-1, σ, _, ?_, ?_, hf1⟩
              · unfold f_X10_siding
                rw [n5', n_bind, if_neg hm1, if_neg w0, if_neg w1, if_neg w2]
              · unfold f_X11_siding f_X11_siding_26
                rw [n_let, g2', n_bind, if_neg hm1, e_isIn, n_bind, if_pos (show x2 < 0 ∨ 2 < x2 by grind), if_pos rfl]
      · rw [if_neg c2] at n5' g2'
        exact bad n5' g2'
    · rw [if_neg c1] at n5' g2'
      exact bad n5' g2')
