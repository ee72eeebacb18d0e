/-! akin -/
def kr_ (p : Nat → Option (Nat × Nat)) (T : Nat → Nat → Nat) (i y : Nat) : Nat := match p i with
  | none => 0
  | some c => (T c.1 y + T c.2 y) / 2
def ks_ (p : Nat → Option (Nat × Nat)) (T : Nat → Nat → Nat) (i : Nat) : Nat := 524288 + (match p i with
  | none => 0
  | some c => T c.1 c.2 / 2)
def kT_ (p : Nat → Option (Nat × Nat)) : Nat → Nat → Nat → Nat
  | 0 => fun _ _ => 0
  | i + 1 => fun x y => if x = i then (if y = i then ks_ p (kT_ p i) i else kr_ p (kT_ p i) i y) else if y = i then kr_ p (kT_ p i) i x else kT_ p i x y
theorem kT_sym {p : Nat → Option (Nat × Nat)} : ∀ (i x y : Nat), kT_ p i x y = kT_ p i y x := by
  intro i
  induction i with
  | zero => intro x y; rfl
  | succ i ih =>
    intro x y
    show (if x = i then (if y = i then ks_ p (kT_ p i) i else kr_ p (kT_ p i) i y) else if y = i then kr_ p (kT_ p i) i x else kT_ p i x y) = (if y = i then (if x = i then ks_ p (kT_ p i) i else kr_ p (kT_ p i) i x) else if x = i then kr_ p (kT_ p i) i y else kT_ p i y x)
    by_cases h1 : x = i <;> by_cases h2 : y = i <;> simp [h1, h2, ih x y]
theorem kT_le {p : Nat → Option (Nat × Nat)} : ∀ (i x y : Nat), kT_ p i x y ≤ 1048576 := by
  intro i
  induction i with
  | zero => intro x y; exact Nat.zero_le _
  | succ i ih =>
    intro x y
    have hr : ∀ z : Nat, kr_ p (kT_ p i) i z ≤ 1048576 := by
      intro z
      unfold kr_
      cases p i with
      | none => exact Nat.zero_le _
      | some c =>
        have := ih c.1 z
        have := ih c.2 z
        show (kT_ p i c.1 z + kT_ p i c.2 z) / 2 ≤ _
        omega
    have hs : ks_ p (kT_ p i) i ≤ 1048576 := by
      unfold ks_
      cases p i with
      | none => exact (by decide : (524288 : Nat) + 0 ≤ 1048576)
      | some c =>
        have := ih c.1 c.2
        show 524288 + kT_ p i c.1 c.2 / 2 ≤ _
        omega
    show (if x = i then (if y = i then ks_ p (kT_ p i) i else kr_ p (kT_ p i) i y) else if y = i then kr_ p (kT_ p i) i x else kT_ p i x y) ≤ _
    by_cases h1 : x = i <;> by_cases h2 : y = i <;> simp only [h1, h2, if_true, if_false]
    · exact hs
    · exact hr y
    · exact hr x
    · exact ih x y
theorem kT_up {p : Nat → Option (Nat × Nat)} {i x y : Nat} (hx : x < i) (hy : y < i) : ∀ d : Nat, kT_ p (i + d) x y = kT_ p i x y := by
  intro d
  induction d with
  | zero => rfl
  | succ d ih =>
    show (if x = i + d then (if y = i + d then ks_ p (kT_ p (i + d)) (i + d) else kr_ p (kT_ p (i + d)) (i + d) y) else if y = i + d then kr_ p (kT_ p (i + d)) (i + d) x else kT_ p (i + d) x y) = _
    rw [if_neg (by omega), if_neg (by omega), ih]
theorem kT_dvd {p : Nat → Option (Nat × Nat)} {n : Nat} (hn : n ≤ 14) (hp : ∀ (i : Nat) (c : Nat × Nat), i < n → p i = some c → c.1 < i ∧ c.2 < i) : ∀ (i x y : Nat), i ≤ n → x < i → y < i → 2 ^ (20 - i) ∣ kT_ p i x y := by
  intro i
  induction i with
  | zero => intro x y _ hx; omega
  | succ i ih =>
    intro x y hi hx hy
    have e2 : 2 ^ (20 - i) = 2 * 2 ^ (20 - (i + 1)) := by
      rw [show 20 - i = (20 - (i + 1)) + 1 by omega, Nat.pow_succ, Nat.mul_comm]
    rw [e2] at ih
    have e19 : 2 ^ (20 - (i + 1)) ∣ 524288 := by
      rw [show 524288 = 2 ^ 19 from rfl]
      exact Nat.pow_dvd_pow 2 (by omega)
    generalize 2 ^ (20 - (i + 1)) = d at *
    have hr : ∀ z : Nat, z < i → d ∣ kr_ p (kT_ p i) i z := by
      intro z hz
      unfold kr_
      cases hpi : p i with
      | none => exact Nat.dvd_zero d
      | some c =>
        obtain ⟨h1, h2⟩ := hp i c (by omega) hpi
        obtain ⟨u, hu⟩ := ih c.1 z (by omega) h1 hz
        obtain ⟨w, hw⟩ := ih c.2 z (by omega) h2 hz
        show d ∣ (kT_ p i c.1 z + kT_ p i c.2 z) / 2
        rw [hu, hw, Nat.mul_assoc, Nat.mul_assoc, ← Nat.mul_add, Nat.mul_div_cancel_left _ (by decide), ← Nat.mul_add]
        exact ⟨u + w, rfl⟩
    have hs : d ∣ ks_ p (kT_ p i) i := by
      unfold ks_
      cases hpi : p i with
      | none => exact e19
      | some c =>
        obtain ⟨h1, h2⟩ := hp i c (by omega) hpi
        obtain ⟨u, hu⟩ := ih c.1 c.2 (by omega) h1 h2
        show d ∣ 524288 + kT_ p i c.1 c.2 / 2
        rw [hu, Nat.mul_assoc, Nat.mul_div_cancel_left _ (by decide)]
        exact Nat.dvd_add e19 ⟨u, rfl⟩
    show d ∣ (if x = i then (if y = i then ks_ p (kT_ p i) i else kr_ p (kT_ p i) i y) else if y = i then kr_ p (kT_ p i) i x else kT_ p i x y)
    by_cases h1 : x = i
    · by_cases h2 : y = i
      · rw [if_pos h1, if_pos h2]; exact hs
      · rw [if_pos h1, if_neg h2]; exact hr y (by omega)
    · by_cases h2 : y = i
      · rw [if_neg h1, if_pos h2]; exact hr x (by omega)
      · rw [if_neg h1, if_neg h2]
        exact Nat.dvd_trans ⟨2, Nat.mul_comm 2 d⟩ (ih x y (by omega) (by omega) (by omega))
theorem kT_even {p : Nat → Option (Nat × Nat)} {n : Nat} (hn : n ≤ 14) (hp : ∀ (i : Nat) (c : Nat × Nat), i < n → p i = some c → c.1 < i ∧ c.2 < i) {i x y : Nat} (hi : i ≤ n) (hx : x < i) (hy : y < i) : kT_ p i x y % 2 = 0 := by
  have h := kT_dvd hn hp i x y hi hx hy
  have : 2 ∣ 2 ^ (20 - i) := by
    rw [show 20 - i = (20 - i - 1) + 1 by omega, Nat.pow_succ]
    exact ⟨2 ^ (20 - i - 1), Nat.mul_comm _ _⟩
  exact Nat.mod_eq_zero_of_dvd (Nat.dvd_trans this h)
theorem ks_none {p : Nat → Option (Nat × Nat)} {T : Nat → Nat → Nat} {i : Nat} (h : p i = none) : ks_ p T i = 524288 := by simp [ks_, h]
theorem ks_some {p : Nat → Option (Nat × Nat)} {T : Nat → Nat → Nat} {i a b : Nat} (h : p i = some (a, b)) : ks_ p T i = 524288 + T a b / 2 := by simp [ks_, h]
theorem kr_none {p : Nat → Option (Nat × Nat)} {T : Nat → Nat → Nat} {i y : Nat} (h : p i = none) : kr_ p T i y = 0 := by simp [kr_, h]
theorem kr_some {p : Nat → Option (Nat × Nat)} {T : Nat → Nat → Nat} {i a b y : Nat} (h : p i = some (a, b)) : kr_ p T i y = (T a y + T b y) / 2 := by simp [kr_, h]
section AK
variable {F : Nat} {σ : nd_Mem} {p : Nat → Option (Nat × Nat)} {n : Nat}
theorem e_betw {a b i : Nat} {g : Nat → Int32} (hi : i ≤ 14) (ha : a < i) (hb : b < i) (hg : ∀ x y : Nat, y ≤ x → x < i → g (x * 14 + y) = nI (kT_ p i x y)) : f_X7_between F (nI a) (nI b) (nd_row σ 58 g) = some (nI (kT_ p i a b), nd_row σ 58 g) := by
  unfold f_X7_between
  rw [max_I (by omega) (by omega), min_I (by omega) (by omega)]
  have h1 : max a b * 14 + min a b < 196 := by omega
  simp (disch := omega) only [n_lit, n_add, n_mul, n_sub, n_lt, n_le, n_eq, n_cl, n_nle, n_yle, n_nlt, n_ylt, n_neq, n_m1, n_m1l, n_m1g, n_bind, u_eq, u_ne1, u_ne2, w_eq, w_ne, eq_self, nd_let, ite_true, ite_false, if_true, if_false, false_or, or_false, true_and, and_true, not_true, not_false, true_or, or_true, Nat.not_lt_zero, Nat.zero_le]
  rw [hg _ _ (by omega) (by omega)]
  by_cases h : a ≤ b
  · rw [Nat.max_eq_right h, Nat.min_eq_left h, kT_sym]
  · rw [Nat.max_eq_left (by omega), Nat.min_eq_right (by omega)]
theorem akC_in {rec2 : Int32 → Int32 → Int32 → nd_Mem → nd_Res} {x1 x2 x5 x6 x4 : Int32} {i : Nat} (hi : i < 14) (h4 : (p i = none ∧ x4 = -1) ∨ ∃ a b : Nat, p i = some (a, b) ∧ a < i ∧ b < i ∧ ¬ x4 = -1 ∧ x5 = nI a ∧ x6 = nI b) : ∀ (d j f : Nat) (g : Nat → Int32), j + d = i → d < f → (∀ x y : Nat, y ≤ x → x < i → g (x * 14 + y) = nI (kT_ p i x y)) → (∀ y : Nat, y < j → g (i * 14 + y) = nI (kr_ p (kT_ p i) i y)) → ∃ g' : Nat → Int32, f_X7_kinship_37 F rec2 f x1 x2 (nI i) x4 x5 x6 (nI j) (nd_row σ 58 g) = rec2 x1 x2 (nI (i + 1)) (nd_row σ 58 g') ∧ ∀ x y : Nat, y ≤ x → x < i + 1 → g' (x * 14 + y) = nI (kT_ p (i + 1) x y) := by
  intro d
  induction d with
  | zero =>
    intro j f g hj hf hg hr
    obtain ⟨f, rfl⟩ : ∃ g, f = g + 1 := ⟨f - 1, by omega⟩
    have hji : j = i := by omega
    subst hji
    have fin : ∀ s : Nat, 524288 + s = ks_ p (kT_ p j) j → ∃ g' : Nat → Int32, f_X7_kinship_114 F rec2 x1 x2 (nI j) (nI s) (nd_row σ 58 g) = rec2 x1 x2 (nI (j + 1)) (nd_row σ 58 g') ∧ ∀ x y : Nat, y ≤ x → x < j + 1 → g' (x * 14 + y) = nI (kT_ p (j + 1) x y) := by
      intro s hs
      unfold f_X7_kinship_114 nd_let
      simp (disch := omega) only [n_lit, n_add, n_mul, n_sub, n_lt, n_le, n_eq, n_cl, n_nle, n_yle, n_nlt, n_ylt, n_neq, n_m1, n_m1l, n_m1g, n_bind, u_eq, u_ne1, u_ne2, w_eq, w_ne, eq_self, nd_let, ite_true, ite_false, if_true, if_false, false_or, or_false, true_and, and_true, not_true, not_false, true_or, or_true, Nat.not_lt_zero, Nat.zero_le, up_row]
      refine ⟨_, rfl, fun x y hyx hx => ?_⟩
      show _ = nI (if x = j then (if y = j then ks_ p (kT_ p j) j else kr_ p (kT_ p j) j y) else if y = j then kr_ p (kT_ p j) j x else kT_ p j x y)
      by_cases h1 : x = j
      · subst h1
        by_cases h2 : y = x
        · subst h2
          rw [upd_eq, if_pos rfl, if_pos rfl, hs]
        · rw [upd_ne (by omega), if_pos rfl, if_neg h2, hr y (by omega)]
      · rw [upd_ne (by omega), if_neg h1, if_neg (by omega), hg x y hyx (by omega)]
    unfold f_X7_kinship_37 f_X7_kinship_37_b
    rw [if_pos (nI_le (by omega) (by omega))]
    rcases h4 with ⟨e1, e2⟩ | ⟨a, b, e1, ha, hb, e2, rfl, rfl⟩
    · rw [if_pos e2]
      exact fin 0 (by unfold ks_; rw [e1])
    · have := kT_le (p := p) j a b
      rw [if_neg e2, e_betw (by omega) ha hb hg, n_bind, show nI (kT_ p j a b) / 2 = nI (kT_ p j a b / 2) from n_div (b := 2) (by omega) (by omega)]
      exact fin _ (by unfold ks_; rw [e1])
  | succ d ih =>
    intro j f g hj hf hg hr
    obtain ⟨f, rfl⟩ : ∃ g, f = g + 1 := ⟨f - 1, by omega⟩
    have go : ∀ s : Nat, s = kr_ p (kT_ p i) i j → ∃ g' : Nat → Int32, f_X7_kinship_72 F rec2 (f_X7_kinship_37 F rec2 f) x1 x2 (nI i) x4 x5 x6 (nI j) (nI s) (nd_row σ 58 g) = rec2 x1 x2 (nI (i + 1)) (nd_row σ 58 g') ∧ ∀ x y : Nat, y ≤ x → x < i + 1 → g' (x * 14 + y) = nI (kT_ p (i + 1) x y) := by
      intro s hs
      unfold f_X7_kinship_72 nd_let
      simp (disch := omega) only [n_lit, n_add, n_mul, n_sub, n_lt, n_le, n_eq, n_cl, n_nle, n_yle, n_nlt, n_ylt, n_neq, n_m1, n_m1l, n_m1g, n_bind, u_eq, u_ne1, u_ne2, w_eq, w_ne, eq_self, nd_let, ite_true, ite_false, if_true, if_false, false_or, or_false, true_and, and_true, not_true, not_false, true_or, or_true, Nat.not_lt_zero, Nat.zero_le, up_row]
      refine ih (j + 1) f _ (by omega) (by omega) (fun x y hyx hx => ?_) (fun y hy => ?_)
      · rw [upd_ne (by omega), hg x y hyx hx]
      · by_cases h2 : y = j
        · rw [h2, upd_eq, hs]
        · rw [upd_ne (by omega), hr y (by omega)]
    unfold f_X7_kinship_37 f_X7_kinship_37_b
    rw [if_neg (nI_ge (by omega) (by omega))]
    rcases h4 with ⟨e1, e2⟩ | ⟨a, b, e1, ha, hb, e2, rfl, rfl⟩
    · rw [if_pos e2]
      exact go 0 (by unfold kr_; rw [e1])
    · have := kT_le (p := p) i a j
      have := kT_le (p := p) i b j
      rw [if_neg e2, e_betw (by omega) ha (by omega) hg, n_bind, e_betw (by omega) hb (by omega) hg, n_bind, n_add, show nI (kT_ p i a j + kT_ p i b j) / 2 = nI ((kT_ p i a j + kT_ p i b j) / 2) from n_div (b := 2) (by omega) (by omega)]
      exact go _ (by unfold kr_; rw [e1])
def pe_ (p : Nat → Option (Nat × Nat)) (i : Nat) (a u o : Int32) : Prop := (p i = none ∧ a = -1 ∧ u = 0 ∧ o = 0) ∨ ∃ x y : Nat, p i = some (x, y) ∧ x < i ∧ y < i ∧ a = nI (16 * x + y) ∧ u = nI (x + 1) ∧ o = nI (y + 1)
theorem akC_out (hF : 300000 ≤ F) (h1 : σ 19 1 = nI n) (hn : n ≤ 14) {u o : Nat → Int32} (hp : ∀ i : Nat, i < n → pe_ p i (σ 20 i) (u i) (o i)) {I J : Nat} (hI : I < n) (hJ : J ≤ I) : ∀ (d i f : Nat) (g : Nat → Int32), i + d = I + 1 → d < f → (∀ x y : Nat, y ≤ x → x < i → g (x * 14 + y) = nI (kT_ p i x y)) → ∃ g' : Nat → Int32, f_X7_kinship_2 F f (nI I) (nI J) (nI i) (nd_row σ 58 g) = some (nI (kT_ p (I + 1) I J), nd_row σ 58 g') := by
  intro d
  induction d with
  | zero =>
    intro i f g hi hf hg
    obtain ⟨f, rfl⟩ : ∃ g, f = g + 1 := ⟨f - 1, by omega⟩
    have : i = I + 1 := by omega
    subst this
    refine ⟨g, ?_⟩
    unfold f_X7_kinship_2 f_X7_kinship_2_b
    rw [if_pos (nI_lt (by omega) (by omega)), e_betw (by omega) (by omega) (by omega) hg, n_bind]
  | succ d ih =>
    intro i f g hi hf hg
    obtain ⟨f, rfl⟩ : ∃ g, f = g + 1 := ⟨f - 1, by omega⟩
    have e1 : nd_row σ 58 g 19 1 = nI n := by rw [w_ne (by decide)]; exact h1
    have h4 : (p i = none ∧ σ 20 i = -1) ∨ ∃ a b : Nat, p i = some (a, b) ∧ a < i ∧ b < i ∧ ¬ σ 20 i = -1 ∧ σ 20 i / 16 = nI a ∧ q_rem (σ 20 i) 16 = nI b := by
      rcases hp i (by omega) with ⟨a1, a2, _, _⟩ | ⟨x, y, a1, a2, a3, a4, _, _⟩
      · exact Or.inl ⟨a1, a2⟩
      · refine Or.inr ⟨x, y, a1, a2, a3, ?_, ?_, ?_⟩
        · rw [a4]; exact li_m1 _ (by omega)
        · rw [a4, show nI (16 * x + y) / 16 = nI ((16 * x + y) / 16) from n_div (b := 16) (by omega) (by omega)]
          congr 1
          omega
        · rw [a4, show q_rem (nI (16 * x + y)) 16 = nI ((16 * x + y) % 16) from n_rem (b := 16) (by omega) (by omega)]
          congr 1
          omega
    unfold f_X7_kinship_2 f_X7_kinship_2_b
    rw [if_neg (nI_nlt (by omega) (by omega)), e_at e1 (by omega) (by omega) (by omega), n_bind, w_ne (by decide)]
    obtain ⟨g1, b1, b2⟩ := akC_in (F := F) (σ := σ) (p := p) (rec2 := f_X7_kinship_2 F f) (x1 := nI I) (x2 := nI J) (show i < 14 by omega) h4 i 0 F g (by omega) (by omega) hg (fun y hy => absurd hy (Nat.not_lt_zero y))
    rw [nI_0] at b1
    rw [b1]
    exact ih (i + 1) f g1 (by omega) (by omega) b2
theorem akM_fin {rec2 : Int32 → nd_Mem → nd_Res} {j : Nat} {g : Nat → Int32} (hj14 : j < 14) (hg : ∀ x y : Nat, x < j → y < j → g (14 * x + y) = nI (256 * kT_ p j x y)) (hr : ∀ y : Nat, y < j → g (14 * j + y) = nI (256 * kr_ p (kT_ p j) j y) ∧ g (14 * y + j) = nI (256 * kr_ p (kT_ p j) j y)) {s : Nat} (hs : 134217728 + s = 256 * ks_ p (kT_ p j) j) : ∃ g' : Nat → Int32, f_X11_findsAkin_142 F rec2 (nI j) (nI s) (nI 134217728) (nI (15 * j)) (nd_row σ 94 g) = rec2 (nI (j + 1)) (nd_row σ 94 g') ∧ ∀ x y : Nat, x < j + 1 → y < j + 1 → g' (14 * x + y) = nI (256 * kT_ p (j + 1) x y) := by
  unfold f_X11_findsAkin_142 nd_let
  simp (disch := omega) only [n_lit, n_add, n_mul, n_sub, n_lt, n_le, n_eq, n_cl, n_nle, n_yle, n_nlt, n_ylt, n_neq, n_m1, n_m1l, n_m1g, n_bind, u_eq, u_ne1, u_ne2, w_eq, w_ne, eq_self, nd_let, ite_true, ite_false, if_true, if_false, false_or, or_false, true_and, and_true, not_true, not_false, true_or, or_true, Nat.not_lt_zero, Nat.zero_le, up_row]
  refine ⟨_, rfl, fun x y hx hy => ?_⟩
  show _ = nI (256 * if x = j then (if y = j then ks_ p (kT_ p j) j else kr_ p (kT_ p j) j y) else if y = j then kr_ p (kT_ p j) j x else kT_ p j x y)
  by_cases h1 : x = j
  · subst h1
    by_cases h2 : y = x
    · subst h2
      rw [show 14 * y + y = 15 * y by omega, upd_eq, if_pos rfl, if_pos rfl, hs]
    · rw [upd_ne (by omega), if_pos rfl, if_neg h2, (hr y (by omega)).1]
  · by_cases h2 : y = j
    · subst h2
      rw [upd_ne (by omega), if_neg h1, if_pos rfl, (hr x (by omega)).2]
    · rw [upd_ne (by omega), if_neg h1, if_neg h2, hg x y (by omega) (by omega)]
theorem akM_in {rec2 : Int32 → nd_Mem → nd_Res} {x2 x3 : Int32} {i : Nat} (hn : n ≤ 14) (hin : i < n) (hpp : ∀ (i : Nat) (c : Nat × Nat), i < n → p i = some c → c.1 < i ∧ c.2 < i) (h4 : (p i = none ∧ x2 = -1) ∨ ∃ a b : Nat, p i = some (a, b) ∧ a < i ∧ b < i ∧ x2 = nI a ∧ x3 = nI b) : ∀ (d j f : Nat) (g : Nat → Int32), j + d = i → d < f → (∀ x y : Nat, x < i → y < i → g (14 * x + y) = nI (256 * kT_ p i x y)) → (∀ y : Nat, y < j → g (14 * i + y) = nI (256 * kr_ p (kT_ p i) i y) ∧ g (14 * y + i) = nI (256 * kr_ p (kT_ p i) i y)) → ∃ g' : Nat → Int32, f_X11_findsAkin_31 F rec2 f (nI i) x2 x3 (nI j) (nd_row σ 94 g) = rec2 (nI (i + 1)) (nd_row σ 94 g') ∧ ∀ x y : Nat, x < i + 1 → y < i + 1 → g' (14 * x + y) = nI (256 * kT_ p (i + 1) x y) := by
  intro d
  induction d with
  | zero =>
    intro j f g hj hf hg hr
    obtain ⟨f, rfl⟩ : ∃ g, f = g + 1 := ⟨f - 1, by omega⟩
    have hji : j = i := by omega
    subst hji
    have fin := fun s hs => akM_fin (F := F) (σ := σ) (rec2 := rec2) (p := p) (by omega) hg hr (s := s) hs
    unfold f_X11_findsAkin_31 f_X11_findsAkin_31_b
    rw [if_pos (nI_le (by omega) (by omega))]
    rcases h4 with ⟨e1, e2⟩ | ⟨a, b, e1, ha, hb, rfl, rfl⟩
    · rw [if_pos e2]
      have := fin 0 (by have := ks_none (T := kT_ p j) e1; omega)
      simp (disch := omega) only [n_lit, n_add, n_mul, n_sub, n_lt, n_le, n_eq, n_cl, n_nle, n_yle, n_nlt, n_ylt, n_neq, n_m1, n_m1l, n_m1g, n_bind, u_eq, u_ne1, u_ne2, w_eq, w_ne, eq_self, nd_let, ite_true, ite_false, if_true, if_false, false_or, or_false, true_and, and_true, not_true, not_false, true_or, or_true, Nat.not_lt_zero, Nat.zero_le]
      exact this
    · have h6 := kT_le (p := p) j a b
      have h7 := kT_even hn hpp (show j ≤ n by omega) ha hb
      rw [if_neg (li_m1 _ (by omega))]
      have := fin (256 * kT_ p j a b / 2) (by
        have := ks_some (T := kT_ p j) e1
        omega)
      have e5 : nI (256 * kT_ p j a b) / 2 = nI (256 * kT_ p j a b / 2) := n_div (b := 2) (by omega) (by omega)
      simp (disch := omega) only [n_lit, n_add, n_mul, n_sub, n_lt, n_le, n_eq, n_cl, n_nle, n_yle, n_nlt, n_ylt, n_neq, n_m1, n_m1l, n_m1g, n_bind, u_eq, u_ne1, u_ne2, w_eq, w_ne, eq_self, nd_let, ite_true, ite_false, if_true, if_false, false_or, or_false, true_and, and_true, not_true, not_false, true_or, or_true, Nat.not_lt_zero, Nat.zero_le] at e5
      simp (disch := omega) only [n_lit, n_add, n_mul, n_sub, n_lt, n_le, n_eq, n_cl, n_nle, n_yle, n_nlt, n_ylt, n_neq, n_m1, n_m1l, n_m1g, n_bind, u_eq, u_ne1, u_ne2, w_eq, w_ne, eq_self, nd_let, ite_true, ite_false, if_true, if_false, false_or, or_false, true_and, and_true, not_true, not_false, true_or, or_true, Nat.not_lt_zero, Nat.zero_le, hg a b ha hb, e5]
      exact this
  | succ d ih =>
    intro j f g hj hf hg hr
    obtain ⟨f, rfl⟩ : ∃ g, f = g + 1 := ⟨f - 1, by omega⟩
    have go : ∀ s : Nat, s = 256 * kr_ p (kT_ p i) i j → ∃ g' : Nat → Int32, f_X11_findsAkin_73 F rec2 (f_X11_findsAkin_31 F rec2 f) (nI i) x2 x3 (nI j) (nI s) (nd_row σ 94 g) = rec2 (nI (i + 1)) (nd_row σ 94 g') ∧ ∀ x y : Nat, x < i + 1 → y < i + 1 → g' (14 * x + y) = nI (256 * kT_ p (i + 1) x y) := by
      intro s hs
      unfold f_X11_findsAkin_73 nd_let
      simp (disch := omega) only [n_lit, n_add, n_mul, n_sub, n_lt, n_le, n_eq, n_cl, n_nle, n_yle, n_nlt, n_ylt, n_neq, n_m1, n_m1l, n_m1g, n_bind, u_eq, u_ne1, u_ne2, w_eq, w_ne, eq_self, nd_let, ite_true, ite_false, if_true, if_false, false_or, or_false, true_and, and_true, not_true, not_false, true_or, or_true, Nat.not_lt_zero, Nat.zero_le, up_row]
      refine ih (j + 1) f _ (by omega) (by omega) (fun x y hx hy => ?_) (fun y hy => ?_)
      · rw [upd_ne (by omega), upd_ne (by omega), hg x y hx hy]
      · by_cases h2 : y = j
        · subst h2
          refine ⟨?_, ?_⟩
          · rw [upd_ne (by omega), upd_eq, hs]
          · rw [upd_eq, hs]
        · refine ⟨?_, ?_⟩
          · rw [upd_ne (by omega), upd_ne (by omega)]; exact (hr y (by omega)).1
          · rw [upd_ne (by omega), upd_ne (by omega)]; exact (hr y (by omega)).2
    unfold f_X11_findsAkin_31 f_X11_findsAkin_31_b
    rw [if_neg (nI_ge (by omega) (by omega))]
    rcases h4 with ⟨e1, e2⟩ | ⟨a, b, e1, ha, hb, rfl, rfl⟩
    · rw [if_pos e2]
      exact go 0 (by have := kr_none (T := kT_ p i) (y := j) e1; omega)
    · have h6 := kT_le (p := p) i a j
      have h7 := kT_le (p := p) i b j
      have h8 := kT_even hn hpp (show i ≤ n by omega) ha (show j < i by omega)
      have h9 := kT_even hn hpp (show i ≤ n by omega) hb (show j < i by omega)
      rw [if_neg (li_m1 _ (by omega))]
      have := go ((256 * kT_ p i a j + 256 * kT_ p i b j) / 2) (by
        have := kr_some (T := kT_ p i) (y := j) e1
        omega)
      have e5 : nI (256 * kT_ p i a j + 256 * kT_ p i b j) / 2 = nI ((256 * kT_ p i a j + 256 * kT_ p i b j) / 2) := n_div (b := 2) (by omega) (by omega)
      have i1 : (14 : Int32) * nI a + nI j = nI (14 * a + j) := by rw [show (14 : Int32) = nI 14 from rfl, n_mul, n_add]
      have i2 : (14 : Int32) * nI b + nI j = nI (14 * b + j) := by rw [show (14 : Int32) = nI 14 from rfl, n_mul, n_add]
      rw [i1, i2, if_neg (nI_in (by omega) (by decide)), if_neg (nI_in (by omega) (by decide)), nI_clamp (by omega), nI_clamp (by omega), w_eq, w_eq, hg a j ha (by omega), hg b j hb (by omega), n_add, e5]
      exact this
theorem akM_out (hF : 300000 ≤ F) (h1 : σ 60 54 = nI n) (hn : n ≤ 14) {a : Nat → Int32} (hp : ∀ i : Nat, i < n → pe_ p i (a i) (σ 92 i) (σ 93 i)) (hpp : ∀ (i : Nat) (c : Nat × Nat), i < n → p i = some c → c.1 < i ∧ c.2 < i) : ∀ (d i f : Nat) (g : Nat → Int32), i + d = n → d < f → (∀ x y : Nat, x < i → y < i → g (14 * x + y) = nI (256 * kT_ p i x y)) → ∃ g' : Nat → Int32, f_X11_findsAkin_2 F f (nI i) (nd_row σ 94 g) = some (0, nd_row σ 94 g') ∧ ∀ x y : Nat, x < n → y < n → g' (14 * x + y) = nI (256 * kT_ p n x y) := by
  intro d
  induction d with
  | zero =>
    intro i f g hi hf hg
    obtain ⟨f, rfl⟩ : ∃ g, f = g + 1 := ⟨f - 1, by omega⟩
    have : i = n := by omega
    subst this
    refine ⟨g, ?_, hg⟩
    unfold f_X11_findsAkin_2 f_X11_findsAkin_2_b
    rw [w_ne (by decide), h1, if_pos (nI_le (by omega) (by omega))]
  | succ d ih =>
    intro i f g hi hf hg
    obtain ⟨f, rfl⟩ : ∃ g, f = g + 1 := ⟨f - 1, by omega⟩
    have h4 : (p i = none ∧ σ 92 i - 1 = -1) ∨ ∃ a b : Nat, p i = some (a, b) ∧ a < i ∧ b < i ∧ σ 92 i - 1 = nI a ∧ σ 93 i - 1 = nI b := by
      rcases hp i (by omega) with ⟨a1, _, a2, _⟩ | ⟨x, y, a1, a2, a3, _, a4, a5⟩
      · exact Or.inl ⟨a1, by rw [a2]; rfl⟩
      · exact Or.inr ⟨x, y, a1, a2, a3, by rw [a4]; exact nI_pred x, by rw [a5]; exact nI_pred y⟩
    unfold f_X11_findsAkin_2 f_X11_findsAkin_2_b
    rw [w_ne (by decide), h1, if_neg (nI_ge (by omega) (by omega)), if_neg (nI_in (by omega) (by omega)), if_neg (nI_in (by omega) (by omega)), nI_clamp (by omega), w_ne (by decide), w_ne (by decide)]
    obtain ⟨g1, b1, b2⟩ := akM_in (F := F) (σ := σ) (p := p) (rec2 := f_X11_findsAkin_2 F f) hn (show i < n by omega) hpp h4 i 0 F g (by omega) (by omega) hg (fun y hy => absurd hy (Nat.not_lt_zero y))
    rw [nI_0] at b1
    rw [b1]
    exact ih (i + 1) f g1 (by omega) (by omega) b2
end AK
theorem pers_fun {z z' : Int32} {a u o : Nat → Int32} (h : iv_pers z a z' u o) : ∃ (n : Nat) (p : Nat → Option (Nat × Nat)), n ≤ 14 ∧ z = nI n ∧ z' = nI n ∧ ∀ i : Nat, i < n → pe_ p i (a i) (u i) (o i) := by
  obtain ⟨n, h1, h2, h3, h4⟩ := h
  have h5 : ∀ i : Nat, ∃ c : Option (Nat × Nat), i < n → ((c = none ∧ a i = -1 ∧ u i = 0 ∧ o i = 0) ∨ ∃ x y : Nat, c = some (x, y) ∧ x < i ∧ y < i ∧ a i = nI (16 * x + y) ∧ u i = nI (x + 1) ∧ o i = nI (y + 1)) := by
    intro i
    by_cases hi : i < n
    · rcases h4 i hi with h | ⟨x, y, b1, b2, b3, b4⟩
      · exact ⟨none, fun _ => Or.inl ⟨rfl, h⟩⟩
      · exact ⟨some (x, y), fun _ => Or.inr ⟨x, y, rfl, b1, b2, b4⟩⟩
    · exact ⟨none, fun h => absurd h hi⟩
  exact ⟨n, fun i => Classical.choose (h5 i), h1, h2, h3, fun i hi => Classical.choose_spec (h5 i) hi⟩
theorem frac_up {t : Nat} : (256 * t) / Nat.gcd (256 * t) 268435456 = t / Nat.gcd t 1048576 ∧ 268435456 / Nat.gcd (256 * t) 268435456 = 1048576 / Nat.gcd t 1048576 := by
  rw [show 268435456 = 256 * 1048576 from rfl, Nat.gcd_mul_left]
  exact ⟨Nat.mul_div_mul_left _ _ (by decide), Nat.mul_div_mul_left _ _ (by decide)⟩
theorem op_akin {F : Nat} (hF : 300000 ≤ F) (x1 x2 x3 : Int32) : op_ (f_X10_akin F x1 x2 x3) (f_X11_akin F x1 x2 x3) := op_sc (fun σ n hI => by
  obtain ⟨⟨hn, hq1, hq2, hq3, hq4, hq5, hq6, hq7, hq8, hla, hpl, hfd, hsd⟩, hpa, htp, hpi, hfx⟩ := hI
  obtain ⟨k, p, hk, z1, z2, hp⟩ := pers_fun hq4
  have hf0 : fr_ sc_S sc_K σ (nd_up σ 60 0 0) := (by repeat first | exact fr_rf | (refine fr_up57 ?_ (by decide)) | (refine fr_up ?_ (by decide) (by decide)) | (refine fr_row ?_ (by decide) (by decide)))
  have z3 : nd_up σ 60 0 0 60 54 = nI k := z2
  have hpp : ∀ (i : Nat) (c : Nat × Nat), i < k → p i = some c → c.1 < i ∧ c.2 < i := by
    intro i c hi hc
    rcases hp i hi with ⟨a1, _⟩ | ⟨x, y, a1, a2, a3, _⟩
    · rw [a1] at hc; exact absurd hc (by simp)
    · rw [a1] at hc
      obtain rfl := Option.some.inj hc
      exact ⟨a2, a3⟩
  unfold f_X10_akin f_X10_akin_41 f_X11_akin f_X11_akin_45 nd_let
  simp only [e_isIn, n_bind, z1]
  by_cases c1 : (x1 < 0 ∨ nI k ≤ x1) ∨ (x2 < 0 ∨ nI k ≤ x2) ∨ (x3 < 0 ∨ 1 < x3)
  · refine ⟨-1, σ, _, ?_, ?_, hf0⟩
    · clear hp hpp hf0 hq1 hq2 hq3 hq4 hq5 hq6 hq7 hq8 hla hpl hfd hsd hpa htp hpi hfx
      grind
    · simp only [z3, b_decN (show k ≤ 150 by omega)]
      clear hp hpp hf0 hq1 hq2 hq3 hq4 hq5 hq6 hq7 hq8 hla hpl hfd hsd hpa htp hpi hfx
      grind
  · simp only [not_or] at c1
    obtain ⟨⟨a1, a2⟩, ⟨b1, b2⟩, d1, d2⟩ := c1
    have d3 : x3 ≤ 1 := Int32.not_lt.mp d2
    obtain ⟨i, hi, rfl⟩ := rng k (by omega) a1 (fun e => a2 (Int32.le_of_lt e))
    obtain ⟨j, hj, rfl⟩ := rng k (by omega) b1 (fun e => b2 (Int32.le_of_lt e))
    have hi2 : i < k := by
      have := a2
      simp (disch := omega) only [n_lit, n_add, n_mul, n_sub, n_lt, n_le, n_eq, n_cl, n_nle, n_yle, n_nlt, n_ylt, n_neq, n_m1, n_m1l, n_m1g, n_bind, u_eq, u_ne1, u_ne2, w_eq, w_ne, eq_self, nd_let, ite_true, ite_false, if_true, if_false, false_or, or_false, true_and, and_true, not_true, not_false, true_or, or_true, Nat.not_lt_zero, Nat.zero_le] at this
      omega
    have hj2 : j < k := by
      have := b2
      simp (disch := omega) only [n_lit, n_add, n_mul, n_sub, n_lt, n_le, n_eq, n_cl, n_nle, n_yle, n_nlt, n_ylt, n_neq, n_m1, n_m1l, n_m1g, n_bind, u_eq, u_ne1, u_ne2, w_eq, w_ne, eq_self, nd_let, ite_true, ite_false, if_true, if_false, false_or, or_false, true_and, and_true, not_true, not_false, true_or, or_true, Nat.not_lt_zero, Nat.zero_le] at this
      omega
    obtain ⟨g1, e1⟩ := akC_out (F := F) (σ := σ) (I := max i j) (J := min i j) hF z1 hk hp (by omega) (by omega) (max i j + 1) 0 F (σ 58) (by omega) (by omega) (fun x y _ hx => absurd hx (Nat.not_lt_zero x))
    rw [row_id] at e1
    have z4 : nd_up (nd_row σ 58 g1) 60 0 0 60 54 = nI k := z2
    obtain ⟨g2, e3, e4⟩ := akM_out (F := F) (σ := nd_up (nd_row σ 58 g1) 60 0 0) hF z2 hk hp hpp k 0 F (nd_up (nd_row σ 58 g1) 60 0 0 94) (by omega) (by omega) (fun x y hx => absurd hx (Nat.not_lt_zero x))
    rw [row_id] at e3
    have et : kT_ p k i j = kT_ p (max i j + 1) (max i j) (min i j) := by
      have := kT_up (p := p) (i := max i j + 1) (x := max i j) (y := min i j) (by omega) (by omega) (k - (max i j + 1))
      rw [show max i j + 1 + (k - (max i j + 1)) = k by omega] at this
      rw [← this]
      by_cases h : i ≤ j
      · rw [Nat.max_eq_right h, Nat.min_eq_left h, kT_sym]
      · rw [Nat.max_eq_left (by omega), Nat.min_eq_right (by omega)]
    rw [← et] at e1
    have hle := kT_le (p := p) k i j
    generalize ht : kT_ p k i j = t at *
    have e5 := e4 i j hi2 hj2
    rw [ht] at e5
    obtain ⟨u1, u2⟩ := frac_up (t := t)
    refine ⟨if x3 = 0 then nI (t / Nat.gcd t 1048576) else nI (1048576 / Nat.gcd t 1048576), nd_row σ 58 g1, nd_up (nd_up (nd_row (nd_up (nd_row σ 58 g1) 60 0 0) 94 g2) 60 58 (nI (t / Nat.gcd t 1048576))) 60 59 (nI (1048576 / Nat.gcd t 1048576)), ?_, ?_, (by repeat first | exact fr_rf | (refine fr_up57 ?_ (by decide)) | (refine fr_up ?_ (by decide) (by decide)) | (refine fr_row ?_ (by decide) (by decide)))⟩
    · rw [if_neg a1, if_neg a2, if_neg b1, if_neg b2, if_neg d1, if_pos d3, max_I (by omega) (by omega), min_I (by omega) (by omega)]
      unfold f_X7_kinship
      rw [show f_X7_kinship_2 F F (nI (max i j)) (nI (min i j)) 0 σ = some (nI t, nd_row σ 58 g1) from e1, n_bind, show f_X0_lowest F (nI t) 1048576 x3 (nd_row σ 58 g1) = _ from e_low (y := 1048576) x3 (by omega) (by omega) (by omega) hF, n_bind]
    · simp only [z4, b_decN (show k ≤ 150 by omega)]
      rw [if_neg (not_or.mpr ⟨a1, a2⟩), if_neg n10, if_neg (not_or.mpr ⟨b1, b2⟩), if_neg n10, if_neg (not_or.mpr ⟨d1, d2⟩), if_neg n10]
      unfold f_X11_findsAkin
      rw [show f_X11_findsAkin_2 F F 0 (nd_up (nd_row σ 58 g1) 60 0 0) = _ from e3, n_bind]
      have e6 : 14 * nI i + nI j = nI (14 * i + j) := by
        show nI 14 * nI i + nI j = _
        rw [n_mul, n_add]
      rw [e6, if_neg (nI_in (by omega) (by omega)), nI_clamp (by omega), w_eq, e5, show f_X11_isFraction F (nI (256 * t)) 268435456 (nd_row (nd_up (nd_row σ 58 g1) 60 0 0) 94 g2) = _ from e_frac (y := 268435456) (by omega) (by omega) (by omega) hF, n_bind, u1, u2]
      by_cases hx : x3 = 0
      · rw [if_pos hx, if_pos hx]; rfl
      · rw [if_neg hx, if_neg hx]; rfl)
