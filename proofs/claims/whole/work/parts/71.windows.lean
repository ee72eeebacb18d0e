/-! rows of the memory -/
theorem up_row {σ : nd_Mem} {i k : Nat} {g : Nat → Int32} {v : Int32} : nd_up (nd_row σ i g) i k v = nd_row σ i (upd g k v) := by
  funext a j
  rw [u_app, row_app, row_app]
  by_cases h : a = i
  · simp only [h, if_true]
    rfl
  · simp only [h, if_false]
theorem row_row {σ : nd_Mem} {i : Nat} {f g : Nat → Int32} : nd_row (nd_row σ i f) i g = nd_row σ i g := by
  funext a
  rw [row_app, row_app, row_app]
  by_cases h : a = i <;> simp [h]
theorem row_id {σ : nd_Mem} {i : Nat} : nd_row σ i (σ i) = σ := by
  funext a
  rw [row_app]
  by_cases h : a = i
  · rw [if_pos h, h]
  · rw [if_neg h]
theorem up_is {σ : nd_Mem} {i k : Nat} {v : Int32} : nd_up σ i k v = nd_row σ i (upd (σ i) k v) := by
  conv => lhs; rw [← row_id (σ := σ) (i := i)]
  rw [up_row]
theorem upd_eq {g : Nat → Int32} {k : Nat} {v : Int32} : upd g k v k = v := by simp [upd]
theorem upd_ne {g : Nat → Int32} {k j : Nat} {v : Int32} (h : j ≠ k) : upd g k v j = g j := by simp [upd, h]
theorem e_at {F : Nat} {σ : nd_Mem} {b a m n i : Nat} (hn : σ b 1 = nI n) (hi : i < n) (hm : n ≤ m) (h : m < 2147483648) : f_X4_at F b a m (nI i) σ = some (σ a i, σ) := by
  unfold f_X4_at
  simp (disch := omega) only [n_lit, n_add, n_mul, n_sub, n_lt, n_le, n_eq, n_cl, n_nle, n_yle, n_nlt, n_ylt, n_neq, n_m1, n_m1l, n_m1g, n_bind, u_eq, u_ne1, u_ne2, w_eq, w_ne, eq_self, nd_let, ite_true, ite_false, if_true, if_false, false_or, or_false, true_and, and_true, not_true, not_false, true_or, or_true, Nat.not_lt_zero, Nat.zero_le, hn]
/-! windows -/
def bt_ (h : Nat → Nat) (lo : Nat) : Nat → Nat → Bool
  | 0, _ => true
  | d + 1, k => decide (h k < lo) && bt_ h lo d (k + 1)
def sees_ (h : Nat → Nat) (a b : Nat) : Bool := decide (a ≠ b) && bt_ h (min (h a) (h b)) (max a b - (min a b + 1)) (min a b + 1)
def cnt_ (h : Nat → Nat) (a : Nat) : Nat → Nat → Nat
  | 0, _ => 0
  | d + 1, b => (if sees_ h a b = true then 1 else 0) + cnt_ h a d (b + 1)
section WI
variable {F : Nat} {σ : nd_Mem} {h : Nat → Nat} {k : Nat}
theorem e_see_ (h1 : σ 21 1 = nI k) (hk : k ≤ 10) (hb : ∀ i : Nat, i < k → h i ≤ 60) (hh : ∀ i : Nat, i < k → σ 22 i = nI (h i)) {j lo : Nat} (hj : j < k) (hlo : lo ≤ 60) : ∀ (d i f : Nat), i + d = j → d < f → f_X7_see_31 F f (nI j) (nI lo) (nI i) σ = some (if bt_ h lo d i = true then 1 else 0, σ) := by
  intro d
  induction d with
  | zero =>
    intro i f hi hf
    obtain ⟨f, rfl⟩ : ∃ g, f = g + 1 := ⟨f - 1, by omega⟩
    unfold f_X7_see_31 f_X7_see_31_b
    rw [show bt_ h lo 0 i = true from rfl, if_pos (nI_le (by omega) (by omega))]
    rfl
  | succ d ih =>
    intro i f hi hf
    obtain ⟨f, rfl⟩ : ∃ g, f = g + 1 := ⟨f - 1, by omega⟩
    have hbi := hb i (by omega)
    unfold f_X7_see_31 f_X7_see_31_b
    rw [if_neg (nI_ge (by omega) (by omega)), e_at h1 (by omega) hk (by omega), n_bind, hh i (by omega), nI_1]
    rw [show bt_ h lo (d + 1) i = (decide (h i < lo) && bt_ h lo d (i + 1)) from rfl]
    by_cases hc : h i < lo
    · rw [if_pos (nI_lt hc (by omega)), ih (i + 1) f (by omega) (by omega)]
      simp [hc]
    · rw [if_neg (nI_nlt (by omega) (by omega))]
      simp [hc]
theorem min_I {a b : Nat} (ha : a < 2147483648) (hb : b < 2147483648) : (if nI b < nI a then nI b else nI a) = nI (min a b) := by
  by_cases h : b < a
  · rw [if_pos (nI_lt h ha), Nat.min_eq_right (by omega)]
  · rw [if_neg (nI_nlt (by omega) hb), Nat.min_eq_left (by omega)]
theorem max_I {a b : Nat} (ha : a < 2147483648) (hb : b < 2147483648) : (if nI a < nI b then nI b else nI a) = nI (max a b) := by
  by_cases h : a < b
  · rw [if_pos (nI_lt h hb), Nat.max_eq_right (by omega)]
  · rw [if_neg (nI_nlt (by omega) ha), Nat.max_eq_left (by omega)]
theorem e_see (hF : 300000 ≤ F) (h1 : σ 21 1 = nI k) (hk : k ≤ 10) (hb : ∀ i : Nat, i < k → h i ≤ 60) (hh : ∀ i : Nat, i < k → σ 22 i = nI (h i)) {i j : Nat} (hij : i < j) (hj : j < k) : f_X7_see F (nI i) (nI j) σ = some (if bt_ h (min (h i) (h j)) (j - (i + 1)) (i + 1) = true then 1 else 0, σ) := by
  have b1 := hb i (by omega)
  have b2 := hb j hj
  unfold f_X7_see
  rw [e_at h1 (by omega) hk (by omega), n_bind, e_at h1 (by omega) hk (by omega), n_bind, hh i (by omega), hh j hj, min_I (by omega) (by omega), nI_1]
  exact e_see_ h1 hk hb hh hj (by omega) _ _ F (by omega) (by omega)
theorem bt_2 (a b : Nat) : ∀ (d i : Nat), bt_ h (min a b) d i = true ↔ ∀ x, i ≤ x → x < i + d → h x < a ∧ h x < b := by
  intro d
  induction d with
  | zero =>
    intro i
    exact ⟨fun _ x h1 h2 => by omega, fun _ => rfl⟩
  | succ d ih =>
    intro i
    rw [show bt_ h (min a b) (d + 1) i = (decide (h i < min a b) && bt_ h (min a b) d (i + 1)) from rfl, Bool.and_eq_true, ih, decide_eq_true_eq]
    constructor
    · rintro ⟨p, q⟩ x hx1 hx2
      by_cases hx : x = i
      · subst hx; omega
      · exact q x (by omega) (by omega)
    · intro q
      have := q i (by omega) (by omega)
      exact ⟨by omega, fun x hx1 hx2 => q x (by omega) (by omega)⟩
theorem e_doSee_ (hk : k ≤ 10) (hb : ∀ i : Nat, i < k → h i ≤ 60) (hh : ∀ i : Nat, i < k → σ 96 i = nI (h i)) {a b : Nat} (ha : a < k) (hb2 : b < k) (hab : a ≠ b) : ∀ (d i f : Nat), i + d = max a b → d < f → f_X11_doSee_9 F f (nI a) (nI b) (nI i) σ = some (if bt_ h (min (h a) (h b)) d i = true then 1 else 0, σ) := by
  intro d
  induction d with
  | zero =>
    intro i f hi hf
    obtain ⟨f, rfl⟩ : ∃ g, f = g + 1 := ⟨f - 1, by omega⟩
    unfold f_X11_doSee_9 f_X11_doSee_9_b
    rw [e_greater, n_bind, show bt_ h (min (h a) (h b)) 0 i = true from rfl]
    have : (if nI a ≤ nI b then nI b else nI a) = nI (max a b) := by
      by_cases h : a ≤ b
      · rw [if_pos (nI_le h (by omega)), Nat.max_eq_right h]
      · rw [if_neg (nI_ge (by omega) (by omega)), Nat.max_eq_left (by omega)]
    rw [this, if_pos (nI_le (by omega) (by omega)), if_neg (fun e => hab ((nI_eq (by omega) (by omega)).mp e))]
    rfl
  | succ d ih =>
    intro i f hi hf
    obtain ⟨f, rfl⟩ : ∃ g, f = g + 1 := ⟨f - 1, by omega⟩
    have hik : i < k := by omega
    have hbi := hb i hik
    have hba := hb a ha
    have hbb := hb b hb2
    unfold f_X11_doSee_9 f_X11_doSee_9_b f_X11_doSee_49
    have : (if nI a ≤ nI b then nI b else nI a) = nI (max a b) := by
      by_cases h : a ≤ b
      · rw [if_pos (nI_le h (by omega)), Nat.max_eq_right h]
      · rw [if_neg (nI_ge (by omega) (by omega)), Nat.max_eq_left (by omega)]
    rw [e_greater, n_bind, this, if_neg (nI_ge (by omega) (by omega))]
    rw [show bt_ h (min (h a) (h b)) (d + 1) i = (decide (h i < min (h a) (h b)) && bt_ h (min (h a) (h b)) d (i + 1)) from rfl]
    simp (disch := omega) only [n_lit, n_add, n_mul, n_sub, n_lt, n_le, n_eq, n_cl, n_nle, n_yle, n_nlt, n_ylt, n_neq, n_m1, n_m1l, n_m1g, n_bind, u_eq, u_ne1, u_ne2, w_eq, w_ne, eq_self, nd_let, ite_true, ite_false, if_true, if_false, false_or, or_false, true_and, and_true, not_true, not_false, true_or, or_true, Nat.not_lt_zero, Nat.zero_le, hh i hik, hh a ha, hh b hb2]
    rw [ih (i + 1) f (by omega) (by omega)]
    by_cases c1 : h a ≤ h i
    · rw [if_pos c1]
      have : ¬ h i < min (h a) (h b) := by omega
      simp [this]
    · rw [if_neg c1]
      by_cases c2 : h i < h b
      · rw [if_pos c2]
        have : h i < min (h a) (h b) := by omega
        simp [this]
        rfl
      · rw [if_neg c2]
        have : ¬ h i < min (h a) (h b) := by omega
        simp [this]
theorem e_doSee (hF : 300000 ≤ F) (hk : k ≤ 10) (hb : ∀ i : Nat, i < k → h i ≤ 60) (hh : ∀ i : Nat, i < k → σ 96 i = nI (h i)) {a b : Nat} (ha : a < k) (hb2 : b < k) : f_X11_doSee F (nI a) (nI b) σ = some (if sees_ h a b = true then 1 else 0, σ) := by
  unfold f_X11_doSee
  have e : (if nI b ≤ nI a then nI b else nI a) = nI (min a b) := by
    by_cases h : b ≤ a
    · rw [if_pos (nI_le h (by omega)), Nat.min_eq_right h]
    · rw [if_neg (nI_ge (by omega) (by omega)), Nat.min_eq_left (by omega)]
  rw [e_lesser, n_bind, e, nI_1]
  unfold sees_
  by_cases hab : a = b
  · subst hab
    obtain ⟨f, hf⟩ : ∃ g, F = g + 1 := ⟨F - 1, by omega⟩
    have : f_X11_doSee_9 F (f + 1) (nI a) (nI a) (nI (min a a + 1)) σ = some (0, σ) := by
      unfold f_X11_doSee_9 f_X11_doSee_9_b
      rw [e_greater, n_bind, ite_self, if_pos (nI_le (by omega) (by omega)), if_pos rfl]
    rw [← hf] at this
    rw [this]
    simp
  · rw [e_doSee_ hk hb hh ha hb2 hab (max a b - (min a b + 1)) _ F (by omega) (by omega)]
    simp [hab]
theorem e_sf_ (hF : 300000 ≤ F) (h1 : σ 21 1 = nI k) (hk : k ≤ 10) (hb : ∀ i : Nat, i < k → h i ≤ 60) (hh : ∀ i : Nat, i < k → σ 22 i = nI (h i)) {a : Nat} (ha : a < k) : ∀ (d b c f : Nat), b + d = k → d < f → f_X7_seenFrom_4 F f (nI a) (nI c) (nI b) σ = some (nI (c + cnt_ h a d b), σ) := by
  intro d
  induction d with
  | zero =>
    intro b c f hi hf
    obtain ⟨f, rfl⟩ : ∃ g, f = g + 1 := ⟨f - 1, by omega⟩
    unfold f_X7_seenFrom_4 f_X7_seenFrom_4_b
    rw [h1, if_pos (nI_le (by omega) (by omega))]
    rfl
  | succ d ih =>
    intro b c f hi hf
    obtain ⟨f, rfl⟩ : ∃ g, f = g + 1 := ⟨f - 1, by omega⟩
    unfold f_X7_seenFrom_4 f_X7_seenFrom_4_b f_X7_seenFrom_43
    rw [h1, if_neg (nI_ge (by omega) (by omega)), show cnt_ h a (d + 1) b = (if sees_ h a b = true then 1 else 0) + cnt_ h a d (b + 1) from rfl]
    by_cases hab : a = b
    · rw [if_pos (by rw [hab]), nI_1, ih (b + 1) c f (by omega) (by omega)]
      have : sees_ h a b = false := by unfold sees_; simp [hab]
      simp [this]
    · rw [if_neg (fun e => hab ((nI_eq (by omega) (by omega)).mp e.symm)), min_I (by omega) (by omega), max_I (by omega) (by omega), e_see hF h1 hk hb hh (by omega) (by omega), n_bind]
      have e : sees_ h a b = bt_ h (min (h (min a b)) (h (max a b))) (max a b - (min a b + 1)) (min a b + 1) := by
        unfold sees_
        by_cases hl : a ≤ b
        · rw [Nat.min_eq_left hl, Nat.max_eq_right hl]
          simp [hab]
        · rw [Nat.min_eq_right (show b ≤ a by omega), Nat.max_eq_left (show b ≤ a by omega), Nat.min_comm (h a)]
          simp [hab]
      rw [← e]
      by_cases hs : sees_ h a b = true
      · simp only [hs, if_true]
        rw [if_neg (by decide), nI_1, nI_1, ih (b + 1) (c + 1) f (by omega) (by omega)]
        rw [Nat.add_assoc]
      · simp only [hs, if_false, Bool.false_eq_true, if_true]
        rw [nI_1, ih (b + 1) c f (by omega) (by omega), Nat.zero_add]
theorem e_sf (hF : 300000 ≤ F) (h1 : σ 21 1 = nI k) (hk : k ≤ 10) (hb : ∀ i : Nat, i < k → h i ≤ 60) (hh : ∀ i : Nat, i < k → σ 22 i = nI (h i)) {a : Nat} (ha : a < k) : f_X7_seenFrom F (nI a) σ = some (nI (cnt_ h a k 0), σ) := by
  have := e_sf_ (F := F) hF h1 hk hb hh ha k 0 0 F (by omega) (by omega)
  rw [Nat.zero_add] at this
  exact this
theorem e_sfM_ (hF : 300000 ≤ F) (h1 : σ 60 61 = nI k) (hk : k ≤ 10) (hb : ∀ i : Nat, i < k → h i ≤ 60) (hh : ∀ i : Nat, i < k → σ 96 i = nI (h i)) {rec34 : Int32 → Int32 → Int32 → Int32 → nd_Mem → nd_Res} {x1 x2 x3 : Int32} {a : Nat} (ha : a < k) : ∀ (d b c f : Nat), b + d = k → d < f → f_X11_windows_49 F rec34 f x1 x2 x3 (nI a) (nI c) (nI b) σ = rec34 x1 (x2 + nI (c + cnt_ h a d b)) (if x3 ≤ nI (c + cnt_ h a d b) then nI (c + cnt_ h a d b) else x3) (nI (a + 1)) σ := by
  intro d
  induction d with
  | zero =>
    intro b c f hi hf
    obtain ⟨f, rfl⟩ : ∃ g, f = g + 1 := ⟨f - 1, by omega⟩
    unfold f_X11_windows_49 f_X11_windows_49_b
    rw [h1, if_pos (nI_le (by omega) (by omega)), e_greater, n_bind, nI_1]
    rfl
  | succ d ih =>
    intro b c f hi hf
    obtain ⟨f, rfl⟩ : ∃ g, f = g + 1 := ⟨f - 1, by omega⟩
    unfold f_X11_windows_49 f_X11_windows_49_b f_X11_windows_75
    rw [h1, if_neg (nI_ge (by omega) (by omega)), e_doSee hF hk hb hh ha (by omega), n_bind, show cnt_ h a (d + 1) b = (if sees_ h a b = true then 1 else 0) + cnt_ h a d (b + 1) from rfl]
    by_cases hs : sees_ h a b = true
    · simp only [hs, if_true]
      rw [if_neg (by decide), nI_1, nI_1, ih (b + 1) (c + 1) f (by omega) (by omega), Nat.add_assoc]
    · simp only [hs, if_false, Bool.false_eq_true, if_true]
      rw [nI_1, ih (b + 1) c f (by omega) (by omega), Nat.zero_add]
end WI
theorem mx_ (a b : Int32) : (if a < b then b else a) = (if a ≤ b then b else a) := by grind
section WJ
variable {F : Nat} {σ τ : nd_Mem} {h : Nat → Nat} {k : Nat}
theorem wi0 (hF : 300000 ≤ F) (h1 : σ 21 1 = nI k) (hk : k ≤ 10) (hb : ∀ i : Nat, i < k → h i ≤ 60) (hh : ∀ i : Nat, i < k → σ 22 i = nI (h i)) (h1' : τ 60 61 = nI k) (hh' : ∀ i : Nat, i < k → τ 96 i = nI (h i)) : ∀ (d a f f' : Nat) (x y : Int32), a + d = k → d < f → d < f' → ∃ r : Int32, f_X7_couplesThatSee_4 F f x (nI a) σ = some (r, σ) ∧ f_X11_windows_34 F f' 0 x y (nI a) τ = some (r, τ) := by
  intro d
  induction d with
  | zero =>
    intro a f f' x y hi hf hf'
    obtain ⟨f, rfl⟩ : ∃ g, f = g + 1 := ⟨f - 1, by omega⟩
    obtain ⟨f', rfl⟩ : ∃ g, f' = g + 1 := ⟨f' - 1, by omega⟩
    unfold f_X7_couplesThatSee_4 f_X7_couplesThatSee_4_b f_X11_windows_34 f_X11_windows_34_b
    rw [h1, h1', if_pos (nI_le (by omega) (by omega)), if_pos (nI_le (by omega) (by omega)), if_pos rfl]
    exact ⟨_, rfl, rfl⟩
  | succ d ih =>
    intro a f f' x y hi hf hf'
    obtain ⟨f, rfl⟩ : ∃ g, f = g + 1 := ⟨f - 1, by omega⟩
    obtain ⟨f', rfl⟩ : ∃ g, f' = g + 1 := ⟨f' - 1, by omega⟩
    unfold f_X7_couplesThatSee_4 f_X7_couplesThatSee_4_b f_X11_windows_34 f_X11_windows_34_b
    have e := e_sfM_ (F := F) (σ := τ) (x1 := 0) (x2 := x) (x3 := y) (rec34 := f_X11_windows_34 F f') hF h1' hk hb hh' (show a < k by omega) k 0 0 F (by omega) (by omega)
    rw [nI_0] at e
    rw [h1, h1', if_neg (nI_ge (by omega) (by omega)), if_neg (nI_ge (by omega) (by omega)), e_sf hF h1 hk hb hh (by omega), n_bind, e, Nat.zero_add, nI_1]
    exact ih (a + 1) f f' _ _ (by omega) (by omega) (by omega)
theorem wi1 (hF : 300000 ≤ F) (h1 : σ 21 1 = nI k) (hk : k ≤ 10) (hb : ∀ i : Nat, i < k → h i ≤ 60) (hh : ∀ i : Nat, i < k → σ 22 i = nI (h i)) (h1' : τ 60 61 = nI k) (hh' : ∀ i : Nat, i < k → τ 96 i = nI (h i)) : ∀ (d a f f' : Nat) (x y : Int32), a + d = k → d < f → d < f' → ∃ r : Int32, f_X7_mostSeen_4 F f y (nI a) σ = some (r, σ) ∧ f_X11_windows_34 F f' 1 x y (nI a) τ = some (r, τ) := by
  intro d
  induction d with
  | zero =>
    intro a f f' x y hi hf hf'
    obtain ⟨f, rfl⟩ : ∃ g, f = g + 1 := ⟨f - 1, by omega⟩
    obtain ⟨f', rfl⟩ : ∃ g, f' = g + 1 := ⟨f' - 1, by omega⟩
    unfold f_X7_mostSeen_4 f_X7_mostSeen_4_b f_X11_windows_34 f_X11_windows_34_b
    rw [h1, h1', if_pos (nI_le (by omega) (by omega)), if_pos (nI_le (by omega) (by omega)), if_neg (by decide)]
    exact ⟨_, rfl, rfl⟩
  | succ d ih =>
    intro a f f' x y hi hf hf'
    obtain ⟨f, rfl⟩ : ∃ g, f = g + 1 := ⟨f - 1, by omega⟩
    obtain ⟨f', rfl⟩ : ∃ g, f' = g + 1 := ⟨f' - 1, by omega⟩
    unfold f_X7_mostSeen_4 f_X7_mostSeen_4_b f_X11_windows_34 f_X11_windows_34_b
    have e := e_sfM_ (F := F) (σ := τ) (x1 := 1) (x2 := x) (x3 := y) (rec34 := f_X11_windows_34 F f') hF h1' hk hb hh' (show a < k by omega) k 0 0 F (by omega) (by omega)
    rw [nI_0] at e
    rw [h1, h1', if_neg (nI_ge (by omega) (by omega)), if_neg (nI_ge (by omega) (by omega)), e_sf hF h1 hk hb hh (by omega), n_bind, e, Nat.zero_add, nI_1, mx_]
    exact ih (a + 1) f f' _ _ (by omega) (by omega) (by omega)
/-! rising -/
def rs_ (h g : Nat → Nat) (i : Nat) : Nat → Nat
  | 0 => 1
  | m + 1 => if h m < h i then rs_ h g i m + g m else rs_ h g i m
def rG_ (h : Nat → Nat) : Nat → Nat → Nat
  | 0 => fun _ => 0
  | i + 1 => fun j => if j = i then rs_ h (rG_ h i) i i else rG_ h i j
def rS_ (h : Nat → Nat) : Nat → Nat
  | 0 => 0
  | i + 1 => rS_ h i + rs_ h (rG_ h i) i i
theorem ri_in (h1 : σ 21 1 = nI k) (hk : k ≤ 10) (hb : ∀ i : Nat, i < k → h i ≤ 60) (hh : ∀ i : Nat, i < k → σ 22 i = nI (h i)) {rec4 : Int32 → Int32 → nd_Mem → nd_Res} {x : Int32} {i : Nat} (hi : i < k) {G : Nat → Nat} : ∀ (d j f : Nat) (g : Nat → Int32), j + d = i → d < f → (∀ m : Nat, m < i → g m = nI (G m)) → g i = nI (rs_ h G i j) → ∃ g' : Nat → Int32, f_X7_rising_27 F rec4 f x (nI i) (nI j) (nd_row σ 58 g) = rec4 (x + nI (rs_ h G i i)) (nI (i + 1)) (nd_row σ 58 g') ∧ (∀ m : Nat, m < i → g' m = nI (G m)) ∧ g' i = nI (rs_ h G i i) := by
  intro d
  induction d with
  | zero =>
    intro j f g hj hf hg hgi
    obtain ⟨f, rfl⟩ : ∃ g, f = g + 1 := ⟨f - 1, by omega⟩
    have : j = i := by omega
    subst this
    refine ⟨g, ?_, hg, hgi⟩
    unfold f_X7_rising_27 f_X7_rising_27_b
    simp (disch := omega) only [n_lit, n_add, n_mul, n_sub, n_lt, n_le, n_eq, n_cl, n_nle, n_yle, n_nlt, n_ylt, n_neq, n_m1, n_m1l, n_m1g, n_bind, u_eq, u_ne1, u_ne2, w_eq, w_ne, eq_self, nd_let, ite_true, ite_false, if_true, if_false, false_or, or_false, true_and, and_true, not_true, not_false, true_or, or_true, Nat.not_lt_zero, Nat.zero_le, hgi]
  | succ d ih =>
    intro j f g hj hf hg hgi
    obtain ⟨f, rfl⟩ : ∃ g, f = g + 1 := ⟨f - 1, by omega⟩
    have b1 := hb i hi
    have b2 := hb j (by omega)
    have a1 : ∀ m : Nat, m < k → f_X4_at F 21 22 10 (nI m) (nd_row σ 58 g) = some (nI (h m), nd_row σ 58 g) := by
      intro m hm
      rw [e_at (n := k) (by rw [w_ne (by decide)]; exact h1) hm hk (by decide), w_ne (by decide), hh m hm]
    unfold f_X7_rising_27 f_X7_rising_27_b f_X7_rising_72
    rw [if_neg (nI_ge (by omega) (by omega)), a1 j (by omega), n_bind, a1 i hi, n_bind, nI_1]
    by_cases hc : h j < h i
    · rw [if_neg (nI_ge hc (by omega)), if_neg (nI_in (by omega) (by omega)), if_neg (nI_in (by omega) (by omega)), if_neg (nI_in (by omega) (by omega)), nI_clamp (by omega), nI_clamp (by omega), w_eq, w_eq, hgi, hg j (by omega), n_add]
      show ∃ g' : Nat → Int32, f_X7_rising_27 F rec4 f x (nI i) (nI (j + 1)) (nd_up (nd_row σ 58 g) 58 i (nI (rs_ h G i j + G j))) = _ ∧ _
      rw [up_row]
      refine ih (j + 1) f _ (by omega) (by omega) ?_ ?_
      · intro m hm
        rw [upd_ne (by omega)]
        exact hg m hm
      · rw [upd_eq]
        show _ = nI (if h j < h i then rs_ h G i j + G j else rs_ h G i j)
        rw [if_pos hc]
    · rw [if_pos (nI_le (by omega) (by omega))]
      refine ih (j + 1) f _ (by omega) (by omega) hg ?_
      rw [hgi]
      show _ = nI (if h j < h i then rs_ h G i j + G j else rs_ h G i j)
      rw [if_neg hc]
theorem ri_out (hF : 300000 ≤ F) (h1 : σ 21 1 = nI k) (hk : k ≤ 10) (hb : ∀ i : Nat, i < k → h i ≤ 60) (hh : ∀ i : Nat, i < k → σ 22 i = nI (h i)) : ∀ (d i f : Nat) (g : Nat → Int32), i + d = k → d < f → (∀ m : Nat, m < i → g m = nI (rG_ h i m)) → ∃ g' : Nat → Int32, f_X7_rising_4 F f (nI (rS_ h i)) (nI i) (nd_row σ 58 g) = some (nI (rS_ h k), nd_row σ 58 g') := by
  intro d
  induction d with
  | zero =>
    intro i f g hj hf hg
    obtain ⟨f, rfl⟩ : ∃ g, f = g + 1 := ⟨f - 1, by omega⟩
    have : i = k := by omega
    subst this
    refine ⟨g, ?_⟩
    unfold f_X7_rising_4 f_X7_rising_4_b
    simp (disch := omega) only [n_lit, n_add, n_mul, n_sub, n_lt, n_le, n_eq, n_cl, n_nle, n_yle, n_nlt, n_ylt, n_neq, n_m1, n_m1l, n_m1g, n_bind, u_eq, u_ne1, u_ne2, w_eq, w_ne, eq_self, nd_let, ite_true, ite_false, if_true, if_false, false_or, or_false, true_and, and_true, not_true, not_false, true_or, or_true, Nat.not_lt_zero, Nat.zero_le, h1]
  | succ d ih =>
    intro i f g hj hf hg
    obtain ⟨f, rfl⟩ : ∃ g, f = g + 1 := ⟨f - 1, by omega⟩
    unfold f_X7_rising_4 f_X7_rising_4_b
    have e1 : nd_row σ 58 g 21 1 = nI k := by rw [w_ne (by decide)]; exact h1
    rw [e1, if_neg (nI_ge (by omega) (by omega)), if_neg (nI_in (by omega) (by omega)), nI_clamp (by omega), up_row]
    unfold nd_let
    dsimp only
    obtain ⟨g', a, b, c⟩ := ri_in (F := F) (σ := σ) (rec4 := f_X7_rising_4 F f) (x := nI (rS_ h i)) (i := i) (G := rG_ h i) h1 hk hb hh (by omega) i 0 F (upd g i 1) (by omega) (by omega) (fun m hm => by rw [upd_ne (by omega)]; exact hg m hm) (by rw [upd_eq]; rfl)
    rw [nI_0] at a
    rw [a, n_add]
    refine ih (i + 1) f g' (by omega) (by omega) ?_
    intro m hm
    show _ = nI (if m = i then rs_ h (rG_ h i) i i else rG_ h i m)
    by_cases hmi : m = i
    · rw [if_pos hmi, hmi, c]
    · rw [if_neg hmi]
      exact b m (by omega)
theorem riM_in (hk : k ≤ 10) (hb : ∀ i : Nat, i < k → h i ≤ 60) (hh : ∀ i : Nat, i < k → σ 96 i = nI (h i)) {rec4 : Int32 → Int32 → nd_Mem → nd_Res} {x : Int32} {i : Nat} (hi : i < k) {G : Nat → Nat} : ∀ (d j f : Nat) (g : Nat → Int32), j + d = i → d < f → (∀ m : Nat, m < i → g m = nI (G m)) → g i = nI (rs_ h G i j) → ∃ g' : Nat → Int32, f_X11_rising_21 F rec4 f x (nI i) (nI j) (nd_row σ 97 g) = rec4 (x + nI (rs_ h G i i)) (nI (i + 1)) (nd_row σ 97 g') ∧ (∀ m : Nat, m < i → g' m = nI (G m)) ∧ g' i = nI (rs_ h G i i) := by
  intro d
  induction d with
  | zero =>
    intro j f g hj hf hg hgi
    obtain ⟨f, rfl⟩ : ∃ g, f = g + 1 := ⟨f - 1, by omega⟩
    have : j = i := by omega
    subst this
    refine ⟨g, ?_, hg, hgi⟩
    unfold f_X11_rising_21 f_X11_rising_21_b
    simp (disch := omega) only [n_lit, n_add, n_mul, n_sub, n_lt, n_le, n_eq, n_cl, n_nle, n_yle, n_nlt, n_ylt, n_neq, n_m1, n_m1l, n_m1g, n_bind, u_eq, u_ne1, u_ne2, w_eq, w_ne, eq_self, nd_let, ite_true, ite_false, if_true, if_false, false_or, or_false, true_and, and_true, not_true, not_false, true_or, or_true, Nat.not_lt_zero, Nat.zero_le, hgi]
  | succ d ih =>
    intro j f g hj hf hg hgi
    obtain ⟨f, rfl⟩ : ∃ g, f = g + 1 := ⟨f - 1, by omega⟩
    have b1 := hb i hi
    have b2 := hb j (by omega)
    have a1 : ∀ m : Nat, m < k → nd_row σ 97 g 96 m = nI (h m) := by
      intro m hm
      rw [w_ne (by decide), hh m hm]
    unfold f_X11_rising_21 f_X11_rising_21_b f_X11_rising_60
    rw [if_neg (nI_ge (by omega) (by omega)), if_neg (nI_in (by omega) (by omega)), if_neg (nI_in (by omega) (by omega)), nI_clamp (by omega), nI_clamp (by omega), a1 j (by omega), a1 i hi, nI_1]
    by_cases hc : h j < h i
    · rw [if_neg (nI_ge hc (by omega))]
      simp (disch := omega) only [n_lit, n_add, n_mul, n_sub, n_lt, n_le, n_eq, n_cl, n_nle, n_yle, n_nlt, n_ylt, n_neq, n_m1, n_m1l, n_m1g, n_bind, u_eq, u_ne1, u_ne2, w_eq, w_ne, eq_self, nd_let, ite_true, ite_false, if_true, if_false, false_or, or_false, true_and, and_true, not_true, not_false, true_or, or_true, Nat.not_lt_zero, Nat.zero_le, w_eq, hgi, hg j (by omega)]
      show ∃ g' : Nat → Int32, f_X11_rising_21 F rec4 f x (nI i) (nI (j + 1)) (nd_up (nd_row σ 97 g) 97 i (nI (rs_ h G i j + G j))) = _ ∧ _
      rw [up_row]
      refine ih (j + 1) f _ (by omega) (by omega) ?_ ?_
      · intro m hm
        rw [upd_ne (by omega)]
        exact hg m hm
      · rw [upd_eq]
        show _ = nI (if h j < h i then rs_ h G i j + G j else rs_ h G i j)
        rw [if_pos hc]
    · rw [if_pos (nI_le (by omega) (by omega))]
      refine ih (j + 1) f _ (by omega) (by omega) hg ?_
      rw [hgi]
      show _ = nI (if h j < h i then rs_ h G i j + G j else rs_ h G i j)
      rw [if_neg hc]
theorem riM_out (hF : 300000 ≤ F) (h1 : σ 60 61 = nI k) (hk : k ≤ 10) (hb : ∀ i : Nat, i < k → h i ≤ 60) (hh : ∀ i : Nat, i < k → σ 96 i = nI (h i)) : ∀ (d i f : Nat) (g : Nat → Int32), i + d = k → d < f → (∀ m : Nat, m < i → g m = nI (rG_ h i m)) → ∃ g' : Nat → Int32, f_X11_rising_4 F f (nI (rS_ h i)) (nI i) (nd_row σ 97 g) = some (nI (rS_ h k), nd_row σ 97 g') := by
  intro d
  induction d with
  | zero =>
    intro i f g hj hf hg
    obtain ⟨f, rfl⟩ : ∃ g, f = g + 1 := ⟨f - 1, by omega⟩
    have : i = k := by omega
    subst this
    refine ⟨g, ?_⟩
    unfold f_X11_rising_4 f_X11_rising_4_b
    simp (disch := omega) only [n_lit, n_add, n_mul, n_sub, n_lt, n_le, n_eq, n_cl, n_nle, n_yle, n_nlt, n_ylt, n_neq, n_m1, n_m1l, n_m1g, n_bind, u_eq, u_ne1, u_ne2, w_eq, w_ne, eq_self, nd_let, ite_true, ite_false, if_true, if_false, false_or, or_false, true_and, and_true, not_true, not_false, true_or, or_true, Nat.not_lt_zero, Nat.zero_le, h1]
  | succ d ih =>
    intro i f g hj hf hg
    obtain ⟨f, rfl⟩ : ∃ g, f = g + 1 := ⟨f - 1, by omega⟩
    unfold f_X11_rising_4 f_X11_rising_4_b
    have e1 : nd_row σ 97 g 60 61 = nI k := by rw [w_ne (by decide)]; exact h1
    rw [e1, if_neg (nI_ge (by omega) (by omega)), if_neg (nI_in (by omega) (by omega)), nI_clamp (by omega), up_row]
    unfold nd_let
    dsimp only
    obtain ⟨g', a, b, c⟩ := riM_in (F := F) (σ := σ) (rec4 := f_X11_rising_4 F f) (x := nI (rS_ h i)) (i := i) (G := rG_ h i) hk hb hh (by omega) i 0 F (upd g i 1) (by omega) (by omega) (fun m hm => by rw [upd_ne (by omega)]; exact hg m hm) (by rw [upd_eq]; rfl)
    rw [nI_0] at a
    rw [a, n_add]
    refine ih (i + 1) f g' (by omega) (by omega) ?_
    intro m hm
    show _ = nI (if m = i then rs_ h (rG_ h i) i i else rG_ h i m)
    by_cases hmi : m = i
    · rw [if_pos hmi, hmi, c]
    · rw [if_neg hmi]
      exact b m (by omega)
end WJ
theorem row_fun {m lo hi : Nat} {z z' : Int32} {a a' : Nat → Int32} (h : iv_row m lo hi z a z' a') : ∃ (n : Nat) (h : Nat → Nat), n ≤ m ∧ z = nI n ∧ z' = nI n ∧ (∀ i : Nat, i < n → a i = nI (h i)) ∧ (∀ i : Nat, i < n → a' i = nI (h i)) ∧ (∀ i : Nat, i < n → lo ≤ h i ∧ h i ≤ hi) := by
  obtain ⟨n, h1, h2, h3, h4⟩ := h
  have h5 : ∀ i : Nat, ∃ v : Nat, i < n → a i = nI v ∧ a' i = nI v ∧ lo ≤ v ∧ v ≤ hi := by
    intro i
    by_cases hi : i < n
    · obtain ⟨e, v, v1, v2, v3⟩ := h4 i hi
      exact ⟨v, fun _ => ⟨by rw [e, v3], v3, v1, v2⟩⟩
    · exact ⟨0, fun h => absurd h hi⟩
  refine ⟨n, fun i => Classical.choose (h5 i), h1, h2, h3, fun i hi => ?_, fun i hi => ?_, fun i hi => ?_⟩
  · exact (Classical.choose_spec (h5 i) hi).1
  · exact (Classical.choose_spec (h5 i) hi).2.1
  · exact (Classical.choose_spec (h5 i) hi).2.2
theorem op_windows {F : Nat} (hF : 300000 ≤ F) (x1 : Int32) : op_ (f_X10_windows F x1) (f_X11_windows F x1) := op_sc (fun σ n hI => by
  obtain ⟨⟨hn, hq1, hq2, hq3, hq4, hq5, hq6, hq7, hq8, hla, hpl, hfd, hsd⟩, hpa, htp, hpi, hfx⟩ := hI
  obtain ⟨k, h, hk, z1, z2, a1, a2, hb⟩ := row_fun hq5
  have hb' : ∀ i : Nat, i < k → h i ≤ 60 := fun i hi => (hb i hi).2
  have hf0 : fr_ sc_S sc_K σ (nd_up σ 60 0 0) := (by repeat first | exact fr_rf | (refine fr_up57 ?_ (by decide)) | (refine fr_up ?_ (by decide) (by decide)) | (refine fr_row ?_ (by decide) (by decide)))
  unfold f_X10_windows f_X11_windows nd_let
  simp only [e_isIn, n_bind]
  by_cases c0 : x1 = 0
  · subst c0
    obtain ⟨r, e1, e2⟩ := wi0 (F := F) (σ := σ) (τ := nd_up σ 60 0 0) hF z1 hk hb' a1 z2 a2 k 0 F F 0 0 (by omega) (by omega) (by omega)
    refine ⟨r, σ, _, ?_, ?_, hf0⟩
    · rw [if_pos rfl]
      unfold f_X7_couplesThatSee
      rw [show f_X7_couplesThatSee_4 F F 0 0 σ = some (r, σ) from e1, n_bind]
    · rw [if_neg (by decide), if_neg (by decide)]
      exact e2
  by_cases c1 : x1 = 1
  · subst c1
    obtain ⟨r, e1, e2⟩ := wi1 (F := F) (σ := σ) (τ := nd_up σ 60 0 0) hF z1 hk hb' a1 z2 a2 k 0 F F 0 0 (by omega) (by omega) (by omega)
    refine ⟨r, σ, _, ?_, ?_, hf0⟩
    · rw [if_neg (by decide), if_pos rfl]
      unfold f_X7_mostSeen
      rw [show f_X7_mostSeen_4 F F 0 0 σ = some (r, σ) from e1, n_bind]
    · rw [if_neg (by decide), if_neg (by decide)]
      exact e2
  by_cases c2 : x1 = 2
  · subst c2
    obtain ⟨g1, e1⟩ := ri_out (F := F) (σ := σ) hF z1 hk hb' a1 k 0 F (σ 58) (by omega) (by omega) (fun m hm => absurd hm (Nat.not_lt_zero m))
    rw [row_id] at e1
    obtain ⟨g2, e2⟩ := riM_out (F := F) (σ := nd_up (nd_row σ 58 g1) 60 0 0) hF z2 hk hb' a2 k 0 F (nd_up (nd_row σ 58 g1) 60 0 0 97) (by omega) (by omega) (fun m hm => absurd hm (Nat.not_lt_zero m))
    rw [row_id] at e2
    have hf1 : fr_ sc_S sc_K σ (nd_row (nd_up (nd_row σ 58 g1) 60 0 0) 97 g2) := (by repeat first | exact fr_rf | (refine fr_up57 ?_ (by decide)) | (refine fr_up ?_ (by decide) (by decide)) | (refine fr_row ?_ (by decide) (by decide)))
    refine ⟨nI (rS_ h k), nd_row σ 58 g1, _, ?_, ?_, hf1⟩
    · rw [if_neg (by decide), if_neg (by decide), if_pos rfl]
      unfold f_X7_rising
      rw [show f_X7_rising_4 F F 0 0 σ = some (nI (rS_ h k), nd_row σ 58 g1) from e1, n_bind]
    · rw [if_neg (by decide), if_pos rfl]
      unfold f_X11_rising
      rw [show f_X11_rising_4 F F 0 0 (nd_up (nd_row σ 58 g1) 60 0 0) = some (nI (rS_ h k), _) from e2, n_bind]
  refine ⟨-1, σ, _, ?_, ?_, hf0⟩
  · rw [if_neg c0, if_neg c1, if_neg c2]
  · have : x1 < 0 ∨ 2 < x1 := by grind
    rw [if_pos this, if_pos rfl])
