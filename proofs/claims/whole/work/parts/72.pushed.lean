/-! pushed -/
def ps_ (i : Nat) (v : Nat → Nat) : Nat → Nat := fun j => if j = i then v i % 2 else if j + 1 = i ∨ j = i + 1 then v j + v i / 2 else v j
def ph_ (k : Nat) (v : Nat → Nat) : Nat → Nat
  | 0 => 0
  | m + 1 => ph_ k v m + v m * ((m + 1) * (k - m))
def pr_ : Nat → Nat → (Nat → Nat) → Nat → Bool → (Nat → Nat) × Nat × Bool
  | 0, _, v, t, b => (v, t, b)
  | d + 1, i, v, t, b => pr_ d (i + 1) (ps_ i v) (t + v i / 2) (b || decide (0 < v i / 2))
def pu_ (k : Nat) : Nat → (Nat → Nat) → Nat → (Nat → Nat) × Nat
  | 0, v, t => (v, t)
  | N + 1, v, t => if (pr_ k 0 v t false).2.2 = true then pu_ k N (pr_ k 0 v t false).1 (pr_ k 0 v t false).2.1 else ((pr_ k 0 v t false).1, (pr_ k 0 v t false).2.1)
theorem ph_eq {k : Nat} {v w : Nat → Nat} : ∀ m : Nat, (∀ j : Nat, j < m → v j = w j) → ph_ k v m = ph_ k w m := by
  intro m
  induction m with
  | zero => intro _; rfl
  | succ m ih =>
    intro h
    show ph_ k v m + v m * _ = ph_ k w m + w m * _
    rw [ih (fun j hj => h j (by omega)), h m (by omega)]
theorem ph_ps {k i : Nat} {v : Nat → Nat} (hi : i < k) : ph_ k (ps_ i v) k + 2 * (v i / 2) = ph_ k v k := by
  have ei : ps_ i v i = v i % 2 := by simp [ps_]
  have en : ps_ i v (i + 1) = v (i + 1) + v i / 2 := by
    unfold ps_
    rw [if_neg (by omega), if_pos (by omega)]
  have hv : v i = 2 * (v i / 2) + v i % 2 := by omega
  have base : ph_ k (ps_ i v) (i + 2) + 2 * (v i / 2) = ph_ k v (i + 2) := by
    show ph_ k (ps_ i v) i + ps_ i v i * ((i + 1) * (k - i)) + ps_ i v (i + 1) * ((i + 1 + 1) * (k - (i + 1))) + _ = ph_ k v i + v i * ((i + 1) * (k - i)) + v (i + 1) * ((i + 1 + 1) * (k - (i + 1)))
    rw [ei, en]
    generalize hg : v i / 2 = g at *
    generalize hr : v i % 2 = r at *
    obtain ⟨e, rfl⟩ : ∃ e, k = i + 1 + e := ⟨k - (i + 1), by omega⟩
    rw [show i + 1 + e - i = e + 1 by omega, show i + 1 + e - (i + 1) = e by omega]
    cases i with
    | zero =>
      show 0 + _ + _ + _ = 0 + _ + _
      rw [hv]
      generalize v (0 + 1) = q
      grind
    | succ i =>
      have ep : ps_ (i + 1) v i = v i + g := by
        unfold ps_
        rw [if_neg (by omega), if_pos (by omega), hg]
      have ee : ph_ (i + 1 + 1 + e) (ps_ (i + 1) v) i = ph_ (i + 1 + 1 + e) v i := by
        apply ph_eq
        intro j hj
        unfold ps_
        rw [if_neg (by omega), if_neg (by omega)]
      show ph_ (i + 1 + 1 + e) (ps_ (i + 1) v) i + ps_ (i + 1) v i * ((i + 1) * (i + 1 + 1 + e - i)) + _ + _ + _ = ph_ (i + 1 + 1 + e) v i + v i * ((i + 1) * (i + 1 + 1 + e - i)) + _ + _
      rw [ep, ee, hv, show i + 1 + 1 + e - i = e + 2 by omega]
      generalize ph_ (i + 1 + 1 + e) v i = A
      generalize v i = p
      generalize v (i + 1 + 1) = q
      grind
  have all : ∀ d : Nat, ph_ k (ps_ i v) (i + 2 + d) + 2 * (v i / 2) = ph_ k v (i + 2 + d) := by
    intro d
    induction d with
    | zero => exact base
    | succ d ih =>
      show ph_ k (ps_ i v) (i + 2 + d) + ps_ i v (i + 2 + d) * _ + _ = ph_ k v (i + 2 + d) + v (i + 2 + d) * _
      have : ps_ i v (i + 2 + d) = v (i + 2 + d) := by
        unfold ps_
        rw [if_neg (by omega), if_neg (by omega)]
      rw [this]
      omega
  have := all (k + 1 - (i + 2))
  rw [show i + 2 + (k + 1 - (i + 2)) = k + 1 by omega] at this
  have z : ∀ w : Nat → Nat, ph_ k w (k + 1) = ph_ k w k := by
    intro w
    show ph_ k w k + w k * ((k + 1) * (k - k)) = _
    rw [Nat.sub_self, Nat.mul_zero, Nat.mul_zero, Nat.add_zero]
  rw [z, z] at this
  exact this
theorem ph_le {k : Nat} {v : Nat → Nat} : ∀ m : Nat, m ≤ k → ∀ j : Nat, j < m → v j ≤ ph_ k v m := by
  intro m
  induction m with
  | zero => intro _ j hj; omega
  | succ m ih =>
    intro hm j hj
    show _ ≤ ph_ k v m + v m * ((m + 1) * (k - m))
    by_cases h : j = m
    · subst h
      have h1 : 1 ≤ (j + 1) * (k - j) := Nat.mul_le_mul (show 1 ≤ j + 1 by omega) (show 1 ≤ k - j by omega)
      have h2 := Nat.mul_le_mul_left (v j) h1
      omega
    · have := ih (by omega) j (by omega)
      omega
theorem ph_top {k : Nat} {v : Nat → Nat} (hk : k ≤ 10) (hv : ∀ j : Nat, j < k → v j ≤ 60) : ph_ k v k ≤ 66000 := by
  have : ∀ m : Nat, m ≤ k → ph_ k v m ≤ m * 6600 := by
    intro m
    induction m with
    | zero => intro _; exact Nat.le_refl 0
    | succ m ih =>
      intro hm
      have h1 := ih (by omega)
      have h2 : (m + 1) * (k - m) ≤ 11 * 10 := Nat.mul_le_mul (by omega) (by omega)
      have h3 := Nat.mul_le_mul (hv m (by omega)) h2
      show ph_ k v m + v m * ((m + 1) * (k - m)) ≤ _
      omega
  have := this k (Nat.le_refl k)
  omega
theorem pr_ph {k : Nat} : ∀ (d i : Nat) (v : Nat → Nat) (t : Nat) (b : Bool), i + d = k → ph_ k (pr_ d i v t b).1 k + 2 * (pr_ d i v t b).2.1 = ph_ k v k + 2 * t ∧ t ≤ (pr_ d i v t b).2.1 ∧ ((pr_ d i v t b).2.2 = true → b = true ∨ t < (pr_ d i v t b).2.1) := by
  intro d
  induction d with
  | zero => intro i v t b h; exact ⟨rfl, Nat.le_refl t, fun h => Or.inl h⟩
  | succ d ih =>
    intro i v t b h
    obtain ⟨h1, h2, h3⟩ := ih (i + 1) (ps_ i v) (t + v i / 2) (b || decide (0 < v i / 2)) (by omega)
    have := ph_ps (k := k) (i := i) (v := v) (by omega)
    show ph_ k (pr_ d (i + 1) (ps_ i v) (t + v i / 2) (b || decide (0 < v i / 2))).1 k + 2 * (pr_ d (i + 1) (ps_ i v) (t + v i / 2) (b || decide (0 < v i / 2))).2.1 = _ ∧ t ≤ (pr_ d (i + 1) (ps_ i v) (t + v i / 2) (b || decide (0 < v i / 2))).2.1 ∧ ((pr_ d (i + 1) (ps_ i v) (t + v i / 2) (b || decide (0 < v i / 2))).2.2 = true → b = true ∨ t < (pr_ d (i + 1) (ps_ i v) (t + v i / 2) (b || decide (0 < v i / 2))).2.1)
    refine ⟨by omega, by omega, fun hb => ?_⟩
    rcases h3 hb with h | h
    · rw [Bool.or_eq_true, decide_eq_true_eq] at h
      rcases h with h | h
      · exact Or.inl h
      · right; omega
    · right; omega
theorem nI_m1 {i : Nat} (h : 1 ≤ i) : nI i - 1 = nI (i - 1) := n_sub h
section PU
variable {F : Nat} {σ : nd_Mem} {k : Nat}
theorem e_giveI {i : Nat} {x : Int32} {g : Nat → Int32} (hi : i < k) (hk : k ≤ 10) : f_X7_give F (nI i) x (nI k) (nd_row σ 58 g) = some (0, nd_row σ 58 (upd g i (g i + x))) := by
  unfold f_X7_give nd_let
  rw [if_neg (nI_pos (by omega)), if_neg (nI_ge hi (by omega)), if_neg (nI_in (by omega) (by omega)), if_neg (nI_in (by omega) (by omega)), nI_clamp (by omega), w_eq, up_row]
theorem e_giveO {i : Nat} {x : Int32} (hi : k ≤ i) (hk : i ≤ 20) : f_X7_give F (nI i) x (nI k) σ = some (0, σ) := by
  unfold f_X7_give
  rw [if_neg (nI_pos (by omega)), if_pos (nI_le hi (by omega))]
theorem e_giveN {x y : Int32} : f_X7_give F (-1) x y σ = some (0, σ) := by
  unfold f_X7_give
  rw [if_pos (by decide)]
theorem b_I (b : Bool) (c : Prop) [Decidable c] : (if (b || decide c) = true then (1 : Int32) else 0) = if b = true then 1 else (if c then 1 else 0) := by
  by_cases h : c <;> cases b <;> simp [h]
theorem puC_in {rec48 : Int32 → Int32 → Int32 → Int32 → nd_Mem → nd_Res} {r : Int32} (hk : k ≤ 10) : ∀ (d i f : Nat) (v : Nat → Nat) (t : Nat) (b : Bool) (g : Nat → Int32), i + d = k → d < f → ph_ k v k ≤ 66000 → (∀ j : Nat, j < k → g j = nI (v j)) → ∃ g' : Nat → Int32, f_X7_pushAll_64 F rec48 f (nI k) (nI t) (if b = true then 1 else 0) r (nI i) (nd_row σ 58 g) = rec48 (nI k) (nI (pr_ d i v t b).2.1) (if (pr_ d i v t b).2.2 = true then 1 else 0) (r + 1) (nd_row σ 58 g') ∧ ∀ j : Nat, j < k → g' j = nI ((pr_ d i v t b).1 j) := by
  intro d
  induction d with
  | zero =>
    intro i f v t b g hi hf hp hg
    obtain ⟨f, rfl⟩ : ∃ g, f = g + 1 := ⟨f - 1, by omega⟩
    refine ⟨g, ?_, hg⟩
    unfold f_X7_pushAll_64 f_X7_pushAll_64_b
    rw [if_pos (nI_le (by omega) (by omega))]
    rfl
  | succ d ih =>
    intro i f v t b g hi hf hp hg
    obtain ⟨f, rfl⟩ : ∃ g, f = g + 1 := ⟨f - 1, by omega⟩
    have hik : i < k := by omega
    have hvi := ph_le k (Nat.le_refl k) i hik (v := v)
    have hps := ph_ps (v := v) hik
    have hgi := hg i hik
    have e2 : nI (v i) / 2 = nI (v i / 2) := n_div (b := 2) (by omega) (by omega)
    -- the three gifts
    have gifts : ∀ s0 : Int32, s0 = (if (b || decide (0 < v i / 2)) = true then 1 else 0) → ∃ g' : Nat → Int32, f_X7_pushAll_95 F rec48 (f_X7_pushAll_64 F rec48 f) (nI k) (nI t) r (nI i) (nI (v i / 2)) s0 (nd_row σ 58 g) = f_X7_pushAll_64 F rec48 f (nI k) (nI (t + v i / 2)) s0 r (nI (i + 1)) (nd_row σ 58 g') ∧ ∀ j : Nat, j < k → g' j = nI (ps_ i v j) := by
      intro s0 hs
      have ea : g i + (-2) * nI (v i / 2) = nI (v i % 2) := by
        have : nI (v i) = nI (v i % 2) + 2 * nI (v i / 2) := by
          show _ = nI (v i % 2) + nI 2 * nI (v i / 2)
          rw [n_mul, n_add]
          congr 1
          omega
        rw [hgi, this]
        grind
      unfold f_X7_pushAll_95
      rw [e_giveI hik hk, n_bind, ea]
      by_cases h0 : i = 0
      · subst h0
        rw [show nI 0 - 1 = -1 from rfl, e_giveN, n_bind, nI_1, n_add]
        by_cases h1 : 1 < k
        · rw [e_giveI (i := 0 + 1) h1 hk, n_bind]
          refine ⟨_, rfl, fun j hj => ?_⟩
          unfold ps_
          by_cases j1 : j = 0 + 1
          · rw [j1, upd_eq, if_neg (by omega), if_pos (by omega), upd_ne (by omega), hg (0 + 1) h1, n_add]
          · rw [upd_ne j1]
            by_cases j0 : j = 0
            · rw [j0, upd_eq, if_pos rfl]
            · rw [upd_ne j0, if_neg j0, if_neg (by omega), hg j hj]
        · rw [e_giveO (i := 0 + 1) (by omega) (by omega), n_bind]
          refine ⟨_, rfl, fun j hj => ?_⟩
          have : j = 0 := by omega
          unfold ps_
          rw [this, upd_eq, if_pos rfl]
      · rw [nI_m1 (show 1 ≤ i by omega), e_giveI (i := i - 1) (by omega) hk, n_bind, nI_1, n_add]
        by_cases h1 : i + 1 < k
        · rw [e_giveI (i := i + 1) h1 hk, n_bind]
          refine ⟨_, rfl, fun j hj => ?_⟩
          unfold ps_
          by_cases j1 : j = i + 1
          · rw [j1, upd_eq, if_neg (by omega), if_pos (by omega), upd_ne (by omega), upd_ne (by omega), hg (i + 1) h1, n_add]
          · rw [upd_ne j1]
            by_cases j2 : j = i - 1
            · rw [j2, upd_eq, upd_ne (by omega), if_neg (by omega), if_pos (by omega), hg (i - 1) (by omega), n_add]
            · rw [upd_ne j2]
              by_cases j0 : j = i
              · rw [j0, upd_eq, if_pos rfl]
              · rw [upd_ne j0, if_neg j0, if_neg (by omega), hg j hj]
        · rw [e_giveO (i := i + 1) (by omega) (by omega), n_bind]
          refine ⟨_, rfl, fun j hj => ?_⟩
          unfold ps_
          by_cases j2 : j = i - 1
          · rw [j2, upd_eq, upd_ne (by omega), if_neg (by omega), if_pos (by omega), hg (i - 1) (by omega), n_add]
          · rw [upd_ne j2]
            by_cases j0 : j = i
            · rw [j0, upd_eq, if_pos rfl]
            · rw [upd_ne j0, if_neg j0, if_neg (by omega), hg j hj]
    obtain ⟨g1, a1, a2⟩ := gifts _ rfl
    obtain ⟨g2, b1, b2⟩ := ih (i + 1) f (ps_ i v) (t + v i / 2) (b || decide (0 < v i / 2)) g1 (by omega) (by omega) (by omega) a2
    refine ⟨g2, ?_, b2⟩
    have main : f_X7_pushAll_64 F rec48 (f + 1) (nI k) (nI t) (if b = true then 1 else 0) r (nI i) (nd_row σ 58 g) = f_X7_pushAll_95 F rec48 (f_X7_pushAll_64 F rec48 f) (nI k) (nI t) r (nI i) (nI (v i / 2)) (if (b || decide (0 < v i / 2)) = true then 1 else 0) (nd_row σ 58 g) := by
      conv => lhs; unfold f_X7_pushAll_64 f_X7_pushAll_64_b f_X7_pushAll_90
      rw [if_neg (nI_ge hik (by omega)), if_neg (nI_in (by omega) (by omega)), nI_clamp (by omega), w_eq, hgi, e2]
      cases b with
      | true => simp
      | false =>
        by_cases hz : 0 < v i / 2
        · rw [if_neg (show ¬ nI (v i / 2) ≤ 0 from nI_nle hz (by omega))]
          simp [hz]
        · have : v i / 2 = 0 := by omega
          rw [this]
          simp only [Bool.false_eq_true, if_false, Bool.false_or, Nat.lt_irrefl, decide_false, if_true, show nI 0 ≤ 0 from by decide]
    rw [main, a1, b1]
    rfl
theorem puC_out (hk : k ≤ 10) (hF : 300000 ≤ F) : ∀ (N f : Nat) (v : Nat → Nat) (t r : Nat) (g : Nat → Int32), ph_ k v k ≤ N → N ≤ 66000 → r + N ≤ 900000 → N + 2 < f → (∀ j : Nat, j < k → g j = nI (v j)) → ∃ g' : Nat → Int32, f_X7_pushAll_48 F f (nI k) (nI t) 1 (nI r) (nd_row σ 58 g) = some (nI (pu_ k (N + 1) v t).2, nd_row σ 58 g') ∧ ∀ j : Nat, j < k → g' j = nI ((pu_ k (N + 1) v t).1 j) := by
  intro N
  induction N with
  | zero =>
    intro f v t r g hp hN hr hf hg
    obtain ⟨f, rfl⟩ : ∃ g, f = g + 2 := ⟨f - 2, by omega⟩
    obtain ⟨h1, h2, h3⟩ := pr_ph (k := k) k 0 v t false (by omega)
    obtain ⟨g1, a1, a2⟩ := puC_in (F := F) (σ := σ) (rec48 := f_X7_pushAll_48 F (f + 1)) (r := nI r) hk k 0 F v t false g (by omega) (by omega) (by omega) hg
    have hb : (pr_ k 0 v t false).2.2 = false := by
      cases hb : (pr_ k 0 v t false).2.2 with
      | false => rfl
      | true =>
        rcases h3 hb with h | h
        · exact absurd h (by decide)
        · omega
    have eu : pu_ k (0 + 1) v t = ((pr_ k 0 v t false).1, (pr_ k 0 v t false).2.1) := by
      unfold pu_
      rw [hb]
      simp
    have st : f_X7_pushAll_48 F (f + 2) (nI k) (nI t) 1 (nI r) (nd_row σ 58 g) = f_X7_pushAll_64 F (f_X7_pushAll_48 F (f + 1)) F (nI k) (nI t) (if false = true then 1 else 0) (nI r) (nI 0) (nd_row σ 58 g) := by
      conv => lhs; unfold f_X7_pushAll_48 f_X7_pushAll_48_b
      rw [if_neg (show ¬ (1000000 : Int32) ≤ nI r from (nI_ge (by omega) (by omega) : ¬ nI 1000000 ≤ nI r)), if_neg (by decide)]
      rfl
    rw [eu, st, a1, hb]
    refine ⟨g1, ?_, a2⟩
    unfold f_X7_pushAll_48 f_X7_pushAll_48_b f_X7_pushAll_147
    simp
  | succ N ih =>
    intro f v t r g hp hN hr hf hg
    obtain ⟨f, rfl⟩ : ∃ g, f = g + 2 := ⟨f - 2, by omega⟩
    obtain ⟨h1, h2, h3⟩ := pr_ph (k := k) k 0 v t false (by omega)
    obtain ⟨g1, a1, a2⟩ := puC_in (F := F) (σ := σ) (rec48 := f_X7_pushAll_48 F (f + 1)) (r := nI r) hk k 0 F v t false g (by omega) (by omega) (by omega) hg
    have st : f_X7_pushAll_48 F (f + 2) (nI k) (nI t) 1 (nI r) (nd_row σ 58 g) = f_X7_pushAll_64 F (f_X7_pushAll_48 F (f + 1)) F (nI k) (nI t) (if false = true then 1 else 0) (nI r) (nI 0) (nd_row σ 58 g) := by
      conv => lhs; unfold f_X7_pushAll_48 f_X7_pushAll_48_b
      rw [if_neg (show ¬ (1000000 : Int32) ≤ nI r from (nI_ge (by omega) (by omega) : ¬ nI 1000000 ≤ nI r)), if_neg (by decide)]
      rfl
    rw [st, a1]
    cases hb : (pr_ k 0 v t false).2.2 with
    | false =>
      have eu : pu_ k (N + 1 + 1) v t = ((pr_ k 0 v t false).1, (pr_ k 0 v t false).2.1) := by
        unfold pu_
        rw [hb]
        simp
      rw [eu]
      refine ⟨g1, ?_, a2⟩
      unfold f_X7_pushAll_48 f_X7_pushAll_48_b f_X7_pushAll_147
      simp
    | true =>
      have eu : pu_ k (N + 1 + 1) v t = pu_ k (N + 1) (pr_ k 0 v t false).1 (pr_ k 0 v t false).2.1 := by
        conv => lhs; unfold pu_
        rw [hb]
        simp
      rw [eu, if_pos rfl, nI_1]
      have : t < (pr_ k 0 v t false).2.1 := by
        rcases h3 hb with h | h
        · exact absurd h (by decide)
        · exact h
      exact ih (f + 1) _ _ (r + 1) g1 (by omega) (by omega) (by omega) (by omega) a2
end PU
section PV
variable {F : Nat} {σ : nd_Mem} {k : Nat}
theorem puM_in {rec32 : Int32 → Int32 → nd_Mem → nd_Res} (h1 : σ 60 50 = nI k) (hk : k ≤ 10) : ∀ (d i f : Nat) (v : Nat → Nat) (t : Nat) (b : Bool) (g : Nat → Int32), i + d = k → d < f → ph_ k v k ≤ 66000 → (∀ j : Nat, j < k → g j = nI (v j)) → ∃ g' : Nat → Int32, f_X11_pushesAll_40 F rec32 f (nI t) (if b = true then 1 else 0) (nI i) (nd_row σ 90 g) = rec32 (nI (pr_ d i v t b).2.1) (if (pr_ d i v t b).2.2 = true then 1 else 0) (nd_row σ 90 g') ∧ ∀ j : Nat, j < k → g' j = nI ((pr_ d i v t b).1 j) := by
  intro d
  induction d with
  | zero =>
    intro i f v t b g hi hf hp hg
    obtain ⟨f, rfl⟩ : ∃ g, f = g + 1 := ⟨f - 1, by omega⟩
    refine ⟨g, ?_, hg⟩
    unfold f_X11_pushesAll_40 f_X11_pushesAll_40_b
    rw [w_ne (by decide), h1, if_pos (nI_le (by omega) (by omega))]
    rfl
  | succ d ih =>
    intro i f v t b g hi hf hp hg
    obtain ⟨f, rfl⟩ : ∃ g, f = g + 1 := ⟨f - 1, by omega⟩
    have hik : i < k := by omega
    have hvi := ph_le k (Nat.le_refl k) i hik (v := v)
    have hps := ph_ps (v := v) hik
    have hgi := hg i hik
    have step : ∃ g' : Nat → Int32, f_X11_pushesAll_40 F rec32 (f + 1) (nI t) (if b = true then 1 else 0) (nI i) (nd_row σ 90 g) = f_X11_pushesAll_40 F rec32 f (nI (t + v i / 2)) (if (b || decide (0 < v i / 2)) = true then 1 else 0) (nI (i + 1)) (nd_row σ 90 g') ∧ ∀ j : Nat, j < k → g' j = nI (ps_ i v j) := by
      conv => arg 1; intro g'; lhs; lhs; unfold f_X11_pushesAll_40 f_X11_pushesAll_40_b
      by_cases h2 : 2 ≤ v i
      · have hd : decide (0 < v i / 2) = true := decide_eq_true (by omega)
        rw [hd, Bool.or_true, if_pos rfl]
        have e1 : ∀ (s : Int32) (τ : nd_Mem), τ 60 50 = nI k → f_X11_pushesAll_108 F rec32 (f_X11_pushesAll_40 F rec32 f) (nI t) (nI i) (nI (v i / 2)) τ = (if i + 1 < k then f_X11_pushesAll_40 F rec32 f (nI (t + v i / 2)) 1 (nI (i + 1)) (nd_up τ 90 (i + 1) (τ 90 (i + 1) + nI (v i / 2))) else f_X11_pushesAll_40 F rec32 f (nI (t + v i / 2)) 1 (nI (i + 1)) τ) := by
          intro s τ hτ
          unfold f_X11_pushesAll_108 f_X11_pushesAll_137 f_X11_pushesAll_144 nd_let
          by_cases hl : i + 1 < k
          · simp (disch := omega) only [n_lit, n_add, n_mul, n_sub, n_lt, n_le, n_eq, n_cl, n_nle, n_yle, n_nlt, n_ylt, n_neq, n_m1, n_m1l, n_m1g, n_bind, u_eq, u_ne1, u_ne2, w_eq, w_ne, eq_self, nd_let, ite_true, ite_false, if_true, if_false, false_or, or_false, true_and, and_true, not_true, not_false, true_or, or_true, Nat.not_lt_zero, Nat.zero_le, hτ, hl]
          · simp (disch := omega) only [n_lit, n_add, n_mul, n_sub, n_lt, n_le, n_eq, n_cl, n_nle, n_yle, n_nlt, n_ylt, n_neq, n_m1, n_m1l, n_m1g, n_bind, u_eq, u_ne1, u_ne2, w_eq, w_ne, eq_self, nd_let, ite_true, ite_false, if_true, if_false, false_or, or_false, true_and, and_true, not_true, not_false, true_or, or_true, Nat.not_lt_zero, Nat.zero_le, hτ, hl]
        have ed : nI (v i) / nI 2 = nI (v i / 2) := n_div (by omega) (by omega)
        have er : q_rem (nI (v i)) (nI 2) = nI (v i % 2) := n_rem (by omega) (by omega)
        by_cases h0 : i = 0
        · subst h0
          simp (disch := omega) only [n_lit, n_add, n_mul, n_sub, n_lt, n_le, n_eq, n_cl, n_nle, n_yle, n_nlt, n_ylt, n_neq, n_m1, n_m1l, n_m1g, n_bind, u_eq, u_ne1, u_ne2, w_eq, w_ne, eq_self, nd_let, ite_true, ite_false, if_true, if_false, false_or, or_false, true_and, and_true, not_true, not_false, true_or, or_true, Nat.not_lt_zero, Nat.zero_le, h1, hgi, ed, er]
          rw [e1 0 _ (by simp (disch := omega) only [n_lit, n_add, n_mul, n_sub, n_lt, n_le, n_eq, n_cl, n_nle, n_yle, n_nlt, n_ylt, n_neq, n_m1, n_m1l, n_m1g, n_bind, u_eq, u_ne1, u_ne2, w_eq, w_ne, eq_self, nd_let, ite_true, ite_false, if_true, if_false, false_or, or_false, true_and, and_true, not_true, not_false, true_or, or_true, Nat.not_lt_zero, Nat.zero_le, h1]), up_row]
          by_cases hl : 0 + 1 < k
          · rw [if_pos hl, up_row, w_eq]
            refine ⟨_, rfl, fun j hj => ?_⟩
            unfold ps_
            by_cases j1 : j = 0 + 1
            · rw [j1, upd_eq, if_neg (by omega), if_pos (by omega), upd_ne (by omega), hg (0 + 1) hl, n_add]
            · rw [upd_ne j1]
              by_cases j0 : j = 0
              · rw [j0, upd_eq, if_pos rfl]
              · rw [upd_ne j0, if_neg j0, if_neg (by omega), hg j hj]
          · rw [if_neg hl]
            refine ⟨_, rfl, fun j hj => ?_⟩
            have : j = 0 := by omega
            unfold ps_
            rw [this, upd_eq, if_pos rfl]
        · simp (disch := omega) only [n_lit, n_add, n_mul, n_sub, n_lt, n_le, n_eq, n_cl, n_nle, n_yle, n_nlt, n_ylt, n_neq, n_m1, n_m1l, n_m1g, n_bind, u_eq, u_ne1, u_ne2, w_eq, w_ne, eq_self, nd_let, ite_true, ite_false, if_true, if_false, false_or, or_false, true_and, and_true, not_true, not_false, true_or, or_true, Nat.not_lt_zero, Nat.zero_le, h1, hgi, ed, er]
          rw [e1 0 _ (by simp (disch := omega) only [n_lit, n_add, n_mul, n_sub, n_lt, n_le, n_eq, n_cl, n_nle, n_yle, n_nlt, n_ylt, n_neq, n_m1, n_m1l, n_m1g, n_bind, u_eq, u_ne1, u_ne2, w_eq, w_ne, eq_self, nd_let, ite_true, ite_false, if_true, if_false, false_or, or_false, true_and, and_true, not_true, not_false, true_or, or_true, Nat.not_lt_zero, Nat.zero_le, h1]), up_row, up_row]
          by_cases hl : i + 1 < k
          · rw [if_pos hl, up_row, w_eq]
            refine ⟨_, rfl, fun j hj => ?_⟩
            unfold ps_
            by_cases j1 : j = i + 1
            · rw [j1, upd_eq, if_neg (by omega), if_pos (by omega), upd_ne (by omega), upd_ne (by omega), hg (i + 1) hl, n_add]
            · rw [upd_ne j1]
              by_cases j2 : j = i - 1
              · rw [j2, upd_eq, if_neg (by omega), if_pos (by omega), hg (i - 1) (by omega), n_add]
              · rw [upd_ne j2]
                by_cases j0 : j = i
                · rw [j0, upd_eq, if_pos rfl]
                · rw [upd_ne j0, if_neg j0, if_neg (by omega), hg j hj]
          · rw [if_neg hl]
            refine ⟨_, rfl, fun j hj => ?_⟩
            unfold ps_
            by_cases j2 : j = i - 1
            · rw [j2, upd_eq, if_neg (by omega), if_pos (by omega), hg (i - 1) (by omega), n_add]
            · rw [upd_ne j2]
              by_cases j0 : j = i
              · rw [j0, upd_eq, if_pos rfl]
              · rw [upd_ne j0, if_neg j0, if_neg (by omega), hg j hj]
      · have hz : v i / 2 = 0 := by omega
        have hd : decide (0 < v i / 2) = false := decide_eq_false (by omega)
        rw [hd, Bool.or_false, hz, Nat.add_zero]
        refine ⟨g, ?_, fun j hj => ?_⟩
        · unfold f_X11_pushesAll_144
          simp (disch := omega) only [n_lit, n_add, n_mul, n_sub, n_lt, n_le, n_eq, n_cl, n_nle, n_yle, n_nlt, n_ylt, n_neq, n_m1, n_m1l, n_m1g, n_bind, u_eq, u_ne1, u_ne2, w_eq, w_ne, eq_self, nd_let, ite_true, ite_false, if_true, if_false, false_or, or_false, true_and, and_true, not_true, not_false, true_or, or_true, Nat.not_lt_zero, Nat.zero_le, h1, hgi]
        · unfold ps_
          by_cases hj0 : j = i
          · rw [if_pos hj0, hj0, hgi]
            congr 1
            omega
          · simp only [if_neg hj0, hz, Nat.add_zero, ite_self, hg j hj]
    obtain ⟨g1, a1, a2⟩ := step
    obtain ⟨g2, b1, b2⟩ := ih (i + 1) f (ps_ i v) (t + v i / 2) (b || decide (0 < v i / 2)) g1 (by omega) (by omega) (by omega) a2
    refine ⟨g2, ?_, b2⟩
    rw [a1, b1]
    rfl
theorem puM_out (h1 : σ 60 50 = nI k) (hk : k ≤ 10) (hF : 300000 ≤ F) : ∀ (N f : Nat) (v : Nat → Nat) (t : Nat) (g : Nat → Int32), ph_ k v k ≤ N → N ≤ 66000 → N + 2 < f → (∀ j : Nat, j < k → g j = nI (v j)) → ∃ g' : Nat → Int32, f_X11_pushesAll_32 F f (nI t) 1 (nd_row σ 90 g) = some (nI (pu_ k (N + 1) v t).2, nd_row σ 90 g') ∧ ∀ j : Nat, j < k → g' j = nI ((pu_ k (N + 1) v t).1 j) := by
  intro N
  induction N with
  | zero =>
    intro f v t g hp hN hf hg
    obtain ⟨f, rfl⟩ : ∃ g, f = g + 2 := ⟨f - 2, by omega⟩
    obtain ⟨h11, h2, h3⟩ := pr_ph (k := k) k 0 v t false (by omega)
    obtain ⟨g1, a1, a2⟩ := puM_in (F := F) (σ := σ) (rec32 := f_X11_pushesAll_32 F (f + 1)) h1 hk k 0 F v t false g (by omega) (by omega) (by omega) hg
    have st : f_X11_pushesAll_32 F (f + 2) (nI t) 1 (nd_row σ 90 g) = f_X11_pushesAll_40 F (f_X11_pushesAll_32 F (f + 1)) F (nI t) (if false = true then 1 else 0) (nI 0) (nd_row σ 90 g) := by
      conv => lhs; unfold f_X11_pushesAll_32 f_X11_pushesAll_32_b
      rw [if_neg (by decide)]
      rfl
    have hb : (pr_ k 0 v t false).2.2 = false := by
      cases hb : (pr_ k 0 v t false).2.2 with
      | false => rfl
      | true =>
        rcases h3 hb with h | h
        · exact absurd h (by decide)
        · omega
    have eu : pu_ k (0 + 1) v t = ((pr_ k 0 v t false).1, (pr_ k 0 v t false).2.1) := by
      unfold pu_
      rw [hb]
      simp
    rw [st, a1, eu, hb]
    refine ⟨g1, ?_, a2⟩
    unfold f_X11_pushesAll_32 f_X11_pushesAll_32_b
    simp
  | succ N ih =>
    intro f v t g hp hN hf hg
    obtain ⟨f, rfl⟩ : ∃ g, f = g + 2 := ⟨f - 2, by omega⟩
    obtain ⟨h11, h2, h3⟩ := pr_ph (k := k) k 0 v t false (by omega)
    obtain ⟨g1, a1, a2⟩ := puM_in (F := F) (σ := σ) (rec32 := f_X11_pushesAll_32 F (f + 1)) h1 hk k 0 F v t false g (by omega) (by omega) (by omega) hg
    have st : f_X11_pushesAll_32 F (f + 2) (nI t) 1 (nd_row σ 90 g) = f_X11_pushesAll_40 F (f_X11_pushesAll_32 F (f + 1)) F (nI t) (if false = true then 1 else 0) (nI 0) (nd_row σ 90 g) := by
      conv => lhs; unfold f_X11_pushesAll_32 f_X11_pushesAll_32_b
      rw [if_neg (by decide)]
      rfl
    rw [st, a1]
    cases hb : (pr_ k 0 v t false).2.2 with
    | false =>
      have eu : pu_ k (N + 1 + 1) v t = ((pr_ k 0 v t false).1, (pr_ k 0 v t false).2.1) := by
        unfold pu_
        rw [hb]
        simp
      rw [eu]
      refine ⟨g1, ?_, a2⟩
      unfold f_X11_pushesAll_32 f_X11_pushesAll_32_b
      simp
    | true =>
      have eu : pu_ k (N + 1 + 1) v t = pu_ k (N + 1) (pr_ k 0 v t false).1 (pr_ k 0 v t false).2.1 := by
        conv => lhs; unfold pu_
        rw [hb]
        simp
      rw [eu, if_pos rfl]
      have : t < (pr_ k 0 v t false).2.1 := by
        rcases h3 hb with h | h
        · exact absurd h (by decide)
        · exact h
      exact ih (f + 1) _ _ g1 (by omega) (by omega) (by omega) a2
theorem puC_13 (h1 : σ 17 1 = nI k) (hk : k ≤ 10) (hF : 300000 ≤ F) {v : Nat → Nat} (hv : ∀ j : Nat, j < k → v j ≤ 60) (hh : ∀ j : Nat, j < k → σ 18 j = nI (v j)) : ∀ (d i f : Nat) (g : Nat → Int32), i + d = k → d < f → (∀ j : Nat, j < i → g j = nI (v j)) → ∃ g' : Nat → Int32, f_X7_pushAll_13 F f (nI k) (nI i) (nd_row σ 58 g) = some (nI (pu_ k 66001 v 0).2, nd_row σ 58 g') ∧ ∀ j : Nat, j < k → g' j = nI ((pu_ k 66001 v 0).1 j) := by
  intro d
  induction d with
  | zero =>
    intro i f g hi hf hg
    obtain ⟨f, rfl⟩ : ∃ g, f = g + 1 := ⟨f - 1, by omega⟩
    unfold f_X7_pushAll_13 f_X7_pushAll_13_b
    rw [if_pos (nI_le (by omega) (by omega))]
    exact puC_out hk hF 66000 F v 0 0 g (ph_top hk hv) (by omega) (by omega) (by omega) (fun j hj => hg j (by omega))
  | succ d ih =>
    intro i f g hi hf hg
    obtain ⟨f, rfl⟩ : ∃ g, f = g + 1 := ⟨f - 1, by omega⟩
    have e1 : nd_row σ 58 g 17 1 = nI k := by rw [w_ne (by decide)]; exact h1
    unfold f_X7_pushAll_13 f_X7_pushAll_13_b nd_let
    rw [if_neg (nI_ge (by omega) (by omega)), e_at e1 (by omega) hk (by omega), n_bind, if_neg (nI_in (by omega) (by omega)), nI_clamp (by omega), up_row, w_ne (by decide), hh i (by omega), nI_1]
    refine ih (i + 1) f _ (by omega) (by omega) (fun j hj => ?_)
    by_cases hji : j = i
    · rw [hji, upd_eq]
    · rw [upd_ne hji]; exact hg j (by omega)
theorem puM_2 (h1 : σ 60 50 = nI k) (hk : k ≤ 10) (hF : 300000 ≤ F) {v : Nat → Nat} (hv : ∀ j : Nat, j < k → v j ≤ 60) (hh : ∀ j : Nat, j < k → σ 89 j = nI (v j)) : ∀ (d i f : Nat) (g : Nat → Int32), i + d = k → d < f → (∀ j : Nat, j < i → g j = nI (v j)) → ∃ g' : Nat → Int32, f_X11_pushesAll_2 F f (nI i) (nd_row σ 90 g) = some (nI (pu_ k 66001 v 0).2, nd_row σ 90 g') ∧ ∀ j : Nat, j < k → g' j = nI ((pu_ k 66001 v 0).1 j) := by
  intro d
  induction d with
  | zero =>
    intro i f g hi hf hg
    obtain ⟨f, rfl⟩ : ∃ g, f = g + 1 := ⟨f - 1, by omega⟩
    unfold f_X11_pushesAll_2 f_X11_pushesAll_2_b
    rw [w_ne (by decide), h1, if_pos (nI_le (by omega) (by omega))]
    exact puM_out h1 hk hF 66000 F v 0 g (ph_top hk hv) (by omega) (by omega) (fun j hj => hg j (by omega))
  | succ d ih =>
    intro i f g hi hf hg
    obtain ⟨f, rfl⟩ : ∃ g, f = g + 1 := ⟨f - 1, by omega⟩
    have e1 : nd_row σ 90 g 60 50 = nI k := by rw [w_ne (by decide)]; exact h1
    unfold f_X11_pushesAll_2 f_X11_pushesAll_2_b nd_let
    simp (disch := omega) only [n_lit, n_add, n_mul, n_sub, n_lt, n_le, n_eq, n_cl, n_nle, n_yle, n_nlt, n_ylt, n_neq, n_m1, n_m1l, n_m1g, n_bind, u_eq, u_ne1, u_ne2, w_eq, w_ne, eq_self, nd_let, ite_true, ite_false, if_true, if_false, false_or, or_false, true_and, and_true, not_true, not_false, true_or, or_true, Nat.not_lt_zero, Nat.zero_le, h1, up_row, hh i (by omega)]
    refine ih (i + 1) f _ (by omega) (by omega) (fun j hj => ?_)
    by_cases hji : j = i
    · rw [hji, upd_eq]
    · rw [upd_ne hji]; exact hg j (by omega)
end PV
theorem op_pushed {F : Nat} (hF : 300000 ≤ F) (x1 : Int32) : op_ (f_X10_pushed F x1) (f_X11_pushed F x1) := op_sc (fun σ n hI => by
  obtain ⟨⟨hn, hq1, hq2, hq3, hq4, hq5, hq6, hq7, hq8, hla, hpl, hfd, hsd⟩, hpa, htp, hpi, hfx⟩ := hI
  obtain ⟨k, v, hk, z1, z2, a1, a2, hb⟩ := row_fun hq3
  have hf0 : fr_ sc_S sc_K σ (nd_up σ 60 0 0) := (by repeat first | exact fr_rf | (refine fr_up57 ?_ (by decide)) | (refine fr_up ?_ (by decide) (by decide)) | (refine fr_row ?_ (by decide) (by decide)))
  unfold f_X10_pushed f_X10_pushed_18 f_X11_pushed nd_let
  simp only [e_isIn, n_bind]
  have z3 : nd_up σ 60 0 0 60 50 = nI k := z2
  by_cases c0 : x1 < 0 ∨ nI k < x1
  · refine ⟨-1, σ, _, ?_, ?_, hf0⟩
    · rw [z1]
      by_cases h : x1 < 0
      · rw [if_pos h]
      · rw [if_neg h, if_neg (by grind)]
    · rw [z3, if_pos c0, if_pos rfl]
  · obtain ⟨w, hw, rfl⟩ := rngL k (by omega) c0 (by decide)
    obtain ⟨g1, e1, e2⟩ := puC_13 (F := F) (σ := σ) z1 hk hF (fun j hj => (hb j hj).2) a1 k 0 F (σ 58) (by omega) (by omega) (fun m hm => absurd hm (Nat.not_lt_zero m))
    rw [row_id] at e1
    obtain ⟨g2, e3, e4⟩ := puM_2 (F := F) (σ := nd_up (nd_row σ 58 g1) 60 0 0) z2 hk hF (fun j hj => (hb j hj).2) a2 k 0 F (nd_up (nd_row σ 58 g1) 60 0 0 90) (by omega) (by omega) (fun m hm => absurd hm (Nat.not_lt_zero m))
    rw [row_id] at e3
    have hf1 : fr_ sc_S sc_K σ (nd_row (nd_up (nd_row σ 58 g1) 60 0 0) 90 g2) := (by repeat first | exact fr_rf | (refine fr_up57 ?_ (by decide)) | (refine fr_up ?_ (by decide) (by decide)) | (refine fr_row ?_ (by decide) (by decide)))
    have z4 : nd_up (nd_row σ 58 g1) 60 0 0 60 50 = nI k := z2
    have eC : f_X7_pushAll F σ = some (nI (pu_ k 66001 v 0).2, nd_row σ 58 g1) := by
      unfold f_X7_pushAll
      rw [z1]
      exact e1
    have eM : f_X11_pushesAll F (nd_up (nd_row σ 58 g1) 60 0 0) = some (nI (pu_ k 66001 v 0).2, nd_row (nd_up (nd_row σ 58 g1) 60 0 0) 90 g2) := e3
    by_cases w0 : w = 0
    · subst w0
      refine ⟨nI (pu_ k 66001 v 0).2, nd_row σ 58 g1, _, ?_, ?_, hf1⟩
      · rw [if_neg (by decide), z1, if_pos (nI_le (by omega) (by omega)), eC, n_bind, if_pos nI_0]
      · rw [z4, if_neg c0, if_neg n10, eM, n_bind, if_pos nI_0]
    · have hwk : w - 1 < k := by omega
      have es : nI w - 1 = nI (w - 1) := nI_m1 (by omega)
      refine ⟨nI ((pu_ k 66001 v 0).1 (w - 1)), nd_row σ 58 g1, _, ?_, ?_, hf1⟩
      · have z5 : nd_row σ 58 g1 17 1 = nI k := z1
        rw [if_neg (nI_pos (by omega)), z1, if_pos (nI_le hw (by omega)), eC, n_bind, if_neg (nI_ne0 (by omega) (by omega)), es]
        unfold f_X7_leftWith
        simp (disch := omega) only [n_lit, n_add, n_mul, n_sub, n_lt, n_le, n_eq, n_cl, n_nle, n_yle, n_nlt, n_ylt, n_neq, n_m1, n_m1l, n_m1g, n_bind, u_eq, u_ne1, u_ne2, w_eq, w_ne, eq_self, nd_let, ite_true, ite_false, if_true, if_false, false_or, or_false, true_and, and_true, not_true, not_false, true_or, or_true, Nat.not_lt_zero, Nat.zero_le, z1, e2 _ hwk]
      · rw [z4, if_neg c0, if_neg n10, eM, n_bind, if_neg (nI_ne0 (by omega) (by omega)), es, if_neg (nI_in (by omega) (by omega)), nI_clamp (by omega), w_eq, e4 _ hwk])
