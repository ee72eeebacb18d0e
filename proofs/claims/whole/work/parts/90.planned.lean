/-! planned -/
def dd_ (r c : Nat → Bool) : Nat → Nat
  | 0 => 0
  | j + 1 => dd_ r c j + if r j = c j then 0 else 1
/-- the greedy way -/
def gr_ (c : Nat → Bool) : Nat → Nat × Bool
  | 0 => (0, false)
  | j + 1 => if c j = false then (if (gr_ c j).2 = false then ((gr_ c j).1, true) else ((gr_ c j).1 + 1, false)) else ((gr_ c j).1, false)
theorem gr_lb {r c : Nat → Bool} {k : Nat} (hv : ∀ j : Nat, j + 1 < k → ¬ (r j = false ∧ r (j + 1) = false)) : ∀ j : Nat, j ≤ k → (gr_ c j).1 ≤ dd_ r c j ∧ ((gr_ c j).2 = true → 0 < j ∧ (r (j - 1) = true → (gr_ c j).1 + 1 ≤ dd_ r c j)) := by
  intro j
  induction j with
  | zero => intro _; exact ⟨Nat.le_refl 0, fun e => absurd (show false = true from e) (by decide)⟩
  | succ j ih =>
    intro hj
    obtain ⟨h1, h2⟩ := ih (by omega)
    show (if c j = false then (if (gr_ c j).2 = false then ((gr_ c j).1, true) else ((gr_ c j).1 + 1, false)) else ((gr_ c j).1, false)).1 ≤ dd_ r c j + (if r j = c j then 0 else 1) ∧ ((if c j = false then (if (gr_ c j).2 = false then ((gr_ c j).1, true) else ((gr_ c j).1 + 1, false)) else ((gr_ c j).1, false)).2 = true → 0 < j + 1 ∧ (r (j + 1 - 1) = true → (if c j = false then (if (gr_ c j).2 = false then ((gr_ c j).1, true) else ((gr_ c j).1 + 1, false)) else ((gr_ c j).1, false)).1 + 1 ≤ dd_ r c j + (if r j = c j then 0 else 1)))
    rw [Nat.add_sub_cancel]
    by_cases hc : c j = false
    · rw [if_pos hc]
      by_cases hg : (gr_ c j).2 = false
      · rw [if_pos hg]
        refine ⟨by dsimp only; omega, fun _ => ⟨by omega, fun hr => ?_⟩⟩
        rw [hc, hr, if_neg (by decide)]
        dsimp only
        omega
      · rw [if_neg hg]
        have hg' : (gr_ c j).2 = true := by simpa using hg
        obtain ⟨h3, h4⟩ := h2 hg'
        refine ⟨?_, fun e => absurd (show false = true from e) (by decide)⟩
        dsimp only
        by_cases hp : r (j - 1) = true
        · have := h4 hp
          omega
        · have hp' : r (j - 1) = false := by simpa using hp
          have hrj : r j = true := by
            have := hv (j - 1) (by omega)
            rw [show j - 1 + 1 = j by omega] at this
            cases hrj : r j
            · exact absurd ⟨hp', hrj⟩ this
            · rfl
          rw [hc, hrj, if_neg (by decide)]
          omega
    · rw [if_neg hc]
      exact ⟨by dsimp only; omega, fun e => absurd (show false = true from e) (by decide)⟩
theorem gr_ub (c : Nat → Bool) : ∀ j : Nat, dd_ (fun i => !(gr_ c (i + 1)).2) c j = (gr_ c j).1 := by
  intro j
  induction j with
  | zero => rfl
  | succ j ih =>
    show dd_ _ c j + (if (!(gr_ c (j + 1)).2) = c j then 0 else 1) = (gr_ c (j + 1)).1
    rw [ih]
    show (gr_ c j).1 + (if (!(if c j = false then (if (gr_ c j).2 = false then ((gr_ c j).1, true) else ((gr_ c j).1 + 1, false)) else ((gr_ c j).1, false)).2) = c j then 0 else 1) = (if c j = false then (if (gr_ c j).2 = false then ((gr_ c j).1, true) else ((gr_ c j).1 + 1, false)) else ((gr_ c j).1, false)).1
    by_cases hc : c j = false
    · rw [if_pos hc]
      by_cases hg : (gr_ c j).2 = false
      · rw [if_pos hg, hc]; rfl
      · rw [if_neg hg, hc]; rfl
    · have hc' : c j = true := by simpa using hc
      rw [if_neg hc, hc']; rfl
theorem gr_vl (c : Nat → Bool) (j : Nat) : ¬ ((!(gr_ c (j + 1)).2) = false ∧ (!(gr_ c (j + 1 + 1)).2) = false) := by
  rintro ⟨h1, h2⟩
  have h1' : (gr_ c (j + 1)).2 = true := by simpa using h1
  have h2' : (gr_ c (j + 1 + 1)).2 = true := by simpa using h2
  have : (gr_ c (j + 1 + 1)) = (if c (j + 1) = false then (if (gr_ c (j + 1)).2 = false then ((gr_ c (j + 1)).1, true) else ((gr_ c (j + 1)).1 + 1, false)) else ((gr_ c (j + 1)).1, false)) := rfl
  rw [this, h1'] at h2'
  by_cases hc : c (j + 1) = false
  · rw [if_pos hc, if_neg (by decide)] at h2'; exact absurd (show false = true from h2') (by decide)
  · rw [if_neg hc] at h2'; exact absurd (show false = true from h2') (by decide)
theorem dd_cg {r r' c : Nat → Bool} : ∀ j : Nat, (∀ i : Nat, i < j → r i = r' i) → dd_ r c j = dd_ r' c j := by
  intro j
  induction j with
  | zero => intro _; rfl
  | succ j ih =>
    intro h
    show dd_ r c j + _ = dd_ r' c j + _
    rw [ih (fun i hi => h i (by omega)), h j (by omega)]
theorem dd_not {r c : Nat → Bool} : ∀ j : Nat, dd_ (fun i => !r i) c j + dd_ r c j = j := by
  intro j
  induction j with
  | zero => rfl
  | succ j ih =>
    show dd_ _ c j + (if (!r j) = c j then 0 else 1) + (dd_ r c j + if r j = c j then 0 else 1) = j + 1
    cases hr : r j <;> cases hc : c j <;> simp <;> omega
theorem bs_dd {x : Nat} {r c : Nat → Bool} : ∀ k : Nat, (∀ i : Nat, i < k → x.testBit i = (r i != c i)) → bs_ x k = dd_ r c k := by
  intro k
  induction k with
  | zero => intro _; rfl
  | succ k ih =>
    intro h
    show bs_ x k + _ = dd_ r c k + _
    rw [ih (fun i hi => h i (by omega)), h k (by omega)]
    cases r k <;> cases c k <;> rfl
/-- whether a row is a plan -/
def vp_ (w : Nat) (r : Nat → Bool) (k : Nat) : Prop := ∀ j : Nat, j + 1 < k → if w = 0 then ¬ (r j = false ∧ r (j + 1) = false) else r j ≠ r (j + 1)
section PLN
variable {F : Nat} {σ : nd_Mem} {n : Nat}
theorem and3 {x j : Nat} : (x >>> j) &&& 3 = (if x.testBit j = true then 1 else 0) + 2 * (if x.testBit (j + 1) = true then 1 else 0) := by
  rw [show (3 : Nat) = 2 ^ 2 - 1 from rfl, Nat.and_two_pow_sub_one_eq_mod, Nat.shiftRight_eq_div_pow, Nat.testBit_eq_decide_div_mod_eq, Nat.testBit_eq_decide_div_mod_eq, show 2 ^ (j + 1) = 2 ^ j * 2 from Nat.pow_succ 2 j, ← Nat.div_div_eq_div_mul]
  generalize x / 2 ^ j = y
  by_cases h1 : y % 2 = 1
  · by_cases h2 : y / 2 % 2 = 1
    · simp only [h1, h2, decide_true, if_true]; omega
    · simp only [h1, h2, decide_true, if_true, decide_false]; simp; omega
  · by_cases h2 : y / 2 % 2 = 1
    · simp only [h1, h2, decide_true, if_true, decide_false]; simp; omega
    · simp only [h1, h2, decide_false]; simp; omega
theorem e_plan (h40 : σ 60 40 = nI n) (hn : n ≤ 12) {w x : Nat} (hw : w < 2) (hx : x < 4096) : ∀ (d k f : Nat), 1 ≤ k → k + d = max n 1 → d < f → (∀ j : Nat, j + 1 < k → if w = 0 then ¬ (x.testBit j = false ∧ x.testBit (j + 1) = false) else x.testBit j ≠ x.testBit (j + 1)) → (f_X11_isPlan_2 F f (nI x) (nI w) (nI k) σ = some (1, σ) ∧ vp_ w x.testBit n) ∨ (f_X11_isPlan_2 F f (nI x) (nI w) (nI k) σ = some (0, σ) ∧ ¬ vp_ w x.testBit n) := by
  intro d
  induction d with
  | zero =>
    intro k f h1 hk hf hv
    obtain ⟨f, rfl⟩ : ∃ g, f = g + 1 := ⟨f - 1, by omega⟩
    left
    refine ⟨?_, fun j hj => hv j (by omega)⟩
    show f_X11_isPlan_2_b F _ _ _ _ σ = _
    unfold f_X11_isPlan_2_b
    rw [h40, if_pos (nI_le (by omega) (by omega))]
  | succ d ih =>
    intro k f h1 hk hf hv
    obtain ⟨f, rfl⟩ : ∃ g, f = g + 1 := ⟨f - 1, by omega⟩
    have hkn : k < n := by omega
    have e1 : nI k - (1 : Int32) = nI (k - 1) := n_sub (b := 1) (by omega)
    have e2 : (nI x >>> (nI (k - 1) &&& 31)) &&& (3 : Int32) = nI ((if x.testBit (k - 1) = true then 1 else 0) + 2 * (if x.testBit k = true then 1 else 0)) := by
      rw [show (31 : Int32) = nI 31 from rfl, n_31 (by omega), n_shr (by omega) (by omega), show (3 : Int32) = nI 3 from rfl, n_and, and3, show k - 1 + 1 = k by omega]
    have step : f_X11_isPlan_2 F (f + 1) (nI x) (nI w) (nI k) σ = (if nI w = 0 then (if ((nI x >>> (nI (k - 1) &&& 31)) &&& (3 : Int32)) = 0 then some (0, σ) else f_X11_isPlan_2 F f (nI x) (nI w) (nI (k + 1)) σ) else (if ((nI x >>> (nI (k - 1) &&& 31)) &&& (3 : Int32)) = 0 then some (0, σ) else (if ((nI x >>> (nI (k - 1) &&& 31)) &&& (3 : Int32)) = (3 : Int32) then some (0, σ) else f_X11_isPlan_2 F f (nI x) (nI w) (nI (k + 1)) σ))) := by
      show f_X11_isPlan_2_b F _ _ _ _ σ = _
      unfold f_X11_isPlan_2_b f_X11_isPlan_42 f_X11_isPlan_44
      rw [h40, if_neg (nI_ge hkn (by omega)), e1, nI_1]
    rw [step, e2]
    have ek : k - 1 + 1 = k := by omega
    have next : (if w = 0 then ¬ (x.testBit (k - 1) = false ∧ x.testBit k = false) else x.testBit (k - 1) ≠ x.testBit k) → (f_X11_isPlan_2 F f (nI x) (nI w) (nI (k + 1)) σ = some (1, σ) ∧ vp_ w x.testBit n) ∨ (f_X11_isPlan_2 F f (nI x) (nI w) (nI (k + 1)) σ = some (0, σ) ∧ ¬ vp_ w x.testBit n) := by
      intro hc
      refine ih (k + 1) f (by omega) (by omega) (by omega) (fun j hj => ?_)
      by_cases hjk : j = k - 1
      · subst hjk
        rw [ek]
        exact hc
      · exact hv j (by omega)
    have bad : ¬ (if w = 0 then ¬ (x.testBit (k - 1) = false ∧ x.testBit k = false) else x.testBit (k - 1) ≠ x.testBit k) → ¬ vp_ w x.testBit n := by
      intro hc hvp
      have := hvp (k - 1) (by omega)
      rw [ek] at this
      exact hc this
    have hw2 : w = 0 ∨ w = 1 := by omega
    cases hb1 : x.testBit (k - 1) <;> cases hb2 : x.testBit k <;> rw [hb1, hb2] at next bad <;> rcases hw2 with rfl | rfl
    · right; exact ⟨by rw [if_pos nI_0, if_pos (by decide)], bad (by decide)⟩
    · right; exact ⟨by rw [if_neg (by decide), if_pos (by decide)], bad (by decide)⟩
    · rw [if_pos nI_0, if_neg (by decide)]; exact next (by decide)
    · rw [if_neg (by decide), if_neg (by decide), if_neg (by decide)]; exact next (by decide)
    · rw [if_pos nI_0, if_neg (by decide)]; exact next (by decide)
    · rw [if_neg (by decide), if_neg (by decide), if_neg (by decide)]; exact next (by decide)
    · rw [if_pos nI_0, if_neg (by decide)]; exact next (by decide)
    · right; exact ⟨by rw [if_neg (by decide), if_neg (by decide), if_pos (by decide)], bad (by decide)⟩
theorem e_least (hF : 300000 ≤ F) (h40 : σ 60 40 = nI n) (hn : n ≤ 12) {w N : Nat} (hw : w < 2) (hN : N < 2 ^ n) : ∀ (d i f v : Nat), i + d = 2 ^ n → d < f → v < 2147483648 → ∃ v' : Nat, f_X11_planned_53 F f (nI w) (nI N) (nI v) (nI i) σ = some (nI v', σ) ∧ v' ≤ v ∧ (∀ x : Nat, i ≤ x → x < 2 ^ n → vp_ w x.testBit n → v' ≤ pc_ n (x ^^^ N)) ∧ (v' = v ∨ ∃ x : Nat, x < 2 ^ n ∧ vp_ w x.testBit n ∧ v' = pc_ n (x ^^^ N)) := by
  have h12 : 2 ^ n ≤ 2 ^ 12 := Nat.pow_le_pow_right (by decide) hn
  have e12 : (1 : Int32) <<< (σ 60 40 &&& 31) = nI (2 ^ n) := by
    rw [h40]
    exact n_one (by omega)
  intro d
  induction d with
  | zero =>
    intro i f v hi hf hv
    obtain ⟨f, rfl⟩ : ∃ g, f = g + 1 := ⟨f - 1, by omega⟩
    refine ⟨v, ?_, Nat.le_refl v, fun x h1 h2 => by omega, Or.inl rfl⟩
    show f_X11_planned_53_b F _ _ _ _ _ σ = _
    unfold f_X11_planned_53_b
    rw [e12, if_pos (nI_le (by omega) (by omega))]
  | succ d ih =>
    intro i f v hi hf hv
    obtain ⟨f, rfl⟩ : ∃ g, f = g + 1 := ⟨f - 1, by omega⟩
    have hxl : i ^^^ N < 2 ^ n := Nat.xor_lt_two_pow (by omega) hN
    have step : f_X11_planned_53 F (f + 1) (nI w) (nI N) (nI v) (nI i) σ = (nd_bind (f_X11_isPlan F (nI i) (nI w) σ) fun r1 σ2 => (if r1 = 0 then (f_X11_planned_53 F f (nI w) (nI N) (nI v) (nI (i + 1)) σ2) else (nd_bind (f_X11_onesOf F (nI i ^^^ nI N) σ2) fun r4 σ5 => (nd_bind (f_X11_lesser F (nI v) r4 σ5) fun r7 σ8 => (f_X11_planned_53 F f (nI w) (nI N) r7 (nI (i + 1)) σ8))))) := by
      show f_X11_planned_53_b F _ _ _ _ _ σ = _
      unfold f_X11_planned_53_b f_X11_planned_88
      rw [e12, if_neg (nI_ge (by omega) (by omega)), nI_1]
    rw [step]
    have hp := e_plan (F := F) (σ := σ) h40 hn (w := w) (x := i) hw (by omega) (max n 1 - 1) 1 F (by omega) (by omega) (by omega) (fun j hj => by omega)
    rcases hp with ⟨e1, e2⟩ | ⟨e1, e2⟩
    · have hpl : f_X11_isPlan F (nI i) (nI w) σ = some (1, σ) := e1
      rw [hpl, n_bind, if_neg n10, n_xor, e_ones hF (by omega) hxl, n_bind, e_lesser, n_bind]
      have hpc := pc_le n (i ^^^ N)
      have key : ∀ u : Nat, u = (if pc_ n (i ^^^ N) ≤ v then pc_ n (i ^^^ N) else v) → (if nI (pc_ n (i ^^^ N)) ≤ nI v then nI (pc_ n (i ^^^ N)) else nI v) = nI u := by
        intro u hu
        by_cases hle : pc_ n (i ^^^ N) ≤ v
        · rw [if_pos (nI_le hle hv), hu, if_pos hle]
        · rw [if_neg (nI_ge (by omega) (by omega)), hu, if_neg hle]
      rw [key _ rfl]
      have hb : (if pc_ n (i ^^^ N) ≤ v then pc_ n (i ^^^ N) else v) ≤ v ∧ (if pc_ n (i ^^^ N) ≤ v then pc_ n (i ^^^ N) else v) ≤ pc_ n (i ^^^ N) := by
        by_cases hle : pc_ n (i ^^^ N) ≤ v
        · rw [if_pos hle]; omega
        · rw [if_neg hle]; omega
      obtain ⟨v', q1, q2, q3, q4⟩ := ih (i + 1) f _ (by omega) (by omega) (show (if pc_ n (i ^^^ N) ≤ v then pc_ n (i ^^^ N) else v) < 2147483648 by omega)
      refine ⟨v', q1, by omega, fun x h1 h2 h3 => ?_, ?_⟩
      · by_cases hxi : x = i
        · subst hxi; omega
        · exact q3 x (by omega) h2 h3
      · rcases q4 with q4 | q4
        · by_cases hle : pc_ n (i ^^^ N) ≤ v
          · rw [if_pos hle] at q4
            exact Or.inr ⟨i, by omega, e2, q4⟩
          · rw [if_neg hle] at q4
            exact Or.inl q4
        · exact Or.inr q4
    · have hpl : f_X11_isPlan F (nI i) (nI w) σ = some (0, σ) := e1
      rw [hpl, n_bind, if_pos rfl]
      obtain ⟨v', q1, q2, q3, q4⟩ := ih (i + 1) f v (by omega) (by omega) hv
      refine ⟨v', q1, q2, fun x h1 h2 h3 => ?_, q4⟩
      by_cases hxi : x = i
      · subst hxi; exact absurd h3 e2
      · exact q3 x (by omega) h2 h3
theorem e_now (h40 : σ 60 40 = nI n) (hn : n ≤ 12) {h : Nat → Nat} (hh : ∀ i : Nat, i < n → σ 81 i = nI (h i)) (hb : ∀ i : Nat, i < n → h i ≤ 1) {w : Int32} : ∀ (d i f : Nat), i + d = n → d < f → f_X11_planned_21 F f w (nI (bn_ (fun j => decide (h j = 1)) i)) (nI i) σ = f_X11_planned_53 F F w (nI (bn_ (fun j => decide (h j = 1)) n)) 100000000 0 σ := by
  intro d
  induction d with
  | zero =>
    intro i f hi hf
    obtain ⟨f, rfl⟩ : ∃ g, f = g + 1 := ⟨f - 1, by omega⟩
    have : i = n := by omega
    subst this
    show f_X11_planned_21_b F _ _ _ _ σ = _
    unfold f_X11_planned_21_b
    rw [h40, if_pos (nI_le (by omega) (by omega))]
  | succ d ih =>
    intro i f hi hf
    obtain ⟨f, rfl⟩ : ∃ g, f = g + 1 := ⟨f - 1, by omega⟩
    show f_X11_planned_21_b F _ _ _ _ σ = _
    unfold f_X11_planned_21_b
    have e1 : nI (h i) <<< (nI i &&& 31) = nI (if decide (h i = 1) = true then 2 ^ i else 0) := by
      rw [show (31 : Int32) = nI 31 from rfl, n_31 (by omega), n_shl (by omega)]
      have := hb i (by omega)
      have hz : h i = 0 ∨ h i = 1 := by omega
      rcases hz with hz | hz
      · rw [hz]; simp
      · rw [hz]; simp [Nat.one_shiftLeft]
    rw [h40, if_neg (nI_ge (by omega) (by omega)), if_neg (nI_in (by omega) (by decide)), nI_clamp (by omega), hh i (by omega), e1, n_or, nI_1]
    exact ih (i + 1) f (by omega) (by omega)
end PLN
section PLC
variable {F : Nat} {σ : nd_Mem} {n : Nat} {h : Nat → Nat}
theorem c_no (h13 : σ 13 1 = nI n) (hn : n ≤ 12) (hh : ∀ i : Nat, i < n → σ 14 i = nI (h i)) (hb : ∀ i : Nat, i < n → h i ≤ 1) : ∀ (d i f : Nat), i + d = n → d < f → f_X7_changesForNoGirlsTogether_6 F f (nI (gr_ (fun j => decide (h j = 1)) i).1) (if (gr_ (fun j => decide (h j = 1)) i).2 = true then 1 else 0) (nI i) σ = some (nI (gr_ (fun j => decide (h j = 1)) n).1, σ) := by
  intro d
  induction d with
  | zero =>
    intro i f hi hf
    obtain ⟨f, rfl⟩ : ∃ g, f = g + 1 := ⟨f - 1, by omega⟩
    have : i = n := by omega
    subst this
    show f_X7_changesForNoGirlsTogether_6_b F _ _ _ _ σ = _
    unfold f_X7_changesForNoGirlsTogether_6_b
    rw [h13, if_pos (nI_le (by omega) (by omega))]
  | succ d ih =>
    intro i f hi hf
    obtain ⟨f, rfl⟩ : ∃ g, f = g + 1 := ⟨f - 1, by omega⟩
    have ih' := ih (i + 1) f (by omega) (by omega)
    have e0 : gr_ (fun j => decide (h j = 1)) (i + 1) = (if decide (h i = 1) = false then (if (gr_ (fun j => decide (h j = 1)) i).2 = false then ((gr_ (fun j => decide (h j = 1)) i).1, true) else ((gr_ (fun j => decide (h j = 1)) i).1 + 1, false)) else ((gr_ (fun j => decide (h j = 1)) i).1, false)) := rfl
    rw [e0] at ih'
    show f_X7_changesForNoGirlsTogether_6_b F _ _ _ _ σ = _
    unfold f_X7_changesForNoGirlsTogether_6_b f_X7_changesForNoGirlsTogether_42 f_X7_changesForNoGirlsTogether_43 f_X7_changesForNoGirlsTogether_65
    have at1 : f_X4_at F 13 14 12 (nI i) σ = some (nI (h i), σ) := by rw [e_at h13 (by omega) hn (by decide), hh i (by omega)]
    rw [h13, if_neg (nI_ge (by omega) (by omega))]
    simp only [at1, n_bind, nI_1]
    generalize gr_ (fun j => decide (h j = 1)) i = G at *
    have hz : h i = 0 ∨ h i = 1 := by have := hb i (by omega); omega
    rcases hz with hz | hz
    · rw [hz] at ih' ⊢
      rw [if_pos (by decide)] at ih'
      rw [if_pos nI_0]
      cases hg : G.2
      · rw [hg, if_pos rfl] at ih'
        rw [if_pos (by decide), if_pos nI_0, if_neg n10]
        exact ih'
      · rw [hg, if_neg (by decide)] at ih'
        rw [if_pos rfl, if_neg n10, if_pos nI_0, if_pos trivial]
        exact ih'
    · rw [hz] at ih' ⊢
      rw [if_neg (by decide)] at ih'
      rw [if_neg (by decide), if_neg (by decide)]
      exact ih'
theorem c_tn (h13 : σ 13 1 = nI n) (hn : n ≤ 12) (hh : ∀ i : Nat, i < n → σ 14 i = nI (h i)) (hb : ∀ i : Nat, i < n → h i ≤ 1) : ∀ (d i f : Nat), i + d = n → d < f → f_X7_changesForTurns_4 F f (nI (dd_ (fun j => decide (j % 2 = 1)) (fun j => decide (h j = 1)) i)) (nI i) σ = some (nI (if n - dd_ (fun j => decide (j % 2 = 1)) (fun j => decide (h j = 1)) n < dd_ (fun j => decide (j % 2 = 1)) (fun j => decide (h j = 1)) n then n - dd_ (fun j => decide (j % 2 = 1)) (fun j => decide (h j = 1)) n else dd_ (fun j => decide (j % 2 = 1)) (fun j => decide (h j = 1)) n), σ) := by
  intro d
  induction d with
  | zero =>
    intro i f hi hf
    obtain ⟨f, rfl⟩ : ∃ g, f = g + 1 := ⟨f - 1, by omega⟩
    have : i = n := by omega
    subst this
    have hd := dd_not (r := fun j => decide (j % 2 = 1)) (c := fun j => decide (h j = 1)) i
    show f_X7_changesForTurns_4_b F _ _ _ σ = _
    unfold f_X7_changesForTurns_4_b
    generalize dd_ (fun j => decide (j % 2 = 1)) (fun j => decide (h j = 1)) i = D at *
    rw [h13, if_pos (nI_le (by omega) (by omega)), n_sub (by omega)]
    by_cases hlt : i - D < D
    · rw [if_pos (nI_lt hlt (by omega)), if_pos hlt]
    · rw [if_neg (nI_nlt (by omega) (by omega)), if_neg hlt]
  | succ d ih =>
    intro i f hi hf
    obtain ⟨f, rfl⟩ : ∃ g, f = g + 1 := ⟨f - 1, by omega⟩
    have ih' := ih (i + 1) f (by omega) (by omega)
    have e0 : dd_ (fun j => decide (j % 2 = 1)) (fun j => decide (h j = 1)) (i + 1) = dd_ (fun j => decide (j % 2 = 1)) (fun j => decide (h j = 1)) i + (if decide (i % 2 = 1) = decide (h i = 1) then 0 else 1) := rfl
    rw [e0] at ih'
    show f_X7_changesForTurns_4_b F _ _ _ σ = _
    unfold f_X7_changesForTurns_4_b f_X7_changesForTurns_38
    have at1 : f_X4_at F 13 14 12 (nI i) σ = some (nI (h i), σ) := by rw [e_at h13 (by omega) hn (by decide), hh i (by omega)]
    rw [h13, if_neg (nI_ge (by omega) (by omega)), at1, n_bind, nI_1, nI_1, show q_rem (nI i) 2 = nI (i % 2) from n_rem (b := 2) (by omega) (by omega)]
    have hz : h i ≤ 1 := hb i (by omega)
    by_cases he : h i = i % 2
    · rw [if_pos (by rw [he]), ← ih', if_pos (by rw [he])]
      rfl
    · have hne : ¬ nI (h i) = nI (i % 2) := fun e => he ((nI_eq (by omega) (by omega)).mp e)
      rw [if_neg hne, ← ih', if_neg (by
        intro e
        apply he
        have := decide_eq_decide.mp e
        omega)]
end PLC
theorem op_planned {F : Nat} (hF : 300000 ≤ F) (x1 : Int32) : op_ (f_X10_planned F x1) (f_X11_planned F x1) := op_sc (fun σ m hI => by
  obtain ⟨⟨hn, hq1, hq2, hq3, hq4, hq5, hq6, hq7, hq8, hla, hpl, hfd, hsd⟩, hpa, htp, hpi, hfx⟩ := id hI
  obtain ⟨n, h, k1, k2, k3, k4, k5, k6⟩ := row_fun hq1
  have hf0 : fr_ sc_S sc_K σ (nd_up σ 60 0 0) := (by repeat first | exact fr_rf | (refine fr_up57 ?_ (by decide)) | (refine fr_up ?_ (by decide) (by decide)) | (refine fr_row ?_ (by decide) (by decide)))
  have h12 : 2 ^ n ≤ 2 ^ 12 := Nat.pow_le_pow_right (by decide) k1
  have N1 := bn_lt (fun j => decide (h j = 1)) n
  have nowT : ∀ w : Int32, f_X11_planned_21 F F w 0 0 (nd_up σ 60 0 0) = f_X11_planned_53 F F w (nI (bn_ (fun j => decide (h j = 1)) n)) 100000000 0 (nd_up σ 60 0 0) := fun w => e_now (F := F) (σ := nd_up σ 60 0 0) (n := n) k3 k1 (h := h) (fun i hi => k5 i hi) (fun i hi => (k6 i hi).2) (w := w) n 0 F (by omega) (by omega)
  -- the distance to a row
  have dist : ∀ x : Nat, pc_ n (x ^^^ bn_ (fun j => decide (h j = 1)) n) = dd_ x.testBit (fun j => decide (h j = 1)) n := by
    intro x
    rw [pc_bs]
    apply bs_dd
    intro i hi
    rw [Nat.testBit_xor, bn_tb, decide_eq_true hi, Bool.true_and]
  have row : ∀ r : Nat → Bool, pc_ n (bn_ r n ^^^ bn_ (fun j => decide (h j = 1)) n) = dd_ r (fun j => decide (h j = 1)) n := by
    intro r
    rw [dist]
    apply dd_cg
    intro i hi
    rw [bn_tb, decide_eq_true hi, Bool.true_and]
  have vrow : ∀ (w : Nat) (r : Nat → Bool), vp_ w r n → vp_ w (bn_ r n).testBit n := by
    intro w r hv j hj
    have := hv j hj
    rw [bn_tb, bn_tb, decide_eq_true (show j < n by omega), decide_eq_true hj, Bool.true_and, Bool.true_and]
    exact this
  by_cases c0 : x1 = 0
  · subst c0
    obtain ⟨v, e1, e2, e3, e4⟩ := e_least (F := F) (σ := nd_up σ 60 0 0) (n := n) hF k3 k1 (w := 0) (by omega) N1 (2 ^ n) 0 F 100000000 (by omega) (by omega) (by omega)
    have hup := e3 (bn_ (fun i => !(gr_ (fun j => decide (h j = 1)) (i + 1)).2) n) (by omega) (bn_lt _ n) (vrow 0 _ (fun j hj => by rw [if_pos rfl]; exact gr_vl _ j))
    rw [row, gr_ub] at hup
    have hv : v = (gr_ (fun j => decide (h j = 1)) n).1 := by
      rcases e4 with e4 | ⟨x, x1, x2, x3⟩
      · have : (gr_ (fun j => decide (h j = 1)) n).1 ≤ n := by
          rw [← gr_ub]
          have := dd_not (r := fun i => !(gr_ (fun j => decide (h j = 1)) (i + 1)).2) (c := fun j => decide (h j = 1)) n
          omega
        omega
      · have := (gr_lb (c := fun j => decide (h j = 1)) (fun j hj => by
          have := x2 j hj
          rw [if_pos rfl] at this
          exact this) n (Nat.le_refl n)).1
        rw [dist] at x3
        omega
    refine ⟨nI v, σ, nd_up σ 60 0 0, ?_, ?_, hf0⟩
    · unfold f_X10_planned f_X7_changesForNoGirlsTogether
      rw [if_pos rfl]
      have := c_no (F := F) (σ := σ) (n := n) k2 k1 (h := h) k4 (fun i hi => (k6 i hi).2) n 0 F (by omega) (by omega)
      rw [show gr_ (fun j => decide (h j = 1)) 0 = (0, false) from rfl, if_neg (by decide)] at this
      show nd_bind (f_X7_changesForNoGirlsTogether_6 F F (nI 0) 0 (nI 0) σ) _ = _
      rw [this, n_bind, hv]
    · unfold f_X11_planned
      rw [n_let, e_isIn, n_bind, if_neg (by decide), nowT]
      exact e1
  by_cases c1 : x1 = 1
  · subst c1
    obtain ⟨v, e1, e2, e3, e4⟩ := e_least (F := F) (σ := nd_up σ 60 0 0) (n := n) hF k3 k1 (w := 1) (by omega) N1 (2 ^ n) 0 F 100000000 (by omega) (by omega) (by omega)
    have ha := e3 (bn_ (fun j => decide (j % 2 = 1)) n) (by omega) (bn_lt _ n) (vrow 1 _ (fun j hj => by
      rw [if_neg (by decide)]
      intro e
      have := decide_eq_decide.mp e
      omega))
    have hb := e3 (bn_ (fun j => !decide (j % 2 = 1)) n) (by omega) (bn_lt _ n) (vrow 1 _ (fun j hj => by
      rw [if_neg (by decide)]
      intro e
      have := decide_eq_decide.mp (Bool.not_inj e)
      omega))
    rw [row] at ha hb
    have hd := dd_not (r := fun j => decide (j % 2 = 1)) (c := fun j => decide (h j = 1)) n
    have hv : v = (if n - dd_ (fun j => decide (j % 2 = 1)) (fun j => decide (h j = 1)) n < dd_ (fun j => decide (j % 2 = 1)) (fun j => decide (h j = 1)) n then n - dd_ (fun j => decide (j % 2 = 1)) (fun j => decide (h j = 1)) n else dd_ (fun j => decide (j % 2 = 1)) (fun j => decide (h j = 1)) n) := by
      have hor : v = dd_ (fun j => decide (j % 2 = 1)) (fun j => decide (h j = 1)) n ∨ v = dd_ (fun j => !decide (j % 2 = 1)) (fun j => decide (h j = 1)) n := by
        rcases e4 with e4 | ⟨x, x1, x2, x3⟩
        · omega
        · rw [dist] at x3
          have alt : ∀ j : Nat, j < n → x.testBit j = (x.testBit 0 != decide (j % 2 = 1)) := by
            intro j
            induction j with
            | zero => intro _; simp
            | succ j ih =>
              intro hj
              have h1 := ih (by omega)
              have h2 := x2 j hj
              rw [if_neg (by decide)] at h2
              rw [h1] at h2
              have h3 : decide ((j + 1) % 2 = 1) = !decide (j % 2 = 1) := by
                by_cases hjj : j % 2 = 1
                · rw [decide_eq_true hjj, decide_eq_false (by omega)]; rfl
                · rw [decide_eq_false hjj, decide_eq_true (by omega)]; rfl
              rw [h3]
              revert h2
              cases x.testBit 0 <;> cases decide (j % 2 = 1) <;> cases x.testBit (j + 1) <;> decide
          cases hx0 : x.testBit 0
          · left
            rw [x3]
            apply dd_cg
            intro i hi
            rw [alt i hi, hx0]
            cases decide (i % 2 = 1) <;> rfl
          · right
            rw [x3]
            apply dd_cg
            intro i hi
            rw [alt i hi, hx0]
            cases decide (i % 2 = 1) <;> rfl
      generalize dd_ (fun j => decide (j % 2 = 1)) (fun j => decide (h j = 1)) n = D at *
      by_cases hlt : n - D < D
      · rw [if_pos hlt]; omega
      · rw [if_neg hlt]; omega
    refine ⟨nI v, σ, nd_up σ 60 0 0, ?_, ?_, hf0⟩
    · unfold f_X10_planned f_X7_changesForTurns
      rw [if_neg (by decide), if_pos rfl]
      have := c_tn (F := F) (σ := σ) (n := n) k2 k1 (h := h) k4 (fun i hi => (k6 i hi).2) n 0 F (by omega) (by omega)
      show nd_bind (f_X7_changesForTurns_4 F F (nI (dd_ (fun j => decide (j % 2 = 1)) (fun j => decide (h j = 1)) 0)) (nI 0) σ) _ = _
      rw [this, n_bind, hv]
    · unfold f_X11_planned
      rw [n_let, e_isIn, n_bind, if_neg (by decide), nowT]
      exact e1
  refine ⟨-1, σ, nd_up σ 60 0 0, ?_, ?_, hf0⟩
  · unfold f_X10_planned
    rw [if_neg c0, if_neg c1]
  · unfold f_X11_planned
    rw [n_let, e_isIn, n_bind, if_pos (show x1 < 0 ∨ 1 < x1 by grind), if_pos rfl])
