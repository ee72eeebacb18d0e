/-! feuds: the longest row -/
/-- a row of houses of the first h, the last one first: each stands above the next one, none twice -/
def vp2_ (fm : Nat → Nat) (h : Nat) : List Nat → Prop
  | [] => False
  | [x] => x < h
  | x :: y :: l => x < h ∧ x ∉ y :: l ∧ ab_ fm y x = true ∧ vp2_ fm h (y :: l)
def mk_ : List Nat → Nat
  | [] => 0
  | x :: l => mk_ l ||| 2 ^ x
theorem mk_tb : ∀ (l : List Nat) (i : Nat), (mk_ l).testBit i = true ↔ i ∈ l := by
  intro l
  induction l with
  | nil => intro i; show (0 : Nat).testBit i = true ↔ _; simp
  | cons x l ih =>
    intro i
    show (mk_ l ||| 2 ^ x).testBit i = true ↔ _
    rw [Nat.testBit_or, Bool.or_eq_true, ih, Nat.testBit_two_pow, decide_eq_true_eq, List.mem_cons]
    constructor
    · rintro (e | e)
      · exact Or.inr e
      · exact Or.inl e.symm
    · rintro (e | e)
      · exact Or.inr e.symm
      · exact Or.inl e
theorem vp2_lt {fm : Nat → Nat} {h : Nat} : ∀ (l : List Nat), vp2_ fm h l → ∀ x ∈ l, x < h := by
  intro l
  induction l with
  | nil => intro h0; exact absurd h0 id
  | cons x l ih =>
    intro hv z hz
    cases l with
    | nil =>
      have : z = x := by simpa using hz
      rw [this]
      exact hv
    | cons y l =>
      rcases List.mem_cons.mp hz with e | e
      · rw [e]; exact hv.1
      · exact ih hv.2.2.2 z e
theorem mk_lt {h : Nat} : ∀ (l : List Nat), (∀ x ∈ l, x < h) → mk_ l < 2 ^ h := by
  intro l
  induction l with
  | nil => intro _; exact Nat.two_pow_pos _
  | cons x l ih =>
    intro hl
    exact Nat.or_lt_two_pow (ih (fun z hz => hl z (List.mem_cons_of_mem x hz))) (Nat.pow_lt_pow_right (by decide) (hl x List.mem_cons_self))
theorem bs_or {m x : Nat} (hm : m.testBit x = false) : ∀ k : Nat, bs_ (m ||| 2 ^ x) k = bs_ m k + (if x < k then 1 else 0) := by
  intro k
  induction k with
  | zero => rfl
  | succ k ih =>
    show bs_ (m ||| 2 ^ x) k + (if (m ||| 2 ^ x).testBit k = true then 1 else 0) = bs_ m k + (if m.testBit k = true then 1 else 0) + _
    rw [ih, Nat.testBit_or, Nat.testBit_two_pow]
    by_cases hxk : x = k
    · subst hxk
      rw [hm, decide_eq_true rfl, if_neg (Nat.lt_irrefl x), if_pos (show x < x + 1 by omega)]
      rfl
    · rw [decide_eq_false hxk, Bool.or_false]
      by_cases h1 : x < k
      · rw [if_pos h1, if_pos (show x < k + 1 by omega)]; omega
      · rw [if_neg h1, if_neg (show ¬ x < k + 1 by omega)]; omega
theorem pc_mk {fm : Nat → Nat} {h k : Nat} (hk : h ≤ k) : ∀ (l : List Nat), vp2_ fm h l → pc_ k (mk_ l) = l.length := by
  intro l
  rw [pc_bs]
  induction l with
  | nil => intro h0; exact absurd h0 id
  | cons x l ih =>
    intro hv
    cases l with
    | nil =>
      show bs_ (0 ||| 2 ^ x) k = 1
      have hx : x < h := hv
      have z : ∀ k : Nat, bs_ 0 k = 0 := by
        intro k
        induction k with
        | zero => rfl
        | succ k ih =>
          show bs_ 0 k + (if (0 : Nat).testBit k = true then 1 else 0) = 0
          rw [ih, Nat.zero_testBit]
          rfl
      rw [bs_or (by simp) k, z, if_pos (by omega)]
    | cons y l =>
      show bs_ (mk_ (y :: l) ||| 2 ^ x) k = _
      have hnx : (mk_ (y :: l)).testBit x = false := by
        cases hc : (mk_ (y :: l)).testBit x
        · rfl
        · exact absurd ((mk_tb _ _).mp hc) hv.2.1
      have := hv.1
      rw [bs_or hnx k, ih hv.2.2.2, if_pos (by omega)]
      rfl
/-- r is the greatest length of such a row -/
def mg_ (fm : Nat → Nat) (h r : Nat) : Prop := (∀ l : List Nat, vp2_ fm h l → l.length ≤ r) ∧ (r = 0 ∨ ∃ l : List Nat, vp2_ fm h l ∧ l.length = r)
theorem mg_eq {fm : Nat → Nat} {h r s : Nat} (h1 : mg_ fm h r) (h2 : mg_ fm h s) : r = s := by
  obtain ⟨a1, a2⟩ := h1
  obtain ⟨b1, b2⟩ := h2
  have h3 : r ≤ s := by
    rcases a2 with e | ⟨l, l1, l2⟩
    · omega
    · have := b1 l l1; omega
  have h4 : s ≤ r := by
    rcases b2 with e | ⟨l, l1, l2⟩
    · omega
    · have := a1 l l1; omega
  omega
/-- the same, of the rows that go on from l -/
def mf_ (fm : Nat → Nat) (h : Nat) (l : List Nat) (r : Nat) : Prop := (∀ l' : List Nat, vp2_ fm h (l' ++ l) → (l' ++ l).length ≤ r) ∧ ∃ l' : List Nat, vp2_ fm h (l' ++ l) ∧ (l' ++ l).length = r
section LG
variable {F n : Nat} {σ : nd_Mem} {fm : Nat → Nat}
theorem n_not {m x : Nat} (hm : m < 65536) (hx : x < 65536) : nI m &&& (nI x ^^^ (-1 : Int32)) = nI (bn_ (fun i => m.testBit i && !x.testBit i) 16) := by
  have h1 : (-1 : Int32) = nI 4294967295 := by decide
  rw [h1, n_xor, n_and]
  congr 1
  apply Nat.eq_of_testBit_eq
  intro i
  rw [Nat.testBit_and, Nat.testBit_xor, bn_tb, show (4294967295 : Nat) = 2 ^ 32 - 1 from rfl, Nat.testBit_two_pow_sub_one]
  by_cases hi : i < 16
  · rw [decide_eq_true hi, decide_eq_true (show i < 32 by omega), Bool.true_and]
    cases x.testBit i <;> rfl
  · rw [decide_eq_false hi, Bool.false_and]
    have : m.testBit i = false := Nat.testBit_lt_two_pow (Nat.lt_of_lt_of_le hm (show 2 ^ 16 ≤ 2 ^ i from Nat.pow_le_pow_right (by decide) (by omega)))
    rw [this, Bool.false_and]
/-- the class: how far a row can go on -/
theorem e_from (hF : 300000 ≤ F) (hn : n ≤ 16) (hc : ∀ h : Nat, h < 16 → σ 10 h = nI (fm h)) (hf : ∀ h : Nat, h < 16 → fm h < 65536) (hg : ∀ h b : Nat, h < 16 → n ≤ b → (fm h).testBit b = false) : ∀ (D : Nat) (l : List Nat) (x : Nat), vp2_ fm (min 12 n) (x :: l) → 13 ≤ D + (x :: l).length → ∃ r : Nat, f_X5_longestFrom F 3 (D + 1) (nI x) (nI (mk_ (x :: l))) (nI (x :: l).length) σ = some (nI r, σ) ∧ r ≤ 12 ∧ mf_ fm (min 12 n) (x :: l) r := by
  intro D
  induction D with
  | zero =>
    intro l x hv hD
    have hp := pc_mk (k := 12) (by omega) (x :: l) hv
    have := pc_le 12 (mk_ (x :: l))
    omega
  | succ D ih =>
    intro l x hv hD
    have hp := pc_mk (k := 12) (by omega) (x :: l) hv
    have hle := pc_le 12 (mk_ (x :: l))
    have hxh := vp2_lt _ hv x List.mem_cons_self
    have hml : mk_ (x :: l) < 2 ^ (min 12 n) := mk_lt _ (vp2_lt _ hv)
    have hm12 : 2 ^ (min 12 n) ≤ 2 ^ 12 := Nat.pow_le_pow_right (by decide) (by omega)
    generalize hL : (x :: l).length = L at *
    show ∃ r : Nat, f_X5_longestFrom_r F (f_X5_longestFrom F 3 (D + 1)) 3 _ _ _ σ = _ ∧ _
    unfold f_X5_longestFrom_r
    by_cases h12 : L < 12
    · rw [if_pos (show nI L < (12 : Int32) from nI_lt (b := 12) h12 (by decide)), e_below hF (by omega) hc hf, n_bind, n_not (bn_lt _ 16) (by omega)]
      -- the loop over the next house
      have loop : ∀ (d i f r : Nat), i + d = 12 → d < f → r ≤ 12 → L ≤ r → (∃ l' : List Nat, vp2_ fm (min 12 n) (l' ++ x :: l) ∧ (l' ++ x :: l).length = r) → (∀ (l' : List Nat) (y : Nat), y < i → vp2_ fm (min 12 n) (l' ++ y :: x :: l) → (l' ++ y :: x :: l).length ≤ r) → ∃ r' : Nat, f_X5_longestFrom_26 F (f_X5_longestFrom F 3 (D + 1)) 3 f (nI (mk_ (x :: l))) (nI L) (nI r) (nI (bn_ (fun i => (bn_ (ab_ fm x) 16).testBit i && !(mk_ (x :: l)).testBit i) 16)) (nI i) σ = some (nI r', σ) ∧ r' ≤ 12 ∧ L ≤ r' ∧ (∃ l' : List Nat, vp2_ fm (min 12 n) (l' ++ x :: l) ∧ (l' ++ x :: l).length = r') ∧ ∀ (l' : List Nat) (y : Nat), y < 12 → vp2_ fm (min 12 n) (l' ++ y :: x :: l) → (l' ++ y :: x :: l).length ≤ r' := by
        intro d
        induction d with
        | zero =>
          intro i f r hi hf' hr hLr hex hup
          obtain ⟨f, rfl⟩ : ∃ g, f = g + 1 := ⟨f - 1, by omega⟩
          refine ⟨r, ?_, hr, hLr, hex, fun l' y hy => hup l' y (by omega)⟩
          show f_X5_longestFrom_26_b F _ _ 3 _ _ _ _ _ σ = _
          unfold f_X5_longestFrom_26_b
          rw [if_pos (show (12 : Int32) ≤ nI i from nI_le (a := 12) (by omega) (by omega))]
        | succ d ihd =>
          intro i f r hi hf' hr hLr hex hup
          obtain ⟨f, rfl⟩ : ∃ g, f = g + 1 := ⟨f - 1, by omega⟩
          have b1 := n_bit (k := i) (a := bn_ (fun i => (bn_ (ab_ fm x) 16).testBit i && !(mk_ (x :: l)).testBit i) 16) (by omega) (by have := bn_lt (fun i => (bn_ (ab_ fm x) 16).testBit i && !(mk_ (x :: l)).testBit i) 16; omega)
          have tb : (bn_ (fun i => (bn_ (ab_ fm x) 16).testBit i && !(mk_ (x :: l)).testBit i) 16).testBit i = (ab_ fm x i && !(mk_ (x :: l)).testBit i) := by
            rw [bn_tb, bn_tb, decide_eq_true (show i < 16 by omega), Bool.true_and, Bool.true_and]
          have h1i : (1 : Int32) <<< (nI i &&& 31) = nI (2 ^ i) := n_one (by omega)
          show ∃ r' : Nat, f_X5_longestFrom_26_b F _ _ 3 _ _ _ _ _ σ = _ ∧ _
          unfold f_X5_longestFrom_26_b f_X5_longestFrom_66
          rw [if_neg (show ¬ (12 : Int32) ≤ nI i from nI_ge (b := 12) (by omega) (by decide)), nI_1 i]
          -- whether i can be next
          by_cases hcan : ab_ fm x i = true ∧ i ∉ x :: l
          · have hin : i < min 12 n := by
              have : i < n := by
                apply Classical.byContradiction
                intro hin
                have e := hcan.1
                unfold ab_ at e
                rw [hg x i (by omega) (by omega), Bool.false_and] at e
                exact absurd e (by decide)
              omega
            have hbit : ((nI (bn_ (fun i => (bn_ (ab_ fm x) 16).testBit i && !(mk_ (x :: l)).testBit i) 16) >>> (nI i &&& 31)) &&& (1 : Int32)) = 1 := b1.mpr (by
              rw [tb, hcan.1, Bool.true_and]
              cases hq : (mk_ (x :: l)).testBit i
              · rfl
              · exact absurd ((mk_tb _ _).mp hq) hcan.2)
            have hv2 : vp2_ fm (min 12 n) (i :: x :: l) := ⟨hin, hcan.2, hcan.1, hv⟩
            obtain ⟨r2, e1, e2, e3, e4⟩ := ih (x :: l) i hv2 (by
              show 13 ≤ D + ((x :: l).length + 1)
              omega)
            rw [show mk_ (i :: x :: l) = mk_ (x :: l) ||| 2 ^ i from rfl, show (i :: x :: l).length = L + 1 by rw [← hL]; rfl] at e1
            rw [if_pos hbit, h1i, n_or, nI_1 L, e1, n_bind]
            have hmx : (if nI r < nI r2 then nI r2 else nI r) = nI (if r < r2 then r2 else r) := by
              by_cases hlt : r < r2
              · rw [if_pos (nI_lt hlt (by omega)), if_pos hlt]
              · rw [if_neg (nI_nlt (by omega) (by omega)), if_neg hlt]
            rw [hmx]
            have hmr : r ≤ (if r < r2 then r2 else r) ∧ r2 ≤ (if r < r2 then r2 else r) ∧ (if r < r2 then r2 else r) ≤ 12 := by
              by_cases hlt : r < r2
              · rw [if_pos hlt]; omega
              · rw [if_neg hlt]; omega
            refine ihd (i + 1) f _ (by omega) (by omega) hmr.2.2 (by omega) ?_ (fun l' y hy hvy => ?_)
            · by_cases hlt : r < r2
              · rw [if_pos hlt]
                obtain ⟨l', q1, q2⟩ := e4
                refine ⟨l' ++ [i], ?_, ?_⟩
                · rw [List.append_assoc]; exact q1
                · rw [List.append_assoc]; exact q2
              · rw [if_neg hlt]; exact hex
            · by_cases hyi : y = i
              · subst hyi
                have := e3 l' hvy
                omega
              · have := hup l' y (by omega) hvy
                omega
          · have hbit : ¬ ((nI (bn_ (fun i => (bn_ (ab_ fm x) 16).testBit i && !(mk_ (x :: l)).testBit i) 16) >>> (nI i &&& 31)) &&& (1 : Int32)) = 1 := fun e => by
              have h1 := b1.mp e
              rw [tb, Bool.and_eq_true] at h1
              refine hcan ⟨h1.1, fun hin => ?_⟩
              have h2 := (mk_tb (x :: l) i).mpr hin
              rw [h2] at h1
              exact absurd h1.2 (by decide)
            rw [if_neg hbit]
            refine ihd (i + 1) f r (by omega) (by omega) hr hLr hex (fun l' y hy hvy => ?_)
            by_cases hyi : y = i
            · subst hyi
              exfalso
              have suf : ∀ l' : List Nat, vp2_ fm (min 12 n) (l' ++ y :: x :: l) → vp2_ fm (min 12 n) (y :: x :: l) := by
                intro l'
                induction l' with
                | nil => intro h; exact h
                | cons z l' ih2 =>
                  intro h
                  cases l' with
                  | nil => exact h.2.2.2
                  | cons w l' => exact ih2 h.2.2.2
              have := suf l' hvy
              exact hcan ⟨this.2.2.1, this.2.1⟩
            · exact hup l' y (by omega) hvy
      obtain ⟨r, e1, e2, e3, e4, e5⟩ := loop 12 0 F L (by omega) (by omega) (by omega) (Nat.le_refl L) ⟨[], hv, hL⟩ (fun _ y hy => by omega)
      refine ⟨r, e1, e2, fun l' hvl => ?_, e4⟩
      rcases List.eq_nil_or_concat l' with e | ⟨l0, y, e⟩
      · subst e
        show (x :: l).length ≤ r
        omega
      · subst e
        rw [List.concat_eq_append, List.append_assoc] at hvl ⊢
        exact e5 l0 y (by have := vp2_lt _ hvl y (by simp); omega) hvl
    · rw [if_neg (show ¬ nI L < (12 : Int32) from nI_nlt (b := 12) (by omega) (by omega))]
      refine ⟨L, rfl, by omega, fun l' hvl => ?_, ⟨[], hv, hL⟩⟩
      have := pc_mk (k := 12) (by omega) _ hvl
      have h2 := pc_le 12 (mk_ (l' ++ x :: l))
      omega
theorem e_row (hF : 300000 ≤ F) (hn : n ≤ 16) (hc : ∀ h : Nat, h < 16 → σ 10 h = nI (fm h)) (hf : ∀ h : Nat, h < 16 → fm h < 65536) (hg : ∀ h b : Nat, h < 16 → n ≤ b → (fm h).testBit b = false) : ∀ (d i f r : Nat), i + d = min 12 n → d < f → r ≤ 12 → (r = 0 ∨ ∃ l : List Nat, vp2_ fm (min 12 n) l ∧ l.length = r) → (∀ (l : List Nat) (y : Nat), y < i → vp2_ fm (min 12 n) (l ++ [y]) → (l ++ [y]).length ≤ r) → ∃ r' : Nat, f_X5_longestRow_12 F 3 f (nI (min 12 n)) (nI r) (nI i) σ = some (nI r', σ) ∧ mg_ fm (min 12 n) r' := by
  intro d
  induction d with
  | zero =>
    intro i f r hi hf' hr hex hup
    obtain ⟨f, rfl⟩ : ∃ g, f = g + 1 := ⟨f - 1, by omega⟩
    refine ⟨r, ?_, fun l hv => ?_, hex⟩
    · show f_X5_longestRow_12_b F _ 3 _ _ _ σ = _
      unfold f_X5_longestRow_12_b
      rw [if_pos (nI_le (by omega) (by omega))]
    · rcases List.eq_nil_or_concat l with e | ⟨l0, y, e⟩
      · subst e; exact absurd hv id
      · subst e
        rw [List.concat_eq_append] at hv ⊢
        exact hup l0 y (by have := vp2_lt _ hv y (by simp); omega) hv
  | succ d ih =>
    intro i f r hi hf' hr hex hup
    obtain ⟨f, rfl⟩ : ∃ g, f = g + 1 := ⟨f - 1, by omega⟩
    have h1i : (1 : Int32) <<< (nI i &&& 31) = nI (2 ^ i) := n_one (by omega)
    obtain ⟨r2, e1, e2, e3, l', e4, e5⟩ := e_from (F := F) (σ := σ) hF hn hc hf hg 13 [] i (show i < min 12 n by omega) (by simp)
    rw [show mk_ [i] = 2 ^ i from Nat.zero_or _, show [i].length = 1 from rfl] at e1
    have hmx : (if nI r < nI r2 then nI r2 else nI r) = nI (if r < r2 then r2 else r) := by
      by_cases hlt : r < r2
      · rw [if_pos (nI_lt hlt (by omega)), if_pos hlt]
      · rw [if_neg (nI_nlt (by omega) (by omega)), if_neg hlt]
    have hmr : r ≤ (if r < r2 then r2 else r) ∧ r2 ≤ (if r < r2 then r2 else r) ∧ (if r < r2 then r2 else r) ≤ 12 := by
      by_cases hlt : r < r2
      · rw [if_pos hlt]; omega
      · rw [if_neg hlt]; omega
    have step : f_X5_longestRow_12 F 3 (f + 1) (nI (min 12 n)) (nI r) (nI i) σ = f_X5_longestRow_12 F 3 f (nI (min 12 n)) (nI (if r < r2 then r2 else r)) (nI (i + 1)) σ := by
      show f_X5_longestRow_12_b F _ 3 _ _ _ σ = _
      unfold f_X5_longestRow_12_b
      rw [if_neg (nI_ge (by omega) (by omega)), h1i]
      show nd_bind (f_X5_longestFrom F 3 (13 + 1) (nI i) (nI (2 ^ i)) (nI 1) σ) _ = _
      rw [e1, n_bind, hmx, nI_1]
    rw [step]
    refine ih (i + 1) f _ (by omega) (by omega) hmr.2.2 ?_ (fun l y hy hv => ?_)
    · by_cases hlt : r < r2
      · rw [if_pos hlt]
        exact Or.inr ⟨l' ++ [i], e4, e5⟩
      · rw [if_neg hlt]; exact hex
    · by_cases hyi : y = i
      · subst hyi
        have := e3 l hv
        omega
      · have := hup l y (by omega) hv
        omega
end LG
