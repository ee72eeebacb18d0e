/-! feuds: the reference's longest row -/
def en_ (fm : Nat → Nat) (h S e : Nat) : Prop := ∃ l : List Nat, vp2_ fm h (e :: l) ∧ mk_ (e :: l) = S
def pe_ends (fm : Nat → Nat) (h : Nat) (g : Nat → Int32) (S : Nat) : Prop := ∃ m : Nat, m < 65536 ∧ g S = nI m ∧ ∀ e : Nat, m.testBit e = true ↔ en_ fm h S e
section LM
variable {F h : Nat} {τ : nd_Mem} {fm : Nat → Nat}
theorem rest_ {S i : Nat} (hS : S < 2 ^ 12) (hi : i < 12) : ∃ R : Nat, nI S &&& (((1 : Int32) <<< (nI i &&& 31)) ^^^ (-1 : Int32)) = nI R ∧ R < 4096 ∧ (∀ e : Nat, R.testBit e = true ↔ S.testBit e = true ∧ e ≠ i) ∧ (S.testBit i = true → R < S) := by
  have h1i : (1 : Int32) <<< (nI i &&& 31) = nI (2 ^ i) := n_one (by omega)
  have hp : 2 ^ i < 65536 := Nat.lt_of_lt_of_le (Nat.pow_lt_pow_right (by decide) hi) (show 2 ^ 12 ≤ 65536 by decide)
  have hS2 : S < 65536 := Nat.lt_of_lt_of_le hS (by decide)
  obtain ⟨R, hR⟩ : ∃ R : Nat, R = bn_ (fun j => S.testBit j && !(2 ^ i).testBit j) 16 := ⟨_, rfl⟩
  have key : ∀ e : Nat, R.testBit e = true ↔ S.testBit e = true ∧ e ≠ i := by
    intro e
    rw [hR, bn_tb, Bool.and_eq_true, Bool.and_eq_true, decide_eq_true_eq, Nat.testBit_two_pow]
    constructor
    · rintro ⟨_, a, b⟩
      refine ⟨a, fun e2 => ?_⟩
      rw [decide_eq_true e2.symm] at b
      exact absurd b (by decide)
    · rintro ⟨a, b⟩
      refine ⟨?_, a, ?_⟩
      · apply Classical.byContradiction
        intro h16
        have h12 : S < 2 ^ e := Nat.lt_of_lt_of_le hS (Nat.pow_le_pow_right (by decide) (by omega))
        rw [Nat.testBit_lt_two_pow h12] at a
        exact absurd a (by decide)
      · rw [decide_eq_false (Ne.symm b)]; rfl
  have e1 : nI S &&& (nI (2 ^ i) ^^^ (-1 : Int32)) = nI R := by
    rw [hR]
    exact n_not hS2 hp
  clear hR
  have hle : R ≤ S := Nat.le_of_testBit (fun e he => ((key e).mp he).1)
  refine ⟨R, by rw [h1i]; exact e1, Nat.lt_of_le_of_lt hle hS, key, fun hb => ?_⟩
  apply Nat.lt_of_le_of_ne hle
  intro e
  have h3 := key i
  rw [e] at h3
  exact (h3.mp hb).2 rfl
theorem en_iff {S i R : Nat} (hS : S < 2 ^ h) (hb : S.testBit i = true) (hR : ∀ e : Nat, R.testBit e = true ↔ S.testBit e = true ∧ e ≠ i) : en_ fm h S i ↔ (R = 0 ∨ ∃ o : Nat, en_ fm h R o ∧ ab_ fm o i = true) := by
  have hih : i < h := by
    apply Classical.byContradiction
    intro hn
    rw [Nat.testBit_lt_two_pow (Nat.lt_of_lt_of_le hS (Nat.pow_le_pow_right (by decide) (by omega)))] at hb
    exact absurd hb (by decide)
  have join : R ||| 2 ^ i = S := by
    apply Nat.eq_of_testBit_eq
    intro e
    rw [Bool.eq_iff_iff, Nat.testBit_or, Bool.or_eq_true, hR, Nat.testBit_two_pow, decide_eq_true_eq]
    constructor
    · rintro (⟨a, _⟩ | a)
      · exact a
      · rw [← a]; exact hb
    · intro a
      by_cases hei : e = i
      · exact Or.inr hei.symm
      · exact Or.inl ⟨a, hei⟩
  constructor
  · rintro ⟨l, h1, h2⟩
    have hRl : mk_ l = R := by
      apply Nat.eq_of_testBit_eq
      intro e
      rw [Bool.eq_iff_iff, mk_tb, hR, ← h2, mk_tb, List.mem_cons]
      constructor
      · intro he
        refine ⟨Or.inr he, fun e2 => ?_⟩
        subst e2
        cases l with
        | nil => simp at he
        | cons y l => exact h1.2.1 he
      · rintro ⟨a | a, b⟩
        · exact absurd a b
        · exact a
    cases l with
    | nil => exact Or.inl hRl.symm
    | cons o l => exact Or.inr ⟨o, ⟨l, h1.2.2.2, hRl⟩, h1.2.2.1⟩
  · rintro (e | ⟨o, ⟨l, h1, h2⟩, h3⟩)
    · refine ⟨[], hih, ?_⟩
      rw [← join, e]
      rfl
    · refine ⟨o :: l, ⟨hih, fun hin => ?_, h3, h1⟩, ?_⟩
      · have := (hR i).mp (by rw [← h2]; exact (mk_tb _ _).mpr hin)
        exact this.2 rfl
      · show mk_ (o :: l) ||| 2 ^ i = S
        rw [h2, join]
/-- the loop over the one ahead -/
theorem m_76 (hh : h ≤ 12) {S i R : Nat} {m : Nat} {g : Nat → Int32} {rec15 : Int32 → Int32 → Int32 → nd_Mem → nd_Res} {rec32 : Int32 → Int32 → Int32 → Int32 → nd_Mem → nd_Res} {x2 : Int32} (hi : i < 12) (hR4 : R < 4096) (hr : ∀ j : Nat, j < 16 → τ 76 j = nI (fm j)) (hf : ∀ j : Nat, j < 16 → fm j < 65536) (hm : R ≠ 0 → g R = nI m ∧ m < 65536 ∧ ∀ e : Nat, m.testBit e = true ↔ en_ fm h R e) : ∀ (d o f : Nat) (x6 : Int32), o + d = h → d < f → ((x6 = 1 ∧ (R = 0 ∨ ∃ o' : Nat, o' < o ∧ en_ fm h R o' ∧ ab_ fm o' i = true)) ∨ (x6 = 0 ∧ ¬ (R = 0 ∨ ∃ o' : Nat, o' < o ∧ en_ fm h R o' ∧ ab_ fm o' i = true))) → ∃ z : Int32, f_X11_longest_76 F rec15 rec32 f (nI h) x2 (nI S) (nI i) (nI R) x6 (nI o) (nd_row τ 91 g) = f_X11_longest_123 F rec15 rec32 (nI h) x2 (nI S) (nI i) z (nd_row τ 91 g) ∧ ((z = 1 ∧ (R = 0 ∨ ∃ o' : Nat, o' < h ∧ en_ fm h R o' ∧ ab_ fm o' i = true)) ∨ (z = 0 ∧ ¬ (R = 0 ∨ ∃ o' : Nat, o' < h ∧ en_ fm h R o' ∧ ab_ fm o' i = true))) := by
  intro d
  induction d with
  | zero =>
    intro o f x6 ho hf' hx
    obtain ⟨f, rfl⟩ : ∃ g, f = g + 1 := ⟨f - 1, by omega⟩
    have : o = h := by omega
    subst this
    refine ⟨x6, ?_, hx⟩
    show f_X11_longest_76_b F rec15 rec32 _ _ _ _ _ _ _ _ _ = _
    unfold f_X11_longest_76_b
    rw [if_pos (nI_le (Nat.le_refl o) (by omega))]
  | succ d ih =>
    intro o f x6 ho hf' hx
    obtain ⟨f, rfl⟩ : ∃ g, f = g + 1 := ⟨f - 1, by omega⟩
    show ∃ z : Int32, f_X11_longest_76_b F rec15 rec32 _ _ _ _ _ _ _ _ _ = _ ∧ _
    unfold f_X11_longest_76_b f_X11_longest_117
    rw [if_neg (nI_ge (by omega) (by omega))]
    by_cases hR0 : R = 0
    · rw [if_pos (by rw [hR0]; rfl)]
      refine ⟨x6, rfl, ?_⟩
      rcases hx with ⟨e, _⟩ | ⟨_, e⟩
      · exact Or.inl ⟨e, Or.inl hR0⟩
      · exact absurd (Or.inl hR0) e
    · obtain ⟨m1, m2, m3⟩ := hm hR0
      rw [if_neg (nI_ne0 (by omega) (by omega)), if_neg (nI_in hR4 (by decide)), nI_clamp (by omega), w_eq, m1, hs_bit m2 (by omega), n_bind, nI_1]
      have next : ∀ y : Int32, ((y = 1 ∧ (R = 0 ∨ ∃ o' : Nat, o' < o + 1 ∧ en_ fm h R o' ∧ ab_ fm o' i = true)) ∨ (y = 0 ∧ ¬ (R = 0 ∨ ∃ o' : Nat, o' < o + 1 ∧ en_ fm h R o' ∧ ab_ fm o' i = true))) → ∃ z : Int32, f_X11_longest_76 F rec15 rec32 f (nI h) x2 (nI S) (nI i) (nI R) y (nI (o + 1)) (nd_row τ 91 g) = f_X11_longest_123 F rec15 rec32 (nI h) x2 (nI S) (nI i) z (nd_row τ 91 g) ∧ ((z = 1 ∧ (R = 0 ∨ ∃ o' : Nat, o' < h ∧ en_ fm h R o' ∧ ab_ fm o' i = true)) ∨ (z = 0 ∧ ¬ (R = 0 ∨ ∃ o' : Nat, o' < h ∧ en_ fm h R o' ∧ ab_ fm o' i = true))) := fun y hy => ih (o + 1) f y (by omega) (by omega) hy
      have same : ¬ (en_ fm h R o ∧ ab_ fm o i = true) → ((R = 0 ∨ ∃ o' : Nat, o' < o + 1 ∧ en_ fm h R o' ∧ ab_ fm o' i = true) ↔ (R = 0 ∨ ∃ o' : Nat, o' < o ∧ en_ fm h R o' ∧ ab_ fm o' i = true)) := by
        intro hno
        constructor
        · rintro (e | ⟨o', a, b, c⟩)
          · exact Or.inl e
          · refine Or.inr ⟨o', ?_, b, c⟩
            by_cases hoo : o' = o
            · subst hoo; exact absurd ⟨b, c⟩ hno
            · omega
        · rintro (e | ⟨o', a, b, c⟩)
          · exact Or.inl e
          · exact Or.inr ⟨o', by omega, b, c⟩
      have skip : ¬ (en_ fm h R o ∧ ab_ fm o i = true) → ((x6 = 1 ∧ (R = 0 ∨ ∃ o' : Nat, o' < o + 1 ∧ en_ fm h R o' ∧ ab_ fm o' i = true)) ∨ (x6 = 0 ∧ ¬ (R = 0 ∨ ∃ o' : Nat, o' < o + 1 ∧ en_ fm h R o' ∧ ab_ fm o' i = true))) := by
        intro hno
        rw [same hno]
        exact hx
      cases hb : m.testBit o
      · rw [if_pos (by decide)]
        exact next x6 (skip (fun e => by
          have := (m3 o).mpr e.1
          rw [hb] at this
          exact absurd this (by decide)))
      · rw [if_pos rfl, if_neg n10, e_above (fm := fm) (by omega) (by omega) (fun j hj => by rw [w_ne (by decide)]; exact hr j hj) hf, n_bind]
        cases ha : ab_ fm o i
        · rw [if_pos (by decide)]
          exact next x6 (skip (fun e => by
            have := e.2
            rw [ha] at this
            exact absurd this (by decide)))
        · rw [if_pos rfl, if_neg n10]
          exact next 1 (Or.inl ⟨rfl, Or.inr ⟨o, by omega, (m3 o).mp hb, ha⟩⟩)
/-- the loop over the last one -/
theorem m_32 (hF : 300000 ≤ F) (hh : h ≤ 12) {S : Nat} (hS0 : 0 < S) (hS : S < 2 ^ h) {rec15 : Int32 → Int32 → Int32 → nd_Mem → nd_Res} {x2 : Int32} (hr : ∀ j : Nat, j < 16 → τ 76 j = nI (fm j)) (hf : ∀ j : Nat, j < 16 → fm j < 65536) : ∀ (d i f m : Nat) (g : Nat → Int32), i + d = h → d < f → g S = nI m → m < 65536 → (∀ e : Nat, m.testBit e = true ↔ e < i ∧ en_ fm h S e) → (∀ R : Nat, 0 < R → R < S → pe_ends fm h g R) → ∃ (g' : Nat → Int32), pe_ends fm h g' S ∧ (∀ R : Nat, R ≠ S → g' R = g R) ∧ f_X11_longest_32 F rec15 f (nI h) x2 (nI S) (nI i) (nd_row τ 91 g) = f_X11_longest_32_b F rec15 (fun _ _ _ _ _ => none) (nI h) x2 (nI S) (nI h) (nd_row τ 91 g') := by
  have h12 : 2 ^ h ≤ 2 ^ 12 := Nat.pow_le_pow_right (by decide) hh
  intro d
  induction d with
  | zero =>
    intro i f m g hi hf' hg hm he hp
    obtain ⟨f, rfl⟩ : ∃ g, f = g + 1 := ⟨f - 1, by omega⟩
    have : i = h := by omega
    subst this
    refine ⟨g, ⟨m, hm, hg, fun e => ?_⟩, fun _ _ => rfl, ?_⟩
    · rw [he]
      constructor
      · exact fun e => e.2
      · rintro ⟨l, l1, l2⟩
        exact ⟨vp2_lt _ l1 e List.mem_cons_self, l, l1, l2⟩
    · show f_X11_longest_32_b F rec15 _ _ _ _ _ _ = _
      unfold f_X11_longest_32_b
      rw [if_pos (nI_le (Nat.le_refl i) (by omega)), if_pos (nI_le (Nat.le_refl i) (by omega))]
  | succ d ih =>
    intro i f m g hi hf' hg hm he hp
    obtain ⟨f, rfl⟩ : ∃ g, f = g + 1 := ⟨f - 1, by omega⟩
    have h1i : (1 : Int32) <<< (nI i &&& 31) = nI (2 ^ i) := n_one (by omega)
    have hpi : 2 ^ i < 2 ^ 16 := Nat.pow_lt_pow_right (by decide) (by omega)
    obtain ⟨R, r1, r2, r3, r4⟩ := rest_ (S := S) (i := i) (by omega) (by omega)
    have step : f_X11_longest_32 F rec15 (f + 1) (nI h) x2 (nI S) (nI i) (nd_row τ 91 g) = (if S.testBit i = true then f_X11_longest_76 F rec15 (f_X11_longest_32 F rec15 f) F (nI h) x2 (nI S) (nI i) (nI R) (if R = 0 then 1 else 0) 0 (nd_row τ 91 g) else f_X11_longest_32 F rec15 f (nI h) x2 (nI S) (nI (i + 1)) (nd_row τ 91 g)) := by
      show f_X11_longest_32_b F rec15 _ _ _ _ _ _ = _
      unfold f_X11_longest_32_b f_X11_longest_145 f_X11_longest_71
      rw [if_neg (nI_ge (by omega) (by omega)), hs_bit (by omega) (by omega), n_bind, nI_1, r1]
      cases hb : S.testBit i
      · rw [if_pos (by decide), if_neg (by decide)]
      · rw [if_pos rfl, if_neg n10, if_pos rfl]
        by_cases hR0 : R = 0
        · rw [if_pos (by rw [hR0]; rfl), if_pos hR0]
        · rw [if_neg (nI_ne0 (by omega) (by omega)), if_neg hR0]
    rw [step]
    -- how the bit of i comes in
    have bitS : ∀ e : Nat, en_ fm h S e → S.testBit e = true := by
      rintro e ⟨l, l1, l2⟩
      rw [← l2]
      exact (mk_tb _ _).mpr List.mem_cons_self
    by_cases hb : S.testBit i = true
    · rw [if_pos hb]
      have pR : R ≠ 0 → ∃ mR : Nat, g R = nI mR ∧ mR < 65536 ∧ ∀ e : Nat, mR.testBit e = true ↔ en_ fm h R e := by
        intro h0
        obtain ⟨mR, a1, a2, a3⟩ := hp R (by omega) (r4 hb)
        exact ⟨mR, a2, a1, a3⟩
      have iff1 := en_iff (fm := fm) (h := h) (i := i) (R := R) hS hb r3
      have iff2 : (R = 0 ∨ ∃ o' : Nat, o' < h ∧ en_ fm h R o' ∧ ab_ fm o' i = true) ↔ en_ fm h S i := by
        rw [iff1]
        constructor
        · rintro (e | ⟨o, a, b, c⟩)
          · exact Or.inl e
          · exact Or.inr ⟨o, b, c⟩
        · rintro (e | ⟨o, b, c⟩)
          · exact Or.inl e
          · obtain ⟨l, l1, l2⟩ := b
            exact Or.inr ⟨o, vp2_lt _ l1 o List.mem_cons_self, ⟨l, l1, l2⟩, c⟩
      obtain ⟨mR, hmR⟩ : ∃ mR : Nat, R ≠ 0 → g R = nI mR ∧ mR < 65536 ∧ ∀ e : Nat, mR.testBit e = true ↔ en_ fm h R e := by
        by_cases h0 : R = 0
        · exact ⟨0, fun e => absurd h0 e⟩
        · obtain ⟨mR, q⟩ := pR h0
          exact ⟨mR, fun _ => q⟩
      obtain ⟨z, e1, e2⟩ := m_76 (F := F) (τ := τ) (fm := fm) hh (S := S) (i := i) (R := R) (m := mR) (g := g) (rec15 := rec15) (rec32 := f_X11_longest_32 F rec15 f) (x2 := x2) (by omega) r2 hr hf hmR h 0 F (if R = 0 then 1 else 0) (by omega) (by omega) (by
        by_cases h0 : R = 0
        · rw [if_pos h0]; exact Or.inl ⟨rfl, Or.inl h0⟩
        · rw [if_neg h0]
          refine Or.inr ⟨rfl, ?_⟩
          rintro (e | ⟨o', a, _⟩)
          · exact h0 e
          · omega)
      have e1' : f_X11_longest_76 F rec15 (f_X11_longest_32 F rec15 f) F (nI h) x2 (nI S) (nI i) (nI R) (if R = 0 then 1 else 0) 0 (nd_row τ 91 g) = f_X11_longest_123 F rec15 (f_X11_longest_32 F rec15 f) (nI h) x2 (nI S) (nI i) z (nd_row τ 91 g) := e1
      rw [e1']
      unfold f_X11_longest_123 f_X11_longest_145
      rw [iff2] at e2
      rcases e2 with ⟨rfl, hen⟩ | ⟨rfl, hen⟩
      · rw [if_neg n10, if_neg (nI_in (by omega) (by decide)), if_neg (nI_in (by omega) (by decide)), nI_clamp (by omega), n_let, w_eq, hg, h1i, n_or, up_row, nI_1]
        obtain ⟨g', q1, q2, q3⟩ := ih (i + 1) f (m ||| 2 ^ i) (upd g S (nI (m ||| 2 ^ i))) (by omega) (by omega) upd_eq (Nat.or_lt_two_pow (n := 16) hm hpi) (fun e => by
          rw [Nat.testBit_or, Bool.or_eq_true, he, Nat.testBit_two_pow, decide_eq_true_eq]
          constructor
          · rintro (⟨a, b⟩ | a)
            · exact ⟨by omega, b⟩
            · subst a; exact ⟨by omega, hen⟩
          · rintro ⟨a, b⟩
            by_cases hei : e = i
            · exact Or.inr hei.symm
            · exact Or.inl ⟨by omega, b⟩) (fun R h1 h2 => by
          obtain ⟨mm, a1, a2, a3⟩ := hp R h1 h2
          exact ⟨mm, a1, by rw [upd_ne (by omega)]; exact a2, a3⟩)
        exact ⟨g', q1, fun R hR => by rw [q2 R hR, upd_ne hR], q3⟩
      · rw [if_pos rfl, nI_1]
        exact ih (i + 1) f m g (by omega) (by omega) hg hm (fun e => by
          rw [he]
          constructor
          · rintro ⟨a, b⟩; exact ⟨by omega, b⟩
          · rintro ⟨a, b⟩
            refine ⟨?_, b⟩
            by_cases hei : e = i
            · subst hei; exact absurd b hen
            · omega) hp
    · rw [if_neg hb]
      exact ih (i + 1) f m g (by omega) (by omega) hg hm (fun e => by
        rw [he]
        constructor
        · rintro ⟨a, b⟩; exact ⟨by omega, b⟩
        · rintro ⟨a, b⟩
          refine ⟨?_, b⟩
          by_cases hei : e = i
          · subst hei; exact absurd (bitS e b) hb
          · omega) hp
theorem m_15 (hF : 300000 ≤ F) (hh : h ≤ 12) (hr : ∀ j : Nat, j < 16 → τ 76 j = nI (fm j)) (hf : ∀ j : Nat, j < 16 → fm j < 65536) : ∀ (d S f r : Nat) (g : Nat → Int32), S + d = 2 ^ h → 0 < S → d < f → r ≤ 12 → (∀ R : Nat, 0 < R → R < S → pe_ends fm h g R) → (r = 0 ∨ ∃ l : List Nat, vp2_ fm h l ∧ l.length = r) → (∀ l : List Nat, vp2_ fm h l → mk_ l < S → l.length ≤ r) → ∃ (r' : Nat) (g' : Nat → Int32), f_X11_longest_15 F f (nI h) (nI r) (nI S) (nd_row τ 91 g) = some (nI r', nd_row τ 91 g') ∧ mg_ fm h r' := by
  have h12 : 2 ^ h ≤ 2 ^ 12 := Nat.pow_le_pow_right (by decide) hh
  have h1h : (1 : Int32) <<< (nI h &&& 31) = nI (2 ^ h) := n_one (by omega)
  intro d
  induction d with
  | zero =>
    intro S f r g hS hS0 hf' hr12 hp hex hup
    obtain ⟨f, rfl⟩ : ∃ g, f = g + 1 := ⟨f - 1, by omega⟩
    refine ⟨r, g, ?_, fun l hv => hup l hv (by have := mk_lt l (vp2_lt _ hv); omega), hex⟩
    show f_X11_longest_15_b F _ _ _ _ _ = _
    unfold f_X11_longest_15_b
    rw [h1h, if_pos (nI_le (by omega) (by omega))]
  | succ d ih =>
    intro S f r g hS hS0 hf' hr12 hp hex hup
    obtain ⟨f, rfl⟩ : ∃ g, f = g + 1 := ⟨f - 1, by omega⟩
    obtain ⟨g', ⟨m, q1, q2, q3⟩, q4, q5⟩ := m_32 (F := F) (τ := τ) (fm := fm) hF hh hS0 (show S < 2 ^ h by omega) (rec15 := f_X11_longest_15 F f) (x2 := nI r) hr hf h 0 F 0 (upd g S 0) (by omega) (by omega) upd_eq (by omega) (fun e => by
      rw [Nat.zero_testBit]
      constructor
      · intro e; exact absurd e (by decide)
      · rintro ⟨a, _⟩; omega) (fun R h1 h2 => by
      obtain ⟨mm, a1, a2, a3⟩ := hp R h1 h2
      exact ⟨mm, a1, by rw [upd_ne (by omega)]; exact a2, a3⟩)
    have step : f_X11_longest_15 F (f + 1) (nI h) (nI r) (nI S) (nd_row τ 91 g) = (if nI m = 0 then f_X11_longest_15 F f (nI h) (nI r) (nI (S + 1)) (nd_row τ 91 g') else f_X11_longest_15 F f (nI h) (nI (if pc_ 12 S ≤ r then r else pc_ 12 S)) (nI (S + 1)) (nd_row τ 91 g')) := by
      show f_X11_longest_15_b F _ _ _ _ _ = _
      unfold f_X11_longest_15_b
      rw [h1h, if_neg (nI_ge (by omega) (by omega)), if_neg (nI_in (by omega) (by decide)), nI_clamp (by omega), n_let, up_row]
      show f_X11_longest_32 F (f_X11_longest_15 F f) F (nI h) (nI r) (nI S) (nI 0) _ = _
      rw [q5]
      unfold f_X11_longest_32_b f_X11_longest_171
      rw [if_pos (nI_le (Nat.le_refl h) (by omega)), if_neg (nI_in (by omega) (by decide)), nI_clamp (by omega), w_eq, q2, nI_1]
      by_cases hm0 : nI m = 0
      · rw [if_pos hm0, if_pos hm0]
      · have hpl := pc_le 12 S
        rw [if_neg hm0, if_neg hm0, e_ones (k := 12) hF (by decide) (by omega), n_bind, e_greater, n_bind]
        by_cases hle : pc_ 12 S ≤ r
        · rw [if_pos hle]
          by_cases he : r ≤ pc_ 12 S
          · rw [if_pos (nI_le he (by omega)), show pc_ 12 S = r by omega]
          · rw [if_neg (nI_ge (by omega) (by omega))]
        · rw [if_neg hle, if_pos (nI_le (by omega) (by omega))]
    rw [step]
    have prev : ∀ R : Nat, 0 < R → R < S + 1 → pe_ends fm h g' R := by
      intro R h1 h2
      by_cases hRS : R = S
      · subst hRS; exact ⟨m, q1, q2, q3⟩
      · obtain ⟨mm, a1, a2, a3⟩ := hp R h1 (by omega)
        exact ⟨mm, a1, by rw [q4 R hRS, upd_ne hRS]; exact a2, a3⟩
    by_cases hm0 : nI m = 0
    · rw [if_pos hm0]
      have m0 : m = 0 := (nI_eq (b := 0) (by omega) (by omega)).mp hm0
      refine ih (S + 1) f r g' (by omega) (by omega) (by omega) hr12 prev hex (fun l hv hl => ?_)
      by_cases hlS : mk_ l = S
      · exfalso
        cases l with
        | nil => exact hv
        | cons e l =>
          have := (q3 e).mpr ⟨l, hv, hlS⟩
          rw [m0, Nat.zero_testBit] at this
          exact absurd this (by decide)
      · exact hup l hv (by omega)
    · rw [if_neg hm0]
      have hpl := pc_le 12 S
      have hmx : r ≤ (if pc_ 12 S ≤ r then r else pc_ 12 S) ∧ pc_ 12 S ≤ (if pc_ 12 S ≤ r then r else pc_ 12 S) ∧ (if pc_ 12 S ≤ r then r else pc_ 12 S) ≤ 12 := by
        by_cases hle : pc_ 12 S ≤ r
        · rw [if_pos hle]; omega
        · rw [if_neg hle]; omega
      have mne : m ≠ 0 := fun e => hm0 (by rw [e]; rfl)
      obtain ⟨e, he⟩ := Nat.exists_testBit_of_ne_zero mne
      obtain ⟨l, l1, l2⟩ := (q3 e).mp he
      refine ih (S + 1) f _ g' (by omega) (by omega) (by omega) hmx.2.2 prev ?_ (fun l' hv hl => ?_)
      · by_cases hle : pc_ 12 S ≤ r
        · rw [if_pos hle]; exact hex
        · rw [if_neg hle]
          refine Or.inr ⟨e :: l, l1, ?_⟩
          rw [← pc_mk (k := 12) hh _ l1, l2]
      · by_cases hlS : mk_ l' = S
        · have := pc_mk (k := 12) hh _ hv
          rw [hlS] at this
          omega
        · have := hup l' hv (by omega)
          omega
end LM
theorem op_feuds {F : Nat} (hF : 300000 ≤ F) (x1 : Int32) : op_ (f_X10_feuds F x1) (f_X11_feuds F x1) := op_sc (fun σ n hI => by
  obtain ⟨⟨hn, hq1, hq2, hq3, hq4, hq5, hq6, hq7, hq8, hla, hpl, hfd, hsd⟩, hpa, htp, hpi, hfx⟩ := id hI
  have hf0 : fr_ sc_S sc_K σ (nd_up σ 60 0 0) := (by repeat first | exact fr_rf | (refine fr_up57 ?_ (by decide)) | (refine fr_up ?_ (by decide) (by decide)) | (refine fr_row ?_ (by decide) (by decide)))
  have h16 := hn.1
  have s1 : σ 1 1 = nI n := hq7.1
  have hp : 2 ^ n ≤ 2 ^ 16 := Nat.pow_le_pow_right (by decide) h16
  have ex : ∀ h : Nat, ∃ m : Nat, h < 16 → m < 2 ^ n ∧ σ 10 h = nI m ∧ σ 76 h = nI m := by
    intro h
    by_cases hh : h < 16
    · obtain ⟨m, m1, m2, m3⟩ := hfd.2 h hh
      exact ⟨m, fun _ => ⟨m1, m2, m3⟩⟩
    · exact ⟨0, fun e => absurd e hh⟩
  obtain ⟨fm, hfm⟩ : ∃ fm : Nat → Nat, ∀ h : Nat, h < 16 → fm h < 2 ^ n ∧ σ 10 h = nI (fm h) ∧ σ 76 h = nI (fm h) := ⟨fun h => Classical.choose (ex h), fun h hh => Classical.choose_spec (ex h) hh⟩
  have hc : ∀ h : Nat, h < 16 → σ 10 h = nI (fm h) := fun h hh => (hfm h hh).2.1
  have hr : ∀ h : Nat, h < 16 → (nd_up σ 60 0 0) 76 h = nI (fm h) := fun h hh => (hfm h hh).2.2
  have hf : ∀ h : Nat, h < 16 → fm h < 65536 := fun h hh => Nat.lt_of_lt_of_le (hfm h hh).1 hp
  have hg : ∀ h b : Nat, h < 16 → n ≤ b → (fm h).testBit b = false := fun h b hh hb => Nat.testBit_lt_two_pow (Nat.lt_of_lt_of_le (hfm h hh).1 (Nat.pow_le_pow_right (by decide) hb))
  by_cases c0 : x1 = 0
  · subst c0
    obtain ⟨v, e1, e2⟩ := kings_ (F := F) (σ := σ) (n := n) (fm := fm) hF (τ := nd_up σ 60 0 0) hn.2 h16 hc hr hf hg n 0 F F 0 (by omega) (by omega) (by omega)
    refine ⟨v, σ, nd_up σ 60 0 0, ?_, ?_, hf0⟩
    · unfold f_X10_feuds f_X5_kings
      rw [if_pos rfl, s1]
      show nd_bind (f_X5_kings_4 F 3 F (nI n) 0 (nI 0) σ) _ = _
      rw [e1, n_bind]
    · unfold f_X11_feuds
      rw [n_let, if_neg (by decide), if_pos rfl]
      exact e2
  by_cases c1 : x1 = 1
  · subst c1
    obtain ⟨r, e1, e2⟩ := e_row (F := F) (σ := σ) (n := n) (fm := fm) hF h16 hc hf hg (min 12 n) 0 F 0 (by omega) (by omega) (by omega) (Or.inl rfl) (fun _ y hy => by omega)
    obtain ⟨r', g', e3, e4⟩ := m_15 (F := F) (h := min 12 n) (τ := nd_up σ 60 0 0) (fm := fm) hF (by omega) hr hf (2 ^ (min 12 n) - 1) 1 F 0 ((nd_up σ 60 0 0) 91) (by have := Nat.two_pow_pos (min 12 n); omega) (by omega) (by have : 2 ^ (min 12 n) ≤ 2 ^ 12 := Nat.pow_le_pow_right (by decide) (by omega); omega) (by omega) (fun R h1 h2 => by omega) (Or.inl rfl) (fun l hv hl => by
      exfalso
      cases l with
      | nil => exact hv
      | cons x l =>
        have h0 : mk_ (x :: l) = 0 := by omega
        have := (mk_tb (x :: l) x).mpr List.mem_cons_self
        rw [h0, Nat.zero_testBit] at this
        exact absurd this (by decide))
    rw [row_id] at e3
    have er := mg_eq e2 e4
    subst er
    refine ⟨nI r, σ, nd_row (nd_up σ 60 0 0) 91 g', ?_, ?_, (by repeat first | exact fr_rf | (refine fr_up57 ?_ (by decide)) | (refine fr_up ?_ (by decide) (by decide)) | (refine fr_row ?_ (by decide) (by decide)))⟩
    · unfold f_X10_feuds f_X5_longestRow
      rw [if_neg (by decide), if_pos rfl, s1]
      have em : (if (12 : Int32) < nI n then (12 : Int32) else nI n) = nI (min 12 n) := by
        by_cases h : 12 < n
        · rw [if_pos (show (12 : Int32) < nI n from nI_lt (a := 12) h (by omega)), Nat.min_eq_left (by omega)]
          rfl
        · rw [if_neg (show ¬ (12 : Int32) < nI n from nI_nlt (a := 12) (by omega) (by omega)), Nat.min_eq_right (by omega)]
      rw [em]
      show nd_bind (f_X5_longestRow_12 F 3 F (nI (min 12 n)) (nI 0) (nI 0) σ) _ = _
      rw [e1, n_bind]
    · unfold f_X11_feuds f_X11_longest
      rw [n_let, if_pos rfl, e_lesser, n_bind, show nd_up σ 60 0 0 60 6 = nI n from hn.2]
      have em : (if nI n ≤ (12 : Int32) then nI n else (12 : Int32)) = nI (min 12 n) := by
        by_cases h : n ≤ 12
        · rw [if_pos (show nI n ≤ (12 : Int32) from nI_le (b := 12) h (by omega)), Nat.min_eq_right (by omega)]
        · rw [if_neg (show ¬ nI n ≤ (12 : Int32) from nI_ge (a := 12) (by omega) (by omega)), Nat.min_eq_left (by omega)]
          rfl
      rw [em]
      show nd_bind (f_X11_longest_15 F F (nI (min 12 n)) (nI 0) (nI 1) _) _ = _
      rw [e3, n_bind]
  refine ⟨-1, σ, nd_up σ 60 0 0, ?_, ?_, hf0⟩
  · unfold f_X10_feuds
    rw [if_neg c0, if_neg c1]
  · unfold f_X11_feuds
    rw [n_let, if_neg c1, if_neg c0])
