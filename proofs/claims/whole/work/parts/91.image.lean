/-! the image: agreement on what it holds -/
theorem lpP {L : Nat → Int32 → nd_Mem → nd_Res} {P : Nat → nd_Mem → Prop} {N : Nat} {z : nd_Mem → nd_Res} (hs : ∀ (f i : Nat) (τ : nd_Mem), i < N → P i τ → ∃ τ' : nd_Mem, L (f + 1) (nI i) τ = L f (nI (i + 1)) τ' ∧ P (i + 1) τ') (he : ∀ (f : Nat) (τ : nd_Mem), P N τ → L (f + 1) (nI N) τ = z τ) : ∀ (d i f : Nat) (τ : nd_Mem), i + d = N → d < f → P i τ → ∃ τ' : nd_Mem, L f (nI i) τ = z τ' ∧ P N τ' := by
  intro d
  induction d with
  | zero =>
    intro i f τ hi hf hP
    obtain ⟨f, rfl⟩ : ∃ g, f = g + 1 := ⟨f - 1, by omega⟩
    have : i = N := by omega
    subst this
    exact ⟨τ, he f τ hP, hP⟩
  | succ d ih =>
    intro i f τ hi hf hP
    obtain ⟨f, rfl⟩ : ∃ g, f = g + 1 := ⟨f - 1, by omega⟩
    obtain ⟨τ1, e1, P1⟩ := hs f i τ (by omega) hP
    obtain ⟨τ', e2, P2⟩ := ih (i + 1) f τ1 (by omega) (by omega) P1
    exact ⟨τ', by rw [e1, e2], P2⟩
/-- the reference's rows: alike in all that an image holds -/
def ag_ (r r' : nd_Mem) : Prop := (∀ k ∈ [6, 31, 33, 35, 40, 45, 50, 54, 61], r' 60 k = r 60 k) ∧ (∀ k : Nat, k < 103 → r' 61 k = r 61 k) ∧ (∀ k : Nat, k < 600 → r' 64 k = r 64 k) ∧ r' 67 0 = r 67 0 ∧ (∀ k : Nat, k < 16 → r' 68 k = r 68 k ∧ r' 69 k = r 69 k ∧ r' 70 k = r 70 k ∧ r' 71 k = r 71 k) ∧ (∀ k : Nat, k < 400 → r' 72 k = r 72 k ∧ r' 73 k = r 73 k) ∧ (∀ k : Nat, k < 64 → r' 75 k = r 75 k) ∧ (∀ k : Nat, k < 16 → r' 76 k = r 76 k ∧ r' 77 k = r 77 k) ∧ (∀ k : Nat, k < 12 → r' 81 k = r 81 k) ∧ (∀ k : Nat, k < 9 → r' 85 k = r 85 k ∧ r' 86 k = r 86 k ∧ r' 87 k = r 87 k) ∧ (∀ k : Nat, k < 10 → r' 89 k = r 89 k ∧ r' 95 k = r 95 k ∧ r' 96 k = r 96 k) ∧ (∀ k : Nat, k < 14 → r' 92 k = r 92 k ∧ r' 93 k = r 93 k)
theorem ty_run_c {o a o' a' : Nat → Int32} : ∀ (k i : Nat) (t : List Nat), (∀ j : Nat, i ≤ j → j < i + k → o' j = o j ∧ a' j = a j) → ty_run o' a' i k t = ty_run o a i k t := by
  intro k
  induction k with
  | zero => intro i t _; rfl
  | succ k ih =>
    intro i t h
    show (ty_1 (o' i) (a' i) t).bind (ty_run o' a' (i + 1) k) = (ty_1 (o i) (a i) t).bind (ty_run o a (i + 1) k)
    rw [(h i (by omega) (by omega)).1, (h i (by omega) (by omega)).2]
    congr 1
    funext t'
    exact ih (i + 1) t' (fun j h1 h2 => h j (by omega) (by omega))
theorem row_c {m lo hi : Nat} {z : Int32} {a : Nat → Int32} {z' : Int32} {a' : Nat → Int32} {w : Int32} {b : Nat → Int32} {w' : Int32} {b' : Nat → Int32} (h : iv_row m lo hi z a z' a') (hz : w = z) (hz' : w' = z') (ha : ∀ k n : Nat, z = nI n → n ≤ m → k < n → b k = a k) (ha' : ∀ k : Nat, k < m → b' k = a' k) : iv_row m lo hi w b w' b' := by
  obtain ⟨n, h1, h2, h3, h4⟩ := h
  refine ⟨n, h1, by rw [hz, h2], by rw [hz', h3], fun i hi => ?_⟩
  rw [ha i n h2 h1 hi, ha' i (by omega)]
  exact h4 i hi
theorem K_r {c r r' : nd_Mem} {n : Nat} (h : ag_ r r') (hK : iv_K c r n) : iv_K c r' n := by
  obtain ⟨a57, a58, a61, a64, a65, a69, a72, a73, a78, a82, a86, a89⟩ := h
  obtain ⟨hn, hq1, hq2, hq3, hq4, hq5, hq6, hq7, hq8, hla, hpl, hfd, hsd⟩ := hK
  refine ⟨⟨hn.1, by rw [a57 6 (by decide)]; exact hn.2⟩, ?_, ?_, ?_, ?_, ?_, ?_, ?_, ?_, ?_, ?_, ?_, ?_⟩
  · exact row_c hq1 rfl (a57 40 (by decide)) (fun _ _ _ _ _ => rfl) (fun k hk => a78 k hk)
  · obtain ⟨cs, c1, c2, c3, c4, c5⟩ := hq2
    refine ⟨cs, c1, c2, by rw [a57 45 (by decide)]; exact c3, c4, fun x hx => ?_⟩
    rw [(a82 x hx).1, (a82 x hx).2.1, (a82 x hx).2.2]
    exact c5 x hx
  · exact row_c hq3 rfl (a57 50 (by decide)) (fun _ _ _ _ _ => rfl) (fun k hk => (a86 k hk).1)
  · obtain ⟨k, k1, k2, k3, k4⟩ := hq4
    refine ⟨k, k1, k2, by rw [a57 54 (by decide)]; exact k3, fun i hi => ?_⟩
    rw [(a89 i (by omega)).1, (a89 i (by omega)).2]
    exact k4 i hi
  · exact row_c hq5 rfl (a57 61 (by decide)) (fun _ _ _ _ _ => rfl) (fun k hk => (a86 k hk).2.2)
  · intro i hi
    rw [(a86 i hi).2.1]
    exact hq6 i hi
  · exact iv_S_c hn.1 (fun _ _ _ => rfl) (fun _ _ => rfl) (fun k hk => a58 k hk) hq7
  · intro i hi
    rw [a61 i hi]
    exact hq8 i hi
  · obtain ⟨L, C, l1, l2, l3, l4, l5, l6, l7⟩ := hla
    refine ⟨L, C, l1, l2, l3, l4, by rw [a64]; exact l5, fun l hl => ?_, fun i hi => ?_⟩
    · obtain ⟨w, f, p, t, e1, e2, e3, e4, e5, e6, e7, e8, e9, e10, e11, e12, ⟨x, e13⟩, e14⟩ := l6 l hl
      obtain ⟨b1, b2, b3, b4⟩ := a65 l (by omega)
      refine ⟨w, f, p, t, e1, e2, e3, e4, e5, by rw [b1]; exact e6, e7, by rw [b2]; exact e8, e9, by rw [b3]; exact e10, e11, by rw [b4]; exact e12, ⟨x, ?_⟩, ?_⟩
      · rw [ty_run_c (o := r 72) (a := r 73) _ _ _ (fun j h1 h2 => a69 j (by omega))]
        exact e13
      · rcases e14 with e14 | e14
        · exact Or.inl e14
        · right
          rw [ty_run_c (o := r 72) (a := r 73) _ _ _ (fun j h1 h2 => a69 j (by omega))]
          exact e14
    · rw [(a69 i (by omega)).1, (a69 i (by omega)).2]
      exact l7 i hi
  · obtain ⟨P, p1, p2, p3, p4⟩ := hpl
    refine ⟨P, p1, p2, by rw [a57 31 (by decide)]; exact p3, fun j hj => ?_⟩
    unfold iv_deed
    rw [a72 (4 * j) (by omega), a72 (4 * j + 1) (by omega), a72 (4 * j + 2) (by omega), a72 (4 * j + 3) (by omega)]
    exact p4 j hj
  · refine ⟨by rw [a57 33 (by decide)]; exact hfd.1, fun h hh => ?_⟩
    rw [(a73 h hh).1]
    exact hfd.2 h hh
  · obtain ⟨s1, m, s2, s3, s4⟩ := hsd
    refine ⟨by rw [a57 35 (by decide)]; exact s1, m, s2, s3, fun h hh => ?_⟩
    rw [(a73 h hh).2]
    exact s4 h hh
/-- the class's rows: alike in all that an image holds -/
def rw_ (c c' : nd_Mem) (b m : Nat) : Prop := c' b 1 = c b 1 ∧ ∀ n k : Nat, c b 1 = nI n → n ≤ m → k < n → c' (b + 1) k = c (b + 1) k
def cg_ (c c' : nd_Mem) : Prop := (∀ k : Nat, 1 ≤ k → k ≤ 8 → c' 1 k = c 1 k) ∧ (∀ k : Nat, k < 96 → c' 2 k = c 2 k) ∧ (c' 3 4 = c 3 4 ∧ c' 3 5 = c 3 5 ∧ c' 3 6 = c 3 6) ∧ rw_ c c' 4 64 ∧ rw_ c c' 6 400 ∧ rw_ c c' 8 64 ∧ (∀ k : Nat, k < 16 → c' 10 k = c 10 k) ∧ (∀ k : Nat, k < 600 → c' 11 k = c 11 k) ∧ rw_ c c' 13 12 ∧ rw_ c c' 15 6 ∧ rw_ c c' 17 10 ∧ rw_ c c' 19 14 ∧ rw_ c c' 21 10 ∧ ∀ k : Nat, k < 10 → c' 23 k = c 23 k
theorem K_c {c c' r : nd_Mem} {n : Nat} (h : cg_ c c') (hK : iv_K c r n) : iv_K c' r n := by
  obtain ⟨a1, a2, ⟨a34, a35, a36⟩, a4, a6, a8, a10, a11, a13, a15, a17, a19, a21, a23⟩ := h
  obtain ⟨hn, hq1, hq2, hq3, hq4, hq5, hq6, hq7, hq8, hla, hpl, hfd, hsd⟩ := hK
  refine ⟨hn, ?_, ?_, ?_, ?_, ?_, ?_, ?_, ?_, ?_, ?_, ?_, ?_⟩
  · exact row_c hq1 a13.1 rfl (fun k n h1 h2 h3 => a13.2 n k h1 h2 h3) (fun _ _ => rfl)
  · obtain ⟨cs, c1, c2, c3, c4, c5⟩ := hq2
    refine ⟨cs, c1, by rw [a15.1]; exact c2, c3, fun i x hx => ?_, c5⟩
    have hi : i < cs.length := by
      rw [List.getElem?_eq_some_iff] at hx
      exact hx.1
    rw [show c' 16 i = c 16 i from a15.2 cs.length i c2 c1 hi]
    exact c4 i x hx
  · exact row_c hq3 a17.1 rfl (fun k n h1 h2 h3 => a17.2 n k h1 h2 h3) (fun _ _ => rfl)
  · obtain ⟨k, k1, k2, k3, k4⟩ := hq4
    refine ⟨k, k1, by rw [a19.1]; exact k2, k3, fun i hi => ?_⟩
    rw [show c' 20 i = c 20 i from a19.2 k i k2 k1 hi]
    exact k4 i hi
  · exact row_c hq5 a21.1 rfl (fun k n h1 h2 h3 => a21.2 n k h1 h2 h3) (fun _ _ => rfl)
  · intro i hi
    rw [a23 i hi]
    exact hq6 i hi
  · exact iv_S_c hn.1 (fun k h1 h2 => a1 k h1 h2) (fun k hk => a2 k hk) (fun _ _ => rfl) hq7
  · intro i hi
    rw [a11 i hi]
    exact hq8 i hi
  · obtain ⟨L, C, l1, l2, l3, l4, l5, l6, l7⟩ := hla
    have b5 : ∀ k : Nat, k < 4 * L → c' 5 k = c 5 k := fun k hk => a4.2 (4 * L) k l3 (by omega) hk
    refine ⟨L, C, l1, l2, by rw [a4.1]; exact l3, by rw [a6.1]; exact l4, l5, fun l hl => ?_, fun i hi => ?_⟩
    · unfold iv_line
      rw [b5 (4 * l) (by omega), b5 (4 * l + 1) (by omega), b5 (4 * l + 2) (by omega), b5 (4 * l + 3) (by omega)]
      exact l6 l hl
    · rw [show c' 7 i = c 7 i from a6.2 C i l4 l2 hi]
      exact l7 i hi
  · obtain ⟨P, p1, p2, p3, p4⟩ := hpl
    have b9 : ∀ k : Nat, k < 4 * P → c' 9 k = c 9 k := fun k hk => a8.2 (4 * P) k p2 (by omega) hk
    refine ⟨P, p1, by rw [a8.1]; exact p2, p3, fun j hj => ?_⟩
    unfold iv_deed
    rw [b9 (4 * j) (by omega), b9 (4 * j + 1) (by omega), b9 (4 * j + 2) (by omega), b9 (4 * j + 3) (by omega)]
    exact p4 j hj
  · refine ⟨by rw [a34]; exact hfd.1, fun h hh => ?_⟩
    rw [a10 h hh]
    exact hfd.2 h hh
  · obtain ⟨s1, m, s2, s3, s4⟩ := hsd
    exact ⟨by rw [a36]; exact s1, m, s2, by rw [a35]; exact s3, s4⟩
/-! one number is kept, or given back -/
/-- how one item changes the memory, whichever way it goes -/
def im_ (F : Nat) (x65 : Int32) (cell idx k : Nat) (τ τ' : nd_Mem) : Prop := τ' 60 67 = nI (k + 1) ∧ τ' cell idx = τ' 99 k ∧ (x65 = 0 → τ' 99 = τ 99) ∧ (x65 ≠ 0 → τ' cell idx = τ cell idx) ∧ ∀ i j : Nat, ¬ (i = cell ∧ j = idx) → ¬ (i = 99 ∧ j = k) → ¬ (i = 60 ∧ j = 67) → τ' i j = τ i j
theorem e_item {F : Nat} {τ : nd_Mem} {cell idx k : Nat} {K : nd_Mem → nd_Res} (hc : cell ≠ 99) (hi : ¬ (cell = 60 ∧ (idx = 67 ∨ idx = 65))) (hk : k < 2400) (h67 : τ 60 67 = nI k) : ∃ τ' : nd_Mem, nd_bind (f_X11_keeps F (τ cell idx) τ) (fun r σ2 => K (nd_up σ2 cell idx r)) = K τ' ∧ im_ F (τ 60 65) cell idx k τ τ' := by
  unfold f_X11_keeps
  rw [n_let, u_eq, h67, nI_1, u_ne2 (by decide), nI_pred]
  by_cases h65 : τ 60 65 = 0
  · rw [if_pos h65, if_neg (nI_in hk (by decide)), nI_clamp (by omega), n_bind, u_ne1 (by decide)]
    refine ⟨_, rfl, ?_, ?_, ?_, fun e => absurd h65 e, ?_⟩
    · by_cases h57 : cell = 60
      · subst h57
        rw [u_ne2 (by omega), u_eq]
      · rw [u_ne1 (Ne.symm h57), u_eq]
    · rw [u_eq, u_ne1 (Ne.symm hc), u_ne1 (by decide)]
    · intro _
      rw [nd_up_ne (Ne.symm hc), nd_up_ne (by decide)]
    · intro i j h1 h2 h3
      have e1 : nd_up (nd_up τ 60 67 (nI (k + 1))) cell idx (τ 99 k) i j = nd_up τ 60 67 (nI (k + 1)) i j := by
        rw [u_app]
        by_cases hh : i = cell
        · rw [if_pos hh, if_neg (fun e => h1 ⟨hh, e⟩)]
        · rw [if_neg hh]
      rw [e1, u_app]
      by_cases hh : i = 60
      · rw [if_pos hh, if_neg (fun e => h3 ⟨hh, e⟩)]
      · rw [if_neg hh]
  · rw [if_neg h65, if_neg (nI_in hk (by decide)), nI_clamp (by omega), n_let, n_bind]
    have ev : nd_up (nd_up τ 60 67 (nI (k + 1))) 99 k (τ cell idx) cell idx = τ cell idx := by
      rw [u_ne1 hc, u_app]
      by_cases hh : cell = 60
      · rw [if_pos hh, if_neg (fun e => hi ⟨hh, Or.inl e⟩)]
      · rw [if_neg hh]
    rw [up_same ev]
    refine ⟨_, rfl, by rw [u_ne1 (by decide), u_eq], by rw [ev, u_eq], fun e => absurd e h65, fun _ => ev, ?_⟩
    intro i j h1 h2 h3
    have e1 : nd_up (nd_up τ 60 67 (nI (k + 1))) 99 k (τ cell idx) i j = nd_up τ 60 67 (nI (k + 1)) i j := by
      rw [u_app]
      by_cases hh : i = 99
      · rw [if_pos hh, if_neg (fun e => h2 ⟨hh, e⟩)]
      · rw [if_neg hh]
    rw [e1, u_app]
    by_cases hh : i = 60
    · rw [if_pos hh, if_neg (fun e => h3 ⟨hh, e⟩)]
    · rw [if_neg hh]
