/-! loops of the image -/
def lo_ (x : Int32) (A : List Nat) (b e : Nat) (τ τ' : nd_Mem) : Prop := τ' 60 67 = nI e ∧ τ' 60 65 = τ 60 65 ∧ (x = 0 → τ' 99 = τ 99) ∧ (x ≠ 0 → ∀ i j : Nat, i ≠ 99 → ¬ (i = 60 ∧ j = 67) → τ' i j = τ i j) ∧ (∀ i j : Nat, i ∉ A → i ≠ 99 → ¬ (i = 60 ∧ j = 67) → τ' i j = τ i j) ∧ ∀ k : Nat, ¬ (b ≤ k ∧ k < e) → τ' 99 k = τ 99 k
theorem lo_tr {x : Int32} {A B : List Nat} {b m e : Nat} {τ τ1 τ2 : nd_Mem} (hbm : b ≤ m) (hme : m ≤ e) (h1 : lo_ x A b m τ τ1) (h2 : lo_ x B m e τ1 τ2) : lo_ x (A ++ B) b e τ τ2 := by
  obtain ⟨a1, a2, a3, a4, a5, a6⟩ := h1
  obtain ⟨b1, b2, b3, b4, b5, b6⟩ := h2
  refine ⟨b1, by rw [b2, a2], fun hx => by rw [b3 hx, a3 hx], fun hx i j h3 h4 => by rw [b4 hx i j h3 h4, a4 hx i j h3 h4], fun i j h3 h4 h5 => ?_, fun k hk => ?_⟩
  · simp only [List.mem_append, not_or] at h3
    rw [b5 i j h3.2 h4 h5, a5 i j h3.1 h4 h5]
  · rw [b6 k (by omega), a6 k (by omega)]
theorem lo_rf {x : Int32} {A : List Nat} {b : Nat} {τ : nd_Mem} (h : τ 60 67 = nI b) : lo_ x A b b τ τ := ⟨h, rfl, fun _ => rfl, fun _ _ _ _ _ => rfl, fun _ _ _ _ _ => rfl, fun _ _ => rfl⟩
theorem lo_im {F : Nat} {x : Int32} {A : List Nat} {cell idx k : Nat} {τ τ' : nd_Mem} (hA : cell ∈ A) (hi : ¬ (cell = 60 ∧ (idx = 67 ∨ idx = 65))) (h : im_ F x cell idx k τ τ') : lo_ x A k (k + 1) τ τ' := by
  obtain ⟨a1, a2, a3, a4, a5⟩ := h
  refine ⟨a1, ?_, a3, fun hx i j h1 h2 => ?_, fun i j h1 h2 h3 => ?_, fun j hj => ?_⟩
  · exact a5 60 65 (fun e => hi ⟨e.1.symm, Or.inr e.2.symm⟩) (by omega) (by omega)
  · by_cases hh : i = cell ∧ j = idx
    · rw [hh.1, hh.2]; exact a4 hx
    · exact a5 i j hh (fun e => h1 e.1) h2
  · exact a5 i j (fun e => h1 (by rw [e.1]; exact hA)) (fun e => h2 e.1) h3
  · by_cases hx : x = 0
    · rw [a3 hx]
    · by_cases hh : 99 = cell ∧ j = idx
      · rw [hh.1, hh.2]; exact a4 hx
      · exact a5 99 j hh (fun e => by omega) (fun e => by omega)
theorem lo_w {x : Int32} {A B : List Nat} {b e : Nat} {τ τ' : nd_Mem} (h : lo_ x A b e τ τ') (hAB : ∀ i ∈ A, i ∈ B) : lo_ x B b e τ τ' := ⟨h.1, h.2.1, h.2.2.1, h.2.2.2.1, fun i j h1 => h.2.2.2.2.1 i j (fun e => h1 (hAB i e)), h.2.2.2.2.2⟩
/-- what was done stays -/
theorem lo_done {x : Int32} {A : List Nat} {b e : Nat} {τ τ' : nd_Mem} (h : lo_ x A b e τ τ') {cell idx k : Nat} (hc : cell ∉ A) (h96 : cell ≠ 99) (h57 : ¬ (cell = 60 ∧ idx = 67)) (hk : k < b) (hd : τ cell idx = τ 99 k) : τ' cell idx = τ' 99 k := by
  rw [h.2.2.2.2.1 cell idx hc h96 h57, h.2.2.2.2.2 k (by omega), hd]
theorem lo1 {F : Nat} {L : Nat → Int32 → nd_Mem → nd_Res} {z : nd_Mem → nd_Res} {b N c0 : Nat} (n0 : c0 ≠ 99 ∧ c0 ≠ 60)  (hb : b + 1 * N ≤ 2400) (hs : ∀ (f i : Nat) (τ : nd_Mem), i < N → L (f + 1) (nI i) τ = nd_bind (f_X11_keeps F (τ c0 i) τ) (fun r0 m0 => L f (nI (i + 1)) (nd_up m0 c0 i r0))) (he : ∀ (f : Nat) (τ : nd_Mem), L (f + 1) (nI N) τ = z τ) (hF : N < F) (τ : nd_Mem) (h67 : τ 60 67 = nI b) : ∃ τ' : nd_Mem, L F 0 τ = z τ' ∧ lo_ (τ 60 65) [c0] b (b + 1 * N) τ τ' ∧ ∀ i : Nat, i < N → τ' c0 i = τ' 99 (b + 1 * i + 0) := by
  have key := lpP (L := L) (P := fun i τ' => lo_ (τ 60 65) [c0] b (b + 1 * i) τ τ' ∧ ∀ j : Nat, j < i → τ' c0 j = τ' 99 (b + 1 * j + 0)) (N := N) (z := z) (fun f i s0 hi hP => ?_) (fun f τ' _ => he f τ') N 0 F τ (by omega) hF ⟨lo_rf h67, fun j hj => absurd hj (Nat.not_lt_zero j)⟩
  · exact key
  · obtain ⟨hl, hd⟩ := hP
    have x0 : s0 60 65 = τ 60 65 := hl.2.1
    obtain ⟨s1, e0, q0⟩ := e_item (F := F) (τ := s0) (cell := c0) (idx := i) (k := b + 1 * i) (K := fun s => L f (nI (i + 1)) s) n0.1 (fun e => n0.2 e.1) (by omega) hl.1
    rw [x0] at q0
    have l0 := lo_im (A := [c0]) (by simp) (fun e => n0.2 e.1) q0
    have x1 : s1 60 65 = τ 60 65 := by rw [l0.2.1, x0]
    refine ⟨s1, ?_, ?_, fun j hj => ?_⟩
    · rw [hs f i s0 hi, e0]
    · have w := lo_w (lo_tr (by omega) (by omega) hl l0) (B := [c0]) (by simp)
      exact w
    · by_cases hji : j = i
      · subst hji
        exact q0.2.1
      · have hd' := hd j (by omega)
        rw [q0.2.2.2.2 c0 j (fun e => hji e.2) (fun e => n0.1 e.1) (fun e => n0.2 e.1), l0.2.2.2.2.2 _ (by omega)]
        exact hd'
theorem lo2 {F : Nat} {L : Nat → Int32 → nd_Mem → nd_Res} {z : nd_Mem → nd_Res} {b N c0 c1 : Nat} (n0 : c0 ≠ 99 ∧ c0 ≠ 60) (n1 : c1 ≠ 99 ∧ c1 ≠ 60) (d01 : c0 ≠ c1) (hb : b + 2 * N ≤ 2400) (hs : ∀ (f i : Nat) (τ : nd_Mem), i < N → L (f + 1) (nI i) τ = nd_bind (f_X11_keeps F (τ c0 i) τ) (fun r0 m0 => nd_bind (f_X11_keeps F ((nd_up m0 c0 i r0) c1 i) (nd_up m0 c0 i r0)) (fun r1 m1 => L f (nI (i + 1)) (nd_up m1 c1 i r1)))) (he : ∀ (f : Nat) (τ : nd_Mem), L (f + 1) (nI N) τ = z τ) (hF : N < F) (τ : nd_Mem) (h67 : τ 60 67 = nI b) : ∃ τ' : nd_Mem, L F 0 τ = z τ' ∧ lo_ (τ 60 65) [c0, c1] b (b + 2 * N) τ τ' ∧ ∀ i : Nat, i < N → τ' c0 i = τ' 99 (b + 2 * i + 0) ∧ τ' c1 i = τ' 99 (b + 2 * i + 1) := by
  have key := lpP (L := L) (P := fun i τ' => lo_ (τ 60 65) [c0, c1] b (b + 2 * i) τ τ' ∧ ∀ j : Nat, j < i → τ' c0 j = τ' 99 (b + 2 * j + 0) ∧ τ' c1 j = τ' 99 (b + 2 * j + 1)) (N := N) (z := z) (fun f i s0 hi hP => ?_) (fun f τ' _ => he f τ') N 0 F τ (by omega) hF ⟨lo_rf h67, fun j hj => absurd hj (Nat.not_lt_zero j)⟩
  · exact key
  · obtain ⟨hl, hd⟩ := hP
    have x0 : s0 60 65 = τ 60 65 := hl.2.1
    obtain ⟨s1, e0, q0⟩ := e_item (F := F) (τ := s0) (cell := c0) (idx := i) (k := b + 2 * i) (K := fun s => nd_bind (f_X11_keeps F (s c1 i) s) (fun r1 m1 => L f (nI (i + 1)) (nd_up m1 c1 i r1))) n0.1 (fun e => n0.2 e.1) (by omega) hl.1
    rw [x0] at q0
    have l0 := lo_im (A := [c0, c1]) (by simp) (fun e => n0.2 e.1) q0
    have x1 : s1 60 65 = τ 60 65 := by rw [l0.2.1, x0]
    obtain ⟨s2, e1, q1⟩ := e_item (F := F) (τ := s1) (cell := c1) (idx := i) (k := b + 2 * i + 1) (K := fun s => L f (nI (i + 1)) s) n1.1 (fun e => n1.2 e.1) (by omega) q0.1
    rw [x1] at q1
    have l1 := lo_im (A := [c0, c1]) (by simp) (fun e => n1.2 e.1) q1
    have x2 : s2 60 65 = τ 60 65 := by rw [l1.2.1, x1]
    refine ⟨s2, ?_, ?_, fun j hj => ?_⟩
    · rw [hs f i s0 hi, e0, e1]
    · have w := lo_w (lo_tr (by omega) (by omega) (lo_tr (by omega) (by omega) hl l0) l1) (B := [c0, c1]) (by simp)
      exact w
    · by_cases hji : j = i
      · subst hji
        refine ⟨?_, ?_⟩
        · rw [q1.2.2.2.2 c0 j (fun e => d01 e.1) (fun e => n0.1 e.1) (fun e => n0.2 e.1), l1.2.2.2.2.2 _ (by omega)]
          exact q0.2.1
        · exact q1.2.1
      · have hd' := hd j (by omega)
        obtain ⟨z0, z1⟩ := hd'
        refine ⟨?_, ?_⟩
        · rw [q1.2.2.2.2 c0 j (fun e => hji e.2) (fun e => n0.1 e.1) (fun e => n0.2 e.1), q0.2.2.2.2 c0 j (fun e => hji e.2) (fun e => n0.1 e.1) (fun e => n0.2 e.1), l1.2.2.2.2.2 _ (by omega), l0.2.2.2.2.2 _ (by omega)]
          exact z0
        · rw [q1.2.2.2.2 c1 j (fun e => hji e.2) (fun e => n1.1 e.1) (fun e => n1.2 e.1), q0.2.2.2.2 c1 j (fun e => hji e.2) (fun e => n1.1 e.1) (fun e => n1.2 e.1), l1.2.2.2.2.2 _ (by omega), l0.2.2.2.2.2 _ (by omega)]
          exact z1
theorem lo3 {F : Nat} {L : Nat → Int32 → nd_Mem → nd_Res} {z : nd_Mem → nd_Res} {b N c0 c1 c2 : Nat} (n0 : c0 ≠ 99 ∧ c0 ≠ 60) (n1 : c1 ≠ 99 ∧ c1 ≠ 60) (n2 : c2 ≠ 99 ∧ c2 ≠ 60) (d01 : c0 ≠ c1) (d02 : c0 ≠ c2) (d12 : c1 ≠ c2) (hb : b + 3 * N ≤ 2400) (hs : ∀ (f i : Nat) (τ : nd_Mem), i < N → L (f + 1) (nI i) τ = nd_bind (f_X11_keeps F (τ c0 i) τ) (fun r0 m0 => nd_bind (f_X11_keeps F ((nd_up m0 c0 i r0) c1 i) (nd_up m0 c0 i r0)) (fun r1 m1 => nd_bind (f_X11_keeps F ((nd_up m1 c1 i r1) c2 i) (nd_up m1 c1 i r1)) (fun r2 m2 => L f (nI (i + 1)) (nd_up m2 c2 i r2))))) (he : ∀ (f : Nat) (τ : nd_Mem), L (f + 1) (nI N) τ = z τ) (hF : N < F) (τ : nd_Mem) (h67 : τ 60 67 = nI b) : ∃ τ' : nd_Mem, L F 0 τ = z τ' ∧ lo_ (τ 60 65) [c0, c1, c2] b (b + 3 * N) τ τ' ∧ ∀ i : Nat, i < N → τ' c0 i = τ' 99 (b + 3 * i + 0) ∧ τ' c1 i = τ' 99 (b + 3 * i + 1) ∧ τ' c2 i = τ' 99 (b + 3 * i + 2) := by
  have key := lpP (L := L) (P := fun i τ' => lo_ (τ 60 65) [c0, c1, c2] b (b + 3 * i) τ τ' ∧ ∀ j : Nat, j < i → τ' c0 j = τ' 99 (b + 3 * j + 0) ∧ τ' c1 j = τ' 99 (b + 3 * j + 1) ∧ τ' c2 j = τ' 99 (b + 3 * j + 2)) (N := N) (z := z) (fun f i s0 hi hP => ?_) (fun f τ' _ => he f τ') N 0 F τ (by omega) hF ⟨lo_rf h67, fun j hj => absurd hj (Nat.not_lt_zero j)⟩
  · exact key
  · obtain ⟨hl, hd⟩ := hP
    have x0 : s0 60 65 = τ 60 65 := hl.2.1
    obtain ⟨s1, e0, q0⟩ := e_item (F := F) (τ := s0) (cell := c0) (idx := i) (k := b + 3 * i) (K := fun s => nd_bind (f_X11_keeps F (s c1 i) s) (fun r1 m1 => nd_bind (f_X11_keeps F ((nd_up m1 c1 i r1) c2 i) (nd_up m1 c1 i r1)) (fun r2 m2 => L f (nI (i + 1)) (nd_up m2 c2 i r2)))) n0.1 (fun e => n0.2 e.1) (by omega) hl.1
    rw [x0] at q0
    have l0 := lo_im (A := [c0, c1, c2]) (by simp) (fun e => n0.2 e.1) q0
    have x1 : s1 60 65 = τ 60 65 := by rw [l0.2.1, x0]
    obtain ⟨s2, e1, q1⟩ := e_item (F := F) (τ := s1) (cell := c1) (idx := i) (k := b + 3 * i + 1) (K := fun s => nd_bind (f_X11_keeps F (s c2 i) s) (fun r2 m2 => L f (nI (i + 1)) (nd_up m2 c2 i r2))) n1.1 (fun e => n1.2 e.1) (by omega) q0.1
    rw [x1] at q1
    have l1 := lo_im (A := [c0, c1, c2]) (by simp) (fun e => n1.2 e.1) q1
    have x2 : s2 60 65 = τ 60 65 := by rw [l1.2.1, x1]
    obtain ⟨s3, e2, q2⟩ := e_item (F := F) (τ := s2) (cell := c2) (idx := i) (k := b + 3 * i + 2) (K := fun s => L f (nI (i + 1)) s) n2.1 (fun e => n2.2 e.1) (by omega) q1.1
    rw [x2] at q2
    have l2 := lo_im (A := [c0, c1, c2]) (by simp) (fun e => n2.2 e.1) q2
    have x3 : s3 60 65 = τ 60 65 := by rw [l2.2.1, x2]
    refine ⟨s3, ?_, ?_, fun j hj => ?_⟩
    · rw [hs f i s0 hi, e0, e1, e2]
    · have w := lo_w (lo_tr (by omega) (by omega) (lo_tr (by omega) (by omega) (lo_tr (by omega) (by omega) hl l0) l1) l2) (B := [c0, c1, c2]) (by simp)
      exact w
    · by_cases hji : j = i
      · subst hji
        refine ⟨?_, ?_, ?_⟩
        · rw [q2.2.2.2.2 c0 j (fun e => d02 e.1) (fun e => n0.1 e.1) (fun e => n0.2 e.1), q1.2.2.2.2 c0 j (fun e => d01 e.1) (fun e => n0.1 e.1) (fun e => n0.2 e.1), l2.2.2.2.2.2 _ (by omega), l1.2.2.2.2.2 _ (by omega)]
          exact q0.2.1
        · rw [q2.2.2.2.2 c1 j (fun e => d12 e.1) (fun e => n1.1 e.1) (fun e => n1.2 e.1), l2.2.2.2.2.2 _ (by omega)]
          exact q1.2.1
        · exact q2.2.1
      · have hd' := hd j (by omega)
        obtain ⟨z0, z1, z2⟩ := hd'
        refine ⟨?_, ?_, ?_⟩
        · rw [q2.2.2.2.2 c0 j (fun e => hji e.2) (fun e => n0.1 e.1) (fun e => n0.2 e.1), q1.2.2.2.2 c0 j (fun e => hji e.2) (fun e => n0.1 e.1) (fun e => n0.2 e.1), q0.2.2.2.2 c0 j (fun e => hji e.2) (fun e => n0.1 e.1) (fun e => n0.2 e.1), l2.2.2.2.2.2 _ (by omega), l1.2.2.2.2.2 _ (by omega), l0.2.2.2.2.2 _ (by omega)]
          exact z0
        · rw [q2.2.2.2.2 c1 j (fun e => hji e.2) (fun e => n1.1 e.1) (fun e => n1.2 e.1), q1.2.2.2.2 c1 j (fun e => hji e.2) (fun e => n1.1 e.1) (fun e => n1.2 e.1), q0.2.2.2.2 c1 j (fun e => hji e.2) (fun e => n1.1 e.1) (fun e => n1.2 e.1), l2.2.2.2.2.2 _ (by omega), l1.2.2.2.2.2 _ (by omega), l0.2.2.2.2.2 _ (by omega)]
          exact z1
        · rw [q2.2.2.2.2 c2 j (fun e => hji e.2) (fun e => n2.1 e.1) (fun e => n2.2 e.1), q1.2.2.2.2 c2 j (fun e => hji e.2) (fun e => n2.1 e.1) (fun e => n2.2 e.1), q0.2.2.2.2 c2 j (fun e => hji e.2) (fun e => n2.1 e.1) (fun e => n2.2 e.1), l2.2.2.2.2.2 _ (by omega), l1.2.2.2.2.2 _ (by omega), l0.2.2.2.2.2 _ (by omega)]
          exact z2
theorem lo4 {F : Nat} {L : Nat → Int32 → nd_Mem → nd_Res} {z : nd_Mem → nd_Res} {b N c0 c1 c2 c3 : Nat} (n0 : c0 ≠ 99 ∧ c0 ≠ 60) (n1 : c1 ≠ 99 ∧ c1 ≠ 60) (n2 : c2 ≠ 99 ∧ c2 ≠ 60) (n3 : c3 ≠ 99 ∧ c3 ≠ 60) (d01 : c0 ≠ c1) (d02 : c0 ≠ c2) (d12 : c1 ≠ c2) (d03 : c0 ≠ c3) (d13 : c1 ≠ c3) (d23 : c2 ≠ c3) (hb : b + 4 * N ≤ 2400) (hs : ∀ (f i : Nat) (τ : nd_Mem), i < N → L (f + 1) (nI i) τ = nd_bind (f_X11_keeps F (τ c0 i) τ) (fun r0 m0 => nd_bind (f_X11_keeps F ((nd_up m0 c0 i r0) c1 i) (nd_up m0 c0 i r0)) (fun r1 m1 => nd_bind (f_X11_keeps F ((nd_up m1 c1 i r1) c2 i) (nd_up m1 c1 i r1)) (fun r2 m2 => nd_bind (f_X11_keeps F ((nd_up m2 c2 i r2) c3 i) (nd_up m2 c2 i r2)) (fun r3 m3 => L f (nI (i + 1)) (nd_up m3 c3 i r3)))))) (he : ∀ (f : Nat) (τ : nd_Mem), L (f + 1) (nI N) τ = z τ) (hF : N < F) (τ : nd_Mem) (h67 : τ 60 67 = nI b) : ∃ τ' : nd_Mem, L F 0 τ = z τ' ∧ lo_ (τ 60 65) [c0, c1, c2, c3] b (b + 4 * N) τ τ' ∧ ∀ i : Nat, i < N → τ' c0 i = τ' 99 (b + 4 * i + 0) ∧ τ' c1 i = τ' 99 (b + 4 * i + 1) ∧ τ' c2 i = τ' 99 (b + 4 * i + 2) ∧ τ' c3 i = τ' 99 (b + 4 * i + 3) := by
  have key := lpP (L := L) (P := fun i τ' => lo_ (τ 60 65) [c0, c1, c2, c3] b (b + 4 * i) τ τ' ∧ ∀ j : Nat, j < i → τ' c0 j = τ' 99 (b + 4 * j + 0) ∧ τ' c1 j = τ' 99 (b + 4 * j + 1) ∧ τ' c2 j = τ' 99 (b + 4 * j + 2) ∧ τ' c3 j = τ' 99 (b + 4 * j + 3)) (N := N) (z := z) (fun f i s0 hi hP => ?_) (fun f τ' _ => he f τ') N 0 F τ (by omega) hF ⟨lo_rf h67, fun j hj => absurd hj (Nat.not_lt_zero j)⟩
  · exact key
  · obtain ⟨hl, hd⟩ := hP
    have x0 : s0 60 65 = τ 60 65 := hl.2.1
    obtain ⟨s1, e0, q0⟩ := e_item (F := F) (τ := s0) (cell := c0) (idx := i) (k := b + 4 * i) (K := fun s => nd_bind (f_X11_keeps F (s c1 i) s) (fun r1 m1 => nd_bind (f_X11_keeps F ((nd_up m1 c1 i r1) c2 i) (nd_up m1 c1 i r1)) (fun r2 m2 => nd_bind (f_X11_keeps F ((nd_up m2 c2 i r2) c3 i) (nd_up m2 c2 i r2)) (fun r3 m3 => L f (nI (i + 1)) (nd_up m3 c3 i r3))))) n0.1 (fun e => n0.2 e.1) (by omega) hl.1
    rw [x0] at q0
    have l0 := lo_im (A := [c0, c1, c2, c3]) (by simp) (fun e => n0.2 e.1) q0
    have x1 : s1 60 65 = τ 60 65 := by rw [l0.2.1, x0]
    obtain ⟨s2, e1, q1⟩ := e_item (F := F) (τ := s1) (cell := c1) (idx := i) (k := b + 4 * i + 1) (K := fun s => nd_bind (f_X11_keeps F (s c2 i) s) (fun r2 m2 => nd_bind (f_X11_keeps F ((nd_up m2 c2 i r2) c3 i) (nd_up m2 c2 i r2)) (fun r3 m3 => L f (nI (i + 1)) (nd_up m3 c3 i r3)))) n1.1 (fun e => n1.2 e.1) (by omega) q0.1
    rw [x1] at q1
    have l1 := lo_im (A := [c0, c1, c2, c3]) (by simp) (fun e => n1.2 e.1) q1
    have x2 : s2 60 65 = τ 60 65 := by rw [l1.2.1, x1]
    obtain ⟨s3, e2, q2⟩ := e_item (F := F) (τ := s2) (cell := c2) (idx := i) (k := b + 4 * i + 2) (K := fun s => nd_bind (f_X11_keeps F (s c3 i) s) (fun r3 m3 => L f (nI (i + 1)) (nd_up m3 c3 i r3))) n2.1 (fun e => n2.2 e.1) (by omega) q1.1
    rw [x2] at q2
    have l2 := lo_im (A := [c0, c1, c2, c3]) (by simp) (fun e => n2.2 e.1) q2
    have x3 : s3 60 65 = τ 60 65 := by rw [l2.2.1, x2]
    obtain ⟨s4, e3, q3⟩ := e_item (F := F) (τ := s3) (cell := c3) (idx := i) (k := b + 4 * i + 3) (K := fun s => L f (nI (i + 1)) s) n3.1 (fun e => n3.2 e.1) (by omega) q2.1
    rw [x3] at q3
    have l3 := lo_im (A := [c0, c1, c2, c3]) (by simp) (fun e => n3.2 e.1) q3
    have x4 : s4 60 65 = τ 60 65 := by rw [l3.2.1, x3]
    refine ⟨s4, ?_, ?_, fun j hj => ?_⟩
    · rw [hs f i s0 hi, e0, e1, e2, e3]
    · have w := lo_w (lo_tr (by omega) (by omega) (lo_tr (by omega) (by omega) (lo_tr (by omega) (by omega) (lo_tr (by omega) (by omega) hl l0) l1) l2) l3) (B := [c0, c1, c2, c3]) (by simp)
      exact w
    · by_cases hji : j = i
      · subst hji
        refine ⟨?_, ?_, ?_, ?_⟩
        · rw [q3.2.2.2.2 c0 j (fun e => d03 e.1) (fun e => n0.1 e.1) (fun e => n0.2 e.1), q2.2.2.2.2 c0 j (fun e => d02 e.1) (fun e => n0.1 e.1) (fun e => n0.2 e.1), q1.2.2.2.2 c0 j (fun e => d01 e.1) (fun e => n0.1 e.1) (fun e => n0.2 e.1), l3.2.2.2.2.2 _ (by omega), l2.2.2.2.2.2 _ (by omega), l1.2.2.2.2.2 _ (by omega)]
          exact q0.2.1
        · rw [q3.2.2.2.2 c1 j (fun e => d13 e.1) (fun e => n1.1 e.1) (fun e => n1.2 e.1), q2.2.2.2.2 c1 j (fun e => d12 e.1) (fun e => n1.1 e.1) (fun e => n1.2 e.1), l3.2.2.2.2.2 _ (by omega), l2.2.2.2.2.2 _ (by omega)]
          exact q1.2.1
        · rw [q3.2.2.2.2 c2 j (fun e => d23 e.1) (fun e => n2.1 e.1) (fun e => n2.2 e.1), l3.2.2.2.2.2 _ (by omega)]
          exact q2.2.1
        · exact q3.2.1
      · have hd' := hd j (by omega)
        obtain ⟨z0, z1, z2, z3⟩ := hd'
        refine ⟨?_, ?_, ?_, ?_⟩
        · rw [q3.2.2.2.2 c0 j (fun e => hji e.2) (fun e => n0.1 e.1) (fun e => n0.2 e.1), q2.2.2.2.2 c0 j (fun e => hji e.2) (fun e => n0.1 e.1) (fun e => n0.2 e.1), q1.2.2.2.2 c0 j (fun e => hji e.2) (fun e => n0.1 e.1) (fun e => n0.2 e.1), q0.2.2.2.2 c0 j (fun e => hji e.2) (fun e => n0.1 e.1) (fun e => n0.2 e.1), l3.2.2.2.2.2 _ (by omega), l2.2.2.2.2.2 _ (by omega), l1.2.2.2.2.2 _ (by omega), l0.2.2.2.2.2 _ (by omega)]
          exact z0
        · rw [q3.2.2.2.2 c1 j (fun e => hji e.2) (fun e => n1.1 e.1) (fun e => n1.2 e.1), q2.2.2.2.2 c1 j (fun e => hji e.2) (fun e => n1.1 e.1) (fun e => n1.2 e.1), q1.2.2.2.2 c1 j (fun e => hji e.2) (fun e => n1.1 e.1) (fun e => n1.2 e.1), q0.2.2.2.2 c1 j (fun e => hji e.2) (fun e => n1.1 e.1) (fun e => n1.2 e.1), l3.2.2.2.2.2 _ (by omega), l2.2.2.2.2.2 _ (by omega), l1.2.2.2.2.2 _ (by omega), l0.2.2.2.2.2 _ (by omega)]
          exact z1
        · rw [q3.2.2.2.2 c2 j (fun e => hji e.2) (fun e => n2.1 e.1) (fun e => n2.2 e.1), q2.2.2.2.2 c2 j (fun e => hji e.2) (fun e => n2.1 e.1) (fun e => n2.2 e.1), q1.2.2.2.2 c2 j (fun e => hji e.2) (fun e => n2.1 e.1) (fun e => n2.2 e.1), q0.2.2.2.2 c2 j (fun e => hji e.2) (fun e => n2.1 e.1) (fun e => n2.2 e.1), l3.2.2.2.2.2 _ (by omega), l2.2.2.2.2.2 _ (by omega), l1.2.2.2.2.2 _ (by omega), l0.2.2.2.2.2 _ (by omega)]
          exact z2
        · rw [q3.2.2.2.2 c3 j (fun e => hji e.2) (fun e => n3.1 e.1) (fun e => n3.2 e.1), q2.2.2.2.2 c3 j (fun e => hji e.2) (fun e => n3.1 e.1) (fun e => n3.2 e.1), q1.2.2.2.2 c3 j (fun e => hji e.2) (fun e => n3.1 e.1) (fun e => n3.2 e.1), q0.2.2.2.2 c3 j (fun e => hji e.2) (fun e => n3.1 e.1) (fun e => n3.2 e.1), l3.2.2.2.2.2 _ (by omega), l2.2.2.2.2.2 _ (by omega), l1.2.2.2.2.2 _ (by omega), l0.2.2.2.2.2 _ (by omega)]
          exact z3
