/-! the walk: two memories, the class's c and the reference's r -/
def wk_ (b st sa n : Nat) (c r : nd_Mem) : Prop := (n ≤ 16 ∧ r 60 6 = nI n) ∧ iv_S (c st) (c sa) (r 61) n ∧ iv_law c r ∧ iv_plan c r n ∧ iv_feud c r n ∧ iv_side c r ∧ q8_ c r ∧ ((c b 3 = 0 ∧ r 60 5 = 0) ∨ (c b 3 = 1 ∧ r 60 5 = 1))
abbrev fc_ (b a st sa : Nat) (c c' : nd_Mem) : Prop := fr_ [b, a, st, sa, 11] [] c c'
abbrev fm_ (r r' : nd_Mem) : Prop := fr_ [61, 64, 78, 79, 80] [] r r'
theorem fr_t {S K : List Nat} {σ τ ρ : nd_Mem} (h1 : fr_ S K σ τ) (h2 : fr_ S K τ ρ) : fr_ S K σ ρ := ⟨fun i hi h57 => by rw [h2.1 i hi h57, h1.1 i hi h57], fun k hk => by rw [h2.2 k hk, h1.2 k hk]⟩
section WK
variable {b a st sa n h : Nat} {c r c' r' : nd_Mem} {v : Int32} {s cc w : Nat → Int32}
theorem S_c0 (h16 : n ≤ 16) (hS : iv_S s cc w n) (hh : h < n) (h0 : 0 ≤ v) (h9 : v ≤ 9) : iv_S s (upd cc (h * 6) v) (upd w (7 + h) v) n := by
  obtain ⟨s1, s3, s4, s5, s6, s7, s8, s9, s10, s11, s12⟩ := hS
  unfold iv_S
  simp (disch := omega) only [upd_eq, upd_ne]
  refine ⟨s1, s3, s4, s5, s6, s7, s8, s9, s10, s11, fun g hg => ?_⟩
  have := s12 g hg
  by_cases hgh : g = h
  · subst hgh
    simp (disch := omega) only [upd_eq, upd_ne]
    exact ⟨⟨trivial, h0, h9⟩, this.2⟩
  · simp (disch := omega) only [upd_eq, upd_ne]
    exact this
theorem S_c1 (h16 : n ≤ 16) (hS : iv_S s cc w n) (hh : h < n) (h0 : 0 ≤ v) (h9 : v ≤ 9) : iv_S s (upd cc (h * 6 + 1) v) (upd w (23 + h) v) n := by
  obtain ⟨s1, s3, s4, s5, s6, s7, s8, s9, s10, s11, s12⟩ := hS
  unfold iv_S
  simp (disch := omega) only [upd_eq, upd_ne]
  refine ⟨s1, s3, s4, s5, s6, s7, s8, s9, s10, s11, fun g hg => ?_⟩
  have := s12 g hg
  by_cases hgh : g = h
  · subst hgh
    simp (disch := omega) only [upd_eq, upd_ne]
    exact ⟨this.1, ⟨trivial, h0, h9⟩, this.2.2⟩
  · simp (disch := omega) only [upd_eq, upd_ne]
    exact this
theorem S_c2 (h16 : n ≤ 16) (hS : iv_S s cc w n) (hh : h < n) (h0 : 0 ≤ v) (h9 : v ≤ 9999) : iv_S s (upd cc (h * 6 + 2) v) (upd w (55 + h) v) n := by
  obtain ⟨s1, s3, s4, s5, s6, s7, s8, s9, s10, s11, s12⟩ := hS
  unfold iv_S
  simp (disch := omega) only [upd_eq, upd_ne]
  refine ⟨s1, s3, s4, s5, s6, s7, s8, s9, s10, s11, fun g hg => ?_⟩
  have := s12 g hg
  by_cases hgh : g = h
  · subst hgh
    simp (disch := omega) only [upd_eq, upd_ne]
    exact ⟨this.1, this.2.1, ⟨trivial, h0, h9⟩, this.2.2.2⟩
  · simp (disch := omega) only [upd_eq, upd_ne]
    exact this
theorem S_c3 (h16 : n ≤ 16) (hS : iv_S s cc w n) (hh : h < n) (h0 : 0 ≤ v) (h9 : v ≤ 9) : iv_S s (upd cc (h * 6 + 3) v) (upd w (39 + h) v) n := by
  obtain ⟨s1, s3, s4, s5, s6, s7, s8, s9, s10, s11, s12⟩ := hS
  unfold iv_S
  simp (disch := omega) only [upd_eq, upd_ne]
  refine ⟨s1, s3, s4, s5, s6, s7, s8, s9, s10, s11, fun g hg => ?_⟩
  have := s12 g hg
  by_cases hgh : g = h
  · subst hgh
    simp (disch := omega) only [upd_eq, upd_ne]
    exact ⟨this.1, this.2.1, this.2.2.1, ⟨trivial, h0, h9⟩, this.2.2.2.2⟩
  · simp (disch := omega) only [upd_eq, upd_ne]
    exact this
theorem S_c4 (h16 : n ≤ 16) (hS : iv_S s cc w n) (hh : h < n) (h0 : 0 ≤ v) (h9 : v ≤ 1) : iv_S s (upd cc (h * 6 + 4) v) (upd w (87 + h) v) n := by
  obtain ⟨s1, s3, s4, s5, s6, s7, s8, s9, s10, s11, s12⟩ := hS
  unfold iv_S
  simp (disch := omega) only [upd_eq, upd_ne]
  refine ⟨s1, s3, s4, s5, s6, s7, s8, s9, s10, s11, fun g hg => ?_⟩
  have := s12 g hg
  by_cases hgh : g = h
  · subst hgh
    simp (disch := omega) only [upd_eq, upd_ne]
    exact ⟨this.1, this.2.1, this.2.2.1, this.2.2.2.1, ⟨trivial, h0, h9⟩, this.2.2.2.2.2⟩
  · simp (disch := omega) only [upd_eq, upd_ne]
    exact this
theorem S_c5 (h16 : n ≤ 16) (hS : iv_S s cc w n) (hh : h < n) (h0 : 0 ≤ v) (h9 : v ≤ 16) : iv_S s (upd cc (h * 6 + 5) (v - 1)) (upd w (71 + h) v) n := by
  obtain ⟨s1, s3, s4, s5, s6, s7, s8, s9, s10, s11, s12⟩ := hS
  unfold iv_S
  simp (disch := omega) only [upd_eq, upd_ne]
  refine ⟨s1, s3, s4, s5, s6, s7, s8, s9, s10, s11, fun g hg => ?_⟩
  have := s12 g hg
  by_cases hgh : g = h
  · subst hgh
    simp (disch := omega) only [upd_eq, upd_ne]
    exact ⟨this.1, this.2.1, this.2.2.1, this.2.2.2.1, this.2.2.2.2.1, ⟨trivial, h0, h9⟩⟩
  · simp (disch := omega) only [upd_eq, upd_ne]
    exact this
theorem S_jug (hp : 0 < n) (h16 : n ≤ 16) (hS : iv_S s cc w n) : iv_S (upd s 2 v) cc (upd w 6 v) n := by
  obtain ⟨s1, s3, s4, s5, s6, s7, s8, s9, s10, s11, s12⟩ := hS
  have s12' : ∀ g : Nat, g < n → (cc (g * 6) = upd w 6 v (7 + g) ∧ 0 ≤ upd w 6 v (7 + g) ∧ upd w 6 v (7 + g) ≤ 9) ∧ (cc (g * 6 + 1) = upd w 6 v (23 + g) ∧ 0 ≤ upd w 6 v (23 + g) ∧ upd w 6 v (23 + g) ≤ 9) ∧ (cc (g * 6 + 2) = upd w 6 v (55 + g) ∧ 0 ≤ upd w 6 v (55 + g) ∧ upd w 6 v (55 + g) ≤ 9999) ∧ (cc (g * 6 + 3) = upd w 6 v (39 + g) ∧ 0 ≤ upd w 6 v (39 + g) ∧ upd w 6 v (39 + g) ≤ 9) ∧ (cc (g * 6 + 4) = upd w 6 v (87 + g) ∧ 0 ≤ upd w 6 v (87 + g) ∧ upd w 6 v (87 + g) ≤ 1) ∧ (cc (g * 6 + 5) = upd w 6 v (71 + g) - 1 ∧ 0 ≤ upd w 6 v (71 + g) ∧ upd w 6 v (71 + g) ≤ 16) := by
    intro g hg
    have := s12 g hg
    simp (disch := omega) only [upd_eq, upd_ne]
    exact this
  refine ⟨?_, ?_, ?_, ?_, ?_, ?_, ?_, ?_, ?_, ?_, s12'⟩
  · rw [upd_ne (by omega)]; exact s1
  · rw [upd_ne (by omega), upd_ne (by omega)]; exact s3
  · rw [upd_ne (by omega), upd_ne (by omega)]; exact s4
  · rw [upd_ne (by omega), upd_ne (by omega)]; exact s5
  · rw [upd_ne (by omega), upd_ne (by omega)]; exact s6
  · rw [upd_ne (by omega), upd_ne (by omega)]; exact s7
  · rw [upd_ne (by omega), upd_ne (by omega)]; exact s8
  · rw [upd_ne (by omega)]; exact s9
  · exact fun e => absurd e (by omega)
  · exact fun _ => by rw [upd_eq, upd_eq]
theorem S_gone (h16 : n ≤ 16) (hS : iv_S s cc w n) : iv_S (upd s 3 v) cc (upd w 3 v) n := by
  obtain ⟨s1, s3, s4, s5, s6, s7, s8, s9, s10, s11, s12⟩ := hS
  have s12' : ∀ g : Nat, g < n → (cc (g * 6) = upd w 3 v (7 + g) ∧ 0 ≤ upd w 3 v (7 + g) ∧ upd w 3 v (7 + g) ≤ 9) ∧ (cc (g * 6 + 1) = upd w 3 v (23 + g) ∧ 0 ≤ upd w 3 v (23 + g) ∧ upd w 3 v (23 + g) ≤ 9) ∧ (cc (g * 6 + 2) = upd w 3 v (55 + g) ∧ 0 ≤ upd w 3 v (55 + g) ∧ upd w 3 v (55 + g) ≤ 9999) ∧ (cc (g * 6 + 3) = upd w 3 v (39 + g) ∧ 0 ≤ upd w 3 v (39 + g) ∧ upd w 3 v (39 + g) ≤ 9) ∧ (cc (g * 6 + 4) = upd w 3 v (87 + g) ∧ 0 ≤ upd w 3 v (87 + g) ∧ upd w 3 v (87 + g) ≤ 1) ∧ (cc (g * 6 + 5) = upd w 3 v (71 + g) - 1 ∧ 0 ≤ upd w 3 v (71 + g) ∧ upd w 3 v (71 + g) ≤ 16) := by
    intro g hg
    have := s12 g hg
    simp (disch := omega) only [upd_eq, upd_ne]
    exact this
  refine ⟨?_, ?_, ?_, ?_, ?_, ?_, ?_, ?_, ?_, ?_, s12'⟩
  · rw [upd_ne (by omega)]; exact s1
  · rw [upd_eq, upd_eq]
  · rw [upd_ne (by omega), upd_ne (by omega)]; exact s4
  · rw [upd_ne (by omega), upd_ne (by omega)]; exact s5
  · rw [upd_ne (by omega), upd_ne (by omega)]; exact s6
  · rw [upd_ne (by omega), upd_ne (by omega)]; exact s7
  · rw [upd_ne (by omega), upd_ne (by omega)]; exact s8
  · rw [upd_ne (by omega)]; exact s9
  · rw [upd_ne (by omega), upd_ne (by omega)]; exact s10
  · rw [upd_ne (by omega), upd_ne (by omega)]; exact s11
theorem S_gaps (h16 : n ≤ 16) (hS : iv_S s cc w n) : iv_S (upd s 4 v) cc (upd w 4 v) n := by
  obtain ⟨s1, s3, s4, s5, s6, s7, s8, s9, s10, s11, s12⟩ := hS
  have s12' : ∀ g : Nat, g < n → (cc (g * 6) = upd w 4 v (7 + g) ∧ 0 ≤ upd w 4 v (7 + g) ∧ upd w 4 v (7 + g) ≤ 9) ∧ (cc (g * 6 + 1) = upd w 4 v (23 + g) ∧ 0 ≤ upd w 4 v (23 + g) ∧ upd w 4 v (23 + g) ≤ 9) ∧ (cc (g * 6 + 2) = upd w 4 v (55 + g) ∧ 0 ≤ upd w 4 v (55 + g) ∧ upd w 4 v (55 + g) ≤ 9999) ∧ (cc (g * 6 + 3) = upd w 4 v (39 + g) ∧ 0 ≤ upd w 4 v (39 + g) ∧ upd w 4 v (39 + g) ≤ 9) ∧ (cc (g * 6 + 4) = upd w 4 v (87 + g) ∧ 0 ≤ upd w 4 v (87 + g) ∧ upd w 4 v (87 + g) ≤ 1) ∧ (cc (g * 6 + 5) = upd w 4 v (71 + g) - 1 ∧ 0 ≤ upd w 4 v (71 + g) ∧ upd w 4 v (71 + g) ≤ 16) := by
    intro g hg
    have := s12 g hg
    simp (disch := omega) only [upd_eq, upd_ne]
    exact this
  refine ⟨?_, ?_, ?_, ?_, ?_, ?_, ?_, ?_, ?_, ?_, s12'⟩
  · rw [upd_ne (by omega)]; exact s1
  · rw [upd_ne (by omega), upd_ne (by omega)]; exact s3
  · rw [upd_eq, upd_eq]
  · rw [upd_ne (by omega), upd_ne (by omega)]; exact s5
  · rw [upd_ne (by omega), upd_ne (by omega)]; exact s6
  · rw [upd_ne (by omega), upd_ne (by omega)]; exact s7
  · rw [upd_ne (by omega), upd_ne (by omega)]; exact s8
  · rw [upd_ne (by omega)]; exact s9
  · rw [upd_ne (by omega), upd_ne (by omega)]; exact s10
  · rw [upd_ne (by omega), upd_ne (by omega)]; exact s11
theorem S_wed (h16 : n ≤ 16) (hS : iv_S s cc w n) : iv_S (upd s 5 v) cc (upd w 5 v) n := by
  obtain ⟨s1, s3, s4, s5, s6, s7, s8, s9, s10, s11, s12⟩ := hS
  have s12' : ∀ g : Nat, g < n → (cc (g * 6) = upd w 5 v (7 + g) ∧ 0 ≤ upd w 5 v (7 + g) ∧ upd w 5 v (7 + g) ≤ 9) ∧ (cc (g * 6 + 1) = upd w 5 v (23 + g) ∧ 0 ≤ upd w 5 v (23 + g) ∧ upd w 5 v (23 + g) ≤ 9) ∧ (cc (g * 6 + 2) = upd w 5 v (55 + g) ∧ 0 ≤ upd w 5 v (55 + g) ∧ upd w 5 v (55 + g) ≤ 9999) ∧ (cc (g * 6 + 3) = upd w 5 v (39 + g) ∧ 0 ≤ upd w 5 v (39 + g) ∧ upd w 5 v (39 + g) ≤ 9) ∧ (cc (g * 6 + 4) = upd w 5 v (87 + g) ∧ 0 ≤ upd w 5 v (87 + g) ∧ upd w 5 v (87 + g) ≤ 1) ∧ (cc (g * 6 + 5) = upd w 5 v (71 + g) - 1 ∧ 0 ≤ upd w 5 v (71 + g) ∧ upd w 5 v (71 + g) ≤ 16) := by
    intro g hg
    have := s12 g hg
    simp (disch := omega) only [upd_eq, upd_ne]
    exact this
  refine ⟨?_, ?_, ?_, ?_, ?_, ?_, ?_, ?_, ?_, ?_, s12'⟩
  · rw [upd_ne (by omega)]; exact s1
  · rw [upd_ne (by omega), upd_ne (by omega)]; exact s3
  · rw [upd_ne (by omega), upd_ne (by omega)]; exact s4
  · rw [upd_eq, upd_eq]
  · rw [upd_ne (by omega), upd_ne (by omega)]; exact s6
  · rw [upd_ne (by omega), upd_ne (by omega)]; exact s7
  · rw [upd_ne (by omega), upd_ne (by omega)]; exact s8
  · rw [upd_ne (by omega)]; exact s9
  · rw [upd_ne (by omega), upd_ne (by omega)]; exact s10
  · rw [upd_ne (by omega), upd_ne (by omega)]; exact s11
theorem S_gen (h16 : n ≤ 16) (hS : iv_S s cc w n) : iv_S (upd s 6 v) cc (upd w 0 v) n := by
  obtain ⟨s1, s3, s4, s5, s6, s7, s8, s9, s10, s11, s12⟩ := hS
  have s12' : ∀ g : Nat, g < n → (cc (g * 6) = upd w 0 v (7 + g) ∧ 0 ≤ upd w 0 v (7 + g) ∧ upd w 0 v (7 + g) ≤ 9) ∧ (cc (g * 6 + 1) = upd w 0 v (23 + g) ∧ 0 ≤ upd w 0 v (23 + g) ∧ upd w 0 v (23 + g) ≤ 9) ∧ (cc (g * 6 + 2) = upd w 0 v (55 + g) ∧ 0 ≤ upd w 0 v (55 + g) ∧ upd w 0 v (55 + g) ≤ 9999) ∧ (cc (g * 6 + 3) = upd w 0 v (39 + g) ∧ 0 ≤ upd w 0 v (39 + g) ∧ upd w 0 v (39 + g) ≤ 9) ∧ (cc (g * 6 + 4) = upd w 0 v (87 + g) ∧ 0 ≤ upd w 0 v (87 + g) ∧ upd w 0 v (87 + g) ≤ 1) ∧ (cc (g * 6 + 5) = upd w 0 v (71 + g) - 1 ∧ 0 ≤ upd w 0 v (71 + g) ∧ upd w 0 v (71 + g) ≤ 16) := by
    intro g hg
    have := s12 g hg
    simp (disch := omega) only [upd_eq, upd_ne]
    exact this
  refine ⟨?_, ?_, ?_, ?_, ?_, ?_, ?_, ?_, ?_, ?_, s12'⟩
  · rw [upd_ne (by omega)]; exact s1
  · rw [upd_ne (by omega), upd_ne (by omega)]; exact s3
  · rw [upd_ne (by omega), upd_ne (by omega)]; exact s4
  · rw [upd_ne (by omega), upd_ne (by omega)]; exact s5
  · rw [upd_eq, upd_eq]
  · rw [upd_ne (by omega), upd_ne (by omega)]; exact s7
  · rw [upd_ne (by omega), upd_ne (by omega)]; exact s8
  · rw [upd_ne (by omega)]; exact s9
  · rw [upd_ne (by omega), upd_ne (by omega)]; exact s10
  · rw [upd_ne (by omega), upd_ne (by omega)]; exact s11
theorem S_luck (h16 : n ≤ 16) (hS : iv_S s cc w n) : iv_S (upd s 7 v) cc (upd w 1 v) n := by
  obtain ⟨s1, s3, s4, s5, s6, s7, s8, s9, s10, s11, s12⟩ := hS
  have s12' : ∀ g : Nat, g < n → (cc (g * 6) = upd w 1 v (7 + g) ∧ 0 ≤ upd w 1 v (7 + g) ∧ upd w 1 v (7 + g) ≤ 9) ∧ (cc (g * 6 + 1) = upd w 1 v (23 + g) ∧ 0 ≤ upd w 1 v (23 + g) ∧ upd w 1 v (23 + g) ≤ 9) ∧ (cc (g * 6 + 2) = upd w 1 v (55 + g) ∧ 0 ≤ upd w 1 v (55 + g) ∧ upd w 1 v (55 + g) ≤ 9999) ∧ (cc (g * 6 + 3) = upd w 1 v (39 + g) ∧ 0 ≤ upd w 1 v (39 + g) ∧ upd w 1 v (39 + g) ≤ 9) ∧ (cc (g * 6 + 4) = upd w 1 v (87 + g) ∧ 0 ≤ upd w 1 v (87 + g) ∧ upd w 1 v (87 + g) ≤ 1) ∧ (cc (g * 6 + 5) = upd w 1 v (71 + g) - 1 ∧ 0 ≤ upd w 1 v (71 + g) ∧ upd w 1 v (71 + g) ≤ 16) := by
    intro g hg
    have := s12 g hg
    simp (disch := omega) only [upd_eq, upd_ne]
    exact this
  refine ⟨?_, ?_, ?_, ?_, ?_, ?_, ?_, ?_, ?_, ?_, s12'⟩
  · rw [upd_ne (by omega)]; exact s1
  · rw [upd_ne (by omega), upd_ne (by omega)]; exact s3
  · rw [upd_ne (by omega), upd_ne (by omega)]; exact s4
  · rw [upd_ne (by omega), upd_ne (by omega)]; exact s5
  · rw [upd_ne (by omega), upd_ne (by omega)]; exact s6
  · rw [upd_eq, upd_eq]
  · rw [upd_ne (by omega), upd_ne (by omega)]; exact s8
  · rw [upd_ne (by omega)]; exact s9
  · rw [upd_ne (by omega), upd_ne (by omega)]; exact s10
  · rw [upd_ne (by omega), upd_ne (by omega)]; exact s11
theorem S_lines (h16 : n ≤ 16) (hS : iv_S s cc w n) (h0 : 0 ≤ v) (h9 : v ≤ 150) : iv_S (upd s 8 v) cc (upd w 2 v) n := by
  obtain ⟨s1, s3, s4, s5, s6, s7, s8, s9, s10, s11, s12⟩ := hS
  have s12' : ∀ g : Nat, g < n → (cc (g * 6) = upd w 2 v (7 + g) ∧ 0 ≤ upd w 2 v (7 + g) ∧ upd w 2 v (7 + g) ≤ 9) ∧ (cc (g * 6 + 1) = upd w 2 v (23 + g) ∧ 0 ≤ upd w 2 v (23 + g) ∧ upd w 2 v (23 + g) ≤ 9) ∧ (cc (g * 6 + 2) = upd w 2 v (55 + g) ∧ 0 ≤ upd w 2 v (55 + g) ∧ upd w 2 v (55 + g) ≤ 9999) ∧ (cc (g * 6 + 3) = upd w 2 v (39 + g) ∧ 0 ≤ upd w 2 v (39 + g) ∧ upd w 2 v (39 + g) ≤ 9) ∧ (cc (g * 6 + 4) = upd w 2 v (87 + g) ∧ 0 ≤ upd w 2 v (87 + g) ∧ upd w 2 v (87 + g) ≤ 1) ∧ (cc (g * 6 + 5) = upd w 2 v (71 + g) - 1 ∧ 0 ≤ upd w 2 v (71 + g) ∧ upd w 2 v (71 + g) ≤ 16) := by
    intro g hg
    have := s12 g hg
    simp (disch := omega) only [upd_eq, upd_ne]
    exact this
  refine ⟨?_, ?_, ?_, ?_, ?_, ?_, ?_, ?_, ?_, ?_, s12'⟩
  · rw [upd_ne (by omega)]; exact s1
  · rw [upd_ne (by omega), upd_ne (by omega)]; exact s3
  · rw [upd_ne (by omega), upd_ne (by omega)]; exact s4
  · rw [upd_ne (by omega), upd_ne (by omega)]; exact s5
  · rw [upd_ne (by omega), upd_ne (by omega)]; exact s6
  · rw [upd_ne (by omega), upd_ne (by omega)]; exact s7
  · rw [upd_eq, upd_eq]
  · rw [upd_eq]; exact ⟨h0, h9⟩
  · rw [upd_ne (by omega), upd_ne (by omega)]; exact s10
  · rw [upd_ne (by omega), upd_ne (by omega)]; exact s11
theorem law_c {σ τ σ' τ' : nd_Mem} (h4 : σ' 4 = σ 4) (h5 : σ' 5 = σ 5) (h6 : σ' 6 = σ 6) (h7 : σ' 7 = σ 7) (g64 : τ' 67 = τ 67) (g65 : τ' 68 = τ 68) (g66 : τ' 69 = τ 69) (g67 : τ' 70 = τ 70) (g68 : τ' 71 = τ 71) (g69 : τ' 72 = τ 72) (g70 : τ' 73 = τ 73) (hp : iv_law σ τ) : iv_law σ' τ' := by
  have hh : iv_law σ' τ' = (iv_law σ τ) := by
    unfold iv_law iv_line
    simp only [h4, h5, h6, h7, g64, g65, g66, g67, g68, g69, g70]
  rw [hh]; exact hp
theorem plan_c {σ τ σ' τ' : nd_Mem} (h8 : σ' 8 = σ 8) (h9 : σ' 9 = σ 9) (g72 : τ' 75 = τ 75) (g57 : τ' 60 31 = τ 60 31) (hp : iv_plan σ τ n) : iv_plan σ' τ' n := by
  have hh : iv_plan σ' τ' n = (iv_plan σ τ n) := by
    unfold iv_plan iv_deed
    simp only [h8, h9, g72, g57]
  rw [hh]; exact hp
theorem feud_c {σ τ σ' τ' : nd_Mem} (h3 : σ' 3 = σ 3) (h10 : σ' 10 = σ 10) (g73 : τ' 76 = τ 76) (g57 : τ' 60 33 = τ 60 33) (hp : iv_feud σ τ n) : iv_feud σ' τ' n := by
  unfold iv_feud
  rw [h3, h10, g73, g57]
  exact hp
theorem side_c {σ τ σ' τ' : nd_Mem} (h3 : σ' 3 = σ 3) (g74 : τ' 77 = τ 77) (g57 : τ' 60 35 = τ 60 35) (hp : iv_side σ τ) : iv_side σ' τ' := by
  unfold iv_side
  rw [h3, g74, g57]
  exact hp
theorem fc_at (hq : (b = 51 ∧ a = 52 ∧ st = 1 ∧ sa = 2) ∨ (b = 55 ∧ a = 56 ∧ st = 53 ∧ sa = 54)) (hc : fc_ b a st sa c c') {i : Nat} (hi : 3 ≤ i ∧ i ≤ 10) : c' i = c i := hc.1 i (by simp only [List.mem_cons, List.not_mem_nil, or_false]; omega) (by omega)
theorem fm_at (hr : fm_ r r') {i : Nat} (hi : i ≠ 60 ∧ i ≠ 61 ∧ i ≠ 64 ∧ i ≠ 78 ∧ i ≠ 79 ∧ i ≠ 80) : r' i = r i := hr.1 i (by simp only [List.mem_cons, List.not_mem_nil, or_false]; omega) (by omega)
theorem wk_mk (hq : (b = 51 ∧ a = 52 ∧ st = 1 ∧ sa = 2) ∨ (b = 55 ∧ a = 56 ∧ st = 53 ∧ sa = 54)) (h : wk_ b st sa n c r) (hc : fc_ b a st sa c c') (hr : fm_ r r') (hS : iv_S (c' st) (c' sa) (r' 61) n) (hb : c' b 3 = c b 3) (hp : q8_ c r → q8_ c' r') : wk_ b st sa n c' r' := by
  obtain ⟨hn, _, h2, h3, h4, h5, h8, h6⟩ := h
  refine ⟨⟨hn.1, by rw [hr.2 6 (by decide)]; exact hn.2⟩, hS, ?_, ?_, ?_, ?_, hp h8, ?_⟩
  · exact law_c (fc_at hq hc (by omega)) (fc_at hq hc (by omega)) (fc_at hq hc (by omega)) (fc_at hq hc (by omega)) (fm_at hr (by omega)) (fm_at hr (by omega)) (fm_at hr (by omega)) (fm_at hr (by omega)) (fm_at hr (by omega)) (fm_at hr (by omega)) (fm_at hr (by omega)) h2
  · exact plan_c (fc_at hq hc (by omega)) (fc_at hq hc (by omega)) (fm_at hr (by omega)) (hr.2 31 (by decide)) h3
  · exact feud_c (fc_at hq hc (by omega)) (fc_at hq hc (by omega)) (fm_at hr (by omega)) (hr.2 33 (by decide)) h4
  · exact side_c (fc_at hq hc (by omega)) (fm_at hr (by omega)) (hr.2 35 (by decide)) h5
  · rw [hb, hr.2 5 (by decide)]
    exact h6
theorem fc_sa (hq : (b = 51 ∧ a = 52 ∧ st = 1 ∧ sa = 2) ∨ (b = 55 ∧ a = 56 ∧ st = 53 ∧ sa = 54)) {k : Nat} : fc_ b a st sa c (nd_up c sa k v) := fr_up fr_rf (by simp) (by omega)
theorem fc_st (hq : (b = 51 ∧ a = 52 ∧ st = 1 ∧ sa = 2) ∨ (b = 55 ∧ a = 56 ∧ st = 53 ∧ sa = 54)) {k : Nat} : fc_ b a st sa c (nd_up c st k v) := fr_up fr_rf (by simp) (by omega)
theorem fc_a (hq : (b = 51 ∧ a = 52 ∧ st = 1 ∧ sa = 2) ∨ (b = 55 ∧ a = 56 ∧ st = 53 ∧ sa = 54)) {k : Nat} : fc_ b a st sa c (nd_up c a k v) := fr_up fr_rf (by simp) (by omega)
theorem fc_b (hq : (b = 51 ∧ a = 52 ∧ st = 1 ∧ sa = 2) ∨ (b = 55 ∧ a = 56 ∧ st = 53 ∧ sa = 54)) {k : Nat} : fc_ b a st sa c (nd_up c b k v) := fr_up fr_rf (by simp) (by omega)
theorem fc_11 (hq : (b = 51 ∧ a = 52 ∧ st = 1 ∧ sa = 2) ∨ (b = 55 ∧ a = 56 ∧ st = 53 ∧ sa = 54)) {k : Nat} : fc_ b a st sa c (nd_up c 11 k v) := fr_up fr_rf (by simp) (by omega)
theorem fm_up {i k : Nat} (hi : i ∈ [61, 64, 78, 79, 80]) : fm_ r (nd_up r i k v) := fr_up fr_rf hi (by
  simp only [List.mem_cons, List.not_mem_nil, or_false] at hi
  omega)
theorem wk_c0 (hq : (b = 51 ∧ a = 52 ∧ st = 1 ∧ sa = 2) ∨ (b = 55 ∧ a = 56 ∧ st = 53 ∧ sa = 54)) (H : wk_ b st sa n c r) (hh : h < n) (h0 : 0 ≤ v) (h9 : v ≤ 9) : wk_ b st sa n (nd_up c sa (h * 6) v) (nd_up r 61 (7 + h) v) := by
  refine wk_mk hq H (fc_sa hq) (fm_up (by decide)) ?_ (by rw [nd_up_ne (by omega)]) (fun hp i hi => ?_)
  · rw [nd_up_ne (by omega), nd_up_at, nd_up_at]
    exact S_c0 H.1.1 H.2.1 hh h0 h9
  · rw [nd_up_ne (by omega), nd_up_ne (by omega)]
    exact hp i hi
theorem wk_c1 (hq : (b = 51 ∧ a = 52 ∧ st = 1 ∧ sa = 2) ∨ (b = 55 ∧ a = 56 ∧ st = 53 ∧ sa = 54)) (H : wk_ b st sa n c r) (hh : h < n) (h0 : 0 ≤ v) (h9 : v ≤ 9) : wk_ b st sa n (nd_up c sa (h * 6 + 1) v) (nd_up r 61 (23 + h) v) := by
  refine wk_mk hq H (fc_sa hq) (fm_up (by decide)) ?_ (by rw [nd_up_ne (by omega)]) (fun hp i hi => ?_)
  · rw [nd_up_ne (by omega), nd_up_at, nd_up_at]
    exact S_c1 H.1.1 H.2.1 hh h0 h9
  · rw [nd_up_ne (by omega), nd_up_ne (by omega)]
    exact hp i hi
theorem wk_c2 (hq : (b = 51 ∧ a = 52 ∧ st = 1 ∧ sa = 2) ∨ (b = 55 ∧ a = 56 ∧ st = 53 ∧ sa = 54)) (H : wk_ b st sa n c r) (hh : h < n) (h0 : 0 ≤ v) (h9 : v ≤ 9999) : wk_ b st sa n (nd_up c sa (h * 6 + 2) v) (nd_up r 61 (55 + h) v) := by
  refine wk_mk hq H (fc_sa hq) (fm_up (by decide)) ?_ (by rw [nd_up_ne (by omega)]) (fun hp i hi => ?_)
  · rw [nd_up_ne (by omega), nd_up_at, nd_up_at]
    exact S_c2 H.1.1 H.2.1 hh h0 h9
  · rw [nd_up_ne (by omega), nd_up_ne (by omega)]
    exact hp i hi
theorem wk_c3 (hq : (b = 51 ∧ a = 52 ∧ st = 1 ∧ sa = 2) ∨ (b = 55 ∧ a = 56 ∧ st = 53 ∧ sa = 54)) (H : wk_ b st sa n c r) (hh : h < n) (h0 : 0 ≤ v) (h9 : v ≤ 9) : wk_ b st sa n (nd_up c sa (h * 6 + 3) v) (nd_up r 61 (39 + h) v) := by
  refine wk_mk hq H (fc_sa hq) (fm_up (by decide)) ?_ (by rw [nd_up_ne (by omega)]) (fun hp i hi => ?_)
  · rw [nd_up_ne (by omega), nd_up_at, nd_up_at]
    exact S_c3 H.1.1 H.2.1 hh h0 h9
  · rw [nd_up_ne (by omega), nd_up_ne (by omega)]
    exact hp i hi
theorem wk_c4 (hq : (b = 51 ∧ a = 52 ∧ st = 1 ∧ sa = 2) ∨ (b = 55 ∧ a = 56 ∧ st = 53 ∧ sa = 54)) (H : wk_ b st sa n c r) (hh : h < n) (h0 : 0 ≤ v) (h9 : v ≤ 1) : wk_ b st sa n (nd_up c sa (h * 6 + 4) v) (nd_up r 61 (87 + h) v) := by
  refine wk_mk hq H (fc_sa hq) (fm_up (by decide)) ?_ (by rw [nd_up_ne (by omega)]) (fun hp i hi => ?_)
  · rw [nd_up_ne (by omega), nd_up_at, nd_up_at]
    exact S_c4 H.1.1 H.2.1 hh h0 h9
  · rw [nd_up_ne (by omega), nd_up_ne (by omega)]
    exact hp i hi
theorem wk_c5 (hq : (b = 51 ∧ a = 52 ∧ st = 1 ∧ sa = 2) ∨ (b = 55 ∧ a = 56 ∧ st = 53 ∧ sa = 54)) (H : wk_ b st sa n c r) (hh : h < n) (h0 : 0 ≤ v) (h9 : v ≤ 16) : wk_ b st sa n (nd_up c sa (h * 6 + 5) (v - 1)) (nd_up r 61 (71 + h) v) := by
  refine wk_mk hq H (fc_sa hq) (fm_up (by decide)) ?_ (by rw [nd_up_ne (by omega)]) (fun hp i hi => ?_)
  · rw [nd_up_ne (by omega), nd_up_at, nd_up_at]
    exact S_c5 H.1.1 H.2.1 hh h0 h9
  · rw [nd_up_ne (by omega), nd_up_ne (by omega)]
    exact hp i hi
theorem wk_jug (hq : (b = 51 ∧ a = 52 ∧ st = 1 ∧ sa = 2) ∨ (b = 55 ∧ a = 56 ∧ st = 53 ∧ sa = 54)) (hp0 : 0 < n) (H : wk_ b st sa n c r) : wk_ b st sa n (nd_up c st 2 v) (nd_up r 61 6 v) := by
  refine wk_mk hq H (fc_st hq) (fm_up (by decide)) ?_ (by rw [nd_up_ne (by omega)]) (fun hp i hi => ?_)
  · rw [nd_up_ne (show sa ≠ st by omega), nd_up_at, nd_up_at]
    exact S_jug hp0 H.1.1 H.2.1
  · rw [nd_up_ne (by omega), nd_up_ne (by omega)]
    exact hp i hi
theorem wk_gone (hq : (b = 51 ∧ a = 52 ∧ st = 1 ∧ sa = 2) ∨ (b = 55 ∧ a = 56 ∧ st = 53 ∧ sa = 54)) (H : wk_ b st sa n c r) : wk_ b st sa n (nd_up c st 3 v) (nd_up r 61 3 v) := by
  refine wk_mk hq H (fc_st hq) (fm_up (by decide)) ?_ (by rw [nd_up_ne (by omega)]) (fun hp i hi => ?_)
  · rw [nd_up_ne (show sa ≠ st by omega), nd_up_at, nd_up_at]
    exact S_gone H.1.1 H.2.1
  · rw [nd_up_ne (by omega), nd_up_ne (by omega)]
    exact hp i hi
theorem wk_gaps (hq : (b = 51 ∧ a = 52 ∧ st = 1 ∧ sa = 2) ∨ (b = 55 ∧ a = 56 ∧ st = 53 ∧ sa = 54)) (H : wk_ b st sa n c r) : wk_ b st sa n (nd_up c st 4 v) (nd_up r 61 4 v) := by
  refine wk_mk hq H (fc_st hq) (fm_up (by decide)) ?_ (by rw [nd_up_ne (by omega)]) (fun hp i hi => ?_)
  · rw [nd_up_ne (show sa ≠ st by omega), nd_up_at, nd_up_at]
    exact S_gaps H.1.1 H.2.1
  · rw [nd_up_ne (by omega), nd_up_ne (by omega)]
    exact hp i hi
theorem wk_wed (hq : (b = 51 ∧ a = 52 ∧ st = 1 ∧ sa = 2) ∨ (b = 55 ∧ a = 56 ∧ st = 53 ∧ sa = 54)) (H : wk_ b st sa n c r) : wk_ b st sa n (nd_up c st 5 v) (nd_up r 61 5 v) := by
  refine wk_mk hq H (fc_st hq) (fm_up (by decide)) ?_ (by rw [nd_up_ne (by omega)]) (fun hp i hi => ?_)
  · rw [nd_up_ne (show sa ≠ st by omega), nd_up_at, nd_up_at]
    exact S_wed H.1.1 H.2.1
  · rw [nd_up_ne (by omega), nd_up_ne (by omega)]
    exact hp i hi
theorem wk_gen (hq : (b = 51 ∧ a = 52 ∧ st = 1 ∧ sa = 2) ∨ (b = 55 ∧ a = 56 ∧ st = 53 ∧ sa = 54)) (H : wk_ b st sa n c r) : wk_ b st sa n (nd_up c st 6 v) (nd_up r 61 0 v) := by
  refine wk_mk hq H (fc_st hq) (fm_up (by decide)) ?_ (by rw [nd_up_ne (by omega)]) (fun hp i hi => ?_)
  · rw [nd_up_ne (show sa ≠ st by omega), nd_up_at, nd_up_at]
    exact S_gen H.1.1 H.2.1
  · rw [nd_up_ne (by omega), nd_up_ne (by omega)]
    exact hp i hi
theorem wk_luck (hq : (b = 51 ∧ a = 52 ∧ st = 1 ∧ sa = 2) ∨ (b = 55 ∧ a = 56 ∧ st = 53 ∧ sa = 54)) (H : wk_ b st sa n c r) : wk_ b st sa n (nd_up c st 7 v) (nd_up r 61 1 v) := by
  refine wk_mk hq H (fc_st hq) (fm_up (by decide)) ?_ (by rw [nd_up_ne (by omega)]) (fun hp i hi => ?_)
  · rw [nd_up_ne (show sa ≠ st by omega), nd_up_at, nd_up_at]
    exact S_luck H.1.1 H.2.1
  · rw [nd_up_ne (by omega), nd_up_ne (by omega)]
    exact hp i hi
end WK
