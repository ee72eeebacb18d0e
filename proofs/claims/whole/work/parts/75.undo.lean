/-! loops that copy into one row; undo -/
theorem lp_row {L : Nat → Int32 → nd_Mem → nd_Res} {σ : nd_Mem} {r N : Nat} {p : Nat → Nat} {v : Nat → Int32} {z : nd_Mem → nd_Res}
    (hs : ∀ (f i : Nat) (g : Nat → Int32), i < N → L (f + 1) (nI i) (nd_row σ r g) = L f (nI (i + 1)) (nd_row σ r (upd g (p i) (v i))))
    (he : ∀ (f : Nat) (g : Nat → Int32), L (f + 1) (nI N) (nd_row σ r g) = z (nd_row σ r g))
    (hp : ∀ i j : Nat, i < N → j < N → p i = p j → i = j) :
    ∀ (d i f : Nat) (g : Nat → Int32), i + d = N → d < f → ∃ g' : Nat → Int32, L f (nI i) (nd_row σ r g) = z (nd_row σ r g') ∧ (∀ j : Nat, i ≤ j → j < N → g' (p j) = v j) ∧ ∀ k : Nat, (∀ j : Nat, i ≤ j → j < N → k ≠ p j) → g' k = g k := by
  intro d
  induction d with
  | zero =>
    intro i f g hi hf
    obtain ⟨f, rfl⟩ : ∃ g, f = g + 1 := ⟨f - 1, by omega⟩
    have : i = N := by omega
    subst this
    exact ⟨g, he f g, fun j h1 h2 => by omega, fun k _ => rfl⟩
  | succ d ih =>
    intro i f g hi hf
    obtain ⟨f, rfl⟩ : ∃ g, f = g + 1 := ⟨f - 1, by omega⟩
    obtain ⟨g', a, b, c⟩ := ih (i + 1) f (upd g (p i) (v i)) (by omega) (by omega)
    refine ⟨g', by rw [hs f i g (by omega), a], fun j h1 h2 => ?_, fun k hk => ?_⟩
    · by_cases hij : j = i
      · subst hij
        rw [c (p j) (fun l h3 h4 e => by
          have := hp j l (by omega) h4 e
          omega), upd_eq]
      · exact b j (by omega) h2
    · rw [c k (fun j h1 h2 => hk j (by omega) h2), upd_ne (hk i (by omega) (by omega))]
/-- the same with p the identity -/
theorem lp_id {L : Nat → Int32 → nd_Mem → nd_Res} {σ : nd_Mem} {r N : Nat} {v : Nat → Int32} {z : nd_Mem → nd_Res}
    (hs : ∀ (f i : Nat) (g : Nat → Int32), i < N → L (f + 1) (nI i) (nd_row σ r g) = L f (nI (i + 1)) (nd_row σ r (upd g i (v i))))
    (he : ∀ (f : Nat) (g : Nat → Int32), L (f + 1) (nI N) (nd_row σ r g) = z (nd_row σ r g)) (f : Nat) (hf : N < f) :
    ∃ g' : Nat → Int32, L f 0 σ = z (nd_row σ r g') ∧ (∀ j : Nat, j < N → g' j = v j) ∧ ∀ k : Nat, N ≤ k → g' k = σ r k := by
  obtain ⟨g', a, b, c⟩ := lp_row (p := fun i => i) hs he (fun i j _ _ e => e) N 0 f (σ r) (by omega) hf
  rw [row_id] at a
  exact ⟨g', a, fun j hj => b j (by omega) hj, fun k hk => c k (fun j _ h2 => by omega)⟩
theorem iv_S_c {s c w s' c' w' : Nat → Int32} {n : Nat} (h16 : n ≤ 16) (hs : ∀ k : Nat, 1 ≤ k → k ≤ 8 → s' k = s k) (hc : ∀ k : Nat, k < 96 → c' k = c k) (hw : ∀ k : Nat, k < 103 → w' k = w k) (h : iv_S s c w n) : iv_S s' c' w' n := by
  obtain ⟨s1, s3, s4, s5, s6, s7, s8, s9, s10, s11, s12⟩ := h
  refine ⟨by rw [hs 1 (by omega) (by omega)]; exact s1, by rw [hs 3 (by omega) (by omega), hw 3 (by omega)]; exact s3, by rw [hs 4 (by omega) (by omega), hw 4 (by omega)]; exact s4, by rw [hs 5 (by omega) (by omega), hw 5 (by omega)]; exact s5, by rw [hs 6 (by omega) (by omega), hw 0 (by omega)]; exact s6, by rw [hs 7 (by omega) (by omega), hw 1 (by omega)]; exact s7, by rw [hs 8 (by omega) (by omega), hw 2 (by omega)]; exact s8, by rw [hw 2 (by omega)]; exact s9, fun e => by rw [hs 2 (by omega) (by omega), hw 6 (by omega)]; exact s10 e, fun e => by rw [hs 2 (by omega) (by omega), hw 6 (by omega)]; exact s11 e, fun h hh => ?_⟩
  have := s12 h hh
  rw [hc (h * 6) (by omega), hc (h * 6 + 1) (by omega), hc (h * 6 + 2) (by omega), hc (h * 6 + 3) (by omega), hc (h * 6 + 4) (by omega), hc (h * 6 + 5) (by omega), hw (7 + h) (by omega), hw (23 + h) (by omega), hw (55 + h) (by omega), hw (39 + h) (by omega), hw (87 + h) (by omega), hw (71 + h) (by omega)]
  exact this
theorem va_lo {f g : Nat → Int32} {N k : Nat} (h : k < N) : va_cpy f g 0 0 N k = f k := by
  unfold va_cpy
  rw [if_pos ⟨by omega, by omega⟩]
  congr 1
  omega
theorem va_hi {f g : Nat → Int32} {N k : Nat} (h : N ≤ k) : va_cpy f g 0 0 N k = g k := by
  unfold va_cpy
  rw [if_neg (by omega)]
theorem e_copyS {F : Nat} {σ : nd_Mem} {b a b' a' : Nat} (h1 : a ≠ b) (h2 : b' ≠ b) (h3 : b' ≠ a) : ∃ u v : Nat → Int32, f_X6_copy F b a b' a' σ = some (0, nd_row (nd_row σ a v) b u) ∧ (∀ k : Nat, 1 ≤ k → k ≤ 8 → u k = σ b' k) ∧ ∀ k : Nat, k < 96 → v k = σ a' k := by
  unfold f_X6_copy nd_let
  rw [if_neg (by decide)]
  simp only [up_is, row_row, w_ne h2, w_ne h3, nd_row_at]
  refine ⟨_, _, rfl, fun k k1 k8 => ?_, fun k hk => va_lo hk⟩
  have hk : k = 1 ∨ k = 2 ∨ k = 3 ∨ k = 4 ∨ k = 5 ∨ k = 6 ∨ k = 7 ∨ k = 8 := by omega
  rcases hk with rfl | rfl | rfl | rfl | rfl | rfl | rfl | rfl <;> simp [upd]
theorem e_undoL {F : Nat} {σ : nd_Mem} {m : Nat} (hm : m < 6) (h3 : σ 60 3 = nI m) (hF : 300000 ≤ F) : ∃ g : Nat → Int32, f_X11_undo_26 F F 0 σ = some (1, nd_row σ 61 g) ∧ (∀ j : Nat, j < 103 → g j = σ 62 (103 * m + j)) ∧ ∀ k : Nat, 103 ≤ k → g k = σ 61 k := by
  refine lp_id (L := f_X11_undo_26 F) (r := 61) (N := 103) (v := fun j => σ 62 (103 * m + j)) (z := fun τ => some (1, τ)) (fun f i g hi => ?_) (fun f g => ?_) F (by omega)
  · show f_X11_undo_26_b F (f_X11_undo_26 F f) (nI i) _ = _
    unfold f_X11_undo_26_b
    rw [w_ne (by decide), h3]
    simp (disch := omega) only [n_lit, n_add, n_mul, n_sub, n_lt, n_le, n_eq, n_cl, n_nle, n_yle, n_nlt, n_ylt, n_neq, n_m1, n_m1l, n_m1g, n_bind, u_eq, u_ne1, u_ne2, w_eq, w_ne, eq_self, nd_let, ite_true, ite_false, if_true, if_false, false_or, or_false, true_and, and_true, not_true, not_false, true_or, or_true, Nat.not_lt_zero, Nat.zero_le, up_row]
  · show f_X11_undo_26_b F (f_X11_undo_26 F f) (nI 103) _ = _
    unfold f_X11_undo_26_b
    rw [if_pos (show (103 : Int32) ≤ nI 103 by decide)]
theorem op_undo {F : Nat} (hF : 300000 ≤ F) : op_ (f_X10_undo F) (f_X11_undo F) := by
  intro σ n hI
  obtain ⟨⟨hn, hq1, hq2, hq3, hq4, hq5, hq6, hq7, hq8, hla, hpl, hfd, hsd⟩, hpa, htp, hpi, hfx⟩ := id hI
  obtain ⟨m, x, m1, m2, m3, m4, m5, m6⟩ := id hpa
  by_cases h0 : m = 0
  · subst h0
    refine ⟨0, σ, nd_up σ 60 0 0, n, ?_, ?_, iv_fr (S := []) (K := [0]) (by repeat first | exact fr_rf | (refine fr_up57 ?_ (by decide)) | (refine fr_up ?_ (by decide) (by decide)) | (refine fr_row ?_ (by decide) (by decide))) (by decide) hI, rfl⟩
    · unfold f_X10_undo f_X1_goBack
      rw [if_pos (show σ 24 1 = 0 from m3), n_bind, if_neg (by decide)]
    · unfold f_X11_undo nd_let
      dsimp only
      rw [if_pos (show nd_up σ 60 0 0 60 3 = 0 from m4)]
  · have hy : (x + 5) % 6 < 6 := Nat.mod_lt _ (by decide)
    have e1 : q_rem ((nI x + (6 : Int32)) - (1 : Int32)) 6 = nI ((x + 5) % 6) := by
      rw [show (6 : Int32) = nI 6 from rfl, show (1 : Int32) = nI 1 from rfl, n_add, n_sub (by omega), n_rem (by omega) (by omega)]
      rfl
    have hS := m6 (m - 1) (by omega)
    rw [show x + 6 - m + (m - 1) = x + 5 by omega] at hS
    have ne : ∀ y : Nat, y < 6 → 26 + 2 * y ≠ 1 ∧ 26 + 2 * y ≠ 2 ∧ 26 + 2 * y ≠ 24 ∧ 27 + 2 * y ≠ 24 := fun y _ => by omega
    obtain ⟨u, v, c1, c2, c3⟩ := e_copyS (F := F) (σ := nd_up (nd_up σ 24 2 (nI ((x + 5) % 6))) 24 1 (nI (m - 1))) (b := 1) (a := 2) (b' := 26 + 2 * ((x + 5) % 6)) (a' := 27 + 2 * ((x + 5) % 6)) (by decide) (ne _ hy).1 (ne _ hy).2.1
    obtain ⟨g, d1, d2, d3⟩ := e_undoL (F := F) (σ := nd_up (nd_up (nd_row (nd_row (nd_up (nd_up σ 24 2 (nI ((x + 5) % 6))) 24 1 (nI (m - 1))) 2 v) 1 u) 60 0 0) 60 3 (nI (m - 1))) (m := m - 1) (by omega) rfl hF
    have hf : fr_ [24, 1, 2, 61] [0, 3] σ (nd_row (nd_up (nd_up (nd_row (nd_row (nd_up (nd_up σ 24 2 (nI ((x + 5) % 6))) 24 1 (nI (m - 1))) 2 v) 1 u) 60 0 0) 60 3 (nI (m - 1))) 61 g) := (by repeat first | exact fr_rf | (refine fr_up57 ?_ (by decide)) | (refine fr_up ?_ (by decide) (by decide)) | (refine fr_row ?_ (by decide) (by decide)))
    refine ⟨1, nd_row (nd_row (nd_up (nd_up σ 24 2 (nI ((x + 5) % 6))) 24 1 (nI (m - 1))) 2 v) 1 u, _, n, ?_, ?_, ⟨⟨c_hn (fr_use hf (by decide)) hn, c_hq1 (fr_use hf (by decide)) hq1, c_hq2 (fr_use hf (by decide)) hq2, c_hq3 (fr_use hf (by decide)) hq3, c_hq4 (fr_use hf (by decide)) hq4, c_hq5 (fr_use hf (by decide)) hq5, c_hq6 (fr_use hf (by decide)) hq6, ?_, c_hq8 (fr_use hf (by decide)) hq8, c_hla (fr_use hf (by decide)) hla, c_hpl (fr_use hf (by decide)) hpl, c_hfd (fr_use hf (by decide)) hfd, c_hsd (fr_use hf (by decide)) hsd⟩, ?_, c_htp (fr_use hf (by decide)) htp, c_hpi (fr_use hf (by decide)) hpi, c_hfx (fr_use hf (by decide)) hfx⟩, congrFun (hf.1 0 (by decide) (by decide)) 10⟩
    · unfold f_X10_undo f_X1_goBack nd_let
      rw [m3, if_neg (nI_ne0 (by omega) (by omega)), m5, e1]
      simp only [u_ne2 (show (1 : Nat) ≠ 2 by decide), u_ne2 (show (2 : Nat) ≠ 1 by decide), u_eq, m3]
      rw [show nI m - 1 = nI (m - 1) from n_sub (b := 1) (by omega), if_neg (nI_in hy (by decide)), nI_clamp (by omega), c1, n_bind, n_bind, if_neg (by decide)]
    · have e3 : nd_up (nd_row (nd_row (nd_up (nd_up σ 24 2 (nI ((x + 5) % 6))) 24 1 (nI (m - 1))) 2 v) 1 u) 60 0 0 60 3 = nI m := m4
      unfold f_X11_undo nd_let
      dsimp only
      rw [e3, if_neg (nI_ne0 (by omega) (by omega)), show nI m - 1 = nI (m - 1) from n_sub (b := 1) (by omega), d1]
    · show iv_S u v g n
      refine iv_S_c hn.1 (s := σ (26 + 2 * ((x + 5) % 6))) (c := σ (27 + 2 * ((x + 5) % 6))) (w := fun k => σ 62 (103 * (m - 1) + k)) (fun k a b => ?_) (fun k a => ?_) (fun k a => ?_) hS
      · rw [c2 k a b, nd_up_ne (ne _ hy).2.2.1, nd_up_ne (ne _ hy).2.2.1]
      · rw [c3 k a, nd_up_ne (ne _ hy).2.2.2, nd_up_ne (ne _ hy).2.2.2]
      · rw [d2 k a]
        rfl
    · refine ⟨m - 1, (x + 5) % 6, by omega, hy, rfl, rfl, rfl, fun j hj => ?_⟩
      have e4 : ((x + 5) % 6 + 6 - (m - 1) + j) % 6 = (x + 6 - m + j) % 6 := by omega
      rw [e4]
      have := m6 j (by omega)
      have hz : (x + 6 - m + j) % 6 < 6 := Nat.mod_lt _ (by decide)
      generalize (x + 6 - m + j) % 6 = z at this hz ⊢
      have e5 : ∀ k : Nat, k ∉ [24, 1, 2, 61] → k ≠ 60 → (nd_row (nd_up (nd_up (nd_row (nd_row (nd_up (nd_up σ 24 2 (nI ((x + 5) % 6))) 24 1 (nI (m - 1))) 2 v) 1 u) 60 0 0) 60 3 (nI (m - 1))) 61 g) k = σ k := hf.1
      rw [e5 62 (by decide) (by decide), e5 (26 + 2 * z) (by simp; omega) (by omega), e5 (27 + 2 * z) (by simp; omega) (by omega)]
      exact this
