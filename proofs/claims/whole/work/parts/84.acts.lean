/-! act, years, of, goes, jug -/
theorem two_run {C M : nd_Mem → nd_Res} {P : nd_Mem → nd_Mem → Prop} {Q : nd_Mem → nd_Mem → nd_Mem → nd_Mem → Prop} (T : ∀ c r : nd_Mem, P c r → ∃ (v : Int32) (c' r' : nd_Mem), C c = some (v, c') ∧ M r = some (v, r') ∧ Q c r c' r') {σ : nd_Mem} (h1 : P σ σ) (h2 : ∀ c' r' : nd_Mem, Q σ σ c' r' → P σ (nd_up c' 60 0 0)) : ∃ (v : Int32) (c' ρ : nd_Mem), C σ = some (v, c') ∧ M (nd_up c' 60 0 0) = some (v, ρ) ∧ Q σ (nd_up c' 60 0 0) c' ρ := by
  obtain ⟨v, c', r', e1, e2, q⟩ := T σ σ h1
  obtain ⟨v2, c2, r2, e3, e4, q2⟩ := T σ (nd_up c' 60 0 0) (h2 c' r' q)
  rw [e1] at e3
  have e5 := Option.some.inj e3
  have e6 : v = v2 := congrArg Prod.fst e5
  have e7 : c' = c2 := congrArg Prod.snd e5
  subst e6 e7
  exact ⟨v, c', r2, e1, e4, q2⟩
theorem wk_rc {b st sa n : Nat} {c r r' : nd_Mem} (h : fr_eq [61, 64, 67, 68, 69, 70, 71, 72, 73, 75, 76, 77] [5, 6, 31, 33, 35] r r') (H : wk_ b st sa n c r) : wk_ b st sa n c r' := by
  obtain ⟨hn, hS, h2, h3, h4, h5, h8, h6⟩ := H
  refine ⟨⟨hn.1, by rw [h.2 6 (by decide)]; exact hn.2⟩, by rw [h.1 61 (by decide)]; exact hS, ?_, ?_, ?_, ?_, ?_, ?_⟩
  · exact law_c rfl rfl rfl rfl (h.1 67 (by decide)) (h.1 68 (by decide)) (h.1 69 (by decide)) (h.1 70 (by decide)) (h.1 71 (by decide)) (h.1 72 (by decide)) (h.1 73 (by decide)) h2
  · exact plan_c rfl rfl (h.1 75 (by decide)) (h.2 31 (by decide)) h3
  · exact feud_c rfl rfl (h.1 76 (by decide)) (h.2 33 (by decide)) h4
  · exact side_c rfl (h.1 77 (by decide)) (h.2 35 (by decide)) h5
  · intro i hi
    rw [h.1 64 (by decide)]
    exact h8 i hi
  · rw [h.2 5 (by decide)]
    exact h6
theorem wk_I {n : Nat} {σ : nd_Mem} (hI : iv_I n σ) : wk_ 51 1 2 n σ σ := by
  obtain ⟨⟨hn, hq1, hq2, hq3, hq4, hq5, hq6, hq7, hq8, hla, hpl, hfd, hsd⟩, hpa, htp, hpi, hfx⟩ := hI
  exact ⟨hn, hq7, hla, hpl, hfd, hsd, hq8, Or.inl ⟨hfx.2.2.1, hfx.2.2.2.2⟩⟩
def pa_ (c r : nd_Mem) (n : Nat) : Prop := ∃ m x : Nat, m ≤ 6 ∧ x < 6 ∧ c 24 1 = nI m ∧ r 60 3 = nI m ∧ c 24 2 = nI x ∧ ∀ j : Nat, j < m → iv_S (c (26 + 2 * ((x + 6 - m + j) % 6))) (c (27 + 2 * ((x + 6 - m + j) % 6))) (fun k => r 62 (103 * j + k)) n
abbrev Sc_ : List Nat := [51, 52, 1, 2, 11, 24, 26, 27, 28, 29, 30, 31, 32, 33, 34, 35, 36, 37]
abbrev Sr_ : List Nat := [61, 64, 78, 79, 80, 62]
def wp2_ (n : Nat) (c r : nd_Mem) : Prop := wk_ 51 1 2 n c r ∧ pa_ c r n
def wq2_ (n : Nat) (c r c' r' : nd_Mem) : Prop := wp2_ n c' r' ∧ fr_ Sc_ [] c c' ∧ fr_ Sr_ [3] r r'
theorem wq2_tr {n : Nat} {c r c' r' c'' r'' : nd_Mem} (h1 : wq2_ n c r c' r') (h2 : wq2_ n c' r' c'' r'') : wq2_ n c r c'' r'' := ⟨h2.1, fr_t h1.2.1 h2.2.1, fr_t h1.2.2 h2.2.2⟩
theorem wp2_rc {n : Nat} {c c' r' : nd_Mem} (H : wp2_ n c c) (Q : wq2_ n c c c' r') : wp2_ n c (nd_up c' 60 0 0) := by
  have f : fr_ Sc_ [0] c (nd_up c' 60 0 0) := fr_up57 (fr_w Q.2.1 (fun _ h => h) (by decide)) (by decide)
  refine ⟨wk_rc (fr_use f (by decide)) H.1, ?_⟩
  obtain ⟨m, x, h1, h2, h3, h4, h5, h6⟩ := H.2
  refine ⟨m, x, h1, h2, h3, by rw [f.2 3 (by decide)]; exact h4, h5, fun j hj => ?_⟩
  rw [f.1 62 (by decide) (by decide)]
  exact h6 j hj
theorem pa_ff {n : Nat} {c r c' r' : nd_Mem} (hc : ∀ i : Nat, 24 ≤ i → i ≤ 37 → c' i = c i) (h59 : r' 62 = r 62) (h3 : r' 60 3 = r 60 3) (h : pa_ c r n) : pa_ c' r' n := by
  obtain ⟨m, x, h1, h2, k3, h4, h5, h6⟩ := h
  refine ⟨m, x, h1, h2, by rw [hc 24 (by omega) (by omega)]; exact k3, by rw [h3]; exact h4, by rw [hc 24 (by omega) (by omega)]; exact h5, fun j hj => ?_⟩
  have hz : (x + 6 - m + j) % 6 < 6 := Nat.mod_lt _ (by decide)
  rw [hc _ (by omega) (by omega), hc _ (by omega) (by omega), h59]
  exact h6 j hj
theorem wq2_of {n : Nat} {c r c' r' : nd_Mem} (hp : pa_ c r n) (H : wk_ 51 1 2 n c' r') (hc : fc_ 51 52 1 2 c c') (hr : fm_ r r') : wq2_ n c r c' r' := by
  refine ⟨⟨H, pa_ff (fun i h1 h2 => hc.1 i (by simp; omega) (by omega)) (hr.1 62 (by decide) (by decide)) (hr.2 3 (by decide)) hp⟩, fr_w hc (by decide) (fun _ h => h), fr_w hr (by decide) (by decide)⟩
/-- the end of a call that walks by hand or by years -/
theorem fin2 {n : Nat} {σ c' ρ : nd_Mem} (hI : iv_I n σ) (Q : wq2_ n σ (nd_up c' 60 0 0) c' ρ) : iv_I n ρ ∧ ρ 0 10 = σ 0 10 := by
  obtain ⟨⟨H, hp⟩, fc, fr⟩ := Q
  have f0 : fr_ (Sc_ ++ Sr_) [0, 3] σ ρ := by
    have f1 : fr_ Sc_ [0] σ (nd_up c' 60 0 0) := fr_up57 (fr_w fc (fun _ h => h) (by decide)) (by decide)
    exact fr_w (fr_tr f1 fr) (fun _ h => h) (by decide)
  have cc : ∀ i : Nat, i ∉ Sr_ → i ≠ 60 → ρ i = c' i := fun i h1 h2 => by rw [fr.1 i h1 h2, nd_up_ne h2]
  obtain ⟨⟨hn, hq1, hq2, hq3, hq4, hq5, hq6, hq7, hq8, hla, hpl, hfd, hsd⟩, hpa, htp, hpi, hfx⟩ := hI
  have h57 : ρ 60 5 = 0 := by rw [f0.2 5 (by decide)]; exact hfx.2.2.2.2
  have h48 : c' 51 3 = 0 := by
    rcases H.2.2.2.2.2.2.2 with ⟨e, _⟩ | ⟨_, e⟩
    · exact e
    · rw [h57] at e; exact absurd e (by decide)
  refine ⟨⟨⟨c_hn (fr_use f0 (by decide)) hn, c_hq1 (fr_use f0 (by decide)) hq1, c_hq2 (fr_use f0 (by decide)) hq2, c_hq3 (fr_use f0 (by decide)) hq3, c_hq4 (fr_use f0 (by decide)) hq4, c_hq5 (fr_use f0 (by decide)) hq5, c_hq6 (fr_use f0 (by decide)) hq6, ?_, ?_, c_hla (fr_use f0 (by decide)) hla, c_hpl (fr_use f0 (by decide)) hpl, c_hfd (fr_use f0 (by decide)) hfd, c_hsd (fr_use f0 (by decide)) hsd⟩, ?_, c_htp (fr_use f0 (by decide)) htp, c_hpi (fr_use f0 (by decide)) hpi, ?_⟩, congrFun (f0.1 0 (by decide) (by decide)) 10⟩
  · show iv_S (ρ 1) (ρ 2) (ρ 61) n
    rw [cc 1 (by decide) (by decide), cc 2 (by decide) (by decide)]
    exact H.2.1
  · intro i hi
    rw [cc 11 (by decide) (by decide)]
    exact H.2.2.2.2.2.2.1 i hi
  · refine pa_ff (c := c') (r := ρ) (fun i h1 h2 => cc i (by simp; omega) (by omega)) rfl rfl hp
  · refine ⟨fun i hi => ?_, fun i hi => ?_, ?_, ?_, h57⟩
    · rw [f0.1 59 (by decide) (by decide)]; exact hfx.1 i hi
    · rw [f0.1 66 (by decide) (by decide)]; exact hfx.2.1 i hi
    · rw [cc 51 (by decide) (by decide)]; exact h48
    · rw [f0.1 55 (by decide) (by decide)]; exact hfx.2.2.2.1
/-! keeping -/
section KP
variable {F n : Nat} {c r : nd_Mem}
theorem kp_sh (hF : 300000 ≤ F) (h3 : r 60 3 = nI 5) : ∀ (d i f : Nat) (g : Nat → Int32), i + d = 515 → d < f → ∃ g' : Nat → Int32, f_X11_keepsAhead_21 F f (nI i) (nd_row r 62 g) = f_X11_keepsAhead_53 F (nd_row r 62 g') ∧ (∀ k : Nat, i ≤ k → k < 515 → g' k = g (k + 103)) ∧ ∀ k : Nat, k < i ∨ 515 ≤ k → g' k = g k := by
  intro d
  induction d with
  | zero =>
    intro i f g hi hf
    obtain ⟨f, rfl⟩ : ∃ g, f = g + 1 := ⟨f - 1, by omega⟩
    refine ⟨g, ?_, fun k h1 h2 => by omega, fun k _ => rfl⟩
    show f_X11_keepsAhead_21_b F _ _ _ = _
    unfold f_X11_keepsAhead_21_b
    rw [w_ne (by decide), h3, show (103 : Int32) * nI 5 = nI 515 by decide, if_pos (nI_le (by omega) (by omega))]
  | succ d ih =>
    intro i f g hi hf
    obtain ⟨f, rfl⟩ : ∃ g, f = g + 1 := ⟨f - 1, by omega⟩
    obtain ⟨g', e1, e2, e3⟩ := ih (i + 1) f (upd g i (g (i + 103))) (by omega) (by omega)
    refine ⟨g', ?_, fun k h1 h2 => ?_, fun k hk => ?_⟩
    · show f_X11_keepsAhead_21_b F _ _ _ = _
      unfold f_X11_keepsAhead_21_b
      rw [w_ne (by decide), h3, show (103 : Int32) * nI 5 = nI 515 by decide, if_neg (nI_ge (by omega) (by omega)), show nI i + (103 : Int32) = nI (i + 103) from n_add i 103, if_neg (nI_in (by omega) (by decide)), if_neg (nI_in (by omega) (by decide)), nI_clamp (by omega), nI_clamp (by omega), n_let, w_eq, up_row, nI_1, e1]
    · by_cases hk : k = i
      · subst hk
        rw [e3 k (by omega), upd_eq]
      · rw [e2 k (by omega) h2, upd_ne (by omega)]
    · rw [e3 k (by omega), upd_ne (by omega)]
theorem kp_now (hF : 300000 ≤ F) {m : Nat} (hm : m < 6) (h3 : r 60 3 = nI m) : ∃ g : Nat → Int32, f_X11_keepsAhead_53 F r = some (0, nd_up (nd_row r 62 g) 60 3 (nI (m + 1))) ∧ (∀ j : Nat, j < 103 → g (103 * m + j) = r 61 j) ∧ ∀ k : Nat, k < 103 * m → g k = r 62 k := by
  obtain ⟨g, e1, e2, e3⟩ := lp_row (L := f_X11_keepsAhead_55 F) (σ := r) (r := 62) (N := 103) (p := fun i => 103 * m + i) (v := fun i => r 61 i) (z := fun τ => some (0, nd_up τ 60 3 (nI (m + 1)))) (fun f i g hi => by
    show f_X11_keepsAhead_55_b F _ _ _ = _
    unfold f_X11_keepsAhead_55_b
    rw [if_neg (show ¬ (103 : Int32) ≤ nI i from nI_ge (b := 103) hi (by decide)), if_neg (nI_in hi (by decide)), w_ne (by decide), h3, show (103 : Int32) * nI m + nI i = nI (103 * m + i) by rw [show (103 : Int32) = nI 103 from rfl, n_mul, n_add], if_neg (nI_in (by omega) (by decide)), nI_clamp (by omega), nI_clamp (by omega), n_let, w_ne (by decide), up_row, nI_1]) (fun f g => by
    show f_X11_keepsAhead_55_b F _ _ _ = _
    unfold f_X11_keepsAhead_55_b
    rw [if_pos (by decide), n_let, w_ne (by decide), h3, nI_1]) (fun i j _ _ e => by
    omega) 103 0 F (r 62) (by omega) (by omega)
  rw [row_id] at e1
  exact ⟨g, e1, fun j hj => e2 j (by omega) hj, fun k hk => e3 k (fun j h1 h2 => by omega)⟩
theorem e_keep (hF : 300000 ≤ F) (W : wp2_ n c r) : ∃ c' r' : nd_Mem, f_X1_keep F 1 2 c = some (0, c') ∧ f_X11_keepsAhead F r = some (0, r') ∧ wq2_ n c r c' r' ∧ c' 1 = c 1 ∧ c' 2 = c 2 ∧ r' 61 = r 61 := by
  obtain ⟨H, m, x, h1, h2, h3, h4, h5, h6⟩ := W
  have h16 := H.1.1
  have hx1 : (x + 1) % 6 < 6 := Nat.mod_lt _ (by decide)
  obtain ⟨u, v, e1, e2, e3⟩ := e_copyS (F := F) (σ := c) (b := 26 + 2 * x) (a := 27 + 2 * x) (b' := 1) (a' := 2) (by omega) (by omega) (by omega)
  -- the class
  have ex : q_rem (nI x + 1) 6 = nI ((x + 1) % 6) := by
    rw [nI_1]
    exact n_rem (b := 6) (by omega) (by omega)
  have hc : ∀ s : Nat, s = (if m < 6 then m + 1 else 6) → f_X1_keep F 1 2 c = some (0, nd_up (nd_up (nd_row (nd_row c (27 + 2 * x) v) (26 + 2 * x) u) 24 2 (nI ((x + 1) % 6))) 24 1 (nI s)) := by
    intro s hs
    unfold f_X1_keep
    rw [h5, if_neg (nI_in h2 (by decide)), nI_clamp (by omega), e1, n_bind, n_let, n_let]
    rw [w_ne (by omega), w_ne (by omega), h5, ex, u_ne2 (by decide), w_ne (by omega), w_ne (by omega), h3, nI_1]
    by_cases hm : m < 6
    · rw [if_neg (show ¬ (6 : Int32) < nI (m + 1) from nI_nlt (a := 6) (by omega) (by omega)), hs, if_pos hm]
    · rw [if_pos (show (6 : Int32) < nI (m + 1) from nI_lt (a := 6) (by omega) (by omega)), hs, if_neg hm]
      rfl
  have fcl : ∀ s : Nat, fr_ Sc_ [] c (nd_up (nd_up (nd_row (nd_row c (27 + 2 * x) v) (26 + 2 * x) u) 24 2 (nI ((x + 1) % 6))) 24 1 (nI s)) := by
    intro s
    refine fr_up (fr_up (fr_row (fr_row fr_rf ?_ (by omega)) ?_ (by omega)) (by decide) (by decide)) (by decide) (by decide)
    · simp; omega
    · simp; omega
  have old : ∀ (s i : Nat), i ≠ 24 → i ≠ 26 + 2 * x → i ≠ 27 + 2 * x → (nd_up (nd_up (nd_row (nd_row c (27 + 2 * x) v) (26 + 2 * x) u) 24 2 (nI ((x + 1) % 6))) 24 1 (nI s)) i = c i := by
    intro s i a1 a2 a3
    rw [nd_up_ne a1, nd_up_ne a1, nd_row_ne a2, nd_row_ne a3]
  have newS : ∀ s : Nat, (nd_up (nd_up (nd_row (nd_row c (27 + 2 * x) v) (26 + 2 * x) u) 24 2 (nI ((x + 1) % 6))) 24 1 (nI s)) (26 + 2 * x) = u := by
    intro s
    rw [nd_up_ne (by omega), nd_up_ne (by omega), nd_row_at]
  have newC : ∀ s : Nat, (nd_up (nd_up (nd_row (nd_row c (27 + 2 * x) v) (26 + 2 * x) u) 24 2 (nI ((x + 1) % 6))) 24 1 (nI s)) (27 + 2 * x) = v := by
    intro s
    rw [nd_up_ne (by omega), nd_up_ne (by omega), nd_row_ne (by omega), nd_row_at]
  have wkc : ∀ (s : Nat) (g : Nat → Int32) (y : Int32), wk_ 51 1 2 n (nd_up (nd_up (nd_row (nd_row c (27 + 2 * x) v) (26 + 2 * x) u) 24 2 (nI ((x + 1) % 6))) 24 1 (nI s)) (nd_up (nd_row r 62 g) 60 3 y) := by
    intro s g y
    have q : fr_ [62] [3] r (nd_up (nd_row r 62 g) 60 3 y) := (by repeat first | exact fr_rf | (refine fr_up57 ?_ (by decide)) | (refine fr_up ?_ (by decide) (by decide)) | (refine fr_row ?_ (by decide) (by decide)))
    have K := wk_rc (fr_use q (by decide)) H
    obtain ⟨hn, hS, k2, k3, k4, k5, k8, k6⟩ := K
    have o : ∀ i : Nat, i < 24 ∨ 37 < i → (nd_up (nd_up (nd_row (nd_row c (27 + 2 * x) v) (26 + 2 * x) u) 24 2 (nI ((x + 1) % 6))) 24 1 (nI s)) i = c i := fun i hi => old s i (by omega) (by omega) (by omega)
    refine ⟨hn, by rw [o 1 (by omega), o 2 (by omega)]; exact hS, law_c (o 4 (by omega)) (o 5 (by omega)) (o 6 (by omega)) (o 7 (by omega)) rfl rfl rfl rfl rfl rfl rfl k2, plan_c (o 8 (by omega)) (o 9 (by omega)) rfl rfl k3, feud_c (o 3 (by omega)) (o 10 (by omega)) rfl rfl k4, side_c (o 3 (by omega)) rfl rfl k5, fun i hi => by rw [o 11 (by omega)]; exact k8 i hi, by rw [o 51 (by omega)]; exact k6⟩
  have hS0 : ∀ w : Nat → Int32, (∀ k : Nat, k < 103 → w k = r 61 k) → iv_S u v w n := fun w hw => iv_S_c h16 (fun k a b => e2 k a b) (fun k a => e3 k a) hw H.2.1
  by_cases hm : m < 6
  · obtain ⟨g, d1, d2, d3⟩ := kp_now (F := F) (r := r) hF hm h4
    refine ⟨_, _, hc (m + 1) (by rw [if_pos hm]), ?_, ⟨⟨wkc (m + 1) g _, m + 1, (x + 1) % 6, by omega, hx1, u_eq _ _ _ _, u_eq _ _ _ _, by rw [u_ne2 (by decide), u_eq], fun j hj => ?_⟩, fcl _, (by repeat first | exact fr_rf | (refine fr_up57 ?_ (by decide)) | (refine fr_up ?_ (by decide) (by decide)) | (refine fr_row ?_ (by decide) (by decide)))⟩, old _ 1 (by omega) (by omega) (by omega), old _ 2 (by omega) (by omega) (by omega), rfl⟩
    · unfold f_X11_keepsAhead
      rw [h4, if_neg (fun e => by
        have := (nI_eq (b := 6) (by omega) (by decide)).mp e
        omega), d1]
    · have e59 : (nd_up (nd_row r 62 g) 60 3 (nI (m + 1))) 62 = g := by rw [nd_up_ne (by decide), nd_row_at]
      rw [e59]
      by_cases hjm : j = m
      · subst hjm
        rw [show ((x + 1) % 6 + 6 - (j + 1) + j) % 6 = x by omega, newS, newC]
        exact hS0 _ (fun k hk => d2 k hk)
      · have hj2 : ((x + 1) % 6 + 6 - (m + 1) + j) % 6 = (x + 6 - m + j) % 6 := by omega
        have hne : (x + 6 - m + j) % 6 ≠ x := by omega
        have hlt : (x + 6 - m + j) % 6 < 6 := Nat.mod_lt _ (by decide)
        rw [hj2, old _ _ (by omega) (by omega) (by omega), old _ _ (by omega) (by omega) (by omega)]
        exact iv_S_c h16 (fun _ _ _ => rfl) (fun _ _ => rfl) (fun k hk => d3 _ (by omega)) (h6 j (by omega))
  · have hm6 : m = 6 := by omega
    subst hm6
    obtain ⟨g1, k1, k2, k3⟩ := kp_sh (F := F) (r := nd_up r 60 3 (nI 5)) hF (u_eq _ _ _ _) 515 0 F (r 62) (by omega) (by omega)
    have eid : nd_row (nd_up r 60 3 (nI 5)) 62 (r 62) = nd_up r 60 3 (nI 5) := by
      have := row_id (σ := nd_up r 60 3 (nI 5)) (i := 62)
      rw [nd_up_ne (by decide)] at this
      exact this
    rw [eid] at k1
    obtain ⟨g, d1, d2, d3⟩ := kp_now (F := F) (r := nd_row (nd_up r 60 3 (nI 5)) 62 g1) (m := 5) hF (by omega) (by rw [w_ne (by decide), u_eq])
    have ee : nd_up (nd_row (nd_row (nd_up r 60 3 (nI 5)) 62 g1) 62 g) 60 3 (nI 6) = nd_up (nd_row r 62 g) 60 3 (nI 6) := by
      funext i k
      by_cases h57 : i = 60
      · subst h57
        by_cases hk : k = 3
        · subst hk
          rw [u_eq, u_eq]
        · rw [u_ne2 hk, u_ne2 hk, w_ne (by decide), w_ne (by decide), w_ne (by decide), u_ne2 hk]
      · rw [u_ne1 h57, u_ne1 h57, row_row]
        by_cases h59 : i = 62
        · subst h59
          rw [w_eq, w_eq]
        · rw [w_ne h59, w_ne h59, u_ne1 h57]
    refine ⟨_, _, hc 6 (by simp), ?_, ⟨⟨wkc 6 g (nI 6), 6, (x + 1) % 6, by omega, hx1, u_eq _ _ _ _, u_eq _ _ _ _, by rw [u_ne2 (by decide), u_eq], fun j hj => ?_⟩, fcl _, (by repeat first | exact fr_rf | (refine fr_up57 ?_ (by decide)) | (refine fr_up ?_ (by decide) (by decide)) | (refine fr_row ?_ (by decide) (by decide)))⟩, old _ 1 (by omega) (by omega) (by omega), old _ 2 (by omega) (by omega) (by omega), rfl⟩
    · unfold f_X11_keepsAhead
      rw [h4, if_pos (by decide), n_let, show nI 6 - 1 = nI 5 by decide]
      show f_X11_keepsAhead_21 F F (nI 0) _ = _
      rw [k1, d1, ← ee]
    · have e59 : (nd_up (nd_row r 62 g) 60 3 (nI 6)) 62 = g := by rw [nd_up_ne (by decide), nd_row_at]
      rw [e59]
      by_cases hj5 : j = 5
      · subst hj5
        rw [show ((x + 1) % 6 + 6 - 6 + 5) % 6 = x by omega, newS, newC]
        exact hS0 _ (fun k hk => by
          have := d2 k hk
          rw [w_ne (by decide), u_ne1 (by decide)] at this
          exact this)
      · have hj2 : ((x + 1) % 6 + 6 - 6 + j) % 6 = (x + 6 - 6 + (j + 1)) % 6 := by omega
        have hne : (x + 6 - 6 + (j + 1)) % 6 ≠ x := by omega
        have hlt : (x + 6 - 6 + (j + 1)) % 6 < 6 := Nat.mod_lt _ (by decide)
        rw [hj2, old _ _ (by omega) (by omega) (by omega), old _ _ (by omega) (by omega) (by omega)]
        refine iv_S_c h16 (fun _ _ _ => rfl) (fun _ _ => rfl) (fun k hk => ?_) (h6 (j + 1) (by omega))
        rw [d3 _ (by omega), w_eq, k2 _ (by omega) (by omega)]
        congr 1
        omega
end KP
