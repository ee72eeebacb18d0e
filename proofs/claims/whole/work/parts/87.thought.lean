/-! goes, jug -/
theorem dw_ {F n : Nat} {c r : nd_Mem} (H : wk_ 55 53 54 n c r) : ∀ (d h f f' : Nat) (acc : Int32), h + d = n → d < f → d < f' → ∃ v : Int32, f_X6_dowries_4 F 53 54 f acc (nI h) c = some (v, c) ∧ f_X11_goes_96 F f' 3 acc (nI h) r = f_X11_goes_129 F v r := by
  have h16 := H.1.1
  intro d
  induction d with
  | zero =>
    intro h f f' acc hd hf hf'
    obtain ⟨f, rfl⟩ : ∃ g, f = g + 1 := ⟨f - 1, by omega⟩
    obtain ⟨f', rfl⟩ : ∃ g, f' = g + 1 := ⟨f' - 1, by omega⟩
    refine ⟨acc, ?_, ?_⟩
    · show f_X6_dowries_4_b F _ 53 54 _ _ c = _
      unfold f_X6_dowries_4_b
      rw [H.2.1.1, if_pos (nI_le (by omega) (by omega))]
    · show f_X11_goes_96_b F _ _ _ _ r = _
      unfold f_X11_goes_96_b
      rw [H.1.2, if_pos (nI_le (by omega) (by omega))]
  | succ d ih =>
    intro h f f' acc hd hf hf'
    obtain ⟨f, rfl⟩ : ∃ g, f = g + 1 := ⟨f - 1, by omega⟩
    obtain ⟨f', rfl⟩ : ∃ g, f' = g + 1 := ⟨f' - 1, by omega⟩
    obtain ⟨_, _, ⟨g1, _⟩, _⟩ := H.2.1.2.2.2.2.2.2.2.2.2.2 h (by omega)
    obtain ⟨v, e1, e2⟩ := ih (h + 1) f f' (acc + r 61 (55 + h)) (by omega) (by omega) (by omega)
    refine ⟨v, ?_, ?_⟩
    · show f_X6_dowries_4_b F _ 53 54 _ _ c = _
      unfold f_X6_dowries_4_b
      rw [H.2.1.1, if_neg (nI_ge (by omega) (by omega)), e_get2 H.2.1.1 (by omega) h16, n_bind, g1, nI_1, e1]
    · show f_X11_goes_96_b F _ _ _ _ r = _
      unfold f_X11_goes_96_b
      rw [H.1.2, if_neg (nI_ge (by omega) (by omega)), if_pos rfl, i_55, if_neg (nI_in (by omega) (by decide)), nI_clamp (by omega), nI_1, e2]
/-- the answer behind the years -/
theorem ga_ {F n : Nat} (hF : 300000 ≤ F) {c r : nd_Mem} (H : wk_ 55 53 54 n c r) {x2 : Int32} (hx : ¬ x2 < 0) (hx3 : x2 ≤ 3) {rec35 : Int32 → Int32 → Int32 → nd_Mem → nd_Res} {rec34 : Int32 → Int32 → Int32 → nd_Mem → nd_Res} {N k : Nat} (hNk : N ≤ k) (hk : k ≤ 60) : ∃ v : Int32, f_X10_goes_35_b F rec35 (nI N) x2 (nI k) c = some (v, c) ∧ f_X11_goes_34_b F rec34 (nI N) x2 (nI k) r = f_X11_goes_129 F v r := by
  have h16 := H.1.1
  have nz : ∀ s0 : Int32, ¬ x2 = 3 → f_X11_goes_92 F x2 s0 r = f_X11_goes_129 F s0 r := by
    intro s0 h3
    unfold f_X11_goes_92
    obtain ⟨f, rfl⟩ : ∃ f, F = f + 1 := ⟨F - 1, by omega⟩
    show f_X11_goes_96_b (f + 1) _ _ _ _ r = _
    unfold f_X11_goes_96_b
    by_cases hh : r 60 6 ≤ 0
    · rw [if_pos hh]
    · rw [if_neg hh, if_neg h3]
  obtain ⟨_, s3, s4, s5, _⟩ := H.2.1
  unfold f_X10_goes_35_b f_X11_goes_34_b
  rw [if_pos (nI_le hNk (by omega)), if_pos (nI_le hNk (by omega))]
  by_cases c0 : x2 = 0
  · exact ⟨r 61 5, by rw [if_pos c0, s5], by rw [if_pos c0, if_neg (by decide), k_5, nz _ (by rw [c0]; decide)]⟩
  by_cases c1 : x2 = 1
  · exact ⟨r 61 3, by rw [if_neg c0, if_pos c1, s3], by rw [if_neg c0, if_pos c1, if_neg (by decide), k_3, nz _ (by rw [c1]; decide)]⟩
  by_cases c2 : x2 = 2
  · exact ⟨r 61 4, by rw [if_neg c0, if_neg c1, if_pos c2, s4], by rw [if_neg c0, if_neg c1, if_pos c2, if_neg (by decide), k_4, nz _ (by rw [c2]; decide)]⟩
  have c3 : x2 = 3 := by grind
  subst c3
  obtain ⟨v, e1, e2⟩ := dw_ (F := F) H n 0 F F 0 (by omega) (by omega) (by omega)
  refine ⟨v, ?_, ?_⟩
  · rw [if_neg (by decide), if_neg (by decide), if_neg (by decide)]
    unfold f_X6_dowries
    show nd_bind (f_X6_dowries_4 F 53 54 F 0 (nI 0) c) _ = _
    rw [e1, n_bind]
  · rw [if_neg (by decide), if_neg (by decide), if_neg (by decide)]
    unfold f_X11_goes_92
    exact e2
theorem gs_ {F n N : Nat} (hF : 300000 ≤ F) (hN : N ≤ 60) {x2 : Int32} (hx : ¬ x2 < 0) (hx3 : x2 ≤ 3) : ∀ (d k f f' : Nat) (c r : nd_Mem), k + d = N → d < f → d < f' → wk_ 55 53 54 n c r → ∃ (v : Int32) (c' r' : nd_Mem), f_X10_goes_35 F f (nI N) x2 (nI k) c = some (v, c') ∧ f_X11_goes_34 F f' (nI N) x2 (nI k) r = f_X11_goes_129 F v r' ∧ th_ n c r c' r' := by
  intro d
  induction d with
  | zero =>
    intro k f f' c r hd hf hf' H
    obtain ⟨f, rfl⟩ : ∃ g, f = g + 1 := ⟨f - 1, by omega⟩
    obtain ⟨f', rfl⟩ : ∃ g, f' = g + 1 := ⟨f' - 1, by omega⟩
    obtain ⟨v, e1, e2⟩ := ga_ (F := F) hF H hx hx3 (rec35 := f_X10_goes_35 F f) (rec34 := f_X11_goes_34 F f') (show N ≤ k by omega) (by omega)
    exact ⟨v, c, r, e1, e2, th_rf H⟩
  | succ d ih =>
    intro k f f' c r hd hf hf' H
    obtain ⟨f, rfl⟩ : ∃ g, f = g + 1 := ⟨f - 1, by omega⟩
    obtain ⟨f', rfl⟩ : ∃ g, f' = g + 1 := ⟨f' - 1, by omega⟩
    obtain ⟨c1, r1, e1, e2, Q1, _⟩ := th_pass (F := F) hF H
    obtain ⟨v, c', r', e3, e4, Q2⟩ := ih (k + 1) f f' c1 r1 (by omega) (by omega) (by omega) Q1.1
    refine ⟨v, c', r', ?_, ?_, th_tr Q1 Q2⟩
    · show f_X10_goes_35_b F _ _ _ _ c = _
      unfold f_X10_goes_35_b
      rw [if_neg (nI_ge (by omega) (by omega)), e1, n_bind, nI_1, e3]
    · show f_X11_goes_34_b F _ _ _ _ r = _
      unfold f_X11_goes_34_b
      rw [if_neg (nI_ge (by omega) (by omega)), e2, n_bind, nI_1, e4]
theorem tq_rf {n : Nat} {c r : nd_Mem} (H : tp_ n c r) (h5 : r 60 5 = 0) : tq_ n c r c r := ⟨fr_rf, fr_rf, H.2, h5, H.1.2.2.2.2.2.2.1, fun _ _ => rfl⟩
def go_M (F : Nat) (x1 x2 : Int32) (σ1 : nd_Mem) : nd_Res := (nd_bind (f_X11_isIn F x1 (1 : Int32) (60 : Int32) σ1) fun r2 σ3 => (if r2 = 0 then (f_X11_goes_26 F σ3) else (nd_bind (f_X11_isIn F x2 (0 : Int32) (3 : Int32) σ3) fun r5 σ6 => (if r5 = 0 then (f_X11_goes_26 F σ6) else (nd_bind (f_X11_thinks F σ6) fun r8 σ9 => (f_X11_goes_34 F F x1 x2 (0 : Int32) σ9))))))
theorem tp_5 {n : Nat} {c r : nd_Mem} (H : tp_ n c r) (h48 : c 51 3 = 0) : r 60 5 = 0 := by
  rcases H.1.2.2.2.2.2.2.2 with ⟨_, e⟩ | ⟨e, _⟩
  · exact e
  · rw [h48] at e; exact absurd e (by decide)
def tp2_ (n : Nat) (c r : nd_Mem) : Prop := tp_ n c r ∧ c 51 3 = 0
theorem tp2_I {n : Nat} {σ : nd_Mem} (hI : iv_I n σ) : tp2_ n σ σ := ⟨tp_I hI, hI.2.2.2.2.2.2.1⟩
theorem goes_2 {F n : Nat} (hF : 300000 ≤ F) (x1 x2 : Int32) (c r : nd_Mem) (W : tp2_ n c r) : ∃ (v : Int32) (c' r' : nd_Mem), f_X10_goes F x1 x2 c = some (v, c') ∧ go_M F x1 x2 r = some (v, r') ∧ tq_ n c r c' r' := by
  have h5 := tp_5 W.1 W.2
  unfold f_X10_goes f_X10_goes_20 go_M f_X11_goes_26
  rw [e_isIn, n_bind, e_isIn, n_bind]
  by_cases h1 : x1 < 1
  · exact ⟨-1, c, r, by rw [if_pos h1], by rw [if_pos (Or.inl h1), if_pos rfl], tq_rf W.1 h5⟩
  by_cases h2 : 60 < x1
  · exact ⟨-1, c, r, by rw [if_neg h1, if_pos h2], by rw [if_pos (Or.inr h2), if_pos rfl], tq_rf W.1 h5⟩
  rw [if_neg h1, if_neg h2, if_neg (show ¬ (x1 < 1 ∨ 60 < x1) from fun e => e.elim h1 h2), if_neg n10]
  by_cases h3 : x2 < 0
  · exact ⟨-1, c, r, by rw [if_pos h3], by rw [if_pos (Or.inl h3), if_pos rfl], tq_rf W.1 h5⟩
  by_cases h4 : x2 ≤ 3
  · rw [if_neg h3, if_pos h4, if_neg (show ¬ (x2 < 0 ∨ 3 < x2) from fun e => e.elim h3 (Int32.not_lt.mpr h4)), if_neg n10]
    obtain ⟨N, hN, rfl⟩ := rngL 60 (by decide) (x := x1) (lo := 1) (fun e => e.elim h1 h2) (by decide)
    obtain ⟨u, v0, g, e1, e2, H, hg, _⟩ := th_start (F := F) hF W.1.1 W.1.2
    obtain ⟨v, c', r', e3, e4, Q⟩ := gs_ (F := F) (n := n) hF hN h3 h4 N 0 F F _ _ (by omega) (by omega) (by omega) H
    obtain ⟨r'', e5, Q2⟩ := th_end (F := F) hF hg (tw_th Q (u_eq _ _ _ _))
    refine ⟨v, c', r'', ?_, ?_, Q2⟩
    · rw [e1, n_bind]
      exact e3
    · rw [e2, n_bind]
      show f_X11_goes_34 F F (nI N) x2 (nI 0) _ = _
      rw [e4]
      unfold f_X11_goes_129
      rw [e5, n_bind]
  · exact ⟨-1, c, r, by rw [if_neg h3, if_neg h4], by rw [if_pos (Or.inr (Int32.not_le.mp h4)), if_pos rfl], tq_rf W.1 h5⟩
theorem op_goes {F : Nat} (hF : 300000 ≤ F) (x1 x2 : Int32) : op_ (f_X10_goes F x1 x2) (f_X11_goes F x1 x2) := by
  intro σ n hI
  obtain ⟨v, c', ρ, e1, e2, Q⟩ := two_run (P := tp2_ n) (Q := tq_ n) (goes_2 hF x1 x2) (tp2_I hI) (fun c' r' q => ⟨tp_rc (tp_I hI) q, (tp2_I hI).2⟩)
  obtain ⟨h1, h2⟩ := tfin hI Q
  exact ⟨v, c', ρ, n, e1, e2, h1, h2⟩
/-! jug -/
theorem jg_end {F : Nat} {x : Int32} {r : nd_Mem} : f_X11_jug_50 F x r = nd_bind (f_X11_endsThought F r) (fun r1 σ2 => if x ≤ 60 then some (x, σ2) else some (-1, σ2)) := rfl
theorem jg_ {F n : Nat} (hF : 300000 ≤ F) {h : Nat} (hh : h < n) (g0 : Int32) : ∀ (d k f f' : Nat) (c r : nd_Mem), k + d = 60 → d < f → d + 1 < f' → wk_ 55 53 54 n c r → r 60 5 = 1 → c 1 6 = g0 → r 61 0 = g0 + nI k → ∃ (v x : Int32) (c' r' : nd_Mem), f_X10_jug_26 F f (nI h) (nI k) c = some (v, c') ∧ f_X11_jug_21 F f' (nI h) (nI k) r = f_X11_jug_50 F x r' ∧ v = (if x ≤ 60 then x else -1) ∧ tw_ c r c' r' := by
  intro d
  induction d with
  | zero =>
    intro k f f' c r hd hf hf' H h5 h1 h0
    obtain ⟨f, rfl⟩ : ∃ g, f = g + 1 := ⟨f - 1, by omega⟩
    obtain ⟨f', rfl⟩ : ∃ g, f' = g + 1 := ⟨f' - 1, by omega⟩
    have hp : 0 < n := by omega
    have hj := H.2.1.2.2.2.2.2.2.2.2.2.1 hp
    have hk : k = 60 := by omega
    subst hk
    have stepC : f_X10_jug_26 F (f + 1) (nI h) (nI 60) c = f_X10_jug_56 F (nI h) c := by
      show f_X10_jug_26_b F _ _ _ c = _
      unfold f_X10_jug_26_b
      rw [if_pos (by decide)]
    have stepM : f_X11_jug_21 F (f' + 1) (nI h) (nI 60) r = (if r 61 6 = nI h then f_X11_jug_50 F (nI 60) r else nd_bind (f_X11_goesBy F r) (fun r1 σ2 => f_X11_jug_21 F f' (nI h) (nI 61) σ2)) := by
      show f_X11_jug_21_b F _ _ _ r = _
      unfold f_X11_jug_21_b
      rw [if_neg (by decide), if_neg (by decide), k_6, nI_1]
    rw [stepC, stepM]
    unfold f_X10_jug_56
    rw [hj]
    by_cases he : r 61 6 = nI h
    · refine ⟨_, nI 60, c, r, by rw [if_pos he], by rw [if_pos he], ?_, tw_th (th_rf H) h5⟩
      rw [if_pos (by decide), H.2.1.2.2.2.2.1, h0, h1]
      grind
    · obtain ⟨c1, r1, e1, e2, Q, e3⟩ := th_pass (F := F) hF H
      obtain ⟨f', rfl⟩ : ∃ g, f' = g + 1 := ⟨f' - 1, by omega⟩
      refine ⟨-1, nI 61, c, r1, by rw [if_neg he], ?_, by decide, fr_rf, Q.2.2, (tw_th (th_rf H) h5).2.2.1, fun i hi => ?_⟩
      · rw [if_neg he, e2, n_bind]
        show f_X11_jug_21_b F _ _ _ r1 = _
        unfold f_X11_jug_21_b
        rw [if_pos (by decide)]
      · rw [e3.2 h5]
        exact H.2.2.2.2.2.2.1 i hi
  | succ d ih =>
    intro k f f' c r hd hf hf' H h5 h1 h0
    obtain ⟨f, rfl⟩ : ∃ g, f = g + 1 := ⟨f - 1, by omega⟩
    obtain ⟨f', rfl⟩ : ∃ g, f' = g + 1 := ⟨f' - 1, by omega⟩
    have hp : 0 < n := by omega
    have hj := H.2.1.2.2.2.2.2.2.2.2.2.1 hp
    have stepC : f_X10_jug_26 F (f + 1) (nI h) (nI k) c = (if r 61 6 = nI h then f_X10_jug_56 F (nI h) c else nd_bind (f_X9_pass F 55 56 53 54 c) (fun r1 σ2 => f_X10_jug_26 F f (nI h) (nI (k + 1)) σ2)) := by
      show f_X10_jug_26_b F _ _ _ c = _
      unfold f_X10_jug_26_b
      rw [if_neg (show ¬ (60 : Int32) ≤ nI k from nI_ge (b := 60) (by omega) (by decide)), hj, nI_1]
    have stepM : f_X11_jug_21 F (f' + 1) (nI h) (nI k) r = (if r 61 6 = nI h then f_X11_jug_50 F (nI k) r else nd_bind (f_X11_goesBy F r) (fun r1 σ2 => f_X11_jug_21 F f' (nI h) (nI (k + 1)) σ2)) := by
      show f_X11_jug_21_b F _ _ _ r = _
      unfold f_X11_jug_21_b
      rw [if_neg (show ¬ (60 : Int32) < nI k from nI_nlt (a := 60) (by omega) (by omega)), if_neg (by decide), k_6, nI_1]
    rw [stepC, stepM]
    by_cases he : r 61 6 = nI h
    · refine ⟨c 53 6 - c 1 6, nI k, c, r, ?_, by rw [if_pos he], ?_, tw_th (th_rf H) h5⟩
      · unfold f_X10_jug_56
        rw [if_pos he, hj, if_pos he]
      · rw [if_pos (show nI k ≤ (60 : Int32) from nI_le (b := 60) (by omega) (by decide)), H.2.1.2.2.2.2.1, h0, h1]
        grind
    · obtain ⟨c1, r1, e1, e2, Q, e3⟩ := th_pass (F := F) hF H
      obtain ⟨v, x, c', r', q1, q2, q3, Q2⟩ := ih (k + 1) f f' c1 r1 (by omega) (by omega) (by omega) Q.1 (by rw [Q.2.2.2 5 (by decide)]; exact h5) (by rw [Q.2.1.1 1 (by decide) (by decide)]; exact h1) (by rw [e3.1, h0, ← nI_1]; grind)
      refine ⟨v, x, c', r', ?_, ?_, q3, fr_t Q.2.1 Q2.1, fr_t Q.2.2 Q2.2.1, Q2.2.2⟩
      · rw [if_neg he, e1, n_bind, q1]
      · rw [if_neg he, e2, n_bind, q2]
def ju_M (F : Nat) (x1 : Int32) (σ1 : nd_Mem) : nd_Res := (nd_bind (f_X11_isHouse F x1 σ1) fun r2 σ3 => (if r2 = 0 then (some ((-1 : Int32), σ3)) else (nd_bind (f_X11_thinks F σ3) fun r5 σ6 => (f_X11_jug_21 F F x1 (0 : Int32) σ6))))
theorem jug_2 {F n : Nat} (hF : 300000 ≤ F) (x1 : Int32) (c r : nd_Mem) (W : tp2_ n c r) : ∃ (v : Int32) (c' r' : nd_Mem), f_X10_jug F x1 c = some (v, c') ∧ ju_M F x1 r = some (v, r') ∧ tq_ n c r c' r' := by
  have h5 := tp_5 W.1 W.2
  have H := W.1.1
  have h16 := H.1.1
  unfold f_X10_jug ju_M
  rcases e_hasS (F := F) (a := 2) H.2.1.1 h16 x1 with ⟨h, hh, rfl, hs⟩ | ⟨hx, hs⟩
  · have hM : f_X11_isHouse F (nI h) r = some (1, r) := by rw [e_houseM H.1.2 h16 (by omega), if_pos hh]
    rw [hs, n_bind, if_neg n10, hM, n_bind, if_neg n10]
    obtain ⟨u, v0, g, e1, e2, H1, hg, hu⟩ := th_start (F := F) hF W.1.1 W.1.2
    obtain ⟨v, x, c', r', e3, e4, e6, Q⟩ := jg_ (F := F) (n := n) hF hh (c 1 6) 60 0 F F _ _ (by omega) (by omega) (by omega) H1 (u_eq _ _ _ _) rfl (by
      show r 61 0 = c 1 6 + nI 0
      rw [H.2.1.2.2.2.2.1, nI_0]
      grind)
    obtain ⟨r'', e5, Q2⟩ := th_end (F := F) hF hg Q
    refine ⟨v, c', r'', ?_, ?_, Q2⟩
    · rw [e1, n_bind]
      exact e3
    · rw [e2, n_bind]
      show f_X11_jug_21 F F (nI h) (nI 0) _ = _
      rw [e4, jg_end, e5, n_bind, e6]
      by_cases hx : x ≤ 60
      · rw [if_pos hx, if_pos hx]
      · rw [if_neg hx, if_neg hx]
  · refine ⟨-1, c, r, ?_, ?_, tq_rf W.1 h5⟩
    · rw [hs, n_bind, if_pos rfl]
    · rw [e_isHouse, H.1.2, if_pos hx, n_bind, if_pos rfl]
theorem op_jug {F : Nat} (hF : 300000 ≤ F) (x1 : Int32) : op_ (f_X10_jug F x1) (f_X11_jug F x1) := by
  intro σ n hI
  obtain ⟨v, c', ρ, e1, e2, Q⟩ := two_run (P := tp2_ n) (Q := tq_ n) (jug_2 hF x1) (tp2_I hI) (fun c' r' q => ⟨tp_rc (tp_I hI) q, (tp2_I hI).2⟩)
  obtain ⟨h1, h2⟩ := tfin hI Q
  exact ⟨v, c', ρ, n, e1, e2, h1, h2⟩
