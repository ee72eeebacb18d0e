/-! of -/
def of_M (F : Nat) (x1 x2 : Int32) (σ1 : nd_Mem) : nd_Res := (nd_bind (f_X11_isHouse F x1 σ1) fun r2 σ3 => (if r2 = 0 then (some ((-2 : Int32), σ3)) else (if x2 = 0 then (if ((7 : Int32) + x1) < 0 ∨ 103 ≤ (((7 : Int32) + x1)).toNatClampNeg then none else (some ((σ3 61 (((7 : Int32) + x1)).toNatClampNeg), σ3))) else (if x2 = (1 : Int32) then (if ((23 : Int32) + x1) < 0 ∨ 103 ≤ (((23 : Int32) + x1)).toNatClampNeg then none else (some ((σ3 61 (((23 : Int32) + x1)).toNatClampNeg), σ3))) else (if x2 = (2 : Int32) then (if ((55 : Int32) + x1) < 0 ∨ 103 ≤ (((55 : Int32) + x1)).toNatClampNeg then none else (some ((σ3 61 (((55 : Int32) + x1)).toNatClampNeg), σ3))) else (if x2 = (3 : Int32) then (if ((39 : Int32) + x1) < 0 ∨ 103 ≤ (((39 : Int32) + x1)).toNatClampNeg then none else (some ((σ3 61 (((39 : Int32) + x1)).toNatClampNeg), σ3))) else (if x2 = (4 : Int32) then (if ((87 : Int32) + x1) < 0 ∨ 103 ≤ (((87 : Int32) + x1)).toNatClampNeg then none else (some ((σ3 61 (((87 : Int32) + x1)).toNatClampNeg), σ3))) else (if x2 = (5 : Int32) then (if ((71 : Int32) + x1) < 0 ∨ 103 ≤ (((71 : Int32) + x1)).toNatClampNeg then none else (some (((σ3 61 (((71 : Int32) + x1)).toNatClampNeg) - (1 : Int32)), σ3))) else (if x2 = (6 : Int32) then (if x1 < 0 ∨ 32 ≤ (x1).toNatClampNeg then none else (some ((σ3 77 (x1).toNatClampNeg), σ3))) else (if x2 = (7 : Int32) then (nd_bind (f_X11_nextOf F x1 σ3) fun r14 σ15 => (some (r14, σ15))) else (if x2 = (8 : Int32) then (nd_bind (f_X11_goesOf F x1 σ3) fun r11 σ12 => (some (r11, σ12))) else (if x2 = (9 : Int32) then (nd_bind (f_X11_bearsOf F x1 σ3) fun r8 σ9 => (some (r8, σ9))) else (if x2 = (10 : Int32) then (nd_bind (f_X11_bringsOf F x1 σ3) fun r5 σ6 => (some (r5, σ6))) else (if x2 = (11 : Int32) then (if x1 < 0 ∨ 32 ≤ (x1).toNatClampNeg then none else (some ((σ3 76 (x1).toNatClampNeg), σ3))) else (some ((-2 : Int32), σ3))))))))))))))))
theorem of_2 {F n : Nat} (hF : 300000 ≤ F) (x1 x2 : Int32) (c r : nd_Mem) (W : wp2_ n c r) : ∃ (v : Int32) (c' r' : nd_Mem), f_X10_of F x1 x2 c = some (v, c') ∧ of_M F x1 x2 r = some (v, r') ∧ wq2_ n c r c' r' := by
  have H := W.1
  have h16 := H.1.1
  have h1 := H.2.1.1
  unfold f_X10_of of_M
  rcases e_hasS (F := F) (a := 2) h1 h16 x1 with ⟨h, hh, rfl, hs⟩ | ⟨hx, hs⟩
  · have hM : f_X11_isHouse F (nI h) r = some (1, r) := by rw [e_houseM H.1.2 h16 (by omega), if_pos hh]
    obtain ⟨⟨g1, _⟩, ⟨g2, _⟩, ⟨g3, _⟩, ⟨g4, _⟩, ⟨g5, _⟩, ⟨g6, _⟩⟩ := H.2.1.2.2.2.2.2.2.2.2.2.2 h hh
    rw [hs, n_bind, if_neg n10, hM, n_bind, if_neg n10]
    by_cases c0 : x2 = 0
    · subst c0
      exact ⟨_, c, r, by rw [if_pos rfl, e_get0 h1 hh h16, n_bind, g1], by rw [if_pos rfl, i_7, if_neg (nI_in (by omega) (by decide)), nI_clamp (by omega)], wq2_rf W⟩
    rw [if_neg c0, if_neg c0]
    by_cases c1 : x2 = 1
    · subst c1
      exact ⟨_, c, r, by rw [if_pos rfl, e_get1 h1 hh h16, n_bind, g2], by rw [if_pos rfl, i_23, if_neg (nI_in (by omega) (by decide)), nI_clamp (by omega)], wq2_rf W⟩
    rw [if_neg c1, if_neg c1]
    by_cases c2 : x2 = 2
    · subst c2
      exact ⟨_, c, r, by rw [if_pos rfl, e_get2 h1 hh h16, n_bind, g3], by rw [if_pos rfl, i_55, if_neg (nI_in (by omega) (by decide)), nI_clamp (by omega)], wq2_rf W⟩
    rw [if_neg c2, if_neg c2]
    by_cases c3 : x2 = 3
    · subst c3
      exact ⟨_, c, r, by rw [if_pos rfl, e_get3 h1 hh h16, n_bind, g4], by rw [if_pos rfl, i_39, if_neg (nI_in (by omega) (by decide)), nI_clamp (by omega)], wq2_rf W⟩
    rw [if_neg c3, if_neg c3]
    by_cases c4 : x2 = 4
    · subst c4
      exact ⟨_, c, r, by rw [if_pos rfl, e_get4 h1 hh h16, n_bind, g5], by rw [if_pos rfl, i_87, if_neg (nI_in (by omega) (by decide)), nI_clamp (by omega)], wq2_rf W⟩
    rw [if_neg c4, if_neg c4]
    by_cases c5 : x2 = 5
    · subst c5
      exact ⟨_, c, r, by rw [if_pos rfl, e_get5 h1 hh h16, n_bind, g6], by rw [if_pos rfl, i_71, if_neg (nI_in (by omega) (by decide)), nI_clamp (by omega)], wq2_rf W⟩
    rw [if_neg c5, if_neg c5]
    by_cases c6 : x2 = 6
    · subst c6
      exact ⟨_, c, r, by rw [if_pos rfl, e_side H.2.2.2.2.2.1 (by omega), n_bind], by rw [if_pos rfl, if_neg (nI_in (by omega) (by decide)), nI_clamp (by omega)], wq2_rf W⟩
    rw [if_neg c6, if_neg c6]
    by_cases c7 : x2 = 7
    · subst c7
      obtain ⟨v, n1, n2, _⟩ := e_next (F := F) (a := 52) hF H hh
      exact ⟨v, c, r, by rw [if_pos rfl, n1, n_bind], by rw [if_pos rfl, n2, n_bind], wq2_rf W⟩
    rw [if_neg c7, if_neg c7]
    by_cases c8 : x2 = 8
    · subst c8
      obtain ⟨v, c', r', e1, e2, ⟨W1, _⟩, _⟩ := e_goesOf (F := F) (a := 52) hF q0 H hh
      exact ⟨v, c', r', by rw [if_pos rfl, e1, n_bind], by rw [if_pos rfl, e2, n_bind], wq2_ws W W1⟩
    rw [if_neg c8, if_neg c8]
    by_cases c9 : x2 = 9
    · subst c9
      obtain ⟨v, c', r', e1, e2, ⟨W1, _⟩, _⟩ := e_bearsOf (F := F) (a := 52) hF q0 H hh
      exact ⟨v, c', r', by rw [if_pos rfl, e1, n_bind], by rw [if_pos rfl, e2, n_bind], wq2_ws W W1⟩
    rw [if_neg c9, if_neg c9]
    by_cases c10 : x2 = 10
    · subst c10
      obtain ⟨v, c', r', e1, e2, ⟨W1, _⟩, _⟩ := e_bringsOf (F := F) (a := 52) hF q0 H hh
      exact ⟨v, c', r', by rw [if_pos rfl, e1, n_bind], by rw [if_pos rfl, e2, n_bind], wq2_ws W W1⟩
    rw [if_neg c10, if_neg c10]
    by_cases c11 : x2 = 11
    · subst c11
      obtain ⟨m, hm, m1, m2⟩ := H.2.2.2.2.1.2 h (by omega)
      exact ⟨nI m, c, r, by rw [if_pos rfl, e_feudsOf m1 (by omega), n_bind], by rw [if_pos rfl, if_neg (nI_in (by omega) (by decide)), nI_clamp (by omega), m2], wq2_rf W⟩
    rw [if_neg c11, if_neg c11]
    exact ⟨-2, c, r, rfl, rfl, wq2_rf W⟩
  · refine ⟨-2, c, r, ?_, ?_, wq2_rf W⟩
    · rw [hs, n_bind, if_pos rfl]
    · rw [e_isHouse, H.1.2, if_pos hx, n_bind, if_pos rfl]
theorem op_of {F : Nat} (hF : 300000 ≤ F) (x1 x2 : Int32) : op_ (f_X10_of F x1 x2) (f_X11_of F x1 x2) := by
  intro σ n hI
  obtain ⟨v, c', ρ, e1, e2, Q⟩ := two_run (P := wp2_ n) (Q := wq2_ n) (of_2 hF x1 x2) (wp2_I hI) (fun c' r' q => wp2_rc (wp2_I hI) q)
  obtain ⟨h1, h2⟩ := fin2 hI Q
  exact ⟨v, c', ρ, n, e1, e2, h1, h2⟩
/-! in thought -/
theorem q1t : (55 = 51 ∧ 56 = 52 ∧ 53 = 1 ∧ 54 = 2) ∨ (55 = 55 ∧ 56 = 56 ∧ 53 = 53 ∧ 54 = 54) := Or.inr ⟨rfl, rfl, rfl, rfl⟩
/-- what a thought changes -/
def th_ (n : Nat) (c r c' r' : nd_Mem) : Prop := wk_ 55 53 54 n c' r' ∧ fc_ 55 56 53 54 c c' ∧ fm_ r r'
theorem th_rf {n : Nat} {c r : nd_Mem} (H : wk_ 55 53 54 n c r) : th_ n c r c r := ⟨H, fr_rf, fr_rf⟩
theorem th_tr {n : Nat} {c r c' r' c'' r'' : nd_Mem} (h1 : th_ n c r c' r') (h2 : th_ n c' r' c'' r'') : th_ n c r c'' r'' := ⟨h2.1, fr_t h1.2.1 h2.2.1, fr_t h1.2.2 h2.2.2⟩
section TH
variable {F n : Nat} {c r : nd_Mem}
theorem e_thinks (hF : 300000 ≤ F) : ∃ g : Nat → Int32, f_X11_thinks F r = some (0, nd_up (nd_row r 63 g) 60 5 1) ∧ ∀ j : Nat, j < 103 → g j = r 61 j := by
  obtain ⟨g, e1, e2, _⟩ := lp_id (L := f_X11_thinks_2 F) (σ := r) (r := 63) (N := 103) (v := fun j => r 61 j) (z := fun τ => some (0, nd_up τ 60 5 1)) (fun f i g hi => by
    show f_X11_thinks_2_b F _ _ _ = _
    unfold f_X11_thinks_2_b
    rw [if_neg (show ¬ (103 : Int32) ≤ nI i from nI_ge (b := 103) hi (by decide)), if_neg (nI_in hi (by decide)), if_neg (nI_in hi (by decide)), nI_clamp (by omega), n_let, w_ne (by decide), up_row, nI_1]) (fun f g => by
    show f_X11_thinks_2_b F _ _ _ = _
    unfold f_X11_thinks_2_b
    rw [if_pos (by decide), if_neg (by decide), n_let]) F (by omega)
  exact ⟨g, e1, e2⟩
theorem e_ends (hF : 300000 ≤ F) : ∃ g : Nat → Int32, f_X11_endsThought F r = some (0, nd_up (nd_row r 61 g) 60 5 0) ∧ ∀ j : Nat, j < 103 → g j = r 63 j := by
  obtain ⟨g, e1, e2, _⟩ := lp_id (L := f_X11_endsThought_2 F) (σ := r) (r := 61) (N := 103) (v := fun j => r 63 j) (z := fun τ => some (0, nd_up τ 60 5 0)) (fun f i g hi => by
    show f_X11_endsThought_2_b F _ _ _ = _
    unfold f_X11_endsThought_2_b
    rw [if_neg (show ¬ (103 : Int32) ≤ nI i from nI_ge (b := 103) hi (by decide)), if_neg (nI_in hi (by decide)), if_neg (nI_in hi (by decide)), nI_clamp (by omega), n_let, w_ne (by decide), up_row, nI_1]) (fun f g => by
    show f_X11_endsThought_2_b F _ _ _ = _
    unfold f_X11_endsThought_2_b
    rw [if_pos (by decide), if_neg (by decide), n_let]) F (by omega)
  exact ⟨g, e1, e2⟩
/-- the start of a thought -/
theorem th_start (hF : 300000 ≤ F) (H : wk_ 51 1 2 n c r) (h52 : c 55 3 = 1) : ∃ (u v g : Nat → Int32), f_X6_copy F 53 54 1 2 c = some (0, nd_row (nd_row c 54 v) 53 u) ∧ f_X11_thinks F r = some (0, nd_up (nd_row r 63 g) 60 5 1) ∧ wk_ 55 53 54 n (nd_row (nd_row c 54 v) 53 u) (nd_up (nd_row r 63 g) 60 5 1) ∧ (∀ j : Nat, j < 103 → g j = r 61 j) ∧ (∀ k : Nat, 1 ≤ k → k ≤ 8 → u k = c 1 k) := by
  obtain ⟨u, v, e1, e2, e3⟩ := e_copyS (F := F) (σ := c) (b := 53) (a := 54) (b' := 1) (a' := 2) (by decide) (by decide) (by decide)
  obtain ⟨g, e4, e5⟩ := e_thinks (F := F) (r := r) hF
  refine ⟨u, v, g, e1, e4, ?_, e5, e2⟩
  obtain ⟨hn, hS, k2, k3, k4, k5, k8, k6⟩ := H
  exact ⟨hn, iv_S_c hn.1 (fun k a b => e2 k a b) (fun k a => e3 k a) (fun k a => rfl) hS, k2, k3, k4, k5, k8, Or.inr ⟨h52, rfl⟩⟩
theorem th_pass (hF : 300000 ≤ F) (H : wk_ 55 53 54 n c r) : ∃ c' r' : nd_Mem, f_X9_pass F 55 56 53 54 c = some (0, c') ∧ f_X11_goesBy F r = some (r' 61 5 - r 61 5, r') ∧ th_ n c r c' r' ∧ kh_ r r' := by
  obtain ⟨c', r', e1, e2, e3, e4, e5, e6⟩ := e_pass (F := F) (b := 55) (a := 56) (st := 53) (sa := 54) hF q1t H
  exact ⟨c', r', e1, e2, ⟨e3, e4, e5⟩, e6⟩
end TH
abbrev St_ : List Nat := [55, 56, 53, 54, 11]
abbrev Sq_ : List Nat := [61, 64, 78, 79, 80, 63]
def tp_ (n : Nat) (c r : nd_Mem) : Prop := wk_ 51 1 2 n c r ∧ c 55 3 = 1
def tq_ (n : Nat) (c r c' r' : nd_Mem) : Prop := fr_ St_ [] c c' ∧ fr_ Sq_ [5] r r' ∧ c' 55 3 = 1 ∧ r' 60 5 = 0 ∧ q8_ c' r' ∧ ∀ k : Nat, k < 103 → r' 61 k = r 61 k
theorem tp_I {n : Nat} {σ : nd_Mem} (hI : iv_I n σ) : tp_ n σ σ := ⟨wk_I hI, hI.2.2.2.2.2.2.2.1⟩
theorem tp_rc {n : Nat} {c c' r' : nd_Mem} (H : tp_ n c c) (Q : tq_ n c c c' r') : tp_ n c (nd_up c' 60 0 0) := by
  have f : fr_ St_ [0] c (nd_up c' 60 0 0) := fr_up57 (fr_w Q.1 (fun _ h => h) (by decide)) (by decide)
  exact ⟨wk_rc (fr_use f (by decide)) H.1, H.2⟩
theorem tfin {n : Nat} {σ c' ρ : nd_Mem} (hI : iv_I n σ) (Q : tq_ n σ (nd_up c' 60 0 0) c' ρ) : iv_I n ρ ∧ ρ 0 10 = σ 0 10 := by
  obtain ⟨fc, fr, h52, h5, h8, h58⟩ := Q
  have f1 : fr_ St_ [0] σ (nd_up c' 60 0 0) := fr_up57 (fr_w fc (fun _ h => h) (by decide)) (by decide)
  have f0 : fr_ (St_ ++ Sq_) [0, 5] σ ρ := fr_w (fr_tr f1 fr) (fun _ h => h) (by decide)
  have cc : ∀ i : Nat, i ∉ Sq_ → i ≠ 60 → ρ i = c' i := fun i h1 h2 => by rw [fr.1 i h1 h2, nd_up_ne h2]
  obtain ⟨⟨hn, hq1, hq2, hq3, hq4, hq5, hq6, hq7, hq8, hla, hpl, hfd, hsd⟩, hpa, htp, hpi, hfx⟩ := hI
  refine ⟨⟨⟨c_hn (fr_use f0 (by decide)) hn, c_hq1 (fr_use f0 (by decide)) hq1, c_hq2 (fr_use f0 (by decide)) hq2, c_hq3 (fr_use f0 (by decide)) hq3, c_hq4 (fr_use f0 (by decide)) hq4, c_hq5 (fr_use f0 (by decide)) hq5, c_hq6 (fr_use f0 (by decide)) hq6, ?_, ?_, c_hla (fr_use f0 (by decide)) hla, c_hpl (fr_use f0 (by decide)) hpl, c_hfd (fr_use f0 (by decide)) hfd, c_hsd (fr_use f0 (by decide)) hsd⟩, c_hpa (fr_use f0 (by decide)) hpa, c_htp (fr_use f0 (by decide)) htp, c_hpi (fr_use f0 (by decide)) hpi, ?_⟩, congrFun (f0.1 0 (by decide) (by decide)) 10⟩
  · show iv_S (ρ 1) (ρ 2) (ρ 61) n
    rw [f0.1 1 (by decide) (by decide), f0.1 2 (by decide) (by decide)]
    refine iv_S_c hn.1 (fun _ _ _ => rfl) (fun _ _ => rfl) (fun k hk => ?_) hq7
    rw [h58 k hk, nd_up_ne (by decide), fc.1 61 (by decide) (by decide)]
  · intro i hi
    rw [cc 11 (by decide) (by decide)]
    exact h8 i hi
  · refine ⟨fun i hi => ?_, fun i hi => ?_, ?_, ?_, h5⟩
    · rw [f0.1 59 (by decide) (by decide)]; exact hfx.1 i hi
    · rw [f0.1 66 (by decide) (by decide)]; exact hfx.2.1 i hi
    · rw [f0.1 51 (by decide) (by decide)]; exact hfx.2.2.1
    · rw [cc 55 (by decide) (by decide)]; exact h52
def tw_ (c r c' r' : nd_Mem) : Prop := fc_ 55 56 53 54 c c' ∧ fm_ r r' ∧ c' 55 3 = 1 ∧ q8_ c' r'
theorem tw_th {n : Nat} {c r c' r' : nd_Mem} (Q : th_ n c r c' r') (h5 : r 60 5 = 1) : tw_ c r c' r' := by
  obtain ⟨H, fc, fm⟩ := Q
  have a5 : r' 60 5 = 1 := by rw [fm.2 5 (by decide)]; exact h5
  refine ⟨fc, fm, ?_, H.2.2.2.2.2.2.1⟩
  rcases H.2.2.2.2.2.2.2 with ⟨_, e⟩ | ⟨e, _⟩
  · rw [a5] at e; exact absurd e (by decide)
  · exact e
/-- the end of a thought -/
theorem th_end {F n : Nat} {c r c' r' : nd_Mem} {u v g : Nat → Int32} (hF : 300000 ≤ F) (hg : ∀ j : Nat, j < 103 → g j = r 61 j) (Q : tw_ (nd_row (nd_row c 54 v) 53 u) (nd_up (nd_row r 63 g) 60 5 1) c' r') : ∃ r'' : nd_Mem, f_X11_endsThought F r' = some (0, r'') ∧ tq_ n c r c' r'' := by
  obtain ⟨g2, e1, e2⟩ := e_ends (F := F) (r := r') hF
  obtain ⟨fc, fm, a52, a8⟩ := Q
  refine ⟨_, e1, ?_, ?_, ?_, u_eq _ _ _ _, ?_, fun k hk => ?_⟩
  · have : fr_ St_ [] c (nd_row (nd_row c 54 v) 53 u) := (by repeat first | exact fr_rf | (refine fr_up57 ?_ (by decide)) | (refine fr_up ?_ (by decide) (by decide)) | (refine fr_row ?_ (by decide) (by decide)))
    exact fr_t this (fr_w fc (by decide) (fun _ h => h))
  · have q1 : fr_ Sq_ [5] r (nd_up (nd_row r 63 g) 60 5 1) := (by repeat first | exact fr_rf | (refine fr_up57 ?_ (by decide)) | (refine fr_up ?_ (by decide) (by decide)) | (refine fr_row ?_ (by decide) (by decide)))
    have q2 : fr_ Sq_ [5] r' (nd_up (nd_row r' 61 g2) 60 5 0) := (by repeat first | exact fr_rf | (refine fr_up57 ?_ (by decide)) | (refine fr_up ?_ (by decide) (by decide)) | (refine fr_row ?_ (by decide) (by decide)))
    exact fr_t (fr_t q1 (fr_w fm (by decide) (by decide))) q2
  · exact a52
  · exact a8
  · rw [u_ne1 (by decide), w_eq, e2 k hk, fm.1 63 (by decide) (by decide), u_ne1 (by decide), w_eq, hg k hk]
