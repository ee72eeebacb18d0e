/-! by hand: act -/
def ac_M (F : Nat) (x1 x2 : Int32) (σ1 : nd_Mem) : nd_Res := (nd_bind (f_X11_canAct F x1 x2 σ1) fun r2 σ3 => (if r2 = 0 then (some ((0 : Int32), σ3)) else (nd_bind (f_X11_keepsAhead F σ3) fun r5 σ6 => (if x1 = 0 then (nd_bind (f_X11_girlGoes F x2 σ6) fun r8 σ9 => (f_X11_act_29 F x1 x2 σ9)) else (f_X11_act_29 F x1 x2 σ6)))))
theorem wq2_rf {n : Nat} {c r : nd_Mem} (W : wp2_ n c r) : wq2_ n c r c r := ⟨W, fr_rf, fr_rf⟩
theorem wq2_ws {n : Nat} {c r c' r' : nd_Mem} (W : wp2_ n c r) (h : ws_ 51 52 1 2 n c r c' r') : wq2_ n c r c' r' := wq2_of W.2 h.1 h.2.1 h.2.2.1
theorem q0 : (51 = 51 ∧ 52 = 52 ∧ 1 = 1 ∧ 2 = 2) ∨ (51 = 55 ∧ 52 = 56 ∧ 1 = 53 ∧ 2 = 54) := Or.inl ⟨rfl, rfl, rfl, rfl⟩
theorem act_2 {F n : Nat} (hF : 300000 ≤ F) (x1 x2 : Int32) (c r : nd_Mem) (W : wp2_ n c r) : ∃ (v : Int32) (c' r' : nd_Mem), f_X10_act F x1 x2 c = some (v, c') ∧ ac_M F x1 x2 r = some (v, r') ∧ wq2_ n c r c' r' := by
  have H := W.1
  have h16 := H.1.1
  have h1 := H.2.1.1
  have no : ∀ z : Int32, f_X9_canByHand F 51 52 1 2 x1 x2 c = some (0, c) → f_X11_canAct F x1 x2 r = some (0, r) → ∃ (v : Int32) (c' r' : nd_Mem), f_X10_act F x1 x2 c = some (v, c') ∧ ac_M F x1 x2 r = some (v, r') ∧ wq2_ n c r c' r' := by
    intro _ e1 e2
    refine ⟨0, c, r, ?_, ?_, wq2_rf W⟩
    · unfold f_X10_act
      rw [e1, n_bind, if_pos rfl]
    · unfold ac_M
      rw [e2, n_bind, if_pos rfl]
  obtain ⟨c1, r1, k1, k2, Q, k3, k4, k5⟩ := e_keep (F := F) hF W
  have W1 := Q.1
  have H1 := W1.1
  have h11 := H1.2.1.1
  have yes : ∀ c2 r2 : nd_Mem, f_X9_canByHand F 51 52 1 2 x1 x2 c = some (1, c) → f_X11_canAct F x1 x2 r = some (1, r) → f_X9_doByHand F 51 52 1 2 x1 x2 c1 = some (0, c2) → (if x1 = 0 then (nd_bind (f_X11_girlGoes F x2 r1) fun r8 σ9 => (f_X11_act_29 F x1 x2 σ9)) else (f_X11_act_29 F x1 x2 r1)) = some (1, r2) → ws_ 51 52 1 2 n c1 r1 c2 r2 → ∃ (v : Int32) (c' r' : nd_Mem), f_X10_act F x1 x2 c = some (v, c') ∧ ac_M F x1 x2 r = some (v, r') ∧ wq2_ n c r c' r' := by
    intro c2 r2 e1 e2 e3 e4 e5
    refine ⟨1, c2, r2, ?_, ?_, wq2_tr Q (wq2_ws W1 e5)⟩
    · unfold f_X10_act
      rw [e1, n_bind, if_neg (by decide), k1, n_bind, e3, n_bind]
    · unfold ac_M
      rw [e2, n_bind, if_neg (by decide), k2, n_bind, e4]
  rcases e_hasS (F := F) (a := 2) h1 h16 x2 with ⟨h, hh, rfl, hs⟩ | ⟨hx, hs⟩
  · have hM : f_X11_isHouse F (nI h) r = some (1, r) := by rw [e_houseM H.1.2 h16 (by omega), if_pos hh]
    obtain ⟨⟨g1, g2, g3⟩, ⟨b1, b2, b3⟩, _, _, ⟨w1, w2, w3⟩, _⟩ := H.2.1.2.2.2.2.2.2.2.2.2.2 h hh
    obtain ⟨⟨g1', g2', g3'⟩, ⟨b1', b2', b3'⟩, _, _, ⟨w1', w2', w3'⟩, _⟩ := H1.2.1.2.2.2.2.2.2.2.2.2.2 h hh
    have eC : f_X9_canByHand F 51 52 1 2 x1 (nI h) c = (if x1 = (0 : Int32) then (nd_bind (f_X6_get F 1 2 (nI h) (0 : Int32) c) fun r5 σ6 => (if r5 ≤ 0 then (f_X9_canByHand_77 F 51 52 1 2 σ6) else (nd_bind (f_X9_nextOf F 51 52 1 2 (nI h) σ6) fun r8 σ9 => (nd_bind (f_X9_canGo F 51 52 1 2 (nI h) r8 σ9) fun r11 σ12 => (if r11 = 0 then (f_X9_canByHand_77 F 51 52 1 2 σ12) else (some ((1 : Int32), σ12))))))) else (if x1 = (1 : Int32) then (nd_bind (f_X6_get F 1 2 (nI h) (0 : Int32) c) fun r15 σ16 => (if (9 : Int32) ≤ r15 then (some ((0 : Int32), σ16)) else (some ((1 : Int32), σ16)))) else (if x1 = (2 : Int32) then (nd_bind (f_X6_get F 1 2 (nI h) (1 : Int32) c) fun r19 σ20 => (if (9 : Int32) ≤ r19 then (some ((0 : Int32), σ20)) else (some ((1 : Int32), σ20)))) else (if x1 = (3 : Int32) then (nd_bind (f_X6_get F 1 2 (nI h) (4 : Int32) c) fun r23 σ24 => (if r23 = (1 : Int32) then (some ((1 : Int32), σ24)) else (some ((0 : Int32), σ24)))) else (if x1 = (4 : Int32) then (if (c 1 2) = (nI h) then (some ((0 : Int32), c)) else (some ((1 : Int32), c))) else (some ((0 : Int32), c))))))) := by
      unfold f_X9_canByHand
      rw [hs, n_bind, if_neg (by decide)]
    have eM : f_X11_canAct F x1 (nI h) r = (if x1 = 0 then (if ((7 : Int32) + (nI h)) < 0 ∨ 103 ≤ (((7 : Int32) + (nI h))).toNatClampNeg then none else (if (r 61 (((7 : Int32) + (nI h))).toNatClampNeg) ≤ 0 then (f_X11_canAct_38 F r) else (nd_bind (f_X11_canGo F (nI h) r) fun r4 σ5 => (if r4 = 0 then (f_X11_canAct_38 F σ5) else (some ((1 : Int32), σ5)))))) else (if x1 = (1 : Int32) then (f_X11_canAct_50 F x1 (nI h) r) else (if x1 = (2 : Int32) then (f_X11_canAct_50 F x1 (nI h) r) else (if x1 = (3 : Int32) then (if ((87 : Int32) + (nI h)) < 0 ∨ 103 ≤ (((87 : Int32) + (nI h))).toNatClampNeg then none else (if (r 61 (((87 : Int32) + (nI h))).toNatClampNeg) = (1 : Int32) then (f_X11_canAct_114 F r) else (f_X11_canAct_98 F x1 (nI h) r))) else (f_X11_canAct_98 F x1 (nI h) r))))) := by
      unfold f_X11_canAct
      rw [hM, n_bind, if_neg (by decide)]
    by_cases c0 : x1 = 0
    · subst c0
      obtain ⟨v, n1, n2, ht⟩ := e_next (F := F) (a := 52) hF H hh
      obtain ⟨z, d1, d2, d3, d4⟩ := e_canGo (F := F) (a := 52) hF H hh n2 ht
      rw [if_pos rfl, e_get0 h1 hh h16, n_bind, g1] at eC
      rw [if_pos rfl, i_7, if_neg (nI_in (by omega) (by decide)), nI_clamp (by omega)] at eM
      by_cases hg : r 61 (7 + h) ≤ 0
      · rw [if_pos hg] at eC eM
        exact no 0 eC eM
      · rw [if_neg hg] at eC eM
        rw [n1, n_bind, d1, n_bind] at eC
        rw [d2, n_bind] at eM
        by_cases hz : z = 0
        · rw [if_pos hz] at eC eM
          exact no 0 eC eM
        · rw [if_neg hz] at eC eM
          obtain ⟨v', n1', n2', ht'⟩ := e_next (F := F) (a := 52) hF H1 hh
          have ev : v' = v := nx_same (Q.2.1.1 3 (by decide) (by decide)) (by rw [k3]) n1 n1'
          subst ev
          obtain ⟨c2, r2, e1, e2, W2⟩ := e_wed (F := F) hF q0 H1 hh (by rw [k5]; exact Int32.not_le.mp hg) n2' ht' (fun t htn e => by rw [k5]; exact d4 hz t htn e)
          refine yes c2 r2 eC eM ?_ ?_ W2
          · unfold f_X9_doByHand
            rw [if_pos rfl, n1', n_bind, e1, n_bind]
          · rw [if_pos rfl, e2, n_bind]
            rfl
    by_cases c1' : x1 = 1
    · subst c1'
      rw [if_neg (by decide), if_pos rfl, e_get0 h1 hh h16, n_bind, g1] at eC
      unfold f_X11_canAct_50 f_X11_canAct_66 at eM
      rw [if_neg (by decide), if_pos rfl, if_pos rfl, i_7, if_neg (nI_in (by omega) (by decide)), nI_clamp (by omega)] at eM
      by_cases h9 : 9 ≤ r 61 (7 + h)
      · rw [if_pos h9] at eC eM
        exact no 0 eC eM
      · rw [if_neg h9] at eC eM
        obtain ⟨u1, u2, u3⟩ := up9' (x := r1 61 (7 + h)) g2' (by rw [k5]; exact Int32.not_le.mp h9)
        have H2 := wk_c0 q0 H1 hh u2 u3
        refine yes _ _ eC eM ?_ ?_ (ws_cell q0 H2 (by omega))
        · unfold f_X9_doByHand
          rw [if_neg (by decide), if_pos rfl, e_addS0 h11 hh h16, n_bind, g1', u1]
        · unfold f_X11_act_29
          rw [if_neg (by decide), if_pos rfl, i_7, if_neg (nI_in (by omega) (by decide)), if_neg (nI_in (by omega) (by decide)), nI_clamp (by omega), n_let]
          rfl
    by_cases c2' : x1 = 2
    · subst c2'
      rw [if_neg (by decide), if_neg (by decide), if_pos rfl, e_get1 h1 hh h16, n_bind, b1] at eC
      unfold f_X11_canAct_50 f_X11_canAct_66 at eM
      rw [if_neg (by decide), if_neg (by decide), if_pos rfl, if_neg (by decide), i_23, if_neg (nI_in (by omega) (by decide)), nI_clamp (by omega)] at eM
      by_cases h9 : 9 ≤ r 61 (23 + h)
      · rw [if_pos h9] at eC eM
        exact no 0 eC eM
      · rw [if_neg h9] at eC eM
        obtain ⟨u1, u2, u3⟩ := up9' (x := r1 61 (23 + h)) b2' (by rw [k5]; exact Int32.not_le.mp h9)
        have H2 := wk_c1 q0 H1 hh u2 u3
        refine yes _ _ eC eM ?_ ?_ (ws_cell q0 H2 (by omega))
        · unfold f_X9_doByHand
          rw [if_neg (by decide), if_neg (by decide), if_pos rfl, e_addS1 h11 hh h16, n_bind, b1', u1]
        · unfold f_X11_act_29 f_X11_act_54
          rw [if_neg (by decide), if_neg (by decide), if_pos rfl, i_23, if_neg (nI_in (by omega) (by decide)), if_neg (nI_in (by omega) (by decide)), nI_clamp (by omega), n_let]
          rfl
    by_cases c3' : x1 = 3
    · subst c3'
      rw [if_neg (by decide), if_neg (by decide), if_neg (by decide), if_pos rfl, e_get4 h1 hh h16, n_bind, w1] at eC
      rw [if_neg (by decide), if_neg (by decide), if_neg (by decide), if_pos rfl, i_87, if_neg (nI_in (by omega) (by decide)), nI_clamp (by omega)] at eM
      by_cases h9 : r 61 (87 + h) = 1
      · rw [if_pos h9] at eC eM
        have H2 := wk_c4 (v := 0) q0 H1 hh (by decide) (by decide)
        refine yes _ _ eC eM ?_ ?_ (ws_cell q0 H2 (by omega))
        · unfold f_X9_doByHand
          rw [if_neg (by decide), if_neg (by decide), if_neg (by decide), if_pos rfl, e_put4 h11 hh h16, n_bind]
        · unfold f_X11_act_29 f_X11_act_54 f_X11_act_79
          rw [if_neg (by decide), if_neg (by decide), if_neg (by decide), if_pos rfl, i_87, if_neg (nI_in (by omega) (by decide)), nI_clamp (by omega), n_let]
          rfl
      · rw [if_neg h9] at eC eM
        exact no 0 eC eM
    by_cases c4' : x1 = 4
    · subst c4'
      rw [if_neg (by decide), if_neg (by decide), if_neg (by decide), if_neg (by decide), if_pos rfl, H.2.1.2.2.2.2.2.2.2.2.2.1 (by omega)] at eC
      unfold f_X11_canAct_98 at eM
      rw [if_neg (by decide), if_neg (by decide), if_neg (by decide), if_neg (by decide), if_pos rfl, if_neg (by decide), k_6] at eM
      by_cases h9 : r 61 6 = nI h
      · rw [if_pos h9] at eC eM
        exact no 0 eC eM
      · rw [if_neg h9] at eC eM
        have H2 := wk_jug (v := nI h) q0 (by omega) H1
        refine yes _ _ eC eM ?_ ?_ (ws_field q0 H2 (by omega))
        · unfold f_X9_doByHand
          rw [if_neg (by decide), if_neg (by decide), if_neg (by decide), if_neg (by decide), n_let]
        · unfold f_X11_act_29 f_X11_act_54 f_X11_act_79 f_X11_act_94
          rw [if_neg (by decide), if_neg (by decide), if_neg (by decide), if_neg (by decide), if_pos rfl, if_neg (by decide), k_6, n_let]
          rfl
    rw [if_neg c0, if_neg c1', if_neg c2', if_neg c3', if_neg c4'] at eC
    unfold f_X11_canAct_98 at eM
    rw [if_neg c0, if_neg c1', if_neg c2', if_neg c3', if_neg c4'] at eM
    exact no 0 eC eM
  · refine no 0 ?_ ?_
    · unfold f_X9_canByHand
      rw [hs, n_bind, if_pos rfl]
    · unfold f_X11_canAct
      rw [e_isHouse, H.1.2, if_pos hx, n_bind, if_pos rfl]
theorem wp2_I {n : Nat} {σ : nd_Mem} (hI : iv_I n σ) : wp2_ n σ σ := ⟨wk_I hI, hI.2.1⟩
theorem op_act {F : Nat} (hF : 300000 ≤ F) (x1 x2 : Int32) : op_ (f_X10_act F x1 x2) (f_X11_act F x1 x2) := by
  intro σ n hI
  obtain ⟨v, c', ρ, e1, e2, Q⟩ := two_run (P := wp2_ n) (Q := wq2_ n) (act_2 hF x1 x2) (wp2_I hI) (fun c' r' q => wp2_rc (wp2_I hI) q)
  obtain ⟨h1, h2⟩ := fin2 hI Q
  exact ⟨v, c', ρ, n, e1, e2, h1, h2⟩
/-! years -/
theorem yr_ {F n N : Nat} (hF : 300000 ≤ F) (hN : N ≤ 60) (w0 : Int32) : ∀ (d k f f' : Nat) (c r : nd_Mem), k + d = N → d < f → d < f' → wp2_ n c r → ∃ c' r' : nd_Mem, f_X10_years_38 F f (nI N) w0 (nI k) c = some (r' 61 5 - w0, c') ∧ f_X11_years_36 F f' (nI N) (r 61 5 - w0) (nI k) r = some (r' 61 5 - w0, r') ∧ wq2_ n c r c' r' := by
  intro d
  induction d with
  | zero =>
    intro k f f' c r hk hf hf' W
    obtain ⟨f, rfl⟩ : ∃ g, f = g + 1 := ⟨f - 1, by omega⟩
    obtain ⟨f', rfl⟩ : ∃ g, f' = g + 1 := ⟨f' - 1, by omega⟩
    refine ⟨c, r, ?_, ?_, wq2_rf W⟩
    · show f_X10_years_38_b F _ _ _ _ c = _
      unfold f_X10_years_38_b
      rw [if_pos (nI_le (by omega) (by omega)), W.1.2.1.2.2.2.1]
    · show f_X11_years_36_b F _ _ _ _ r = _
      unfold f_X11_years_36_b
      rw [if_pos (nI_le (by omega) (by omega))]
  | succ d ih =>
    intro k f f' c r hk hf hf' W
    obtain ⟨f, rfl⟩ : ∃ g, f = g + 1 := ⟨f - 1, by omega⟩
    obtain ⟨f', rfl⟩ : ∃ g, f' = g + 1 := ⟨f' - 1, by omega⟩
    obtain ⟨c1, r1, k1, k2, Q1, k3, k4, k5⟩ := e_keep (F := F) hF W
    obtain ⟨c2, r2, e1, e2, H2, fc, fm, _⟩ := e_pass (F := F) (b := 51) (a := 52) (st := 1) (sa := 2) hF q0 Q1.1.1
    have Q2 := wq2_of Q1.1.2 H2 fc fm
    obtain ⟨c', r', e3, e4, Q3⟩ := ih (k + 1) f f' c2 r2 (by omega) (by omega) (by omega) Q2.1
    refine ⟨c', r', ?_, ?_, wq2_tr (wq2_tr Q1 Q2) Q3⟩
    · show f_X10_years_38_b F _ _ _ _ c = _
      unfold f_X10_years_38_b
      rw [if_neg (nI_ge (by omega) (by omega)), k1, n_bind, e1, n_bind, nI_1, e3]
    · show f_X11_years_36_b F _ _ _ _ r = _
      unfold f_X11_years_36_b
      rw [if_neg (nI_ge (by omega) (by omega)), k2, n_bind, e2, n_bind, nI_1, k5, show r 61 5 - w0 + (r2 61 5 - r 61 5) = r2 61 5 - w0 by grind, e4]
def ye_M (F : Nat) (x1 : Int32) (σ1 : nd_Mem) : nd_Res := (nd_bind (f_X11_isIn F x1 (1 : Int32) (60 : Int32) σ1) fun r2 σ3 => (if r2 = 0 then (f_X11_years_30 F σ3) else (if (0 : Int32) < 0 ∨ 103 ≤ ((0 : Int32)).toNatClampNeg then none else (if ((σ3 61 ((0 : Int32)).toNatClampNeg) + x1) ≤ (9999 : Int32) then (f_X11_years_36 F F x1 (0 : Int32) (0 : Int32) σ3) else (f_X11_years_30 F σ3)))))
theorem years_2 {F n : Nat} (hF : 300000 ≤ F) (x1 : Int32) (c r : nd_Mem) (W : wp2_ n c r) : ∃ (v : Int32) (c' r' : nd_Mem), f_X10_years F x1 c = some (v, c') ∧ ye_M F x1 r = some (v, r') ∧ wq2_ n c r c' r' := by
  unfold f_X10_years f_X10_years_26 ye_M f_X11_years_30
  rw [e_isIn, n_bind, if_neg b_0, k_0, W.1.2.1.2.2.2.2.1]
  by_cases h1 : x1 < 1
  · exact ⟨-1, c, r, by rw [if_pos h1], by rw [if_pos (Or.inl h1), if_pos rfl], wq2_rf W⟩
  by_cases h2 : 60 < x1
  · exact ⟨-1, c, r, by rw [if_neg h1, if_pos h2], by rw [if_pos (Or.inr h2), if_pos rfl], wq2_rf W⟩
  rw [if_neg h1, if_neg h2, if_neg (show ¬ (x1 < 1 ∨ 60 < x1) from fun e => e.elim h1 h2), if_neg n10]
  by_cases h3 : r 61 0 + x1 ≤ 9999
  · obtain ⟨N, hN, rfl⟩ := rngL 60 (by decide) (x := x1) (lo := 1) (fun e => e.elim h1 h2) (by decide)
    obtain ⟨c', r', e1, e2, Q⟩ := yr_ (F := F) (n := n) hF hN (r 61 5) N 0 F F c r (by omega) (by omega) (by omega) W
    refine ⟨r' 61 5 - r 61 5, c', r', ?_, ?_, Q⟩
    · rw [if_pos h3, W.1.2.1.2.2.2.1]
      exact e1
    · rw [if_pos h3]
      rw [show r 61 5 - r 61 5 = 0 by grind] at e2
      exact e2
  · exact ⟨-1, c, r, by rw [if_neg h3], by rw [if_neg h3], wq2_rf W⟩
theorem op_years {F : Nat} (hF : 300000 ≤ F) (x1 : Int32) : op_ (f_X10_years F x1) (f_X11_years F x1) := by
  intro σ n hI
  obtain ⟨v, c', ρ, e1, e2, Q⟩ := two_run (P := wp2_ n) (Q := wq2_ n) (years_2 hF x1) (wp2_I hI) (fun c' r' q => wp2_rc (wp2_I hI) q)
  obtain ⟨h1, h2⟩ := fin2 hI Q
  exact ⟨v, c', ρ, n, e1, e2, h1, h2⟩
