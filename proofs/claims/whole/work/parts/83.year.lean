/-! plans, widows, a whole generation -/
def kh_ (r r' : nd_Mem) : Prop := r' 61 0 = r 61 0 + 1 ∧ (r 60 5 = 1 → r' 64 = r 64)
theorem kh_tr {r r' r'' : nd_Mem} (f : fm_ r r') (h1 : kg_ r r') (h2 : kh_ r' r'') : kh_ r r'' := ⟨by rw [h2.1, h1.1], fun e => (h2.2 (by rw [f.2 5 (by decide)]; exact e)).trans (h1.2 e)⟩
section YR
variable {F b a st sa n h : Nat} {c r : nd_Mem} {v : Int32}
theorem e_does (hq : (b = 51 ∧ a = 52 ∧ st = 1 ∧ sa = 2) ∨ (b = 55 ∧ a = 56 ∧ st = 53 ∧ sa = 54)) (H : wk_ b st sa n c r) {k who j : Nat} (hk : k < 6) (hw : who < n) (hj : j < 16) {x3 : Int32} (a1 : r 75 (4 * j + 1) = nI k) (a2 : r 75 (4 * j + 2) = nI who) (a3 : k = 4 → x3 = r 75 (4 * j + 3) ∧ 1 ≤ r 75 (4 * j + 3) ∧ r 75 (4 * j + 3) ≤ 999) : ∃ c' r' : nd_Mem, f_X9_carryOut F b a st sa (nI (k + 1)) (nI who) x3 c = some (0, c') ∧ f_X11_does F (nI (4 * j)) r = some (0, r') ∧ ws_ b a st sa n c r c' r' := by
  have h16 := H.1.1
  have h1 := H.2.1.1
  have e1 : nI (4 * j) + (1 : Int32) = nI (4 * j + 1) := n_add _ 1
  have e2 : nI (4 * j) + (2 : Int32) = nI (4 * j + 2) := n_add _ 2
  have e3 : nI (4 * j) + (3 : Int32) = nI (4 * j + 3) := n_add _ 3
  obtain ⟨⟨g1, g2, g3⟩, ⟨b1, b2, b3⟩, ⟨d1, d2, d3⟩, _⟩ := H.2.1.2.2.2.2.2.2.2.2.2.2 who hw
  unfold f_X9_carryOut f_X11_does f_X11_does_48 f_X11_does_79 f_X11_does_89 f_X11_does_107 f_X11_does_108 f_X11_does_126
  rw [e1, e2, e3, if_neg (nI_in (by omega) (by decide)), if_neg (nI_in (by omega) (by decide)), nI_clamp (by omega), nI_clamp (by omega), nI_clamp (by omega), a1, a2]
  have hk : k = 0 ∨ k = 1 ∨ k = 2 ∨ k = 3 ∨ k = 4 ∨ k = 5 := by omega
  rcases hk with rfl | rfl | rfl | rfl | rfl | rfl
  · obtain ⟨q1, q2⟩ := up9 g2 g3
    have H1 := wk_c0 hq H hw q1 q2
    refine ⟨_, _, ?_, ?_, ws_cell hq H1 (by omega)⟩
    · rw [if_pos (by decide), e_addS0 h1 hw h16, n_bind, g1, cap9]
    · rw [if_pos (by decide), i_7, if_neg (nI_in (by omega) (by decide)), nI_clamp (by omega), e_lesser, n_bind, if_neg (nn_in (by omega) (by omega)), n_let, if_neg (by decide), if_neg (by decide), if_neg (by decide), if_neg (by decide), if_neg (by decide)]
  · obtain ⟨q1, q2⟩ := up9 b2 b3
    have H1 := wk_c1 hq H hw q1 q2
    refine ⟨_, _, ?_, ?_, ws_cell hq H1 (by omega)⟩
    · rw [if_neg (by decide), if_pos (by decide), e_addS1 h1 hw h16, n_bind, b1, cap9]
    · rw [if_neg (by decide), if_pos (by decide), i_23, if_neg (nI_in (by omega) (by decide)), nI_clamp (by omega), e_lesser, n_bind, if_neg (nn_in (by omega) (by omega)), n_let, if_neg (by decide), if_neg (by decide), if_neg (by decide), if_neg (by decide)]
  · have H1 := wk_c4 (v := 1) hq H hw (by decide) (by decide)
    refine ⟨_, _, ?_, ?_, ws_cell hq H1 (by omega)⟩
    · rw [if_neg (by decide), if_neg (by decide), if_pos (by decide), e_put4 h1 hw h16, n_bind]
    · rw [if_neg (by decide), if_neg (by decide), if_pos (by decide), if_pos (by decide), i_87, if_neg (nI_in (by omega) (by decide)), nI_clamp (by omega), n_let, if_neg (by decide), if_neg (by decide)]
  · have H1 := wk_c4 (v := 0) hq H hw (by decide) (by decide)
    refine ⟨_, _, ?_, ?_, ws_cell hq H1 (by omega)⟩
    · rw [if_neg (by decide), if_neg (by decide), if_neg (by decide), if_pos (by decide), e_put4 h1 hw h16, n_bind]
    · rw [if_neg (by decide), if_neg (by decide), if_neg (by decide), if_pos (by decide), if_neg (by decide), i_87, if_neg (nI_in (by omega) (by decide)), nI_clamp (by omega), n_let, if_neg (by decide), if_neg (by decide)]
  · obtain ⟨x1, x2, x4⟩ := a3 rfl
    subst x1
    obtain ⟨q1, q2⟩ := upR (y := r 75 (4 * j + 3)) d2 d3 (Int32.le_trans (by decide) x2) (Int32.le_trans x4 (by decide))
    have H1 := wk_c2 hq H hw q1 q2
    refine ⟨_, _, ?_, ?_, ws_cell hq H1 (by omega)⟩
    · rw [if_neg (by decide), if_neg (by decide), if_neg (by decide), if_neg (by decide), if_pos (by decide), e_addS2 h1 hw h16, n_bind, d1, capR]
    · rw [if_neg (by decide), if_neg (by decide), if_neg (by decide), if_neg (by decide), if_pos (by decide), if_neg (nn_in (by omega) (by omega)), e_rich (by omega), n_bind, if_neg (by decide)]
  · have H1 := wk_jug (v := nI who) hq (by omega) H
    refine ⟨_, _, ?_, ?_, ws_field hq H1 (by omega)⟩
    · rw [if_neg (by decide), if_neg (by decide), if_neg (by decide), if_neg (by decide), if_neg (by decide), n_let]
    · rw [if_neg (by decide), if_neg (by decide), if_neg (by decide), if_neg (by decide), if_neg (by decide), if_pos (by decide), if_neg (by decide), k_6, n_let]
theorem pl_ (hq : (b = 51 ∧ a = 52 ∧ st = 1 ∧ sa = 2) ∨ (b = 55 ∧ a = 56 ∧ st = 53 ∧ sa = 54)) {P : Nat} (hP : P ≤ 16) : ∀ (d j f f' : Nat) (x1 : Int32) (c r : nd_Mem), j + d = P → d < f → d < f' → wk_ b st sa n c r → c 8 1 = nI (4 * P) → r 60 31 = nI P → (∀ j : Nat, j < P → iv_deed c r n j) → ∃ c' r' : nd_Mem, f_X9_carryOutPlans_13 F b a st sa f (nI (4 * P)) (nI (4 * j)) c = some (0, c') ∧ f_X11_goesBy_9 F f' x1 (nI (4 * j)) r = nd_bind (f_X11_girlsGo F r') (fun r1 σ2 => f_X11_goesBy_52 F F x1 0 σ2) ∧ ws_ b a st sa n c r c' r' := by
  intro d
  induction d with
  | zero =>
    intro j f f' x1 c r hd hf hf' H h8 h31 hdd
    obtain ⟨f, rfl⟩ : ∃ g, f = g + 1 := ⟨f - 1, by omega⟩
    obtain ⟨f', rfl⟩ : ∃ g, f' = g + 1 := ⟨f' - 1, by omega⟩
    refine ⟨c, r, ?_, ?_, ws_rf H⟩
    · show f_X9_carryOutPlans_13_b F _ b a st sa _ _ c = _
      unfold f_X9_carryOutPlans_13_b
      rw [if_pos (nI_le (by omega) (by omega))]
    · show f_X11_goesBy_9_b F _ _ _ r = _
      unfold f_X11_goesBy_9_b
      rw [h31, show (4 : Int32) * nI P = nI (4 * P) from n_mul 4 P, if_pos (nI_le (by omega) (by omega))]
  | succ d ih =>
    intro j f f' x1 c r hd hf hf' H h8 h31 hdd
    obtain ⟨f, rfl⟩ : ∃ g, f = g + 1 := ⟨f - 1, by omega⟩
    obtain ⟨f', rfl⟩ : ∃ g, f' = g + 1 := ⟨f' - 1, by omega⟩
    have h16 := H.1.1
    obtain ⟨d1, k, who, hk, hw, d2, d3, d4, d5, d6⟩ := hdd j (by omega)
    have e1 : nI (4 * j) + (1 : Int32) = nI (4 * j + 1) := n_add _ 1
    have e2 : nI (4 * j) + (2 : Int32) = nI (4 * j + 2) := n_add _ 2
    have e3 : nI (4 * j) + (3 : Int32) = nI (4 * j + 3) := n_add _ 3
    have e4 : nI (4 * j) + (4 : Int32) = nI (4 * (j + 1)) := n_add _ 4
    have at9 : ∀ k : Nat, k < 4 * P → f_X4_at F 8 9 64 (nI k) c = some (c 9 k, c) := fun k hk => e_at h8 hk (by omega) (by decide)
    have next : ∀ c1 r1 : nd_Mem, ws_ b a st sa n c r c1 r1 → ∃ c' r' : nd_Mem, f_X9_carryOutPlans_13 F b a st sa f (nI (4 * P)) (nI (4 * (j + 1))) c1 = some (0, c') ∧ f_X11_goesBy_9 F f' x1 (nI (4 * (j + 1))) r1 = nd_bind (f_X11_girlsGo F r') (fun r1 σ2 => f_X11_goesBy_52 F F x1 0 σ2) ∧ ws_ b a st sa n c r c' r' := by
      intro c1 r1 W
      obtain ⟨c', r', q1, q2, W2⟩ := ih (j + 1) f f' x1 c1 r1 (by omega) (by omega) (by omega) W.1 (by rw [fc_at hq W.2.1 (by omega)]; exact h8) (by rw [W.2.2.1.2 31 (by decide)]; exact h31) (fun i hi => by
        unfold iv_deed
        rw [fc_at hq W.2.1 (by omega), fm_at W.2.2.1 (by omega)]
        exact hdd i hi)
      exact ⟨c', r', q1, q2, ws_tr W W2⟩
    have stepC : f_X9_carryOutPlans_13 F b a st sa (f + 1) (nI (4 * P)) (nI (4 * j)) c = (if r 75 (4 * j) = r 61 0 then (nd_bind (f_X9_carryOut F b a st sa (nI (k + 1)) (nI who) (c 9 (4 * j + 3)) c) fun r13 σ14 => (f_X9_carryOutPlans_13 F b a st sa f (nI (4 * P)) (nI (4 * (j + 1))) σ14)) else (f_X9_carryOutPlans_13 F b a st sa f (nI (4 * P)) (nI (4 * (j + 1))) c)) := by
      show f_X9_carryOutPlans_13_b F _ b a st sa _ _ c = _
      unfold f_X9_carryOutPlans_13_b f_X9_carryOutPlans_82
      rw [if_neg (nI_ge (by omega) (by omega)), at9 _ (by omega), n_bind, e1, e2, e3, e4, at9 _ (by omega), n_bind, at9 _ (by omega), n_bind, at9 _ (by omega), n_bind, d1, d2, d4, H.2.1.2.2.2.2.1]
    have stepM : f_X11_goesBy_9 F (f' + 1) x1 (nI (4 * j)) r = (if r 75 (4 * j) = r 61 0 then (nd_bind (f_X11_does F (nI (4 * j)) r) fun r4 σ5 => (f_X11_goesBy_9 F f' x1 (nI (4 * (j + 1))) σ5)) else (f_X11_goesBy_9 F f' x1 (nI (4 * (j + 1))) r)) := by
      show f_X11_goesBy_9_b F _ _ _ r = _
      unfold f_X11_goesBy_9_b f_X11_goesBy_39
      rw [h31, show (4 : Int32) * nI P = nI (4 * P) from n_mul 4 P, if_neg (nI_ge (by omega) (by omega)), if_neg (nI_in (by omega) (by decide)), if_neg (by decide), nI_clamp (by omega), k_0, e4]
    rw [stepC, stepM]
    by_cases hg : r 75 (4 * j) = r 61 0
    · rw [if_pos hg, if_pos hg]
      obtain ⟨c1, r1, q1, q2, W⟩ := e_does (F := F) hq H hk hw (show j < 16 by omega) (x3 := c 9 (4 * j + 3)) d3 d5 d6
      rw [q1, q2, n_bind, n_bind]
      exact next c1 r1 W
    · rw [if_neg hg, if_neg hg]
      exact next c r (ws_rf H)
theorem cl_ (hF : 300000 ≤ F) (hq : (b = 51 ∧ a = 52 ∧ st = 1 ∧ sa = 2) ∨ (b = 55 ∧ a = 56 ∧ st = 53 ∧ sa = 54)) : ∀ (d h f f' : Nat) (x1 : Int32) (c r : nd_Mem), h + d = n → d < f → d < f' → wk_ b st sa n c r → ∃ c' r' : nd_Mem, f_X9_pass_47 F b a st sa f (nI h) c = f_X9_pass_71 F b a st sa F 0 c' ∧ f_X11_goesBy_52 F f' x1 (nI h) r = f_X11_goesBy_73 F F x1 0 r' ∧ ws_ b a st sa n c r c' r' := by
  intro d
  induction d with
  | zero =>
    intro h f f' x1 c r hd hf hf' H
    obtain ⟨f, rfl⟩ : ∃ g, f = g + 1 := ⟨f - 1, by omega⟩
    obtain ⟨f', rfl⟩ : ∃ g, f' = g + 1 := ⟨f' - 1, by omega⟩
    have h16 := H.1.1
    refine ⟨c, r, ?_, ?_, ws_rf H⟩
    · show f_X9_pass_47_b F _ b a st sa _ c = _
      unfold f_X9_pass_47_b
      rw [H.2.1.1, if_pos (nI_le (by omega) (by omega))]
    · show f_X11_goesBy_52_b F _ _ _ r = _
      unfold f_X11_goesBy_52_b
      rw [H.1.2, if_pos (nI_le (by omega) (by omega))]
  | succ d ih =>
    intro h f f' x1 c r hd hf hf' H
    obtain ⟨f, rfl⟩ : ∃ g, f = g + 1 := ⟨f - 1, by omega⟩
    obtain ⟨f', rfl⟩ : ∃ g, f' = g + 1 := ⟨f' - 1, by omega⟩
    have h16 := H.1.1
    obtain ⟨c1, r1, e1, e2, W1⟩ := e_bear (F := F) hF hq H (show h < n by omega)
    obtain ⟨c', r', e3, e4, W2⟩ := ih (h + 1) f f' x1 c1 r1 (by omega) (by omega) (by omega) W1.1
    refine ⟨c', r', ?_, ?_, ws_tr W1 W2⟩
    · show f_X9_pass_47_b F _ b a st sa _ c = _
      unfold f_X9_pass_47_b
      rw [H.2.1.1, if_neg (nI_ge (by omega) (by omega)), e1, n_bind, nI_1, e3]
    · show f_X11_goesBy_52_b F _ _ _ r = _
      unfold f_X11_goesBy_52_b
      rw [H.1.2, if_neg (nI_ge (by omega) (by omega)), e2, n_bind, nI_1, e4]
theorem wi_ (hF : 300000 ≤ F) (hq : (b = 51 ∧ a = 52 ∧ st = 1 ∧ sa = 2) ∨ (b = 55 ∧ a = 56 ∧ st = 53 ∧ sa = 54)) : ∀ (d h f f' : Nat) (x1 : Int32) (c r : nd_Mem), h + d = n → d < f → d < f' → wk_ b st sa n c r → cm_ b c r → ∃ c' r' : nd_Mem, f_X9_pass_71 F b a st sa f (nI h) c = some (0, c') ∧ f_X11_goesBy_73 F f' x1 (nI h) r = some (r' 61 5 - x1, r') ∧ wk_ b st sa n c' r' ∧ fc_ b a st sa c c' ∧ fm_ r r' ∧ kh_ r r' := by
  intro d
  induction d with
  | zero =>
    intro h f f' x1 c r hd hf hf' H hm
    obtain ⟨f, rfl⟩ : ∃ g, f = g + 1 := ⟨f - 1, by omega⟩
    obtain ⟨f', rfl⟩ : ∃ g, f' = g + 1 := ⟨f' - 1, by omega⟩
    have h16 := H.1.1
    have H1 := wk_gen (v := r 61 0 + 1) hq H
    refine ⟨_, _, ?_, ?_, H1, fc_st hq, fm_up (by decide), u_eq _ _ _ _, fun _ => nd_up_ne (by decide)⟩
    · show f_X9_pass_71_b F _ b a st sa _ c = _
      unfold f_X9_pass_71_b
      rw [H.2.1.1, if_pos (nI_le (by omega) (by omega)), n_let, H.2.1.2.2.2.2.1]
    · show f_X11_goesBy_73_b F _ _ _ r = _
      unfold f_X11_goesBy_73_b
      rw [H.1.2, if_pos (nI_le (by omega) (by omega)), if_neg (by decide), if_neg (by decide), k_0, n_let, if_neg (by decide), k_5]
  | succ d ih =>
    intro h f f' x1 c r hd hf hf' H hm
    obtain ⟨f, rfl⟩ : ∃ g, f = g + 1 := ⟨f - 1, by omega⟩
    obtain ⟨f', rfl⟩ : ∃ g, f' = g + 1 := ⟨f' - 1, by omega⟩
    have h16 := H.1.1
    have hh : h < n := by omega
    obtain ⟨⟨g1, g2, g3⟩, ⟨b1, b2, b3⟩, _, _, ⟨w1, w2, w3⟩, _⟩ := H.2.1.2.2.2.2.2.2.2.2.2.2 h hh
    obtain ⟨m, m1, m2, m3⟩ := id hm
    have next : ∀ c1 r1 : nd_Mem, ws_ b a st sa n c r c1 r1 → ∃ c' r' : nd_Mem, f_X9_pass_71 F b a st sa f (nI (h + 1)) c1 = some (0, c') ∧ f_X11_goesBy_73 F f' x1 (nI (h + 1)) r1 = some (r' 61 5 - x1, r') ∧ wk_ b st sa n c' r' ∧ fc_ b a st sa c c' ∧ fm_ r r' ∧ kh_ r r' := by
      intro c1 r1 W
      obtain ⟨c', r', q1, q2, w1, w2, w3, w4⟩ := ih (h + 1) f f' x1 c1 r1 (by omega) (by omega) (by omega) W.1 (cm_ws W hm)
      exact ⟨c', r', q1, q2, w1, fr_t W.2.1 w2, fr_t W.2.2.1 w3, kh_tr W.2.2.1 W.2.2.2.2.2 w4⟩
    have stepC : f_X9_pass_71 F b a st sa (f + 1) (nI h) c = nd_bind (f_X9_beWidowed F b a st sa (nI h) c) (fun r2 σ3 => f_X9_pass_71 F b a st sa f (nI (h + 1)) σ3) := by
      show f_X9_pass_71_b F _ b a st sa _ c = _
      unfold f_X9_pass_71_b
      rw [H.2.1.1, if_neg (nI_ge (by omega) (by omega)), nI_1]
    have stepM : f_X11_goesBy_73 F (f' + 1) x1 (nI h) r = (if r 80 h = 1 then f_X11_goesBy_73 F f' x1 (nI (h + 1)) r else if r 61 (23 + h) = 0 then f_X11_goesBy_73 F f' x1 (nI (h + 1)) r else if 0 < r 61 (7 + h) then f_X11_goesBy_73 F f' x1 (nI (h + 1)) r else if r 61 (87 + h) = 1 then f_X11_goesBy_73 F f' x1 (nI (h + 1)) r else nd_bind (f_X11_notes F 4 (nI h) 0 (nd_up r 61 (87 + h) 1)) (fun r3 σ4 => f_X11_goesBy_73 F f' x1 (nI (h + 1)) σ4)) := by
      show f_X11_goesBy_73_b F _ _ _ r = _
      unfold f_X11_goesBy_73_b f_X11_goesBy_148
      rw [H.1.2, if_neg (nI_ge (by omega) (by omega)), if_neg (nI_in (by omega) (by decide)), nI_clamp (by omega), i_23, if_neg (nI_in (by omega) (by decide)), nI_clamp (by omega), i_7, if_neg (nI_in (by omega) (by decide)), nI_clamp (by omega), i_87, if_neg (nI_in (by omega) (by decide)), nI_clamp (by omega), if_neg (nn_in (by omega) (by omega)), n_let, nI_1]
    rw [stepC, stepM]
    unfold f_X9_beWidowed f_X9_beWidowed_39 f_X9_beWidowed_40
    have hbit : ((c b 5 >>> (nI h &&& 31)) &&& 1 = 0) = (m.testBit h = false) := by
      rw [m2]
      exact n_bit0 (by omega) (by omega)
    by_cases hb : m.testBit h = false
    · have h77 : ¬ r 80 h = 1 := by
        rw [m3 h (by omega), hb]
        decide
      rw [if_pos (by rw [hbit]; exact hb), if_neg h77, e_get1 H.2.1.1 hh h16, n_bind, b1]
      by_cases hb0 : r 61 (23 + h) = 0
      · rw [if_pos (by rw [hb0]; decide), if_pos hb0, if_pos rfl, n_bind]
        exact next c r (ws_rf H)
      · have hb1 : ¬ r 61 (23 + h) ≤ 0 := fun e => hb0 (Int32.le_antisymm e b2)
        rw [if_neg hb1, if_neg hb0, e_get0 H.2.1.1 hh h16, n_bind, g1]
        by_cases hg0 : r 61 (7 + h) = 0
        · have hg1 : ¬ 0 < r 61 (7 + h) := by rw [hg0]; decide
          rw [if_pos hg0, if_neg hg1, if_neg (by decide), e_get4 H.2.1.1 hh h16, n_bind, w1]
          by_cases hw0 : r 61 (87 + h) = 0
          · have hw1 : ¬ r 61 (87 + h) = 1 := by rw [hw0]; decide
            have H1 := wk_c4 (v := 1) hq H hh (by decide) (by decide)
            obtain ⟨c1, r1, e1, e2, W⟩ := e_note (F := F) 4 (nI h) 0 hq H1
            rw [if_pos hw0, if_neg hw1, e_put4 H.2.1.1 hh h16, n_bind, e1, e2, n_bind, n_bind, n_bind]
            exact next c1 r1 (ws_tr (ws_cell hq H1 (by omega)) W)
          · have hw1 : r 61 (87 + h) = 1 := by
              obtain ⟨k, hk, ek⟩ := i32_rng (m := 1) (by decide) w2 w3
              rw [ek] at hw0 ⊢
              have : k = 0 ∨ k = 1 := by omega
              rcases this with rfl | rfl
              · exact absurd rfl hw0
              · rfl
            rw [if_neg hw0, if_pos hw1, n_bind]
            exact next c r (ws_rf H)
        · have hg1 : 0 < r 61 (7 + h) := Int32.lt_of_le_of_ne g2 (Ne.symm hg0)
          rw [if_neg hg0, if_pos hg1, if_pos rfl, n_bind]
          exact next c r (ws_rf H)
    · have h77 : r 80 h = 1 := by
        rw [m3 h (by omega), if_pos (by simpa using hb)]
      rw [if_neg (by rw [hbit]; exact hb), if_pos h77, if_pos rfl, n_bind]
      exact next c r (ws_rf H)
theorem e_came (hF : 300000 ≤ F) : ∃ g : Nat → Int32, f_X11_girlsGo_2 F F 0 r = f_X11_girlsGo_23 F F 0 (nd_row r 80 g) ∧ ∀ j : Nat, j < 16 → g j = 0 := by
  obtain ⟨g, e1, e2, _⟩ := lp_id (L := f_X11_girlsGo_2 F) (σ := r) (r := 80) (N := 16) (v := fun _ => 0) (z := fun τ => f_X11_girlsGo_23 F F 0 τ) (fun f i g hi => by
    show f_X11_girlsGo_2_b F (f_X11_girlsGo_2 F f) (nI i) _ = _
    unfold f_X11_girlsGo_2_b
    rw [if_neg (show ¬ (16 : Int32) ≤ nI i from nI_ge (b := 16) hi (by decide)), if_neg (nI_in hi (by decide)), nI_clamp (by omega), n_let, up_row, nI_1]) (fun f g => by
    show f_X11_girlsGo_2_b F (f_X11_girlsGo_2 F f) (nI 16) _ = _
    unfold f_X11_girlsGo_2_b
    rw [if_pos (by decide)]) F (by omega)
  exact ⟨g, e1, e2⟩
/-- A GENERATION: both alike -/
theorem e_pass (hF : 300000 ≤ F) (hq : (b = 51 ∧ a = 52 ∧ st = 1 ∧ sa = 2) ∨ (b = 55 ∧ a = 56 ∧ st = 53 ∧ sa = 54)) (H : wk_ b st sa n c r) : ∃ c' r' : nd_Mem, f_X9_pass F b a st sa c = some (0, c') ∧ f_X11_goesBy F r = some (r' 61 5 - r 61 5, r') ∧ wk_ b st sa n c' r' ∧ fc_ b a st sa c c' ∧ fm_ r r' ∧ kh_ r r' := by
  have h16 := H.1.1
  obtain ⟨P, p1, p2, p3, p4⟩ := H.2.2.2.1
  obtain ⟨c1, r1, e1, e2, W1⟩ := pl_ (F := F) (b := b) (a := a) (st := st) (sa := sa) (n := n) hq p1 P 0 F F (r 61 5) c r (by omega) (by omega) (by omega) H p2 p3 p4
  obtain ⟨g, e3, e4⟩ := e_came (F := F) (r := r1) hF
  have f2 : fm_ r1 (nd_row r1 80 g) := fr_row fr_rf (by decide) (by decide)
  have H2 : wk_ b st sa n (nd_up c1 b 5 0) (nd_row r1 80 g) := wk_mk hq W1.1 (fc_b hq) f2 (by rw [nd_up_ne (by omega), nd_up_ne (by omega), nd_row_ne (by decide)]; exact W1.1.2.1) (u_ne2 (by decide)) (fun hp i hi => by rw [nd_up_ne (by omega), nd_row_ne (by decide)]; exact hp i hi)
  have M2 : cm_ b (nd_up c1 b 5 0) (nd_row r1 80 g) := ⟨0, by omega, u_eq _ _ _ _, fun h hh => by rw [w_eq, e4 h hh, Nat.zero_testBit]; rfl⟩
  obtain ⟨c3, r3, e5, e6, W3⟩ := gg_ (F := F) hF hq n 0 F F _ _ (by omega) (by omega) (by omega) H2 M2
  obtain ⟨c4, r4, e7, e8, W4⟩ := cl_ (F := F) hF hq n 0 F F (r 61 5) c3 r3 (by omega) (by omega) (by omega) W3.1
  obtain ⟨c5, r5, e9, e10, w1, w2, w3, w4⟩ := wi_ (F := F) hF hq n 0 F F (r 61 5) c4 r4 (by omega) (by omega) (by omega) W4.1 (cm_ws W4 W3.2.1)
  refine ⟨c5, r5, ?_, ?_, w1, ?_, ?_, ?_⟩
  · unfold f_X9_pass f_X9_carryOutPlans
    rw [p2]
    show nd_bind (f_X9_carryOutPlans_13 F b a st sa F (nI (4 * P)) (nI (4 * 0)) c) _ = _
    rw [e1, n_bind, n_let]
    show f_X9_pass_11 F b a st sa F (nI 0) _ = _
    rw [e5]
    show f_X9_pass_47 F b a st sa F (nI 0) _ = _
    rw [e7]
    exact e9
  · unfold f_X11_goesBy
    rw [if_neg (by decide), k_5]
    show f_X11_goesBy_9 F F (r 61 5) (nI (4 * 0)) r = _
    rw [e2]
    unfold f_X11_girlsGo
    rw [e3]
    show nd_bind (f_X11_girlsGo_23 F F (nI 0) _) _ = _
    rw [e6, n_bind]
    show f_X11_goesBy_52 F F _ (nI 0) _ = _
    rw [e8]
    exact e10
  · exact fr_t (fr_t (fr_t (fr_t W1.2.1 (fc_b hq)) W3.2.2.1) W4.2.1) w2
  · exact fr_t (fr_t (fr_t (fr_t W1.2.2.1 f2) W3.2.2.2.1) W4.2.2.1) w3
  · exact kh_tr (fr_t (fr_t (fr_t W1.2.2.1 f2) W3.2.2.2.1) W4.2.2.1) (kg_tr (fr_t (fr_t W1.2.2.1 f2) W3.2.2.2.1) (kg_tr (fr_t W1.2.2.1 f2) (kg_tr W1.2.2.1 W1.2.2.2.2.2 ⟨w_ne (by decide), fun _ => nd_row_ne (by decide)⟩) W3.2.2.2.2) W4.2.2.2.2.2) w4
end YR
