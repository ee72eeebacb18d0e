/-! a generation -/
def cm_ (b : Nat) (c r : nd_Mem) : Prop := ∃ m : Nat, m < 65536 ∧ c b 5 = nI m ∧ ∀ h : Nat, h < 16 → r 80 h = if m.testBit h = true then 1 else 0
def wt_ (b a st sa n : Nat) (c r c' r' : nd_Mem) : Prop := wk_ b st sa n c' r' ∧ cm_ b c' r' ∧ fc_ b a st sa c c' ∧ fm_ r r' ∧ kg_ r r'
theorem cm_ws {b a st sa n : Nat} {c r c' r' : nd_Mem} (h : ws_ b a st sa n c r c' r') (hm : cm_ b c r) : cm_ b c' r' := by
  unfold cm_
  rw [h.2.2.2.1, h.2.2.2.2.1]
  exact hm
theorem wt_ws {b a st sa n : Nat} {c r c' r' : nd_Mem} (h : ws_ b a st sa n c r c' r') (hm : cm_ b c r) : wt_ b a st sa n c r c' r' := ⟨h.1, cm_ws h hm, h.2.1, h.2.2.1, h.2.2.2.2.2⟩
theorem wt_tr {b a st sa n : Nat} {c r c' r' c'' r'' : nd_Mem} (h1 : wt_ b a st sa n c r c' r') (h2 : wt_ b a st sa n c' r' c'' r'') : wt_ b a st sa n c r c'' r'' := ⟨h2.1, h2.2.1, fr_t h1.2.2.1 h2.2.2.1, fr_t h1.2.2.2.1 h2.2.2.2.1, kg_tr h1.2.2.2.1 h1.2.2.2.2 h2.2.2.2.2⟩
section PS
variable {F b a st sa n h : Nat} {c r : nd_Mem} {v : Int32}
theorem e_draw {m : Int32} (h1 : ¬ m ≤ 0) (h0 : ¬ m = 0) (hq : (b = 51 ∧ a = 52 ∧ st = 1 ∧ sa = 2) ∨ (b = 55 ∧ a = 56 ∧ st = 53 ∧ sa = 54)) (H : wk_ b st sa n c r) : ∃ (z : Int32) (c' r' : nd_Mem), f_X6_draw F st sa m c = some (z, c') ∧ f_X11_draw F m r = some (z, r') ∧ ws_ b a st sa n c r c' r' ∧ c' sa = c sa ∧ ∀ k : Nat, 7 ≤ k → r' 61 k = r 61 k := by
  have s7 := H.2.1.2.2.2.2.2.1
  have H1 := wk_luck (v := 1664525 * r 61 1 + 1013904223) hq H
  refine ⟨q_rem (q_ushr (1664525 * r 61 1 + 1013904223) 8) m, _, _, ?_, ?_, ws_field hq H1 (by omega), nd_up_ne (by omega), fun k hk => u_ne2 (by omega)⟩
  · unfold f_X6_draw
    rw [n_let, u_eq, if_neg h1, if_neg h0, s7]
  · unfold f_X11_draw
    rw [k_1, if_neg (by decide), if_neg (by decide), n_let, if_neg (by decide), if_neg h0, u_eq]
theorem th5 {x : Int32} (h0 : 0 ≤ x) (h1 : x ≤ 1000) : (2 * x < 1000) = (x < 500) := by
  obtain ⟨k, hk, rfl⟩ := i32_rng (m := 1000) (by decide) h0 h1
  rw [show (2 : Int32) * nI k = nI (2 * k) from n_mul 2 k, show (1000 : Int32) = nI 1000 from rfl, show (500 : Int32) = nI 500 from rfl, n_lt (by omega) (by omega), n_lt (by omega) (by omega)]
  exact propext ⟨fun e => by omega, fun e => by omega⟩
theorem e_happens (hq : (b = 51 ∧ a = 52 ∧ st = 1 ∧ sa = 2) ∨ (b = 55 ∧ a = 56 ∧ st = 53 ∧ sa = 54)) (H : wk_ b st sa n c r) (h0 : 0 ≤ v) (h1 : v ≤ 1000) : ∃ (z : Int32) (c' r' : nd_Mem), f_X9_isLucky F b a st sa v c = some (z, c') ∧ f_X11_happens F v r = some (z, r') ∧ ws_ b a st sa n c r c' r' ∧ ∀ k : Nat, 7 ≤ k → r' 61 k = r 61 k := by
  unfold f_X9_isLucky f_X9_isLucky_42 f_X11_happens f_X11_happens_43
  rcases H.2.2.2.2.2.2.2 with ⟨t1, t2⟩ | ⟨t1, t2⟩
  · rw [if_pos t1, if_pos t2]
    by_cases hv : v ≤ 0
    · exact ⟨0, c, r, by rw [if_pos hv], by rw [if_pos hv], ws_rf H, fun _ _ => rfl⟩
    · obtain ⟨z, c', r', e1, e2, W, _, e3⟩ := e_draw (F := F) (m := 1000) (by decide) (by decide) hq H
      rw [if_neg hv, if_neg hv, e1, e2, n_bind, n_bind]
      by_cases hz : v ≤ z
      · exact ⟨0, c', r', by rw [if_pos hz], by rw [if_pos hz], W, e3⟩
      · exact ⟨1, c', r', by rw [if_neg hz], by rw [if_neg hz], W, e3⟩
  · have n1 : ¬ c b 3 = 0 := by rw [t1]; decide
    have n2 : ¬ r 60 5 = 0 := by rw [t2]; decide
    rw [if_neg n1, if_neg n2]
    by_cases hv : v < 500
    · exact ⟨0, c, r, by rw [if_pos hv], by rw [if_pos (show 2 * v < 1000 by rw [th5 h0 h1]; exact hv)], ws_rf H, fun _ _ => rfl⟩
    · exact ⟨1, c, r, by rw [if_neg hv], by rw [if_neg (show ¬ 2 * v < 1000 by rw [th5 h0 h1]; exact hv)], ws_rf H, fun _ _ => rfl⟩
theorem cm_put (hq : (b = 51 ∧ a = 52 ∧ st = 1 ∧ sa = 2) ∨ (b = 55 ∧ a = 56 ∧ st = 53 ∧ sa = 54)) {t : Nat} (ht : t < 16) {c1 r1 : nd_Mem} (hm : cm_ b c r) (hb : c1 b = nd_up c b 5 ((c b 5) ||| ((1 : Int32) <<< (nI t &&& 31))) b) (h77 : r1 80 = r 80) : cm_ b c1 (nd_up r1 80 t 1) := by
  obtain ⟨m, m1, m2, m3⟩ := hm
  have e1 : (1 : Int32) <<< (nI t &&& 31) = nI (2 ^ t) := n_one (by omega)
  have hp : 2 ^ t < 65536 := Nat.lt_of_lt_of_le (Nat.pow_lt_pow_right (by decide) ht) (by decide)
  refine ⟨m ||| 2 ^ t, Nat.or_lt_two_pow (n := 16) m1 hp, ?_, fun h hh => ?_⟩
  · rw [hb, u_eq, m2, e1, n_or]
  · rw [nd_up_at, h77]
    by_cases hht : h = t
    · subst hht
      rw [upd_eq, if_pos (by rw [Nat.testBit_or, Nat.testBit_two_pow_self, Bool.or_true])]
    · rw [upd_ne hht, m3 h hh, Nat.testBit_or, Nat.testBit_two_pow_of_ne (Ne.symm hht), Bool.or_false]
theorem nx_same {F b a st sa h : Nat} {c c' : nd_Mem} {v v' : Int32} (e3 : c' 3 = c 3) (e1 : c' st 1 = c st 1) (h1 : f_X9_nextOf F b a st sa (nI h) c = some (v, c)) (h2 : f_X9_nextOf F b a st sa (nI h) c' = some (v', c')) : v' = v := by
  have key : ∀ (f : Nat) (x2 x3 x4 : Int32), (f_X9_nextOf_24 F b a st sa f x2 x3 x4 c').map (fun z => z.1) = (f_X9_nextOf_24 F b a st sa f x2 x3 x4 c).map (fun z => z.1) := by
    intro f
    induction f with
    | zero => intro _ _ _; rfl
    | succ f ih =>
      intro x2 x3 x4
      show (f_X9_nextOf_24_b F _ b a st sa x2 x3 x4 c').map _ = (f_X9_nextOf_24_b F _ b a st sa x2 x3 x4 c).map _
      unfold f_X9_nextOf_24_b f_X9_nextOf_66 f_X5_sideOf
      rw [e1, e3, n_bind, n_bind]
      by_cases q1 : x4 < 0
      · rw [if_pos q1, if_pos q1]; rfl
      · rw [if_neg q1, if_neg q1]
        by_cases q2 : c st 1 ≤ x4
        · rw [if_pos q2, if_pos q2]; rfl
        · rw [if_neg q2, if_neg q2]
          by_cases q3 : ((c 3 5) >>> (x4 &&& 31)) &&& 1 = x2
          · rw [if_pos q3, if_pos q3]; rfl
          · rw [if_neg q3, if_neg q3]
            exact ih x2 x3 (x4 + x3)
  unfold f_X9_nextOf f_X9_nextOf_18 f_X5_sideOf at h1 h2
  rw [n_bind] at h1 h2
  rw [e3] at h2
  by_cases q0 : ((c 3 5) >>> (nI h &&& 31)) &&& 1 = 0
  · rw [if_pos q0] at h1 h2
    have := key F (((c 3 5) >>> (nI h &&& 31)) &&& 1) 1 (nI h + 1)
    rw [h1, h2] at this
    exact Option.some.inj this
  · rw [if_neg q0] at h1 h2
    have := key F (((c 3 5) >>> (nI h &&& 31)) &&& 1) (-1) (nI h + -1)
    rw [h1, h2] at this
    exact Option.some.inj this
/-- one girl looks for her husband -/
theorem e_look (hF : 300000 ≤ F) (hq : (b = 51 ∧ a = 52 ∧ st = 1 ∧ sa = 2) ∨ (b = 55 ∧ a = 56 ∧ st = 53 ∧ sa = 54)) (H : wk_ b st sa n c r) (hm : cm_ b c r) (hh : h < n) (hg : 0 < r 61 (7 + h)) (rec2 : Int32 → nd_Mem → nd_Res) : ∃ c' r' : nd_Mem, f_X9_lookForHusband F b a st sa (nI h) c = some (0, c') ∧ f_X11_girlsGo_23_b F rec2 (nI h) r = rec2 (nI (h + 1)) r' ∧ wt_ b a st sa n c r c' r' := by
  have h16 := H.1.1
  have hg0 : ¬ r 61 (7 + h) = 0 := fun e => by
    rw [e] at hg
    exact absurd hg (by decide)
  obtain ⟨v, n1, n2, ht⟩ := e_next (F := F) (a := a) hF H hh
  obtain ⟨z, d1, d2, d3, d4⟩ := e_canGo (F := F) (a := a) hF H hh n2 ht
  unfold f_X9_lookForHusband f_X9_lookForHusband_68 f_X11_girlsGo_23_b f_X11_girlsGo_116
  rw [n1, n_bind, d1, n_bind]
  rw [H.1.2, if_neg (nI_ge hh (by omega)), i_7, if_neg (nI_in (by omega) (by decide)), nI_clamp (by omega), if_neg hg0, n2, n_bind, d2, n_bind, nI_1]
  by_cases hz : z = 0
  · rw [if_pos hz, if_pos hz, n_let, if_neg b_4, if_neg b_4, k_4, n_let, H.2.1.2.2.1]
    have H1 := wk_gaps (v := r 61 4 + 1) hq H
    obtain ⟨c', r', e1, e2, W⟩ := e_note (F := F) 2 (nI h) v hq H1
    exact ⟨c', r', by rw [e1, n_bind], by rw [e2, n_bind], wt_ws (ws_tr (ws_field hq H1 (by omega)) W) hm⟩
  · rw [if_neg hz, if_neg hz]
    obtain ⟨o, c1, r1, e1, e2, ⟨W1, _, _, w58⟩, o0, o1⟩ := e_goesOf (F := F) hF hq H hh
    rw [e1, e2, n_bind, n_bind]
    obtain ⟨y, c2, r2, e3, e4, W2, w7⟩ := e_happens (F := F) hq W1.1 o0 o1
    rw [e3, e4, n_bind, n_bind]
    have W12 := ws_tr W1 W2
    by_cases hy : y = 0
    · rw [if_pos hy, if_pos hy]
      exact ⟨c2, r2, rfl, rfl, wt_ws W12 hm⟩
    · rw [if_neg hy, if_neg hy]
      have hg2 : 0 < r2 61 (7 + h) := by rw [w7 _ (by omega), w58]; exact hg
      have nx2 : f_X11_nextOf F (nI h) r2 = some (v, r2) := by
        obtain ⟨v', n1', n2', _⟩ := e_next (F := F) (a := a) hF W12.1 hh
        have e9 : v' = v := nx_same (fc_at hq W12.2.1 (by omega)) (by rw [H.2.1.1, W12.1.2.1.1]) n1 n1'
        rw [n2', e9]
      rcases ht with rfl | ⟨t, htn, hth, rfl⟩
      · rw [if_pos rfl]
        obtain ⟨c', r', e5, e6, W3⟩ := e_wed (F := F) hF hq W12.1 hh hg2 nx2 (Or.inl rfl) (fun t ht e => absurd e.symm (li_m1 t (by omega)))
        refine ⟨c', r', by rw [e5, n_bind], ?_, wt_ws (ws_tr W12 W3) hm⟩
        rw [e6, n_bind, if_pos rfl]
      · have hm1 := li_m1 t (by omega)
        rw [if_neg hm1, n_let]
        have H3 : wk_ b st sa n (nd_up c2 b 5 ((c2 b 5) ||| ((1 : Int32) <<< (nI t &&& 31)))) r2 := wk_mk hq W12.1 (fc_b hq) fr_rf (by rw [nd_up_ne (by omega), nd_up_ne (by omega)]; exact W12.1.2.1) (u_ne2 (by decide)) (fun hp i hi => by rw [nd_up_ne (by omega)]; exact hp i hi)
        obtain ⟨c', r', e5, e6, W3⟩ := e_wed (F := F) hF hq H3 hh hg2 nx2 (Or.inr ⟨t, htn, hth, rfl⟩) (fun t' ht' e => by
          rw [w7 _ (by omega), w58]
          exact d4 hz t' ht' e)
        have f1 : fm_ r' (nd_up r' 80 t 1) := fm_up (by decide)
        refine ⟨c', nd_up r' 80 t 1, by rw [e5, n_bind], ?_, ?_, ?_, ?_, ?_, ?_⟩
        · rw [e6, n_bind, if_neg hm1, if_neg (nI_in (by omega) (by decide)), nI_clamp (by omega), n_let]
        · exact wk_mk hq W3.1 fr_rf f1 (by rw [nd_up_ne (by decide)]; exact W3.1.2.1) rfl (fun hp i hi => by rw [nd_up_ne (by decide)]; exact hp i hi)
        · exact cm_put hq (by omega) (cm_ws W12 hm) W3.2.2.2.1 W3.2.2.2.2.1
        · exact fr_t (fr_t W12.2.1 (fc_b hq)) W3.2.1
        · exact fr_t (fr_t W12.2.2.1 W3.2.2.1) f1
        · exact kg_tr (fr_t W12.2.2.1 W3.2.2.1) (kg_tr W12.2.2.1 W12.2.2.2.2.2 W3.2.2.2.2.2) ⟨u_ne1 (by decide), fun _ => nd_up_ne (by decide)⟩
theorem gg_ (hF : 300000 ≤ F) (hq : (b = 51 ∧ a = 52 ∧ st = 1 ∧ sa = 2) ∨ (b = 55 ∧ a = 56 ∧ st = 53 ∧ sa = 54)) : ∀ (d h f f' : Nat) (c r : nd_Mem), h + d = n → d < f → d < f' → wk_ b st sa n c r → cm_ b c r → ∃ c' r' : nd_Mem, f_X9_pass_11 F b a st sa f (nI h) c = f_X9_pass_47 F b a st sa F 0 c' ∧ f_X11_girlsGo_23 F f' (nI h) r = some (0, r') ∧ wt_ b a st sa n c r c' r' := by
  intro d
  induction d with
  | zero =>
    intro h f f' c r hd hf hf' H hm
    obtain ⟨f, rfl⟩ : ∃ g, f = g + 1 := ⟨f - 1, by omega⟩
    obtain ⟨f', rfl⟩ : ∃ g, f' = g + 1 := ⟨f' - 1, by omega⟩
    have h16 := H.1.1
    refine ⟨c, r, ?_, ?_, H, hm, fr_rf, fr_rf, kg_rf⟩
    · show f_X9_pass_11_b F _ b a st sa _ c = _
      unfold f_X9_pass_11_b
      rw [H.2.1.1, if_pos (nI_le (by omega) (by omega))]
    · show f_X11_girlsGo_23_b F _ _ r = _
      unfold f_X11_girlsGo_23_b
      rw [H.1.2, if_pos (nI_le (by omega) (by omega))]
  | succ d ih =>
    intro h f f' c r hd hf hf' H hm
    obtain ⟨f, rfl⟩ : ∃ g, f = g + 1 := ⟨f - 1, by omega⟩
    obtain ⟨f', rfl⟩ : ∃ g, f' = g + 1 := ⟨f' - 1, by omega⟩
    have h16 := H.1.1
    obtain ⟨⟨g1, g2, g3⟩, _⟩ := H.2.1.2.2.2.2.2.2.2.2.2.2 h (by omega)
    have stepC : f_X9_pass_11 F b a st sa (f + 1) (nI h) c = (if r 61 (7 + h) ≤ 0 then f_X9_pass_39 F (f_X9_pass_11 F b a st sa f) b a st sa (nI h) c else nd_bind (f_X9_lookForHusband F b a st sa (nI h) c) fun r4 σ5 => f_X9_pass_39 F (f_X9_pass_11 F b a st sa f) b a st sa (nI h) σ5) := by
      show f_X9_pass_11_b F _ b a st sa _ c = _
      unfold f_X9_pass_11_b
      rw [H.2.1.1, if_neg (nI_ge (by omega) (by omega)), e_get0 H.2.1.1 (by omega) h16, n_bind, g1]
    rw [stepC]
    unfold f_X9_pass_39
    by_cases hg : r 61 (7 + h) ≤ 0
    · have hg0 : r 61 (7 + h) = 0 := Int32.le_antisymm hg g2
      obtain ⟨c', r', e1, e2, W⟩ := ih (h + 1) f f' c r (by omega) (by omega) (by omega) H hm
      refine ⟨c', r', ?_, ?_, W⟩
      · rw [if_pos hg, nI_1, e1]
      · show f_X11_girlsGo_23_b F _ _ r = _
        unfold f_X11_girlsGo_23_b f_X11_girlsGo_116
        rw [H.1.2, if_neg (nI_ge (by omega) (by omega)), i_7, if_neg (nI_in (by omega) (by decide)), nI_clamp (by omega), if_pos hg0, nI_1, e2]
    · obtain ⟨c1, r1, e1, e2, W1⟩ := e_look (F := F) hF hq H hm (show h < n by omega) (Int32.not_le.mp hg) (f_X11_girlsGo_23 F f')
      obtain ⟨c', r', e3, e4, W⟩ := ih (h + 1) f f' c1 r1 (by omega) (by omega) (by omega) W1.1 W1.2.1
      refine ⟨c', r', ?_, ?_, wt_tr W1 W⟩
      · rw [if_neg hg, e1, n_bind, nI_1, e3]
      · show f_X11_girlsGo_23_b F _ _ r = _
        rw [e2, e4]
/-- the children of one couple -/
theorem ch_in (hF : 300000 ≤ F) (hq : (b = 51 ∧ a = 52 ∧ st = 1 ∧ sa = 2) ∨ (b = 55 ∧ a = 56 ∧ st = 53 ∧ sa = 54)) (hh : h < n) (rec18 : Int32 → Int32 → Int32 → Int32 → Int32 → nd_Mem → nd_Res) (rec15 : Int32 → Int32 → Int32 → Int32 → nd_Mem → nd_Res) (kk x5 x4 : Int32) {q : Nat} (hq5 : q ≤ 5) : ∀ (d j f f' : Nat) (born cnt : Int32) (c r : nd_Mem), j + d = q → d < f → d < f' → wk_ b st sa n c r → ∃ (born' cnt' : Int32) (c' r' : nd_Mem), f_X9_bear_35 F rec18 b a st sa f (nI h) kk born cnt x5 (nI q) (nI j) c = rec18 (nI h) kk born' cnt' (x5 + 1) c' ∧ f_X11_childrenOf_27 F rec15 f' (nI h) cnt born x4 (nI d) r = rec15 (nI h) cnt' born' (x4 + -1) r' ∧ ws_ b a st sa n c r c' r' := by
  intro d
  induction d with
  | zero =>
    intro j f f' born cnt c r hd hf hf' H
    obtain ⟨f, rfl⟩ : ∃ g, f = g + 1 := ⟨f - 1, by omega⟩
    obtain ⟨f', rfl⟩ : ∃ g, f' = g + 1 := ⟨f' - 1, by omega⟩
    refine ⟨born, cnt, c, r, ?_, ?_, ws_rf H⟩
    · show f_X9_bear_35_b F rec18 _ b a st sa _ _ _ _ _ _ _ c = _
      unfold f_X9_bear_35_b
      rw [if_pos (nI_le (by omega) (by omega))]
    · show f_X11_childrenOf_27_b F rec15 _ _ _ _ _ _ r = _
      unfold f_X11_childrenOf_27_b
      rw [if_pos (by decide)]
  | succ d ih =>
    intro j f f' born cnt c r hd hf hf' H
    obtain ⟨f, rfl⟩ : ∃ g, f = g + 1 := ⟨f - 1, by omega⟩
    obtain ⟨f', rfl⟩ : ∃ g, f' = g + 1 := ⟨f' - 1, by omega⟩
    have h16 := H.1.1
    -- behind the draw
    have key : ∀ (z : Int32) (c1 r1 : nd_Mem), ws_ b a st sa n c r c1 r1 → ∃ (born' cnt' : Int32) (c' r' : nd_Mem), f_X9_bear_63 F rec18 (f_X9_bear_35 F rec18 b a st sa f) b a st sa (nI h) kk born cnt x5 (nI q) (nI j) z c1 = rec18 (nI h) kk born' cnt' (x5 + 1) c' ∧ f_X11_childrenOf_50 F rec15 (f_X11_childrenOf_27 F rec15 f') (nI h) cnt born x4 (nI (d + 1)) z r1 = rec15 (nI h) cnt' born' (x4 + -1) r' ∧ ws_ b a st sa n c r c' r' := by
      intro z c1 r1 W1
      have H1 := W1.1
      obtain ⟨⟨g1, g2, g3⟩, ⟨b1, b2, b3⟩, _⟩ := H1.2.1.2.2.2.2.2.2.2.2.2.2 h hh
      unfold f_X9_bear_63 f_X11_childrenOf_50 f_X9_bear_71 f_X11_childrenOf_68 f_X9_bear_105 f_X11_childrenOf_107
      by_cases hz : z = 0
      · rw [if_pos hz, if_pos hz, e_get0 H1.2.1.1 hh h16, n_bind, g1, i_7, if_neg (nI_in (by omega) (by decide)), nI_clamp (by omega)]
        by_cases h9 : r1 61 (7 + h) = 9
        · rw [if_pos (by rw [h9]; decide), if_pos h9, nI_1, nI_down]
          obtain ⟨born', cnt', c', r', e1, e2, W⟩ := ih (j + 1) f f' (born + 1) cnt c1 r1 (by omega) (by omega) (by omega) H1
          exact ⟨born', cnt', c', r', e1, e2, ws_tr W1 W⟩
        · have hl9 : r1 61 (7 + h) < 9 := Int32.lt_of_le_of_ne g3 h9
          obtain ⟨q1, q2, q3⟩ := up9' g2 hl9
          have H2 := wk_c0 hq H1 hh q2 q3
          rw [if_neg (Int32.not_le.mpr hl9), if_neg h9, e_addS0 H1.2.1.1 hh h16, n_bind, g1, q1, if_neg (nn_in (by omega) (by omega)), if_neg (nn_in (by omega) (by omega)), n_let, nI_1, nI_down]
          obtain ⟨born', cnt', c', r', e1, e2, W⟩ := ih (j + 1) f f' (born + 1) (cnt + 1) _ _ (by omega) (by omega) (by omega) H2
          exact ⟨born', cnt', c', r', e1, e2, ws_tr (ws_tr W1 (ws_cell hq H2 (by omega))) W⟩
      · rw [if_neg hz, if_neg hz, e_get1 H1.2.1.1 hh h16, n_bind, b1, i_23, if_neg (nI_in (by omega) (by decide)), nI_clamp (by omega)]
        by_cases h9 : r1 61 (23 + h) = 9
        · rw [if_pos (by rw [h9]; decide), if_pos h9, nI_1, nI_down]
          obtain ⟨born', cnt', c', r', e1, e2, W⟩ := ih (j + 1) f f' (born + 1) cnt c1 r1 (by omega) (by omega) (by omega) H1
          exact ⟨born', cnt', c', r', e1, e2, ws_tr W1 W⟩
        · have hl9 : r1 61 (23 + h) < 9 := Int32.lt_of_le_of_ne b3 h9
          obtain ⟨q1, q2, q3⟩ := up9' b2 hl9
          have H2 := wk_c1 hq H1 hh q2 q3
          rw [if_neg (Int32.not_le.mpr hl9), if_neg h9, e_addS1 H1.2.1.1 hh h16, n_bind, b1, q1, if_neg (nn_in (by omega) (by omega)), if_neg (nn_in (by omega) (by omega)), n_let, nI_1, nI_down]
          obtain ⟨born', cnt', c', r', e1, e2, W⟩ := ih (j + 1) f f' (born + 1) (cnt + 1) _ _ (by omega) (by omega) (by omega) H2
          exact ⟨born', cnt', c', r', e1, e2, ws_tr (ws_tr W1 (ws_cell hq H2 (by omega))) W⟩
    have stepC : f_X9_bear_35 F rec18 b a st sa (f + 1) (nI h) kk born cnt x5 (nI q) (nI j) c = (if (c b 3) = 0 then (nd_bind (f_X6_draw F st sa (2 : Int32) c) fun r1 σ2 => (f_X9_bear_63 F rec18 (f_X9_bear_35 F rec18 b a st sa f) b a st sa (nI h) kk born cnt x5 (nI q) (nI j) r1 σ2)) else (f_X9_bear_63 F rec18 (f_X9_bear_35 F rec18 b a st sa f) b a st sa (nI h) kk born cnt x5 (nI q) (nI j) (q_rem born (2 : Int32)) c)) := by
      show f_X9_bear_35_b F rec18 _ b a st sa _ _ _ _ _ _ _ c = _
      unfold f_X9_bear_35_b
      rw [if_neg (nI_ge (by omega) (by omega))]
    have stepM : f_X11_childrenOf_27 F rec15 (f' + 1) (nI h) cnt born x4 (nI (d + 1)) r = (if (r 60 5) = 0 then (nd_bind (f_X11_draw F (2 : Int32) r) fun r1 σ2 => (f_X11_childrenOf_50 F rec15 (f_X11_childrenOf_27 F rec15 f') (nI h) cnt born x4 (nI (d + 1)) r1 σ2)) else (f_X11_childrenOf_50 F rec15 (f_X11_childrenOf_27 F rec15 f') (nI h) cnt born x4 (nI (d + 1)) (q_rem born (2 : Int32)) r)) := by
      show f_X11_childrenOf_27_b F rec15 _ _ _ _ _ _ r = _
      unfold f_X11_childrenOf_27_b
      rw [if_neg (nI_nle (by omega) (by omega))]
    rw [stepC, stepM]
    rcases H.2.2.2.2.2.2.2 with ⟨t1, t2⟩ | ⟨t1, t2⟩
    · rw [if_pos t1, if_pos t2]
      obtain ⟨z, c1, r1, e1, e2, W, _, _⟩ := e_draw (F := F) (m := 2) (by decide) (by decide) hq H
      rw [e1, e2, n_bind, n_bind]
      exact key z c1 r1 W
    · rw [t1, t2, if_neg (by decide), if_neg (by decide)]
      exact key _ c r (ws_rf H)
theorem ch_out (hF : 300000 ≤ F) (hq : (b = 51 ∧ a = 52 ∧ st = 1 ∧ sa = 2) ∨ (b = 55 ∧ a = 56 ∧ st = 53 ∧ sa = 54)) (hh : h < n) {k : Nat} (hk : k ≤ 9) : ∀ (d i f f' : Nat) (born cnt : Int32) (c r : nd_Mem), i + d = k → d < f → d < f' → wk_ b st sa n c r → ∃ c' r' : nd_Mem, f_X9_bear_18 F b a st sa f (nI h) (nI k) born cnt (nI i) c = some (0, c') ∧ f_X11_childrenOf_15 F f' (nI h) cnt born (nI d) r = some (0, r') ∧ ws_ b a st sa n c r c' r' := by
  intro d
  induction d with
  | zero =>
    intro i f f' born cnt c r hd hf hf' H
    obtain ⟨f, rfl⟩ : ∃ g, f = g + 1 := ⟨f - 1, by omega⟩
    obtain ⟨f', rfl⟩ : ∃ g, f' = g + 1 := ⟨f' - 1, by omega⟩
    have h16 := H.1.1
    have H1 := wk_c3 (v := 0) hq H hh (by decide) (by decide)
    have W1 := ws_cell hq H1 (by omega)
    have stepC : f_X9_bear_18 F b a st sa (f + 1) (nI h) (nI k) born cnt (nI i) c = (if cnt ≤ 0 then (some (0, nd_up c sa (h * 6 + 3) 0)) else (nd_bind (f_X9_note F b a st sa (3 : Int32) (nI h) cnt (nd_up c sa (h * 6 + 3) 0)) fun r4 σ5 => (some (0, σ5)))) := by
      show f_X9_bear_18_b F _ b a st sa _ _ _ _ _ c = _
      unfold f_X9_bear_18_b
      rw [if_pos (nI_le (by omega) (by omega)), e_put3 H.2.1.1 hh h16, n_bind]
    have stepM : f_X11_childrenOf_15 F (f' + 1) (nI h) cnt born (nI 0) r = (if cnt ≤ 0 then (some (0, nd_up r 61 (39 + h) 0)) else (nd_bind (f_X11_notes F (3 : Int32) (nI h) cnt (nd_up r 61 (39 + h) 0)) fun r2 σ3 => (some (0, σ3)))) := by
      show f_X11_childrenOf_15_b F _ _ _ _ _ r = _
      unfold f_X11_childrenOf_15_b
      rw [if_pos (by decide), i_39, if_neg (nI_in (by omega) (by decide)), nI_clamp (by omega), n_let]
    rw [stepC, stepM]
    by_cases hc : cnt ≤ 0
    · rw [if_pos hc, if_pos hc]
      exact ⟨_, _, rfl, rfl, W1⟩
    · rw [if_neg hc, if_neg hc]
      obtain ⟨c', r', e1, e2, W⟩ := e_note (F := F) 3 (nI h) cnt hq H1
      exact ⟨c', r', by rw [e1, n_bind], by rw [e2, n_bind], ws_tr W1 W⟩
  | succ d ih =>
    intro i f f' born cnt c r hd hf hf' H
    obtain ⟨f, rfl⟩ : ∃ g, f = g + 1 := ⟨f - 1, by omega⟩
    obtain ⟨f', rfl⟩ : ∃ g, f' = g + 1 := ⟨f' - 1, by omega⟩
    have h16 := H.1.1
    obtain ⟨v, c1, r1, e1, e2, ⟨W1, _, _, _⟩, v0, v5⟩ := e_bearsOf (F := F) hF hq H hh
    obtain ⟨q, hq5, rfl⟩ := i32_rng (m := 5) (by decide) v0 v5
    obtain ⟨born', cnt', c2, r2, e3, e4, W2⟩ := ch_in (F := F) hF hq hh (f_X9_bear_18 F b a st sa f) (f_X11_childrenOf_15 F f') (nI k) (nI i) (nI (d + 1)) hq5 q 0 F F born cnt c1 r1 (by omega) (by omega) (by omega) W1.1
    obtain ⟨c', r', e5, e6, W3⟩ := ih (i + 1) f f' born' cnt' c2 r2 (by omega) (by omega) (by omega) W2.1
    refine ⟨c', r', ?_, ?_, ws_tr (ws_tr W1 W2) W3⟩
    · show f_X9_bear_18_b F _ b a st sa _ _ _ _ _ c = _
      unfold f_X9_bear_18_b
      rw [if_neg (nI_ge (by omega) (by omega)), e1, n_bind]
      show f_X9_bear_35 F _ b a st sa F (nI h) (nI k) born cnt (nI i) (nI q) (nI 0) c1 = _
      rw [e3, nI_1, e5]
    · show f_X11_childrenOf_15_b F _ _ _ _ _ r = _
      unfold f_X11_childrenOf_15_b
      rw [if_neg (nI_nle (by omega) (by omega)), e2, n_bind, e4, nI_down, e6]
theorem e_bear (hF : 300000 ≤ F) (hq : (b = 51 ∧ a = 52 ∧ st = 1 ∧ sa = 2) ∨ (b = 55 ∧ a = 56 ∧ st = 53 ∧ sa = 54)) (H : wk_ b st sa n c r) (hh : h < n) : ∃ c' r' : nd_Mem, f_X9_bear F b a st sa (nI h) c = some (0, c') ∧ f_X11_childrenOf F (nI h) r = some (0, r') ∧ ws_ b a st sa n c r c' r' := by
  have h16 := H.1.1
  obtain ⟨_, _, _, ⟨g1, g2, g3⟩, _⟩ := H.2.1.2.2.2.2.2.2.2.2.2.2 h hh
  obtain ⟨k, hk, ek⟩ := i32_rng (m := 9) (by decide) g2 g3
  obtain ⟨c', r', e1, e2, W⟩ := ch_out (F := F) hF hq hh hk k 0 F F 0 0 c r (by omega) (by omega) (by omega) H
  refine ⟨c', r', ?_, ?_, W⟩
  · unfold f_X9_bear
    rw [e_get3 H.2.1.1 hh h16, n_bind, g1, ek]
    exact e1
  · unfold f_X11_childrenOf
    rw [i_39, if_neg (nI_in (by omega) (by decide)), nI_clamp (by omega), ek]
    exact e2
end PS
