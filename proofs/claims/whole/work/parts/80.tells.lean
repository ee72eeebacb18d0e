/-! what the law tells of a house -/
def lt_K (F : Nat) (x3 x2 : Int32) (r1 : Int32) (σ2 : nd_Mem) : nd_Res := (if r1 = (-1 : Int32) then (f_X11_lawTells_37 F x3 x2 σ2) else (if r1 < 0 ∨ 48 ≤ (r1).toNatClampNeg then none else (if r1 < 0 ∨ 48 ≤ (r1).toNatClampNeg then none else (nd_bind (f_X11_runs F (0 : Int32) (σ2 69 (r1).toNatClampNeg) (σ2 70 (r1).toNatClampNeg) σ2) fun r4 σ5 => (f_X11_lawTells_37 F x3 r4 σ5)))))
theorem as_c {r r' : nd_Mem} {h j : Nat} (h58 : r' 61 = r 61) (h74 : r' 77 = r 77) (hj : j < 10) : as_ r' h j = as_ r h j := by
  unfold as_
  rw [h58, h74]
  have hj : j = 0 ∨ j = 1 ∨ j = 2 ∨ j = 3 ∨ j = 4 ∨ j = 5 ∨ j = 6 ∨ j = 7 ∨ j = 8 ∨ j = 9 := by omega
  rcases hj with rfl | rfl | rfl | rfl | rfl | rfl | rfl | rfl | rfl | rfl <;> rfl
section TL
variable {F b a st sa n h : Nat} {c r : nd_Mem}
theorem wk_rows (hq : (b = 51 ∧ a = 52 ∧ st = 1 ∧ sa = 2) ∨ (b = 55 ∧ a = 56 ∧ st = 53 ∧ sa = 54)) (H : wk_ b st sa n c r) (g1 g2 : Nat → Int32) : wk_ b st sa n (nd_row c a g1) (nd_row r 79 g2) := by
  refine wk_mk hq H (fr_row fr_rf (by simp) (by omega)) (fr_row fr_rf (by decide) (by decide)) ?_ (by rw [nd_row_ne (by omega)]) (fun hp i hi => ?_)
  · rw [nd_row_ne (by omega), nd_row_ne (by omega), nd_row_ne (by omega)]
    exact H.2.1
  · rw [nd_row_ne (by omega), nd_row_ne (by omega)]
    exact hp i hi
theorem al_ (hF : 300000 ≤ F) (hq : (b = 51 ∧ a = 52 ∧ st = 1 ∧ sa = 2) ∨ (b = 55 ∧ a = 56 ∧ st = 53 ∧ sa = 54)) (H : wk_ b st sa n c r) (hh : h < n) (h75 : ∀ j : Nat, j < 10 → r 78 j = as_ r h j) {w L C : Nat} (hw : w < 3) (dv most : Int32) (l1 : L ≤ 16) (l2 : C ≤ 400) (l3 : c 4 1 = nI (4 * L)) (l4 : c 6 1 = nI C) (l5 : r 67 0 = nI L) (l6 : ∀ l : Nat, l < L → iv_line c r C l) (l7 : ∀ i : Nat, i < C → iv_code (c 7 i) (r 72 i) (r 73 i)) :
    ∀ (d l f f' : Nat) (g1 g2 : Nat → Int32), l + d = L → d < f → d < f' → ∃ (v : Int32) (g1' g2' : Nat → Int32), f_X9_ask_22 F b a st sa f (nI w) (nI h) dv (nI (4 * L)) (nI (4 * l)) (nd_row c a g1) = f_X9_ask_127 F b a st sa (nI w) (nI h) v (nd_row c a g1') ∧ nd_bind (f_X11_lineOf_2 F f' (nI w) (nI l) (nd_row r 79 g2)) (lt_K F most dv) = f_X11_lawTells_37 F most v (nd_row r 79 g2') := by
  have h75' : ∀ (g2 : Nat → Int32) (j : Nat), j < 10 → nd_row r 79 g2 78 j = as_ (nd_row r 79 g2) h j := by
    intro g2 j hj
    rw [as_c (r := r) (nd_row_ne (by decide)) (nd_row_ne (by decide)) hj, nd_row_ne (by decide)]
    exact h75 j hj
  have rc : ∀ (g1 g2 : Nat → Int32) (f e : Nat) (ty : List Nat), f ≤ e → e ≤ C → ty_run (r 72) (r 73) f (e - f) [] = some ty → ty ≠ [] → ∃ (v : Int32) (g1' g2' : Nat → Int32), f_X9_reckon F b a st sa (nI f) (nI e) (nI h) (nd_row c a g1) = some (v, nd_row c a g1') ∧ f_X11_runs F 0 (nI f) (nI e) (nd_row r 79 g2) = some (v, nd_row r 79 g2') := by
    intro g1 g2 f e ty hfe he hty hne
    obtain ⟨v, g1', g2', e1, e2⟩ := e_reckon (F := F) hF hq (wk_rows hq H g1 g2) hh hfe (C := C) (by rw [nd_row_ne (by omega)]; exact l4) l2 he (fun i hi => by rw [nd_row_ne (by omega), nd_row_ne (by omega), nd_row_ne (by omega)]; exact l7 i hi) (h75' g2) (ty := ty) (by rw [nd_row_ne (by omega), nd_row_ne (by omega)]; exact hty) hne
    rw [row_row] at e1 e2
    exact ⟨v, g1', g2', e1, e2⟩
  intro d
  induction d with
  | zero =>
    intro l f f' g1 g2 hl hf hf'
    obtain ⟨f, rfl⟩ : ∃ g, f = g + 1 := ⟨f - 1, by omega⟩
    obtain ⟨f', rfl⟩ : ∃ g, f' = g + 1 := ⟨f' - 1, by omega⟩
    refine ⟨dv, g1, g2, ?_, ?_⟩
    · show f_X9_ask_22_b F _ b a st sa _ _ _ _ _ _ = _
      unfold f_X9_ask_22_b
      rw [if_pos (nI_le (by omega) (by omega))]
    · show nd_bind (f_X11_lineOf_2_b F _ _ _ _) _ = _
      unfold f_X11_lineOf_2_b
      rw [if_neg (by decide), show ((0 : Int32)).toNatClampNeg = 0 by decide, w_ne (by decide), l5, if_pos (nI_le (by omega) (by omega)), n_bind]
      unfold lt_K
      rw [if_pos rfl]
  | succ d ih =>
    intro l f f' g1 g2 hl hf hf'
    obtain ⟨f, rfl⟩ : ∃ g, f = g + 1 := ⟨f - 1, by omega⟩
    obtain ⟨f', rfl⟩ : ∃ g, f' = g + 1 := ⟨f' - 1, by omega⟩
    obtain ⟨w', fr, p, t, hw', hfp, hpt, htC, a1, b1, a2, b2, a3, b3, a4, b4, ⟨x, hx⟩, hcond⟩ := l6 l (by omega)
    have at5 : ∀ (g : Nat → Int32) (k : Nat), k < 4 * L → f_X4_at F 4 5 64 (nI k) (nd_row c a g) = some (c 5 k, nd_row c a g) := by
      intro g k hk
      rw [e_at (n := 4 * L) (by rw [w_ne (by omega)]; exact l3) hk (by omega) (by decide), w_ne (by omega)]
    have e1 : nI (4 * l) + (1 : Int32) = nI (4 * l + 1) := n_add _ 1
    have e2 : nI (4 * l) + (2 : Int32) = nI (4 * l + 2) := n_add _ 2
    have e3 : nI (4 * l) + (3 : Int32) = nI (4 * l + 3) := n_add _ 3
    have e4 : nI (4 * l) + (4 : Int32) = nI (4 * (l + 1)) := n_add _ 4
    -- the line is taken
    have fin : ∀ g1 g2 : Nat → Int32, ∃ (v : Int32) (g1' g2' : Nat → Int32), f_X9_ask_96 F b a st sa (nI w) (nI h) (nI (4 * l)) (nI p) (nd_row c a g1) = f_X9_ask_127 F b a st sa (nI w) (nI h) v (nd_row c a g1') ∧ lt_K F most dv (nI l) (nd_row r 79 g2) = f_X11_lawTells_37 F most v (nd_row r 79 g2') := by
      intro g1 g2
      obtain ⟨v, g1', g2', q1, q2⟩ := rc g1 g2 fr p [x] hfp (by omega) hx (by simp)
      refine ⟨v, g1', g2', ?_, ?_⟩
      · unfold f_X9_ask_96
        rw [e1, at5 g1 (4 * l + 1) (by omega), n_bind, a2, q1, n_bind]
      · unfold lt_K
        rw [if_neg (li_m1 l (by omega)), if_neg (nI_in (by omega) (by decide)), if_neg (nI_in (by omega) (by decide)), nI_clamp (by omega), w_ne (by decide), w_ne (by decide), b2, b3, q2, n_bind]
    have stepC : f_X9_ask_22 F b a st sa (f + 1) (nI w) (nI h) dv (nI (4 * L)) (nI (4 * l)) (nd_row c a g1) = (if nI w' = nI w then (if nI p = nI t then (f_X9_ask_96 F b a st sa (nI w) (nI h) (nI (4 * l)) (nI p) (nd_row c a g1)) else (nd_bind (f_X9_reckon F b a st sa (nI p) (nI t) (nI h) (nd_row c a g1)) fun r10 σ11 => (if r10 = 0 then (f_X9_ask_121 F (f_X9_ask_22 F b a st sa f) b a st sa (nI w) (nI h) dv (nI (4 * L)) (nI (4 * l)) σ11) else (f_X9_ask_96 F b a st sa (nI w) (nI h) (nI (4 * l)) (nI p) σ11)))) else (f_X9_ask_121 F (f_X9_ask_22 F b a st sa f) b a st sa (nI w) (nI h) dv (nI (4 * L)) (nI (4 * l)) (nd_row c a g1))) := by
      show f_X9_ask_22_b F _ b a st sa _ _ _ _ _ _ = _
      unfold f_X9_ask_22_b
      rw [if_neg (nI_ge (by omega) (by omega)), e2, e3, at5 g1 (4 * l + 2) (by omega), n_bind, at5 g1 (4 * l + 3) (by omega), n_bind, at5 g1 (4 * l) (by omega), n_bind, a1, a3, a4]
    have stepM : f_X11_lineOf_2 F (f' + 1) (nI w) (nI l) (nd_row r 79 g2) = (if nI w' = nI w then (if nI p = nI t then (f_X11_lineOf_57 F (nI l) (nd_row r 79 g2)) else (nd_bind (f_X11_runs F (0 : Int32) (nI p) (nI t) (nd_row r 79 g2)) fun r1 σ2 => (if r1 = 0 then (f_X11_lineOf_59 F (f_X11_lineOf_2 F f') (nI w) (nI l) σ2) else (f_X11_lineOf_57 F (nI l) σ2)))) else (f_X11_lineOf_59 F (f_X11_lineOf_2 F f') (nI w) (nI l) (nd_row r 79 g2))) := by
      show f_X11_lineOf_2_b F _ _ _ _ = _
      unfold f_X11_lineOf_2_b
      rw [if_neg (by decide), show ((0 : Int32)).toNatClampNeg = 0 by decide, w_ne (by decide), l5, if_neg (nI_ge (by omega) (by omega)), if_neg (nI_in (by omega) (by decide)), nI_clamp (by omega), w_ne (by decide), w_ne (by decide), w_ne (by decide), b1, b3, b4, if_neg (nn_in (by omega) (by omega)), if_neg (nn_in (by omega) (by omega)), if_neg (nn_in (by omega) (by omega)), if_neg (nn_in (by omega) (by omega))]
    have next : ∀ g1 g2 : Nat → Int32, ∃ (v : Int32) (g1' g2' : Nat → Int32), f_X9_ask_121 F (f_X9_ask_22 F b a st sa f) b a st sa (nI w) (nI h) dv (nI (4 * L)) (nI (4 * l)) (nd_row c a g1) = f_X9_ask_127 F b a st sa (nI w) (nI h) v (nd_row c a g1') ∧ nd_bind (f_X11_lineOf_59 F (f_X11_lineOf_2 F f') (nI w) (nI l) (nd_row r 79 g2)) (lt_K F most dv) = f_X11_lawTells_37 F most v (nd_row r 79 g2') := by
      intro g1 g2
      unfold f_X9_ask_121 f_X11_lineOf_59
      rw [e4, nI_1]
      exact ih (l + 1) f f' g1 g2 (by omega) (by omega) (by omega)
    rw [stepC, stepM]
    by_cases c1 : nI w' = nI w
    · rw [if_pos c1, if_pos c1]
      by_cases c2 : p = t
      · rw [if_pos (by rw [c2]), if_pos (by rw [c2])]
        exact fin g1 g2
      · have c2' : ¬ nI p = nI t := fun e => c2 ((nI_eq (by omega) (by omega)).mp e)
        rw [if_neg c2', if_neg c2']
        obtain ⟨v, g1', g2', q1, q2⟩ := rc g1 g2 p t [1] hpt (by omega) (hcond.resolve_left c2) (by simp)
        rw [q1, q2, n_bind, n_bind]
        by_cases c3 : v = 0
        · rw [if_pos c3, if_pos c3]
          exact next g1' g2'
        · rw [if_neg c3, if_neg c3]
          exact fin g1' g2'
    · rw [if_neg c1, if_neg c1]
      exact next g1 g2
/-- a call that reckons: nothing of the street changes -/
def wr_ (b a st sa n : Nat) (c r c' r' : nd_Mem) : Prop := ws_ b a st sa n c r c' r' ∧ c' st = c st ∧ c' sa = c sa ∧ r' 61 = r 61
theorem held_eq {v most : Int32} (h : 0 ≤ most) : (if (0 : Int32) < (if most < v then most else v) then (if most < v then most else v) else 0) = (if 0 ≤ v then (if v ≤ most then v else most) else 0) ∧ 0 ≤ (if 0 ≤ v then (if v ≤ most then v else most) else 0) ∧ (if 0 ≤ v then (if v ≤ most then v else most) else 0) ≤ most := by
  grind
theorem e_tells (hF : 300000 ≤ F) (hq : (b = 51 ∧ a = 52 ∧ st = 1 ∧ sa = 2) ∨ (b = 55 ∧ a = 56 ∧ st = 53 ∧ sa = 54)) (H : wk_ b st sa n c r) (hh : h < n) {w : Nat} (hw : w < 3) (dv most : Int32) (hm0 : 0 ≤ most) (hu : f_X9_usual F b a st sa (nI w) (nI h) c = some (dv, c)) (hm : ∀ c' : nd_Mem, c' st = c st → c' sa = c sa → f_X9_mostFor F b a st sa (nI w) (nI h) c' = some (most, c')) :
    ∃ (v : Int32) (c' r' : nd_Mem), f_X9_ask F b a st sa (nI w) (nI h) c = some (v, c') ∧ f_X11_lawTells F (nI w) dv most (nd_row r 78 (as_ r h)) = some (v, r') ∧ wr_ b a st sa n c r c' r' ∧ 0 ≤ v ∧ v ≤ most := by
  have f75 : fm_ r (nd_row r 78 (as_ r h)) := fr_row fr_rf (by decide) (by decide)
  have H' : wk_ b st sa n c (nd_row r 78 (as_ r h)) := wk_mk hq H fr_rf f75 (by rw [nd_row_ne (by decide)]; exact H.2.1) rfl (fun hp i hi => by rw [nd_row_ne (by decide)]; exact hp i hi)
  have h75 : ∀ j : Nat, j < 10 → nd_row r 78 (as_ r h) 78 j = as_ (nd_row r 78 (as_ r h)) h j := by
    intro j hj
    rw [as_c (r := r) (nd_row_ne (by decide)) (nd_row_ne (by decide)) hj, w_eq]
  obtain ⟨L, C, l1, l2, l3, l4, l5, l6, l7⟩ := H'.2.2.1
  obtain ⟨v, g1, g2, e1, e2⟩ := al_ (F := F) hF hq H' hh h75 hw dv most l1 l2 l3 l4 l5 l6 l7 L 0 F F (c a) (nd_row r 78 (as_ r h) 79) (by omega) (by omega) (by omega)
  rw [row_id] at e1 e2
  obtain ⟨k1, k2, k3⟩ := held_eq (v := v) hm0
  have fa : fc_ b a st sa c (nd_row c a g1) := fr_row fr_rf (by simp) (by omega)
  have fb : fm_ r (nd_row (nd_row r 78 (as_ r h)) 79 g2) := fr_row f75 (by decide) (by decide)
  refine ⟨_, nd_row c a g1, nd_row (nd_row r 78 (as_ r h)) 79 g2, ?_, ?_, ⟨⟨wk_rows hq H' g1 g2, fa, fb, ?_, rfl, rfl, fun _ => rfl⟩, ?_, ?_, rfl⟩, k2, k3⟩
  · unfold f_X9_ask
    rw [hu, n_bind, l3]
    show f_X9_ask_22 F b a st sa F (nI w) (nI h) dv (nI (4 * L)) (nI (4 * 0)) c = _
    rw [e1]
    unfold f_X9_ask_127
    rw [hm _ (nd_row_ne (by omega)) (nd_row_ne (by omega)), n_bind, k1]
  · show nd_bind (f_X11_lineOf_2 F F (nI w) (nI 0) _) (lt_K F most dv) = _
    rw [e2]
    unfold f_X11_lawTells_37
    rw [e_held, n_bind]
  · exact nd_row_ne (by omega)
  · exact nd_row_ne (by omega)
  · exact nd_row_ne (by omega)
theorem e_goesOf (hF : 300000 ≤ F) (hq : (b = 51 ∧ a = 52 ∧ st = 1 ∧ sa = 2) ∨ (b = 55 ∧ a = 56 ∧ st = 53 ∧ sa = 54)) (H : wk_ b st sa n c r) (hh : h < n) : ∃ (v : Int32) (c' r' : nd_Mem), f_X9_ask F b a st sa 0 (nI h) c = some (v, c') ∧ f_X11_goesOf F (nI h) r = some (v, r') ∧ wr_ b a st sa n c r c' r' ∧ 0 ≤ v ∧ v ≤ 1000 := by
  have h16 := H.1.1
  obtain ⟨v, c', r', e1, e2, e3⟩ := e_tells (F := F) hF hq H hh (w := 0) (by omega) (800 - 100 * r 61 4) 1000 (by decide) (by
    unfold f_X9_usual
    rw [if_pos (by decide), H.2.1.2.2.1]) (fun c' _ _ => by
    unfold f_X9_mostFor
    rw [if_pos (by decide)])
  refine ⟨v, c', r', e1, ?_, e3⟩
  unfold f_X11_goesOf
  rw [e_asks (by omega), n_bind, if_neg (by decide), show ((8 : Int32)).toNatClampNeg = 8 by decide, w_eq, show as_ r h 8 = r 61 4 from rfl]
  show nd_bind (f_X11_lawTells F (nI 0) _ _ _) _ = _
  rw [e2, n_bind]
theorem e_bearsOf (hF : 300000 ≤ F) (hq : (b = 51 ∧ a = 52 ∧ st = 1 ∧ sa = 2) ∨ (b = 55 ∧ a = 56 ∧ st = 53 ∧ sa = 54)) (H : wk_ b st sa n c r) (hh : h < n) : ∃ (v : Int32) (c' r' : nd_Mem), f_X9_ask F b a st sa 1 (nI h) c = some (v, c') ∧ f_X11_bearsOf F (nI h) r = some (v, r') ∧ wr_ b a st sa n c r c' r' ∧ 0 ≤ v ∧ v ≤ 5 := by
  have h16 := H.1.1
  obtain ⟨v, c', r', e1, e2, e3⟩ := e_tells (F := F) hF hq H hh (w := 1) (by omega) 2 5 (by decide) (by
    unfold f_X9_usual
    rw [if_neg (by decide), if_pos (by decide)]) (fun c' _ _ => by
    unfold f_X9_mostFor
    rw [if_neg (by decide), if_pos (by decide)])
  refine ⟨v, c', r', e1, ?_, e3⟩
  unfold f_X11_bearsOf
  rw [e_asks (by omega), n_bind]
  show nd_bind (f_X11_lawTells F (nI 1) _ _ _) _ = _
  rw [e2, n_bind]
theorem e_bringsOf (hF : 300000 ≤ F) (hq : (b = 51 ∧ a = 52 ∧ st = 1 ∧ sa = 2) ∨ (b = 55 ∧ a = 56 ∧ st = 53 ∧ sa = 54)) (H : wk_ b st sa n c r) (hh : h < n) : ∃ (v : Int32) (c' r' : nd_Mem), f_X9_ask F b a st sa 2 (nI h) c = some (v, c') ∧ f_X11_bringsOf F (nI h) r = some (v, r') ∧ wr_ b a st sa n c r c' r' ∧ 0 ≤ v ∧ v ≤ r 61 (55 + h) := by
  have h16 := H.1.1
  have h1 : c st 1 = nI n := H.2.1.1
  obtain ⟨_, _, ⟨g3, g4, g5⟩, _⟩ := H.2.1.2.2.2.2.2.2.2.2.2.2 h hh
  obtain ⟨d, hd, ed⟩ := i32_rng (m := 9999) (by decide) g4 g5
  obtain ⟨v, c', r', e1, e2, e3⟩ := e_tells (F := F) hF hq H hh (w := 2) (by omega) (nI (d / 2)) (nI d) (nI_pos' (by omega)) (by
    unfold f_X9_usual
    rw [if_neg (by decide), if_neg (by decide), e_get2 h1 hh h16, n_bind, g3, ed]
    show some (nI d / nI 2, c) = _
    rw [n_div (by omega) (by omega)]) (fun c' q1 q2 => by
    unfold f_X9_mostFor
    rw [if_neg (by decide), if_neg (by decide), e_get2 (by rw [q1]; exact h1) hh h16, n_bind, q2, g3, ed])
  refine ⟨v, c', r', e1, ?_, e3.1, e3.2.1, by rw [ed]; exact e3.2.2⟩
  unfold f_X11_bringsOf
  rw [e_asks (by omega), n_bind, if_neg (by decide), if_neg (by decide), show ((3 : Int32)).toNatClampNeg = 3 by decide, w_eq, show as_ r h 3 = r 61 (55 + h) from rfl, ed, show (1 : Int32) &&& 31 = nI 1 by decide, n_shr (by decide) (by omega), show d >>> 1 = d / 2 from Nat.shiftRight_eq_div_pow d 1]
  show nd_bind (f_X11_lawTells F (nI 2) _ _ _) _ = _
  rw [e2, n_bind]
end TL
