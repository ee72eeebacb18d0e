/-! weddings, children, widows -/
theorem n_let {x : nd_Mem} {k : nd_Mem → nd_Res} : nd_let x k = k x := rfl
theorem cap9 (y : Int32) : (if (9 : Int32) < y then 9 else y) = (if y ≤ 9 then y else 9) := by grind
theorem capR (y : Int32) : (if (9999 : Int32) < y then 9999 else y) = (if y ≤ 9999 then y else 9999) := by grind
theorem dn9 {x : Int32} (h0 : 0 < x) (h9 : x ≤ 9) : (if (9 : Int32) < x + -1 then 9 else x + -1) = x - 1 ∧ 0 ≤ x - 1 ∧ x - 1 ≤ 9 := by
  obtain ⟨k, hk, rfl⟩ := i32_rng (m := 9) (by decide) (Int32.le_of_lt h0) h9
  exact (by decide : ∀ k : Fin 10, 0 < nI k.val → (if (9 : Int32) < nI k.val + -1 then 9 else nI k.val + -1) = nI k.val - 1 ∧ 0 ≤ nI k.val - 1 ∧ nI k.val - 1 ≤ 9) ⟨k, by omega⟩ h0
theorem up9 {x : Int32} (h0 : 0 ≤ x) (h9 : x ≤ 9) : 0 ≤ (if x + 1 ≤ 9 then x + 1 else 9) ∧ (if x + 1 ≤ 9 then x + 1 else 9) ≤ 9 := by
  obtain ⟨k, hk, rfl⟩ := i32_rng (m := 9) (by decide) h0 h9
  exact (by decide : ∀ k : Fin 10, 0 ≤ (if nI k.val + 1 ≤ 9 then nI k.val + 1 else 9) ∧ (if nI k.val + 1 ≤ 9 then nI k.val + 1 else 9) ≤ 9) ⟨k, by omega⟩
theorem up9' {x : Int32} (h0 : 0 ≤ x) (h9 : x < 9) : (if (9 : Int32) < x + 1 then 9 else x + 1) = x + 1 ∧ 0 ≤ x + 1 ∧ x + 1 ≤ 9 := by
  obtain ⟨k, hk, rfl⟩ := i32_rng (m := 9) (by decide) h0 (Int32.le_of_lt h9)
  exact (by decide : ∀ k : Fin 10, nI k.val < 9 → (if (9 : Int32) < nI k.val + 1 then 9 else nI k.val + 1) = nI k.val + 1 ∧ 0 ≤ nI k.val + 1 ∧ nI k.val + 1 ≤ 9) ⟨k, by omega⟩ h9
theorem dnR {x y : Int32} (h0 : 0 ≤ y) (h1 : y ≤ x) (h9 : x ≤ 9999) : (if (9999 : Int32) < x + -y then 9999 else x + -y) = x - y ∧ 0 ≤ x - y ∧ x - y ≤ 9999 := by
  obtain ⟨d, hd, rfl⟩ := i32_rng (m := 9999) (by decide) (Int32.le_trans h0 h1) h9
  obtain ⟨k, hk, rfl⟩ := i32_rng (m := 9999) (by decide) h0 (Int32.le_trans h1 h9)
  have hkd : k ≤ d := (nI_leI (by omega) (by omega)).mp h1
  rw [← Int32.sub_eq_add_neg, n_sub hkd]
  refine ⟨if_neg (nI_nlt (a := 9999) (by omega) (by omega)), nI_pos' (by omega), nI_le (b := 9999) (by omega) (by omega)⟩
theorem upR {x y : Int32} (h0 : 0 ≤ x) (h9 : x ≤ 9999) (k0 : 0 ≤ y) (k9 : y ≤ 9999) : 0 ≤ (if x + y ≤ 9999 then x + y else 9999) ∧ (if x + y ≤ 9999 then x + y else 9999) ≤ 9999 := by
  obtain ⟨d, hd, rfl⟩ := i32_rng (m := 9999) (by decide) h0 h9
  obtain ⟨k, hk, rfl⟩ := i32_rng (m := 9999) (by decide) k0 k9
  rw [n_add]
  by_cases h : nI (d + k) ≤ 9999
  · rw [if_pos h]
    exact ⟨nI_pos' (by omega), h⟩
  · rw [if_neg h]
    decide
theorem b_0 : ¬ ((0 : Int32) < 0 ∨ 103 ≤ ((0 : Int32)).toNatClampNeg) := by decide
theorem b_1 : ¬ ((1 : Int32) < 0 ∨ 103 ≤ ((1 : Int32)).toNatClampNeg) := by decide
theorem b_2 : ¬ ((2 : Int32) < 0 ∨ 103 ≤ ((2 : Int32)).toNatClampNeg) := by decide
theorem b_3 : ¬ ((3 : Int32) < 0 ∨ 103 ≤ ((3 : Int32)).toNatClampNeg) := by decide
theorem b_4 : ¬ ((4 : Int32) < 0 ∨ 103 ≤ ((4 : Int32)).toNatClampNeg) := by decide
theorem b_5 : ¬ ((5 : Int32) < 0 ∨ 103 ≤ ((5 : Int32)).toNatClampNeg) := by decide
theorem b_6 : ¬ ((6 : Int32) < 0 ∨ 103 ≤ ((6 : Int32)).toNatClampNeg) := by decide
section WD
variable {F b a st sa n h : Nat} {c r : nd_Mem} {v : Int32}
theorem i_7 (h : Nat) : (7 : Int32) + nI h = nI (7 + h) := n_add 7 h
theorem i_23 (h : Nat) : (23 : Int32) + nI h = nI (23 + h) := n_add 23 h
theorem i_39 (h : Nat) : (39 : Int32) + nI h = nI (39 + h) := n_add 39 h
theorem i_55 (h : Nat) : (55 : Int32) + nI h = nI (55 + h) := n_add 55 h
theorem i_71 (h : Nat) : (71 : Int32) + nI h = nI (71 + h) := n_add 71 h
theorem i_87 (h : Nat) : (87 : Int32) + nI h = nI (87 + h) := n_add 87 h
theorem k_0 : ((0 : Int32)).toNatClampNeg = 0 := by decide
theorem k_1 : ((1 : Int32)).toNatClampNeg = 1 := by decide
theorem k_2 : ((2 : Int32)).toNatClampNeg = 2 := by decide
theorem k_3 : ((3 : Int32)).toNatClampNeg = 3 := by decide
theorem k_4 : ((4 : Int32)).toNatClampNeg = 4 := by decide
theorem k_5 : ((5 : Int32)).toNatClampNeg = 5 := by decide
theorem k_6 : ((6 : Int32)).toNatClampNeg = 6 := by decide
theorem e_rich {x : Int32} (hh : h < 16) : f_X11_getsRicher F (nI h) x r = some (0, nd_up r 61 (55 + h) (if r 61 (55 + h) + x ≤ 9999 then r 61 (55 + h) + x else 9999)) := by
  unfold f_X11_getsRicher
  rw [i_55, if_neg (nI_in (by omega) (by decide)), nI_clamp (by omega), e_lesser, n_bind, if_neg (nn_in (by omega) (by omega)), n_let]
theorem wd_tail (hq : (b = 51 ∧ a = 52 ∧ st = 1 ∧ sa = 2) ∨ (b = 55 ∧ a = 56 ∧ st = 53 ∧ sa = 54)) (H : wk_ b st sa n c r) (hh : h < n) {t : Nat} (htn : t < n) {x : Int32} : ∃ c' r' : nd_Mem, f_X9_wed_135 F b a st sa (nI h) (nI t) x c = some (0, c') ∧ f_X11_girlGoes_182 F (nI h) (nI t) x r = some (0, r') ∧ ws_ b a st sa n c r c' r' := by
  have h11 := H.2.1.2.2.2.2.2.2.2.2.2.1 (show 0 < n by omega)
  by_cases hj : r 61 6 = nI h
  · have H1 := wk_jug (v := nI t) hq (by omega) H
    obtain ⟨c', r', e1, e2, e3⟩ := e_note (F := F) 0 (nI h) x hq H1
    refine ⟨c', r', ?_, ?_, ws_tr (ws_field hq H1 (by omega)) e3⟩
    · unfold f_X9_wed_135 f_X9_wed_154
      rw [h11, if_pos hj, n_let, e1, n_bind]
    · unfold f_X11_girlGoes_182 f_X11_girlGoes_201
      rw [if_neg b_6, if_neg b_6, k_6, if_pos hj, n_let, e2, n_bind]
  · obtain ⟨c', r', e1, e2, e3⟩ := e_note (F := F) 0 (nI h) x hq H
    refine ⟨c', r', ?_, ?_, e3⟩
    · unfold f_X9_wed_135 f_X9_wed_154
      rw [h11, if_neg hj, e1, n_bind]
    · unfold f_X11_girlGoes_182 f_X11_girlGoes_201
      rw [if_neg b_6, k_6, if_neg hj, e2, n_bind]
theorem e_wed (hF : 300000 ≤ F) (hq : (b = 51 ∧ a = 52 ∧ st = 1 ∧ sa = 2) ∨ (b = 55 ∧ a = 56 ∧ st = 53 ∧ sa = 54)) (H : wk_ b st sa n c r) (hh : h < n) (hg : 0 < r 61 (7 + h)) (hx : f_X11_nextOf F (nI h) r = some (v, r)) (ht : to_ n h v) (hb : ∀ t : Nat, t < n → v = nI t → 0 < r 61 (23 + t)) : ∃ c' r' : nd_Mem, f_X9_wed F b a st sa (nI h) v c = some (0, c') ∧ f_X11_girlGoes F (nI h) r = some (0, r') ∧ ws_ b a st sa n c r c' r' := by
  have h16 := H.1.1
  obtain ⟨⟨g1, g2, g3⟩, _⟩ := H.2.1.2.2.2.2.2.2.2.2.2.2 h hh
  obtain ⟨q1, q2, q3⟩ := dn9 hg g3
  -- the girl
  have H1 := wk_c0 (v := r 61 (7 + h) - 1) hq H hh q2 q3
  have W1 := ws_cell hq H1 (by omega)
  have a1 : f_X6_add F st sa (nI h) 0 (-1) c = some (0, nd_up c sa (h * 6) (r 61 (7 + h) - 1)) := by
    rw [e_addS0 H.2.1.1 hh h16, g1, q1]
  -- what she brings
  obtain ⟨m, c2, r2, d1, d2, ⟨W2, d4, d5, d6⟩, m0, m1⟩ := e_bringsOf (F := F) hF hq H1 hh
  have H2 := W2.1
  obtain ⟨_, _, ⟨p1, p2, p3⟩, _⟩ := H2.2.1.2.2.2.2.2.2.2.2.2.2 h hh
  have m1' : m ≤ r2 61 (55 + h) := by rw [d6]; exact m1
  obtain ⟨q4, q5, q6⟩ := dnR m0 m1' p3
  have H3 := wk_c2 (v := r2 61 (55 + h) - m) hq H2 hh q5 q6
  have W3 := ws_cell hq H3 (by omega)
  have a3 : f_X6_add F st sa (nI h) 2 (-m) c2 = some (0, nd_up c2 sa (h * 6 + 2) (r2 61 (55 + h) - m)) := by
    rw [e_addS2 H2.2.1.1 hh h16, p1, q4]
  have m9 : m ≤ 9999 := Int32.le_trans m1' p3
  -- the linen
  obtain ⟨_, _, _, _, _, ⟨l1, l2, l3⟩⟩ := H3.2.1.2.2.2.2.2.2.2.2.2.2 h hh
  have H4' := wk_c5 (v := 0) hq H3 hh (by decide) (by decide)
  rw [show (0 : Int32) - 1 = -1 by decide] at H4'
  have W4' := ws_cell hq H4' (by omega)
  have s71 : nd_up r2 61 (55 + h) (r2 61 (55 + h) - m) 61 (71 + h) = r2 61 (71 + h) := u_ne2 (by omega)
  rw [s71] at l1 l2 l3
  obtain ⟨c4, hc4⟩ : ∃ x : nd_Mem, x = nd_up (nd_up c2 sa (h * 6 + 2) (r2 61 (55 + h) - m)) sa (h * 6 + 5) (-1) := ⟨_, rfl⟩
  obtain ⟨r4, hr4⟩ : ∃ x : nd_Mem, x = nd_up (nd_up r2 61 (55 + h) (r2 61 (55 + h) - m)) 61 (71 + h) 0 := ⟨_, rfl⟩
  rw [← hc4, ← hr4] at H4' W4'
  have W14 := ws_tr (ws_tr (ws_tr W1 W2) W3) W4'
  have eM : f_X11_girlGoes F (nI h) r = (if v = (-1 : Int32) then (if (3 : Int32) < 0 ∨ 103 ≤ ((3 : Int32)).toNatClampNeg then none else (if (3 : Int32) < 0 ∨ 103 ≤ ((3 : Int32)).toNatClampNeg then none else (nd_let (nd_up r4 61 ((3 : Int32)).toNatClampNeg ((r4 61 ((3 : Int32)).toNatClampNeg) + (1 : Int32))) fun σ20 => (nd_bind (f_X11_notes F (1 : Int32) (nI h) m σ20) fun r21 σ22 => (some (0, σ22)))))) else (nd_bind (f_X11_getsRicher F v m r4) fun r10 σ11 => (if ((23 : Int32) + v) < 0 ∨ 103 ≤ (((23 : Int32) + v)).toNatClampNeg then none else (if ((23 : Int32) + v) < 0 ∨ 103 ≤ (((23 : Int32) + v)).toNatClampNeg then none else (nd_let (nd_up σ11 61 (((23 : Int32) + v)).toNatClampNeg ((σ11 61 (((23 : Int32) + v)).toNatClampNeg) - (1 : Int32))) fun σ13 => (if ((39 : Int32) + v) < 0 ∨ 103 ≤ (((39 : Int32) + v)).toNatClampNeg then none else (nd_bind (f_X11_lesser F (9 : Int32) ((σ13 61 (((39 : Int32) + v)).toNatClampNeg) + (1 : Int32)) σ13) fun r14 σ15 => (if ((39 : Int32) + v) < 0 ∨ 103 ≤ (((39 : Int32) + v)).toNatClampNeg then none else (nd_let (nd_up σ15 61 (((39 : Int32) + v)).toNatClampNeg r14) fun σ17 => (if (5 : Int32) < 0 ∨ 103 ≤ ((5 : Int32)).toNatClampNeg then none else (if (5 : Int32) < 0 ∨ 103 ≤ ((5 : Int32)).toNatClampNeg then none else (nd_let (nd_up σ17 61 ((5 : Int32)).toNatClampNeg ((σ17 61 ((5 : Int32)).toNatClampNeg) + (1 : Int32))) fun σ18 => (if r2 61 (71 + h) ≤ 0 then (f_X11_girlGoes_182 F (nI h) v m σ18) else (if ((71 : Int32) + v) < 0 ∨ 103 ≤ (((71 : Int32) + v)).toNatClampNeg then none else (nd_let (nd_up σ18 61 (((71 : Int32) + v)).toNatClampNeg (r2 61 (71 + h))) fun σ19 => (f_X11_girlGoes_182 F (nI h) v m σ19)))))))))))))))) := by
    unfold f_X11_girlGoes
    rw [hx, n_bind, i_7, if_neg (nI_in (by omega) (by decide)), if_neg (nI_in (by omega) (by decide)), nI_clamp (by omega), n_let, d2, n_bind, i_55, if_neg (nI_in (by omega) (by decide)), if_neg (nI_in (by omega) (by decide)), nI_clamp (by omega), n_let, i_71, if_neg (nI_in (by omega) (by decide)), if_neg (nI_in (by omega) (by decide)), nI_clamp (by omega), n_let, s71, ← hr4]
  rcases ht with rfl | ⟨t, htn, hth, rfl⟩
  · have H5 := wk_gone (v := r4 61 3 + 1) hq H4'
    obtain ⟨c', r', e1, e2, W6⟩ := e_note (F := F) 1 (nI h) m hq H5
    refine ⟨c', r', ?_, ?_, ws_tr (ws_tr W14 (ws_field hq H5 (by omega))) W6⟩
    · unfold f_X9_wed
      rw [a1, n_bind, d1, n_bind, a3, n_bind, e_get5 H3.2.1.1 hh h16, n_bind, e_put5 H3.2.1.1 hh h16, n_bind, ← hc4, if_pos rfl, n_let, H4'.2.1.2.1, e1, n_bind]
    · rw [eM, if_pos rfl, if_neg b_3, if_neg b_3, n_let, k_3, e2, n_bind]
  · have hm1 := li_m1 t (by omega)
    -- her dowry
    obtain ⟨_, _, ⟨t1, t2, t3⟩, _⟩ := H4'.2.1.2.2.2.2.2.2.2.2.2.2 t htn
    obtain ⟨q7, q8⟩ := upR t2 t3 m0 m9
    have H5 := wk_c2 hq H4' htn q7 q8
    have W5 := ws_cell hq H5 (by omega)
    obtain ⟨c5, hc5⟩ : ∃ x : nd_Mem, x = nd_up c4 sa (t * 6 + 2) (if r4 61 (55 + t) + m ≤ 9999 then r4 61 (55 + t) + m else 9999) := ⟨_, rfl⟩
    obtain ⟨r5, hr5⟩ : ∃ x : nd_Mem, x = nd_up r4 61 (55 + t) (if r4 61 (55 + t) + m ≤ 9999 then r4 61 (55 + t) + m else 9999) := ⟨_, rfl⟩
    rw [← hc5, ← hr5] at H5 W5
    -- the boy
    obtain ⟨_, ⟨u1, u2, u3⟩, _⟩ := H5.2.1.2.2.2.2.2.2.2.2.2.2 t htn
    have ub5 : 0 < r5 61 (23 + t) := by
      rw [hr5, u_ne2 (by omega), hr4, u_ne2 (by omega), u_ne2 (by omega), d6, u_ne2 (by omega)]
      exact hb t htn rfl
    obtain ⟨q9, q10, q11⟩ := dn9 ub5 u3
    have H6 := wk_c1 hq H5 htn q10 q11
    have W6 := ws_cell hq H6 (by omega)
    obtain ⟨c6, hc6⟩ : ∃ x : nd_Mem, x = nd_up c5 sa (t * 6 + 1) (r5 61 (23 + t) - 1) := ⟨_, rfl⟩
    obtain ⟨r6, hr6⟩ : ∃ x : nd_Mem, x = nd_up r5 61 (23 + t) (r5 61 (23 + t) - 1) := ⟨_, rfl⟩
    rw [← hc6, ← hr6] at H6 W6
    -- the couple
    obtain ⟨_, _, _, ⟨v1, v2, v3⟩, _⟩ := H6.2.1.2.2.2.2.2.2.2.2.2.2 t htn
    obtain ⟨q12, q13⟩ := up9 v2 v3
    have H7 := wk_c3 hq H6 htn q12 q13
    have W7 := ws_cell hq H7 (by omega)
    obtain ⟨c7, hc7⟩ : ∃ x : nd_Mem, x = nd_up c6 sa (t * 6 + 3) (if r6 61 (39 + t) + 1 ≤ 9 then r6 61 (39 + t) + 1 else 9) := ⟨_, rfl⟩
    obtain ⟨r7, hr7⟩ : ∃ x : nd_Mem, x = nd_up r6 61 (39 + t) (if r6 61 (39 + t) + 1 ≤ 9 then r6 61 (39 + t) + 1 else 9) := ⟨_, rfl⟩
    rw [← hc7, ← hr7] at H7 W7
    -- the wedding
    have H8 := wk_wed (v := r7 61 5 + 1) hq H7
    have W8 := ws_field hq H8 (by omega)
    obtain ⟨c8, hc8⟩ : ∃ x : nd_Mem, x = nd_up c7 st 5 (r7 61 5 + 1) := ⟨_, rfl⟩
    obtain ⟨r8, hr8⟩ : ∃ x : nd_Mem, x = nd_up r7 61 5 (r7 61 5 + 1) := ⟨_, rfl⟩
    rw [← hc8, ← hr8] at H8 W8
    have W18 := ws_tr (ws_tr (ws_tr (ws_tr W14 W5) W6) W7) W8
    have eC : f_X9_wed F b a st sa (nI h) (nI t) c = (if r2 61 (71 + h) - 1 = (-1 : Int32) then (f_X9_wed_135 F b a st sa (nI h) (nI t) m c8) else (nd_bind (f_X6_put F st sa (nI t) (5 : Int32) (r2 61 (71 + h) - 1) c8) fun r26 σ27 => (f_X9_wed_135 F b a st sa (nI h) (nI t) m σ27))) := by
      unfold f_X9_wed
      rw [a1, n_bind, d1, n_bind, a3, n_bind, e_get5 H3.2.1.1 hh h16, n_bind, e_put5 H3.2.1.1 hh h16, n_bind, ← hc4, if_neg hm1, e_addS2 H4'.2.1.1 htn h16, n_bind, t1, capR, ← hc5, e_addS1 H5.2.1.1 htn h16, n_bind, u1, q9, ← hc6, e_addS3 H6.2.1.1 htn h16, n_bind, v1, cap9, ← hc7, n_let, H7.2.1.2.2.2.1, ← hc8, l1]
    have eM2 : f_X11_girlGoes F (nI h) r = (if r2 61 (71 + h) ≤ 0 then (f_X11_girlGoes_182 F (nI h) (nI t) m r8) else (nd_let (nd_up r8 61 (71 + t) (r2 61 (71 + h))) fun σ19 => (f_X11_girlGoes_182 F (nI h) (nI t) m σ19))) := by
      rw [eM, if_neg hm1, e_rich (by omega), n_bind, ← hr5, i_23, if_neg (nI_in (by omega) (by decide)), if_neg (nI_in (by omega) (by decide)), nI_clamp (by omega), n_let, ← hr6, i_39, if_neg (nI_in (by omega) (by decide)), nI_clamp (by omega), e_lesser, n_bind, if_neg (nn_in (by omega) (by omega)), n_let, ← hr7, if_neg b_5, if_neg b_5, k_5, n_let, ← hr8, i_71, if_neg (nI_in (by omega) (by decide)), nI_clamp (by omega)]
    by_cases hl : r2 61 (71 + h) ≤ 0
    · have hl00 : r2 61 (71 + h) = 0 := Int32.le_antisymm hl l2
      have hl0 : r2 61 (71 + h) - 1 = -1 := by rw [hl00]; decide
      obtain ⟨c', r', e1, e2, W9⟩ := wd_tail (F := F) (x := m) hq H8 hh htn
      exact ⟨c', r', by rw [eC, if_pos hl0, e1], by rw [eM2, if_pos hl, e2], ws_tr W18 W9⟩
    · have hl0 : ¬ r2 61 (71 + h) - 1 = -1 := by
        intro e
        apply hl
        have : r2 61 (71 + h) = 0 := by
          have := congrArg (fun z => z + 1) e
          simpa using this
        rw [this]
        decide
      have H9 := wk_c5 (v := r2 61 (71 + h)) hq H8 htn l2 l3
      have W9 := ws_cell hq H9 (by omega)
      obtain ⟨c', r', e1, e2, W10⟩ := wd_tail (F := F) (x := m) hq H9 hh htn
      exact ⟨c', r', by rw [eC, if_neg hl0, e_put5 H8.2.1.1 htn h16, n_bind, e1], by rw [eM2, if_neg hl, n_let, e2], ws_tr (ws_tr W18 W9) W10⟩
end WD
