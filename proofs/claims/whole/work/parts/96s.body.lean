/-! text: lines of plans, feuds, sides -/
def pd_ (c r : nd_Mem) (H j : Nat) : Prop := c 45 (4 * j) = r 75 (64 + 4 * j) ∧ ∃ k who : Nat, k < 6 ∧ who < H ∧ c 45 (4 * j + 1) = nI (k + 1) ∧ r 75 (64 + 4 * j + 1) = nI k ∧ c 45 (4 * j + 2) = nI who ∧ r 75 (64 + 4 * j + 2) = nI who ∧ (k = 4 → c 45 (4 * j + 3) = r 75 (64 + 4 * j + 3) ∧ 1 ≤ r 75 (64 + 4 * j + 3) ∧ r 75 (64 + 4 * j + 3) ≤ 999)
def pl_I (H : Nat) (c r : nd_Mem) (l : Nat) : Prop := c 44 1 = nI (4 * l) ∧ c 38 6 = nI H ∧ r 60 6 = nI H ∧ ∀ j : Nat, j < l → pd_ c r H j
def fd_I (H : Nat) (c r : nd_Mem) (l : Nat) : Prop := c 39 4 = nI l ∧ c 38 6 = nI H ∧ r 60 6 = nI H ∧ ∀ h : Nat, h < 16 → ∃ m : Nat, m < 2 ^ H ∧ c 46 h = nI m ∧ r 76 (16 + h) = nI m
def sd_I (H : Nat) (c r : nd_Mem) (l : Nat) : Prop := c 39 6 = nI l ∧ c 38 6 = nI H ∧ r 60 6 = nI H ∧ ∃ m : Nat, m < 65536 ∧ c 39 5 = nI m ∧ ∀ h : Nat, h < 16 → r 77 (16 + h) = if m.testBit h = true then 1 else 0
theorem k1_ok : ∀ w : Fin 24, wjf_ w.val (kls_.getD 1 []) = if w.val = 17 then 0 else if w.val = 18 then 1 else if w.val = 19 then 2 else if w.val = 11 then 3 else if w.val = 21 then 4 else if w.val = 22 then 5 else if w.val = 14 then 6 else 7 := by decide +kernel
theorem k2_ok : ∀ w : Fin 24, wjf_ w.val (kls_.getD 2 []) = if w.val = 20 then 0 else if w.val = 23 then 1 else 2 := by decide +kernel
theorem k3_ok : ∀ w : Fin 24, wjf_ w.val (kls_.getD 3 []) = if w.val = 20 then 0 else if w.val = 13 then 1 else 2 := by decide +kernel
theorem k1_len : (kls_.getD 1 []).length = 7 := by decide +kernel
theorem k2_len : (kls_.getD 2 []).length = 2 := by decide +kernel
theorem k3_len : (kls_.getD 3 []).length = 2 := by decide +kernel
section BO
variable {F z p k H l : Nat} {c r : nd_Mem} {t : Nat → Nat}
theorem kx_1 (hb : ∀ i : Nat, i < z → t i < 256) (h : tk_ t z p = 2) : kx_ t z 1 p = if tv_ t z p = 17 then 0 else if tv_ t z p = 18 then 1 else if tv_ t z p = 19 then 2 else if tv_ t z p = 11 then 3 else if tv_ t z p = 21 then 4 else if tv_ t z p = 22 then 5 else if tv_ t z p = 14 then 6 else 7 := k1_ok ⟨tv_ t z p, (tv_b hb (by omega)).2.1 h⟩
theorem kx_2 (hb : ∀ i : Nat, i < z → t i < 256) (h : tk_ t z p = 2) : kx_ t z 2 p = if tv_ t z p = 20 then 0 else if tv_ t z p = 23 then 1 else 2 := k2_ok ⟨tv_ t z p, (tv_b hb (by omega)).2.1 h⟩
theorem kx_3 (hb : ∀ i : Nat, i < z → t i < 256) (h : tk_ t z p = 2) : kx_ t z 3 p = if tv_ t z p = 20 then 0 else if tv_ t z p = 13 then 1 else 2 := k3_ok ⟨tv_ t z p, (tv_b hb (by omega)).2.1 h⟩
theorem hs_le (hH : H ≤ 16) {v : Nat} (hv : v ≤ 9999) (h : ¬ (nI H - 1) < nI v) : v < H := by
  by_cases h0 : H = 0
  · subst h0
    exfalso
    apply h
    have : nI 0 - 1 = (-1 : Int32) := by decide
    rw [this]
    exact (by have := n_m1g (a := v) (by omega); rw [show (-nI 1 : Int32) = -1 from rfl] at this; rw [this]; trivial)
  · have e : nI H - (1 : Int32) = nI (H - 1) := n_sub (b := 1) (by omega)
    rw [e] at h
    have : ¬ (H - 1 < v) := fun q => h (nI_lt q (by omega))
    omega
theorem hs_l9 {v m : Nat} {y : Int32} (hy : y = nI m) (hm : m < 10000) (hv : v ≤ 9999) (h : ¬ y < nI v) : v ≤ m := by
  subst hy
  apply Classical.byContradiction
  intro hc
  exact h (nI_lt (by omega) (by omega))
theorem un_1 : ∀ v : Nat, v ≤ 9999 → nI v ≠ (-1 : Int32) := fun v hv => li_m1 v (by omega)
/-- the end of a line -/
theorem ls_mark (hF : 300000 ≤ F) (h : ps_k c r t z k p) : (∃ c' r' : nd_Mem, f_X3_readSign F 59 c = some (1, c') ∧ f_X11_readMark F 59 r = some (0, r') ∧ ps_k c' r' t z k (tn_ t z (tqe_ t z p)) ∧ p < tn_ t z (tqe_ t z p) ∧ fcr_ c c' ∧ frx_ r r') ∨ ∃ c' r' : nd_Mem, f_X3_readSign F 59 c = some (0, c') ∧ f_X11_readMark F 59 r = some (-1, r') ∧ c' 38 3 = r' 60 27 ∧ c' 38 4 = r' 60 28 ∧ fcr_ c c' ∧ frx_ r r' := by
  unfold f_X3_readSign f_X11_readMark
  rw [cs_s (y := (59 : Int32)) (x := 59) h.1 h.2.1 rfl (by decide), n_bind, ms_ (y := (59 : Int32)) (x := 59) h.2.2.1 h.2.2.2.1 rfl (by decide), n_bind]
  by_cases e : tk_ t z p = 4 ∧ tv_ t z p = 59
  · have hp : p < z := tk_lt (t := t) (by omega)
    obtain ⟨c', r', s1, s2, s3, s4, s5, s6, s7⟩ := mv_adv hF h hp 0
    rw [if_pos e, if_neg n10, if_neg n10, s1, n_bind, s2, n_bind]
    exact Or.inl ⟨c', r', rfl, rfl, s3, (nx_gt hp).1, fcr_k s6, frx_k s7⟩
  · obtain ⟨c', r', w1, w2, w3⟩ := mv_rf (F := F) (y := 1) h
    rw [if_neg e, if_pos rfl, if_pos rfl, w1, n_bind, if_neg (by decide), w2, n_bind]
    exact Or.inr ⟨c', r', rfl, rfl, w3⟩
/-- the reference puts down a number of its draft -/
theorem ps_y {i j : Nat} {v : Int32} (h : ps_k c r t z k p) (hi : i = 75 ∨ i = 76 ∨ i = 77) : ps_k c (nd_up r i j v) t z k p := ps_u h (by omega) (by omega) (by omega)
theorem fry_u {i j : Nat} {v : Int32} (h : (i = 75 ∧ 64 ≤ j) ∨ (i = 76 ∧ 16 ≤ j) ∨ (i = 77 ∧ 16 ≤ j)) : fry_ r (nd_up r i j v) := by
  refine ⟨⟨fun a ha _ => nd_up_ne (fun e => ha (by rw [e]; rcases h with ⟨rfl, _⟩ | ⟨rfl, _⟩ | ⟨rfl, _⟩ <;> decide)), fun b _ => u_ne1 (by omega)⟩, fun a _ => ⟨u_ne1 (by omega), u_ne1 (by omega)⟩, fun a ha => ?_, fun a ha => ⟨?_, ?_⟩⟩
  · by_cases e : 75 = i
    · exact u_ne2 (by omega)
    · exact u_ne1 e
  · by_cases e : 76 = i
    · exact u_ne2 (by omega)
    · exact u_ne1 e
  · by_cases e : 77 = i
    · exact u_ne2 (by omega)
    · exact u_ne1 e
theorem ps_cc {c' : nd_Mem} (h : ps_k c r t z k p) (h38 : c' 38 = c 38) (h47 : c' 47 = c 47 ∧ c' 48 = c 48 ∧ c' 49 = c 49 ∧ c' 50 = c 50) : ps_k c' r t z k p := by
  obtain ⟨⟨b1, b2, b3, b4, b5, b6⟩, a2, a3⟩ := h
  refine ⟨⟨b1, b2, by rw [h38]; exact b3, fun i hi => by rw [h47.1]; exact b4 i hi, by rw [h38]; exact b5, b6.1, by rw [h38]; exact b6.2.1, by rw [h38]; exact b6.2.2.1, car_c (by rw [h38]) h47.2.1 h47.2.2.1 h47.2.2.2 b6.2.2.2⟩, ?_, a3⟩
  unfold ctk_
  rw [h38]
  exact a2
/-- one feud -/
theorem b_feud (hF : 300000 ≤ F) (hH : H ≤ 16) (h : ps_k c r t z 2 p) (h2 : tk_ t z p = 2) (h20 : tv_ t z p = 20) (hi : fd_I H c r l) : yok_ F t z 2 (fd_I H) c r p l (lineC_ F 2 c) (f_X11_readFeud F r) := by
  have hp : p < z := tk_lt (t := t) (by omega)
  have hb := h.2.2.1
  obtain ⟨i1, i2, i3, i4⟩ := hi
  obtain ⟨c1, r1, s1, s2, s3, s4, s5, s6, s7⟩ := mv_adv hF h hp 0
  have hnx := nx_gt (t := t) hp
  have C1 := fcr_k s6
  have R1 := frx_k s7
  have e36 : ∀ c' : nd_Mem, fcr_ c c' → c' 38 6 = nI H := fun c' hc => by rw [hc.2 6 (by decide)]; exact i2
  have e57 : ∀ r' : nd_Mem, frx_ r r' → r' 60 6 = nI H := fun r' hr => by rw [hr.2 6 (by decide)]; exact i3
  unfold lineC_ bodyC_ f_X11_readFeud f_X11_readTold
  rw [s1, n_bind, if_neg (by decide), if_pos rfl, mw_ (y := (20 : Int32)) (x := 20) hb h.2.2.2.1 rfl (by decide), n_bind, if_pos (show tk_ t z p = 2 ∧ tv_ t z p = 20 from ⟨h2, h20⟩), if_neg n10, s2, n_bind, i3]
  unfold f_X3_readFeud f_X3_readFeud_27
  rw [e36 c1 C1]
  rcases ls_num (F := F) (la := (0 : Int32)) (lo := 0) (hi := nI H - 1) (un := -1) hF rfl (by decide) s3 un_1 with ⟨c2, r2, a1, a2, a3, a4, a5, a6, a7, a8, a9, a10⟩ | ⟨c2, r2, a1, a2, a3, a4, a5, a6⟩
  · have hwho := hs_le hH a3 a4
    have c18 : c1 38 12 = nI (tv_ t z (tn_ t z (tqe_ t z p))) := (s3.2.1.2.2.2.2.2.2.1 a1).2
    generalize hq1 : tn_ t z (tqe_ t z p) = p1 at *
    generalize hq2 : tn_ t z (tqe_ t z p1) = p2 at *
    have C2 := fcr_tr C1 a8
    have R2 := frx_tr R1 a9
    rw [a5, n_bind, if_neg n10, a6, n_bind, n_bind, if_neg (un_1 _ a3), mw_ (y := (23 : Int32)) (x := 23) a7.2.2.1 a7.2.2.2.1 rfl (by decide), n_bind, c18]
    unfold f_X3_readSecondWord
    rw [cs_w (y := (1 : Int32)) (x := 1) a7.1 a7.2.1 rfl (by rw [k2_len]; decide), n_bind]
    by_cases e23 : tk_ t z p2 = 2 ∧ tv_ t z p2 = 23
    · have hp2z : p2 < z := tk_lt (t := t) (by omega)
      have hnx2 := nx_gt (t := t) hp2z
      have hx : kx_ t z 2 p2 = 1 := by rw [kx_2 hb.2.1 e23.1, if_neg (by omega), if_pos e23.2]
      obtain ⟨c3, r3, u1, u2, u3, u4, u5, u6, u7⟩ := mv_adv hF a7 hp2z 0
      have C3 := fcr_tr C2 (fcr_k u6)
      have R3 := frx_tr R2 (frx_k u7)
      rw [if_pos e23, if_pos (show tk_ t z p2 = 2 ∧ kx_ t z 2 p2 = 1 from ⟨e23.1, hx⟩), if_neg n10, if_neg n10, u1, n_bind, n_bind, if_neg n10, u2, n_bind, e36 c3 C3]
      obtain ⟨q0, q2, q3, q1⟩ := ckd_ u3.2.1
      have hr3 := u3.2.2.2.1
      generalize hq3 : tn_ t z (tqe_ t z p2) = p3 at *
      by_cases hsame : tk_ t z p3 = 3 ∧ tv_ t z p3 = tv_ t z p1
      · have h12 : r3 60 12 = 3 := by rw [hr3.2.2.1, hsame.1]; rfl
        obtain ⟨c', r', w1, w2, w3, w4, w5, w6⟩ := mv_rf (F := F) (y := 2) u3
        have h13 : r3 60 13 = nI (tv_ t z p1) := by rw [hr3.2.2.2 (by omega), hsame.2]
        have hcn : f_X3_readNumber F 0 (nI H - 1) (nI (tv_ t z p1)) c3 = some (0, c') := by
          unfold f_X3_readNumber f_X3_readNumber_38
          rw [if_pos (q2.mpr hsame.1), (u3.2.1.2.2.2.2.2.2.1 hsame.1).2, hsame.2, if_pos (show nI (tv_ t z p1) = nI (tv_ t z p1) from rfl), w1, n_bind, if_neg (show ¬ ¬ ((0 : Int32) = 0 ∨ (0 : Int32) = 1) by decide), ite_self, ite_self]
        rw [if_pos h12, if_pos h13, w2, n_bind, hcn, n_bind, if_pos rfl, n_bind, if_pos rfl]
        exact Or.inr ⟨c', r', rfl, rfl, w3, w4, fcy_r (fcr_tr C3 w5), fry_r (frx_tr R3 w6)⟩
      · have hrest : (if r3 60 12 = 3 then (if r3 60 13 = nI (tv_ t z p1) then (nd_bind (f_X11_errs F 2 r3) fun r10 σ11 => some (r10, σ11)) else f_X11_readFeud_62 F (nI (tv_ t z p1)) r3) else f_X11_readFeud_62 F (nI (tv_ t z p1)) r3) = f_X11_readFeud_62 F (nI (tv_ t z p1)) r3 := by
          by_cases h12 : r3 60 12 = 3
          · have h3' : tk_ t z p3 = 3 := by
              rw [hr3.2.2.1] at h12
              exact (nI_eq (b := 3) (by have := tk_4 (t := t) (z := z) (p := p3); omega) (by decide)).mp h12
            have hv3 := (tv_b hb.2.1 (show 2 ≤ tk_ t z p3 by omega)).1
            rw [if_pos h12, hr3.2.2.2 (by omega), if_neg (fun e => hsame ⟨h3', (nI_eq (by omega) (by omega)).mp e⟩)]
          · rw [if_neg h12]
        rw [hrest]
        unfold f_X11_readFeud_62
        rw [e57 r3 R3]
        have hcx : f_X3_readNumber F 0 (nI H - 1) (nI (tv_ t z p1)) c3 = f_X3_readNumber F 0 (nI H - 1) (-1) c3 := by
          unfold f_X3_readNumber
          by_cases h3' : tk_ t z p3 = 3
          · have hv3 := (tv_b hb.2.1 (show 2 ≤ tk_ t z p3 by omega)).1
            rw [(u3.2.1.2.2.2.2.2.2.1 h3').2, if_neg (show ¬ nI (tv_ t z p3) = nI (tv_ t z p1) from fun e => hsame ⟨h3', (nI_eq (by omega) (by omega)).mp e⟩), if_neg (un_1 _ hv3)]
          · rw [if_neg (fun e => h3' (q2.mp e)), if_neg (fun e => h3' (q2.mp e))]
        rw [hcx]
        rcases ls_num (F := F) (la := (0 : Int32)) (lo := 0) (hi := nI H - 1) (un := -1) hF rfl (by decide) u3 un_1 with ⟨c4, r4, b1, b2, b3, b4, b5, b6, b7, b8, b9, b10⟩ | ⟨c4, r4, b1, b2, b3, b4, b5, b6⟩
        · have hwith := hs_le hH b3 b4
          have c38 : c3 38 12 = nI (tv_ t z p3) := (u3.2.1.2.2.2.2.2.2.1 b1).2
          have C4 := fcr_tr C3 b8
          have R4 := frx_tr R3 b9
          obtain ⟨m, m1, m2, m3⟩ := i4 (tv_ t z p1) (by omega)
          have c46 : c4 46 (tv_ t z p1) = nI m := by rw [C4.1 46 (by decide)]; exact m2
          have r73 : r4 76 (16 + tv_ t z p1) = nI m := by rw [R4.1 76 (List.not_mem_nil) (by decide)]; exact m3
          have e16 : (16 : Int32) + nI (tv_ t z p1) = nI (16 + tv_ t z p1) := n_add 16 _
          have h1w : (1 : Int32) <<< (nI (tv_ t z p3) &&& 31) = nI (2 ^ tv_ t z p3) := n_one (by omega)
          have hlt : m ||| 2 ^ tv_ t z p3 < 2 ^ H := Nat.or_lt_two_pow m1 (Nat.pow_lt_pow_right (by decide) hwith)
          have hadd : f_X5_addFeud F 39 (nI (tv_ t z p1)) (nI (tv_ t z p3)) c4 = some (0, nd_up (nd_up c4 46 (tv_ t z p1) (nI (m ||| 2 ^ tv_ t z p3))) 39 4 (nI (l + 1))) := by
            unfold f_X5_addFeud
            show (if nI (tv_ t z p1) < 0 then _ else (if (16 : Int32) ≤ nI (tv_ t z p1) then _ else (if nI (tv_ t z p1) < 0 ∨ 16 ≤ (nI (tv_ t z p1)).toNatClampNeg then none else (if nI (tv_ t z p1) < 0 ∨ 16 ≤ (nI (tv_ t z p1)).toNatClampNeg then none else (nd_let (nd_up c4 46 (nI (tv_ t z p1)).toNatClampNeg ((c4 46 (nI (tv_ t z p1)).toNatClampNeg) ||| ((1 : Int32) <<< (nI (tv_ t z p3) &&& 31)))) fun σ1 => (nd_let (nd_up σ1 39 4 ((σ1 39 4) + (1 : Int32))) fun σ2 => (some (0, σ2)))))))) = _
            rw [if_neg (nI_pos (by omega)), if_neg (show ¬ (16 : Int32) ≤ nI (tv_ t z p1) from nI_ge (b := 16) (by omega) (by decide)), if_neg (nI_in (by omega) (by decide)), if_neg (nI_in (by omega) (by decide)), nI_clamp (by omega), c46, h1w, n_or, n_let, u_ne1 (by decide), C4.1 39 (by decide), i1, nI_1, n_let]
          rw [b5, n_bind, if_neg n10, c38, hadd, n_bind, n_bind, if_neg n10, b6, n_bind, if_neg (un_1 _ b3), e16, if_neg (nI_in (by omega) (by decide)), if_neg (nI_in (by omega) (by decide)), nI_clamp (by omega), r73, h1w, n_or, n_let]
          have p5 : ps_k (nd_up (nd_up c4 46 (tv_ t z p1) (nI (m ||| 2 ^ tv_ t z p3))) 39 4 (nI (l + 1))) (nd_up r4 76 (16 + tv_ t z p1) (nI (m ||| 2 ^ tv_ t z p3))) t z 2 (tn_ t z (tqe_ t z p3)) := ps_y (ps_cc b7 (by rw [nd_up_ne (by decide), nd_up_ne (by decide)]) ⟨by rw [nd_up_ne (by decide), nd_up_ne (by decide)], by rw [nd_up_ne (by decide), nd_up_ne (by decide)], by rw [nd_up_ne (by decide), nd_up_ne (by decide)], by rw [nd_up_ne (by decide), nd_up_ne (by decide)]⟩) (Or.inr (Or.inl rfl))
          have C5 : fcy_ c (nd_up (nd_up c4 46 (tv_ t z p1) (nI (m ||| 2 ^ tv_ t z p3))) 39 4 (nI (l + 1))) := fcy_tr (fcy_r C4) ⟨fun i _ a2 _ _ a5 => by rw [nd_up_ne a2, nd_up_ne a5], fun j _ => by rw [u_ne1 (by decide), u_ne1 (by decide)]⟩
          have R5 : fry_ r (nd_up r4 76 (16 + tv_ t z p1) (nI (m ||| 2 ^ tv_ t z p3))) := fry_tr (fry_r R4) (fry_u (Or.inr (Or.inl ⟨rfl, by omega⟩)))
          have I5 : fd_I H (nd_up (nd_up c4 46 (tv_ t z p1) (nI (m ||| 2 ^ tv_ t z p3))) 39 4 (nI (l + 1))) (nd_up r4 76 (16 + tv_ t z p1) (nI (m ||| 2 ^ tv_ t z p3))) (l + 1) := by
            refine ⟨u_eq _ _ _ _, by rw [u_ne1 (by decide), u_ne1 (by decide)]; exact e36 c4 C4, by rw [u_ne1 (by decide)]; exact e57 r4 R4, fun h hh => ?_⟩
            by_cases hq : h = tv_ t z p1
            · rw [hq]
              exact ⟨_, hlt, by rw [u_ne1 (by decide), u_eq], u_eq _ _ _ _⟩
            · obtain ⟨m', x1, x2, x3⟩ := i4 h hh
              refine ⟨m', x1, ?_, ?_⟩
              · rw [u_ne1 (by decide), u_ne2 hq, C4.1 46 (by decide)]; exact x2
              · rw [u_ne2 (by omega), R4.1 76 (List.not_mem_nil) (by decide)]; exact x3
          rcases ls_mark (F := F) hF p5 with ⟨c6, r6, v1, v2, v3, v4, v5, v6⟩ | ⟨c6, r6, v1, v2, v3, v4, v5, v6⟩
          · rw [v1, n_bind, if_neg n10, v2, n_bind]
            refine Or.inl ⟨c6, r6, _, 0, rfl, rfl, by decide, v3, by omega, ?_, fcy_tr C5 (fcy_r v5), fry_tr R5 (fry_r v6)⟩
            obtain ⟨x1, x2, x3, x4⟩ := I5
            refine ⟨by rw [v5.1 39 (by decide)]; exact x1, by rw [v5.2 6 (by decide)]; exact x2, by rw [v6.2 6 (by decide)]; exact x3, fun h hh => ?_⟩
            rw [v5.1 46 (by decide), v6.1 76 (List.not_mem_nil) (by decide)]
            exact x4 h hh
          · rw [v1, n_bind, if_pos rfl, v2, n_bind]
            exact Or.inr ⟨c6, r6, rfl, rfl, v3, v4, fcy_tr C5 (fcy_r v5), fry_tr R5 (fry_r v6)⟩
        · rw [b1, n_bind, if_pos rfl, n_bind, if_pos rfl, b2, n_bind, if_pos rfl]
          exact Or.inr ⟨c4, r4, rfl, rfl, b3, b4, fcy_r (fcr_tr C3 b5), fry_r (frx_tr R3 b6)⟩
    · have hx : ¬ (tk_ t z p2 = 2 ∧ kx_ t z 2 p2 = 1) := fun e => by
        have := kx_2 hb.2.1 e.1
        rw [e.2] at this
        by_cases e20 : tv_ t z p2 = 20
        · rw [if_pos e20] at this; omega
        · rw [if_neg e20] at this
          by_cases e23' : tv_ t z p2 = 23
          · exact e23 ⟨e.1, e23'⟩
          · rw [if_neg e23'] at this; omega
      obtain ⟨c', r', w1, w2, w3, w4, w5, w6⟩ := mv_rf (F := F) (y := 1) a7
      rw [if_neg e23, if_neg hx, if_pos rfl, if_pos rfl, w1, n_bind, if_neg (by decide), n_bind, if_pos rfl, n_bind, if_pos rfl, w2, n_bind]
      exact Or.inr ⟨c', r', rfl, rfl, w3, w4, fcy_r (fcr_tr C2 w5), fry_r (frx_tr R2 w6)⟩
  · rw [a1, n_bind, if_pos rfl, n_bind, if_pos rfl, a2, n_bind, n_bind, if_pos rfl]
    exact Or.inr ⟨c2, r2, rfl, rfl, a3, a4, fcy_r (fcr_tr C1 a5), fry_r (frx_tr R1 a6)⟩
end BO
