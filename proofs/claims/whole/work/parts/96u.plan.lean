/-! text: a line of plans -/
section PN
variable {F z p k H l : Nat} {c r : nd_Mem} {t : Nat → Nat}
theorem c_addP2 {w a b e : Int32} (h : c 44 1 = nI (4 * l)) (hl : l < 16) : ∃ c' : nd_Mem, f_X5_addPlan F 39 w a b e c = some (0, c') ∧ c' 44 1 = nI (4 * (l + 1)) ∧ (c' 45 (4 * l) = w ∧ c' 45 (4 * l + 1) = a ∧ c' 45 (4 * l + 2) = b ∧ c' 45 (4 * l + 3) = e) ∧ (∀ i : Nat, i < 4 * l → c' 45 i = c 45 i) ∧ ∀ i : Nat, i ≠ 44 → i ≠ 45 → c' i = c i := by
  refine ⟨nd_up (nd_up (nd_up (nd_up (nd_up (nd_up (nd_up (nd_up c 45 (4 * l) w) 44 1 (nI (4 * l + 1))) 45 (4 * l + 1) a) 44 1 (nI (4 * l + 1 + 1))) 45 (4 * l + 1 + 1) b) 44 1 (nI (4 * l + 1 + 1 + 1))) 45 (4 * l + 1 + 1 + 1) e) 44 1 (nI (4 * l + 1 + 1 + 1 + 1)), ?_, ?_, ⟨?_, ?_, ?_, ?_⟩, fun i hi => ?_, fun i h1 h2 => ?_⟩
  · unfold f_X5_addPlan
    show nd_bind (f_X4_add F 44 45 64 w c) _ = _
    rw [e_add (by decide) h (by decide) (by omega), n_bind]
    show nd_bind (f_X4_add F 44 45 64 a _) _ = _
    rw [e_add (n := 4 * l + 1) (by decide) (u_eq _ _ _ _) (by decide) (by omega), n_bind]
    show nd_bind (f_X4_add F 44 45 64 b _) _ = _
    rw [e_add (n := 4 * l + 1 + 1) (by decide) (u_eq _ _ _ _) (by decide) (by omega), n_bind]
    show nd_bind (f_X4_add F 44 45 64 e _) _ = _
    rw [e_add (n := 4 * l + 1 + 1 + 1) (by decide) (u_eq _ _ _ _) (by decide) (by omega), n_bind]
  · rw [u_eq]; rfl
  · rw [u_ne1 (by decide), u_ne2 (by omega), u_ne1 (by decide), u_ne2 (by omega), u_ne1 (by decide), u_ne2 (by omega), u_ne1 (by decide), u_eq]
  · rw [u_ne1 (by decide), u_ne2 (by omega), u_ne1 (by decide), u_ne2 (by omega), u_ne1 (by decide), u_eq]
  · show _ = b
    rw [u_ne1 (by decide), u_ne2 (by omega), u_ne1 (by decide)]
    exact u_eq _ _ _ _
  · rw [u_ne1 (by decide)]
    exact u_eq _ _ _ _
  · rw [u_ne1 (by decide), u_ne2 (by omega), u_ne1 (by decide), u_ne2 (by omega), u_ne1 (by decide), u_ne2 (by omega), u_ne1 (by decide), u_ne2 (by omega)]
  · rw [nd_up_ne h1, nd_up_ne h2, nd_up_ne h1, nd_up_ne h2, nd_up_ne h1, nd_up_ne h2, nd_up_ne h1, nd_up_ne h2]
theorem m_kind (h : ps_k c r t z 1 p) : f_X11_kindOfDeed F r = some (if tk_ t z p = 2 ∧ kx_ t z 1 p ≠ 0 ∧ kx_ t z 1 p < 7 then nI (kx_ t z 1 p - 1) else -1, r) := by
  have hb := h.2.2.1
  have hr := h.2.2.2.1
  unfold f_X11_kindOfDeed
  rw [mw_ (y := (18 : Int32)) (x := 18) hb hr rfl (by decide), n_bind, mw_ (y := (19 : Int32)) (x := 19) hb hr rfl (by decide), n_bind, mw_ (y := (11 : Int32)) (x := 11) hb hr rfl (by decide), n_bind, mw_ (y := (21 : Int32)) (x := 21) hb hr rfl (by decide), n_bind, mw_ (y := (22 : Int32)) (x := 22) hb hr rfl (by decide), n_bind, mw_ (y := (14 : Int32)) (x := 14) hb hr rfl (by decide), n_bind]
  by_cases h2 : tk_ t z p = 2
  · rw [kx_1 hb.2.1 h2, h2]
    generalize tv_ t z p = w
    by_cases e18 : w = 18
    · subst e18; rfl
    · by_cases e19 : w = 19
      · subst e19; rfl
      · by_cases e11 : w = 11
        · subst e11; rfl
        · by_cases e21 : w = 21
          · subst e21; rfl
          · by_cases e22 : w = 22
            · subst e22; rfl
            · by_cases e14 : w = 14
              · subst e14; rfl
              · by_cases e17 : w = 17
                · subst e17; rfl
                · simp [e18, e19, e11, e21, e22, e14, e17]
  · simp [h2]
theorem b_plan (hF : 300000 ≤ F) (hH : H ≤ 16) (h : ps_k c r t z 1 p) (h2 : tk_ t z p = 2) (h17 : tv_ t z p = 17) (hi : pl_I H c r l) (hl : l < 16) : yok_ F t z 1 (pl_I H) c r p l (lineC_ F 1 c) (f_X11_readDeed F (nI (64 + 4 * l)) r) := by
  have hp : p < z := tk_lt (t := t) (by omega)
  have hb := h.2.2.1
  obtain ⟨i1, i2, i3, i4⟩ := hi
  obtain ⟨c1, r1, s1, s2, s3, s4, s5, s6, s7⟩ := mv_adv hF h hp 0
  have hnx := nx_gt (t := t) hp
  have C1 := fcr_k s6
  have R1 := fry_r (frx_k s7)
  have e36 : ∀ c' : nd_Mem, fcr_ c c' → c' 38 6 = nI H := fun c' hc => by rw [hc.2 6 (by decide)]; exact i2
  have e57 : ∀ r' : nd_Mem, fry_ r r' → r' 60 6 = nI H := fun r' hr => by rw [hr.1.2 6 (by decide)]; exact i3
  have x1e : nI (64 + 4 * l) + (1 : Int32) = nI (64 + 4 * l + 1) := nI_1 _
  have x2e : nI (64 + 4 * l) + (2 : Int32) = nI (64 + 4 * l + 2) := n_add _ 2
  have x3e : nI (64 + 4 * l) + (3 : Int32) = nI (64 + 4 * l + 3) := n_add _ 3
  unfold lineC_ bodyC_ f_X11_readDeed f_X11_readTold
  rw [s1, n_bind, if_pos rfl, mw_ (y := (17 : Int32)) (x := 17) hb h.2.2.2.1 rfl (by decide), n_bind, if_pos (show tk_ t z p = 2 ∧ tv_ t z p = 17 from ⟨h2, h17⟩), if_neg n10, s2, n_bind]
  unfold f_X3_readPlan
  rcases ls_num (F := F) (la := (0 : Int32)) (lo := 0) (hi := 999) (un := -1) hF rfl (by decide) s3 un_1 with ⟨c2, r2, a1, a2, a3, a4, a5, a6, a7, a8, a9, a10⟩ | ⟨c2, r2, a1, a2, a3, a4, a5, a6⟩
  · have c18 : c1 38 12 = nI (tv_ t z (tn_ t z (tqe_ t z p))) := (s3.2.1.2.2.2.2.2.2.1 a1).2
    generalize hq1 : tn_ t z (tqe_ t z p) = p1 at *
    generalize hq2 : tn_ t z (tqe_ t z p1) = p2 at *
    have C2 := fcr_tr C1 a8
    have R2 : fry_ r (nd_up r2 75 (64 + 4 * l) (nI (tv_ t z p1))) := fry_tr R1 (fry_tr (fry_r a9) (fry_u (Or.inl ⟨rfl, by omega⟩)))
    have P2 := ps_y (i := 75) (j := 64 + 4 * l) (v := nI (tv_ t z p1)) a7 (Or.inl rfl)
    rw [a5, n_bind, if_neg n10, a6, n_bind, n_bind, if_neg (nI_in (by omega) (by decide)), nI_clamp (by omega), n_let, if_neg (nn_in (by omega) (by omega)), u_eq, if_neg (un_1 _ a3), m_kind P2, n_bind]
    obtain ⟨q0, q2, q3, q1⟩ := ckd_ a7.2.1
    by_cases hwd : tk_ t z p2 = 2 ∧ kx_ t z 1 p2 ≠ 0 ∧ kx_ t z 1 p2 < 7
    · have hp2z : p2 < z := tk_lt (t := t) (by omega)
      have hnx2 := nx_gt (t := t) hp2z
      have hin : kx_ t z 1 p2 < (kls_.getD 1 []).length := by rw [k1_len]; exact hwd.2.2
      obtain ⟨c7, c8⟩ := a7.2.1.2.2.2.2.1 hwd.1 hin
      obtain ⟨c3, r3, u1, u2, u3, u4, u5, u6, u7⟩ := mv_adv hF P2 hp2z 0
      have C3 := fcr_tr C2 (fcr_k u6)
      have R3 : fry_ r (nd_up r3 75 (64 + 4 * l + 1) (nI (kx_ t z 1 p2 - 1))) := fry_tr R2 (fry_tr (fry_r (frx_k u7)) (fry_u (Or.inl ⟨rfl, by omega⟩)))
      have P3 := ps_y (i := 75) (j := 64 + 4 * l + 1) (v := nI (kx_ t z 1 p2 - 1)) u3 (Or.inl rfl)
      generalize hq3 : tn_ t z (tqe_ t z p2) = p3 at *
      generalize hwk : kx_ t z 1 p2 = kx at *
      rw [if_pos c7, c8, if_neg (show ¬ nI kx = (0 : Int32) from fun e => hwd.2.1 ((nI_eq (b := 0) (by omega) (by decide)).mp e)), u1, n_bind, e36 c3 C3, if_pos hwd, if_neg (un_1 _ (by omega)), u2, n_bind, x1e, if_neg (nI_in (by omega) (by decide)), nI_clamp (by omega), n_let, e57 _ R3]
      rcases ls_num (F := F) (la := (0 : Int32)) (lo := 0) (hi := nI H - 1) (un := -1) hF rfl (by decide) P3 un_1 with ⟨c4, r4, b1, b2, b3, b4, b5, b6, b7, b8, b9, b10⟩ | ⟨c4, r4, b1, b2, b3, b4, b5, b6⟩
      · have hwho := hs_le hH b3 b4
        have c38 : c3 38 12 = nI (tv_ t z p3) := (P3.2.1.2.2.2.2.2.2.1 b1).2
        have C4 := fcr_tr C3 b8
        have R4 : fry_ r (nd_up r4 75 (64 + 4 * l + 2) (nI (tv_ t z p3))) := fry_tr R3 (fry_tr (fry_r b9) (fry_u (Or.inl ⟨rfl, by omega⟩)))
        have P4 := ps_y (i := 75) (j := 64 + 4 * l + 2) (v := nI (tv_ t z p3)) b7 (Or.inl rfl)
        generalize hq4 : tn_ t z (tqe_ t z p3) = p4 at *
        rw [b5, n_bind, if_neg n10, c38, b6, n_bind, x2e, if_neg (nI_in (by omega) (by decide)), nI_clamp (by omega), n_let, if_neg (nn_in (by omega) (by omega)), u_eq, if_neg (un_1 _ b3)]
        have v72 : ∀ (r5 : nd_Mem), frx_ (nd_up r4 75 (64 + 4 * l + 2) (nI (tv_ t z p3))) r5 → r5 75 (64 + 4 * l) = nI (tv_ t z p1) ∧ r5 75 (64 + 4 * l + 1) = nI (kx - 1) ∧ r5 75 (64 + 4 * l + 2) = nI (tv_ t z p3) ∧ ∀ i : Nat, i < 64 + 4 * l → r5 75 i = r 75 i := fun r5 hr5 => by
          have z5 : r5 75 = nd_up r4 75 (64 + 4 * l + 2) (nI (tv_ t z p3)) 75 := hr5.1 75 (List.not_mem_nil) (by decide)
          have z4 : r4 75 = nd_up r3 75 (64 + 4 * l + 1) (nI (kx - 1)) 75 := b9.1 75 (List.not_mem_nil) (by decide)
          have z3 : r3 75 = nd_up r2 75 (64 + 4 * l) (nI (tv_ t z p1)) 75 := u7.1 75 (List.not_mem_nil) (by decide)
          have z2 : r2 75 = r 75 := (a9.1 75 (List.not_mem_nil) (by decide)).trans (s7.1 75 (List.not_mem_nil) (by decide))
          refine ⟨?_, ?_, ?_, fun i hi => ?_⟩
          · rw [z5, u_ne2 (by omega), z4, u_ne2 (by omega), z3, u_eq]
          · rw [z5, u_ne2 (by omega), z4, u_eq]
          · rw [z5, u_eq]
          · rw [z5, u_ne2 (by omega), z4, u_ne2 (by omega), z3, u_ne2 (by omega), z2]
        have fin : ∀ (c5 r5 : nd_Mem) (p5 : Nat) (n4 : Int32) (v : Int32), ps_k c5 r5 t z 1 p5 → p < p5 → fcr_ c c5 → frx_ (nd_up r4 75 (64 + 4 * l + 2) (nI (tv_ t z p3))) r5 → v ≠ -1 → (kx = 5 → n4 = v ∧ 1 ≤ v ∧ v ≤ 999) → yok_ F t z 1 (pl_I H) c r p l (nd_bind (f_X3_readPlan_93 F (nI (tv_ t z p1)) (nI kx) (nI (tv_ t z p3)) n4 c5) fun r5 σ6 => if r5 = 0 then some (0, σ6) else nd_bind (f_X3_readSign F 59 σ6) fun r8 σ9 => if r8 = 0 then some (0, σ9) else some (1, σ9)) (f_X11_readDeed_114 F (nI (64 + 4 * l)) v (nI (64 + 4 * l + 3)) r5) := by
          intro c5 r5 p5 n4 v g1 g2 g3 g4 g5 g6
          obtain ⟨c6, j1, j2, j3, j4, j5⟩ := c_addP2 (F := F) (c := c5) (w := nI (tv_ t z p1)) (a := nI kx) (b := nI (tv_ t z p3)) (e := n4) (l := l) (by rw [g3.1 44 (by decide)]; exact i1) hl
          unfold f_X3_readPlan_93 f_X11_readDeed_114
          rw [j1, n_bind, n_bind, if_neg n10, if_neg (nI_in (by omega) (by decide)), nI_clamp (by omega), n_let, x3e, if_neg (nI_in (by omega) (by decide)), nI_clamp (by omega), u_eq, if_neg g5]
          obtain ⟨y0, y1, y2, y3⟩ := v72 r5 g4
          have p6 := ps_y (i := 75) (j := 64 + 4 * l + 3) (v := v) (ps_cc g1 (j5 38 (by decide) (by decide)) ⟨j5 47 (by decide) (by decide), j5 48 (by decide) (by decide), j5 49 (by decide) (by decide), j5 50 (by decide) (by decide)⟩) (Or.inl rfl)
          have C6 : fcy_ c c6 := fcy_tr (fcy_r g3) ⟨fun i _ _ a3 a4 _ => j5 i a3 a4, fun j _ => by rw [j5 38 (by decide) (by decide)]⟩
          have R6 : fry_ r (nd_up r5 75 (64 + 4 * l + 3) v) := fry_tr R4 (fry_tr (fry_r g4) (fry_u (Or.inl ⟨rfl, by omega⟩)))
          have I6 : pl_I H c6 (nd_up r5 75 (64 + 4 * l + 3) v) (l + 1) := by
            refine ⟨j2, by rw [j5 38 (by decide) (by decide)]; exact e36 c5 g3, e57 _ R6, fun j hj => ?_⟩
            by_cases hjl : j = l
            · rw [hjl]
              refine ⟨?_, kx - 1, tv_ t z p3, by omega, hwho, ?_, ?_, j3.2.2.1, ?_, fun hk4 => ?_⟩
              · rw [j3.1, u_ne2 (by omega), y0]
              · rw [j3.2.1, show kx - 1 + 1 = kx by omega]
              · rw [u_ne2 (by omega), y1]
              · rw [u_ne2 (by omega), y2]
              · obtain ⟨m1, m2, m3⟩ := g6 (by omega)
                rw [u_eq, j3.2.2.2]
                exact ⟨m1, m2, m3⟩
            · obtain ⟨d0, kk, wh, d1, d2, d3, d4, d5, d6, d7⟩ := i4 j (by omega)
              have cc : ∀ i : Nat, i < 4 * l → c6 45 i = c 45 i := fun i hi => by rw [j4 i hi, g3.1 45 (by decide)]
              have rr : ∀ i : Nat, i < 64 + 4 * l → nd_up r5 75 (64 + 4 * l + 3) v 75 i = r 75 i := fun i hi => by rw [u_ne2 (by omega), y3 i hi]
              refine ⟨by rw [cc _ (by omega), rr _ (by omega)]; exact d0, kk, wh, d1, d2, by rw [cc _ (by omega)]; exact d3, by rw [rr _ (by omega)]; exact d4, by rw [cc _ (by omega)]; exact d5, by rw [rr _ (by omega)]; exact d6, fun hk4 => ?_⟩
              rw [cc _ (by omega), rr _ (by omega)]
              exact d7 hk4
          rcases ls_mark (F := F) hF p6 with ⟨c7', r7, v1, v2, v3, v4, v5, v6⟩ | ⟨c7', r7, v1, v2, v3, v4, v5, v6⟩
          · rw [v1, n_bind, if_neg n10, v2, n_bind]
            refine Or.inl ⟨c7', r7, _, 0, rfl, rfl, by decide, v3, by omega, ?_, fcy_tr C6 (fcy_r v5), fry_tr R6 (fry_r v6)⟩
            obtain ⟨w1, w2, w3, w4⟩ := I6
            refine ⟨by rw [v5.1 44 (by decide)]; exact w1, by rw [v5.2 6 (by decide)]; exact w2, by rw [v6.2 6 (by decide)]; exact w3, fun j hj => ?_⟩
            have z1 := v5.1 45 (by decide)
            have z2 := v6.1 75 (List.not_mem_nil) (by decide)
            unfold pd_
            rw [z1, z2]
            exact w4 j hj
          · rw [v1, n_bind, if_pos rfl, v2, n_bind]
            exact Or.inr ⟨c7', r7, rfl, rfl, v3, v4, fcy_tr C6 (fcy_r v5), fry_tr R6 (fry_r v6)⟩
        by_cases h5 : kx = 5
        · have hn5 : nI kx = (5 : Int32) := by rw [h5]; rfl
          have hn4 : nI (kx - 1) = (4 : Int32) := by rw [h5]; rfl
          rw [if_pos hn5, if_pos hn4]
          rcases ls_num (F := F) (la := (1 : Int32)) (lo := 1) (hi := 999) (un := -1) hF rfl (by decide) P4 un_1 with ⟨c5, r5, g1, g2, g3, g4, g5, g6, g7, g8, g9, g10⟩ | ⟨c5, r5, g1, g2, g3, g4, g5, g6⟩
          · have c48 : c4 38 12 = nI (tv_ t z p4) := (P4.2.1.2.2.2.2.2.2.1 g1).2
            have h999 := hs_l9 (m := 999) rfl (by decide) g3 g4
            rw [g5, n_bind, if_neg n10, c48, c18, g6, n_bind, x3e]
            exact fin c5 r5 _ _ _ g7 (by omega) (fcr_tr C4 g8) g9 (un_1 _ g3) (fun _ => ⟨rfl, show (1 : Int32) ≤ nI (tv_ t z p4) from nI_le (a := 1) g2 (by omega), show nI (tv_ t z p4) ≤ (999 : Int32) from nI_le (b := 999) h999 (by decide)⟩)
          · unfold f_X11_readDeed_114
            rw [g1, n_bind, if_pos rfl, n_bind, if_pos rfl, g2, n_bind, x3e, if_neg (nI_in (by omega) (by decide)), nI_clamp (by omega), n_let, if_neg (nn_in (by omega) (by omega)), u_eq, if_pos rfl]
            exact Or.inr ⟨c5, _, rfl, rfl, by rw [u_ne1 (by decide)]; exact g3, by rw [u_ne1 (by decide)]; exact g4, fcy_r (fcr_tr C4 g5), fry_tr R4 (fry_tr (fry_r g6) (fry_u (Or.inl ⟨rfl, by omega⟩)))⟩
        · have hn5 : ¬ nI kx = (5 : Int32) := fun e => h5 ((nI_eq (b := 5) (by omega) (by decide)).mp e)
          have hn4 : ¬ nI (kx - 1) = (4 : Int32) := fun e => by have := (nI_eq (b := 4) (by omega) (by decide)).mp e; omega
          rw [if_neg hn5, if_neg hn4, c18, x3e]
          exact fin c4 _ p4 _ 0 P4 (by omega) C4 fr_rf (by decide) (fun e => absurd e h5)
      · rw [b1, n_bind, if_pos rfl, n_bind, if_pos rfl, b2, n_bind, x2e, if_neg (nI_in (by omega) (by decide)), nI_clamp (by omega), n_let, if_neg (nn_in (by omega) (by omega)), u_eq, if_pos rfl]
        exact Or.inr ⟨c4, _, rfl, rfl, by rw [u_ne1 (by decide)]; exact b3, by rw [u_ne1 (by decide)]; exact b4, fcy_r (fcr_tr C3 b5), fry_tr R3 (fry_tr (fry_r b6) (fry_u (Or.inl ⟨rfl, by omega⟩)))⟩
    · obtain ⟨c', r', w1, w2, w3, w4, w5, w6⟩ := mv_rf (F := F) (y := 1) P2
      rw [if_neg hwd, if_pos rfl, w2, n_bind]
      unfold f_X3_readPlan_36
      have hcf : (if c2 38 11 = (1 : Int32) then (if c2 38 12 = 0 then (nd_bind (f_X3_refuse F (1 : Int32) c2) fun r1 σ2 => (if ¬ (r1 = 0 ∨ r1 = 1) then none else (some (r1, σ2)))) else (nd_bind (f_X3_advance F c2) fun r4 σ5 => (nd_bind (f_X3_readNumber F (0 : Int32) ((σ5 38 6) - (1 : Int32)) (-1 : Int32) σ5) fun r7 σ8 => (if r7 = 0 then (some ((0 : Int32), σ8)) else (if c2 38 12 = (5 : Int32) then (nd_bind (f_X3_readNumber F (1 : Int32) (999 : Int32) (-1 : Int32) σ8) fun r10 σ11 => (if r10 = 0 then (some ((0 : Int32), σ11)) else (f_X3_readPlan_93 F (c1 38 12) (c2 38 12) (σ5 38 12) (σ8 38 12) σ11))) else (f_X3_readPlan_93 F (c1 38 12) (c2 38 12) (σ5 38 12) (σ8 38 12) σ8)))))) else (nd_bind (f_X3_refuse F (1 : Int32) c2) fun r1 σ2 => (if ¬ (r1 = 0 ∨ r1 = 1) then none else (some (r1, σ2))))) = some (0, c') := by
        by_cases hk1 : c2 38 11 = 1
        · obtain ⟨e1, e2⟩ := q1.mp hk1
          have e2' : kx_ t z 1 p2 < 7 := by rw [k1_len] at e2; exact e2
          have e0 : kx_ t z 1 p2 = 0 := Classical.byContradiction (fun hne => hwd ⟨e1, hne, e2'⟩)
          rw [if_pos hk1, (a7.2.1.2.2.2.2.1 e1 e2).2, e0, if_pos (show nI 0 = (0 : Int32) from rfl), w1, n_bind, if_neg (by decide)]
        · rw [if_neg hk1, w1, n_bind, if_neg (by decide)]
      rw [hcf, n_bind, if_pos rfl]
      exact Or.inr ⟨c', r', rfl, rfl, w3, w4, fcy_r (fcr_tr C2 w5), fry_tr R2 (fry_r w6)⟩
  · rw [a1, n_bind, if_pos rfl, n_bind, if_pos rfl, a2, n_bind, n_bind, if_neg (nI_in (by omega) (by decide)), nI_clamp (by omega), n_let, if_neg (nn_in (by omega) (by omega)), u_eq, if_pos rfl]
    exact Or.inr ⟨c2, _, rfl, rfl, by rw [u_ne1 (by decide)]; exact a3, by rw [u_ne1 (by decide)]; exact a4, fcy_r (fcr_tr C1 a5), fry_tr R1 (fry_tr (fry_r a6) (fry_u (Or.inl ⟨rfl, by omega⟩)))⟩
end PN
