/-! text: a line of sides -/
section SI
variable {F z p k H l : Nat} {c r : nd_Mem} {t : Nat → Nat}
theorem b_side (hF : 300000 ≤ F) (hH : H ≤ 16) (h : ps_k c r t z 3 p) (h2 : tk_ t z p = 2) (h20 : tv_ t z p = 20) (hi : sd_I H c r l) : yok_ F t z 3 (sd_I H) c r p l (lineC_ F 3 c) (f_X11_readSide F r) := by
  have hp : p < z := tk_lt (t := t) (by omega)
  have hb := h.2.2.1
  obtain ⟨i1, i2, i3, m, m1, m2, m3⟩ := hi
  obtain ⟨c1, r1, s1, s2, s3, s4, s5, s6, s7⟩ := mv_adv hF h hp 0
  have hnx := nx_gt (t := t) hp
  have C1 := fcr_k s6
  have R1 := frx_k s7
  have e36 : ∀ c' : nd_Mem, fcr_ c c' → c' 38 6 = nI H := fun c' hc => by rw [hc.2 6 (by decide)]; exact i2
  have e57 : ∀ r' : nd_Mem, frx_ r r' → r' 60 6 = nI H := fun r' hr => by rw [hr.2 6 (by decide)]; exact i3
  unfold lineC_ bodyC_ f_X11_readSide f_X11_readTold
  rw [s1, n_bind, if_neg (by decide), if_neg (by decide), mw_ (y := (20 : Int32)) (x := 20) hb h.2.2.2.1 rfl (by decide), n_bind, if_pos (show tk_ t z p = 2 ∧ tv_ t z p = 20 from ⟨h2, h20⟩), if_neg n10, s2, n_bind, i3]
  unfold f_X3_readSide f_X3_readSide_27
  rw [e36 c1 C1]
  rcases ls_num (F := F) (la := (0 : Int32)) (lo := 0) (hi := nI H - 1) (un := -1) hF rfl (by decide) s3 un_1 with ⟨c2, r2, a1, a2, a3, a4, a5, a6, a7, a8, a9, a10⟩ | ⟨c2, r2, a1, a2, a3, a4, a5, a6⟩
  · have hwho := hs_le hH a3 a4
    have c18 : c1 38 12 = nI (tv_ t z (tn_ t z (tqe_ t z p))) := (s3.2.1.2.2.2.2.2.2.1 a1).2
    generalize hq1 : tn_ t z (tqe_ t z p) = p1 at *
    generalize hq2 : tn_ t z (tqe_ t z p1) = p2 at *
    have C2 := fcr_tr C1 a8
    have R2 := frx_tr R1 a9
    rw [a5, n_bind, if_neg n10, a6, n_bind, n_bind, if_neg (un_1 _ a3), mw_ (y := (13 : Int32)) (x := 13) a7.2.2.1 a7.2.2.2.1 rfl (by decide), n_bind, c18]
    unfold f_X3_readSecondWord
    rw [cs_w (y := (1 : Int32)) (x := 1) a7.1 a7.2.1 rfl (by rw [k3_len]; decide), n_bind]
    by_cases e13 : tk_ t z p2 = 2 ∧ tv_ t z p2 = 13
    · have hp2z : p2 < z := tk_lt (t := t) (by omega)
      have hnx2 := nx_gt (t := t) hp2z
      have hx : kx_ t z 3 p2 = 1 := by rw [kx_3 hb.2.1 e13.1, if_neg (by omega), if_pos e13.2]
      obtain ⟨c3, r3, u1, u2, u3, u4, u5, u6, u7⟩ := mv_adv hF a7 hp2z 0
      have C3 := fcr_tr C2 (fcr_k u6)
      have R3 := frx_tr R2 (frx_k u7)
      rw [if_pos e13, if_pos (show tk_ t z p2 = 2 ∧ kx_ t z 3 p2 = 1 from ⟨e13.1, hx⟩), if_neg n10, if_neg n10, u1, n_bind, n_bind, if_neg n10, u2, n_bind]
      generalize hq3 : tn_ t z (tqe_ t z p2) = p3 at *
      rcases ls_num (F := F) (la := (0 : Int32)) (lo := 0) (hi := 1) (un := -1) hF rfl (by decide) u3 un_1 with ⟨c4, r4, b1, b2, b3, b4, b5, b6, b7, b8, b9, b10⟩ | ⟨c4, r4, b1, b2, b3, b4, b5, b6⟩
      · have hv1 := hs_l9 (m := 1) rfl (by decide) b3 b4
        have c38 : c3 38 12 = nI (tv_ t z p3) := (u3.2.1.2.2.2.2.2.2.1 b1).2
        have C4 := fcr_tr C3 b8
        have R4 := frx_tr R3 b9
        generalize hwn : tv_ t z p1 = who at *
        generalize hvn : tv_ t z p3 = v at *
        have e16 : (16 : Int32) + nI who = nI (16 + who) := n_add 16 _
        have h1w : (1 : Int32) <<< (nI who &&& 31) = nI (2 ^ who) := n_one (by omega)
        have hvw : nI v <<< (nI who &&& 31) = nI (v <<< who) := by rw [show nI who &&& 31 = nI who from n_31 (by omega), n_shl (by omega)]
        have hadd : f_X5_addSide F 39 (nI who) (nI v) c4 = some (0, nd_up (nd_up (nd_up c4 39 5 (nI (m &&& (2 ^ who ^^^ 4294967295)))) 39 5 (nI ((m &&& (2 ^ who ^^^ 4294967295)) ||| (v <<< who)))) 39 6 (nI (l + 1))) := by
          unfold f_X5_addSide
          rw [C4.1 39 (by decide), m2, h1w, m1_, n_xor, n_and, n_let, u_eq, hvw, n_or, n_let, u_ne2 (by decide), u_ne2 (by decide), C4.1 39 (by decide), i1, nI_1, n_let]
        rw [b5, n_bind, if_neg n10, c38, hadd, n_bind, n_bind, if_neg n10, b6, n_bind, n_bind, if_neg (un_1 _ b3), e16, if_neg (nI_in (by omega) (by decide)), nI_clamp (by omega), n_let]
        have hp16 : 2 ^ who < 65536 := (Nat.pow_lt_pow_right (by decide) (by omega) : 2 ^ who < 2 ^ 16)
        have hvs : v <<< who < 65536 ∧ ∀ h : Nat, (v <<< who).testBit h = (decide (who = h) && decide (v = 1)) := by
          by_cases h0 : v = 0
          · subst h0
            rw [Nat.zero_shiftLeft]
            exact ⟨by omega, fun h => by rw [Nat.zero_testBit, decide_eq_false (by decide : ¬ (0 : Nat) = 1), Bool.and_false]⟩
          · have hv' : v = 1 := by omega
            subst hv'
            rw [Nat.one_shiftLeft]
            exact ⟨hp16, fun h => by rw [Nat.testBit_two_pow, decide_eq_true (rfl : (1 : Nat) = 1), Bool.and_true]⟩
        have hm' : (m &&& (2 ^ who ^^^ 4294967295)) ||| (v <<< who) < 65536 := Nat.or_lt_two_pow (n := 16) (Nat.lt_of_le_of_lt Nat.and_le_left m1) hvs.1
        have hbits : ∀ h : Nat, h < 16 → ((m &&& (2 ^ who ^^^ 4294967295)) ||| (v <<< who)).testBit h = if h = who then decide (v = 1) else m.testBit h := fun h hh => by
          rw [Nat.testBit_or, Nat.testBit_and, xm_ (by omega), hvs.2 h]
          by_cases hq : h = who
          · rw [if_pos hq, decide_eq_true hq.symm, Bool.not_true, Bool.and_false, Bool.false_or, Bool.true_and]
          · rw [if_neg hq, decide_eq_false (fun e => hq e.symm), Bool.not_false, Bool.and_true, Bool.false_and, Bool.or_false]
        have p5 : ps_k (nd_up (nd_up (nd_up c4 39 5 (nI (m &&& (2 ^ who ^^^ 4294967295)))) 39 5 (nI ((m &&& (2 ^ who ^^^ 4294967295)) ||| (v <<< who)))) 39 6 (nI (l + 1))) (nd_up r4 77 (16 + who) (nI v)) t z 3 (tn_ t z (tqe_ t z p3)) := ps_y (ps_cc b7 (by rw [nd_up_ne (by decide), nd_up_ne (by decide), nd_up_ne (by decide)]) ⟨by rw [nd_up_ne (by decide), nd_up_ne (by decide), nd_up_ne (by decide)], by rw [nd_up_ne (by decide), nd_up_ne (by decide), nd_up_ne (by decide)], by rw [nd_up_ne (by decide), nd_up_ne (by decide), nd_up_ne (by decide)], by rw [nd_up_ne (by decide), nd_up_ne (by decide), nd_up_ne (by decide)]⟩) (Or.inr (Or.inr rfl))
        have C5 : fcy_ c (nd_up (nd_up (nd_up c4 39 5 (nI (m &&& (2 ^ who ^^^ 4294967295)))) 39 5 (nI ((m &&& (2 ^ who ^^^ 4294967295)) ||| (v <<< who)))) 39 6 (nI (l + 1))) := fcy_tr (fcy_r C4) ⟨fun i _ a2 _ _ _ => by rw [nd_up_ne a2, nd_up_ne a2, nd_up_ne a2], fun j _ => by rw [u_ne1 (by decide), u_ne1 (by decide), u_ne1 (by decide)]⟩
        have R5 : fry_ r (nd_up r4 77 (16 + who) (nI v)) := fry_tr (fry_r R4) (fry_u (Or.inr (Or.inr ⟨rfl, by omega⟩)))
        have I5 : sd_I H (nd_up (nd_up (nd_up c4 39 5 (nI (m &&& (2 ^ who ^^^ 4294967295)))) 39 5 (nI ((m &&& (2 ^ who ^^^ 4294967295)) ||| (v <<< who)))) 39 6 (nI (l + 1))) (nd_up r4 77 (16 + who) (nI v)) (l + 1) := by
          refine ⟨u_eq _ _ _ _, by rw [u_ne1 (by decide), u_ne1 (by decide), u_ne1 (by decide)]; exact e36 c4 C4, by rw [u_ne1 (by decide)]; exact e57 r4 R4, _, hm', by rw [u_ne2 (by decide), u_eq], fun h hh => ?_⟩
          rw [hbits h hh]
          by_cases hq : h = who
          · rw [if_pos hq, hq, u_eq]
            by_cases h0 : v = 1
            · rw [h0]; rfl
            · have : v = 0 := by omega
              rw [this]; rfl
          · rw [if_neg hq, u_ne2 (by omega), R4.1 77 (List.not_mem_nil) (by decide)]
            exact m3 h hh
        rcases ls_mark (F := F) hF p5 with ⟨c6, r6, v1, v2, v3, v4, v5, v6⟩ | ⟨c6, r6, v1, v2, v3, v4, v5, v6⟩
        · rw [v1, n_bind, if_neg n10, v2, n_bind]
          refine Or.inl ⟨c6, r6, _, 0, rfl, rfl, by decide, v3, by omega, ?_, fcy_tr C5 (fcy_r v5), fry_tr R5 (fry_r v6)⟩
          obtain ⟨x1, x2, x3, m', x4, x5, x6⟩ := I5
          refine ⟨by rw [v5.1 39 (by decide)]; exact x1, by rw [v5.2 6 (by decide)]; exact x2, by rw [v6.2 6 (by decide)]; exact x3, m', x4, by rw [v5.1 39 (by decide)]; exact x5, fun h hh => ?_⟩
          rw [v6.1 77 (List.not_mem_nil) (by decide)]
          exact x6 h hh
        · rw [v1, n_bind, if_pos rfl, v2, n_bind]
          exact Or.inr ⟨c6, r6, rfl, rfl, v3, v4, fcy_tr C5 (fcy_r v5), fry_tr R5 (fry_r v6)⟩
      · rw [b1, n_bind, if_pos rfl, n_bind, if_pos rfl, b2, n_bind, n_bind, if_pos rfl]
        exact Or.inr ⟨c4, r4, rfl, rfl, b3, b4, fcy_r (fcr_tr C3 b5), fry_r (frx_tr R3 b6)⟩
    · have hx : ¬ (tk_ t z p2 = 2 ∧ kx_ t z 3 p2 = 1) := fun e => by
        have := kx_3 hb.2.1 e.1
        rw [e.2] at this
        by_cases e20 : tv_ t z p2 = 20
        · rw [if_pos e20] at this; omega
        · rw [if_neg e20] at this
          by_cases e13' : tv_ t z p2 = 13
          · exact e13 ⟨e.1, e13'⟩
          · rw [if_neg e13'] at this; omega
      obtain ⟨c', r', w1, w2, w3, w4, w5, w6⟩ := mv_rf (F := F) (y := 1) a7
      rw [if_neg e13, if_neg hx, if_pos rfl, if_pos rfl, w1, n_bind, if_neg (by decide), n_bind, if_pos rfl, n_bind, if_pos rfl, w2, n_bind, n_bind, if_pos rfl]
      exact Or.inr ⟨c', r', rfl, rfl, w3, w4, fcy_r (fcr_tr C2 w5), fry_r (frx_tr R2 w6)⟩
  · rw [a1, n_bind, if_pos rfl, n_bind, if_pos rfl, a2, n_bind, n_bind, if_pos rfl]
    exact Or.inr ⟨c2, r2, rfl, rfl, a3, a4, fcy_r (fcr_tr C1 a5), fry_r (frx_tr R1 a6)⟩
end SI
