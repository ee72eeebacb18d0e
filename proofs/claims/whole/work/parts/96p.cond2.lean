/-! text: rows of conditions -/
section CQ
variable {F z : Nat} {t : Nat → Nat} {S : List Nat}
theorem lp_A (hF : 300000 ≤ F) {D o b : Nat} (hC : PC_ F t z D) (ho : o ≤ 8) (h9 : ntop_ 9 S) (h10 : ntop_ 10 S) (hv : ∀ y ∈ S, y < 100) (hl : S.length ≤ 3 * o + 1) (hbo : b ≤ o) (hD : 1 + 3 * (8 - o) ≤ D) : ∀ (d : Nat) (c r rs : nd_Mem) (p n f g m : Nat), z - p = d → ps_k c r t z 0 p → ps_k c rs t z 0 p → f_X11_settles F 10 r = some (0, rs) → cd_ c rs n → n ≤ p → rs 57 24 = nI o → skk_ rs S → m ≤ p → d < g → d < f → (∃ (c' r' rs' : nd_Mem) (p' n' f' : Nat), f_X3_readBoth_8 F (f_X3_grp F D 2) g (nI o) 1 (nI m) c = some (1, c') ∧ f_X11_readAny_9 F f (nI b) 0 r = f_X11_readAny_9 F f' (nI b) 0 r' ∧ f_X11_settles F 10 r' = some (0, rs') ∧ ps_k c' r' t z 0 p' ∧ ps_k c' rs' t z 0 p' ∧ ¬ (tk_ t z p' = 2 ∧ tv_ t z p' = 5) ∧ cd_ c' rs' n' ∧ rs' 57 24 = nI o ∧ skk_ rs' S ∧ fcc_ c c' ∧ frm_ n rs rs' ∧ p ≤ p' ∧ n ≤ n' ∧ n' + p ≤ n + p' ∧ z - p' < f' ∧ ∀ st : List Nat, st.length + (5 + 2 * (8 - o)) ≤ 48 → tyd_ rs' n (n' - n) (1 :: st) = some (1 :: st)) ∨ ∃ c' r' : nd_Mem, f_X3_readBoth_8 F (f_X3_grp F D 2) g (nI o) 1 (nI m) c = some (0, c') ∧ f_X11_readAny_9 F f (nI b) 0 r = some (-1, r') ∧ flm_ n c rs c' r' := by
  intro d
  induction d using Nat.strongRecOn with
  | ind d ih =>
    intro c r rs p n f g m hdp h hs hset hd hn h24 hsk hm hg hf
    have hz := h.1.1
    have hpz := h.2.2.2.2
    obtain ⟨g, rfl⟩ : ∃ q, g = q + 1 := ⟨g - 1, by omega⟩
    obtain ⟨f, rfl⟩ : ∃ g, f = g + 1 := ⟨f - 1, by omega⟩
    have hcl : f_X3_readBoth_8 F (f_X3_grp F D 2) (g + 1) (nI o) 1 (nI m) c = f_X3_readBoth_8_b F (f_X3_grp F D 2) (f_X3_readBoth_8 F (f_X3_grp F D 2) g) (nI o) 1 (nI m) c := rfl
    by_cases h5 : tk_ t z p = 2 ∧ tv_ t z p = 5
    · have hp : p < z := tk_lt (t := t) (by omega)
      have hnx := nx_gt (t := t) hp
      obtain ⟨r2, a1, a2, a3, a4, a5, a6, a7⟩ := w_x (F := F) (x := 10) (y := (10 : Int32)) rfl hsk (by omega) n
      obtain ⟨c3, r3, b1, b2, b3, b4, b5, b6, b7⟩ := mv_adv hF (ps_q a3 hs) hp n
      have d3 : cd_ c3 r3 n := by
        refine cd_adv (c := c) (r := r2) ⟨hd.1, ?_, fun i hi => ?_⟩ b6 b7
        · rw [a4]; exact hd.2.1
        · rw [a6, a7]; exact hd.2.2 i hi
      have f03 : frm_ n rs r3 := frm_tr (frm_q a3) (frm_r b5) (Nat.le_refl n)
      have hm1 : f_X11_readAny_9 F (f + 1) (nI b) 0 r = f_X11_readAny_9 F f (nI b) 1 r3 := by
        show f_X11_readAny_9_b F _ _ _ _ = _
        unfold f_X11_readAny_9_b
        rw [if_pos rfl, mw_ (y := (5 : Int32)) (x := 5) h.2.2.1 h.2.2.2.1 rfl (by decide), n_bind, if_pos h5, if_neg n10, hset, n_bind, a1, n_bind, b2, n_bind]
      rw [hm1, hcl]
      unfold f_X3_readBoth_8_b f_X3_readBoth_56
      rw [if_neg (show ¬ (400 : Int32) ≤ nI m from nI_ge (b := 400) (by omega) (by decide)), if_neg n10, cw0 (y := (5 : Int32)) (x := 5) h.1 h.2.1 rfl (by decide), n_bind, if_pos h5, if_neg n10, b1, n_bind, nI_1]
      rcases hC c3 r3 (tn_ t z (tqe_ t z p)) n o 0 b f (10 :: S) b3 d3 (by omega) ho (by omega) (by rw [b7.2 24 (by decide), a5]; exact h24) (skk_r b5 a2) (fun y T e => by cases e; decide) (fun y hy => by
        rcases List.mem_cons.mp hy with e | e
        · omega
        · exact hv y e) (by rw [List.length_cons]; omega) hbo hD (by omega) with ⟨c4, r4, p4, n4, f4, e1, e2, e3, e4, e5, e6, e7, e8, e9, e10, e11, e12, e13⟩ | ⟨c4, r4, e1, e2, e3⟩
      · have hp4 := e3.2.2.2.2
        have e4' := cd_k0 e4
        obtain ⟨r5, g1, g2, g3, g4, g5, g6, g7⟩ := s_one (F := F) (x := 10) (y := (10 : Int32)) hF (by decide) (by decide) e6 (by omega) hv h10 e4'.2.1 (by omega) e5 rfl
        obtain ⟨y, c5, q1, q2, q3, q4⟩ := cd_two (F := F) (x := -3) (o := nI 10) e4' (by omega) g3 g4 g6 g7 (Or.inr (Or.inr (Or.inr (Or.inr (Or.inr (Or.inr (Or.inr (Or.inr (Or.inr (Or.inr (Or.inl ⟨rfl, rfl⟩)))))))))))
        rw [e1, n_bind, q1, n_bind, e2]
        have fr5 : frm_ n rs r5 := frm_tr f03 (frm_tr e8 (frm_q g3) e10) (Nat.le_refl n)
        rcases ih (z - p4) (by omega) c5 r4 r5 p4 (n4 + 1) f4 g (m + 1) rfl (ps_38 e3 q3 q4) (ps_38 (ps_q g3 e3) q3 q4) g1 q2 (by omega) g5 g2 (by omega) (by omega) e12 with ⟨c', r', rs', p', n', f', w1, w2, w3, w4, w5, w6, w7, w8, w9, w10, w11, w12, w13, w14, w15, w16⟩ | ⟨c', r', w1, w2, w3⟩
        · refine Or.inl ⟨c', r', rs', p', n', f', w1, w2, w3, w4, w5, w6, w7, w8, w9, fcc_tr b4 (fcc_tr e7 (fcc_tr q4 w10)), frm_tr fr5 w11 (by omega), by omega, by omega, by omega, w15, fun st hst => ?_⟩
          have t1 : tyd_ rs' n (n4 - n) (1 :: st) = some (1 :: 1 :: st) := by
            rw [tyd_q (m := n4 + 1) w11.2 (by omega), tyd_q (m := n4) g3.2 (by omega)]
            exact e13 (1 :: st) (by rw [List.length_cons]; omega)
          have t2 : tyd_ rs' n4 1 (1 :: 1 :: st) = some (1 :: st) := by
            rw [tyd_q (m := n4 + 1) w11.2 (by omega), tyd_1, g6, g7]
            rfl
          rw [show n' - n = (n4 - n) + (1 + (n' - (n4 + 1))) by omega, tyd_cat t1, show n + (n4 - n) = n4 by omega, tyd_cat t2]
          exact w16 st hst
        · exact Or.inr ⟨c', r', w1, w2, flm_tr (fcc_tr b4 (fcc_tr e7 q4)) fr5 (by omega) w3⟩
      · obtain ⟨y, c5, q1, q2, q3, q4⟩ := add_any (F := F) (x := -3) e3.2.2.2.2
        rw [e1, n_bind, q1, n_bind]
        obtain ⟨g', rfl⟩ : ∃ g', g = g' + 1 := ⟨g - 1, by omega⟩
        have hend : f_X3_readBoth_8 F (f_X3_grp F D 2) (g' + 1) (nI o) 0 (nI (m + 1)) c5 = some (0, c5) := by
          show f_X3_readBoth_8_b F _ _ _ _ _ _ = _
          unfold f_X3_readBoth_8_b f_X3_readBoth_56
          rw [if_pos rfl, if_neg (show ¬ ¬ ((0 : Int32) = 0 ∨ (0 : Int32) = 1) by decide), ite_self]
        exact Or.inr ⟨c5, r4, hend, e2, by rw [q2]; exact e3.1, by rw [q2]; exact e3.2.1, fcc_tr b4 (fcc_tr e3.2.2.1 q3), frm_tr f03 e3.2.2.2.1 (Nat.le_refl n), q4⟩
    · rw [hcl]
      unfold f_X3_readBoth_8_b f_X3_readBoth_56
      rw [cw0 (y := (5 : Int32)) (x := 5) h.1 h.2.1 rfl (by decide), n_bind, if_neg h5, if_pos rfl, if_neg (show ¬ ¬ ((1 : Int32) = 0 ∨ (1 : Int32) = 1) by decide), ite_self, ite_self]
      exact Or.inl ⟨c, r, rs, p, n, f + 1, rfl, rfl, hset, h, hs, h5, hd, h24, hsk, fcc_rf, frm_rf, Nat.le_refl p, Nat.le_refl n, Nat.le_refl _, by omega, fun st _ => by rw [Nat.sub_self]; rfl⟩
theorem PA_s (hF : 300000 ≤ F) {D : Nat} (hC : PC_ F t z D) : PA_ F t z (D + 1) := by
  intro c r p n o b f S h hd hn ho h24 hs h9 h10 hv hl hbo hD hf
  have hz := h.1.1
  have hcl : f_X3_grp F (D + 1) 1 (nI o) c = f_X3_readBoth_r F (f_X3_grp F D 2) (nI o) c := rfl
  rw [hcl]
  unfold f_X3_readBoth_r
  rcases hC c r p n o 0 b f S h hd (by omega) ho (by omega) h24 hs h9 hv (by omega) hbo (by omega) hf with ⟨c1, r1, p1, n1, f1, e1, e2, e3, e4, e5, e6, e7, e8, e9, e10, e11, e12, e13⟩ | ⟨c1, r1, e1, e2, e3⟩
  · rw [e1, n_bind, e2]
    rcases lp_A (S := S) hF hC ho h9 h10 hv hl hbo (by omega) (z - p1) c1 r1 r1 p1 n1 f1 F 0 rfl e3 e3 (s_no hF (by decide) e6 (by omega) hv h10 rfl) (cd_k0 e4) (by omega) e5 e6 (by omega) (by omega) e12 with ⟨c', r', rs', p', n', f', w1, w2, w3, w4, w5, w6, w7, w8, w9, w10, w11, w12, w13, w14, w15, w16⟩ | ⟨c', r', w1, w2, w3⟩
    · refine Or.inl ⟨c', r', rs', p', n', f', w1, w2, w3, w4, w5, w6, w7, w8, w9, fcc_tr e7 w10, frm_tr e8 w11 e10, by omega, by omega, by omega, w15, fun st hst => ?_⟩
      have t1 : tyd_ rs' n (n1 - n) st = some (1 :: st) := by
        rw [tyd_q (m := n1) w11.2 (by omega)]
        exact e13 st (by omega)
      rw [show n' - n = (n1 - n) + (n' - n1) by omega, tyd_cat t1, show n + (n1 - n) = n1 by omega]
      exact w16 st hst
    · exact Or.inr ⟨c', r', w1, w2, flm_tr e7 e8 e10 w3⟩
  · rw [e1, n_bind]
    obtain ⟨g', hg⟩ : ∃ g', F = g' + 1 := ⟨F - 1, by omega⟩
    have hend : f_X3_readBoth_8 F (f_X3_grp F D 2) F (nI o) 0 0 c1 = some (0, c1) := by
      rw [hg]
      show f_X3_readBoth_8_b (g' + 1) _ _ _ _ _ _ = _
      unfold f_X3_readBoth_8_b f_X3_readBoth_56
      rw [if_neg (by decide), if_pos rfl, if_neg (by decide)]
    exact Or.inr ⟨c1, r1, hend, e2, e3⟩
theorem lp_B (hF : 300000 ≤ F) {D o b : Nat} (hA : PA_ F t z D) (ho : o ≤ 8) (h9 : ntop_ 9 S) (h10 : ntop_ 10 S) (h11 : ntop_ 11 S) (hv : ∀ y ∈ S, y < 100) (hl : S.length ≤ 3 * o) (hbo : b ≤ o) (hD : 2 + 3 * (8 - o) ≤ D) : ∀ (d : Nat) (c r r1 rs : nd_Mem) (p n f g m : Nat), z - p = d → ps_k c r t z 0 p → ps_k c rs t z 0 p → f_X11_settles F 10 r = some (0, r1) → f_X11_settles F 11 r1 = some (0, rs) → ¬ (tk_ t z p = 2 ∧ tv_ t z p = 5) → cd_ c rs n → n ≤ p → rs 57 24 = nI o → skk_ rs S → m ≤ p → d < g → d < f → (∃ (c' r' r1' rs' : nd_Mem) (p' n' f' : Nat), f_X3_readEither_8 F (f_X3_grp F D 1) g (nI o) 1 (nI m) c = some (1, c') ∧ f_X11_readAny_9 F f (nI b) 0 r = f_X11_readAny_9 F f' (nI b) 0 r' ∧ f_X11_settles F 10 r' = some (0, r1') ∧ f_X11_settles F 11 r1' = some (0, rs') ∧ ps_k c' r' t z 0 p' ∧ ps_k c' rs' t z 0 p' ∧ ¬ (tk_ t z p' = 2 ∧ tv_ t z p' = 5) ∧ ¬ (tk_ t z p' = 2 ∧ tv_ t z p' = 4) ∧ cd_ c' rs' n' ∧ rs' 57 24 = nI o ∧ skk_ rs' S ∧ fcc_ c c' ∧ frm_ n rs rs' ∧ p ≤ p' ∧ n ≤ n' ∧ n' + p ≤ n + p' ∧ z - p' < f' ∧ ∀ st : List Nat, st.length + (6 + 2 * (8 - o)) ≤ 48 → tyd_ rs' n (n' - n) (1 :: st) = some (1 :: st)) ∨ ∃ c' r' : nd_Mem, f_X3_readEither_8 F (f_X3_grp F D 1) g (nI o) 1 (nI m) c = some (0, c') ∧ f_X11_readAny_9 F f (nI b) 0 r = some (-1, r') ∧ flm_ n c rs c' r' := by
  intro d
  induction d using Nat.strongRecOn with
  | ind d ih =>
    intro c r r1 rs p n f g m hdp h hs hset hset2 h5 hd hn h24 hsk hm hg hf
    have hz := h.1.1
    have hpz := h.2.2.2.2
    obtain ⟨g, rfl⟩ : ∃ q, g = q + 1 := ⟨g - 1, by omega⟩
    obtain ⟨f, rfl⟩ : ∃ g, f = g + 1 := ⟨f - 1, by omega⟩
    have hcl : f_X3_readEither_8 F (f_X3_grp F D 1) (g + 1) (nI o) 1 (nI m) c = f_X3_readEither_8_b F (f_X3_grp F D 1) (f_X3_readEither_8 F (f_X3_grp F D 1) g) (nI o) 1 (nI m) c := rfl
    by_cases h4 : tk_ t z p = 2 ∧ tv_ t z p = 4
    · have hp : p < z := tk_lt (t := t) (by omega)
      have hnx := nx_gt (t := t) hp
      obtain ⟨r2, a1, a2, a3, a4, a5, a6, a7⟩ := w_x (F := F) (x := 11) (y := (11 : Int32)) rfl hsk (by omega) n
      obtain ⟨c3, r3, b1, b2, b3, b4, b5, b6, b7⟩ := mv_adv hF (ps_q a3 hs) hp n
      have d3 : cd_ c3 r3 n := by
        refine cd_adv (c := c) (r := r2) ⟨hd.1, ?_, fun i hi => ?_⟩ b6 b7
        · rw [a4]; exact hd.2.1
        · rw [a6, a7]; exact hd.2.2 i hi
      have f03 : frm_ n rs r3 := frm_tr (frm_q a3) (frm_r b5) (Nat.le_refl n)
      have hm1 : f_X11_readAny_9 F (f + 1) (nI b) 0 r = f_X11_readAny_9 F f (nI b) 1 r3 := by
        show f_X11_readAny_9_b F _ _ _ _ = _
        unfold f_X11_readAny_9_b
        rw [if_pos rfl, mw_ (y := (5 : Int32)) (x := 5) h.2.2.1 h.2.2.2.1 rfl (by decide), n_bind, if_neg h5, if_pos rfl, mw_ (y := (4 : Int32)) (x := 4) h.2.2.1 h.2.2.2.1 rfl (by decide), n_bind, if_pos h4, if_neg n10, hset, n_bind, hset2, n_bind, a1, n_bind, b2, n_bind]
      rw [hm1, hcl]
      unfold f_X3_readEither_8_b f_X3_readEither_56
      rw [if_neg (show ¬ (400 : Int32) ≤ nI m from nI_ge (b := 400) (by omega) (by decide)), if_neg n10, cw0 (y := (4 : Int32)) (x := 4) h.1 h.2.1 rfl (by decide), n_bind, if_pos h4, if_neg n10, b1, n_bind, nI_1]
      rcases hA c3 r3 (tn_ t z (tqe_ t z p)) n o b f (11 :: S) b3 d3 (by omega) ho (by rw [b7.2 24 (by decide), a5]; exact h24) (skk_r b5 a2) (fun y T e => by cases e; decide) (fun y T e => by cases e; decide) (fun y hy => by
        rcases List.mem_cons.mp hy with e | e
        · omega
        · exact hv y e) (by rw [List.length_cons]; omega) hbo hD (by omega) with ⟨c4, r4, s4, p4, n4, f4, e1, e2, e3, e4, e5, e6, e7, e8, e9, e10, e11, e12, e13, e14, e15, e16⟩ | ⟨c4, r4, e1, e2, e3⟩
      · have hp4 := e4.2.2.2.2
        obtain ⟨r5, g1, g2, g3, g4, g5, g6, g7⟩ := s_one (F := F) (x := 11) (y := (11 : Int32)) hF (by decide) (by decide) e9 (by omega) hv h11 e7.2.1 (by omega) e8 rfl
        obtain ⟨y, c5, q1, q2, q3, q4⟩ := cd_two (F := F) (x := -4) (o := nI 11) e7 (by omega) g3 g4 g6 g7 (Or.inr (Or.inr (Or.inr (Or.inr (Or.inr (Or.inr (Or.inr (Or.inr (Or.inr (Or.inr (Or.inr ⟨rfl, rfl⟩)))))))))))
        rw [e1, n_bind, q1, n_bind, e2]
        have fr5 : frm_ n rs r5 := frm_tr f03 (frm_tr e11 (frm_q g3) e13) (Nat.le_refl n)
        rcases ih (z - p4) (by omega) c5 r4 s4 r5 p4 (n4 + 1) f4 g (m + 1) rfl (ps_38 e4 q3 q4) (ps_38 (ps_q g3 e5) q3 q4) e3 g1 e6 q2 (by omega) g5 g2 (by omega) (by omega) e15 with ⟨c', r', r1', rs', p', n', f', w1, w2, w3, w3', w4, w5, w6, w6', w7, w8, w9, w10, w11, w12, w13, w14, w15, w16⟩ | ⟨c', r', w1, w2, w3⟩
        · refine Or.inl ⟨c', r', r1', rs', p', n', f', w1, w2, w3, w3', w4, w5, w6, w6', w7, w8, w9, fcc_tr b4 (fcc_tr e10 (fcc_tr q4 w10)), frm_tr fr5 w11 (by omega), by omega, by omega, by omega, w15, fun st hst => ?_⟩
          have t1 : tyd_ rs' n (n4 - n) (1 :: st) = some (1 :: 1 :: st) := by
            rw [tyd_q (m := n4 + 1) w11.2 (by omega), tyd_q (m := n4) g3.2 (by omega)]
            exact e16 (1 :: st) (by rw [List.length_cons]; omega)
          have t2 : tyd_ rs' n4 1 (1 :: 1 :: st) = some (1 :: st) := by
            rw [tyd_q (m := n4 + 1) w11.2 (by omega), tyd_1, g6, g7]
            rfl
          rw [show n' - n = (n4 - n) + (1 + (n' - (n4 + 1))) by omega, tyd_cat t1, show n + (n4 - n) = n4 by omega, tyd_cat t2]
          exact w16 st hst
        · exact Or.inr ⟨c', r', w1, w2, flm_tr (fcc_tr b4 (fcc_tr e10 q4)) fr5 (by omega) w3⟩
      · obtain ⟨y, c5, q1, q2, q3, q4⟩ := add_any (F := F) (x := -4) e3.2.2.2.2
        rw [e1, n_bind, q1, n_bind]
        obtain ⟨g', rfl⟩ : ∃ g', g = g' + 1 := ⟨g - 1, by omega⟩
        have hend : f_X3_readEither_8 F (f_X3_grp F D 1) (g' + 1) (nI o) 0 (nI (m + 1)) c5 = some (0, c5) := by
          show f_X3_readEither_8_b F _ _ _ _ _ _ = _
          unfold f_X3_readEither_8_b f_X3_readEither_56
          rw [if_pos rfl, if_neg (show ¬ ¬ ((0 : Int32) = 0 ∨ (0 : Int32) = 1) by decide), ite_self]
        exact Or.inr ⟨c5, r4, hend, e2, by rw [q2]; exact e3.1, by rw [q2]; exact e3.2.1, fcc_tr b4 (fcc_tr e3.2.2.1 q3), frm_tr f03 e3.2.2.2.1 (Nat.le_refl n), q4⟩
    · rw [hcl]
      unfold f_X3_readEither_8_b f_X3_readEither_56
      rw [cw0 (y := (4 : Int32)) (x := 4) h.1 h.2.1 rfl (by decide), n_bind, if_neg h4, if_pos rfl, if_neg (show ¬ ¬ ((1 : Int32) = 0 ∨ (1 : Int32) = 1) by decide), ite_self, ite_self]
      exact Or.inl ⟨c, r, r1, rs, p, n, f + 1, rfl, rfl, hset, hset2, h, hs, h5, h4, hd, h24, hsk, fcc_rf, frm_rf, Nat.le_refl p, Nat.le_refl n, Nat.le_refl _, by omega, fun st _ => by rw [Nat.sub_self]; rfl⟩
theorem PB_s (hF : 300000 ≤ F) {D : Nat} (hA : PA_ F t z D) : PB_ F t z (D + 1) := by
  intro c r p n o b f S h hd hn ho h24 hs h9 h10 h11 hv hl hbo hD hf
  have hz := h.1.1
  have hcl : f_X3_grp F (D + 1) 0 (nI o) c = f_X3_readEither_r F (f_X3_grp F D 1) (nI o) c := rfl
  rw [hcl]
  unfold f_X3_readEither_r
  rcases hA c r p n o b f S h hd hn ho h24 hs h9 h10 hv (by omega) hbo (by omega) hf with ⟨c1, r1, s1, p1, n1, f1, e1, e2, e3, e4, e5, e6, e7, e8, e9, e10, e11, e12, e13, e14, e15, e16⟩ | ⟨c1, r1, e1, e2, e3⟩
  · rw [e1, n_bind, e2]
    rcases lp_B (S := S) hF hA ho h9 h10 h11 hv hl hbo (by omega) (z - p1) c1 r1 s1 s1 p1 n1 f1 F 0 rfl e4 e5 e3 (s_no hF (by decide) e9 (by omega) hv h11 rfl) e6 e7 (by omega) e8 e9 (by omega) (by omega) e15 with ⟨c', r', r1', rs', p', n', f', w1, w2, w3, w3', w4, w5, w6, w6', w7, w8, w9, w10, w11, w12, w13, w14, w15, w16⟩ | ⟨c', r', w1, w2, w3⟩
    · refine Or.inl ⟨c', r', r1', rs', p', n', f', w1, w2, w3, w3', w4, w5, w6, w6', w7, w8, w9, fcc_tr e10 w10, frm_tr e11 w11 e13, by omega, by omega, by omega, w15, fun st hst => ?_⟩
      have t1 : tyd_ rs' n (n1 - n) st = some (1 :: st) := by
        rw [tyd_q (m := n1) w11.2 (by omega)]
        exact e16 st (by omega)
      rw [show n' - n = (n1 - n) + (n' - n1) by omega, tyd_cat t1, show n + (n1 - n) = n1 by omega]
      exact w16 st hst
    · exact Or.inr ⟨c', r', w1, w2, flm_tr e10 e11 e13 w3⟩
  · rw [e1, n_bind]
    obtain ⟨g', hg⟩ : ∃ g', F = g' + 1 := ⟨F - 1, by omega⟩
    have hend : f_X3_readEither_8 F (f_X3_grp F D 1) F (nI o) 0 0 c1 = some (0, c1) := by
      rw [hg]
      show f_X3_readEither_8_b (g' + 1) _ _ _ _ _ _ = _
      unfold f_X3_readEither_8_b f_X3_readEither_56
      rw [if_neg (by decide), if_pos rfl, if_neg (by decide)]
    exact Or.inr ⟨c1, r1, hend, e2, e3⟩
theorem PP_ (hF : 300000 ≤ F) : ∀ D : Nat, PC_ F t z D ∧ PA_ F t z D ∧ PB_ F t z D := by
  intro D
  induction D with
  | zero => exact ⟨fun c r p n o k b f S _ _ _ _ _ _ _ _ _ _ _ hD => by omega, fun c r p n o b f S _ _ _ _ _ _ _ _ _ _ _ hD => by omega, fun c r p n o b f S _ _ _ _ _ _ _ _ _ _ _ _ hD => by omega⟩
  | succ D ih => exact ⟨PC_s hF ih.2.2 ih.1, PA_s hF ih.1, PB_s hF ih.2.1⟩
/-- a condition, whole -/
theorem ls_any (hF : 300000 ≤ F) {c r : nd_Mem} {p n : Nat} (h : ps_k c r t z 0 p) (hd : cd_ c r n) (hn : n ≤ p) (h24 : r 57 24 = nI 0) : (∃ (c' r' : nd_Mem) (p' n' : Nat), f_X3_readEither F 40 0 c = some (1, c') ∧ f_X11_readAny F r = some (0, r') ∧ ps_k c' r' t z 0 p' ∧ cd_ c' r' n' ∧ r' 57 24 = nI 0 ∧ fcc_ c c' ∧ frm_ n r r' ∧ p < p' ∧ n ≤ n' ∧ n' + p ≤ n + p' ∧ tyd_ r' n (n' - n) [] = some [1]) ∨ ∃ c' r' : nd_Mem, f_X3_readEither F 40 0 c = some (0, c') ∧ f_X11_readAny F r = some (-1, r') ∧ flm_ n c r c' r' := by
  have hz := h.1.1
  have q0 : frq_ n r (nd_up r 57 26 0) := ⟨(by repeat first | exact fr_rf | (refine fr_up57 ?_ (by decide)) | (refine fr_up ?_ (by decide) (by decide)) | (refine fr_row ?_ (by decide) (by decide))), fun i _ => by rw [u_ne1 (by decide), u_ne1 (by decide)]; exact ⟨rfl, rfl⟩⟩
  have d0 : cd_ c (nd_up r 57 26 0) n := ⟨hd.1, by rw [u_ne2 (by decide)]; exact hd.2.1, fun i hi => by rw [u_ne1 (by decide), u_ne1 (by decide)]; exact hd.2.2 i hi⟩
  have nt : ∀ x : Nat, ntop_ x [] := fun x y T e => by cases e
  unfold f_X11_readAny
  rw [n_let]
  rcases (PP_ (F := F) (t := t) (z := z) hF 40).2.2 c (nd_up r 57 26 0) p n 0 0 F [] (ps_q q0 h) d0 hn (by omega) (by rw [u_ne2 (by decide)]; exact h24) ⟨u_eq _ _ _ _, trivial⟩ (nt 9) (nt 10) (nt 11) (fun y hy => absurd hy (List.not_mem_nil)) (Nat.zero_le _) (by omega) (by omega) (by omega) with ⟨c4, r4, r5, r6, p4, n4, f4, e1, e2, e3, e4, e5, e6, e7, e8, e9, e10, e11, e12, e13, e14, e15, e16, e17, e18⟩ | ⟨c4, r4, e1, e2, e3⟩
  · obtain ⟨f4, rfl⟩ : ∃ g, f4 = g + 1 := ⟨f4 - 1, by omega⟩
    have e2' : f_X11_readAny_9 F F 0 1 (nd_up r 57 26 0) = f_X11_readAny_9 F (f4 + 1) (nI 0) 0 r4 := e2
    rw [e2']
    have loop : f_X11_readAny_9 F (f4 + 1) (nI 0) 0 r4 = some (0, r6) := by
      show f_X11_readAny_9_b F _ _ _ _ = _
      unfold f_X11_readAny_9_b
      rw [if_pos rfl, mw_ (y := (5 : Int32)) (x := 5) e5.2.2.1 e5.2.2.2.1 rfl (by decide), n_bind, if_neg e7, if_pos rfl, mw_ (y := (4 : Int32)) (x := 4) e5.2.2.1 e5.2.2.2.1 rfl (by decide), n_bind, if_neg e8, if_pos rfl, e3, n_bind, e4, n_bind, if_pos (show nI 0 = (0 : Int32) from rfl)]
    exact Or.inl ⟨c4, r6, p4, n4, e1, loop, e6, e9, e10, e12, frm_tr (frm_q q0) e13 (Nat.le_refl n), e14, e15, e16, e18 [] (by decide)⟩
  · exact Or.inr ⟨c4, r4, e1, e2, flm_tr fcc_rf (frm_q q0) (Nat.le_refl n) e3⟩
end CQ
