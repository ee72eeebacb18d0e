/-! text: rows of conditions -/
section CQ
variable {F z : Nat} {t : Nat → Nat} {S : List Nat}
/-- what waits (10 and, 11 or; the class's code w) comes out behind a condition -/
theorem pnd_ (hF : 300000 ≤ F) {c r : nd_Mem} {p n o x : Nat} {w y u : Int32} {A T : List Nat} (hx : (x = 10 ∧ w = -3) ∨ (x = 11 ∧ w = -4)) (hu : u = nI x) (hA : (y = 0 ∧ A = []) ∨ (y = 1 ∧ A = [x])) (h : ps_k c r t z 0 p) (hd : cd_ c r n) (hn : n + A.length ≤ 400) (h24 : r 60 24 = nI o) (hs : skk_ r (A ++ T)) (hl : T.length < 40) (hv : ∀ y ∈ T, y < 100) (hnt : ntop_ x T) (K : nd_Mem → nd_Res) : ∃ (c' rs : nd_Mem) (n' : Nat), (if y = 0 then K c else nd_bind (f_X4_add F 42 43 400 w c) fun _ σ => K σ) = K c' ∧ f_X11_settles F u r = some (0, rs) ∧ ps_k c' r t z 0 p ∧ ps_k c' rs t z 0 p ∧ cd_ c' rs n' ∧ rs 60 24 = nI o ∧ skk_ rs T ∧ fcc_ c c' ∧ frq_ n r rs ∧ n ≤ n' ∧ n' ≤ n + A.length ∧ c' 38 = c 38 ∧ ∀ st : List Nat, tyd_ rs n (n' - n) (1 :: (A.map (fun _ => 1) ++ st)) = some (1 :: st) := by
  have hx9 : x < 100 ∧ x ≠ 9 := by rcases hx with ⟨e, _⟩ | ⟨e, _⟩ <;> omega
  rcases hA with ⟨rfl, rfl⟩ | ⟨rfl, rfl⟩
  · have hs : skk_ r T := hs
    exact ⟨c, r, n, if_pos rfl, s_no hF hx9.1 hs hl hv hnt hu, h, h, hd, h24, hs, fcc_rf, frq_rf, Nat.le_refl n, Nat.le_refl n, rfl, fun st => by rw [Nat.sub_self]; rfl⟩
  · have hs : skk_ r (x :: T) := hs
    have hn : n + 1 ≤ 400 := hn
    obtain ⟨rs, g1, g2, g3, g4, g5, g6, g7⟩ := s_one (F := F) hF hx9.1 hx9.2 hs hl hv hnt hd.2.1 hn h24 hu
    obtain ⟨y', c', q1, q2, q3, q4⟩ := cd_two (F := F) (x := w) (o := nI x) hd hn g3 g4 g6 g7 (by
      rcases hx with ⟨rfl, rfl⟩ | ⟨rfl, rfl⟩
      · exact Or.inr (Or.inr (Or.inr (Or.inr (Or.inr (Or.inr (Or.inr (Or.inr (Or.inr (Or.inr (Or.inl ⟨rfl, rfl⟩))))))))))
      · exact Or.inr (Or.inr (Or.inr (Or.inr (Or.inr (Or.inr (Or.inr (Or.inr (Or.inr (Or.inr (Or.inr (⟨rfl, rfl⟩))))))))))))
    refine ⟨c', rs, n + 1, ?_, g1, ps_38 h q3 q4, ps_38 (ps_q g3 h) q3 q4, q2, g5, g2, q4, g3, by omega, Nat.le_refl _, q3, fun st => ?_⟩
    · rw [if_neg n10, q1, n_bind]
    · rw [show n + 1 - n = 1 by omega, tyd_1, g6, g7]
      rcases hx with ⟨rfl, rfl⟩ | ⟨rfl, rfl⟩ <;> rfl
theorem lp_E (hF : 300000 ≤ F) {D o b : Nat} (hC : PC_ F t z D) (ho : o ≤ 8) (h9 : ntop_ 9 S) (h10 : ntop_ 10 S) (h11 : ntop_ 11 S) (hv : ∀ y ∈ S, y < 100) (hl : S.length ≤ 3 * o) (hbo : b ≤ o) (hD : 1 + 3 * (8 - o) ≤ D) : ∀ (d : Nat) (c r : nd_Mem) (p n f g m : Nat) (xo xa : Int32) (O A : List Nat), z - p = d → ((xo = 0 ∧ O = []) ∨ (xo = 1 ∧ O = [11])) → ((xa = 0 ∧ A = []) ∨ (xa = 1 ∧ A = [10])) → ps_k c r t z 0 p → cd_ c r n → n + A.length + O.length ≤ p → r 60 24 = nI o → skk_ r (A ++ (O ++ S)) → 2 * m ≤ p → d < g → d < f → (∃ (c' r' r1 rs : nd_Mem) (p' n' f' : Nat), f_X3_readEither_7 F (f_X3_grp F D 1) g (nI o) xo xa (nI m) c = some (1, c') ∧ f_X11_readAny_9 F f (nI b) 1 r = f_X11_readAny_9 F f' (nI b) 0 r' ∧ f_X11_settles F 10 r' = some (0, r1) ∧ f_X11_settles F 11 r1 = some (0, rs) ∧ ps_k c' r' t z 0 p' ∧ ps_k c' rs t z 0 p' ∧ ¬ (tk_ t z p' = 2 ∧ tv_ t z p' = 5) ∧ ¬ (tk_ t z p' = 2 ∧ tv_ t z p' = 4) ∧ cd_ c' rs n' ∧ rs 60 24 = nI o ∧ skk_ rs S ∧ fcc_ c c' ∧ frm_ n r rs ∧ p < p' ∧ n ≤ n' ∧ n' + p ≤ n + A.length + O.length + p' ∧ z - p' < f' ∧ ∀ st : List Nat, st.length + (6 + 2 * (8 - o)) ≤ 48 → tyd_ rs n (n' - n) (A.map (fun _ => 1) ++ (O.map (fun _ => 1) ++ st)) = some (1 :: st)) ∨ ∃ c' r' : nd_Mem, f_X3_readEither_7 F (f_X3_grp F D 1) g (nI o) xo xa (nI m) c = some (0, c') ∧ f_X11_readAny_9 F f (nI b) 1 r = some (-1, r') ∧ flm_ n c r c' r' := by
  intro d
  induction d using Nat.strongRecOn with
  | ind d ih =>
    intro c r p n f g m xo xa O A hdp hO hA h hd hn h24 hsk hm hg hf
    have hz := h.1.1
    have hpz := h.2.2.2.2
    obtain ⟨g, rfl⟩ : ∃ q, g = q + 1 := ⟨g - 1, by omega⟩
    have hcl : f_X3_readEither_7 F (f_X3_grp F D 1) (g + 1) (nI o) xo xa (nI m) c = f_X3_readEither_7_b F (f_X3_grp F D 1) (f_X3_readEither_7 F (f_X3_grp F D 1) g) (nI o) xo xa (nI m) c := rfl
    have lA : A.length ≤ 1 := by rcases hA with ⟨_, rfl⟩ | ⟨_, rfl⟩ <;> decide
    have lO : O.length ≤ 1 := by rcases hO with ⟨_, rfl⟩ | ⟨_, rfl⟩ <;> decide
    have vO : ∀ y ∈ O ++ S, y < 100 := fun y hy => by
      rcases List.mem_append.mp hy with e | e
      · rcases hO with ⟨_, rfl⟩ | ⟨_, rfl⟩
        · exact absurd e (List.not_mem_nil)
        · have := List.mem_singleton.mp e
          omega
      · exact hv y e
    have vA : ∀ y ∈ A ++ (O ++ S), y < 100 := fun y hy => by
      rcases List.mem_append.mp hy with e | e
      · rcases hA with ⟨_, rfl⟩ | ⟨_, rfl⟩
        · exact absurd e (List.not_mem_nil)
        · have := List.mem_singleton.mp e
          omega
      · exact vO y e
    have nO : ntop_ 10 (O ++ S) := by
      rcases hO with ⟨_, rfl⟩ | ⟨_, rfl⟩
      · exact h10
      · exact fun y T e => by cases e; decide
    have n9 : ntop_ 9 (A ++ (O ++ S)) := by
      rcases hA with ⟨_, rfl⟩ | ⟨_, rfl⟩
      · rcases hO with ⟨_, rfl⟩ | ⟨_, rfl⟩
        · exact h9
        · exact fun y T e => by cases e; decide
      · exact fun y T e => by cases e; decide
    have eO : (O ++ S).length = O.length + S.length := List.length_append
    have eA : (A ++ (O ++ S)).length = A.length + (O.length + S.length) := by rw [List.length_append, eO]
    have m4 : ¬ (400 : Int32) ≤ nI m := nI_ge (b := 400) (by omega) (by decide)
    rw [hcl]
    unfold f_X3_readEither_7_b
    rcases hC c r p n o 0 b f (A ++ (O ++ S)) h hd (by omega) ho (by omega) h24 hsk n9 vA (by omega) hbo hD (by omega) with ⟨c1, r1, p1, n1, f1, e1, e2, e3, e4, e5, e6, e7, e8, e9, e10, e11, e12, e13⟩ | ⟨c1, r1, e1, e2, e3⟩
    · have hp1 := e3.2.2.2.2
      obtain ⟨f1, rfl⟩ : ∃ q, f1 = q + 1 := ⟨f1 - 1, by omega⟩
      obtain ⟨c2, s1, n2, q1, q2, q3, q4, q5, q6, q7, q8, q9, q10, q11, q12, q13⟩ := pnd_ (x := 10) (w := -3) (y := xa) (u := (10 : Int32)) (A := A) (T := O ++ S) hF (Or.inl ⟨rfl, rfl⟩) rfl hA e3 (cd_k0 e4) (by omega) e5 e6 (by omega) vO nO (f_X3_readEither_42 F (f_X3_grp F D 1) (f_X3_readEither_7 F (f_X3_grp F D 1) g) (nI o) xo (nI m))
      rw [if_neg m4, e1, n_bind, if_neg n10, q1, e2]
      have TY : ∀ rf : nd_Mem, frm_ n1 r1 rf → frm_ n2 s1 rf → ∀ st : List Nat, st.length + (6 + 2 * (8 - o)) ≤ 48 → tyd_ rf n (n2 - n) (A.map (fun _ => 1) ++ (O.map (fun _ => 1) ++ st)) = some (1 :: (O.map (fun _ => 1) ++ st)) := by
        intro rf k1 k2 st hst
        have t1 : tyd_ rf n (n1 - n) (A.map (fun _ => 1) ++ (O.map (fun _ => 1) ++ st)) = some (1 :: (A.map (fun _ => 1) ++ (O.map (fun _ => 1) ++ st))) := by
          rw [tyd_q (m := n1) k1.2 (by omega)]
          exact e13 _ (by rw [List.length_append, List.length_append, List.length_map, List.length_map]; omega)
        have t2 : tyd_ rf n1 (n2 - n1) (1 :: (A.map (fun _ => 1) ++ (O.map (fun _ => 1) ++ st))) = some (1 :: (O.map (fun _ => 1) ++ st)) := by
          rw [tyd_q (m := n2) k2.2 (by omega)]
          exact q13 _
        rw [show n2 - n = (n1 - n) + (n2 - n1) by omega, tyd_cat t1, show n + (n1 - n) = n1 by omega]
        exact t2
      unfold f_X3_readEither_42
      rw [cw0 (y := (5 : Int32)) (x := 5) q3.1 q3.2.1 rfl (by decide), n_bind]
      by_cases h5 : tk_ t z p1 = 2 ∧ tv_ t z p1 = 5
      · have hp : p1 < z := tk_lt (t := t) (by omega)
        have hnx := nx_gt (t := t) hp
        obtain ⟨r2, a1, a2, a3, a4, a5, a6, a7⟩ := w_x (F := F) (x := 10) (y := (10 : Int32)) rfl q7 (by omega) n2
        obtain ⟨c3, r3, b1, b2, b3, b4, b5, b6, b7⟩ := mv_adv hF (ps_q a3 q4) hp n2
        have d3 : cd_ c3 r3 n2 := by
          refine cd_adv (c := c2) (r := r2) ⟨q5.1, ?_, fun i hi => ?_⟩ b6 b7
          · rw [a4]; exact q5.2.1
          · rw [a6, a7]; exact q5.2.2 i hi
        have f03 : frm_ n2 s1 r3 := frm_tr (frm_q a3) (frm_r b5) (Nat.le_refl n2)
        have f13 : frm_ n1 r1 r3 := frm_tr (frm_q q9) f03 q10
        have hm1 : f_X11_readAny_9 F (f1 + 1) (nI b) 0 r1 = f_X11_readAny_9 F f1 (nI b) 1 r3 := by
          show f_X11_readAny_9_b F _ _ _ _ = _
          unfold f_X11_readAny_9_b
          rw [if_pos rfl, mw_ (y := (5 : Int32)) (x := 5) q3.2.2.1 q3.2.2.2.1 rfl (by decide), n_bind, if_pos h5, if_neg n10, q2, n_bind, a1, n_bind, b2, n_bind]
        unfold f_X3_readEither_81
        rw [if_pos h5, if_neg n10, b1, n_bind, nI_1, hm1]
        rcases ih (z - tn_ t z (tqe_ t z p1)) (by omega) c3 r3 (tn_ t z (tqe_ t z p1)) n2 f1 g (m + 1) xo 1 O [10] rfl hO (Or.inr ⟨rfl, rfl⟩) b3 d3 (by show n2 + 1 + O.length ≤ _; omega) (by rw [b7.2 24 (by decide), a5]; exact q6) (skk_r b5 a2) (by omega) (by omega) (by omega) with ⟨c', r', r1', rs', p', n', f', w1, w2, w3, w3', w4, w5, w6, w6', w7, w8, w9, w10, w11, w12, w13, w14, w15, w16⟩ | ⟨c', r', w1, w2, w3⟩
        · have w14 : n' + tn_ t z (tqe_ t z p1) ≤ n2 + 1 + O.length + p' := w14
          refine Or.inl ⟨c', r', r1', rs', p', n', f', w1, w2, w3, w3', w4, w5, w6, w6', w7, w8, w9, fcc_tr e7 (fcc_tr q8 (fcc_tr b4 w10)), frm_tr e8 (frm_tr f13 w11 q10) e10, by omega, by omega, by omega, w15, fun st hst => ?_⟩
          have t1 := TY rs' (frm_tr f13 w11 q10) (frm_tr f03 w11 (Nat.le_refl n2)) st hst
          rw [show n' - n = (n2 - n) + (n' - n2) by omega, tyd_cat t1, show n + (n2 - n) = n2 by omega]
          exact w16 st hst
        · exact Or.inr ⟨c', r', w1, w2, flm_tr (fcc_tr e7 (fcc_tr q8 b4)) (frm_tr e8 f13 e10) (by omega) w3⟩
      · rw [if_neg h5, if_pos rfl]
        obtain ⟨c3, s2, n3, v1, v2, v3, v4, v5, v6, v7, v8, v9, v10, v11, v12, v13⟩ := pnd_ (x := 11) (w := -4) (y := xo) (u := (11 : Int32)) (A := O) (T := S) hF (Or.inr ⟨rfl, rfl⟩) rfl hO q4 q5 (by omega) q6 q7 (by omega) hv h11 (f_X3_readEither_69 F (f_X3_grp F D 1) (f_X3_readEither_7 F (f_X3_grp F D 1) g) (nI o) 0 (nI m))
        rw [v1]
        have TZ : ∀ rf : nd_Mem, frm_ n1 r1 rf → frm_ n2 s1 rf → frm_ n3 s2 rf → ∀ st : List Nat, st.length + (6 + 2 * (8 - o)) ≤ 48 → tyd_ rf n (n3 - n) (A.map (fun _ => 1) ++ (O.map (fun _ => 1) ++ st)) = some (1 :: st) := by
          intro rf k1 k2 k3 st hst
          have t1 := TY rf k1 k2 st hst
          have t2 : tyd_ rf n2 (n3 - n2) (1 :: (O.map (fun _ => 1) ++ st)) = some (1 :: st) := by
            rw [tyd_q (m := n3) k3.2 (by omega)]
            exact v13 _
          rw [show n3 - n = (n2 - n) + (n3 - n2) by omega, tyd_cat t1, show n + (n2 - n) = n2 by omega]
          exact t2
        have p31 : ps_k c3 r1 t z 0 p1 := ps_38 q3 v12 v8
        unfold f_X3_readEither_69
        rw [cw0 (y := (4 : Int32)) (x := 4) p31.1 p31.2.1 rfl (by decide), n_bind]
        by_cases h4 : tk_ t z p1 = 2 ∧ tv_ t z p1 = 4
        · have hp : p1 < z := tk_lt (t := t) (by omega)
          have hnx := nx_gt (t := t) hp
          obtain ⟨r2, a1, a2, a3, a4, a5, a6, a7⟩ := w_x (F := F) (x := 11) (y := (11 : Int32)) rfl v7 (by omega) n3
          obtain ⟨c4, r3, b1, b2, b3, b4, b5, b6, b7⟩ := mv_adv hF (ps_q a3 v4) hp n3
          have d3 : cd_ c4 r3 n3 := by
            refine cd_adv (c := c3) (r := r2) ⟨v5.1, ?_, fun i hi => ?_⟩ b6 b7
            · rw [a4]; exact v5.2.1
            · rw [a6, a7]; exact v5.2.2 i hi
          have f03 : frm_ n3 s2 r3 := frm_tr (frm_q a3) (frm_r b5) (Nat.le_refl n3)
          have f23 : frm_ n2 s1 r3 := frm_tr (frm_q v9) f03 v10
          have f13 : frm_ n1 r1 r3 := frm_tr (frm_q q9) f23 q10
          have hm1 : f_X11_readAny_9 F (f1 + 1) (nI b) 0 r1 = f_X11_readAny_9 F f1 (nI b) 1 r3 := by
            show f_X11_readAny_9_b F _ _ _ _ = _
            unfold f_X11_readAny_9_b
            rw [if_pos rfl, mw_ (y := (5 : Int32)) (x := 5) q3.2.2.1 q3.2.2.2.1 rfl (by decide), n_bind, if_neg h5, if_pos rfl, mw_ (y := (4 : Int32)) (x := 4) q3.2.2.1 q3.2.2.2.1 rfl (by decide), n_bind, if_pos h4, if_neg n10, q2, n_bind, v2, n_bind, a1, n_bind, b2, n_bind]
          unfold f_X3_readEither_81
          rw [if_pos h4, if_neg n10, b1, n_bind, nI_1, hm1]
          rcases ih (z - tn_ t z (tqe_ t z p1)) (by omega) c4 r3 (tn_ t z (tqe_ t z p1)) n3 f1 g (m + 1) 1 0 [11] [] rfl (Or.inr ⟨rfl, rfl⟩) (Or.inl ⟨rfl, rfl⟩) b3 d3 (by show n3 + 0 + 1 ≤ _; omega) (by rw [b7.2 24 (by decide), a5]; exact v6) (skk_r b5 a2) (by omega) (by omega) (by omega) with ⟨c', r', r1', rs', p', n', f', w1, w2, w3, w3', w4, w5, w6, w6', w7, w8, w9, w10, w11, w12, w13, w14, w15, w16⟩ | ⟨c', r', w1, w2, w3⟩
          · have w14 : n' + tn_ t z (tqe_ t z p1) ≤ n3 + 0 + 1 + p' := w14
            have k1 : frm_ n1 r1 rs' := frm_tr f13 w11 (by omega)
            refine Or.inl ⟨c', r', r1', rs', p', n', f', w1, w2, w3, w3', w4, w5, w6, w6', w7, w8, w9, fcc_tr e7 (fcc_tr q8 (fcc_tr v8 (fcc_tr b4 w10))), frm_tr e8 k1 e10, by omega, by omega, by omega, w15, fun st hst => ?_⟩
            have t1 := TZ rs' k1 (frm_tr f23 w11 v10) (frm_tr f03 w11 (Nat.le_refl n3)) st hst
            rw [show n' - n = (n3 - n) + (n' - n3) by omega, tyd_cat t1, show n + (n3 - n) = n3 by omega]
            exact w16 st hst
          · exact Or.inr ⟨c', r', w1, w2, flm_tr (fcc_tr e7 (fcc_tr q8 (fcc_tr v8 b4))) (frm_tr e8 f13 e10) (by omega) w3⟩
        · rw [if_neg h4, if_pos rfl]
          have k2 : frm_ n2 s1 s2 := frm_q v9
          have k1 : frm_ n1 r1 s2 := frm_tr (frm_q q9) k2 q10
          exact Or.inl ⟨c3, r1, s1, s2, p1, n3, f1 + 1, rfl, rfl, q2, v2, p31, v4, h5, h4, v5, v6, v7, fcc_tr e7 (fcc_tr q8 v8), frm_tr e8 k1 e10, e9, by omega, by omega, e12, fun st hst => TZ s2 k1 k2 frm_rf st hst⟩
    · rw [if_neg m4, e1, n_bind, if_pos rfl]
      exact Or.inr ⟨c1, r1, rfl, e2, e3⟩
theorem PB_s (hF : 300000 ≤ F) {D : Nat} (hC : PC_ F t z D) : PB_ F t z (D + 1) := by
  intro c r p n o b f S h hd hn ho h24 hs h9 h10 h11 hv hl hbo hD hf
  have hz := h.1.1
  have hcl : f_X3_grp F (D + 1) 0 (nI o) c = f_X3_readEither_7 F (f_X3_grp F D 1) F (nI o) 0 0 (nI 0) c := rfl
  rw [hcl]
  rcases lp_E (S := S) hF hC ho h9 h10 h11 hv hl hbo (by omega) (z - p) c r p n f F 0 0 0 [] [] rfl (Or.inl ⟨rfl, rfl⟩) (Or.inl ⟨rfl, rfl⟩) h hd hn h24 hs (by omega) (by omega) hf with ⟨c', r', r1', rs', p', n', f', w1, w2, w3, w3', w4, w5, w6, w6', w7, w8, w9, w10, w11, w12, w13, w14, w15, w16⟩ | ⟨c', r', w1, w2, w3⟩
  · exact Or.inl ⟨c', r', r1', rs', p', n', f', w1, w2, w3, w3', w4, w5, w6, w6', w7, w8, w9, w10, w11, w12, w13, w14, w15, w16⟩
  · exact Or.inr ⟨c', r', w1, w2, w3⟩
theorem PP_ (hF : 300000 ≤ F) : ∀ D : Nat, PC_ F t z D ∧ PB_ F t z D := by
  intro D
  induction D with
  | zero => exact ⟨fun c r p n o k b f S _ _ _ _ _ _ _ _ _ _ _ hD => by omega, fun c r p n o b f S _ _ _ _ _ _ _ _ _ _ _ _ hD => by omega⟩
  | succ D ih => exact ⟨PC_s hF ih.2 ih.1, PB_s hF ih.1⟩
/-- a condition, whole -/
theorem ls_any (hF : 300000 ≤ F) {c r : nd_Mem} {p n : Nat} (h : ps_k c r t z 0 p) (hd : cd_ c r n) (hn : n ≤ p) (h24 : r 60 24 = nI 0) : (∃ (c' r' : nd_Mem) (p' n' : Nat), f_X3_readEither F 40 0 c = some (1, c') ∧ f_X11_readAny F r = some (0, r') ∧ ps_k c' r' t z 0 p' ∧ cd_ c' r' n' ∧ r' 60 24 = nI 0 ∧ fcc_ c c' ∧ frm_ n r r' ∧ p < p' ∧ n ≤ n' ∧ n' + p ≤ n + p' ∧ tyd_ r' n (n' - n) [] = some [1]) ∨ ∃ c' r' : nd_Mem, f_X3_readEither F 40 0 c = some (0, c') ∧ f_X11_readAny F r = some (-1, r') ∧ flm_ n c r c' r' := by
  have hz := h.1.1
  have q0 : frq_ n r (nd_up r 60 26 0) := ⟨(by repeat first | exact fr_rf | (refine fr_up57 ?_ (by decide)) | (refine fr_up ?_ (by decide) (by decide)) | (refine fr_row ?_ (by decide) (by decide))), fun i _ => by rw [u_ne1 (by decide), u_ne1 (by decide)]; exact ⟨rfl, rfl⟩⟩
  have d0 : cd_ c (nd_up r 60 26 0) n := ⟨hd.1, by rw [u_ne2 (by decide)]; exact hd.2.1, fun i hi => by rw [u_ne1 (by decide), u_ne1 (by decide)]; exact hd.2.2 i hi⟩
  have nt : ∀ x : Nat, ntop_ x [] := fun x y T e => by cases e
  unfold f_X11_readAny
  rw [n_let]
  rcases (PP_ (F := F) (t := t) (z := z) hF 40).2 c (nd_up r 60 26 0) p n 0 0 F [] (ps_q q0 h) d0 hn (by omega) (by rw [u_ne2 (by decide)]; exact h24) ⟨u_eq _ _ _ _, trivial⟩ (nt 9) (nt 10) (nt 11) (fun y hy => absurd hy (List.not_mem_nil)) (Nat.zero_le _) (by omega) (by omega) (by omega) with ⟨c4, r4, r5, r6, p4, n4, f4, e1, e2, e3, e4, e5, e6, e7, e8, e9, e10, e11, e12, e13, e14, e15, e16, e17, e18⟩ | ⟨c4, r4, e1, e2, e3⟩
  · obtain ⟨f4, rfl⟩ : ∃ g, f4 = g + 1 := ⟨f4 - 1, by omega⟩
    have e2' : f_X11_readAny_9 F F 0 1 (nd_up r 60 26 0) = f_X11_readAny_9 F (f4 + 1) (nI 0) 0 r4 := e2
    rw [e2']
    have loop : f_X11_readAny_9 F (f4 + 1) (nI 0) 0 r4 = some (0, r6) := by
      show f_X11_readAny_9_b F _ _ _ _ = _
      unfold f_X11_readAny_9_b
      rw [if_pos rfl, mw_ (y := (5 : Int32)) (x := 5) e5.2.2.1 e5.2.2.2.1 rfl (by decide), n_bind, if_neg e7, if_pos rfl, mw_ (y := (4 : Int32)) (x := 4) e5.2.2.1 e5.2.2.2.1 rfl (by decide), n_bind, if_neg e8, if_pos rfl, e3, n_bind, e4, n_bind, if_pos (show nI 0 = (0 : Int32) from rfl)]
    exact Or.inl ⟨c4, r6, p4, n4, e1, loop, e6, e9, e10, e12, frm_tr (frm_q q0) e13 (Nat.le_refl n), e14, e15, e16, e18 [] (by decide)⟩
  · exact Or.inr ⟨c4, r4, e1, e2, flm_tr fcc_rf (frm_q q0) (Nat.le_refl n) e3⟩
end CQ
