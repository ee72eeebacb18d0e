/-! bought -/
theorem up_row_ne {σ : nd_Mem} {i j k : Nat} {g : Nat → Int32} {v : Int32} (h : i ≠ j) : nd_up (nd_row σ j g) i k v = nd_row (nd_up σ i k v) j g := by
  funext a b
  by_cases h1 : a = j
  · subst h1
    rw [w_eq, u_ne1 (Ne.symm h), w_eq]
  · rw [w_ne h1]
    by_cases h2 : a = i
    · subst h2
      by_cases h3 : b = k
      · subst h3
        rw [u_eq, u_eq]
      · rw [u_ne2 h3, u_ne2 h3, w_ne h1]
    · rw [u_ne1 h2, u_ne1 h2, w_ne h1]
def b3_ (σ : nd_Mem) (g1 g2 g3 : Nat → Int32) : nd_Mem := nd_row (nd_row (nd_row σ 85 g1) 86 g2) 87 g3
theorem bo_clr {F : Nat} {σ : nd_Mem} : ∀ (d i f : Nat) (g1 g2 g3 : Nat → Int32), i + d = 9 → d < f → ∃ h1 h2 h3 : Nat → Int32, f_X11_bought_17 F f (nI i) (b3_ σ g1 g2 g3) = some (0, b3_ σ h1 h2 h3) ∧ ∀ j : Nat, j < 9 → (i ≤ j → h1 j = 0 ∧ h2 j = 0 ∧ h3 j = 0) ∧ (j < i → h1 j = g1 j ∧ h2 j = g2 j ∧ h3 j = g3 j) := by
  intro d
  induction d with
  | zero =>
    intro i f g1 g2 g3 hi hf
    obtain ⟨f, rfl⟩ : ∃ g, f = g + 1 := ⟨f - 1, by omega⟩
    refine ⟨g1, g2, g3, ?_, fun j hj => ⟨fun e => by omega, fun _ => ⟨rfl, rfl, rfl⟩⟩⟩
    show f_X11_bought_17_b F _ _ _ = _
    unfold f_X11_bought_17_b
    rw [if_pos (show (9 : Int32) ≤ nI i from nI_le (a := 9) (by omega) (by omega))]
  | succ d ih =>
    intro i f g1 g2 g3 hi hf
    obtain ⟨f, rfl⟩ : ∃ g, f = g + 1 := ⟨f - 1, by omega⟩
    obtain ⟨h1, h2, h3, e1, e2⟩ := ih (i + 1) f (upd g1 i 0) (upd g2 i 0) (upd g3 i 0) (by omega) (by omega)
    refine ⟨h1, h2, h3, ?_, fun j hj => ⟨fun hij => ?_, fun hji => ?_⟩⟩
    · show f_X11_bought_17_b F _ _ _ = _
      unfold f_X11_bought_17_b b3_
      rw [if_neg (show ¬ (9 : Int32) ≤ nI i from nI_ge (b := 9) (by omega) (by omega)), if_neg (nI_in (by omega) (by decide)), nI_clamp (by omega), n_let, if_neg (nn_in (by omega) (by omega)), n_let, if_neg (nn_in (by omega) (by omega)), n_let, up_row_ne (by decide), up_row_ne (by decide), up_row, up_row_ne (by decide), up_row, up_row, nI_1]
      exact e1
    · by_cases hj2 : j = i
      · subst hj2
        have := (e2 j hj).2 (by omega)
        rw [upd_eq, upd_eq, upd_eq] at this
        exact this
      · exact (e2 j hj).1 (by omega)
    · have := (e2 j hj).2 (by omega)
      rw [upd_ne (by omega), upd_ne (by omega), upd_ne (by omega)] at this
      exact this
theorem tb_or {m b y : Nat} {p q : Prop} [Decidable p] [Decidable q] (h : m.testBit y = decide p) (hpq : q ↔ p ∨ b = y) : (m ||| 2 ^ b).testBit y = decide q := by
  rw [Nat.testBit_or, h, Nat.testBit_two_pow, Bool.eq_iff_iff]
  simp only [Bool.or_eq_true, decide_eq_true_eq]
  exact hpq.symm
theorem tb_lt {m b : Nat} (hm : m < 512) (hb : b < 9) : m ||| 2 ^ b < 512 := Nat.or_lt_two_pow (n := 9) hm (Nat.pow_lt_pow_right (by decide) hb)
theorem op_bought {F : Nat} (hF : 300000 ≤ F) (x1 x2 : Int32) : op_ (f_X10_bought F x1 x2) (f_X11_bought F x1 x2) := by
  intro σ n hI
  obtain ⟨⟨hn, hq1, hq2, hq3, hq4, hq5, hq6, hq7, hq8, hla, hpl, hfd, hsd⟩, hpa, htp, hpi, hfx⟩ := id hI
  obtain ⟨cs, c1, c2, c3, c4, c5⟩ := id hq2
  have hf0 : fr_ [] [0] σ (nd_up σ 60 0 0) := (by repeat first | exact fr_rf | (refine fr_up57 ?_ (by decide)) | (refine fr_up ?_ (by decide) (by decide)) | (refine fr_row ?_ (by decide) (by decide)))
  have no : f_X10_bought F x1 x2 σ = some (-1, σ) → f_X11_bought F x1 x2 σ = some (-1, nd_up σ 60 0 0) → ∃ (r : Int32) (τ ρ : nd_Mem) (n' : Nat), f_X10_bought F x1 x2 σ = some (r, τ) ∧ f_X11_bought F x1 x2 τ = some (r, ρ) ∧ iv_I n' ρ ∧ ρ 0 10 = σ 0 10 := fun e1 e2 => ⟨-1, σ, _, n, e1, e2, iv_fr hf0 (by decide) hI, rfl⟩
  by_cases h1 : x1 = -1
  · have eb : b3_ (nd_up (nd_up (nd_up σ 15 1 0) 60 0 0) 60 45 0) (σ 85) (σ 86) (σ 87) = nd_up (nd_up (nd_up σ 15 1 0) 60 0 0) 60 45 0 := by
      unfold b3_
      have a1 : nd_up (nd_up (nd_up σ 15 1 0) 60 0 0) 60 45 0 85 = σ 85 := rfl
      have a2 : nd_up (nd_up (nd_up σ 15 1 0) 60 0 0) 60 45 0 86 = σ 86 := rfl
      have a3 : nd_up (nd_up (nd_up σ 15 1 0) 60 0 0) 60 45 0 87 = σ 87 := rfl
      generalize nd_up (nd_up (nd_up σ 15 1 0) 60 0 0) 60 45 0 = τ at *
      rw [← a1, row_id, ← a2, row_id, ← a3, row_id]
    obtain ⟨g1, g2, g3, e1, e2⟩ := bo_clr (F := F) (σ := nd_up (nd_up (nd_up σ 15 1 0) 60 0 0) 60 45 0) 9 0 F (σ 85) (σ 86) (σ 87) (by omega) (by omega)
    rw [eb] at e1
    have hf : fr_ [15, 85, 86, 87] [0, 45] σ (b3_ (nd_up (nd_up (nd_up σ 15 1 0) 60 0 0) 60 45 0) g1 g2 g3) := by
      unfold b3_
      exact (by repeat first | exact fr_rf | (refine fr_up57 ?_ (by decide)) | (refine fr_up ?_ (by decide) (by decide)) | (refine fr_row ?_ (by decide) (by decide)))
    refine ⟨0, nd_up σ 15 1 0, _, n, ?_, ?_, ⟨⟨c_hn (fr_use hf (by decide)) hn, c_hq1 (fr_use hf (by decide)) hq1, ?_, c_hq3 (fr_use hf (by decide)) hq3, c_hq4 (fr_use hf (by decide)) hq4, c_hq5 (fr_use hf (by decide)) hq5, c_hq6 (fr_use hf (by decide)) hq6, c_hq7 (fr_use hf (by decide)) hq7, c_hq8 (fr_use hf (by decide)) hq8, c_hla (fr_use hf (by decide)) hla, c_hpl (fr_use hf (by decide)) hpl, c_hfd (fr_use hf (by decide)) hfd, c_hsd (fr_use hf (by decide)) hsd⟩, c_hpa (fr_use hf (by decide)) hpa, c_htp (fr_use hf (by decide)) htp, c_hpi (fr_use hf (by decide)) hpi, c_hfx (fr_use hf (by decide)) hfx⟩, congrFun (hf.1 0 (by decide) (by decide)) 10⟩
    · unfold f_X10_bought
      rw [if_pos h1, e_clear, n_bind]
    · unfold f_X11_bought
      rw [n_let, if_pos h1, n_let]
      exact e1
    · refine ⟨[], by simp, rfl, rfl, fun i c hc => by simp at hc, fun x hx => ?_⟩
      obtain ⟨z1, z2, z3⟩ := (e2 x hx).1 (by omega)
      refine ⟨⟨0, by omega, z1, fun y => by simp⟩, ⟨0, by omega, z2, fun y => by simp⟩, ⟨0, by omega, z3, fun y => by simp⟩⟩
  · have e45 : nd_up σ 60 0 0 60 45 = nI cs.length := c3
    by_cases hv : (0 ≤ x1 ∧ x1 ≤ 8) ∧ (0 ≤ x2 ∧ x2 ≤ 8) ∧ x1 ≠ x2
    · obtain ⟨⟨u1, u2⟩, ⟨v1, v2⟩, hne⟩ := hv
      obtain ⟨a, ha, rfl⟩ := i32_rng (m := 8) (by decide) u1 u2
      obtain ⟨b, hb, rfl⟩ := i32_rng (m := 8) (by decide) v1 v2
      have hab : a ≠ b := fun e => hne (by rw [e])
      have n1 : ¬ nI a < 0 := nI_pos (by omega)
      have n2 : ¬ (8 : Int32) < nI a := nI_nlt (a := 8) (by omega) (by omega)
      have n3 : ¬ nI b < 0 := nI_pos (by omega)
      have n4 : ¬ (8 : Int32) < nI b := nI_nlt (a := 8) (by omega) (by omega)
      have e16 : nI a * 16 + nI b = nI (16 * a + b) := by
        rw [show (16 : Int32) = nI 16 from rfl, n_mul, n_add, Nat.mul_comm]
      by_cases h6 : cs.length = 6
      · refine no ?_ ?_
        · unfold f_X10_bought f_X10_bought_46
          rw [if_neg h1, if_neg n1, if_neg n2, if_neg n3, if_neg n4, if_neg hne, if_neg n10, e_add_full c2 (by decide) (by omega) (by omega), n_bind]
        · unfold f_X11_bought f_X11_bought_88
          rw [n_let, if_neg h1, e_isIn, n_bind, if_neg (show ¬ (nI a < 0 ∨ 8 < nI a) from fun e => e.elim n1 n2), if_neg n10, e_isIn, n_bind, if_neg (show ¬ (nI b < 0 ∨ 8 < nI b) from fun e => e.elim n3 n4), if_neg n10, if_neg hne, e45, h6, if_pos (by decide)]
      · obtain ⟨⟨ma, ma1, ma2, ma3⟩, ⟨pa, pa1, pa2, pa3⟩, qa, qa1, qa2, qa3⟩ := c5 a (by omega)
        obtain ⟨⟨mb, mb1, mb2, mb3⟩, ⟨pb, pb1, pb2, pb3⟩, qb, qb1, qb2, qb3⟩ := c5 b (by omega)
        have h1a : (1 : Int32) <<< (nI a &&& 31) = nI (2 ^ a) := n_one (by omega)
        have h1b : (1 : Int32) <<< (nI b &&& 31) = nI (2 ^ b) := n_one (by omega)
        have hf : fr_ [15, 16, 85, 86, 87] [0, 45] σ (nd_up (nd_up (nd_up (nd_up (nd_up (nd_up (nd_up (nd_up σ 16 cs.length (nI (16 * a + b))) 15 1 (nI (cs.length + 1))) 60 0 0) 85 a (nI (ma ||| 2 ^ b))) 85 b (nI (mb ||| 2 ^ a))) 86 a (nI (pa ||| 2 ^ b))) 87 b (nI (qb ||| 2 ^ a))) 60 45 (nI (cs.length + 1))) := (by repeat first | exact fr_rf | (refine fr_up57 ?_ (by decide)) | (refine fr_up ?_ (by decide) (by decide)) | (refine fr_row ?_ (by decide) (by decide)))
        refine ⟨nI (cs.length + 1), nd_up (nd_up σ 16 cs.length (nI (16 * a + b))) 15 1 (nI (cs.length + 1)), _, n, ?_, ?_, ⟨⟨c_hn (fr_use hf (by decide)) hn, c_hq1 (fr_use hf (by decide)) hq1, ?_, c_hq3 (fr_use hf (by decide)) hq3, c_hq4 (fr_use hf (by decide)) hq4, c_hq5 (fr_use hf (by decide)) hq5, c_hq6 (fr_use hf (by decide)) hq6, c_hq7 (fr_use hf (by decide)) hq7, c_hq8 (fr_use hf (by decide)) hq8, c_hla (fr_use hf (by decide)) hla, c_hpl (fr_use hf (by decide)) hpl, c_hfd (fr_use hf (by decide)) hfd, c_hsd (fr_use hf (by decide)) hsd⟩, c_hpa (fr_use hf (by decide)) hpa, c_htp (fr_use hf (by decide)) htp, c_hpi (fr_use hf (by decide)) hpi, c_hfx (fr_use hf (by decide)) hfx⟩, congrFun (hf.1 0 (by decide) (by decide)) 10⟩
        · unfold f_X10_bought f_X10_bought_46
          rw [if_neg h1, if_neg n1, if_neg n2, if_neg n3, if_neg n4, if_neg hne, if_neg n10, e16, e_add (by decide) c2 (by decide) (by omega), n_bind]
        · have e45' : nd_up (nd_up (nd_up σ 16 cs.length (nI (16 * a + b))) 15 1 (nI (cs.length + 1))) 60 0 0 60 45 = nI cs.length := c3
          have f82 : nd_up (nd_up (nd_up σ 16 cs.length (nI (16 * a + b))) 15 1 (nI (cs.length + 1))) 60 0 0 85 = σ 85 := rfl
          have f83 : nd_up (nd_up (nd_up σ 16 cs.length (nI (16 * a + b))) 15 1 (nI (cs.length + 1))) 60 0 0 86 = σ 86 := rfl
          have f84 : nd_up (nd_up (nd_up σ 16 cs.length (nI (16 * a + b))) 15 1 (nI (cs.length + 1))) 60 0 0 87 = σ 87 := rfl
          unfold f_X11_bought
          rw [n_let]
          generalize nd_up (nd_up (nd_up σ 16 cs.length (nI (16 * a + b))) 15 1 (nI (cs.length + 1))) 60 0 0 = τ at *
          rw [if_neg h1, e_isIn, n_bind, if_neg (show ¬ (nI a < 0 ∨ 8 < nI a) from fun e => e.elim n1 n2), if_neg n10, e_isIn, n_bind, if_neg (show ¬ (nI b < 0 ∨ 8 < nI b) from fun e => e.elim n3 n4), if_neg n10, if_neg hne, e45', if_neg (show ¬ nI cs.length = (6 : Int32) from fun e => h6 ((nI_eq (b := 6) (by omega) (by decide)).mp e)), if_neg (nI_in (by omega) (by decide)), if_neg (nI_in (by omega) (by decide)), nI_clamp (by omega), n_let, if_neg (nI_in (by omega) (by decide)), if_neg (nI_in (by omega) (by decide)), nI_clamp (by omega), n_let, if_neg (nn_in (by omega) (by omega)), if_neg (nn_in (by omega) (by omega)), n_let, if_neg (nn_in (by omega) (by omega)), if_neg (nn_in (by omega) (by omega)), n_let, n_let]
          rw [f82, ma2, h1b, n_or, h1a]
          have g1 : nd_up τ 85 a (nI (ma ||| 2 ^ b)) 85 b = nI mb := by rw [u_ne2 (Ne.symm hab), f82, mb2]
          rw [g1, n_or]
          have g2 : nd_up (nd_up τ 85 a (nI (ma ||| 2 ^ b))) 85 b (nI (mb ||| 2 ^ a)) 86 a = nI pa := by rw [u_ne1 (by decide), u_ne1 (by decide), f83, pa2]
          rw [g2, n_or]
          have g3 : nd_up (nd_up (nd_up τ 85 a (nI (ma ||| 2 ^ b))) 85 b (nI (mb ||| 2 ^ a))) 86 a (nI (pa ||| 2 ^ b)) 87 b = nI qb := by rw [u_ne1 (by decide), u_ne1 (by decide), u_ne1 (by decide), f84, qb2]
          rw [g3, n_or]
          have g4 : nd_up (nd_up (nd_up (nd_up τ 85 a (nI (ma ||| 2 ^ b))) 85 b (nI (mb ||| 2 ^ a))) 86 a (nI (pa ||| 2 ^ b))) 87 b (nI (qb ||| 2 ^ a)) 60 45 = nI cs.length := by rw [u_ne1 (by decide), u_ne1 (by decide), u_ne1 (by decide), u_ne1 (by decide), e45']
          rw [g4, nI_1, u_eq]
        · refine ⟨cs ++ [(a, b)], by simp; omega, by simp [u_app], by simp [u_app], fun i c hc => ?_, fun x hx => ?_⟩
          · show _ ∧ _ ∧ _ ∧ upd (σ 16) cs.length (nI (16 * a + b)) i = _
            by_cases hi : i < cs.length
            · rw [List.getElem?_append_left hi] at hc
              rw [upd_ne (by omega)]
              exact c4 i c hc
            · rw [List.getElem?_append_right (by omega)] at hc
              have hi0 : i - cs.length = 0 := by
                cases hh : i - cs.length with
                | zero => rfl
                | succ k => rw [hh] at hc; simp at hc
              have hil : i = cs.length := by omega
              subst hil
              rw [hi0] at hc
              have : c = (a, b) := by simpa using hc.symm
              subst this
              rw [upd_eq]
              exact ⟨by omega, by omega, hab, rfl⟩
          · obtain ⟨⟨m, m1, m2, m3⟩, ⟨p, p1, p2, p3⟩, q, q1, q2, q3⟩ := c5 x hx
            refine ⟨?_, ?_, ?_⟩
            · show ∃ m : Nat, m < 512 ∧ upd (upd (σ 85) a (nI (ma ||| 2 ^ b))) b (nI (mb ||| 2 ^ a)) x = nI m ∧ _
              by_cases hxb : x = b
              · subst hxb
                refine ⟨_, tb_lt mb1 (by omega), upd_eq, fun y => tb_or (mb3 y) ?_⟩
                simp only [List.mem_append, List.mem_singleton, Prod.mk.injEq]
                grind
              · rw [upd_ne hxb]
                by_cases hxa : x = a
                · subst hxa
                  refine ⟨_, tb_lt ma1 (by omega), upd_eq, fun y => tb_or (ma3 y) ?_⟩
                  simp only [List.mem_append, List.mem_singleton, Prod.mk.injEq]
                  grind
                · rw [upd_ne hxa]
                  refine ⟨m, m1, m2, fun y => ?_⟩
                  rw [m3 y]
                  congr 1
                  simp only [List.mem_append, List.mem_singleton, Prod.mk.injEq]
                  grind
            · show ∃ m : Nat, m < 512 ∧ upd (σ 86) a (nI (pa ||| 2 ^ b)) x = nI m ∧ _
              by_cases hxa : x = a
              · subst hxa
                refine ⟨_, tb_lt pa1 (by omega), upd_eq, fun y => tb_or (pa3 y) ?_⟩
                simp only [List.mem_append, List.mem_singleton, Prod.mk.injEq]
                grind
              · rw [upd_ne hxa]
                refine ⟨p, p1, p2, fun y => ?_⟩
                rw [p3 y]
                congr 1
                simp only [List.mem_append, List.mem_singleton, Prod.mk.injEq]
                grind
            · show ∃ m : Nat, m < 512 ∧ upd (σ 87) b (nI (qb ||| 2 ^ a)) x = nI m ∧ _
              by_cases hxb : x = b
              · subst hxb
                refine ⟨_, tb_lt qb1 (by omega), upd_eq, fun y => tb_or (qb3 y) ?_⟩
                simp only [List.mem_append, List.mem_singleton, Prod.mk.injEq]
                grind
              · rw [upd_ne hxb]
                refine ⟨q, q1, q2, fun y => ?_⟩
                rw [q3 y]
                congr 1
                simp only [List.mem_append, List.mem_singleton, Prod.mk.injEq]
                grind
    · refine no ?_ ?_
      · unfold f_X10_bought f_X10_bought_45 f_X10_bought_46
        rw [if_neg h1, if_pos rfl]
        grind
      · unfold f_X11_bought f_X11_bought_88
        rw [n_let, if_neg h1, e_isIn, n_bind, e_isIn, n_bind]
        by_cases k1 : x1 < 0 ∨ 8 < x1
        · rw [if_pos k1, if_pos rfl]
        · rw [if_neg k1, if_neg n10]
          by_cases k2 : x2 < 0 ∨ 8 < x2
          · rw [if_pos k2, if_pos rfl]
          · rw [if_neg k2, if_neg n10, if_pos (by grind)]
