/-! text: comparisons -/
def flm_ (n : Nat) (c r c' r' : nd_Mem) : Prop := c' 38 3 = r' 60 27 ∧ c' 38 4 = r' 60 28 ∧ fcc_ c c' ∧ frm_ n r r' ∧ ∃ m : Nat, m ≤ 400 ∧ c' 42 1 = nI m
section CP
variable {F z p n k m : Nat} {c r : nd_Mem} {t : Nat → Nat}
theorem add_any {x : Int32} (h : ∃ m : Nat, m ≤ 400 ∧ c 42 1 = nI m) : ∃ (y : Int32) (c' : nd_Mem), f_X4_add F 42 43 400 x c = some (y, c') ∧ c' 38 = c 38 ∧ fcc_ c c' ∧ ∃ m : Nat, m ≤ 400 ∧ c' 42 1 = nI m := by
  obtain ⟨m, h1, h2⟩ := h
  by_cases hm : m < 400
  · refine ⟨_, _, e_add (by decide) h2 (by decide) hm x, ?_, ⟨fun i a1 a2 a3 => by rw [nd_up_ne a2, nd_up_ne a3], fun j _ => by rw [u_ne1 (by decide), u_ne1 (by decide)]⟩, m + 1, by omega, u_eq _ _ _ _⟩
    rw [nd_up_ne (by decide), nd_up_ne (by decide)]
  · exact ⟨_, _, e_add_full h2 (by decide) (by omega) (by omega) x, rfl, fcc_rf, m, h1, h2⟩
theorem cw0 (hb : cb_ c t z 0) (h : ctk_ c t z 0 p) {x : Nat} {y : Int32} (hy : y = nI x) (hx : x < 17) : f_X3_isWord F y c = some (if tk_ t z p = 2 ∧ tv_ t z p = x then 1 else 0, c) := by
  rw [cs_w (x := x) hb h hy (by rw [k0_len]; exact hx)]
  by_cases h2 : tk_ t z p = 2
  · have e := kx_0 hb.2.1 h2
    by_cases h17 : tv_ t z p < 17
    · rw [if_pos h17] at e
      rw [e]
    · rw [if_neg h17] at e
      rw [if_neg (fun q => by omega), if_neg (fun q => by omega)]
  · rw [if_neg (fun q => h2 q.1), if_neg (fun q => h2 q.1)]
theorem flw_m {c' r' : nd_Mem} (h : flw_ n c r c' r') : flm_ n c r c' r' := ⟨h.1.1, h.1.2.1, h.1.2.2.1, frm_r h.1.2.2.2, h.2⟩
theorem flm_tr {n m : Nat} {c1 r1 c2 r2 : nd_Mem} (h1 : fcc_ c c1) (h2 : frm_ n r r1) (hn : n ≤ m) (h : flm_ m c1 r1 c2 r2) : flm_ n c r c2 r2 := ⟨h.1, h.2.1, fcc_tr h1 h.2.2.1, frm_tr h2 h.2.2.2.1 hn, h.2.2.2.2⟩
theorem ls_cmp (hF : 300000 ≤ F) {sE sC : Int32 → nd_Mem → nd_Res} {x1 : Int32} (h : ps_k c r t z 0 p) (hd : cd_ c r n) (hn : n ≤ p) (h40 : ¬ (tk_ t z p = 4 ∧ tv_ t z p = 40)) (h6 : ¬ (tk_ t z p = 2 ∧ tv_ t z p = 6)) : (∃ (c' r' : nd_Mem) (p' n' : Nat), f_X3_readCondition_r F sE sC x1 c = some (1, c') ∧ f_X11_readCompared F r = some (0, r') ∧ ps_k c' r' t z 0 p' ∧ cd_ c' r' n' ∧ fcc_ c c' ∧ frr_ n r r' ∧ p < p' ∧ n ≤ n' ∧ n' + p ≤ n + p' ∧ ∀ st : List Nat, st.length + 4 ≤ 48 → tyd_ r' n (n' - n) st = some (1 :: st)) ∨ ∃ c' r' : nd_Mem, f_X3_readCondition_r F sE sC x1 c = some (0, c') ∧ f_X11_readCompared F r = some (-1, r') ∧ flw_ n c r c' r' := by
  have hz := h.1.1
  have start : f_X3_readCondition_r F sE sC x1 c = nd_bind (f_X3_readSum F c) fun r7 σ8 => (if r7 = 0 then (some ((0 : Int32), σ8)) else (nd_bind (f_X3_isSign F (60 : Int32) σ8) fun r10 σ11 => (if r10 = 0 then (nd_bind (f_X3_isSign F (61 : Int32) σ11) fun r13 σ14 => (if r13 = 0 then (nd_bind (f_X3_isSign F (62 : Int32) σ14) fun r16 σ17 => (if r16 = 0 then (nd_bind (f_X3_refuse F (1 : Int32) σ17) fun r19 σ20 => (if ¬ (r19 = 0 ∨ r19 = 1) then none else (some (r19, σ20)))) else (f_X3_readCondition_137 F sE sC (σ8 38 12) σ17))) else (f_X3_readCondition_137 F sE sC (σ8 38 12) σ14))) else (f_X3_readCondition_137 F sE sC (σ8 38 12) σ11)))) := by
    unfold f_X3_readCondition_r
    rw [cs_s (y := (40 : Int32)) (x := 40) h.1 h.2.1 rfl (by decide), n_bind, if_neg h40, if_pos rfl, cw0 (y := (6 : Int32)) (x := 6) h.1 h.2.1 rfl (by decide), n_bind, if_neg h6, if_pos rfl]
  rw [start]
  unfold f_X11_readCompared
  rcases ls_sum (F := F) hF h hd hn with ⟨c1, r1, p1, n1, a1, a2, a3, a4, a5, a6, a7, a8, a9, a10⟩ | ⟨c1, r1, a1, a2, a3⟩
  · have hp1 := a3.2.2.2.2
    rw [a1, n_bind, if_neg n10, a2, n_bind, if_neg (show ¬ (0 : Int32) = -1 by decide), cs_s (y := (60 : Int32)) (x := 60) a3.1 a3.2.1 rfl (by decide), n_bind, ms_ (y := (60 : Int32)) (x := 60) a3.2.2.1 a3.2.2.2.1 rfl (by decide), n_bind]
    have both : ∀ (sg o : Nat), tk_ t z p1 = 4 → tv_ t z p1 = sg → (sg = 60 ∧ o = 6 ∨ sg = 61 ∧ o = 7 ∨ sg = 62 ∧ o = 8) → f_X11_readCompared_43 F r1 = f_X11_readCompared_73 F (nI o) r1 ∧ ((∃ (c' r' : nd_Mem) (p' n' : Nat), f_X3_readCondition_137 F sE sC (c1 38 12) c1 = some (1, c') ∧ f_X11_readCompared_43 F r1 = some (0, r') ∧ ps_k c' r' t z 0 p' ∧ cd_ c' r' n' ∧ fcc_ c c' ∧ frr_ n r r' ∧ p < p' ∧ n ≤ n' ∧ n' + p ≤ n + p' ∧ ∀ st : List Nat, st.length + 4 ≤ 48 → tyd_ r' n (n' - n) st = some (1 :: st)) ∨ ∃ c' r' : nd_Mem, f_X3_readCondition_137 F sE sC (c1 38 12) c1 = some (0, c') ∧ f_X11_readCompared_43 F r1 = some (-1, r') ∧ flw_ n c r c' r') := by
      intro sg o hk hv hso
      have h13 : r1 60 13 = nI sg := by rw [a3.2.2.2.1.2.2.2 (by omega), hv]
      have c8 : c1 38 12 = nI sg := by rw [(a3.2.1.2.2.2.2.2.2.2 hk).2, hv]
      have e43 : f_X11_readCompared_43 F r1 = f_X11_readCompared_73 F (nI o) r1 := by
        unfold f_X11_readCompared_43
        rw [h13]
        rcases hso with ⟨rfl, rfl⟩ | ⟨rfl, rfl⟩ | ⟨rfl, rfl⟩
        · rw [if_pos (show nI 60 = (60 : Int32) from rfl)]; rfl
        · rw [if_neg (show ¬ nI 61 = (60 : Int32) by decide), if_pos (show nI 61 = (61 : Int32) from rfl)]; rfl
        · rw [if_neg (show ¬ nI 62 = (60 : Int32) by decide), if_neg (show ¬ nI 62 = (61 : Int32) by decide)]; rfl
      refine ⟨e43, ?_⟩
      rw [e43]
      have hp1z : p1 < z := tk_lt (t := t) (by omega)
      have hnx := nx_gt (t := t) hp1z
      obtain ⟨c2, r2, s1, s2, s3, s4, s5, s6, s7⟩ := mv_adv hF a3 hp1z n1
      unfold f_X3_readCondition_137 f_X11_readCompared_73
      rw [s1, n_bind, s2, n_bind, c8]
      rcases ls_sum (F := F) hF s3 (cd_adv a4 s6 s7) (by omega) with ⟨c3, r3, p3, n3, b1, b2, b3, b4, b5, b6, b7, b8, b9, b10⟩ | ⟨c3, r3, b1, b2, b3⟩
      · have hp3 := b3.2.2.2.2
        have hcode : iv_code (-nI sg) (nI o) 0 := by
          rcases hso with ⟨rfl, rfl⟩ | ⟨rfl, rfl⟩ | ⟨rfl, rfl⟩
          · exact Or.inr (Or.inr (Or.inr (Or.inr (Or.inr (Or.inr (Or.inl ⟨rfl, by decide⟩))))))
          · exact Or.inr (Or.inr (Or.inr (Or.inr (Or.inr (Or.inr (Or.inr (Or.inl ⟨rfl, by decide⟩)))))))
          · exact Or.inr (Or.inr (Or.inr (Or.inr (Or.inr (Or.inr (Or.inr (Or.inr (Or.inl ⟨rfl, by decide⟩))))))))
        obtain ⟨y, c4, r4, q1, q2, q3, q4, q5, q6, q7, _, _⟩ := mv_emit (F := F) b3 b4 (by omega) hcode
        rw [b1, n_bind, b2, n_bind, if_neg (show ¬ (0 : Int32) = -1 by decide), q1, n_bind, if_neg (by decide), q2, n_bind]
        have fin : frr_ n1 r1 r4 := frr_tr s5 (frr_tr b6 q6 b8) (Nat.le_refl _)
        refine Or.inl ⟨c4, r4, p3, n3 + 1, rfl, rfl, q3, q4, fcc_tr a5 (fcc_tr s4 (fcc_tr b5 q5)), frr_tr a6 fin a8, by omega, by omega, by omega, fun st hs => ?_⟩
        obtain ⟨v, hv1⟩ := a10 [] st rfl (by omega)
        obtain ⟨w, hw1⟩ := b10 [] (v :: st) rfl (by rw [List.length_cons]; omega)
        have t1 : tyd_ r4 n (n1 - n) st = some (v :: st) := by rw [tyd_c fin (by omega)]; exact hv1
        have t2 : tyd_ r4 n1 (n3 - n1) (v :: st) = some (w :: v :: st) := by rw [tyd_c q6 (by omega)]; exact hw1
        rw [show n3 + 1 - n = (n1 - n) + ((n3 - n1) + 1) by omega, tyd_cat t1, show n + (n1 - n) = n1 by omega, tyd_cat t2, show n1 + (n3 - n1) = n3 by omega, tyd_1, q7.1, q7.2]
        rcases hso with ⟨rfl, rfl⟩ | ⟨rfl, rfl⟩ | ⟨rfl, rfl⟩ <;> rfl
      · obtain ⟨y, c4, q1, q2, q3, q4⟩ := add_any (F := F) (x := -nI sg) b3.2
        rw [b1, n_bind, b2, n_bind, if_pos rfl, q1, n_bind, if_neg (by decide)]
        refine Or.inr ⟨c4, r3, rfl, rfl, ?_, q4⟩
        have := flt_tr a5 a6 a8 (flt_tr s4 s5 (Nat.le_refl _) b3.1)
        exact ⟨by rw [q2]; exact this.1, by rw [q2]; exact this.2.1, fcc_tr this.2.2.1 q3, this.2.2.2⟩
    by_cases e60 : tk_ t z p1 = 4 ∧ tv_ t z p1 = 60
    · rw [if_pos e60, if_neg n10, if_neg n10]
      exact (both 60 6 e60.1 e60.2 (Or.inl ⟨rfl, rfl⟩)).2
    · rw [if_neg e60, if_pos rfl, if_pos rfl, cs_s (y := (61 : Int32)) (x := 61) a3.1 a3.2.1 rfl (by decide), n_bind, ms_ (y := (61 : Int32)) (x := 61) a3.2.2.1 a3.2.2.2.1 rfl (by decide), n_bind]
      by_cases e61 : tk_ t z p1 = 4 ∧ tv_ t z p1 = 61
      · rw [if_pos e61, if_neg n10, if_neg n10]
        exact (both 61 7 e61.1 e61.2 (Or.inr (Or.inl ⟨rfl, rfl⟩))).2
      · rw [if_neg e61, if_pos rfl, if_pos rfl, cs_s (y := (62 : Int32)) (x := 62) a3.1 a3.2.1 rfl (by decide), n_bind, ms_ (y := (62 : Int32)) (x := 62) a3.2.2.1 a3.2.2.2.1 rfl (by decide), n_bind]
        by_cases e62 : tk_ t z p1 = 4 ∧ tv_ t z p1 = 62
        · rw [if_pos e62, if_neg n10, if_neg n10]
          exact (both 62 8 e62.1 e62.2 (Or.inr (Or.inr ⟨rfl, rfl⟩))).2
        · obtain ⟨c', r', w1, w2, w3, w4⟩ := mv_ref (F := F) (y := 1) a3 n1
          rw [if_neg e62, if_pos rfl, if_pos rfl, w1, n_bind, if_neg (by decide), w2, n_bind]
          exact Or.inr ⟨c', r', rfl, rfl, flt_tr a5 a6 a8 w3, n1, by omega, by rw [w4]; exact a4.1⟩
  · rw [a1, n_bind, if_pos rfl, a2, n_bind, if_pos rfl]
    exact Or.inr ⟨c1, r1, rfl, rfl, a3⟩
end CP
