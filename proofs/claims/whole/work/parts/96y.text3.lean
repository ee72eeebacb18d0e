/-! text: plans, feuds and sides -/
section TZ
variable {F n m k l : Nat} {t : Nat → Nat} {c r c' r' : nd_Mem}
theorem tq_k {c3 c4 r3 r4 : nd_Mem} (D3 : fD_ c c3) (R3 : rD_ r r3) (h2 : c3 38 2 = 0) (h9 : r3 60 9 = 0) (h3 : c3 38 3 = r3 60 29) (h4 : c3 38 4 = r3 60 30) (cT : ∀ i : Nat, i ∉ [3, 8, 9, 10, 24] → c4 i = c3 i) (rT : ∀ i : Nat, i ∉ [60, 75, 76, 77] → r4 i = r3 i) (r57 : ∀ a : Nat, a ∉ [3, 31, 33, 35] → r4 60 a = r3 60 a) (p24 : c4 24 1 = 0 ∧ c4 24 2 = c3 24 2 ∧ r4 60 3 = 0) (hpl : iv_plan c r n → iv_plan c4 r4 n) (hfd : iv_feud c r n → iv_feud c4 r4 n) (hsd : iv_side c r → iv_side c4 r4) : txq_ n c r c4 r4 := by
  refine ⟨⟨?_, ?_, ?_, ?_⟩, ⟨fun i hi h57 => ?_, fun a _ => ?_⟩, ⟨fun i hi h57 => ?_, fun a ha => ?_⟩, lw_f ?_ ?_ ?_ ?_ ?_ (fun i hi => ?_) (fun i hi => ?_), hpl, hfd, hsd, Or.inr ⟨p24.1, ?_, p24.2.2⟩⟩
  · rw [cT 38 (by decide)]; exact h2
  · rw [r57 9 (by decide)]; exact h9
  · rw [cT 38 (by decide), r57 29 (by decide)]; exact h3
  · rw [cT 38 (by decide), r57 30 (by decide)]; exact h4
  · rw [cT i (fun e => hi ((by decide : ∀ a ∈ [3, 8, 9, 10, 24], a ∈ Tc_) i e))]
    exact (fD_T D3).1 i hi h57
  · rw [cT 60 (by decide)]
    exact (fD_T D3).2 a (List.not_mem_nil)
  · rw [rT i (fun e => by
      rcases List.mem_cons.mp e with e | e
      · exact h57 e
      · exact hi ((by decide : ∀ a ∈ [75, 76, 77], a ∈ Tr_) i e))]
    exact (rD_T R3).1 i hi h57
  · rw [r57 a (fun e => ha ((by decide : ∀ b ∈ [3, 31, 33, 35], b ∈ Tk_) a e))]
    exact (rD_T R3).2 a ha
  · rw [cT 4 (by decide)]; exact D3 4 (by decide)
  · rw [cT 5 (by decide)]; exact D3 5 (by decide)
  · rw [cT 6 (by decide)]; exact D3 6 (by decide)
  · rw [cT 7 (by decide)]; exact D3 7 (by decide)
  · rw [rT 67 (by decide)]; exact R3.1.1 67 (by decide) (by decide)
  · rw [rT 68 (by decide), rT 69 (by decide), rT 70 (by decide), rT 71 (by decide)]; exact R3.2.1 i hi
  · rw [rT 72 (by decide), rT 73 (by decide)]; exact R3.2.2.1 i hi
  · rw [p24.2.1, D3 24 (by decide)]
theorem t_cs {c3 c4 : nd_Mem} (hk : k = 1 ∨ k = 2 ∨ k = 3) (hl : l ≤ 16) (h1 : f_X3_read F (nI k) (c 1 1) c = some (nI l, c3)) (h2 : f_X5_take F 3 39 (nI k) c3 = some (0, c4)) : f_X10_text F (nI k) c = some (nI l, nd_up c4 24 1 0) := by
  unfold f_X10_text
  rw [h1, n_bind, if_neg (li_n1 hl), h2, n_bind, if_neg (show ¬ nI k = (0 : Int32) by rcases hk with rfl | rfl | rfl <;> decide)]
  rfl
theorem c_94 {c2 : nd_Mem} (hk : k = 1 ∨ k = 2 ∨ k = 3) (h1 : k = 1 → c2 44 1 = nI (4 * l) ∧ l ≤ 16) (h2 : k = 2 → c2 39 4 = nI l) (h3 : k = 3 → c2 39 6 = nI l) : f_X3_read_93 F (nI k) 1 c2 = some (nI l, nd_up c2 38 2 0) := by
  unfold f_X3_read_93 f_X5_linesOf
  rw [n_let, if_neg n10]
  rcases hk with rfl | rfl | rfl
  · rw [if_neg (by decide), if_pos (show nI 1 = (1 : Int32) from rfl)]
    show nd_bind (some (nd_up c2 38 2 0 44 1 / 4, _)) _ = _
    rw [u_ne1 (by decide), (h1 rfl).1, n_div4 (h1 rfl).2, n_bind]
  · rw [if_neg (by decide), if_neg (by decide), if_pos (show nI 2 = (2 : Int32) from rfl), n_bind, u_ne1 (by decide), h2 rfl]
  · rw [if_neg (by decide), if_neg (by decide), if_neg (by decide), n_bind, u_ne1 (by decide), h3 rfl]
theorem y_pl (hF : 300000 ≤ F) (hp : txp_ n m t c r) {c1 r1 : nd_Mem} (ps : ps_k c1 r1 t m 1 (tn_ t m 0)) (h0 : pl_I n c1 r1 0) : yres_ F 1 (pl_I n) c1 r1 (f_X3_read_61 F F (nI 1) 1 (nI 0) c1) (f_X11_readPlans_2 F F (nI 0) r1) := by
  have hm := hp.2.2.2.1
  have hb : ∀ i : Nat, i < m → t i < 256 := fun i hi => (hp.2.2.2.2.2.2.1 i hi).1
  refine yl_ (k := 1) (t := t) (z := m) hF (w0 := 17) (INV := pl_I n) (R := fun g => f_X11_readPlans_2 F g) (body := fun x σ => f_X11_readDeed F ((64 : Int32) + ((4 : Int32) * x)) σ) (Or.inl rfl) (fun p h => ?_) (fun g l p c r h hl => ?_) (fun c r p l h h2 h17 hi hl => ?_) (m - tn_ t m 0) c1 r1 (tn_ t m 0) 0 F F rfl ps h0 (by decide) (by omega) (by omega)
  · rw [kx_1 hb h]
    by_cases e : tv_ t m p = 17
    · rw [if_pos e]
      exact ⟨fun _ => e, fun _ => rfl⟩
    · rw [if_neg e]
      refine ⟨fun h0 => ?_, fun e' => absurd e' e⟩
      exfalso
      revert h0
      repeat' split
      all_goals (intro h0; omega)
  · show f_X11_readPlans_2_b F _ _ _ = _
    unfold f_X11_readPlans_2_b
    rw [mw_ (y := (17 : Int32)) (x := 17) h.2.2.1 h.2.2.2.1 rfl (by decide), n_bind]
    have h4 := tk_4 (t := t) (z := m) (p := p)
    by_cases e : tk_ t m p = 2 ∧ tv_ t m p = 17
    · rw [if_pos e, if_pos e, if_neg n10]
      by_cases e16 : l = 16
      · subst e16
        rw [if_pos (show nI 16 = (16 : Int32) from rfl), if_pos rfl]
      · rw [if_neg (show ¬ nI l = (16 : Int32) from fun q => e16 ((nI_eq (b := 16) (by omega) (by decide)).mp q)), if_neg e16, nI_1]
    · rw [if_neg e, if_neg e, if_pos rfl, h.2.2.2.1.2.2.1]
      by_cases e0 : tk_ t m p = 0
      · rw [if_pos (show nI (tk_ t m p) = (0 : Int32) by rw [e0]; rfl), if_pos e0]
      · rw [if_neg (show ¬ nI (tk_ t m p) = (0 : Int32) from fun q => e0 ((nI_eq (b := 0) (by omega) (by decide)).mp q)), if_neg e0]
  · have e : (64 : Int32) + (4 : Int32) * nI l = nI (64 + 4 * l) := by
      rw [show (4 : Int32) * nI l = nI (4 * l) from n_mul 4 l]
      exact n_add 64 (4 * l)
    show yok_ F t m 1 (pl_I n) c r p l (lineC_ F 1 c) (f_X11_readDeed F ((64 : Int32) + (4 : Int32) * nI l) r)
    rw [e]
    exact b_plan hF hp.1 h h2 h17 hi hl
theorem t_1 (hF : 300000 ≤ F) (hp : txp_ n m t c r) : ∃ (v : Int32) (c' r' : nd_Mem), f_X10_text F (nI 1) c = some (v, c') ∧ tM_ F (nI 1) r = some (v, r') ∧ txq_ n c r c' r' := by
  have hE : f_X5_empty F 39 (nI 1) (cS_ 1 c) = some (0, nd_up (cS_ 1 c) 44 1 0) := rfl
  obtain ⟨c1, x1, x2, x3, x4, x5⟩ := c_set hF (k := 1) (by decide) hp hE (by rw [nd_up_ne (by decide)]) (by rw [nd_up_ne (by decide), cS_ne (by decide)])
  obtain ⟨r1, y1, y2, y3, y4, y22, y23, y24, y29, y30, y6⟩ := m_set hF hp
  have ps : ps_k c1 r1 t m 1 (tn_ t m 0) := ⟨x2, x3, y2, y3, (tn_le (Nat.zero_le m)).2⟩
  have fc1 : fD_ c c1 := fun i hi => by
    rw [x5 i (fun e => hi ((by decide : ∀ a ∈ [38, 48, 49, 50], a ∈ [38, 39, 40, 41, 42, 43, 44, 45, 46, 48, 49, 50]) i e)), nd_up_ne (fun e => hi (by rw [e]; decide)), cS_ne (fun e => hi (by rw [e]; decide))]
  have LL : yres_ F 1 (pl_I n) c1 r1 (f_X3_read_61 F F (nI 1) 1 0 c1) (f_X11_readPlans_2 F F 0 r1) := y_pl hF hp ps ⟨by rw [x5 44 (by decide)]; exact u_eq _ _ _ _, x4, y6, fun j hj => absurd hj (Nat.not_lt_zero j)⟩
  have hM : tM_ F (nI 1) r = nd_bind (nd_bind (f_X11_readPlans_2 F F 0 r1) fun a b => some (a, b)) fun v σ => tE_ F (nI 1) v σ := by
    rw [m_run (by decide)]
    unfold f_X11_readsText
    rw [n_let, y1, n_bind]
    rfl
  rcases LL with ⟨c2, r2, l, a1, a2, a3, a4, a5, a6, a7⟩ | ⟨c2, r2, a1, a2, a3, a4, a5, a6⟩
  · obtain ⟨i1, i2, i3, i4⟩ := a4
    have hl : ¬ nI l = (-1 : Int32) := li_n1 a3
    have D3 : fD_ c (nd_up c2 38 2 0) := fD_up (fD_tr fc1 (fD_y a5)) (by decide)
    have f9 : fr_ [] [9] r2 (nd_up r2 60 9 0) := (by repeat first | exact fr_rf | (refine fr_up57 ?_ (by decide)) | (refine fr_up ?_ (by decide) (by decide)) | (refine fr_row ?_ (by decide) (by decide)))
    have R3 : rD_ r (nd_up r2 60 9 0) := rD_tr y4 (rD_tr (rD_y a6) (rD_57 f9 (by decide)))
    obtain ⟨c4, k1, k2, k3, k4⟩ := tk_1 (F := F) (c := nd_up c2 38 2 0) (l := l) (by rw [u_ne1 (by decide)]; exact i1) a3
    obtain ⟨r4, q1, q2, q3, q4⟩ := to_7 (F := F) (P := l) a3 (4 * l) (nd_up r2 60 9 0) 0 F rfl (Nat.zero_le _) (by omega)
    have hC : f_X10_text F (nI 1) c = some (nI l, nd_up c4 24 1 0) := t_cs (Or.inl rfl) a3 (x1.trans (a1.trans (c_94 (Or.inl rfl) (fun _ => ⟨i1, a3⟩) (fun e => absurd e (by decide)) (fun e => absurd e (by decide))))) k1
    have hR : tM_ F (nI 1) r = some (nI l, nd_up (nd_up r4 60 31 (nI l)) 60 3 0) := by
      rw [hM, a2, n_bind, n_bind]
      unfold tE_ f_X11_text_69 f_X11_takesOther f_X11_text_99
      rw [if_neg hl, n_let, if_neg hl, if_neg (by decide), if_pos (show nI 1 = (1 : Int32) from rfl)]
      show nd_bind (f_X11_takesOther_7 F F 1 (nI l) (nI 0) (nd_up r2 60 9 0)) _ = _
      rw [q1]
      show nd_bind (f_X11_takesOther_42 F F 1 (nI l) (nI 0) (nd_up r4 60 31 (nI l))) _ = _
      rw [to_421 16 _ 0 F rfl (by decide) (by omega), n_bind]
    have cT : ∀ i : Nat, i ∉ [3, 8, 9, 10, 24] → nd_up c4 24 1 0 i = nd_up c2 38 2 0 i := fun i hi => by
      rw [nd_up_ne (fun e => hi (by rw [e]; decide)), k4 i (fun e => hi (by rw [e]; decide)) (fun e => hi (by rw [e]; decide))]
    have rT : ∀ i : Nat, i ≠ 60 → i ≠ 75 → nd_up (nd_up r4 60 31 (nI l)) 60 3 0 i = nd_up r2 60 9 0 i := fun i h1 h2 => by rw [nd_up_ne h1, nd_up_ne h1, q4 i h2]
    have r57 : ∀ a : Nat, a ≠ 3 → a ≠ 31 → nd_up (nd_up r4 60 31 (nI l)) 60 3 0 60 a = nd_up r2 60 9 0 60 a := fun a h1 h2 => by rw [u_ne2 h1, u_ne2 h2, q4 60 (by decide)]
    have c3 : nd_up c4 24 1 0 3 = c 3 := by rw [nd_up_ne (by decide), k4 3 (by decide) (by decide)]; exact D3 3 (by decide)
    refine ⟨nI l, _, _, hC, hR, tq_k D3 R3 (u_eq _ _ _ _) (u_eq _ _ _ _) ?_ ?_ cT (fun i hi => rT i (fun e => hi (by rw [e]; decide)) (fun e => hi (by rw [e]; decide))) (fun a ha => r57 a (fun e => ha (by rw [e]; decide)) (fun e => ha (by rw [e]; decide))) ⟨u_eq _ _ _ _, ?_, u_eq _ _ _ _⟩ (fun _ => ?_) (fe_f ?_ ?_ (fun i hi => ?_) ?_) (si_f ?_ ?_ (fun i hi => ?_) ?_)⟩
    · rw [u_ne2 (by decide), a7.1, u_ne2 (by decide), a6.1.2 29 (by decide), y29]
    · rw [u_ne2 (by decide), a7.2, u_ne2 (by decide), a6.1.2 30 (by decide), y30]
    · rw [u_ne2 (by decide), k4 24 (by decide) (by decide)]
    · refine ⟨l, a3, by rw [u_ne1 (by decide)]; exact k2, by rw [u_ne2 (by decide)]; exact u_eq _ _ _ _, fun j hj => ?_⟩
      have := i4 j hj
      have e9 : ∀ i : Nat, i < 4 * l → nd_up c4 24 1 0 9 i = c2 45 i := fun i hi => by rw [u_ne1 (by decide), k3 i hi, u_ne1 (by decide)]
      have e72 : ∀ i : Nat, i < 4 * l → nd_up (nd_up r4 60 31 (nI l)) 60 3 0 75 i = r2 75 (64 + i) := fun i hi => by rw [u_ne1 (by decide), u_ne1 (by decide), q2 i (Nat.zero_le i) hi, u_ne1 (by decide)]
      unfold iv_deed
      rw [e9 _ (by omega), e9 _ (by omega), e9 _ (by omega), e9 _ (by omega), e72 _ (by omega), e72 _ (by omega), e72 _ (by omega), e72 _ (by omega)]
      exact this
    · rw [c3]
    · rw [nd_up_ne (by decide), k4 10 (by decide) (by decide)]; exact D3 10 (by decide)
    · rw [rT 76 (by decide) (by decide)]; exact (R3.2.2.2.2 i hi).1
    · rw [r57 33 (by decide) (by decide)]; exact R3.1.2 33 (by decide)
    · rw [c3]
    · rw [c3]
    · rw [rT 77 (by decide) (by decide)]; exact (R3.2.2.2.2 i hi).2
    · rw [r57 35 (by decide) (by decide)]; exact R3.1.2 35 (by decide)
  · exact ⟨-1, _, _, t_cf (x1.trans a1), by rw [hM, a2, n_bind, n_bind]; exact t_mf, tq_1 (fD_tr fc1 (fD_y a5)) (rD_tr y4 (rD_y a6)) a3 a4⟩
end TZ
