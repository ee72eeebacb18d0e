/-! text: feuds and sides, and the call -/
section TW
variable {F n m k l : Nat} {t : Nat → Nat} {c r c' r' : nd_Mem}
theorem hr_ {x1 : Int32} {g p : Nat} (h : ps_k c r t m k p) (hl : l ≤ 16) : f_X11_readHouses_36 F (g + 1) x1 (nI l) r = if tk_ t m p = 2 ∧ tv_ t m p = 20 then (if l = 16 then (nd_bind (f_X11_errs F 3 r) fun a σ => some (a, σ)) else nd_bind (if x1 = 0 then f_X11_readFeud F r else f_X11_readSide F r) fun v σ => if v = (-1 : Int32) then some (-1, σ) else f_X11_readHouses_36 F g x1 (nI (l + 1)) σ) else if tk_ t m p = 0 then some (nI l, r) else nd_bind (f_X11_errs F 1 r) fun a σ => some (a, σ) := by
  show f_X11_readHouses_36_b F _ _ _ _ = _
  unfold f_X11_readHouses_36_b f_X11_readHouses_72
  rw [mw_ (y := (20 : Int32)) (x := 20) h.2.2.1 h.2.2.2.1 rfl (by decide), n_bind]
  have h4 := tk_4 (t := t) (z := m) (p := p)
  by_cases e : tk_ t m p = 2 ∧ tv_ t m p = 20
  · rw [if_pos e, if_pos e, if_neg n10]
    by_cases e16 : l = 16
    · subst e16
      rw [if_pos (show nI 16 = (16 : Int32) from rfl), if_pos rfl]
    · rw [if_neg (show ¬ nI l = (16 : Int32) from fun q => e16 ((nI_eq (b := 16) (by omega) (by decide)).mp q)), if_neg e16, nI_1]
      by_cases hx : x1 = 0
      · rw [if_pos hx, if_pos hx]
      · rw [if_neg hx, if_neg hx]
  · rw [if_neg e, if_neg e, if_pos rfl, h.2.2.2.1.2.2.1]
    by_cases e0 : tk_ t m p = 0
    · rw [if_pos (show nI (tk_ t m p) = (0 : Int32) by rw [e0]; rfl), if_pos e0]
    · rw [if_neg (show ¬ nI (tk_ t m p) = (0 : Int32) from fun q => e0 ((nI_eq (b := 0) (by omega) (by decide)).mp q)), if_neg e0]
theorem y_fe (hF : 300000 ≤ F) (hp : txp_ n m t c r) {c1 r1 : nd_Mem} (ps : ps_k c1 r1 t m 2 (tn_ t m 0)) (h0 : fd_I n c1 r1 0) : yres_ F 2 (fd_I n) c1 r1 (f_X3_read_61 F F (nI 2) 1 (nI 0) c1) (f_X11_readHouses_36 F F 0 (nI 0) r1) := by
  have hm := hp.2.2.2.1
  have hb : ∀ i : Nat, i < m → t i < 256 := fun i hi => (hp.2.2.2.2.2.2.1 i hi).1
  refine yl_ (k := 2) (t := t) (z := m) hF (w0 := 20) (INV := fd_I n) (R := fun g => f_X11_readHouses_36 F g 0) (body := fun _ σ => f_X11_readFeud F σ) (Or.inr (Or.inl rfl)) (fun p h => ?_) (fun g l p c r h hl => hr_ h hl) (fun c r p l h h2 h20 hi hl => b_feud hF hp.1 h h2 h20 hi) (m - tn_ t m 0) c1 r1 (tn_ t m 0) 0 F F rfl ps h0 (by decide) (by omega) (by omega)
  rw [kx_2 hb h]
  by_cases e : tv_ t m p = 20
  · rw [if_pos e]
    exact ⟨fun _ => e, fun _ => rfl⟩
  · rw [if_neg e]
    refine ⟨fun h0 => ?_, fun e' => absurd e' e⟩
    exfalso
    revert h0
    repeat' split
    all_goals (intro h0; omega)
theorem y_si (hF : 300000 ≤ F) (hp : txp_ n m t c r) {c1 r1 : nd_Mem} (ps : ps_k c1 r1 t m 3 (tn_ t m 0)) (h0 : sd_I n c1 r1 0) : yres_ F 3 (sd_I n) c1 r1 (f_X3_read_61 F F (nI 3) 1 (nI 0) c1) (f_X11_readHouses_36 F F 1 (nI 0) r1) := by
  have hm := hp.2.2.2.1
  have hb : ∀ i : Nat, i < m → t i < 256 := fun i hi => (hp.2.2.2.2.2.2.1 i hi).1
  refine yl_ (k := 3) (t := t) (z := m) hF (w0 := 20) (INV := sd_I n) (R := fun g => f_X11_readHouses_36 F g 1) (body := fun _ σ => f_X11_readSide F σ) (Or.inr (Or.inr rfl)) (fun p h => ?_) (fun g l p c r h hl => hr_ h hl) (fun c r p l h h2 h20 hi hl => b_side hF hp.1 h h2 h20 hi) (m - tn_ t m 0) c1 r1 (tn_ t m 0) 0 F F rfl ps h0 (by decide) (by omega) (by omega)
  rw [kx_3 hb h]
  by_cases e : tv_ t m p = 20
  · rw [if_pos e]
    exact ⟨fun _ => e, fun _ => rfl⟩
  · rw [if_neg e]
    refine ⟨fun h0 => ?_, fun e' => absurd e' e⟩
    exfalso
    revert h0
    repeat' split
    all_goals (intro h0; omega)
/-- the reference clears its rows first -/
theorem rh_0 (hF : 300000 ≤ F) {x1 : Int32} {r1 : nd_Mem} : ∃ r0 : nd_Mem, f_X11_readHouses F x1 r1 = f_X11_readHouses_36 F F x1 0 r0 ∧ (∀ j : Nat, j < 16 → r0 76 (16 + j) = 0 ∧ r0 77 (16 + j) = 0) ∧ rD_ r1 r0 ∧ ∀ a : Nat, a ≠ 76 → a ≠ 77 → r0 a = r1 a := by
  obtain ⟨r0, a1, a2, a3, a4⟩ := rh_2 (F := F) (x1 := x1) 16 r1 0 F rfl (by decide) (by omega)
  refine ⟨r0, a1, fun j hj => a2 j (Nat.zero_le j) hj, ⟨⟨fun i hi _ => a4 i (fun e => hi (by rw [e]; decide)) (fun e => hi (by rw [e]; decide)), fun a _ => by rw [a4 60 (by decide) (by decide)]⟩, fun i _ => ?_, fun i _ => ?_, fun i _ => ?_, fun i hi => a3 i (by omega)⟩, a4⟩
  · rw [a4 68 (by decide) (by decide), a4 69 (by decide) (by decide), a4 70 (by decide) (by decide), a4 71 (by decide) (by decide)]; exact ⟨rfl, rfl, rfl, rfl⟩
  · rw [a4 72 (by decide) (by decide), a4 73 (by decide) (by decide)]; exact ⟨rfl, rfl⟩
  · rw [a4 75 (by decide) (by decide)]
theorem rb_0 {r0 r1 : nd_Mem} {p : Nat} (h : ∀ a : Nat, a ≠ 76 → a ≠ 77 → r0 a = r1 a) (hb : rb_ r1 t m) (ht : rt_ r1 t m p) : rb_ r0 t m ∧ rt_ r0 t m p := by
  unfold rb_ rt_
  rw [h 60 (by decide) (by decide), h 65 (by decide) (by decide), h 66 (by decide) (by decide)]
  exact ⟨hb, ht⟩
theorem t_2 (hF : 300000 ≤ F) (hp : txp_ n m t c r) : ∃ (v : Int32) (c' r' : nd_Mem), f_X10_text F (nI 2) c = some (v, c') ∧ tM_ F (nI 2) r = some (v, r') ∧ txq_ n c r c' r' := by
  obtain ⟨g, g1, g2, g3⟩ := e_fill (F := F) (σ := cS_ 2 c) (a := 46) (n := 16) (v := 0) hF (by decide)
  have hE : f_X5_empty F 39 (nI 2) (cS_ 2 c) = some (0, nd_up (nd_row (cS_ 2 c) 46 g) 39 4 0) := by
    unfold f_X5_empty
    rw [if_neg (by decide), if_neg (by decide), if_pos (show nI 2 = (2 : Int32) from rfl)]
    show nd_bind (f_J7_fill_53178 F 46 16 0 (cS_ 2 c)) _ = _
    rw [g1, n_bind, n_let]
  obtain ⟨c1, x1, x2, x3, x4, x5⟩ := c_set hF (k := 2) (by decide) hp hE (by rw [nd_up_ne (by decide), row_app, if_neg (by decide)]) (by rw [nd_up_ne (by decide), row_app, if_neg (by decide), cS_ne (by decide)])
  obtain ⟨r1, y1, y2, y3, y4, y22, y23, y24, y29, y30, y6⟩ := m_set hF hp
  obtain ⟨r0, z1, z2, z3, z4⟩ := rh_0 (F := F) hF (x1 := 0) (r1 := r1)
  obtain ⟨w1, w2⟩ := rb_0 z4 y2 y3
  have ps : ps_k c1 r0 t m 2 (tn_ t m 0) := ⟨x2, x3, w1, w2, (tn_le (Nat.zero_le m)).2⟩
  have fc1 : fD_ c c1 := fun i hi => by
    rw [x5 i (fun e => hi ((by decide : ∀ a ∈ [38, 48, 49, 50], a ∈ [38, 39, 40, 41, 42, 43, 44, 45, 46, 48, 49, 50]) i e)), nd_up_ne (fun e => hi (by rw [e]; decide)), row_app, if_neg (fun e => hi (by rw [e]; decide)), cS_ne (fun e => hi (by rw [e]; decide))]
  have LL : yres_ F 2 (fd_I n) c1 r0 (f_X3_read_61 F F (nI 2) 1 0 c1) (f_X11_readHouses_36 F F 0 0 r0) := y_fe hF hp ps ⟨by rw [x5 39 (by decide)]; exact u_eq _ _ _ _, x4, by rw [z4 60 (by decide) (by decide)]; exact y6, fun h hh => ⟨0, Nat.two_pow_pos n, by rw [x5 46 (by decide), u_ne1 (by decide), w_eq]; exact g2 h hh, (z2 h hh).1⟩⟩
  have hM : tM_ F (nI 2) r = nd_bind (nd_bind (f_X11_readHouses_36 F F 0 0 r0) fun a b => some (a, b)) fun v σ => tE_ F (nI 2) v σ := by
    rw [m_run (by decide), ← z1]
    unfold f_X11_readsText
    rw [n_let, y1, n_bind]
    rfl
  rcases LL with ⟨c2, r2, l, a1, a2, a3, a4, a5, a6, a7⟩ | ⟨c2, r2, a1, a2, a3, a4, a5, a6⟩
  · obtain ⟨i1, i2, i3, i4⟩ := a4
    have hl : ¬ nI l = (-1 : Int32) := li_n1 a3
    have D3 : fD_ c (nd_up c2 38 2 0) := fD_up (fD_tr fc1 (fD_y a5)) (by decide)
    have f9 : fr_ [] [9] r2 (nd_up r2 60 9 0) := (by repeat first | exact fr_rf | (refine fr_up57 ?_ (by decide)) | (refine fr_up ?_ (by decide) (by decide)) | (refine fr_row ?_ (by decide) (by decide)))
    have R3 : rD_ r (nd_up r2 60 9 0) := rD_tr y4 (rD_tr z3 (rD_tr (rD_y a6) (rD_57 f9 (by decide))))
    obtain ⟨c4, k1, k2, k3, k4, k5⟩ := tk_2 (F := F) (c := nd_up c2 38 2 0)
    obtain ⟨r4, q1, q2, q3, q4⟩ := to_422 (F := F) (x2 := nI l) 16 (nd_up r2 60 9 0) 0 F rfl (by decide) (by omega)
    have hC : f_X10_text F (nI 2) c = some (nI l, nd_up c4 24 1 0) := t_cs (Or.inr (Or.inl rfl)) a3 (x1.trans (a1.trans (c_94 (Or.inr (Or.inl rfl)) (fun e => absurd e (by decide)) (fun _ => i1) (fun e => absurd e (by decide))))) k1
    have hR : tM_ F (nI 2) r = some (nI l, nd_up (nd_up r4 60 33 (nI l)) 60 3 0) := by
      rw [hM, a2, n_bind, n_bind]
      unfold tE_ f_X11_text_69 f_X11_takesOther f_X11_text_99
      rw [if_neg hl, n_let, if_neg hl, if_neg (by decide), if_neg (by decide)]
      show nd_bind (f_X11_takesOther_42 F F 2 (nI l) (nI 0) (nd_up r2 60 9 0)) _ = _
      rw [q1, n_bind]
    have cT : ∀ i : Nat, i ∉ [3, 10, 24] → nd_up c4 24 1 0 i = nd_up c2 38 2 0 i := fun i hi => by
      rw [nd_up_ne (fun e => hi (by rw [e]; decide)), k5 i (fun e => hi (by rw [e]; decide)) (fun e => hi (by rw [e]; decide))]
    have rT : ∀ i : Nat, i ≠ 60 → i ≠ 76 → nd_up (nd_up r4 60 33 (nI l)) 60 3 0 i = nd_up r2 60 9 0 i := fun i h1 h2 => by rw [nd_up_ne h1, nd_up_ne h1, q4 i h2]
    have r57 : ∀ a : Nat, a ≠ 3 → a ≠ 33 → nd_up (nd_up r4 60 33 (nI l)) 60 3 0 60 a = nd_up r2 60 9 0 60 a := fun a h1 h2 => by rw [u_ne2 h1, u_ne2 h2, q4 60 (by decide)]
    have c3 : ∀ j : Nat, j ≠ 4 → nd_up c4 24 1 0 3 j = c 3 j := fun j hj => by rw [u_ne1 (by decide), k4 j hj, D3 3 (by decide)]
    refine ⟨nI l, _, _, hC, hR, tq_k D3 R3 (u_eq _ _ _ _) (u_eq _ _ _ _) ?_ ?_ (fun i hi => cT i (fun e => hi ((by decide : ∀ a ∈ [3, 10, 24], a ∈ [3, 8, 9, 10, 24]) i e))) (fun i hi => rT i (fun e => hi (by rw [e]; decide)) (fun e => hi (by rw [e]; decide))) (fun a ha => r57 a (fun e => ha (by rw [e]; decide)) (fun e => ha (by rw [e]; decide))) ⟨u_eq _ _ _ _, ?_, u_eq _ _ _ _⟩ (pn_f ?_ ?_ (fun i hi => ?_) ?_) (fun _ => ?_) (si_f ?_ ?_ (fun i hi => ?_) ?_)⟩
    · rw [u_ne2 (by decide), a7.1, u_ne2 (by decide), a6.1.2 29 (by decide), z4 60 (by decide) (by decide), y29]
    · rw [u_ne2 (by decide), a7.2, u_ne2 (by decide), a6.1.2 30 (by decide), z4 60 (by decide) (by decide), y30]
    · rw [u_ne2 (by decide), k5 24 (by decide) (by decide)]
    · rw [cT 8 (by decide)]; exact D3 8 (by decide)
    · rw [cT 9 (by decide)]; exact D3 9 (by decide)
    · rw [rT 75 (by decide) (by decide)]; exact R3.2.2.2.1 i hi
    · rw [r57 31 (by decide) (by decide)]; exact R3.1.2 31 (by decide)
    · refine ⟨?_, fun h hh => ?_⟩
      · rw [u_ne1 (by decide), k2, u_ne1 (by decide), i1, u_ne2 (by decide), u_eq]
      · obtain ⟨b, b1, b2, b3⟩ := i4 h hh
        exact ⟨b, b1, by rw [u_ne1 (by decide), k3 h hh, u_ne1 (by decide)]; exact b2, by rw [u_ne1 (by decide), u_ne1 (by decide), q2 h (Nat.zero_le h) hh, u_ne1 (by decide)]; exact b3⟩
    · exact c3 5 (by decide)
    · exact c3 6 (by decide)
    · rw [rT 77 (by decide) (by decide)]; exact (R3.2.2.2.2 i hi).2
    · rw [r57 35 (by decide) (by decide)]; exact R3.1.2 35 (by decide)
  · exact ⟨-1, _, _, t_cf (x1.trans a1), by rw [hM, a2, n_bind, n_bind]; exact t_mf, tq_1 (fD_tr fc1 (fD_y a5)) (rD_tr y4 (rD_tr z3 (rD_y a6))) a3 a4⟩
theorem t_3 (hF : 300000 ≤ F) (hp : txp_ n m t c r) : ∃ (v : Int32) (c' r' : nd_Mem), f_X10_text F (nI 3) c = some (v, c') ∧ tM_ F (nI 3) r = some (v, r') ∧ txq_ n c r c' r' := by
  have hE : f_X5_empty F 39 (nI 3) (cS_ 3 c) = some (0, nd_up (nd_up (cS_ 3 c) 39 5 0) 39 6 0) := rfl
  obtain ⟨c1, x1, x2, x3, x4, x5⟩ := c_set hF (k := 3) (by decide) hp hE (by rw [nd_up_ne (by decide), nd_up_ne (by decide)]) (by rw [nd_up_ne (by decide), nd_up_ne (by decide), cS_ne (by decide)])
  obtain ⟨r1, y1, y2, y3, y4, y22, y23, y24, y29, y30, y6⟩ := m_set hF hp
  obtain ⟨r0, z1, z2, z3, z4⟩ := rh_0 (F := F) hF (x1 := 1) (r1 := r1)
  obtain ⟨w1, w2⟩ := rb_0 z4 y2 y3
  have ps : ps_k c1 r0 t m 3 (tn_ t m 0) := ⟨x2, x3, w1, w2, (tn_le (Nat.zero_le m)).2⟩
  have fc1 : fD_ c c1 := fun i hi => by
    rw [x5 i (fun e => hi ((by decide : ∀ a ∈ [38, 48, 49, 50], a ∈ [38, 39, 40, 41, 42, 43, 44, 45, 46, 48, 49, 50]) i e)), nd_up_ne (fun e => hi (by rw [e]; decide)), nd_up_ne (fun e => hi (by rw [e]; decide)), cS_ne (fun e => hi (by rw [e]; decide))]
  have LL : yres_ F 3 (sd_I n) c1 r0 (f_X3_read_61 F F (nI 3) 1 0 c1) (f_X11_readHouses_36 F F 1 0 r0) := y_si hF hp ps ⟨by rw [x5 39 (by decide)]; exact u_eq _ _ _ _, x4, by rw [z4 60 (by decide) (by decide)]; exact y6, 0, by decide, by rw [x5 39 (by decide), u_ne2 (by decide)]; exact u_eq _ _ _ _, fun h hh => by rw [(z2 h hh).2, Nat.zero_testBit, if_neg (by decide)]⟩
  have hM : tM_ F (nI 3) r = nd_bind (nd_bind (f_X11_readHouses_36 F F 1 0 r0) fun a b => some (a, b)) fun v σ => tE_ F (nI 3) v σ := by
    rw [m_run (by decide), ← z1]
    unfold f_X11_readsText
    rw [n_let, y1, n_bind]
    rfl
  rcases LL with ⟨c2, r2, l, a1, a2, a3, a4, a5, a6, a7⟩ | ⟨c2, r2, a1, a2, a3, a4, a5, a6⟩
  · obtain ⟨i1, i2, i3, b, b1, b2, b3⟩ := a4
    have hl : ¬ nI l = (-1 : Int32) := li_n1 a3
    have D3 : fD_ c (nd_up c2 38 2 0) := fD_up (fD_tr fc1 (fD_y a5)) (by decide)
    have f9 : fr_ [] [9] r2 (nd_up r2 60 9 0) := (by repeat first | exact fr_rf | (refine fr_up57 ?_ (by decide)) | (refine fr_up ?_ (by decide) (by decide)) | (refine fr_row ?_ (by decide) (by decide)))
    have R3 : rD_ r (nd_up r2 60 9 0) := rD_tr y4 (rD_tr z3 (rD_tr (rD_y a6) (rD_57 f9 (by decide))))
    have k1 := tk_3 (F := F) (c := nd_up c2 38 2 0)
    obtain ⟨r4, q1, q2, q3, q4⟩ := to_423 (F := F) (x2 := nI l) 16 (nd_up r2 60 9 0) 0 F rfl (by decide) (by omega)
    obtain ⟨c4, hc4⟩ : ∃ c4 : nd_Mem, c4 = nd_up (nd_up (nd_up c2 38 2 0) 3 5 (nd_up c2 38 2 0 39 5)) 3 6 (nd_up c2 38 2 0 39 6) := ⟨_, rfl⟩
    rw [← hc4] at k1
    have hC : f_X10_text F (nI 3) c = some (nI l, nd_up c4 24 1 0) := t_cs (Or.inr (Or.inr rfl)) a3 (x1.trans (a1.trans (c_94 (Or.inr (Or.inr rfl)) (fun e => absurd e (by decide)) (fun e => absurd e (by decide)) (fun _ => i1)))) k1
    have hR : tM_ F (nI 3) r = some (nI l, nd_up (nd_up r4 60 35 (nI l)) 60 3 0) := by
      rw [hM, a2, n_bind, n_bind]
      unfold tE_ f_X11_text_69 f_X11_takesOther f_X11_text_99
      rw [if_neg hl, n_let, if_neg hl, if_neg (by decide), if_neg (by decide)]
      show nd_bind (f_X11_takesOther_42 F F 3 (nI l) (nI 0) (nd_up r2 60 9 0)) _ = _
      rw [q1, n_bind]
    have cT : ∀ i : Nat, i ∉ [3, 24] → nd_up c4 24 1 0 i = nd_up c2 38 2 0 i := fun i hi => by
      rw [nd_up_ne (fun e => hi (by rw [e]; decide)), hc4, nd_up_ne (fun e => hi (by rw [e]; decide)), nd_up_ne (fun e => hi (by rw [e]; decide))]
    have rT : ∀ i : Nat, i ≠ 60 → i ≠ 77 → nd_up (nd_up r4 60 35 (nI l)) 60 3 0 i = nd_up r2 60 9 0 i := fun i h1 h2 => by rw [nd_up_ne h1, nd_up_ne h1, q4 i h2]
    have r57 : ∀ a : Nat, a ≠ 3 → a ≠ 35 → nd_up (nd_up r4 60 35 (nI l)) 60 3 0 60 a = nd_up r2 60 9 0 60 a := fun a h1 h2 => by rw [u_ne2 h1, u_ne2 h2, q4 60 (by decide)]
    refine ⟨nI l, _, _, hC, hR, tq_k D3 R3 (u_eq _ _ _ _) (u_eq _ _ _ _) ?_ ?_ (fun i hi => cT i (fun e => hi ((by decide : ∀ a ∈ [3, 24], a ∈ [3, 8, 9, 10, 24]) i e))) (fun i hi => rT i (fun e => hi (by rw [e]; decide)) (fun e => hi (by rw [e]; decide))) (fun a ha => r57 a (fun e => ha (by rw [e]; decide)) (fun e => ha (by rw [e]; decide))) ⟨u_eq _ _ _ _, ?_, u_eq _ _ _ _⟩ (pn_f ?_ ?_ (fun i hi => ?_) ?_) (fe_f ?_ ?_ (fun i hi => ?_) ?_) (fun _ => ?_)⟩
    · rw [u_ne2 (by decide), a7.1, u_ne2 (by decide), a6.1.2 29 (by decide), z4 60 (by decide) (by decide), y29]
    · rw [u_ne2 (by decide), a7.2, u_ne2 (by decide), a6.1.2 30 (by decide), z4 60 (by decide) (by decide), y30]
    · rw [u_ne2 (by decide), hc4, u_ne1 (by decide), u_ne1 (by decide)]
    · rw [cT 8 (by decide)]; exact D3 8 (by decide)
    · rw [cT 9 (by decide)]; exact D3 9 (by decide)
    · rw [rT 75 (by decide) (by decide)]; exact R3.2.2.2.1 i hi
    · rw [r57 31 (by decide) (by decide)]; exact R3.1.2 31 (by decide)
    · rw [u_ne1 (by decide), hc4, u_ne2 (by decide), u_ne2 (by decide), D3 3 (by decide)]
    · rw [cT 10 (by decide)]; exact D3 10 (by decide)
    · rw [rT 76 (by decide) (by decide)]; exact (R3.2.2.2.2 i hi).1
    · rw [r57 33 (by decide) (by decide)]; exact R3.1.2 33 (by decide)
    · refine ⟨?_, b, b1, ?_, fun h hh => ?_⟩
      · rw [u_ne1 (by decide), hc4, u_eq, u_ne1 (by decide), i1, u_ne2 (by decide), u_eq]
      · rw [u_ne1 (by decide), hc4, u_ne2 (by decide), u_eq, u_ne1 (by decide)]; exact b2
      · rw [u_ne1 (by decide), u_ne1 (by decide), q2 h (Nat.zero_le h) hh, u_ne1 (by decide)]
        exact b3 h hh
  · exact ⟨-1, _, _, t_cf (x1.trans a1), by rw [hM, a2, n_bind, n_bind]; exact t_mf, tq_1 (fD_tr fc1 (fD_y a5)) (rD_tr y4 (rD_tr z3 (rD_y a6))) a3 a4⟩
theorem t_all (hF : 300000 ≤ F) (x1 : Int32) (hp : txp_ n m t c r) : ∃ (v : Int32) (c' r' : nd_Mem), f_X10_text F x1 c = some (v, c') ∧ tM_ F x1 r = some (v, r') ∧ txq_ n c r c' r' := by
  by_cases hx : x1 < 0 ∨ 3 < x1
  · exact t_out hx
  · obtain ⟨a, ha, rfl⟩ := rng 3 (by decide) (fun e => hx (Or.inl e)) (fun e => hx (Or.inr e))
    have : a = 0 ∨ a = 1 ∨ a = 2 ∨ a = 3 := by omega
    rcases this with rfl | rfl | rfl | rfl
    · exact t_0 hF hp
    · exact t_1 hF hp
    · exact t_2 hF hp
    · exact t_3 hF hp
end TW
theorem op_text {F : Nat} (hF : 300000 ≤ F) (x1 : Int32) : op_ (f_X10_text F x1) (f_X11_text F x1) := by
  intro σ n hI
  obtain ⟨⟨hn, hq1, hq2, hq3, hq4, hq5, hq6, hq7, hq8, hla, hpl, hfd, hsd⟩, hpa, htp, hpi, hfx⟩ := id hI
  obtain ⟨t1, t2, m, t3, t4, t5, t6⟩ := id htp
  obtain ⟨mm, x, m1, m2, m3, m4, m5, m6⟩ := id hpa
  have hT : ∃ t : Nat → Nat, ∀ i : Nat, i < m → t i < 256 ∧ σ 65 i = nI (t i) := by
    refine ⟨fun i => if h : i < m then Classical.choose (t6 i h).2 else 0, fun i hi => ?_⟩
    have := Classical.choose_spec (t6 i hi).2
    simp only [dif_pos hi]
    exact ⟨by omega, this.2.2⟩
  obtain ⟨t, hT⟩ := hT
  have hp : txp_ n m t σ σ := ⟨hn.1, hq7.1, hn.2, t3, t4, t5, fun i hi => ⟨(hT i hi).1, by rw [(t6 i hi).1]; exact (hT i hi).2, (hT i hi).2⟩, hfx.2.1⟩
  have fcr : ∀ c' : nd_Mem, fr_ Tc_ [] σ c' → fr_ Tc_ [0] σ (nd_up c' 60 0 0) := fun c' h => fr_up57 (fr_w h (fun _ q => q) (by decide)) (by decide)
  obtain ⟨v, c', ρ, e1, e2, Q⟩ := two_run (C := f_X10_text F x1) (M := tM_ F x1) (P := txp_ n m t) (Q := txq_ n) (fun c r hp => t_all hF x1 hp) (σ := σ) hp (fun c' r' Q => by
    have f := fcr c' Q.2.1
    obtain ⟨p1, p2, p3, p4, p5, p6, p7, p8⟩ := hp
    exact ⟨p1, p2, by rw [f.2 6 (by decide)]; exact p3, p4, p5, by rw [f.2 9 (by decide)]; exact p6, fun i hi => by rw [f.1 65 (by decide) (by decide)]; exact p7 i hi, fun i hi => by rw [f.1 66 (by decide) (by decide)]; exact p8 i hi⟩)
  obtain ⟨⟨b1, b2, b3, b4⟩, fc, fr, g1, g2, g3, g4, g5⟩ := Q
  have f1 := fcr c' fc
  have f0 : fr_ (Tc_ ++ Tr_) ([0] ++ Tk_) σ ρ := fr_tr f1 fr
  have cc : ∀ i : Nat, i ∉ Tr_ → i ≠ 60 → ρ i = c' i := fun i h1 h2 => by rw [fr.1 i h1 h2, nd_up_ne h2]
  have s : ∀ i : Nat, i ∉ Tc_ → i ≠ 60 → nd_up c' 60 0 0 i = σ i := fun i h1 h2 => f1.1 i h1 h2
  refine ⟨v, c', ρ, n, e1, e2, ⟨⟨c_hn (fr_use f0 (by decide)) hn, c_hq1 (fr_use f0 (by decide)) hq1, c_hq2 (fr_use f0 (by decide)) hq2, c_hq3 (fr_use f0 (by decide)) hq3, c_hq4 (fr_use f0 (by decide)) hq4, c_hq5 (fr_use f0 (by decide)) hq5, c_hq6 (fr_use f0 (by decide)) hq6, c_hq7 (fr_use f0 (by decide)) hq7, c_hq8 (fr_use f0 (by decide)) hq8, ?_, ?_, ?_, ?_⟩, ?_, ?_, c_hpi (fr_use f0 (by decide)) hpi, c_hfx (fr_use f0 (by decide)) hfx⟩, congrFun (f0.1 0 (by decide) (by decide)) 10⟩
  · exact law_c (cc 4 (by decide) (by decide)) (cc 5 (by decide) (by decide)) (cc 6 (by decide) (by decide)) (cc 7 (by decide) (by decide)) rfl rfl rfl rfl rfl rfl rfl (g1 (law_c rfl rfl rfl rfl (s 67 (by decide) (by decide)) (s 68 (by decide) (by decide)) (s 69 (by decide) (by decide)) (s 70 (by decide) (by decide)) (s 71 (by decide) (by decide)) (s 72 (by decide) (by decide)) (s 73 (by decide) (by decide)) hla))
  · exact plan_c (cc 8 (by decide) (by decide)) (cc 9 (by decide) (by decide)) rfl rfl (g2 (plan_c rfl rfl (s 75 (by decide) (by decide)) (f1.2 31 (by decide)) hpl))
  · exact feud_c (cc 3 (by decide) (by decide)) (cc 10 (by decide) (by decide)) rfl rfl (g3 (feud_c rfl rfl (s 76 (by decide) (by decide)) (f1.2 33 (by decide)) hfd))
  · exact side_c (cc 3 (by decide) (by decide)) rfl rfl (g4 (side_c rfl (s 77 (by decide) (by decide)) (f1.2 35 (by decide)) hsd))
  · rcases g5 with ⟨h1, h2⟩ | ⟨h1, h2, h3⟩
    · refine c_hpa ⟨fun i hi => ?_, fun a ha => ?_⟩ hpa
      · by_cases e : i = 24
        · subst e
          rw [cc 24 (by decide) (by decide), h1]
        · have := (by decide : ∀ i ∈ [24, 26, 27, 28, 29, 30, 31, 32, 33, 34, 35, 36, 37, 62], i ≠ 24 → i ∉ Tc_ ++ Tr_ ∧ i ≠ 60) i hi e
          exact f0.1 i this.1 this.2
      · have : a = 3 := by
          simp only [List.mem_cons, List.not_mem_nil, or_false] at ha
          exact ha
        subst this
        rw [h2]
        exact f1.2 3 (by decide)
    · exact past_0 (x := x) (by rw [cc 24 (by decide) (by decide)]; exact h1) h3 m2 (by rw [cc 24 (by decide) (by decide), h2]; exact m5)
  · have h38 := cc 38 (by decide) (by decide)
    exact ⟨by rw [h38]; exact b3, by rw [h38]; exact b4, 0, by decide, by rw [h38]; exact b1, b2, fun i hi => absurd hi (Nat.not_lt_zero i)⟩
