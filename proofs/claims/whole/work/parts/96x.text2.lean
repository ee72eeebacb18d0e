/-! text: the four texts -/
section TY
variable {F n m k l : Nat} {t : Nat → Nat} {c r c' r' : nd_Mem}
theorem li_n1 (h : l ≤ 16) : ¬ nI l = (-1 : Int32) := li_m1 l (by omega)
theorem tk_0 {C : Nat} (h40 : c 40 1 = nI (4 * l)) (hl : l ≤ 16) (h42 : c 42 1 = nI C) (hC : C ≤ 400) : ∃ c' : nd_Mem, f_X5_take F 3 39 0 c = some (0, c') ∧ c' 4 1 = nI (4 * l) ∧ (∀ i : Nat, i < 4 * l → c' 5 i = c 41 i) ∧ c' 6 1 = nI C ∧ (∀ i : Nat, i < C → c' 7 i = c 43 i) ∧ ∀ i : Nat, i ≠ 4 → i ≠ 5 → i ≠ 6 → i ≠ 7 → c' i = c i := by
  obtain ⟨g1, a1, a2⟩ := e_copyR (F := F) (σ := c) (b := 4) (a := 5) (n := 64) (ob := 40) (oa := 41) (m := 4 * l) (by decide) (by decide) (by decide) (by decide) (by decide) h40 (by omega)
  obtain ⟨g2, b1, b2⟩ := e_copyR (F := F) (σ := nd_row (nd_up c 4 1 (nI (4 * l))) 5 g1) (b := 6) (a := 7) (n := 400) (ob := 42) (oa := 43) (m := C) (by decide) (by decide) (by decide) (by decide) (by decide) (by rw [w_ne (by decide), u_ne1 (by decide)]; exact h42) hC
  refine ⟨nd_row (nd_up (nd_row (nd_up c 4 1 (nI (4 * l))) 5 g1) 6 1 (nI C)) 7 g2, ?_, ?_, fun i hi => ?_, ?_, fun i hi => ?_, fun i h1 h2 h3 h4 => ?_⟩
  · unfold f_X5_take
    rw [if_pos rfl]
    show nd_bind (f_X4_copy F 4 5 64 40 41 64 c) _ = _
    rw [a1, n_bind]
    show nd_bind (f_X4_copy F 6 7 400 42 43 400 _) _ = _
    rw [b1, n_bind]
  · rw [w_ne (by decide), u_ne1 (by decide), w_ne (by decide), u_eq]
  · rw [w_ne (by decide), u_ne1 (by decide), w_eq]
    exact a2 i hi
  · rw [w_ne (by decide), u_eq]
  · rw [w_eq, b2 i hi, w_ne (by decide), u_ne1 (by decide)]
  · rw [row_app, if_neg h4, nd_up_ne h3, row_app, if_neg h2, nd_up_ne h1]
theorem tk_1 (h44 : c 44 1 = nI (4 * l)) (hl : l ≤ 16) : ∃ c' : nd_Mem, f_X5_take F 3 39 1 c = some (0, c') ∧ c' 8 1 = nI (4 * l) ∧ (∀ i : Nat, i < 4 * l → c' 9 i = c 45 i) ∧ ∀ i : Nat, i ≠ 8 → i ≠ 9 → c' i = c i := by
  obtain ⟨g1, a1, a2⟩ := e_copyR (F := F) (σ := c) (b := 8) (a := 9) (n := 64) (ob := 44) (oa := 45) (m := 4 * l) (by decide) (by decide) (by decide) (by decide) (by decide) h44 (by omega)
  refine ⟨nd_row (nd_up c 8 1 (nI (4 * l))) 9 g1, ?_, ?_, fun i hi => ?_, fun i h1 h2 => ?_⟩
  · unfold f_X5_take
    rw [if_neg (by decide), if_pos rfl]
    show nd_bind (f_X4_copy F 8 9 64 44 45 64 c) _ = _
    rw [a1, n_bind]
  · rw [w_ne (by decide), u_eq]
  · rw [w_eq]
    exact a2 i hi
  · rw [row_app, if_neg h2, nd_up_ne h1]
theorem tk_2 : ∃ c' : nd_Mem, f_X5_take F 3 39 2 c = some (0, c') ∧ c' 3 4 = c 39 4 ∧ (∀ i : Nat, i < 16 → c' 10 i = c 46 i) ∧ (∀ j : Nat, j ≠ 4 → c' 3 j = c 3 j) ∧ ∀ i : Nat, i ≠ 3 → i ≠ 10 → c' i = c i := by
  refine ⟨nd_up (nd_row c 10 (va_cpy (c 46) (c 10) 0 0 16)) 3 4 (c 39 4), ?_, ?_, fun i hi => ?_, fun j hj => ?_, fun i h1 h2 => ?_⟩
  · rfl
  · rw [u_eq]
  · rw [u_ne1 (by decide), w_eq]
    exact va_lo hi
  · rw [u_ne2 hj, w_ne (by decide)]
  · rw [nd_up_ne h1, row_app, if_neg h2]
theorem tk_3 : f_X5_take F 3 39 3 c = some (0, nd_up (nd_up c 3 5 (c 39 5)) 3 6 (c 39 6)) := rfl
/-- what is taken of a law -/
theorem t_0 (hF : 300000 ≤ F) (hp : txp_ n m t c r) : ∃ (v : Int32) (c' r' : nd_Mem), f_X10_text F (nI 0) c = some (v, c') ∧ tM_ F (nI 0) r = some (v, r') ∧ txq_ n c r c' r' := by
  have hm := hp.2.2.2.1
  have hE : f_X5_empty F 39 (nI 0) (cS_ 0 c) = some (0, nd_up (nd_up (cS_ 0 c) 40 1 0) 42 1 0) := rfl
  obtain ⟨c1, x1, x2, x3, x4, x5⟩ := c_set hF (k := 0) (by decide) hp hE (by rw [nd_up_ne (by decide), nd_up_ne (by decide)]) (by rw [nd_up_ne (by decide), nd_up_ne (by decide), cS_ne (by decide)])
  obtain ⟨r1, y1, y2, y3, y4, y22, y23, y24, y29, y30, y6⟩ := m_set hF hp
  have ps : ps_k c1 r1 t m 0 (tn_ t m 0) := ⟨x2, x3, y2, y3, (tn_le (Nat.zero_le m)).2⟩
  have fc1 : fD_ c c1 := fun i hi => by
    rw [x5 i (fun e => hi ((by decide : ∀ a ∈ [38, 48, 49, 50], a ∈ [38, 39, 40, 41, 42, 43, 44, 45, 46, 48, 49, 50]) i e)), nd_up_ne (fun e => hi (by rw [e]; decide)), nd_up_ne (fun e => hi (by rw [e]; decide)), cS_ne (fun e => hi (by rw [e]; decide))]
  have cd0 : cd_ c1 r1 0 := ⟨by rw [x5 42 (by decide)]; exact u_eq _ _ _ _, y23, fun i hi => absurd hi (Nat.not_lt_zero i)⟩
  have ln0 : ln_ c1 r1 0 0 := ⟨by rw [x5 40 (by decide), nd_up_ne (by decide)]; exact u_eq _ _ _ _, fun i hi => absurd hi (Nat.not_lt_zero i)⟩
  have LL : lres_ c1 r1 (f_X3_read_61 F F (nI 0) 1 0 c1) (f_X11_readLaw_2 F F 0 r1) F := ll_ hF (m - tn_ t m 0) c1 r1 (tn_ t m 0) 0 0 F F rfl ps cd0 (Nat.zero_le _) y24 ln0 (by decide) (by omega) (by omega)
  have hM : tM_ F (nI 0) r = nd_bind (nd_bind (f_X11_readLaw_2 F F 0 r1) fun a b => some (a, b)) fun v σ => tE_ F (nI 0) v σ := by
    rw [m_run (by decide)]
    unfold f_X11_readsText
    rw [n_let, y1, n_bind]
    rfl
  rcases LL with ⟨c2, r2, C, l, a1, a2, a3, a4, a5, a6, a7, a8, a9⟩ | ⟨c2, r2, a1, a2, a3, a4, a5, a6⟩
  · have hl : ¬ nI l = (-1 : Int32) := li_n1 a6
    have D3 : fD_ c (nd_up c2 38 2 0) := fD_up (fD_tr fc1 (fD_l a7)) (by decide)
    have f9 : fr_ [] [9] r2 (nd_up r2 60 9 0) := (by repeat first | exact fr_rf | (refine fr_up57 ?_ (by decide)) | (refine fr_up ?_ (by decide) (by decide)) | (refine fr_row ?_ (by decide) (by decide)))
    have R3 : rD_ r (nd_up r2 60 9 0) := rD_tr y4 (rD_tr (rD_l a8) (rD_57 f9 (by decide)))
    obtain ⟨c4, k1, k2, k3, k4, k5, k6⟩ := tk_0 (F := F) (c := nd_up c2 38 2 0) (l := l) (C := C) (by rw [u_ne1 (by decide)]; exact a5.1) a6 (by rw [u_ne1 (by decide)]; exact a3.1) a4
    have hC : f_X10_text F (nI 0) c = some (nI l, c4) := by
      unfold f_X10_text
      rw [x1, a1]
      unfold f_X3_read_93 f_X5_linesOf
      rw [n_let, if_neg n10, if_pos rfl, n_bind, n_bind]
      show (if (nd_up c2 38 2 0 40 1 / 4 : Int32) = -1 then _ else _) = _
      rw [u_ne1 (by decide), a5.1, n_div4 a6, if_neg hl]
      show nd_bind (f_X5_take F 3 39 0 (nd_up c2 38 2 0)) _ = _
      rw [k1, n_bind]
      rfl
    obtain ⟨r4, q1, q2, q3, q4⟩ := tl_2 (F := F) (L := l) a6 l (nd_up r2 60 9 0) 0 F rfl (Nat.zero_le l) (by rw [u_ne2 (by decide), a8.1.2 22 (by decide)]; exact y22) (by omega)
    have e57 := q4 60 (by decide) (by decide) (by decide) (by decide)
    obtain ⟨r5, s1, s2, s3, s4⟩ := tl_107 (F := F) (L := l) (C := C) a4 C r4 0 F rfl (Nat.zero_le C) (by rw [e57, u_ne2 (by decide), a8.1.2 22 (by decide)]; exact y22) (by rw [e57, u_ne2 (by decide)]; exact a3.2.1) (by omega)
    have e57' : r5 60 = nd_up r2 60 9 0 60 := (s4 60 (by decide) (by decide)).trans e57
    have hR : tM_ F (nI 0) r = some (nI l, nd_up r5 67 0 (nI l)) := by
      rw [hM, a2, n_bind, n_bind]
      unfold tE_ f_X11_text_69 f_X11_takesLaw f_X11_text_99
      rw [if_neg hl, n_let, if_neg hl, if_pos (show nI 0 = (0 : Int32) from rfl)]
      show nd_bind (f_X11_takesLaw_2 F F (nI l) (nI 0) (nd_up r2 60 9 0)) _ = _
      rw [q1]
      show nd_bind (f_X11_takesLaw_107 F F (nI l) (nI 0) r4) _ = _
      rw [s1, n_bind]
    have c3i : ∀ i : Nat, i ≠ 38 → nd_up c2 38 2 0 i = c2 i := fun i hi => nd_up_ne hi
    have rT : ∀ i : Nat, i ∉ [67, 68, 69, 70, 71, 72, 73] → nd_up r5 67 0 (nI l) i = nd_up r2 60 9 0 i := fun i hi => by
      rw [nd_up_ne (fun e => hi (by rw [e]; decide)), s4 i (fun e => hi (by rw [e]; decide)) (fun e => hi (by rw [e]; decide)), q4 i (fun e => hi (by rw [e]; decide)) (fun e => hi (by rw [e]; decide)) (fun e => hi (by rw [e]; decide)) (fun e => hi (by rw [e]; decide))]
    have cT : ∀ i : Nat, i ∉ [4, 5, 6, 7] → c4 i = nd_up c2 38 2 0 i := fun i hi => k6 i (fun e => hi (by rw [e]; decide)) (fun e => hi (by rw [e]; decide)) (fun e => hi (by rw [e]; decide)) (fun e => hi (by rw [e]; decide))
    have r57 := rT 60 (by decide)
    refine ⟨nI l, c4, _, hC, hR, ⟨?_, ?_, ?_, ?_⟩, ⟨fun i hi _ => ?_, fun a _ => ?_⟩, ⟨fun i hi h57 => ?_, fun a ha => ?_⟩, fun _ => ?_, pn_f ?_ ?_ (fun i hi => ?_) ?_, fe_f ?_ ?_ (fun i hi => ?_) ?_, si_f ?_ ?_ (fun i hi => ?_) ?_, Or.inl ⟨?_, ?_⟩⟩
    · rw [cT 38 (by decide)]; exact u_eq _ _ _ _
    · rw [r57]; exact u_eq _ _ _ _
    · rw [cT 38 (by decide), u_ne2 (by decide), a9.1, r57, u_ne2 (by decide), a8.1.2 29 (by decide), y29]
    · rw [cT 38 (by decide), u_ne2 (by decide), a9.2, r57, u_ne2 (by decide), a8.1.2 30 (by decide), y30]
    · rw [cT i (fun e => hi ((by decide : ∀ a ∈ [4, 5, 6, 7], a ∈ Tc_) i e))]
      exact (fD_T D3).1 i hi (by assumption)
    · rw [cT 60 (by decide)]
      exact (fD_T D3).2 a (List.not_mem_nil)
    · rw [rT i (fun e => hi ((by decide : ∀ a ∈ [67, 68, 69, 70, 71, 72, 73], a ∈ Tr_) i e))]
      exact (rD_T R3).1 i hi h57
    · rw [r57]
      exact (rD_T R3).2 a ha
    · have ty : ∀ (a d : Nat) (s : List Nat), a + d ≤ C → ty_run (nd_up r5 67 0 (nI l) 72) (nd_up r5 67 0 (nI l) 73) a d s = tyd_ r2 a d s := fun a d s had => ty_run_c d a s (fun j _ hj => by
        rw [u_ne1 (by decide), u_ne1 (by decide), (s2 j (Nat.zero_le j) (by omega)).1, (s2 j (Nat.zero_le j) (by omega)).2, q4 72 (by decide) (by decide) (by decide) (by decide), q4 73 (by decide) (by decide) (by decide) (by decide), u_ne1 (by decide), u_ne1 (by decide)]
        exact ⟨rfl, rfl⟩)
      refine ⟨l, C, a6, a4, k2, k4, u_eq _ _ _ _, fun j hj => ?_, fun i hi => ?_⟩
      · obtain ⟨w, f, p, e, b1, b2, b3, b4, b5, b6, b7, b8, b9, b10, b11, b12, ⟨x, b13⟩, b14⟩ := a5.2 j hj
        obtain ⟨g1, g2, g3, g4⟩ := q2 j (Nat.zero_le j) hj
        have d5 : ∀ i : Nat, i < 4 * l → c4 5 i = c2 41 i := fun i hi => by rw [k3 i hi, u_ne1 (by decide)]
        have d65 : ∀ i : Nat, i ≠ 67 → i ≠ 72 → i ≠ 73 → nd_up r5 67 0 (nI l) i = r4 i := fun i h1 h2 h3 => by rw [nd_up_ne h1, s4 i h2 h3]
        refine ⟨w, f, p, e, b1, b2, b3, b4, by rw [d5 _ (by omega)]; exact b5, by rw [d65 68 (by decide) (by decide) (by decide), g1, u_ne1 (by decide)]; exact b6, by rw [d5 _ (by omega)]; exact b7, by rw [d65 69 (by decide) (by decide) (by decide), g2, u_ne1 (by decide)]; exact b8, by rw [d5 _ (by omega)]; exact b9, by rw [d65 70 (by decide) (by decide) (by decide), g3, u_ne1 (by decide)]; exact b10, by rw [d5 _ (by omega)]; exact b11, by rw [d65 71 (by decide) (by decide) (by decide), g4, u_ne1 (by decide)]; exact b12, ⟨x, by rw [ty _ _ _ (by omega)]; exact b13⟩, ?_⟩
        rcases b14 with e' | e'
        · exact Or.inl e'
        · exact Or.inr (by rw [ty _ _ _ (by omega)]; exact e')
      · rw [k5 i hi, u_ne1 (by decide), u_ne1 (by decide), u_ne1 (by decide), (s2 i (Nat.zero_le i) hi).1, (s2 i (Nat.zero_le i) hi).2, q4 72 (by decide) (by decide) (by decide) (by decide), q4 73 (by decide) (by decide) (by decide) (by decide), u_ne1 (by decide), u_ne1 (by decide)]
        exact a3.2.2 i hi
    · rw [cT 8 (by decide)]; exact D3 8 (by decide)
    · rw [cT 9 (by decide)]; exact D3 9 (by decide)
    · rw [rT 75 (by decide)]; exact R3.2.2.2.1 i hi
    · rw [r57]; exact R3.1.2 31 (by decide)
    · rw [cT 3 (by decide), D3 3 (by decide)]
    · rw [cT 10 (by decide)]; exact D3 10 (by decide)
    · rw [rT 76 (by decide)]; exact (R3.2.2.2.2 i hi).1
    · rw [r57]; exact R3.1.2 33 (by decide)
    · rw [cT 3 (by decide), D3 3 (by decide)]
    · rw [cT 3 (by decide), D3 3 (by decide)]
    · rw [rT 77 (by decide)]; exact (R3.2.2.2.2 i hi).2
    · rw [r57]; exact R3.1.2 35 (by decide)
    · rw [cT 24 (by decide)]; exact D3 24 (by decide)
    · rw [r57]; exact R3.1.2 3 (by decide)
  · exact ⟨-1, _, _, t_cf (x1.trans a1), by rw [hM, a2, n_bind, n_bind]; exact t_mf, tq_1 (fD_tr fc1 (fD_l a5)) (rD_tr y4 (rD_l a6)) a3 a4⟩
end TY
