/-! text: the call -/
abbrev Tc_ : List Nat := [3, 4, 5, 6, 7, 8, 9, 10, 24, 38, 39, 40, 41, 42, 43, 44, 45, 46, 48, 49, 50]
abbrev Tr_ : List Nat := [67, 68, 69, 70, 71, 72, 73, 74, 75, 76, 77]
abbrev Tk_ : List Nat := [3, 9, 10, 11, 12, 13, 22, 23, 24, 26, 27, 28, 29, 30, 31, 33, 35]
def txp_ (n m : Nat) (t : Nat → Nat) (c r : nd_Mem) : Prop := n ≤ 16 ∧ c 1 1 = nI n ∧ r 60 6 = nI n ∧ m ≤ 400 ∧ c 38 2 = nI m ∧ r 60 9 = nI m ∧ (∀ i : Nat, i < m → t i < 256 ∧ c 47 i = nI (t i) ∧ r 65 i = nI (t i)) ∧ ∀ i : Nat, i < 134 → r 66 i = nI (iv_words.getD i 0)
def txq_ (n : Nat) (c r c' r' : nd_Mem) : Prop := (c' 38 2 = 0 ∧ r' 60 9 = 0 ∧ c' 38 3 = r' 60 29 ∧ c' 38 4 = r' 60 30) ∧ fr_ Tc_ [] c c' ∧ fr_ Tr_ Tk_ r r' ∧ (iv_law c r → iv_law c' r') ∧ (iv_plan c r n → iv_plan c' r' n) ∧ (iv_feud c r n → iv_feud c' r' n) ∧ (iv_side c r → iv_side c' r') ∧ ((c' 24 = c 24 ∧ r' 60 3 = r 60 3) ∨ (c' 24 1 = 0 ∧ c' 24 2 = c 24 2 ∧ r' 60 3 = 0))
def fD_ (c c' : nd_Mem) : Prop := ∀ i : Nat, i ∉ [38, 39, 40, 41, 42, 43, 44, 45, 46, 48, 49, 50] → c' i = c i
def rD_ (r r' : nd_Mem) : Prop := fr_ [68, 69, 70, 71, 72, 73, 74, 75, 76, 77] [9, 10, 11, 12, 13, 22, 23, 24, 26, 27, 28, 29, 30] r r' ∧ (∀ i : Nat, i < 32 → r' 68 i = r 68 i ∧ r' 69 i = r 69 i ∧ r' 70 i = r 70 i ∧ r' 71 i = r 71 i) ∧ (∀ i : Nat, i < 800 → r' 72 i = r 72 i ∧ r' 73 i = r 73 i) ∧ (∀ i : Nat, i < 64 → r' 75 i = r 75 i) ∧ ∀ i : Nat, i < 16 → r' 76 i = r 76 i ∧ r' 77 i = r 77 i
def tE_ (F : Nat) (x1 v : Int32) (σ : nd_Mem) : nd_Res := if v = (-1 : Int32) then (nd_let (nd_up σ 60 29 (σ 60 27)) fun σ13 => (nd_let (nd_up σ13 60 30 (σ13 60 28)) fun σ14 => (f_X11_text_69 F x1 v σ14))) else f_X11_text_69 F x1 v σ
def tM_ (F : Nat) (x1 : Int32) (σ1 : nd_Mem) : nd_Res := (nd_let (nd_up σ1 60 29 (0 : Int32)) fun σ2 => (nd_let (nd_up σ2 60 30 (-1 : Int32)) fun σ3 => (nd_let (nd_up σ3 60 10 (0 : Int32)) fun σ4 => (nd_let (nd_up σ4 60 23 (0 : Int32)) fun σ5 => (nd_let (nd_up σ5 60 24 (0 : Int32)) fun σ6 => (nd_bind (f_X11_isIn F x1 (0 : Int32) (3 : Int32) σ6) fun r7 σ8 => (if r7 = 0 then (f_X11_text_69 F x1 (-1 : Int32) σ8) else (nd_bind (f_X11_readsText F x1 σ8) fun r10 σ11 => tE_ F x1 r10 σ11))))))))
def cS_ (k : Nat) (c : nd_Mem) : nd_Mem := nd_up (nd_up (nd_up (nd_up c 38 3 0) 38 4 (-1)) 38 5 (nI k)) 38 6 (c 1 1)
def rR_ (r : nd_Mem) : nd_Mem := nd_up (nd_up (nd_up (nd_up (nd_up r 60 29 0) 60 30 (-1)) 60 10 0) 60 23 0) 60 24 0
section TX
variable {F n m k l : Nat} {t : Nat → Nat} {c r c' r' : nd_Mem}
theorem fD_tr {c1 c2 c3 : nd_Mem} (h1 : fD_ c1 c2) (h2 : fD_ c2 c3) : fD_ c1 c3 := fun i hi => (h2 i hi).trans (h1 i hi)
theorem fD_up {i j : Nat} {v : Int32} (h : fD_ c c') (hi : i ∈ [38, 39, 40, 41, 42, 43, 44, 45, 46, 48, 49, 50]) : fD_ c (nd_up c' i j v) := fun a ha => by
  rw [nd_up_ne (fun e => ha (by rw [e]; exact hi))]
  exact h a ha
theorem fD_l (h : fcl_ c c') : fD_ c c' := fun i hi => h.1 i (fun e => hi (by rw [e]; decide)) (fun e => hi (by rw [e]; decide)) (fun e => hi (by rw [e]; decide)) (fun e => hi (by rw [e]; decide)) (fun e => hi (by rw [e]; decide))
theorem fD_y (h : fcy_ c c') : fD_ c c' := fun i hi => h.1 i (fun e => hi (by rw [e]; decide)) (fun e => hi (by rw [e]; decide)) (fun e => hi (by rw [e]; decide)) (fun e => hi (by rw [e]; decide)) (fun e => hi (by rw [e]; decide))
theorem rD_tr {r1 r2 r3 : nd_Mem} (h1 : rD_ r1 r2) (h2 : rD_ r2 r3) : rD_ r1 r3 := by
  refine ⟨fr_t h1.1 h2.1, fun i hi => ?_, fun i hi => ⟨(h2.2.2.1 i hi).1.trans (h1.2.2.1 i hi).1, (h2.2.2.1 i hi).2.trans (h1.2.2.1 i hi).2⟩, fun i hi => (h2.2.2.2.1 i hi).trans (h1.2.2.2.1 i hi), fun i hi => ⟨(h2.2.2.2.2 i hi).1.trans (h1.2.2.2.2 i hi).1, (h2.2.2.2.2 i hi).2.trans (h1.2.2.2.2 i hi).2⟩⟩
  obtain ⟨a1, a2, a3, a4⟩ := h1.2.1 i hi
  obtain ⟨b1, b2, b3, b4⟩ := h2.2.1 i hi
  exact ⟨b1.trans a1, b2.trans a2, b3.trans a3, b4.trans a4⟩
theorem rD_57 {K : List Nat} (h : fr_ [] K r r') (hK : ∀ a ∈ K, a ∈ [9, 10, 11, 12, 13, 22, 23, 24, 26, 27, 28, 29, 30]) : rD_ r r' := by
  have e : ∀ i : Nat, i ≠ 60 → r' i = r i := fun i hi => h.1 i (List.not_mem_nil) hi
  refine ⟨fr_w h (fun i hi => absurd hi (List.not_mem_nil)) hK, fun i _ => ?_, fun i _ => ?_, fun i _ => ?_, fun i _ => ?_⟩
  · rw [e 68 (by decide), e 69 (by decide), e 70 (by decide), e 71 (by decide)]; exact ⟨rfl, rfl, rfl, rfl⟩
  · rw [e 72 (by decide), e 73 (by decide)]; exact ⟨rfl, rfl⟩
  · rw [e 75 (by decide)]
  · rw [e 76 (by decide), e 77 (by decide)]; exact ⟨rfl, rfl⟩
theorem rD_l (h : frl_ r r') : rD_ r r' := by
  refine ⟨fr_w h.1 (by decide) (by decide), h.2.2, h.2.1, fun i _ => ?_, fun i _ => ?_⟩
  · rw [h.1.1 75 (by decide) (by decide)]
  · rw [h.1.1 76 (by decide) (by decide), h.1.1 77 (by decide) (by decide)]; exact ⟨rfl, rfl⟩
theorem rD_y (h : fry_ r r') : rD_ r r' := by
  refine ⟨fr_w h.1 (by decide) (by decide), fun i _ => ?_, h.2.1, h.2.2.1, h.2.2.2⟩
  rw [h.1.1 68 (by decide) (by decide), h.1.1 69 (by decide) (by decide), h.1.1 70 (by decide) (by decide), h.1.1 71 (by decide) (by decide)]; exact ⟨rfl, rfl, rfl, rfl⟩
theorem kp_l (h : fD_ c c') (g : rD_ r r') : iv_law c r → iv_law c' r' := lw_f (h 4 (by decide)) (h 5 (by decide)) (h 6 (by decide)) (h 7 (by decide)) (g.1.1 67 (by decide) (by decide)) g.2.1 g.2.2.1
theorem kp_p (h : fD_ c c') (g : rD_ r r') : iv_plan c r n → iv_plan c' r' n := pn_f (h 8 (by decide)) (h 9 (by decide)) g.2.2.2.1 (g.1.2 31 (by decide))
theorem kp_f (h : fD_ c c') (g : rD_ r r') : iv_feud c r n → iv_feud c' r' n := fe_f (by rw [h 3 (by decide)]) (h 10 (by decide)) (fun i hi => (g.2.2.2.2 i hi).1) (g.1.2 33 (by decide))
theorem kp_s (h : fD_ c c') (g : rD_ r r') : iv_side c r → iv_side c' r' := si_f (by rw [h 3 (by decide)]) (by rw [h 3 (by decide)]) (fun i hi => (g.2.2.2.2 i hi).2) (g.1.2 35 (by decide))
theorem fD_T (h : fD_ c c') : fr_ Tc_ [] c c' := ⟨fun i hi _ => h i (fun e => hi ((by decide : ∀ a ∈ [38, 39, 40, 41, 42, 43, 44, 45, 46, 48, 49, 50], a ∈ Tc_) i e)), fun a _ => by rw [h 60 (by decide)]⟩
theorem rD_T (h : rD_ r r') : fr_ Tr_ Tk_ r r' := fr_w h.1 (by decide) (by decide)
/-- both keep what they had -/
theorem tq_0 (hc : fD_ c c') (hr : rD_ r r') (h1 : c' 38 2 = 0) (h2 : r' 60 9 = 0) (h3 : c' 38 3 = r' 60 29) (h4 : c' 38 4 = r' 60 30) : txq_ n c r c' r' := ⟨⟨h1, h2, h3, h4⟩, fD_T hc, rD_T hr, kp_l hc hr, kp_p hc hr, kp_f hc hr, kp_s hc hr, Or.inl ⟨hc 24 (by decide), hr.1.2 3 (by decide)⟩⟩
theorem cS_ne {i : Nat} (h : i ≠ 38) : cS_ k c i = c i := by
  unfold cS_
  rw [nd_up_ne h, nd_up_ne h, nd_up_ne h, nd_up_ne h]
theorem c_set (hF : 300000 ≤ F) (hk : k < 4) (hp : txp_ n m t c r) {cE : nd_Mem} (hE : f_X5_empty F 39 (nI k) (cS_ k c) = some (0, cE)) (h38 : cE 38 = cS_ k c 38) (h47 : cE 47 = c 47) : ∃ c1 : nd_Mem, f_X3_read F (nI k) (c 1 1) c = f_X3_read_61 F F (nI k) 1 0 c1 ∧ cb_ c1 t m k ∧ ctk_ c1 t m k (tn_ t m 0) ∧ c1 38 6 = nI n ∧ ∀ i : Nat, i ∉ [38, 48, 49, 50] → c1 i = cE i := by
  obtain ⟨p1, p2, p3, p4, p5, p6, p7, p8⟩ := hp
  have s2 : cS_ k c 38 2 = nI m := by
    unfold cS_
    rw [u_ne2 (by decide), u_ne2 (by decide), u_ne2 (by decide), u_ne2 (by decide)]
    exact p5
  have s3 : cS_ k c 38 3 = 0 := by
    unfold cS_
    rw [u_ne2 (by decide), u_ne2 (by decide), u_ne2 (by decide), u_eq]
  have s4 : cS_ k c 38 4 = -1 := by
    unfold cS_
    rw [u_ne2 (by decide), u_ne2 (by decide), u_eq]
  have s5 : cS_ k c 38 5 = nI k := by
    unfold cS_
    rw [u_ne2 (by decide), u_eq]
  have s6 : cS_ k c 38 6 = nI n := by
    unfold cS_
    rw [u_eq]
    exact p2
  have hb : cp_ cE t m k := ⟨p4, fun i hi => (p7 i hi).1, by rw [h38]; exact s2, fun i hi => by rw [h47]; exact (p7 i hi).2.1, by rw [h38]; exact s5, hk, by rw [h38]; exact s3, by rw [h38]; exact s4⟩
  obtain ⟨c0, w1, w2, w3, w4, w5⟩ := c_findT (F := F) hF hb
  obtain ⟨c1, a1, a2, a3⟩ := c_advj (F := F) w2 (j := 0) (fun i hi => absurd hi (Nat.not_lt_zero i)) w3
  refine ⟨c1, ?_, cb_fc (fcc_of a3) ⟨a3.2 3 (by decide), a3.2 4 (by decide)⟩ w2, a2, by rw [a3.2 6 (by decide), w5 6 (by decide) (by decide), h38]; exact s6, fun i hi => by rw [a3.1 i (fun e => hi (by rw [e]; decide)), w4 i (fun e => hi (by rw [e]; decide)) (fun e => hi (by rw [e]; decide)) (fun e => hi (by rw [e]; decide)) (fun e => hi (by rw [e]; decide))]⟩
  have hW : ∀ σ : nd_Mem, f_X3_wordsOf F (nI k) σ = some (nI k, σ) := by
    intro σ
    have : k = 0 ∨ k = 1 ∨ k = 2 ∨ k = 3 := by omega
    rcases this with rfl | rfl | rfl | rfl <;> rfl
  have hE' : f_X5_empty F 39 (nI k) (nd_up (nd_up (nd_up (nd_up c 38 3 0) 38 4 (-1)) 38 5 (nI k)) 38 6 (c 1 1)) = some (0, cE) := hE
  unfold f_X3_read f_X3_read_24
  rw [n_let, n_let, if_neg (nI_pos (by omega)), if_neg (show ¬ (3 : Int32) < nI k from nI_nlt (a := 3) (by omega) (by decide)), if_neg n10, hW, n_bind, n_let, n_let, hE', n_bind, w1, n_bind, a1, n_bind]
theorem m_set (hF : 300000 ≤ F) (hp : txp_ n m t c r) : ∃ r1 : nd_Mem, f_X11_reads F (nd_up (rR_ r) 60 22 0) = some (0, r1) ∧ rb_ r1 t m ∧ rt_ r1 t m (tn_ t m 0) ∧ rD_ r r1 ∧ r1 60 22 = nI 0 ∧ r1 60 23 = nI 0 ∧ r1 60 24 = nI 0 ∧ r1 60 29 = 0 ∧ r1 60 30 = -1 ∧ r1 60 6 = nI n := by
  obtain ⟨p1, p2, p3, p4, p5, p6, p7, p8⟩ := hp
  have f0 : fr_ [] [10, 22, 23, 24, 29, 30] r (nd_up (rR_ r) 60 22 0) := by
    unfold rR_
    exact (by repeat first | exact fr_rf | (refine fr_up57 ?_ (by decide)) | (refine fr_up ?_ (by decide) (by decide)) | (refine fr_row ?_ (by decide) (by decide)))
  have hb : rb_ (nd_up (rR_ r) 60 22 0) t m := ⟨p4, fun i hi => (p7 i hi).1, by rw [f0.2 9 (by decide)]; exact p6, fun i hi => by rw [f0.1 65 (by decide) (by decide)]; exact (p7 i hi).2.2, fun i hi => by rw [f0.1 66 (by decide) (by decide)]; exact p8 i hi⟩
  have h10 : nd_up (rR_ r) 60 22 0 60 10 = nI 0 := by
    unfold rR_
    rw [u_ne2 (by decide), u_ne2 (by decide), u_ne2 (by decide)]
    exact u_eq _ _ _ _
  obtain ⟨r1, a1, a2, a3⟩ := m_reads hF hb (s := 0) h10 (Nat.zero_le m)
  refine ⟨r1, a1, rb_fr (frr_of (n := 0) a3).1 hb, a2, rD_tr (rD_57 f0 (by decide)) (rD_57 a3 (by decide)), ?_, ?_, ?_, ?_, ?_, ?_⟩
  · rw [a3.2 22 (by decide)]; exact u_eq _ _ _ _
  · rw [a3.2 23 (by decide)]
    unfold rR_
    rw [u_ne2 (by decide), u_ne2 (by decide)]; exact u_eq _ _ _ _
  · rw [a3.2 24 (by decide)]
    unfold rR_
    rw [u_ne2 (by decide)]; exact u_eq _ _ _ _
  · rw [a3.2 29 (by decide)]
    unfold rR_
    rw [u_ne2 (by decide), u_ne2 (by decide), u_ne2 (by decide), u_ne2 (by decide), u_ne2 (by decide), u_eq]
  · rw [a3.2 30 (by decide)]
    unfold rR_
    rw [u_ne2 (by decide), u_ne2 (by decide), u_ne2 (by decide), u_ne2 (by decide), u_eq]
  · rw [a3.2 6 (by decide), f0.2 6 (by decide)]; exact p3
theorem m_run (hk : k < 4) : tM_ F (nI k) r = nd_bind (f_X11_readsText F (nI k) (rR_ r)) fun v σ => tE_ F (nI k) v σ := by
  unfold tM_
  rw [n_let, n_let, n_let, n_let, n_let, e_isIn, n_bind, if_neg (show ¬ (nI k < 0 ∨ (3 : Int32) < nI k) from fun e => e.elim (nI_pos (by omega)) (nI_nlt (a := 3) (by omega) (by decide))), if_neg n10]
  rfl
/-- the class is refused -/
theorem t_cf {x1 : Int32} {c2 : nd_Mem} (hX : f_X3_read F x1 (c 1 1) c = f_X3_read_93 F x1 0 c2) : f_X10_text F x1 c = some (-1, nd_up c2 38 2 0) := by
  unfold f_X10_text
  rw [hX]
  unfold f_X3_read_93
  rw [n_let, if_pos rfl, n_bind, if_pos rfl]
  rfl
theorem t_mf {x1 : Int32} {r2 : nd_Mem} : tE_ F x1 (-1) r2 = some (-1, nd_up (nd_up (nd_up r2 60 29 (r2 60 27)) 60 30 (r2 60 28)) 60 9 0) := by
  unfold tE_ f_X11_text_69
  rw [if_pos rfl, n_let, n_let, u_ne2 (by decide), n_let, if_pos rfl]
theorem tq_1 {c2 r2 : nd_Mem} (hc : fD_ c c2) (hr : rD_ r r2) (h3 : c2 38 3 = r2 60 27) (h4 : c2 38 4 = r2 60 28) : txq_ n c r (nd_up c2 38 2 0) (nd_up (nd_up (nd_up r2 60 29 (r2 60 27)) 60 30 (r2 60 28)) 60 9 0) := by
  have f : fr_ [] [9, 29, 30] r2 (nd_up (nd_up (nd_up r2 60 29 (r2 60 27)) 60 30 (r2 60 28)) 60 9 0) := (by repeat first | exact fr_rf | (refine fr_up57 ?_ (by decide)) | (refine fr_up ?_ (by decide) (by decide)) | (refine fr_row ?_ (by decide) (by decide)))
  refine tq_0 (fD_up hc (by decide)) (rD_tr hr (rD_57 f (by decide))) (u_eq _ _ _ _) (u_eq _ _ _ _) ?_ ?_
  · rw [u_ne2 (by decide), u_ne2 (by decide), u_ne2 (by decide), u_eq]; exact h3
  · rw [u_ne2 (by decide), u_ne2 (by decide), u_eq]; exact h4
/-- no such text -/
theorem t_out {x1 : Int32} (hx : x1 < 0 ∨ 3 < x1) : ∃ (v : Int32) (c' r' : nd_Mem), f_X10_text F x1 c = some (v, c') ∧ tM_ F x1 r = some (v, r') ∧ txq_ n c r c' r' := by
  have hX : f_X3_read F x1 (c 1 1) c = f_X3_read_93 F x1 0 (nd_up (nd_up c 38 3 0) 38 4 (-1)) := by
    unfold f_X3_read f_X3_read_23 f_X3_read_24
    rw [n_let, n_let, if_pos rfl]
    by_cases h0 : x1 < 0
    · rw [if_pos h0]
    · rw [if_neg h0, if_pos (hx.resolve_left h0)]
  have hM : tM_ F x1 r = some (-1, nd_up (rR_ r) 60 9 0) := by
    unfold tM_ f_X11_text_69
    rw [n_let, n_let, n_let, n_let, n_let, e_isIn, n_bind, if_pos hx, if_pos rfl, n_let, if_pos rfl]
    rfl
  have f : fr_ [] [9, 10, 23, 24, 29, 30] r (nd_up (rR_ r) 60 9 0) := by
    unfold rR_
    exact (by repeat first | exact fr_rf | (refine fr_up57 ?_ (by decide)) | (refine fr_up ?_ (by decide) (by decide)) | (refine fr_row ?_ (by decide) (by decide)))
  have fc : fD_ c (nd_up (nd_up (nd_up c 38 3 0) 38 4 (-1)) 38 2 0) := fD_up (fD_up (fD_up (fun _ _ => rfl) (by decide)) (by decide)) (by decide)
  refine ⟨-1, _, _, t_cf hX, hM, tq_0 fc (rD_57 f (by decide)) (u_eq _ _ _ _) (u_eq _ _ _ _) ?_ ?_⟩
  · unfold rR_
    rw [u_ne2 (by decide), u_ne2 (by decide), u_eq, u_ne2 (by decide), u_ne2 (by decide), u_ne2 (by decide), u_ne2 (by decide), u_ne2 (by decide), u_eq]
  · unfold rR_
    rw [u_ne2 (by decide), u_eq, u_ne2 (by decide), u_ne2 (by decide), u_ne2 (by decide), u_ne2 (by decide), u_eq]
end TX
