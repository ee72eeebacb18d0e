/-! text: the other texts, line by line -/
def fcy_ (c c' : nd_Mem) : Prop := (∀ i : Nat, i ≠ 38 → i ≠ 39 → i ≠ 44 → i ≠ 45 → i ≠ 46 → c' i = c i) ∧ ∀ j : Nat, j ∉ [3, 4, 11, 12, 13, 14] → c' 38 j = c 38 j
def fry_ (r r' : nd_Mem) : Prop := fr_ [72, 73, 75, 76, 77] [10, 11, 12, 13, 23, 27, 28] r r' ∧ (∀ i : Nat, i < 800 → r' 72 i = r 72 i ∧ r' 73 i = r 73 i) ∧ (∀ i : Nat, i < 64 → r' 75 i = r 75 i) ∧ ∀ i : Nat, i < 16 → r' 76 i = r 76 i ∧ r' 77 i = r 77 i
section MO
variable {F z p k H : Nat} {c r : nd_Mem} {t : Nat → Nat}
theorem fcy_tr {c1 c2 c3 : nd_Mem} (h1 : fcy_ c1 c2) (h2 : fcy_ c2 c3) : fcy_ c1 c3 := ⟨fun i a b d e f => (h2.1 i a b d e f).trans (h1.1 i a b d e f), fun j a => (h2.2 j a).trans (h1.2 j a)⟩
theorem fcy_rf : fcy_ c c := ⟨fun _ _ _ _ _ _ => rfl, fun _ _ => rfl⟩
theorem fry_tr {r1 r2 r3 : nd_Mem} (h1 : fry_ r1 r2) (h2 : fry_ r2 r3) : fry_ r1 r3 := ⟨⟨fun i a b => (h2.1.1 i a b).trans (h1.1.1 i a b), fun j a => (h2.1.2 j a).trans (h1.1.2 j a)⟩, fun i hi => ⟨(h2.2.1 i hi).1.trans (h1.2.1 i hi).1, (h2.2.1 i hi).2.trans (h1.2.1 i hi).2⟩, fun i hi => (h2.2.2.1 i hi).trans (h1.2.2.1 i hi), fun i hi => ⟨(h2.2.2.2 i hi).1.trans (h1.2.2.2 i hi).1, (h2.2.2.2 i hi).2.trans (h1.2.2.2 i hi).2⟩⟩
theorem fry_rf : fry_ r r := ⟨fr_rf, fun _ _ => ⟨rfl, rfl⟩, fun _ _ => rfl, fun _ _ => ⟨rfl, rfl⟩⟩
/-- a move of the reader alone, without a code -/
def fcr_ (c c' : nd_Mem) : Prop := (∀ i : Nat, i ≠ 38 → c' i = c i) ∧ ∀ j : Nat, j ∉ [3, 4, 11, 12, 13, 14] → c' 38 j = c 38 j
def frx_ (r r' : nd_Mem) : Prop := fr_ [] [10, 11, 12, 13, 27, 28] r r'
theorem fcr_tr {c1 c2 c3 : nd_Mem} (h1 : fcr_ c1 c2) (h2 : fcr_ c2 c3) : fcr_ c1 c3 := ⟨fun i a => (h2.1 i a).trans (h1.1 i a), fun j a => (h2.2 j a).trans (h1.2 j a)⟩
theorem frx_tr {r1 r2 r3 : nd_Mem} (h1 : frx_ r1 r2) (h2 : frx_ r2 r3) : frx_ r1 r3 := ⟨fun i a b => (h2.1 i a b).trans (h1.1 i a b), fun j a => (h2.2 j a).trans (h1.2 j a)⟩
theorem fcr_k {c' : nd_Mem} (h : fck_ [11, 12, 13, 14] c c') : fcr_ c c' := ⟨h.1, (fcc_of h).2⟩
theorem frx_k {r' : nd_Mem} (h : fr_ [] [10, 11, 12, 13] r r') : frx_ r r' := fr_w h (fun i hi => hi) (fun j hj => by
  simp only [List.mem_cons, List.not_mem_nil, or_false] at hj ⊢
  omega)
theorem fcy_r {c' : nd_Mem} (h : fcr_ c c') : fcy_ c c' := ⟨fun i a _ _ _ _ => h.1 i a, h.2⟩
theorem fry_r {r' : nd_Mem} (h : frx_ r r') : fry_ r r' := by
  have e : ∀ i : Nat, i ≠ 60 → r' i = r i := fun i hi => h.1 i (List.not_mem_nil) hi
  refine ⟨fr_w h (fun i hi => absurd hi (List.not_mem_nil)) (fun j hj => ?_), fun i _ => ?_, fun i _ => ?_, fun i _ => ?_⟩
  · simp only [List.mem_cons, List.not_mem_nil, or_false] at hj ⊢
    omega
  · rw [e 72 (by decide), e 73 (by decide)]; exact ⟨rfl, rfl⟩
  · rw [e 75 (by decide)]
  · rw [e 76 (by decide), e 77 (by decide)]; exact ⟨rfl, rfl⟩
/-- both refuse, once more -/
theorem mv_rf {y : Int32} (h : ps_k c r t z k p) : ∃ c' r' : nd_Mem, f_X3_refuse F y c = some (0, c') ∧ f_X11_errs F y r = some (-1, r') ∧ c' 38 3 = r' 60 27 ∧ c' 38 4 = r' 60 28 ∧ fcr_ c c' ∧ frx_ r r' := by
  obtain ⟨h1, h2, h3, h4, h5⟩ := h
  refine ⟨nd_up (nd_up c 38 3 y) 38 4 (nI p), nd_up (nd_up r 60 27 y) 60 28 (nI p), ?_, ?_, ?_, ?_, ⟨fun i a1 => by rw [nd_up_ne a1, nd_up_ne a1], fun j hj => ?_⟩, (by repeat first | exact fr_rf | (refine fr_up57 ?_ (by decide)) | (refine fr_up ?_ (by decide) (by decide)) | (refine fr_row ?_ (by decide) (by decide)))⟩
  · unfold f_X3_refuse
    rw [n_let, u_ne2 (by decide), h2.2.1, n_let]
  · unfold f_X11_errs
    rw [n_let, u_ne2 (by decide), h4.2.1, n_let]
  · rw [u_ne2 (by decide), u_eq, u_ne2 (by decide), u_eq]
  · rw [u_eq, u_eq]
  · rw [u_ne2 (fun e => hj (by rw [e]; decide)), u_ne2 (fun e => hj (by rw [e]; decide))]
/-- a number within bounds -/
theorem ls_num (hF : 300000 ≤ F) {lo : Nat} {hi un : Int32} {la : Int32} (hla : la = nI lo) (hlo : lo < 10000) (h : ps_k c r t z k p) (hun : ∀ v : Nat, v ≤ 9999 → nI v ≠ un) : (∃ c' r' : nd_Mem, tk_ t z p = 3 ∧ lo ≤ tv_ t z p ∧ tv_ t z p ≤ 9999 ∧ ¬ hi < nI (tv_ t z p) ∧ f_X3_readNumber F la hi un c = some (1, c') ∧ f_X11_readNumber F la hi r = some (nI (tv_ t z p), r') ∧ ps_k c' r' t z k (tn_ t z (tqe_ t z p)) ∧ fcr_ c c' ∧ frx_ r r' ∧ p < tn_ t z (tqe_ t z p)) ∨ ∃ c' r' : nd_Mem, f_X3_readNumber F la hi un c = some (0, c') ∧ f_X11_readNumber F la hi r = some (-1, r') ∧ c' 38 3 = r' 60 27 ∧ c' 38 4 = r' 60 28 ∧ fcr_ c c' ∧ frx_ r r' := by
  obtain ⟨k0, k2, k3, k1⟩ := ckd_ h.2.1
  have hb := h.2.2.1
  have hr := h.2.2.2.1
  have h4 := tk_4 (t := t) (z := z) (p := p)
  subst hla
  unfold f_X3_readNumber f_X3_readNumber_38 f_X11_readNumber
  by_cases h3 : tk_ t z p = 3
  · have hp : p < z := tk_lt (t := t) (by omega)
    have hv := (tv_b hb.2.1 (show 2 ≤ tk_ t z p by omega)).1
    have c8 := (h.2.1.2.2.2.2.2.2.1 h3).2
    have h12 : r 60 12 = 3 := by rw [hr.2.2.1, h3]; rfl
    have e1 : (nI (tv_ t z p) < nI lo) = (tv_ t z p < lo) := n_lt (by omega) (by omega)
    rw [if_pos (k2.mpr h3), if_pos h12, c8, hr.2.2.2 (by omega), e_isIn, n_bind]
    by_cases hbad : nI (tv_ t z p) < nI lo ∨ hi < nI (tv_ t z p)
    · obtain ⟨c', r', w1, w2, w3⟩ := mv_rf (F := F) (y := 2) h
      refine Or.inr ⟨c', r', ?_, ?_, w3⟩
      · rw [w1, n_bind, if_neg (show ¬ ¬ ((0 : Int32) = 0 ∨ (0 : Int32) = 1) by decide)]
        by_cases hq : nI (tv_ t z p) < nI lo
        · rw [if_pos hq]
        · rw [if_neg hq, if_pos (hbad.resolve_left hq)]
      · rw [if_pos hbad, if_pos rfl, w2, n_bind]
    · obtain ⟨c', r', s1, s2, s3, s4, s5, s6, s7⟩ := mv_adv hF h hp 0
      refine Or.inl ⟨c', r', h3, by
        apply Classical.byContradiction
        intro hc
        exact hbad (Or.inl (by rw [e1]; omega)), hv, fun e => hbad (Or.inr e), ?_, ?_, s3, fcr_k s6, frx_k s7, (nx_gt hp).1⟩
      · rw [if_neg (fun e => hbad (Or.inl e)), if_neg (fun e => hbad (Or.inr e)), if_neg (hun _ hv), s1, n_bind]
      · rw [if_neg hbad, if_neg n10, s2, n_bind, hr.2.2.2 (by omega)]
  · obtain ⟨c', r', w1, w2, w3⟩ := mv_rf (F := F) (y := 1) h
    have h12 : ¬ r 60 12 = 3 := by rw [hr.2.2.1]; exact fun e => h3 ((nI_eq (b := 3) (by omega) (by decide)).mp e)
    refine Or.inr ⟨c', r', ?_, ?_, w3⟩
    · rw [if_neg (fun e => h3 (k2.mp e)), w1, n_bind, if_neg (by decide)]
    · rw [if_neg h12, w2, n_bind]
def bodyC_ (F k : Nat) (σ : nd_Mem) : nd_Res := if k = 1 then f_X3_readPlan F σ else if k = 2 then f_X3_readFeud F σ else f_X3_readSide F σ
def lineC_ (F k : Nat) (c : nd_Mem) : nd_Res := nd_bind (f_X3_advance F c) fun r1 σ2 => nd_bind (bodyC_ F k σ2) fun r5 σ6 => if r5 = 0 then some (0, σ6) else nd_bind (f_X3_readSign F 59 σ6) fun r8 σ9 => if r8 = 0 then some (0, σ9) else some (1, σ9)
def yok_ (F : Nat) (t : Nat → Nat) (z k : Nat) (INV : nd_Mem → nd_Mem → Nat → Prop) (c r : nd_Mem) (p l : Nat) (X Y : nd_Res) : Prop := (∃ (c' r' : nd_Mem) (p' : Nat) (v : Int32), X = some (1, c') ∧ Y = some (v, r') ∧ v ≠ -1 ∧ ps_k c' r' t z k p' ∧ p < p' ∧ INV c' r' (l + 1) ∧ fcy_ c c' ∧ fry_ r r') ∨ ∃ c' r' : nd_Mem, X = some (0, c') ∧ Y = some (-1, r') ∧ c' 38 3 = r' 60 27 ∧ c' 38 4 = r' 60 28 ∧ fcy_ c c' ∧ fry_ r r'
def yres_ (F k : Nat) (INV : nd_Mem → nd_Mem → Nat → Prop) (c r : nd_Mem) (X Y : nd_Res) : Prop := (∃ (c' r' : nd_Mem) (l' : Nat), X = f_X3_read_93 F (nI k) 1 c' ∧ Y = some (nI l', r') ∧ l' ≤ 16 ∧ INV c' r' l' ∧ fcy_ c c' ∧ fry_ r r' ∧ c' 38 3 = 0 ∧ c' 38 4 = -1) ∨ ∃ c' r' : nd_Mem, X = f_X3_read_93 F (nI k) 0 c' ∧ Y = some (-1, r') ∧ c' 38 3 = r' 60 27 ∧ c' 38 4 = r' 60 28 ∧ fcy_ c c' ∧ fry_ r r'
theorem c_62g {g : Nat} (hg : 0 < g) {x1 x4 : Int32} : f_X3_read_61 F g x1 0 x4 c = f_X3_read_93 F x1 0 c := by
  obtain ⟨g, rfl⟩ : ∃ q, g = q + 1 := ⟨g - 1, by omega⟩
  show f_X3_read_61_b F _ _ _ _ _ = _
  unfold f_X3_read_61_b
  rw [if_pos rfl, ite_self]
/-- line by line -/
theorem yl_ (hF : 300000 ≤ F) {w0 : Nat} {INV : nd_Mem → nd_Mem → Nat → Prop} {R : Nat → Int32 → nd_Mem → nd_Res} {body : Int32 → nd_Mem → nd_Res} (hk : k = 1 ∨ k = 2 ∨ k = 3) (hw0 : ∀ p : Nat, tk_ t z p = 2 → (kx_ t z k p = 0 ↔ tv_ t z p = w0)) (hR : ∀ (g l p : Nat) (c r : nd_Mem), ps_k c r t z k p → l ≤ 16 → R (g + 1) (nI l) r = if tk_ t z p = 2 ∧ tv_ t z p = w0 then (if l = 16 then (nd_bind (f_X11_errs F 3 r) fun a σ => some (a, σ)) else nd_bind (body (nI l) r) fun v σ => if v = (-1 : Int32) then some (-1, σ) else R g (nI (l + 1)) σ) else if tk_ t z p = 0 then some (nI l, r) else nd_bind (f_X11_errs F 1 r) fun a σ => some (a, σ)) (hbody : ∀ (c r : nd_Mem) (p l : Nat), ps_k c r t z k p → tk_ t z p = 2 → tv_ t z p = w0 → INV c r l → l < 16 → yok_ F t z k INV c r p l (lineC_ F k c) (body (nI l) r)) : ∀ (d : Nat) (c r : nd_Mem) (p l f g : Nat), z - p = d → ps_k c r t z k p → INV c r l → l ≤ 16 → d + 1 < f → d < g → yres_ F k INV c r (f_X3_read_61 F f (nI k) 1 (nI l) c) (R g (nI l) r) := by
  intro d
  induction d using Nat.strongRecOn with
  | ind d ih =>
    intro c r p l f g hdp h hinv hl16 hf hg
    obtain ⟨f, rfl⟩ : ∃ g, f = g + 1 := ⟨f - 1, by omega⟩
    obtain ⟨g, rfl⟩ : ∃ q, g = q + 1 := ⟨g - 1, by omega⟩
    obtain ⟨k0, k2, k3, k1⟩ := ckd_ h.2.1
    have hkl : 0 < (kls_.getD k []).length := by rcases hk with rfl | rfl | rfl <;> decide
    have hcl : f_X3_read_61 F (f + 1) (nI k) 1 (nI l) c = f_X3_read_61_b F (f_X3_read_61 F f) (nI k) 1 (nI l) c := rfl
    have nk0 : ¬ nI k = 0 := by rcases hk with rfl | rfl | rfl <;> decide
    rw [hcl, hR g l p c r h hl16]
    unfold f_X3_read_61_b
    rw [if_neg (show ¬ (16 : Int32) < nI l from nI_nlt (a := 16) hl16 (by decide)), if_neg n10]
    by_cases h0 : tk_ t z p = 0
    · rw [if_pos (k0.mpr h0), if_neg (show ¬ (tk_ t z p = 2 ∧ tv_ t z p = w0) from fun e => by omega), if_pos h0]
      exact Or.inl ⟨c, r, l, rfl, rfl, hl16, hinv, fcy_rf, fry_rf, ⟨h.1.2.2.2.2.2.2.1, h.1.2.2.2.2.2.2.2.1⟩⟩
    · rw [if_neg (fun e => h0 (k0.mp e))]
      unfold f_X3_readLine
      rw [if_neg nk0]
      by_cases hw : tk_ t z p = 2 ∧ tv_ t z p = w0
      · have hx := (hw0 p hw.1).mpr hw.2
        obtain ⟨c7, c8⟩ := h.2.1.2.2.2.2.1 hw.1 (by omega)
        rw [hx] at c8
        rw [if_pos hw]
        unfold f_X3_readLine_9
        rw [if_pos c7, c8, if_pos (show nI 0 ≤ (0 : Int32) by decide)]
        by_cases h16 : l = 16
        · subst h16
          obtain ⟨c', r', w1, w2, w3, w4, w5, w6⟩ := mv_rf (F := F) (y := 3) h
          rw [if_neg (show ¬ nI 16 < (16 : Int32) by decide), w1, n_bind, if_neg (by decide), n_bind, c_62g (by omega), if_pos rfl, w2, n_bind]
          exact Or.inr ⟨c', r', rfl, rfl, w3, w4, fcy_r w5, fry_r w6⟩
        · rw [if_pos (show nI l < (16 : Int32) from nI_lt (b := 16) (by omega) (by decide)), if_neg h16]
          have hline : (nd_bind (f_X3_advance F c) fun r1 σ2 => (if nI k = (0 : Int32) then (nd_bind (f_X3_readLaw F (nI 0) σ2) fun r5 σ6 => (if r5 = 0 then (f_X3_readLine_102 F σ6) else (nd_bind (f_X3_readSign F (59 : Int32) σ6) fun r8 σ9 => (if r8 = 0 then (f_X3_readLine_102 F σ9) else (some ((1 : Int32), σ9)))))) else (if nI k = (1 : Int32) then (nd_bind (f_X3_readPlan F σ2) fun r12 σ13 => (if r12 = 0 then (f_X3_readLine_124 F σ13) else (nd_bind (f_X3_readSign F (59 : Int32) σ13) fun r15 σ16 => (if r15 = 0 then (f_X3_readLine_124 F σ16) else (some ((1 : Int32), σ16)))))) else (if nI k = (2 : Int32) then (nd_bind (f_X3_readFeud F σ2) fun r19 σ20 => (if r19 = 0 then (f_X3_readLine_146 F σ20) else (nd_bind (f_X3_readSign F (59 : Int32) σ20) fun r22 σ23 => (if r22 = 0 then (f_X3_readLine_146 F σ23) else (some ((1 : Int32), σ23)))))) else (nd_bind (f_X3_readSide F σ2) fun r25 σ26 => (if r25 = 0 then (f_X3_readLine_168 F σ26) else (nd_bind (f_X3_readSign F (59 : Int32) σ26) fun r28 σ29 => (if r28 = 0 then (f_X3_readLine_168 F σ29) else (some ((1 : Int32), σ29)))))))))) = lineC_ F k c := by
            unfold lineC_ bodyC_
            congr 1
            funext r1 σ2
            rw [if_neg nk0]
            rcases hk with rfl | rfl | rfl <;> rfl
          rw [hline]
          rcases hbody c r p l h hw.1 hw.2 hinv (by omega) with ⟨c', r', p', v, a1, a2, a3, a4, a5, a6, a7, a8⟩ | ⟨c', r', a1, a2, a3, a4, a5, a6⟩
          · have hp' := a4.2.2.2.2
            rw [a1, n_bind, a2, n_bind, if_neg a3, nI_1]
            rcases ih (z - p') (by omega) c' r' p' (l + 1) f g rfl a4 a6 (by omega) (by omega) (by omega) with ⟨c2, r2, l2, b1, b2, b3, b4, b5, b6, b7⟩ | ⟨c2, r2, b1, b2, b3, b4, b5, b6⟩
            · exact Or.inl ⟨c2, r2, l2, b1, b2, b3, b4, fcy_tr a7 b5, fry_tr a8 b6, b7⟩
            · exact Or.inr ⟨c2, r2, b1, b2, b3, b4, fcy_tr a7 b5, fry_tr a8 b6⟩
          · rw [a1, n_bind, a2, n_bind, if_pos rfl, c_62g (by omega)]
            exact Or.inr ⟨c', r', rfl, rfl, a3, a4, a5, a6⟩
      · obtain ⟨c', r', w1, w2, w3, w4, w5, w6⟩ := mv_rf (F := F) (y := 1) h
        have hcr : f_X3_readLine_9 F (nI k) (nI l) 0 c = some (0, c') := by
          unfold f_X3_readLine_9 f_X3_readLine_26
          by_cases hk1 : c 38 11 = 1
          · obtain ⟨e1, e2⟩ := k1.mp hk1
            have hl17 : (kls_.getD k []).length ≤ 17 := kl_len ⟨k, h.1.2.2.2.2.2.1⟩
            have hne : kx_ t z k p ≠ 0 := fun e => hw ⟨e1, (hw0 p e1).mp e⟩
            rw [if_pos hk1, (h.2.1.2.2.2.2.1 e1 e2).2, if_neg (show ¬ nI (kx_ t z k p) ≤ (0 : Int32) from nI_ge (a := 0) (by omega) (by omega)), w1, n_bind, if_neg (by decide)]
          · rw [if_neg hk1, w1, n_bind, if_neg (by decide)]
        rw [if_neg hw, if_neg h0, hcr, n_bind, c_62g (by omega), w2, n_bind]
        exact Or.inr ⟨c', r', rfl, rfl, w3, w4, fcy_r w5, fry_r w6⟩
end MO
