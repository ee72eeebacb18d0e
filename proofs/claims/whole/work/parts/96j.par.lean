/-! text: both at one token -/
section PA
variable {F z k p : Nat} {c r : nd_Mem} {t : Nat → Nat}
theorem tk_4 : tk_ t z p ≤ 4 := by
  unfold tk_
  repeat' split
  all_goals omega
theorem tk_lt (h : tk_ t z p ≠ 0) : p < z := by
  apply Classical.byContradiction
  intro hc
  exact h (if_pos (by omega))
theorem tv_b (hb : ∀ i : Nat, i < z → t i < 256) (h : 2 ≤ tk_ t z p) : tv_ t z p ≤ 9999 ∧ (tk_ t z p = 2 → tv_ t z p < 24) ∧ (tk_ t z p = 4 → iss_ (tv_ t z p) = true) := by
  have hp : p < z := tk_lt (t := t) (by omega)
  unfold tk_ at h ⊢
  unfold tv_
  rw [if_neg (show ¬ z ≤ p by omega)] at h ⊢
  by_cases h1 : isl_ (t p) = true
  · rw [if_pos h1] at h ⊢
    rw [if_pos h1]
    by_cases h2 : twd_ t z p < 24
    · rw [if_pos h2] at h ⊢
      exact ⟨by omega, fun _ => h2, fun e => by omega⟩
    · rw [if_neg h2] at h
      omega
  · rw [if_neg h1] at h ⊢
    rw [if_neg h1]
    by_cases h2 : isd_ (t p) = true
    · rw [if_pos h2] at h ⊢
      rw [if_pos h2]
      by_cases h4 : tqe_ t z p - p ≤ 4
      · rw [if_pos h4] at h ⊢
        refine ⟨?_, fun e => by omega, fun e => by omega⟩
        have hq : tqe_ t z p = txr_ (fun s => isd_ (t s)) (z - p) p := by
          unfold tqe_
          rw [if_neg (by omega), if_neg h1, if_pos h2]
        have := nv_b (t := t) (tqe_ t z p - p) p 0 0 (fun i h5 h6 => by
          have := txr_all (P := fun s => isd_ (t s)) (z - p) p i h5 (by rw [← hq]; omega)
          have := of_decide_eq_true this
          omega) (by decide) (by omega)
        have h10 : 10 ^ (0 + (tqe_ t z p - p)) ≤ 10 ^ 4 := Nat.pow_le_pow_right (by decide) (by omega)
        omega
      · rw [if_neg h4] at h
        omega
    · rw [if_neg h2] at h ⊢
      rw [if_neg h2]
      have hx := hb p hp
      by_cases h3 : iss_ (t p) = true
      · rw [if_pos h3] at h ⊢
        exact ⟨by omega, fun e => by omega, fun _ => h3⟩
      · rw [if_neg h3] at h
        omega
theorem nx_gt (hp : p < z) : p < tn_ t z (tqe_ t z p) ∧ tn_ t z (tqe_ t z p) ≤ z := by
  obtain ⟨h1, h2, h3⟩ := tq_le (t := t) (Nat.le_of_lt hp)
  have := tn_le (t := t) h2
  have := h3 hp
  omega
/-- the reference's tests -/
theorem ms_ (hb : rb_ r t z) (hr : rt_ r t z p) {x : Nat} {y : Int32} (hy : y = nI x) (hx : x < 2147483648) : f_X11_isSign F y r = some (if tk_ t z p = 4 ∧ tv_ t z p = x then 1 else 0, r) := by
  have h4 := tk_4 (t := t) (z := z) (p := p)
  subst hy
  unfold f_X11_isSign f_X11_isSign_20
  rw [hr.2.2.1]
  by_cases hk : tk_ t z p = 4
  · have hv := (tv_b hb.2.1 (show 2 ≤ tk_ t z p by omega)).1
    rw [if_pos (show nI (tk_ t z p) = (4 : Int32) by rw [hk]; rfl), hr.2.2.2 (by omega)]
    by_cases he : tv_ t z p = x
    · rw [if_pos (by rw [he]), if_pos ⟨hk, he⟩]
    · rw [if_neg (fun e => he ((nI_eq (by omega) hx).mp e)), if_neg (fun e => he e.2)]
  · rw [if_neg (show ¬ nI (tk_ t z p) = (4 : Int32) from fun e => hk ((nI_eq (b := 4) (by omega) (by decide)).mp e)), if_neg (fun e => hk e.1)]
theorem mw_ (hb : rb_ r t z) (hr : rt_ r t z p) {x : Nat} {y : Int32} (hy : y = nI x) (hx : x < 2147483648) : f_X11_isWord F y r = some (if tk_ t z p = 2 ∧ tv_ t z p = x then 1 else 0, r) := by
  have h4 := tk_4 (t := t) (z := z) (p := p)
  subst hy
  unfold f_X11_isWord f_X11_isWord_20
  rw [hr.2.2.1]
  by_cases hk : tk_ t z p = 2
  · have hv := (tv_b hb.2.1 (show 2 ≤ tk_ t z p by omega)).1
    rw [if_pos (show nI (tk_ t z p) = (2 : Int32) by rw [hk]; rfl), hr.2.2.2 (by omega)]
    by_cases he : tv_ t z p = x
    · rw [if_pos (by rw [he]), if_pos ⟨hk, he⟩]
    · rw [if_neg (fun e => he ((nI_eq (by omega) hx).mp e)), if_neg (fun e => he e.2)]
  · rw [if_neg (show ¬ nI (tk_ t z p) = (2 : Int32) from fun e => hk ((nI_eq (b := 2) (by omega) (by decide)).mp e)), if_neg (fun e => hk e.1)]
/-- the class's kind -/
theorem ckd_ (h : ctk_ c t z k p) : (c 38 11 = 0 ↔ tk_ t z p = 0) ∧ (c 38 11 = 2 ↔ tk_ t z p = 3) ∧ (c 38 11 = 3 ↔ tk_ t z p = 4) ∧ (c 38 11 = 1 ↔ tk_ t z p = 2 ∧ kx_ t z k p < (kls_.getD k []).length) := by
  obtain ⟨_, _, a0, a1, a2, a2', a3, a4⟩ := h
  have h4 := tk_4 (t := t) (z := z) (p := p)
  have cases : (tk_ t z p = 0 ∧ c 38 11 = 0) ∨ (tk_ t z p = 1 ∧ c 38 11 = 4) ∨ (tk_ t z p = 2 ∧ kx_ t z k p < (kls_.getD k []).length ∧ c 38 11 = 1) ∨ (tk_ t z p = 2 ∧ ¬ kx_ t z k p < (kls_.getD k []).length ∧ c 38 11 = 4) ∨ (tk_ t z p = 3 ∧ c 38 11 = 2) ∨ (tk_ t z p = 4 ∧ c 38 11 = 3) := by
    by_cases e0 : tk_ t z p = 0
    · exact Or.inl ⟨e0, a0 e0⟩
    · by_cases e1 : tk_ t z p = 1
      · exact Or.inr (Or.inl ⟨e1, a1 e1⟩)
      · by_cases e2 : tk_ t z p = 2
        · by_cases hin : kx_ t z k p < (kls_.getD k []).length
          · exact Or.inr (Or.inr (Or.inl ⟨e2, hin, (a2 e2 hin).1⟩))
          · exact Or.inr (Or.inr (Or.inr (Or.inl ⟨e2, hin, a2' e2 hin⟩)))
        · by_cases e3 : tk_ t z p = 3
          · exact Or.inr (Or.inr (Or.inr (Or.inr (Or.inl ⟨e3, (a3 e3).1⟩))))
          · have e4 : tk_ t z p = 4 := by omega
            exact Or.inr (Or.inr (Or.inr (Or.inr (Or.inr ⟨e4, (a4 e4).1⟩))))
  rcases cases with ⟨e, hc⟩ | ⟨e, hc⟩ | ⟨e, e', hc⟩ | ⟨e, e', hc⟩ | ⟨e, hc⟩ | ⟨e, hc⟩ <;> rw [hc, e] <;> refine ⟨?_, ?_, ?_, ?_⟩ <;> first | decide | (constructor <;> intro h <;> first | exact ⟨rfl, e'⟩ | rfl | exact absurd h (by decide) | exact absurd h.1 (by decide) | exact absurd h.2 e')
theorem cs_s (hb : cb_ c t z k) (h : ctk_ c t z k p) {x : Nat} {y : Int32} (hy : y = nI x) (hx : x < 2147483648) : f_X3_isSign F y c = some (if tk_ t z p = 4 ∧ tv_ t z p = x then 1 else 0, c) := by
  obtain ⟨_, _, h3, _⟩ := ckd_ h
  subst hy
  unfold f_X3_isSign f_X3_isSign_20
  by_cases hk : tk_ t z p = 4
  · have hv := (tv_b hb.2.1 (show 2 ≤ tk_ t z p by omega)).1
    rw [if_pos (h3.mpr hk), (h.2.2.2.2.2.2.2 hk).2]
    by_cases he : tv_ t z p = x
    · rw [if_pos (by rw [he]), if_pos ⟨hk, he⟩]
    · rw [if_neg (fun e => he ((nI_eq (by omega) hx).mp e)), if_neg (fun e => he e.2)]
  · rw [if_neg (fun e => hk (h3.mp e)), if_neg (fun e => hk e.1)]
theorem kl_len : ∀ k : Fin 4, (kls_.getD k.val []).length ≤ 17 := by decide +kernel
theorem cs_w (hb : cb_ c t z k) (h : ctk_ c t z k p) {x : Nat} {y : Int32} (hy : y = nI x) (hx : x < (kls_.getD k []).length) : f_X3_isWord F y c = some (if tk_ t z p = 2 ∧ kx_ t z k p = x then 1 else 0, c) := by
  obtain ⟨_, _, _, h1⟩ := ckd_ h
  have hl : (kls_.getD k []).length ≤ 17 := kl_len ⟨k, hb.2.2.2.2.2.1⟩
  subst hy
  unfold f_X3_isWord f_X3_isWord_20
  by_cases hk : tk_ t z p = 2 ∧ kx_ t z k p < (kls_.getD k []).length
  · rw [if_pos (h1.mpr hk), (h.2.2.2.2.1 hk.1 hk.2).2]
    by_cases he : kx_ t z k p = x
    · rw [if_pos (by rw [he]), if_pos ⟨hk.1, he⟩]
    · rw [if_neg (fun e => he ((nI_eq (by omega) (by omega)).mp e)), if_neg (fun e => he e.2)]
  · rw [if_neg (fun e => hk (h1.mp e)), if_neg (fun e => hk ⟨e.1, by rw [e.2]; exact hx⟩)]
theorem k0_ok : ∀ w : Fin 24, wjf_ w.val (kls_.getD 0 []) = if w.val < 17 then w.val else 17 := by decide +kernel
theorem kx_0 (hb : ∀ i : Nat, i < z → t i < 256) (h : tk_ t z p = 2) : kx_ t z 0 p = if tv_ t z p < 17 then tv_ t z p else 17 := k0_ok ⟨tv_ t z p, (tv_b hb (by omega)).2.1 h⟩
theorem k0_len : (kls_.getD 0 []).length = 17 := by decide +kernel
/-- what is read as a law so far -/
def cd_ (c r : nd_Mem) (n : Nat) : Prop := c 42 1 = nI n ∧ r 60 23 = nI n ∧ ∀ i : Nat, i < n → iv_code (c 43 i) (r 72 (800 + i)) (r 73 (800 + i))
def ps_k (c r : nd_Mem) (t : Nat → Nat) (z k p : Nat) : Prop := cb_ c t z k ∧ ctk_ c t z k p ∧ rb_ r t z ∧ rt_ r t z p ∧ p ≤ z
def fcc_ (c c' : nd_Mem) : Prop := (∀ i : Nat, i ≠ 38 → i ≠ 42 → i ≠ 43 → c' i = c i) ∧ ∀ j : Nat, j ∉ [3, 4, 11, 12, 13, 14] → c' 38 j = c 38 j
def frr_ (n : Nat) (r r' : nd_Mem) : Prop := fr_ [72, 73] [10, 11, 12, 13, 23, 27, 28] r r' ∧ ∀ i : Nat, i < 800 + n → r' 72 i = r 72 i ∧ r' 73 i = r 73 i
theorem fcc_rf : fcc_ c c := ⟨fun _ _ _ _ => rfl, fun _ _ => rfl⟩
theorem fcc_tr {c1 c2 c3 : nd_Mem} (h1 : fcc_ c1 c2) (h2 : fcc_ c2 c3) : fcc_ c1 c3 := ⟨fun i a b d => (h2.1 i a b d).trans (h1.1 i a b d), fun j a => (h2.2 j a).trans (h1.2 j a)⟩
theorem frr_rf {n : Nat} : frr_ n r r := ⟨fr_rf, fun _ _ => ⟨rfl, rfl⟩⟩
theorem frr_tr {n m : Nat} {r1 r2 r3 : nd_Mem} (h1 : frr_ n r1 r2) (h2 : frr_ m r2 r3) (hn : n ≤ m) : frr_ n r1 r3 := ⟨⟨fun i a b => (h2.1.1 i a b).trans (h1.1.1 i a b), fun j a => (h2.1.2 j a).trans (h1.1.2 j a)⟩, fun i hi => ⟨(h2.2 i (by omega)).1.trans (h1.2 i hi).1, (h2.2 i (by omega)).2.trans (h1.2 i hi).2⟩⟩
theorem fcc_of {c' : nd_Mem} (h : fck_ [11, 12, 13, 14] c c') : fcc_ c c' := ⟨fun i a _ _ => h.1 i a, fun j a => h.2 j (fun e => a (by
  simp only [List.mem_cons, List.not_mem_nil, or_false] at e ⊢
  omega))⟩
theorem frr_of {n : Nat} {r' : nd_Mem} (h : fr_ [] [10, 11, 12, 13] r r') : frr_ n r r' := by
  refine ⟨fr_w h (fun i hi => absurd hi (List.not_mem_nil)) (fun j hj => ?_), fun i _ => ?_⟩
  · simp only [List.mem_cons, List.not_mem_nil, or_false] at hj ⊢
    omega
  · rw [h.1 72 (List.not_mem_nil) (by decide), h.1 73 (List.not_mem_nil) (by decide)]
    exact ⟨rfl, rfl⟩
theorem rb_fr {r' : nd_Mem} (h : fr_ [72, 73] [10, 11, 12, 13, 23, 27, 28] r r') (hb : rb_ r t z) : rb_ r' t z := by
  obtain ⟨b1, b2, b3, b4, b5⟩ := hb
  refine ⟨b1, b2, by rw [h.2 9 (by decide)]; exact b3, fun i hi => by rw [h.1 65 (by decide) (by decide)]; exact b4 i hi, fun i hi => by rw [h.1 66 (by decide) (by decide)]; exact b5 i hi⟩
theorem cb_fc {c' : nd_Mem} (h : fcc_ c c') (hq : c' 38 3 = c 38 3 ∧ c' 38 4 = c 38 4) (hb : cb_ c t z k) : cb_ c' t z k := by
  obtain ⟨b1, b2, b3, b4, b5, b6⟩ := hb
  exact ⟨b1, b2, by rw [h.2 2 (by decide)]; exact b3, fun i hi => by rw [h.1 47 (by decide) (by decide) (by decide)]; exact b4 i hi, by rw [h.2 5 (by decide)]; exact b5, b6.1, hq.1.trans b6.2.1, hq.2.trans b6.2.2.1, car_c (h.2 10 (by decide)) (h.1 48 (by decide) (by decide) (by decide)) (h.1 49 (by decide) (by decide) (by decide)) (h.1 50 (by decide) (by decide) (by decide)) b6.2.2.2⟩
/-- both go one token on -/
theorem mv_adv (hF : 300000 ≤ F) (h : ps_k c r t z k p) (hp : p < z) (n : Nat) : ∃ c' r' : nd_Mem, f_X3_advance F c = some (0, c') ∧ f_X11_reads F r = some (0, r') ∧ ps_k c' r' t z k (tn_ t z (tqe_ t z p)) ∧ fcc_ c c' ∧ frr_ n r r' ∧ fck_ [11, 12, 13, 14] c c' ∧ fr_ [] [10, 11, 12, 13] r r' := by
  obtain ⟨h1, h2, h3, h4, h5⟩ := h
  obtain ⟨q1, q2, q3⟩ := tq_le (t := t) h5
  obtain ⟨c', a1, a2, a3⟩ := c_adv (F := F) h1 h2 hp
  obtain ⟨r', e1, e2, e3⟩ := m_reads hF h3 h4.1 q2
  have f1 := fcc_of a3
  have f2 := frr_of (n := n) e3
  exact ⟨c', r', a1, e1, ⟨cb_fc f1 ⟨a3.2 3 (by decide), a3.2 4 (by decide)⟩ h1, a2, rb_fr f2.1 h3, e2, (nx_gt hp).2⟩, f1, f2, a3, e3⟩
theorem cd_fr {n : Nat} {c' r' : nd_Mem} (h : cd_ c r n) (hc : c' 42 = c 42 ∧ c' 43 = c 43) (hr : frr_ n r r') (h23 : r' 60 23 = r 60 23) : cd_ c' r' n := by
  obtain ⟨h1, h2, h3⟩ := h
  refine ⟨by rw [hc.1]; exact h1, by rw [h23]; exact h2, fun i hi => ?_⟩
  rw [hc.2, (hr.2 (800 + i) (by omega)).1, (hr.2 (800 + i) (by omega)).2]
  exact h3 i hi
theorem cd_adv {n : Nat} {c' r' : nd_Mem} (h : cd_ c r n) (hc : fck_ [11, 12, 13, 14] c c') (hr : fr_ [] [10, 11, 12, 13] r r') : cd_ c' r' n := cd_fr h ⟨hc.1 42 (by decide), hc.1 43 (by decide)⟩ (frr_of hr) (hr.2 23 (by decide))
/-- both put down a code -/
theorem mv_emit {n : Nat} {x o a : Int32} (h : ps_k c r t z k p) (hd : cd_ c r n) (hn : n < 400) (hx : iv_code x o a) : ∃ (y : Int32) (c' r' : nd_Mem), f_X4_add F 42 43 400 x c = some (y, c') ∧ f_X11_emits F o a r = some (0, r') ∧ ps_k c' r' t z k p ∧ cd_ c' r' (n + 1) ∧ fcc_ c c' ∧ frr_ n r r' ∧ (r' 72 (800 + n) = o ∧ r' 73 (800 + n) = a) ∧ c' 38 = c 38 ∧ ∀ j : Nat, j ≠ 23 → r' 60 j = r 60 j := by
  obtain ⟨h1, h2, h3, h4, h5⟩ := h
  obtain ⟨d1, d2, d3⟩ := hd
  have ec := e_add (F := F) (σ := c) (b := 42) (a := 43) (m := 400) (by decide) d1 (by decide) hn x
  have er : f_X11_emits F o a r = some (0, nd_up (nd_up (nd_up r 72 (800 + n) o) 73 (800 + n) a) 60 23 (nI (n + 1))) := by
    have e8 : (800 : Int32) + nI n = nI (800 + n) := n_add 800 n
    have g : nd_up r 72 (800 + n) o 60 23 = nI n := by rw [u_ne1 (by decide)]; exact d2
    have g2 : nd_up (nd_up r 72 (800 + n) o) 73 (800 + n) a 60 23 = nI n := by rw [u_ne1 (by decide)]; exact g
    unfold f_X11_emits
    rw [d2, e8, if_neg (nI_in (by omega) (by decide)), nI_clamp (by omega), n_let, g, e8, if_neg (nI_in (by omega) (by decide)), nI_clamp (by omega), n_let, g2, nI_1, n_let]
  have fr : fr_ [72, 73] [10, 11, 12, 13, 23, 27, 28] r (nd_up (nd_up (nd_up r 72 (800 + n) o) 73 (800 + n) a) 60 23 (nI (n + 1))) := (by repeat first | exact fr_rf | (refine fr_up57 ?_ (by decide)) | (refine fr_up ?_ (by decide) (by decide)) | (refine fr_row ?_ (by decide) (by decide)))
  have ff : frr_ n r (nd_up (nd_up (nd_up r 72 (800 + n) o) 73 (800 + n) a) 60 23 (nI (n + 1))) := ⟨fr, fun i hi => by
    refine ⟨?_, ?_⟩
    · rw [u_ne1 (by decide), u_ne1 (by decide), u_ne2 (by omega)]
    · rw [u_ne1 (by decide), u_ne2 (by omega), u_ne1 (by decide)]⟩
  have fc : fcc_ c (nd_up (nd_up c 43 n x) 42 1 (nI (n + 1))) := ⟨fun i a1 a2 a3 => by rw [nd_up_ne a2, nd_up_ne a3], fun j _ => by rw [u_ne1 (by decide), u_ne1 (by decide)]⟩
  have c38 : nd_up (nd_up c 43 n x) 42 1 (nI (n + 1)) 38 = c 38 := by rw [nd_up_ne (by decide), nd_up_ne (by decide)]
  have r57 : ∀ j : Nat, j ≠ 23 → nd_up (nd_up (nd_up r 72 (800 + n) o) 73 (800 + n) a) 60 23 (nI (n + 1)) 60 j = r 60 j := fun j hj => by rw [u_ne2 hj, u_ne1 (by decide), u_ne1 (by decide)]
  refine ⟨_, _, _, ec, er, ⟨cb_fc fc ⟨by rw [c38], by rw [c38]⟩ h1, ?_, rb_fr fr h3, ?_, h5⟩, ⟨?_, ?_, fun i hi => ?_⟩, fc, ff, ⟨?_, ?_⟩, c38, r57⟩
  · unfold ctk_
    rw [c38]
    exact h2
  · unfold rt_
    rw [r57 10 (by decide), r57 11 (by decide), r57 12 (by decide), r57 13 (by decide)]
    exact h4
  · rw [u_eq]
  · rw [u_eq]
  · have a1 : nd_up (nd_up c 43 n x) 42 1 (nI (n + 1)) 43 i = nd_up c 43 n x 43 i := u_ne1 (by decide)
    have a2 : nd_up (nd_up (nd_up r 72 (800 + n) o) 73 (800 + n) a) 60 23 (nI (n + 1)) 72 (800 + i) = nd_up r 72 (800 + n) o 72 (800 + i) := by rw [u_ne1 (by decide), u_ne1 (by decide)]
    have a3 : nd_up (nd_up (nd_up r 72 (800 + n) o) 73 (800 + n) a) 60 23 (nI (n + 1)) 73 (800 + i) = nd_up (nd_up r 72 (800 + n) o) 73 (800 + n) a 73 (800 + i) := u_ne1 (by decide)
    rw [a1, a2, a3]
    by_cases hin : i = n
    · rw [hin, u_eq, u_eq, u_eq]
      exact hx
    · rw [u_ne2 hin, u_ne2 (by omega), u_ne2 (by omega), u_ne1 (by decide)]
      exact d3 i (by omega)
  · rw [u_ne1 (by decide), u_ne1 (by decide), u_eq]
  · rw [u_ne1 (by decide), u_eq]
/-- both refuse -/
def flt_ (n : Nat) (c r c' r' : nd_Mem) : Prop := c' 38 3 = r' 60 27 ∧ c' 38 4 = r' 60 28 ∧ fcc_ c c' ∧ frr_ n r r'
theorem mv_ref {y : Int32} (h : ps_k c r t z k p) (n' : Nat) : ∃ c' r' : nd_Mem, f_X3_refuse F y c = some (0, c') ∧ f_X11_errs F y r = some (-1, r') ∧ flt_ n' c r c' r' ∧ c' 42 = c 42 := by
  obtain ⟨h1, h2, h3, h4, h5⟩ := h
  refine ⟨nd_up (nd_up c 38 3 y) 38 4 (nI p), nd_up (nd_up r 60 27 y) 60 28 (nI p), ?_, ?_, ⟨?_, ?_, ⟨fun i a1 _ _ => by rw [nd_up_ne a1, nd_up_ne a1], fun j hj => ?_⟩, ⟨(by repeat first | exact fr_rf | (refine fr_up57 ?_ (by decide)) | (refine fr_up ?_ (by decide) (by decide)) | (refine fr_row ?_ (by decide) (by decide))), fun i _ => ?_⟩⟩, by rw [nd_up_ne (by decide), nd_up_ne (by decide)]⟩
  · unfold f_X3_refuse
    rw [n_let, u_ne2 (by decide), h2.2.1, n_let]
  · unfold f_X11_errs
    rw [n_let, u_ne2 (by decide), h4.2.1, n_let]
  · rw [u_ne2 (by decide), u_eq, u_ne2 (by decide), u_eq]
  · rw [u_eq, u_eq]
  · rw [u_ne2 (fun e => hj (by rw [e]; decide)), u_ne2 (fun e => hj (by rw [e]; decide))]
  · rw [u_ne1 (by decide), u_ne1 (by decide), u_ne1 (by decide), u_ne1 (by decide)]
    exact ⟨rfl, rfl⟩
/-- a fault while a law is read -/
def flw_ (n : Nat) (c r c' r' : nd_Mem) : Prop := flt_ n c r c' r' ∧ ∃ m : Nat, m ≤ 400 ∧ c' 42 1 = nI m
theorem flt_tr {n m : Nat} {c1 r1 c2 r2 : nd_Mem} (h1 : fcc_ c c1) (h2 : frr_ n r r1) (hn : n ≤ m) (h : flt_ m c1 r1 c2 r2) : flt_ n c r c2 r2 := ⟨h.1, h.2.1, fcc_tr h1 h.2.2.1, frr_tr h2 h.2.2.2 hn⟩
end PA
