/-! text: sums, both alike -/
def ev_ (x : Nat) : Nat := if x = 0 then 0 else 1
def sty_ (r : nd_Mem) (n n' L : Nat) : Prop := ∀ xs st : List Nat, xs.length = L → st.length + 3 ≤ 48 → ∃ v : Nat, tyd_ r n (n' - n) (xs ++ st) = some (v :: st)
def sres_ (t : Nat → Nat) (z : Nat) (c r : nd_Mem) (p n e : Nat) (X Y : nd_Res) : Prop := (∃ (c' r' : nd_Mem) (p' n' : Nat), X = some (1, c') ∧ Y = some (0, r') ∧ ps_k c' r' t z 0 p' ∧ cd_ c' r' n' ∧ fcc_ c c' ∧ frr_ n r r' ∧ p < p' ∧ n ≤ n' ∧ n' + p ≤ n + e + p' ∧ sty_ r' n n' e) ∨ ∃ c' r' : nd_Mem, X = some (0, c') ∧ Y = some (-1, r') ∧ flw_ n c r c' r'
section SV
variable {F z p n : Nat} {c r : nd_Mem} {t : Nat → Nat}
theorem c_132s {rec6 : Int32 → Int32 → Int32 → nd_Mem → nd_Res} {x1 x3 : Int32} {tm : Nat} (hb : cb_ c t z 0) (h : ctk_ c t z 0 p) (hk : tk_ t z p = 4) (hv : tv_ t z p = tm) (htm : tm = 42 ∨ tm = 47) : f_X3_readSum_132 F rec6 x1 x3 c = nd_bind (f_X3_advance F c) fun r1 σ2 => rec6 x1 (nI tm) (x3 + 1) σ2 := by
  have c8 : c 38 12 = nI tm := by rw [(h.2.2.2.2.2.2.2 hk).2, hv]
  unfold f_X3_readSum_132 f_X3_readSum_150 f_X3_readSum_158 f_X3_readSum_213
  rw [cs_s (y := (42 : Int32)) (x := 42) hb h rfl (by decide), n_bind, c8]
  rcases htm with rfl | rfl
  · rw [if_pos (show tk_ t z p = 4 ∧ tv_ t z p = 42 from ⟨hk, hv⟩), if_neg n10, if_neg (by decide)]
  · rw [if_neg (show ¬ (tk_ t z p = 4 ∧ tv_ t z p = 42) from fun e => absurd (hv.symm.trans e.2) (by decide)), if_pos rfl, cs_s (y := (47 : Int32)) (x := 47) hb h rfl (by decide), n_bind, if_pos (show tk_ t z p = 4 ∧ tv_ t z p = 47 from ⟨hk, hv⟩), if_neg n10, c8, if_neg (by decide)]
theorem c_132n {rec6 : Int32 → Int32 → Int32 → nd_Mem → nd_Res} {x1 x3 : Int32} (hb : cb_ c t z 0) (h : ctk_ c t z 0 p) (hn : ¬ (tk_ t z p = 4 ∧ (tv_ t z p = 42 ∨ tv_ t z p = 47))) : f_X3_readSum_132 F rec6 x1 x3 c = if x1 = 0 then f_X3_readSum_180 F rec6 0 x3 c else nd_bind (f_X4_add F 42 43 400 (-x1) c) fun r1 σ2 => f_X3_readSum_180 F rec6 0 x3 σ2 := by
  unfold f_X3_readSum_132 f_X3_readSum_158
  rw [cs_s (y := (42 : Int32)) (x := 42) hb h rfl (by decide), n_bind, if_neg (show ¬ (tk_ t z p = 4 ∧ tv_ t z p = 42) from fun e => hn ⟨e.1, Or.inl e.2⟩), if_pos rfl, cs_s (y := (47 : Int32)) (x := 47) hb h rfl (by decide), n_bind, if_neg (show ¬ (tk_ t z p = 4 ∧ tv_ t z p = 47) from fun e => hn ⟨e.1, Or.inr e.2⟩), if_pos rfl, if_pos rfl]
theorem c_180s {rec6 : Int32 → Int32 → Int32 → nd_Mem → nd_Res} {x3 : Int32} {pl : Nat} (hb : cb_ c t z 0) (h : ctk_ c t z 0 p) (hk : tk_ t z p = 4) (hv : tv_ t z p = pl) (hpl : pl = 43 ∨ pl = 45) : f_X3_readSum_180 F rec6 0 x3 c = nd_bind (f_X3_advance F c) fun r1 σ2 => rec6 (nI pl) 0 (x3 + 1) σ2 := by
  have c8 : c 38 12 = nI pl := by rw [(h.2.2.2.2.2.2.2 hk).2, hv]
  unfold f_X3_readSum_180 f_X3_readSum_198 f_X3_readSum_206 f_X3_readSum_213
  rw [cs_s (y := (43 : Int32)) (x := 43) hb h rfl (by decide), n_bind, c8]
  rcases hpl with rfl | rfl
  · rw [if_pos (show tk_ t z p = 4 ∧ tv_ t z p = 43 from ⟨hk, hv⟩), if_neg n10, if_neg (by decide)]
  · rw [if_neg (show ¬ (tk_ t z p = 4 ∧ tv_ t z p = 43) from fun e => absurd (hv.symm.trans e.2) (by decide)), if_pos rfl, cs_s (y := (45 : Int32)) (x := 45) hb h rfl (by decide), n_bind, if_pos (show tk_ t z p = 4 ∧ tv_ t z p = 45 from ⟨hk, hv⟩), if_neg n10, c8, if_neg (by decide)]
theorem c_180n {rec6 : Int32 → Int32 → Int32 → nd_Mem → nd_Res} {x3 : Int32} (hb : cb_ c t z 0) (h : ctk_ c t z 0 p) (hn : ¬ (tk_ t z p = 4 ∧ (tv_ t z p = 43 ∨ tv_ t z p = 45))) : f_X3_readSum_180 F rec6 0 x3 c = some (1, c) := by
  unfold f_X3_readSum_180 f_X3_readSum_206
  rw [cs_s (y := (43 : Int32)) (x := 43) hb h rfl (by decide), n_bind, if_neg (show ¬ (tk_ t z p = 4 ∧ tv_ t z p = 43) from fun e => hn ⟨e.1, Or.inl e.2⟩), if_pos rfl, cs_s (y := (45 : Int32)) (x := 45) hb h rfl (by decide), n_bind, if_neg (show ¬ (tk_ t z p = 4 ∧ tv_ t z p = 45) from fun e => hn ⟨e.1, Or.inr e.2⟩), if_pos rfl, if_pos rfl]
theorem m_10s {fp tm : Nat} {r' : nd_Mem} (hb : rb_ r t z) (h : rt_ r t z p) (hk : tk_ t z p = 4) (hv : tv_ t z p = tm) (htm : tm = 42 ∨ tm = 47) (hr : f_X11_reads F r = some (0, r')) : f_X11_readProduct_10 F (fp + 1) r = prT_ F fp tm r' := by
  show f_X11_readProduct_10_b F _ r = _
  unfold f_X11_readProduct_10_b f_X11_readProduct_28 prT_
  rw [ms_ (y := (42 : Int32)) (x := 42) hb h rfl (by decide), n_bind]
  rcases htm with rfl | rfl
  · rw [if_pos (show tk_ t z p = 4 ∧ tv_ t z p = 42 from ⟨hk, hv⟩), if_neg n10, ms_ (y := (42 : Int32)) (x := 42) hb h rfl (by decide), n_bind, hr, n_bind, if_pos (show tk_ t z p = 4 ∧ tv_ t z p = 42 from ⟨hk, hv⟩), if_neg n10, if_neg (by decide), if_neg (by decide)]
  · have n42 : ¬ (tk_ t z p = 4 ∧ tv_ t z p = 42) := fun e => absurd (hv.symm.trans e.2) (by decide)
    rw [if_neg n42, if_pos rfl, ms_ (y := (47 : Int32)) (x := 47) hb h rfl (by decide), n_bind, if_pos (show tk_ t z p = 4 ∧ tv_ t z p = 47 from ⟨hk, hv⟩), if_neg n10, ms_ (y := (42 : Int32)) (x := 42) hb h rfl (by decide), n_bind, hr, n_bind, if_neg n42, if_pos rfl, if_neg (show ¬ (47 : Nat) = 0 by decide), if_pos (show (47 : Nat) = 47 from rfl)]
theorem m_10n {fp : Nat} (hb : rb_ r t z) (h : rt_ r t z p) (hn : ¬ (tk_ t z p = 4 ∧ (tv_ t z p = 42 ∨ tv_ t z p = 47))) : f_X11_readProduct_10 F (fp + 1) r = some (0, r) := by
  show f_X11_readProduct_10_b F _ r = _
  unfold f_X11_readProduct_10_b
  rw [ms_ (y := (42 : Int32)) (x := 42) hb h rfl (by decide), n_bind, if_neg (show ¬ (tk_ t z p = 4 ∧ tv_ t z p = 42) from fun e => hn ⟨e.1, Or.inl e.2⟩), if_pos rfl, ms_ (y := (47 : Int32)) (x := 47) hb h rfl (by decide), n_bind, if_neg (show ¬ (tk_ t z p = 4 ∧ tv_ t z p = 47) from fun e => hn ⟨e.1, Or.inr e.2⟩), if_pos rfl]
theorem m_s10s {fs pl : Nat} {r' : nd_Mem} (hb : rb_ r t z) (h : rt_ r t z p) (hk : tk_ t z p = 4) (hv : tv_ t z p = pl) (hpl : pl = 43 ∨ pl = 45) (hr : f_X11_reads F r = some (0, r')) : f_X11_readSum_10 F (fs + 1) r = kP_ F fs pl (prT_ F F 0 r') := by
  have h13 : r 60 13 = nI pl := by rw [h.2.2.2 (by omega), hv]
  have hp0 : f_X11_readProduct F r' = prT_ F F 0 r' := by
    unfold f_X11_readProduct prT_
    rw [if_pos rfl]
  show f_X11_readSum_10_b F _ r = _
  unfold f_X11_readSum_10_b f_X11_readSum_28 f_X11_readSum_42
  rw [ms_ (y := (43 : Int32)) (x := 43) hb h rfl (by decide), n_bind, h13]
  unfold kP_
  rcases hpl with rfl | rfl
  · rw [if_pos (show tk_ t z p = 4 ∧ tv_ t z p = 43 from ⟨hk, hv⟩), if_neg n10, if_pos (show nI 43 = (43 : Int32) from rfl), hr, n_bind, hp0, if_pos rfl]
    rfl
  · rw [if_neg (show ¬ (tk_ t z p = 4 ∧ tv_ t z p = 43) from fun e => absurd (hv.symm.trans e.2) (by decide)), if_pos rfl, ms_ (y := (45 : Int32)) (x := 45) hb h rfl (by decide), n_bind, if_pos (show tk_ t z p = 4 ∧ tv_ t z p = 45 from ⟨hk, hv⟩), if_neg n10, h13, if_neg (show ¬ nI 45 = (43 : Int32) by decide), hr, n_bind, hp0]
    rfl
theorem m_s10n {fs : Nat} (hb : rb_ r t z) (h : rt_ r t z p) (hn : ¬ (tk_ t z p = 4 ∧ (tv_ t z p = 43 ∨ tv_ t z p = 45))) : f_X11_readSum_10 F (fs + 1) r = some (0, r) := by
  show f_X11_readSum_10_b F _ r = _
  unfold f_X11_readSum_10_b
  rw [ms_ (y := (43 : Int32)) (x := 43) hb h rfl (by decide), n_bind, if_neg (show ¬ (tk_ t z p = 4 ∧ tv_ t z p = 43) from fun e => hn ⟨e.1, Or.inl e.2⟩), if_pos rfl, ms_ (y := (45 : Int32)) (x := 45) hb h rfl (by decide), n_bind, if_neg (show ¬ (tk_ t z p = 4 ∧ tv_ t z p = 45) from fun e => hn ⟨e.1, Or.inr e.2⟩), if_pos rfl]
theorem ty_op {o : Int32} {u b : Nat} {s : List Nat} (h : o = 2 ∨ o = 3 ∨ o = 4 ∨ (o = 5 ∧ u = 2)) : ty_1 o 0 (u :: b :: s) = some (0 :: s) := by
  unfold ty_1
  rcases h with rfl | rfl | rfl | ⟨rfl, rfl⟩
  · rfl
  · rfl
  · rfl
  · rfl
/-- a unit, and the sign ahead of it -/
theorem puv_ (hF : 300000 ≤ F) {fp tm : Nat} {rec6 : Int32 → Int32 → Int32 → nd_Mem → nd_Res} {x1 x3 x o a : Int32} {u : Nat} (h : ps_k c r t z 0 p) (hd : cd_ c r n) (hp : p < z) (htm : tm = 0 ∨ tm = 42 ∨ tm = 47) (hn : n + ev_ tm ≤ p) (hx : iv_code x o a) (hty : ∀ s : List Nat, s.length < 48 → ty_1 o a s = some (u :: s)) (hu2 : tm = 47 → u = 2) (hu : f_X11_readUnit F r = nd_bind (f_X11_emits F o a r) fun r1 σ2 => nd_bind (f_X11_reads F σ2) fun r4 σ5 => some (0, σ5)) (h47 : tm = 47 → r 60 12 = 3 ∧ ¬ r 60 13 = 0) : ∃ c3 r3 : nd_Mem, f_X3_readSum_107 F rec6 x1 (nI tm) x3 x c = f_X3_readSum_132 F rec6 x1 x3 c3 ∧ prT_ F fp tm r = f_X11_readProduct_10 F fp r3 ∧ ps_k c3 r3 t z 0 (tn_ t z (tqe_ t z p)) ∧ cd_ c3 r3 (n + 1 + ev_ tm) ∧ fcc_ c c3 ∧ frr_ n r r3 ∧ ∀ xs s : List Nat, xs.length = ev_ tm → s.length + 1 < 48 → ∃ w : Nat, tyd_ r3 n (1 + ev_ tm) (xs ++ s) = some (w :: s) := by
  have hz := h.1.1
  have e1 : ev_ tm ≤ 1 := by unfold ev_; by_cases h0 : tm = 0 <;> simp [h0]
  obtain ⟨y, c1, c2, r1, r2, a1, a2, a3, a4, a5, a6, a7, a8, a9, a10⟩ := un_ (n := n) hF h hd hp (by omega) hx
  have hu' : f_X11_readUnit F r = some (0, r2) := by rw [hu, a3, n_bind, a4, n_bind]
  have hnx := nx_gt (t := t) hp
  by_cases h0 : tm = 0
  · subst h0
    refine ⟨c2, r2, ?_, ?_, a5, a6, a7, a8, fun xs s hl hs => ?_⟩
    · unfold f_X3_readSum_107
      rw [a1, n_bind, a2, n_bind, if_pos (show nI 0 = (0 : Int32) from rfl)]
    · rw [prT_u htm hu' h47]
      unfold kO_
      rw [if_pos rfl]
    · have : xs = [] := List.eq_nil_of_length_eq_zero hl
      subst this
      refine ⟨u, ?_⟩
      show tyd_ r2 n 1 ([] ++ s) = _
      rw [tyd_1, a9, a10]
      exact hty s (by omega)
  · have e2 : ev_ tm = 1 := if_neg h0
    have hcode : iv_code (-nI tm) (if tm = 42 then 4 else 5) 0 := by
      rcases htm with rfl | rfl | rfl
      · exact absurd rfl h0
      · exact Or.inr (Or.inr (Or.inr (Or.inr (Or.inl ⟨rfl, by decide⟩))))
      · exact Or.inr (Or.inr (Or.inr (Or.inr (Or.inr (Or.inl ⟨rfl, by decide⟩)))))
    obtain ⟨y', c3, r3, b1, b2, b3, b4, b5, b6, b7, _, _⟩ := mv_emit (F := F) a5 a6 (by omega) hcode
    rw [e2]
    refine ⟨c3, r3, ?_, ?_, b3, b4, fcc_tr a7 b5, frr_tr a8 b6 (by omega), fun xs s hl hs => ?_⟩
    · unfold f_X3_readSum_107
      rw [a1, n_bind, a2, n_bind, if_neg (show ¬ nI tm = (0 : Int32) from fun e => h0 ((nI_eq (b := 0) (by omega) (by decide)).mp e)), b1, n_bind]
    · rw [prT_u htm hu' h47]
      unfold kO_
      rw [if_neg h0, b2, n_bind]
    · obtain ⟨b, rfl⟩ : ∃ b, xs = [b] := by
        match xs, hl with
        | [b], _ => exact ⟨b, rfl⟩
      refine ⟨0, ?_⟩
      have t1 : tyd_ r3 n 1 ([b] ++ s) = some (u :: b :: s) := by
        rw [tyd_c b6 (by omega), tyd_1, a9, a10]
        exact hty (b :: s) (by show s.length + 1 < 48; omega)
      rw [tyd_cat t1, tyd_1, b7.1, b7.2]
      apply ty_op
      rcases htm with rfl | rfl | rfl
      · exact absurd rfl h0
      · exact Or.inr (Or.inr (Or.inl rfl))
      · exact Or.inr (Or.inr (Or.inr ⟨rfl, hu2 rfl⟩))
theorem sum_ (hF : 300000 ≤ F) : ∀ (d : Nat) (c r : nd_Mem) (p n pl tm m f fp fs : Nat), z - p = d → (pl = 0 ∨ pl = 43 ∨ pl = 45) → (tm = 0 ∨ tm = 42 ∨ tm = 47) → ps_k c r t z 0 p → cd_ c r n → n + (ev_ pl + ev_ tm) ≤ p → 2 * m ≤ p → d < f → d < fp → d < fs → sres_ t z c r p n (ev_ pl + ev_ tm) (f_X3_readSum_6 F f (nI pl) (nI tm) (nI m) c) (kP_ F fs pl (prT_ F fp tm r)) := by
  intro d
  induction d using Nat.strongRecOn with
  | ind d ih =>
    intro c r p n pl tm m f fp fs hdp hpl htm h hd hn hm hf hfp hfs
    obtain ⟨f, rfl⟩ : ∃ g, f = g + 1 := ⟨f - 1, by omega⟩
    have hz := h.1.1
    have hpz := h.2.2.2.2
    have hb := h.2.2.1
    have hr := h.2.2.2.1
    have ep : ev_ pl ≤ 1 := by unfold ev_; by_cases h0 : pl = 0 <;> simp [h0]
    have et : ev_ tm ≤ 1 := by unfold ev_; by_cases h0 : tm = 0 <;> simp [h0]
    have head := c_hd (F := F) (rec6 := f_X3_readSum_6 F f) (x1 := nI pl) (m := m) htm (by omega) h.1 h.2.1
    have head' : f_X3_readSum_6 F (f + 1) (nI pl) (nI tm) (nI m) c = _ := head
    rw [head']
    have key : ∀ (x o a : Int32) (u : Nat), p < z → iv_code x o a → (∀ s : List Nat, s.length < 48 → ty_1 o a s = some (u :: s)) → (tm = 47 → u = 2) → (f_X11_readUnit F r = nd_bind (f_X11_emits F o a r) fun r1 σ2 => nd_bind (f_X11_reads F σ2) fun r4 σ5 => some (0, σ5)) → (tm = 47 → r 60 12 = 3 ∧ ¬ r 60 13 = 0) → sres_ t z c r p n (ev_ pl + ev_ tm) (f_X3_readSum_107 F (f_X3_readSum_6 F f) (nI pl) (nI tm) (nI m) x c) (kP_ F fs pl (prT_ F fp tm r)) := by
      intro x o a u hp hx hty hu2 hu h47
      obtain ⟨c3, r3, q1, q2, q3, q4, q5, q6, q7⟩ := puv_ (fp := fp) (rec6 := f_X3_readSum_6 F f) (x1 := nI pl) (x3 := nI m) hF h hd hp htm (by omega) hx hty hu2 hu h47
      have hnx := nx_gt (t := t) hp
      have n3 : n + 1 + ev_ tm ≤ tn_ t z (tqe_ t z p) := by omega
      rw [q1, q2]
      obtain ⟨fp, rfl⟩ : ∃ g, fp = g + 1 := ⟨fp - 1, by omega⟩
      generalize hp1 : tn_ t z (tqe_ t z p) = p1 at *
      by_cases hsg : tk_ t z p1 = 4 ∧ (tv_ t z p1 = 42 ∨ tv_ t z p1 = 47)
      · have hp1z : p1 < z := tk_lt (t := t) (by omega)
        obtain ⟨c4, r4, s1, s2, s3, s4, s5, s6, s7⟩ := mv_adv hF q3 hp1z (n + 1 + ev_ tm)
        have hnx1 := nx_gt (t := t) hp1z
        have ed : ev_ (tv_ t z p1) = 1 := if_neg (by omega)
        rw [c_132s q3.1 q3.2.1 hsg.1 rfl hsg.2, s1, n_bind, nI_1, m_10s q3.2.2.1 q3.2.2.2.1 hsg.1 rfl hsg.2 s2]
        have nx := ih (z - tn_ t z (tqe_ t z p1)) (by omega) c4 r4 (tn_ t z (tqe_ t z p1)) (n + 1 + ev_ tm) pl (tv_ t z p1) (m + 1) f fp fs rfl hpl (Or.inr hsg.2) s3 (cd_adv q4 s6 s7) (by omega) (by omega) (by omega) (by omega) (by omega)
        rcases nx with ⟨c', r', p', n', w1, w2, w3, w4, w5, w6, w7, w8, w9, w10⟩ | ⟨c', r', w1, w2, w3⟩
        · refine Or.inl ⟨c', r', p', n', w1, w2, w3, w4, fcc_tr q5 (fcc_tr s4 w5), frr_tr q6 (frr_tr s5 w6 (Nat.le_refl _)) (by omega), by omega, by omega, by omega, fun xs st hl hs => ?_⟩
          obtain ⟨y1, y2, rfl, l1, l2⟩ : ∃ y1 y2 : List Nat, xs = y1 ++ y2 ∧ y1.length = ev_ tm ∧ y2.length = ev_ pl := ⟨xs.take (ev_ tm), xs.drop (ev_ tm), (List.take_append_drop _ _).symm, by rw [List.length_take]; omega, by rw [List.length_drop]; omega⟩
          obtain ⟨w, hw⟩ := q7 y1 (y2 ++ st) l1 (by rw [List.length_append]; omega)
          obtain ⟨v, hv⟩ := w10 (w :: y2) st (by rw [List.length_cons, ed]; omega) hs
          refine ⟨v, ?_⟩
          rw [show n' - n = (1 + ev_ tm) + (n' - (n + 1 + ev_ tm)) by omega, List.append_assoc, tyd_cat (s' := w :: (y2 ++ st)) (by rw [tyd_c (m := n + 1 + ev_ tm) (frr_tr s5 w6 (Nat.le_refl _)) (by omega)]; exact hw), ← Nat.add_assoc]
          exact hv
        · exact Or.inr ⟨c', r', w1, w2, ⟨flt_tr q5 q6 (by omega) (flt_tr s4 s5 (Nat.le_refl _) w3.1), w3.2⟩⟩
      · rw [c_132n q3.1 q3.2.1 hsg, m_10n q3.2.2.1 q3.2.2.2.1 hsg]
        unfold kP_
        rw [n_bind, if_neg (show ¬ (0 : Int32) = -1 by decide)]
        have tail : ∀ (c4 r4 : nd_Mem), ps_k c4 r4 t z 0 p1 → cd_ c4 r4 (n + 1 + ev_ tm + ev_ pl) → fcc_ c c4 → frr_ n r r4 → (∀ xs st : List Nat, xs.length = ev_ pl + ev_ tm → st.length + 3 ≤ 48 → ∃ w : Nat, tyd_ r4 n (1 + ev_ tm + ev_ pl) (xs ++ st) = some (w :: st)) → sres_ t z c r p n (ev_ pl + ev_ tm) (f_X3_readSum_180 F (f_X3_readSum_6 F f) 0 (nI m) c4) (f_X11_readSum_10 F fs r4) := by
          intro c4 r4 g1 g2 g3 g4 g5
          obtain ⟨fs, rfl⟩ : ∃ g, fs = g + 1 := ⟨fs - 1, by omega⟩
          by_cases hsp : tk_ t z p1 = 4 ∧ (tv_ t z p1 = 43 ∨ tv_ t z p1 = 45)
          · have hp1z : p1 < z := tk_lt (t := t) (by omega)
            obtain ⟨c5, r5, s1, s2, s3, s4, s5, s6, s7⟩ := mv_adv hF g1 hp1z (n + 1 + ev_ tm + ev_ pl)
            have hnx1 := nx_gt (t := t) hp1z
            have ed : ev_ (tv_ t z p1) = 1 := if_neg (by omega)
            have e0 : ev_ 0 = 0 := rfl
            rw [c_180s g1.1 g1.2.1 hsp.1 rfl hsp.2, s1, n_bind, nI_1, m_s10s g1.2.2.1 g1.2.2.2.1 hsp.1 rfl hsp.2 s2]
            have nx := ih (z - tn_ t z (tqe_ t z p1)) (by omega) c5 r5 (tn_ t z (tqe_ t z p1)) (n + 1 + ev_ tm + ev_ pl) (tv_ t z p1) 0 (m + 1) f F fs rfl (Or.inr hsp.2) (Or.inl rfl) s3 (cd_adv g2 s6 s7) (by omega) (by omega) (by omega) (by omega) (by omega)
            rcases nx with ⟨c', r', p', n', w1, w2, w3, w4, w5, w6, w7, w8, w9, w10⟩ | ⟨c', r', w1, w2, w3⟩
            · refine Or.inl ⟨c', r', p', n', w1, w2, w3, w4, fcc_tr g3 (fcc_tr s4 w5), frr_tr g4 (frr_tr s5 w6 (Nat.le_refl _)) (by omega), by omega, by omega, by omega, fun xs st hl hs => ?_⟩
              obtain ⟨w, hw⟩ := g5 xs st hl hs
              obtain ⟨v, hv⟩ := w10 [w] st (by rw [ed, e0]; rfl) hs
              refine ⟨v, ?_⟩
              rw [show n' - n = (1 + ev_ tm + ev_ pl) + (n' - (n + 1 + ev_ tm + ev_ pl)) by omega, tyd_cat (s' := w :: st) (by rw [tyd_c (m := n + 1 + ev_ tm + ev_ pl) (frr_tr s5 w6 (Nat.le_refl _)) (by omega)]; exact hw), show n + (1 + ev_ tm + ev_ pl) = n + 1 + ev_ tm + ev_ pl by omega]
              exact hv
            · exact Or.inr ⟨c', r', w1, w2, ⟨flt_tr g3 g4 (by omega) (flt_tr s4 s5 (Nat.le_refl _) w3.1), w3.2⟩⟩
          · refine Or.inl ⟨c4, r4, p1, n + 1 + ev_ tm + ev_ pl, c_180n g1.1 g1.2.1 hsp, m_s10n g1.2.2.1 g1.2.2.2.1 hsp, g1, g2, g3, g4, by omega, by omega, by omega, fun xs st hl hs => ?_⟩
            rw [show n + 1 + ev_ tm + ev_ pl - n = 1 + ev_ tm + ev_ pl by omega]
            exact g5 xs st hl hs
        by_cases h0 : pl = 0
        · have e0 : ev_ pl = 0 := if_pos h0
          rw [if_pos h0, h0, if_pos (show nI 0 = (0 : Int32) from rfl), ← h0]
          refine tail c3 r3 q3 (by rw [e0]; exact q4) q5 q6 (fun xs st hl hs => ?_)
          rw [e0]
          exact q7 xs st (by omega) (by omega)
        · have e1 : ev_ pl = 1 := if_neg h0
          have hcode : iv_code (-nI pl) (if pl = 43 then 2 else 3) 0 := by
            rcases hpl with rfl | rfl | rfl
            · exact absurd rfl h0
            · exact Or.inr (Or.inr (Or.inl ⟨rfl, by decide⟩))
            · exact Or.inr (Or.inr (Or.inr (Or.inl ⟨rfl, by decide⟩)))
          obtain ⟨y', c4, r4, b1, b2, b3, b4, b5, b6, b7, _, _⟩ := mv_emit (F := F) q3 q4 (by omega) hcode
          rw [if_neg h0, if_neg (show ¬ nI pl = (0 : Int32) from fun e => h0 ((nI_eq (b := 0) (by omega) (by decide)).mp e)), b1, n_bind, b2, n_bind]
          refine tail c4 r4 b3 (by rw [e1]; exact b4) (fcc_tr q5 b5) (frr_tr q6 b6 (by omega)) (fun xs st hl hs => ?_)
          obtain ⟨y1, y2, rfl, l1, l2⟩ : ∃ y1 y2 : List Nat, xs = y1 ++ y2 ∧ y1.length = ev_ tm ∧ y2.length = ev_ pl := ⟨xs.take (ev_ tm), xs.drop (ev_ tm), (List.take_append_drop _ _).symm, by rw [List.length_take]; omega, by rw [List.length_drop]; omega⟩
          obtain ⟨b, rfl⟩ : ∃ b, y2 = [b] := by
            rw [e1] at l2
            match y2, l2 with
            | [b], _ => exact ⟨b, rfl⟩
          obtain ⟨w, hw⟩ := q7 y1 ([b] ++ st) l1 (by rw [List.length_append, l2]; omega)
          refine ⟨0, ?_⟩
          rw [e1, List.append_assoc, tyd_cat (s' := w :: ([b] ++ st)) (by rw [tyd_c b6 (by omega)]; exact hw), tyd_1, show n + (1 + ev_ tm) = n + 1 + ev_ tm by omega, b7.1, b7.2]
          apply ty_op
          by_cases h43 : pl = 43
          · rw [if_pos h43]; exact Or.inl rfl
          · rw [if_neg h43]; exact Or.inr (Or.inl rfl)
    by_cases h3 : tk_ t z p = 3
    · have hpz' : p < z := tk_lt (t := t) (by omega)
      have hv := (tv_b hb.2.1 (show 2 ≤ tk_ t z p by omega)).1
      have h12 : r 60 12 = 3 := by rw [hr.2.2.1, h3]; rfl
      have h13 := hr.2.2.2 (show 2 ≤ tk_ t z p by omega)
      rw [if_pos h3]
      by_cases h20 : tm = 47 ∧ tv_ t z p = 0
      · obtain ⟨c', r', w1, w2, w3, w4⟩ := mv_ref (F := F) (y := 2) h n
        rw [if_pos h20]
        refine Or.inr ⟨c', r', ?_, ?_, w3, n, by omega, by rw [w4]; exact hd.1⟩
        · rw [w1, n_bind, if_neg (by decide)]
        · have hpt : prT_ F fp tm r = some (-1, r') := by
            unfold prT_ f_X11_readProduct_57
            rw [if_neg (by omega), if_pos h20.1, if_pos h12, if_pos rfl, h13, h20.2, if_pos (show nI 0 = (0 : Int32) from rfl), w2, n_bind]
          rw [hpt, kP_f]
      · rw [if_neg h20]
        have nz : tv_ t z p = 0 ↔ nI (tv_ t z p) = 0 := ⟨fun e => by rw [e]; rfl, fun e => (nI_eq (b := 0) (by omega) (by decide)).mp e⟩
        refine key _ 0 (nI (tv_ t z p)) (if nI (tv_ t z p) = 0 then 0 else 2) hpz' (Or.inl ⟨rfl, rfl, Int32.not_lt.mp (nI_pos (by omega)), show nI (tv_ t z p) ≤ (9999 : Int32) from nI_le (b := 9999) hv (by decide)⟩) (fun s hs => ?_) (fun e => ?_) (r_un3 hr h3) (fun e => ⟨h12, fun e2 => h20 ⟨e, nz.mpr (h13.symm.trans e2)⟩⟩)
        · unfold ty_1
          rw [if_pos rfl, if_pos hs]
        · rw [if_neg (fun e2 => h20 ⟨e, nz.mpr e2⟩)]
    · rw [if_neg h3]
      by_cases h2 : tk_ t z p = 2 ∧ 7 ≤ tv_ t z p ∧ tv_ t z p ≤ 16 ∧ tm ≠ 47
      · have hpz' : p < z := tk_lt (t := t) (by omega)
        rw [if_pos h2]
        refine key _ 1 (nI (tv_ t z p - 7)) 0 hpz' (Or.inr (Or.inl ⟨tv_ t z p - 7, by omega, rfl, rfl, by rw [show 7 + (tv_ t z p - 7) = tv_ t z p by omega]⟩)) (fun s hs => ?_) (fun e => absurd e h2.2.2.2) (r_un2 hb hr h2.1 h2.2.1 h2.2.2.1) (fun e => absurd e h2.2.2.2)
        unfold ty_1
        rw [if_neg (by decide), if_pos rfl, if_pos hs]
      · rw [if_neg h2]
        obtain ⟨c', r', w1, w2, w3, w4⟩ := mv_ref (F := F) (y := 1) h n
        refine Or.inr ⟨c', r', ?_, ?_, w3, n, by omega, by rw [w4]; exact hd.1⟩
        · rw [w1, n_bind, if_neg (by decide)]
        · rw [prT_0 htm hb hr h3 h2 w2, kP_f]
/-- a sum -/
theorem ls_sum (hF : 300000 ≤ F) (h : ps_k c r t z 0 p) (hd : cd_ c r n) (hn : n ≤ p) : sres_ t z c r p n 0 (f_X3_readSum F c) (f_X11_readSum F r) := by
  have hz := h.1.1
  have h1 := sum_ (F := F) hF (z - p) c r p n 0 0 0 F F F rfl (Or.inl rfl) (Or.inl rfl) h hd hn (by omega) (by omega) (by omega) (by omega)
  have e : f_X11_readSum F r = kP_ F F 0 (prT_ F F 0 r) := by
    unfold f_X11_readSum kP_ prT_ f_X11_readProduct
    rw [if_pos rfl]
    rfl
  rw [e]
  exact h1
end SV
