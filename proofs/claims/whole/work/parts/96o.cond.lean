/-! text: conditions -/
def cdk_ (c r : nd_Mem) (n k : Nat) : Prop := c 42 1 = nI n ∧ r 60 23 = nI (n + k) ∧ (∀ i : Nat, i < n → iv_code (c 43 i) (r 72 (800 + i)) (r 73 (800 + i))) ∧ ∀ i : Nat, n ≤ i → i < n + k → r 72 (800 + i) = 9 ∧ r 73 (800 + i) = 0
def PC_ (F : Nat) (t : Nat → Nat) (z D : Nat) : Prop := ∀ (c r : nd_Mem) (p n o k b f : Nat) (S : List Nat), ps_k c r t z 0 p → cd_ c r n → n + k ≤ p → o ≤ 8 → k ≤ o → r 60 24 = nI o → skk_ r (List.replicate k 9 ++ S) → ntop_ 9 S → (∀ y ∈ S, y < 100) → k + S.length ≤ 3 * o + 2 → b ≤ o → 1 + 3 * (8 - o) ≤ D → z - p < f → (∃ (c' r' : nd_Mem) (p' n' f' : Nat), f_X3_grp F D 1 (nI o) c = some (1, c') ∧ f_X11_readAny_9 F f (nI b) 1 r = f_X11_readAny_9 F f' (nI b) 0 r' ∧ ps_k c' r' t z 0 p' ∧ cdk_ c' r' n' k ∧ r' 60 24 = nI (o - k) ∧ skk_ r' S ∧ fcc_ c c' ∧ frm_ n r r' ∧ p < p' ∧ n ≤ n' ∧ n' + p ≤ n + p' ∧ z - p' < f' ∧ ∀ st : List Nat, st.length + (4 + 2 * (8 - o)) ≤ 48 → tyd_ r' n (n' - n) st = some (1 :: st)) ∨ ∃ c' r' : nd_Mem, f_X3_grp F D 1 (nI o) c = some (0, c') ∧ f_X11_readAny_9 F f (nI b) 1 r = some (-1, r') ∧ flm_ n c r c' r'
def PB_ (F : Nat) (t : Nat → Nat) (z D : Nat) : Prop := ∀ (c r : nd_Mem) (p n o b f : Nat) (S : List Nat), ps_k c r t z 0 p → cd_ c r n → n ≤ p → o ≤ 8 → r 60 24 = nI o → skk_ r S → ntop_ 9 S → ntop_ 10 S → ntop_ 11 S → (∀ y ∈ S, y < 100) → S.length ≤ 3 * o → b ≤ o → 3 + 3 * (8 - o) ≤ D → z - p < f → (∃ (c' r' r1 rs : nd_Mem) (p' n' f' : Nat), f_X3_grp F D 0 (nI o) c = some (1, c') ∧ f_X11_readAny_9 F f (nI b) 1 r = f_X11_readAny_9 F f' (nI b) 0 r' ∧ f_X11_settles F 10 r' = some (0, r1) ∧ f_X11_settles F 11 r1 = some (0, rs) ∧ ps_k c' r' t z 0 p' ∧ ps_k c' rs t z 0 p' ∧ ¬ (tk_ t z p' = 2 ∧ tv_ t z p' = 5) ∧ ¬ (tk_ t z p' = 2 ∧ tv_ t z p' = 4) ∧ cd_ c' rs n' ∧ rs 60 24 = nI o ∧ skk_ rs S ∧ fcc_ c c' ∧ frm_ n r rs ∧ p < p' ∧ n ≤ n' ∧ n' + p ≤ n + p' ∧ z - p' < f' ∧ ∀ st : List Nat, st.length + (6 + 2 * (8 - o)) ≤ 48 → tyd_ rs n (n' - n) st = some (1 :: st)) ∨ ∃ c' r' : nd_Mem, f_X3_grp F D 0 (nI o) c = some (0, c') ∧ f_X11_readAny_9 F f (nI b) 1 r = some (-1, r') ∧ flm_ n c r c' r'
section CO
variable {F z p n k m : Nat} {c r : nd_Mem} {t : Nat → Nat} {S : List Nat}
theorem frq_m {j : Nat} {r' : nd_Mem} (h : frq_ m r r') (hj : j ≤ m) : frq_ j r r' := ⟨h.1, fun i hi => h.2 i (by omega)⟩
theorem tyd_q {r' : nd_Mem} {k : Nat} {s : List Nat} (h : ∀ i : Nat, i < 800 + m → r' 72 i = r 72 i ∧ r' 73 i = r 73 i) (hm : n + k ≤ m) : tyd_ r' n k s = tyd_ r n k s := ty_run_c k n s (fun j _ h2 => h (800 + j) (by omega))
theorem cdk_0 (h : cd_ c r n) : cdk_ c r n 0 := ⟨h.1, h.2.1, h.2.2, fun i h1 h2 => by omega⟩
theorem cd_k0 (h : cdk_ c r n 0) : cd_ c r n := ⟨h.1, h.2.1, h.2.2.1⟩
/-- the nots behind a condition -/
theorem cdk_s {r' : nd_Mem} (h : cd_ c r n) (hq : frq_ n r r') (h23 : r' 60 23 = nI (n + k)) (h9 : ∀ i : Nat, n ≤ i → i < n + k → r' 72 (800 + i) = 9 ∧ r' 73 (800 + i) = 0) : cdk_ c r' n k := by
  refine ⟨h.1, h23, fun i hi => ?_, h9⟩
  rw [(hq.2 (800 + i) (by omega)).1, (hq.2 (800 + i) (by omega)).2]
  exact h.2.2 i hi
theorem cdk_add (h : cdk_ c r n (k + 1)) (hn : n < 400) : ∃ (y : Int32) (c' : nd_Mem), f_X4_add F 42 43 400 (-2) c = some (y, c') ∧ cdk_ c' r (n + 1) k ∧ c' 38 = c 38 ∧ fcc_ c c' := by
  obtain ⟨h1, h2, h3, h4⟩ := h
  refine ⟨_, _, e_add (by decide) h1 (by decide) hn (-2), ⟨u_eq _ _ _ _, by rw [h2]; congr 1; omega, fun i hi => ?_, fun i h5 h6 => h4 i (by omega) (by omega)⟩, by rw [nd_up_ne (by decide), nd_up_ne (by decide)], ⟨fun i a1 a2 a3 => by rw [nd_up_ne a2, nd_up_ne a3], fun j _ => by rw [u_ne1 (by decide), u_ne1 (by decide)]⟩⟩
  have a1 : nd_up (nd_up c 43 n (-2)) 42 1 (nI (n + 1)) 43 i = nd_up c 43 n (-2) 43 i := u_ne1 (by decide)
  rw [a1]
  by_cases hin : i = n
  · obtain ⟨e1, e2⟩ := h4 n (Nat.le_refl n) (by omega)
    rw [hin, u_eq, e1, e2]
    exact Or.inr (Or.inr (Or.inr (Or.inr (Or.inr (Or.inr (Or.inr (Or.inr (Or.inr (Or.inl ⟨rfl, rfl⟩)))))))))
  · rw [u_ne2 hin]
    exact h3 i (by omega)
/-- the class ahead by one code, the reference catches up -/
theorem cd_two {x o : Int32} {r' : nd_Mem} (h : cd_ c r n) (hn : n < 400) (hq : frq_ n r r') (h23 : r' 60 23 = nI (n + 1)) (ho : r' 72 (800 + n) = o) (ha : r' 73 (800 + n) = 0) (hx : iv_code x o 0) : ∃ (y : Int32) (c' : nd_Mem), f_X4_add F 42 43 400 x c = some (y, c') ∧ cd_ c' r' (n + 1) ∧ c' 38 = c 38 ∧ fcc_ c c' := by
  obtain ⟨h1, h2, h3⟩ := h
  refine ⟨_, _, e_add (by decide) h1 (by decide) hn x, ⟨u_eq _ _ _ _, h23, fun i hi => ?_⟩, by rw [nd_up_ne (by decide), nd_up_ne (by decide)], ⟨fun i a1 a2 a3 => by rw [nd_up_ne a2, nd_up_ne a3], fun j _ => by rw [u_ne1 (by decide), u_ne1 (by decide)]⟩⟩
  have a1 : nd_up (nd_up c 43 n x) 42 1 (nI (n + 1)) 43 i = nd_up c 43 n x 43 i := u_ne1 (by decide)
  rw [a1]
  by_cases hin : i = n
  · rw [hin, u_eq, ho, ha]
    exact hx
  · rw [u_ne2 hin, (hq.2 (800 + i) (by omega)).1, (hq.2 (800 + i) (by omega)).2]
    exact h3 i (by omega)
theorem ps_38 {c' : nd_Mem} (h : ps_k c r t z k p) (h38 : c' 38 = c 38) (hf : fcc_ c c') : ps_k c' r t z k p := ⟨cb_fc hf ⟨by rw [h38], by rw [h38]⟩ h.1, by unfold ctk_; rw [h38]; exact h.2.1, h.2.2⟩
theorem c_mayN {o : Nat} (ho : o < 8) {c' : nd_Mem} (h : f_X3_advance F c = some (0, c')) : f_X3_mayOpen F (nI o) c = some (1, c') := by
  unfold f_X3_mayOpen
  rw [if_pos (show nI o < (8 : Int32) from nI_lt (b := 8) ho (by decide)), h, n_bind]
theorem c_may8 {c' : nd_Mem} (h : f_X3_refuse F 3 c = some (0, c')) : f_X3_mayOpen F (nI 8) c = some (0, c') := by
  unfold f_X3_mayOpen
  rw [if_neg (by decide), h, n_bind, if_neg (by decide)]
/-- the machine looks for a condition -/
theorem m_due {f b : Nat} (h : ps_k c r t z 0 p) : f_X11_readAny_9 F (f + 1) (nI b) 1 r = (if tk_ t z p = 2 ∧ tv_ t z p = 6 then f_X11_readAny_33 F (f_X11_readAny_9 F f) (nI b) 1 1 r else if tk_ t z p = 4 ∧ tv_ t z p = 40 then f_X11_readAny_33 F (f_X11_readAny_9 F f) (nI b) 1 0 r else nd_bind (f_X11_readCompared F r) fun r54 σ55 => if r54 = (-1 : Int32) then some (-1, σ55) else nd_bind (f_X11_settles F 9 σ55) fun r57 σ58 => f_X11_readAny_9 F f (nI b) 0 σ58) := by
  show f_X11_readAny_9_b F _ _ _ _ = _
  unfold f_X11_readAny_9_b
  rw [if_neg n10, mw_ (y := (6 : Int32)) (x := 6) h.2.2.1 h.2.2.2.1 rfl (by decide), n_bind]
  by_cases h6 : tk_ t z p = 2 ∧ tv_ t z p = 6
  · rw [if_pos h6, if_neg n10, if_pos h6]
  · rw [if_neg h6, if_pos rfl, if_neg h6, ms_ (y := (40 : Int32)) (x := 40) h.2.2.1 h.2.2.2.1 rfl (by decide), n_bind]
    by_cases h40 : tk_ t z p = 4 ∧ tv_ t z p = 40
    · rw [if_pos h40, if_neg n10, if_pos h40]
    · rw [if_neg h40, if_pos rfl, if_neg h40]
theorem q_24 {v : Int32} (n : Nat) : frq_ n r (nd_up r 60 24 v) := ⟨(by repeat first | exact fr_rf | (refine fr_up57 ?_ (by decide)) | (refine fr_up ?_ (by decide) (by decide)) | (refine fr_row ?_ (by decide) (by decide))), fun i _ => by rw [u_ne1 (by decide), u_ne1 (by decide)]; exact ⟨rfl, rfl⟩⟩
theorem c_readSign (h : ps_k c r t z 0 p) {x : Nat} {y : Int32} (hy : y = nI x) (hx : x < 2147483648) : f_X3_readSign F y c = if tk_ t z p = 4 ∧ tv_ t z p = x then (nd_bind (f_X3_advance F c) fun r4 σ5 => some (1, σ5)) else nd_bind (f_X3_refuse F 1 c) fun r7 σ8 => if ¬ (r7 = 0 ∨ r7 = 1) then none else some (r7, σ8) := by
  unfold f_X3_readSign
  rw [cs_s (x := x) h.1 h.2.1 hy hx, n_bind]
  by_cases e : tk_ t z p = 4 ∧ tv_ t z p = x
  · rw [if_pos e, if_neg n10, if_pos e]
  · rw [if_neg e, if_pos rfl, if_neg e]
theorem PC_s (hF : 300000 ≤ F) {D : Nat} (hB : PB_ F t z D) (hC : PC_ F t z D) : PC_ F t z (D + 1) := by
  intro c r p n o k b f S h hd hn ho hk h24 hs hnt hv hl hbo hD hf
  have hz := h.1.1
  have hpz := h.2.2.2.2
  obtain ⟨f, rfl⟩ : ∃ g, f = g + 1 := ⟨f - 1, by omega⟩
  have hcl : f_X3_grp F (D + 1) 1 (nI o) c = f_X3_readCondition_r F (f_X3_grp F D 0) (f_X3_grp F D 1) (nI o) c := rfl
  rw [hcl, m_due h]
  by_cases h6 : tk_ t z p = 2 ∧ tv_ t z p = 6
  · have n40 : ¬ (tk_ t z p = 4 ∧ tv_ t z p = 40) := fun e => by omega
    have hp : p < z := tk_lt (t := t) (by omega)
    have hnx := nx_gt (t := t) hp
    rw [if_pos h6]
    unfold f_X3_readCondition_r
    rw [cs_s (y := (40 : Int32)) (x := 40) h.1 h.2.1 rfl (by decide), n_bind, if_neg n40, if_pos rfl, cw0 (y := (6 : Int32)) (x := 6) h.1 h.2.1 rfl (by decide), n_bind, if_pos h6, if_neg n10]
    unfold f_X11_readAny_33
    rw [h24]
    by_cases h8 : o = 8
    · subst h8
      obtain ⟨c', r', w1, w2, w3, w4⟩ := mv_ref (F := F) (y := 3) h n
      obtain ⟨y, c2, q1, q2, q3, q4⟩ := add_any (F := F) (x := -2) (c := c') ⟨n, by omega, by rw [w4]; exact hd.1⟩
      unfold f_X3_readCondition_73 f_X3_readCondition_74
      rw [c_may8 w1, n_bind, if_pos rfl, q1, n_bind, if_neg (by decide), if_pos (show nI 8 = (8 : Int32) from rfl), w2, n_bind]
      exact Or.inr ⟨c2, r', rfl, rfl, by rw [q2]; exact w3.1, by rw [q2]; exact w3.2.1, fcc_tr w3.2.2.1 q3, frm_r w3.2.2.2, q4⟩
    · rw [if_neg (show ¬ nI o = (8 : Int32) from fun e => h8 ((nI_eq (b := 8) (by omega) (by decide)).mp e)), n_let, if_neg n10]
      unfold f_X11_readAny_66 f_X11_readAny_78
      rw [if_neg n10, nI_1]
      have s1 : skk_ (nd_up r 60 24 (nI (o + 1))) (List.replicate k 9 ++ S) := ⟨by rw [u_ne2 (by decide)]; exact hs.1, skc_c _ (fun i _ => by rw [u_ne1 (by decide)]) hs.2⟩
      obtain ⟨r2, a1, a2, a3, a4, a5, a6, a7⟩ := w_x (F := F) (x := 9) (y := (9 : Int32)) rfl s1 (by rw [List.length_append, List.length_replicate]; omega) n
      have q2 : frq_ n r r2 := frq_tr (q_24 n) a3 (Nat.le_refl n)
      obtain ⟨c3, r3, b1, b2, b3, b4, b5, b6, b7⟩ := mv_adv hF (ps_q q2 h) hp n
      have d3 : cd_ c3 r3 n := by
        refine cd_adv (c := c) (r := r2) ⟨hd.1, ?_, fun i hi => ?_⟩ b6 b7
        · rw [a4, u_ne2 (by decide)]; exact hd.2.1
        · rw [a6, a7, nd_up_ne (by decide), nd_up_ne (by decide)]; exact hd.2.2 i hi
      rw [a1, n_bind, b2, n_bind, c_mayN (by omega) b1, n_bind, if_neg n10]
      have f03 : frm_ n r r3 := frm_tr (frm_q q2) (frm_r b5) (Nat.le_refl n)
      have o3 : r3 60 24 = nI (o + 1) := by rw [b7.2 24 (by decide), a5, u_eq]
      have s3 : skk_ r3 (List.replicate (k + 1) 9 ++ S) := by
        rw [List.replicate_succ, List.cons_append]
        exact skk_r b5 a2
      rcases hC c3 r3 (tn_ t z (tqe_ t z p)) n (o + 1) (k + 1) b f S b3 d3 (by omega) (by omega) (by omega) o3 s3 hnt hv (by omega) (by omega) (by omega) (by omega) with ⟨c4, r4, p4, n4, f4, e1, e2, e3, e4, e5, e6, e7, e8, e9, e10, e11, e12, e13⟩ | ⟨c4, r4, e1, e2, e3⟩
      · have hp4 := e3.2.2.2.2
        obtain ⟨y, c5, g1, g2, g3, g4⟩ := cdk_add (F := F) e4 (by omega)
        unfold f_X3_readCondition_74
        rw [e1, n_bind, if_neg n10, g1, n_bind, if_neg (by decide)]
        refine Or.inl ⟨c5, r4, p4, n4 + 1, f4, rfl, e2, ps_38 e3 g3 g4, g2, by rw [e5]; congr 1; omega, e6, fcc_tr b4 (fcc_tr e7 g4), frm_tr f03 e8 (Nat.le_refl n), by omega, by omega, by omega, e12, fun st hst => ?_⟩
        obtain ⟨v1, v2⟩ := e4.2.2.2 n4 (Nat.le_refl n4) (by omega)
        rw [show n4 + 1 - n = (n4 - n) + 1 by omega, tyd_cat (e13 st (by omega)), show n + (n4 - n) = n4 by omega, tyd_1, v1, v2]
        rfl
      · obtain ⟨y, c5, g1, g2, g3, g4⟩ := add_any (F := F) (x := -2) e3.2.2.2.2
        unfold f_X3_readCondition_73 f_X3_readCondition_74
        rw [e1, n_bind, if_pos rfl, g1, n_bind, if_neg (by decide)]
        exact Or.inr ⟨c5, r4, rfl, e2, by rw [g2]; exact e3.1, by rw [g2]; exact e3.2.1, fcc_tr b4 (fcc_tr e3.2.2.1 g3), frm_tr f03 e3.2.2.2.1 (Nat.le_refl n), g4⟩
  · rw [if_neg h6]
    by_cases h40 : tk_ t z p = 4 ∧ tv_ t z p = 40
    · have hp : p < z := tk_lt (t := t) (by omega)
      have hnx := nx_gt (t := t) hp
      rw [if_pos h40]
      unfold f_X3_readCondition_r f_X3_readCondition_40
      rw [cs_s (y := (40 : Int32)) (x := 40) h.1 h.2.1 rfl (by decide), n_bind, if_pos h40, if_neg n10]
      unfold f_X11_readAny_33
      rw [h24]
      by_cases h8 : o = 8
      · subst h8
        obtain ⟨c', r', w1, w2, w3, w4⟩ := mv_ref (F := F) (y := 3) h n
        rw [c_may8 w1, n_bind, if_pos rfl, if_pos (show nI 8 = (8 : Int32) from rfl), w2, n_bind]
        exact Or.inr ⟨c', r', rfl, rfl, w3.1, w3.2.1, w3.2.2.1, frm_r w3.2.2.2, n, by omega, by rw [w4]; exact hd.1⟩
      · rw [if_neg (show ¬ nI o = (8 : Int32) from fun e => h8 ((nI_eq (b := 8) (by omega) (by decide)).mp e)), n_let, if_pos rfl]
        unfold f_X11_readAny_66 f_X11_readAny_78
        rw [if_pos rfl, nI_1, nI_1]
        have s1 : skk_ (nd_up r 60 24 (nI (o + 1))) (List.replicate k 9 ++ S) := ⟨by rw [u_ne2 (by decide)]; exact hs.1, skc_c _ (fun i _ => by rw [u_ne1 (by decide)]) hs.2⟩
        have hlen : (List.replicate k 9 ++ S).length = k + S.length := by rw [List.length_append, List.length_replicate]
        obtain ⟨r2, a1, a2, a3, a4, a5, a6, a7⟩ := w_x (F := F) (x := 12) (y := (12 : Int32)) rfl s1 (by omega) n
        have q2 : frq_ n r r2 := frq_tr (q_24 n) a3 (Nat.le_refl n)
        obtain ⟨c3, r3, b1, b2, b3, b4, b5, b6, b7⟩ := mv_adv hF (ps_q q2 h) hp n
        have d3 : cd_ c3 r3 n := by
          refine cd_adv (c := c) (r := r2) ⟨hd.1, ?_, fun i hi => ?_⟩ b6 b7
          · rw [a4, u_ne2 (by decide)]; exact hd.2.1
          · rw [a6, a7, nd_up_ne (by decide), nd_up_ne (by decide)]; exact hd.2.2 i hi
        rw [a1, n_bind, b2, n_bind, c_mayN (by omega) b1, n_bind, if_neg n10]
        have f03 : frm_ n r r3 := frm_tr (frm_q q2) (frm_r b5) (Nat.le_refl n)
        have o3 : r3 60 24 = nI (o + 1) := by rw [b7.2 24 (by decide), a5, u_eq]
        have hv3 : ∀ y ∈ 12 :: (List.replicate k 9 ++ S), y < 100 := fun y hy => by
          rcases List.mem_cons.mp hy with e | e
          · omega
          · rcases List.mem_append.mp e with e | e
            · have := List.eq_of_mem_replicate e
              omega
            · exact hv y e
        rcases hB c3 r3 (tn_ t z (tqe_ t z p)) n (o + 1) (b + 1) f (12 :: (List.replicate k 9 ++ S)) b3 d3 (by omega) (by omega) o3 (skk_r b5 a2) (fun y T e => by cases e; decide) (fun y T e => by cases e; decide) (fun y T e => by cases e; decide) hv3 (by rw [List.length_cons]; omega) (by omega) (by omega) (by omega) with ⟨c4, r4, r5, r6, p4, n4, f4, e1, e2, e3, e4, e5, e6, e7, e8, e9, e10, e11, e12, e13, e14, e15, e16, e17, e18⟩ | ⟨c4, r4, e1, e2, e3⟩
        · have hp4 := e5.2.2.2.2
          obtain ⟨f4, rfl⟩ : ∃ g, f4 = g + 1 := ⟨f4 - 1, by omega⟩
          have loop : f_X11_readAny_9 F (f4 + 1) (nI (b + 1)) 0 r4 = if tk_ t z p4 = 4 ∧ tv_ t z p4 = 41 then (nd_bind (f_X11_settles F 9 (nd_up (nd_up r6 60 26 (nI (k + S.length))) 60 24 (nI o))) fun r18 σ19 => nd_bind (f_X11_reads F σ19) fun r21 σ22 => f_X11_readAny_9 F f4 (nI b) 0 σ22) else nd_bind (f_X11_errs F 1 r6) fun r24 σ25 => some (r24, σ25) := by
            show f_X11_readAny_9_b F _ _ _ _ = _
            unfold f_X11_readAny_9_b
            have g26 : r6 60 26 = nI (k + S.length + 1) := by
              have := e11.1
              rw [List.length_cons, hlen] at this
              exact this
            have h26 : nI (k + S.length + 1) - (1 : Int32) = nI (k + S.length) := by
              have : nI (k + S.length + 1) - nI 1 = nI (k + S.length + 1 - 1) := n_sub (by omega)
              rw [Nat.add_sub_cancel] at this
              exact this
            have hb1 : nI (b + 1) - (1 : Int32) = nI b := by
              have : nI (b + 1) - nI 1 = nI (b + 1 - 1) := n_sub (by omega)
              rw [Nat.add_sub_cancel] at this
              exact this
            have ho1 : nI (o + 1) - (1 : Int32) = nI o := by
              have : nI (o + 1) - nI 1 = nI (o + 1 - 1) := n_sub (by omega)
              rw [Nat.add_sub_cancel] at this
              exact this
            rw [if_pos rfl, mw_ (y := (5 : Int32)) (x := 5) e5.2.2.1 e5.2.2.2.1 rfl (by decide), n_bind, if_neg e7, if_pos rfl, mw_ (y := (4 : Int32)) (x := 4) e5.2.2.1 e5.2.2.2.1 rfl (by decide), n_bind, if_neg e8, if_pos rfl, e3, n_bind, e4, n_bind, if_neg (show ¬ nI (b + 1) = (0 : Int32) from fun e => by have := (nI_eq (b := 0) (by omega) (by decide)).mp e; omega), ms_ (y := (41 : Int32)) (x := 41) e6.2.2.1 e6.2.2.2.1 rfl (by decide), n_bind]
            by_cases e41 : tk_ t z p4 = 4 ∧ tv_ t z p4 = 41
            · rw [if_pos e41, if_neg n10, if_pos e41, g26, h26, n_let, u_ne2 (by decide), e10, ho1, n_let, hb1]
            · rw [if_neg e41, if_pos rfl, if_neg e41]
          rw [e1, n_bind, if_neg n10, c_readSign (y := (41 : Int32)) (x := 41) e5 rfl (by decide), e2, loop]
          by_cases e41 : tk_ t z p4 = 4 ∧ tv_ t z p4 = 41
          · have hp4z : p4 < z := tk_lt (t := t) (by omega)
            have hnx4 := nx_gt (t := t) hp4z
            have q7 : frq_ n4 r6 (nd_up (nd_up r6 60 26 (nI (k + S.length))) 60 24 (nI o)) := ⟨(by repeat first | exact fr_rf | (refine fr_up57 ?_ (by decide)) | (refine fr_up ?_ (by decide) (by decide)) | (refine fr_row ?_ (by decide) (by decide))), fun i _ => by rw [u_ne1 (by decide), u_ne1 (by decide), u_ne1 (by decide), u_ne1 (by decide)]; exact ⟨rfl, rfl⟩⟩
            have s7 : skk_ (nd_up (nd_up r6 60 26 (nI (k + S.length))) 60 24 (nI o)) (List.replicate k 9 ++ S) := ⟨by rw [u_ne2 (by decide), u_eq, hlen], skc_c _ (fun i _ => by rw [u_ne1 (by decide), u_ne1 (by decide)]) e11.2.2⟩
            obtain ⟨r8, g1, g2, g3, g4, g5, g6⟩ := s_nots (F := F) (S := S) k F n4 o (nd_up (nd_up r6 60 26 (nI (k + S.length))) 60 24 (nI o)) (by omega) s7 (by omega) hv hnt (by rw [u_ne2 (by decide), u_ne2 (by decide)]; exact e9.2.1) (by omega) (u_eq _ _ _ _) hk
            have q8 : frq_ n4 r6 r8 := frq_tr q7 g3 (Nat.le_refl _)
            obtain ⟨c9, r9, j1, j2, j3, j4, j5, j6, j7⟩ := mv_adv hF (ps_q q8 e6) hp4z (n4 + k)
            have dk : cdk_ c4 r8 n4 k := cdk_s e9 q8 g4 g6
            have dk9 : cdk_ c9 r9 n4 k := by
              refine ⟨by rw [j6.1 42 (by decide)]; exact dk.1, by rw [j7.2 23 (by decide)]; exact dk.2.1, fun i hi => ?_, fun i h1 h2 => ?_⟩
              · rw [j6.1 43 (by decide), j7.1 72 (by decide) (by decide), j7.1 73 (by decide) (by decide)]; exact dk.2.2.1 i hi
              · rw [j7.1 72 (by decide) (by decide), j7.1 73 (by decide) (by decide)]; exact dk.2.2.2 i h1 h2
            have hset : f_X11_settles F 9 (nd_up (nd_up r6 60 26 (nI (k + S.length))) 60 24 (nI o)) = some (0, r8) := g1
            rw [if_pos e41, if_pos e41, j1, n_bind, n_bind, if_neg n10, hset, n_bind, j2, n_bind]
            have f69 : frm_ n4 r6 r9 := frm_tr (frm_q q8) (frm_r j5) (by omega)
            refine Or.inl ⟨c9, r9, _, n4, f4, rfl, rfl, j3, dk9, by rw [j7.2 24 (by decide)]; exact g5, skk_r j5 g2, fcc_tr b4 (fcc_tr e12 j4), frm_tr f03 (frm_tr e13 f69 e15) (Nat.le_refl n), by omega, by omega, by omega, by omega, fun st hst => ?_⟩
            rw [tyd_q (m := n4) f69.2 (by omega)]
            exact e18 st (by omega)
          · obtain ⟨c', r', w1, w2, w3, w4⟩ := mv_ref (F := F) (y := 1) e6 n4
            rw [if_neg e41, if_neg e41, w1, n_bind, if_neg (by decide), n_bind, if_pos rfl, w2, n_bind]
            exact Or.inr ⟨c', r', rfl, rfl, w3.1, w3.2.1, fcc_tr b4 (fcc_tr e12 w3.2.2.1), frm_tr f03 (frm_tr e13 (frm_r w3.2.2.2) e15) (Nat.le_refl n), n4, by omega, by rw [w4]; exact e9.1⟩
        · rw [e1, n_bind, if_pos rfl]
          exact Or.inr ⟨c4, r4, rfl, e2, flm_tr b4 f03 (Nat.le_refl n) e3⟩
    · rw [if_neg h40]
      rcases ls_cmp (F := F) (sE := f_X3_grp F D 0) (sC := f_X3_grp F D 1) (x1 := nI o) hF h hd (by omega) h40 h6 with ⟨c1, r1, p1, n1, a1, a2, a3, a4, a5, a6, a7, a8, a9, a10⟩ | ⟨c1, r1, a1, a2, a3⟩
      · have hp1 := a3.2.2.2.2
        obtain ⟨r2, g1, g2, g3, g4, g5, g6⟩ := s_nots (F := F) (S := S) k F n1 o r1 (by omega) (skk_r a6 hs) (by omega) hv hnt a4.2.1 (by omega) (by rw [a6.1.2 24 (by decide)]; exact h24) hk
        have hset : f_X11_settles F 9 r1 = some (0, r2) := g1
        rw [a1, a2, n_bind, if_neg (show ¬ (0 : Int32) = -1 by decide), hset, n_bind]
        refine Or.inl ⟨c1, r2, p1, n1, f, rfl, rfl, ps_q g3 a3, cdk_s a4 g3 g4 g6, g5, g2, a5, frm_tr (frm_r a6) (frm_q g3) a8, a7, a8, a9, by omega, fun st hst => ?_⟩
        rw [tyd_q (m := n1) g3.2 (by omega)]
        exact a10 st (by omega)
      · rw [a1, a2, n_bind, if_pos rfl]
        exact Or.inr ⟨c1, r1, rfl, rfl, flw_m a3⟩
end CO
