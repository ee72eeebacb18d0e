/-! text: lines of a law -/
def ln1_ (c r : nd_Mem) (n j : Nat) : Prop := ∃ w f q e : Nat, w < 3 ∧ f ≤ q ∧ q ≤ e ∧ e ≤ n ∧ c 41 (4 * j) = nI w ∧ r 68 (32 + j) = nI w ∧ c 41 (4 * j + 1) = nI f ∧ r 69 (32 + j) = nI f ∧ c 41 (4 * j + 2) = nI q ∧ r 70 (32 + j) = nI q ∧ c 41 (4 * j + 3) = nI e ∧ r 71 (32 + j) = nI e ∧ (∃ x : Nat, tyd_ r f (q - f) [] = some [x]) ∧ (q = e ∨ tyd_ r q (e - q) [] = some [1])
def ln_ (c r : nd_Mem) (n l : Nat) : Prop := c 40 1 = nI (4 * l) ∧ ∀ j : Nat, j < l → ln1_ c r n j
def fcl_ (c c' : nd_Mem) : Prop := (∀ i : Nat, i ≠ 38 → i ≠ 40 → i ≠ 41 → i ≠ 42 → i ≠ 43 → c' i = c i) ∧ ∀ j : Nat, j ∉ [3, 4, 11, 12, 13, 14] → c' 38 j = c 38 j
def frl_ (r r' : nd_Mem) : Prop := fr_ [68, 69, 70, 71, 72, 73, 74] [10, 11, 12, 13, 23, 24, 26, 27, 28] r r' ∧ (∀ i : Nat, i < 800 → r' 72 i = r 72 i ∧ r' 73 i = r 73 i) ∧ ∀ i : Nat, i < 32 → r' 68 i = r 68 i ∧ r' 69 i = r 69 i ∧ r' 70 i = r 70 i ∧ r' 71 i = r 71 i
section LI
variable {F z p n l k : Nat} {c r : nd_Mem} {t : Nat → Nat}
theorem fcl_tr {c1 c2 c3 : nd_Mem} (h1 : fcl_ c1 c2) (h2 : fcl_ c2 c3) : fcl_ c1 c3 := ⟨fun i a b d e f => (h2.1 i a b d e f).trans (h1.1 i a b d e f), fun j a => (h2.2 j a).trans (h1.2 j a)⟩
theorem fcl_rf : fcl_ c c := ⟨fun _ _ _ _ _ _ => rfl, fun _ _ => rfl⟩
theorem fcl_c {c' : nd_Mem} (h : fcc_ c c') : fcl_ c c' := ⟨fun i a _ _ d e => h.1 i a d e, h.2⟩
theorem frl_tr {r1 r2 r3 : nd_Mem} (h1 : frl_ r1 r2) (h2 : frl_ r2 r3) : frl_ r1 r3 := by
  refine ⟨⟨fun i a b => (h2.1.1 i a b).trans (h1.1.1 i a b), fun j a => (h2.1.2 j a).trans (h1.1.2 j a)⟩, fun i hi => ⟨(h2.2.1 i hi).1.trans (h1.2.1 i hi).1, (h2.2.1 i hi).2.trans (h1.2.1 i hi).2⟩, fun i hi => ?_⟩
  obtain ⟨a1, a2, a3, a4⟩ := h1.2.2 i hi
  obtain ⟨b1, b2, b3, b4⟩ := h2.2.2 i hi
  exact ⟨b1.trans a1, b2.trans a2, b3.trans a3, b4.trans a4⟩
theorem frl_rf : frl_ r r := ⟨fr_rf, fun _ _ => ⟨rfl, rfl⟩, fun _ _ => ⟨rfl, rfl, rfl, rfl⟩⟩
theorem frl_m {r' : nd_Mem} (h : frm_ n r r') : frl_ r r' := by
  refine ⟨fr_w h.1 (fun i hi => ?_) (fun j hj => hj), fun i hi => h.2 i (by omega), fun i _ => ?_⟩
  · simp only [List.mem_cons, List.not_mem_nil, or_false] at hi ⊢
    omega
  · rw [h.1.1 68 (by decide) (by decide), h.1.1 69 (by decide) (by decide), h.1.1 70 (by decide) (by decide), h.1.1 71 (by decide) (by decide)]
    exact ⟨rfl, rfl, rfl, rfl⟩
/-- the reference notes where a line's part begins -/
theorem frl_u {i j : Nat} {v : Int32} (hi : i = 68 ∨ i = 69 ∨ i = 70 ∨ i = 71) (hj : 32 ≤ j) : frl_ r (nd_up r i j v) := by
  refine ⟨⟨fun a ha _ => nd_up_ne (fun e => ha (by rw [e]; rcases hi with rfl | rfl | rfl | rfl <;> decide)), fun b _ => u_ne1 (by omega)⟩, fun a _ => ⟨u_ne1 (by omega), u_ne1 (by omega)⟩, fun a ha => ⟨u_ne2 (by omega), u_ne2 (by omega), u_ne2 (by omega), u_ne2 (by omega)⟩⟩
theorem ps_u {i j : Nat} {v : Int32} (h : ps_k c r t z k p) (h1 : i ≠ 60) (h2 : i ≠ 65) (h3 : i ≠ 66) : ps_k c (nd_up r i j v) t z k p := by
  obtain ⟨a1, a2, ⟨b1, b2, b3, b4, b5⟩, a4, a5⟩ := h
  refine ⟨a1, a2, ⟨b1, b2, by rw [u_ne1 (Ne.symm h1)]; exact b3, fun x hx => by rw [u_ne1 (Ne.symm h2)]; exact b4 x hx, fun x hx => by rw [u_ne1 (Ne.symm h3)]; exact b5 x hx⟩, ?_, a5⟩
  unfold rt_
  rw [u_ne1 (Ne.symm h1), u_ne1 (Ne.symm h1), u_ne1 (Ne.symm h1), u_ne1 (Ne.symm h1)]
  exact a4
theorem cd_u {i j : Nat} {v : Int32} (h : cd_ c r n) (h1 : i ≠ 60) (h2 : i ≠ 72) (h3 : i ≠ 73) : cd_ c (nd_up r i j v) n := ⟨h.1, by rw [u_ne1 (Ne.symm h1)]; exact h.2.1, fun x hx => by rw [u_ne1 (Ne.symm h2), u_ne1 (Ne.symm h3)]; exact h.2.2 x hx⟩
theorem tyd_u {i j : Nat} {v : Int32} {a m : Nat} {s : List Nat} (h2 : i ≠ 72) (h3 : i ≠ 73) : tyd_ (nd_up r i j v) a m s = tyd_ r a m s := ty_run_c m a s (fun x _ _ => ⟨u_ne1 (Ne.symm h2), u_ne1 (Ne.symm h3)⟩)
/-- four numbers behind the lines -/
theorem c_addLaw {w a b e : Int32} (h : c 40 1 = nI (4 * l)) (hl : l < 16) : f_X5_addLaw F 39 w a b e c = some (0, nd_up (nd_up (nd_up (nd_up (nd_up (nd_up (nd_up (nd_up c 41 (4 * l) w) 40 1 (nI (4 * l + 1))) 41 (4 * l + 1) a) 40 1 (nI (4 * l + 1 + 1))) 41 (4 * l + 1 + 1) b) 40 1 (nI (4 * l + 1 + 1 + 1))) 41 (4 * l + 1 + 1 + 1) e) 40 1 (nI (4 * l + 1 + 1 + 1 + 1))) := by
  unfold f_X5_addLaw
  show nd_bind (f_X4_add F 40 41 64 w c) _ = _
  rw [e_add (by decide) h (by decide) (by omega), n_bind]
  show nd_bind (f_X4_add F 40 41 64 a _) _ = _
  rw [e_add (n := 4 * l + 1) (by decide) (u_eq _ _ _ _) (by decide) (by omega), n_bind]
  show nd_bind (f_X4_add F 40 41 64 b _) _ = _
  rw [e_add (n := 4 * l + 1 + 1) (by decide) (u_eq _ _ _ _) (by decide) (by omega), n_bind]
  show nd_bind (f_X4_add F 40 41 64 e _) _ = _
  rw [e_add (n := 4 * l + 1 + 1 + 1) (by decide) (u_eq _ _ _ _) (by decide) (by omega), n_bind]
theorem c_addL2 {w a b e : Int32} (h : c 40 1 = nI (4 * l)) (hl : l < 16) : ∃ c' : nd_Mem, f_X5_addLaw F 39 w a b e c = some (0, c') ∧ c' 40 1 = nI (4 * (l + 1)) ∧ (c' 41 (4 * l) = w ∧ c' 41 (4 * l + 1) = a ∧ c' 41 (4 * l + 2) = b ∧ c' 41 (4 * l + 3) = e) ∧ (∀ i : Nat, i < 4 * l → c' 41 i = c 41 i) ∧ ∀ i : Nat, i ≠ 40 → i ≠ 41 → c' i = c i := by
  refine ⟨_, c_addLaw h hl, ?_, ⟨?_, ?_, ?_, ?_⟩, fun i hi => ?_, fun i h1 h2 => ?_⟩
  · rw [u_eq]; rfl
  · rw [u_ne1 (by decide), u_ne2 (by omega), u_ne1 (by decide), u_ne2 (by omega), u_ne1 (by decide), u_ne2 (by omega), u_ne1 (by decide), u_eq]
  · rw [u_ne1 (by decide), u_ne2 (by omega), u_ne1 (by decide), u_ne2 (by omega), u_ne1 (by decide), u_eq]
  · show _ = b
    rw [u_ne1 (by decide), u_ne2 (by omega), u_ne1 (by decide)]
    exact u_eq _ _ _ _
  · rw [u_ne1 (by decide)]
    exact u_eq _ _ _ _
  · rw [u_ne1 (by decide), u_ne2 (by omega), u_ne1 (by decide), u_ne2 (by omega), u_ne1 (by decide), u_ne2 (by omega), u_ne1 (by decide), u_ne2 (by omega)]
  · rw [nd_up_ne h1, nd_up_ne h2, nd_up_ne h1, nd_up_ne h2, nd_up_ne h1, nd_up_ne h2, nd_up_ne h1, nd_up_ne h2]
theorem ps_40 {c' : nd_Mem} (h : ps_k c r t z k p) (hc : ∀ i : Nat, i ≠ 40 → i ≠ 41 → c' i = c i) : ps_k c' r t z k p := by
  have h38 := hc 38 (by decide) (by decide)
  have h47 := hc 47 (by decide) (by decide)
  obtain ⟨⟨b1, b2, b3, b4, b5, b6⟩, a2, a3⟩ := h
  refine ⟨⟨b1, b2, by rw [h38]; exact b3, fun i hi => by rw [h47]; exact b4 i hi, by rw [h38]; exact b5, b6.1, by rw [h38]; exact b6.2.1, by rw [h38]; exact b6.2.2.1, car_c (by rw [h38]) (hc 48 (by decide) (by decide)) (hc 49 (by decide) (by decide)) (hc 50 (by decide) (by decide)) b6.2.2.2⟩, ?_, a3⟩
  unfold ctk_
  rw [h38]
  exact a2
/-- earlier lines stay -/
theorem ln1_c {c' r' : nd_Mem} {m j : Nat} (h : ln1_ c r n j) (hc : ∀ i : Nat, i < 4 * (j + 1) → c' 41 i = c 41 i) (hr : r' 68 (32 + j) = r 68 (32 + j) ∧ r' 69 (32 + j) = r 69 (32 + j) ∧ r' 70 (32 + j) = r 70 (32 + j) ∧ r' 71 (32 + j) = r 71 (32 + j)) (ht : ∀ i : Nat, i < 800 + n → r' 72 i = r 72 i ∧ r' 73 i = r 73 i) (hn : n ≤ m) : ln1_ c' r' m j := by
  obtain ⟨w, f, q, e, a1, a2, a3, a4, b1, b2, b3, b4, b5, b6, b7, b8, ⟨x, hx⟩, hy⟩ := h
  refine ⟨w, f, q, e, a1, a2, a3, by omega, by rw [hc _ (by omega)]; exact b1, by rw [hr.1]; exact b2, by rw [hc _ (by omega)]; exact b3, by rw [hr.2.1]; exact b4, by rw [hc _ (by omega)]; exact b5, by rw [hr.2.2.1]; exact b6, by rw [hc _ (by omega)]; exact b7, by rw [hr.2.2.2]; exact b8, ⟨x, by rw [tyd_q (m := n) ht (by omega)]; exact hx⟩, ?_⟩
  rcases hy with e' | e'
  · exact Or.inl e'
  · exact Or.inr (by rw [tyd_q (m := n) ht (by omega)]; exact e')
def lres_ (c r : nd_Mem) (X Y : nd_Res) (F : Nat) : Prop := (∃ (c' r' : nd_Mem) (n' l' : Nat), X = f_X3_read_93 F 0 1 c' ∧ Y = some (nI l', r') ∧ cd_ c' r' n' ∧ n' ≤ 400 ∧ ln_ c' r' n' l' ∧ l' ≤ 16 ∧ fcl_ c c' ∧ frl_ r r' ∧ c' 38 3 = 0 ∧ c' 38 4 = -1) ∨ ∃ c' r' : nd_Mem, X = f_X3_read_93 F 0 0 c' ∧ Y = some (-1, r') ∧ c' 38 3 = r' 60 27 ∧ c' 38 4 = r' 60 28 ∧ fcl_ c c' ∧ frl_ r r'
theorem lres_tr {c1 r1 : nd_Mem} {X Y : nd_Res} (h1 : fcl_ c c1) (h2 : frl_ r r1) (h : lres_ c1 r1 X Y F) : lres_ c r X Y F := by
  rcases h with ⟨c', r', n', l', a1, a2, a3, a4, a5, a6, a7, a8, a9⟩ | ⟨c', r', a1, a2, a3, a4, a5, a6⟩
  · exact Or.inl ⟨c', r', n', l', a1, a2, a3, a4, a5, a6, fcl_tr h1 a7, frl_tr h2 a8, a9⟩
  · exact Or.inr ⟨c', r', a1, a2, a3, a4, fcl_tr h1 a5, frl_tr h2 a6⟩
/-- the class ends, its line was not well -/
theorem c_62f {g : Nat} (hg : 0 < g) {x4 : Int32} : f_X3_read_61 F g 0 0 x4 c = f_X3_read_93 F 0 0 c := by
  obtain ⟨g, rfl⟩ : ∃ q, g = q + 1 := ⟨g - 1, by omega⟩
  show f_X3_read_61_b F _ _ _ _ _ = _
  unfold f_X3_read_61_b
  rw [if_pos rfl, ite_self]
theorem m_isLine (hb : rb_ r t z) (hr : rt_ r t z p) : f_X11_isLineWord F r = some (if tk_ t z p = 2 ∧ tv_ t z p ≤ 2 then 1 else 0, r) := by
  have h4 := tk_4 (t := t) (z := z) (p := p)
  unfold f_X11_isLineWord f_X11_isLineWord_25
  rw [hr.2.2.1]
  by_cases hk : tk_ t z p = 2
  · have hv := (tv_b hb.2.1 (show 2 ≤ tk_ t z p by omega)).1
    rw [if_pos (show nI (tk_ t z p) = (2 : Int32) by rw [hk]; rfl), hr.2.2.2 (by omega), isN (la := (0 : Int32)) (lb := (2 : Int32)) (a := 0) (b := 2) rfl rfl (by omega) (by decide) (by decide), n_bind]
    by_cases h2 : tv_ t z p ≤ 2
    · rw [if_neg (show ¬ (tv_ t z p < 0 ∨ 2 < tv_ t z p) by omega), if_neg n10, if_pos ⟨hk, h2⟩]
    · rw [if_pos (show tv_ t z p < 0 ∨ 2 < tv_ t z p by omega), if_pos rfl, if_neg (fun e => h2 e.2)]
  · rw [if_neg (show ¬ nI (tk_ t z p) = (2 : Int32) from fun e => hk ((nI_eq (b := 2) (by omega) (by decide)).mp e)), if_neg (fun e => hk e.1)]
theorem ll_ (hF : 300000 ≤ F) : ∀ (d : Nat) (c r : nd_Mem) (p n l f g : Nat), z - p = d → ps_k c r t z 0 p → cd_ c r n → n ≤ p → r 60 24 = nI 0 → ln_ c r n l → l ≤ 16 → d + 1 < f → d < g → lres_ c r (f_X3_read_61 F f 0 1 (nI l) c) (f_X11_readLaw_2 F g (nI l) r) F := by
  intro d
  induction d using Nat.strongRecOn with
  | ind d ih =>
    intro c r p n l f g hdp h hd hn h24 hln hl16 hf hg
    have hz := h.1.1
    have hpz := h.2.2.2.2
    have hb := h.2.2.1
    have hr := h.2.2.2.1
    obtain ⟨f, rfl⟩ : ∃ g, f = g + 1 := ⟨f - 1, by omega⟩
    obtain ⟨g, rfl⟩ : ∃ q, g = q + 1 := ⟨g - 1, by omega⟩
    obtain ⟨k0, k2, k3, k1⟩ := ckd_ h.2.1
    have hcl : f_X3_read_61 F (f + 1) 0 1 (nI l) c = f_X3_read_61_b F (f_X3_read_61 F f) 0 1 (nI l) c := rfl
    have hml : f_X11_readLaw_2 F (g + 1) (nI l) r = f_X11_readLaw_2_b F (f_X11_readLaw_2 F g) (nI l) r := rfl
    rw [hcl, hml]
    unfold f_X3_read_61_b f_X11_readLaw_2_b
    rw [if_neg (show ¬ (16 : Int32) < nI l from nI_nlt (a := 16) hl16 (by decide)), if_neg n10, m_isLine hb hr, n_bind]
    by_cases h0 : tk_ t z p = 0
    · have hc0 : c 38 11 = 0 := k0.mpr h0
      rw [if_pos hc0, if_neg (show ¬ (tk_ t z p = 2 ∧ tv_ t z p ≤ 2) from fun e => by omega), if_pos rfl, if_pos (show r 60 12 = 0 by rw [hr.2.2.1, h0]; rfl)]
      exact Or.inl ⟨c, r, n, l, rfl, rfl, hd, by omega, hln, hl16, fcl_rf, frl_rf, ⟨h.1.2.2.2.2.2.2.1, h.1.2.2.2.2.2.2.2.1⟩⟩
    · rw [if_neg (fun e => h0 (k0.mp e))]
      unfold f_X3_readLine
      rw [if_pos rfl]
      by_cases hw : tk_ t z p = 2 ∧ tv_ t z p ≤ 2
      · have hp : p < z := tk_lt (t := t) h0
        have hnx := nx_gt (t := t) hp
        have hx := kx_0 hb.2.1 hw.1
        rw [if_pos (show tv_ t z p < 17 by omega)] at hx
        obtain ⟨c7, c8⟩ := h.2.1.2.2.2.2.1 hw.1 (by rw [k0_len, hx]; omega)
        rw [hx] at c8
        rw [if_pos hw, if_neg n10]
        unfold f_X3_readLine_9
        rw [if_pos c7, c8, if_pos (show nI (tv_ t z p) ≤ (2 : Int32) from nI_le (b := 2) hw.2 (by decide))]
        by_cases h16 : l = 16
        · subst h16
          obtain ⟨c', r', w1, w2, w3, w4⟩ := mv_ref (F := F) (y := 3) h n
          rw [if_neg (show ¬ nI 16 < (16 : Int32) by decide), w1, n_bind, if_neg (by decide), n_bind, c_62f (by omega), if_pos (show nI 16 = (16 : Int32) from rfl), w2, n_bind]
          exact Or.inr ⟨c', r', rfl, rfl, w3.1, w3.2.1, fcl_c w3.2.2.1, frl_m (frm_r w3.2.2.2)⟩
        · have hl : l < 16 := by omega
          have e32 : (32 : Int32) + nI l = nI (32 + l) := n_add 32 l
          have g0 : cd_ c (nd_up r 68 (32 + l) (nI (tv_ t z p))) n := cd_u hd (by decide) (by decide) (by decide)
          obtain ⟨c1, r1, b1, b2, b3, b4, b5, b6, b7⟩ := mv_adv hF (ps_u (i := 68) (j := 32 + l) (v := nI (tv_ t z p)) h (by decide) (by decide) (by decide)) hp n
          have d1 : cd_ c1 r1 n := cd_adv g0 b6 b7
          rw [if_pos (show nI l < (16 : Int32) from nI_lt (b := 16) hl (by decide)), b1, n_bind, if_pos rfl, if_neg (show ¬ nI l = (16 : Int32) from fun e => h16 ((nI_eq (b := 16) (by omega) (by decide)).mp e)), e32, if_neg (nI_in (by omega) (by decide)), nI_clamp (by omega), hr.2.2.2 (by omega), n_let, b2, n_bind, if_neg (nn_in (by omega) (by omega)), d1.2.1, n_let]
          unfold f_X3_readLaw
          rw [d1.1]
          have d2 : cd_ c1 (nd_up r1 69 (32 + l) (nI n)) n := cd_u d1 (by decide) (by decide) (by decide)
          have L01 : frl_ r (nd_up r1 69 (32 + l) (nI n)) := frl_tr (frl_u (Or.inl rfl) (by omega)) (frl_tr (frl_m (frm_r b5)) (frl_u (Or.inr (Or.inl rfl)) (by omega)))
          rcases ls_sum (F := F) hF (ps_u (i := 69) (j := 32 + l) (v := nI n) b3 (by decide) (by decide) (by decide)) d2 (by omega) with ⟨c3, r3, p3, n3, a1, a2, a3, a4, a5, a6, a7, a8, a9, a10⟩ | ⟨c3, r3, a1, a2, a3⟩
          · have hp3 := a3.2.2.2.2
            have L03 : frl_ r r3 := frl_tr L01 (frl_m (frm_r a6))
            have C03 : fcc_ c c3 := fcc_tr b4 a5
            rw [a1, n_bind, if_neg n10, a2, n_bind, if_neg (show ¬ (0 : Int32) = -1 by decide), if_neg (nn_in (by omega) (by omega)), a4.2.1, n_let, cw0 (y := (3 : Int32)) (x := 3) a3.1 a3.2.1 rfl (by decide), n_bind]
            have p4 := ps_u (i := 70) (j := 32 + l) (v := nI n3) a3 (by decide) (by decide) (by decide)
            have d4 : cd_ c3 (nd_up r3 70 (32 + l) (nI n3)) n3 := cd_u a4 (by decide) (by decide) (by decide)
            have L04 : frl_ r (nd_up r3 70 (32 + l) (nI n3)) := frl_tr L03 (frl_u (Or.inr (Or.inr (Or.inl rfl))) (by omega))
            rw [mw_ (y := (3 : Int32)) (x := 3) p4.2.2.1 p4.2.2.2.1 rfl (by decide), n_bind]
            obtain ⟨x, hx1⟩ := a10 [] [] rfl (by decide)
            have fin : ∀ (c5 r5 : nd_Mem) (p5 n5 : Nat), ps_k c5 r5 t z 0 p5 → cd_ c5 r5 n5 → n5 ≤ p5 → p < p5 → n3 ≤ n5 → r5 60 24 = nI 0 → fcc_ c3 c5 → frm_ n3 (nd_up r3 70 (32 + l) (nI n3)) r5 → (n3 = n5 ∨ tyd_ r5 n3 (n5 - n3) [] = some [1]) → lres_ c r (nd_bind (nd_bind (f_X3_readLaw_53 F (nI (tv_ t z p)) (nI n) (nI n3) c5) fun r5 σ6 => if r5 = 0 then f_X3_readLine_102 F σ6 else nd_bind (f_X3_readSign F 59 σ6) fun r8 σ9 => if r8 = 0 then f_X3_readLine_102 F σ9 else some (1, σ9)) fun r1 σ2 => f_X3_read_61 F f 0 r1 (nI l + 1) σ2) (f_X11_readLaw_92 F (f_X11_readLaw_2 F g) (nI l) (nI (32 + l)) r5) F := by
              intro c5 r5 p5 n5 i1 i2 i3 i4 i5 i6 i7 i8 i9
              have C05 : fcc_ c c5 := fcc_tr C03 i7
              obtain ⟨c6, j1, j2, j3, j4, j5⟩ := c_addL2 (F := F) (c := c5) (w := nI (tv_ t z p)) (a := nI n) (b := nI n3) (e := nI n5) (l := l) (by rw [C05.1 40 (by decide) (by decide) (by decide)]; exact hln.1) hl
              unfold f_X3_readLaw_53 f_X11_readLaw_92 f_X3_readLine_102
              rw [i2.1, j1, n_bind, n_bind, if_neg n10, if_neg (nI_in (by omega) (by decide)), nI_clamp (by omega), i2.2.1, n_let]
              have p6 := ps_u (i := 71) (j := 32 + l) (v := nI n5) (ps_40 i1 j5) (by decide) (by decide) (by decide)
              have C06 : fcl_ c c6 := fcl_tr (fcl_c C05) ⟨fun i _ a2 a3 _ _ => j5 i a2 a3, fun j _ => by rw [j5 38 (by decide) (by decide)]⟩
              have L06 : frl_ r (nd_up r5 71 (32 + l) (nI n5)) := frl_tr L04 (frl_tr (frl_m i8) (frl_u (Or.inr (Or.inr (Or.inr rfl))) (by omega)))
              have d6 : cd_ c6 (nd_up r5 71 (32 + l) (nI n5)) n5 := cd_u ⟨by rw [j5 42 (by decide) (by decide)]; exact i2.1, i2.2.1, fun i hi => by rw [j5 43 (by decide) (by decide)]; exact i2.2.2 i hi⟩ (by decide) (by decide) (by decide)
              have tin : ∀ i : Nat, i < 800 + n → nd_up r5 71 (32 + l) (nI n5) 72 i = r 72 i ∧ nd_up r5 71 (32 + l) (nI n5) 73 i = r 73 i := fun i hi => by
                have z1 := i8.2 i (by omega)
                have z2 := a6.2 i hi
                have z3 := b5.2 i hi
                rw [u_ne1 (by decide), u_ne1 (by decide)] at z1
                rw [u_ne1 (by decide), u_ne1 (by decide)] at z2
                rw [u_ne1 (by decide), u_ne1 (by decide)] at z3
                rw [u_ne1 (by decide), u_ne1 (by decide)]
                exact ⟨z1.1.trans (z2.1.trans z3.1), z1.2.trans (z2.2.trans z3.2)⟩
              have q65 : ∀ i : Nat, r5 68 i = nd_up r 68 (32 + l) (nI (tv_ t z p)) 68 i := fun i => by rw [i8.1.1 68 (by decide) (by decide), u_ne1 (by decide), a6.1.1 68 (by decide) (by decide), u_ne1 (by decide), b5.1.1 68 (by decide) (by decide)]
              have q66 : ∀ i : Nat, r5 69 i = nd_up r1 69 (32 + l) (nI n) 69 i := fun i => by rw [i8.1.1 69 (by decide) (by decide), u_ne1 (by decide), a6.1.1 69 (by decide) (by decide)]
              have q66' : ∀ i : Nat, r1 69 i = r 69 i := fun i => by rw [b5.1.1 69 (by decide) (by decide), u_ne1 (by decide)]
              have q67 : ∀ i : Nat, r5 70 i = nd_up r3 70 (32 + l) (nI n3) 70 i := fun i => by rw [i8.1.1 70 (by decide) (by decide)]
              have q67' : ∀ i : Nat, r3 70 i = r 70 i := fun i => by rw [a6.1.1 70 (by decide) (by decide), u_ne1 (by decide), b5.1.1 70 (by decide) (by decide), u_ne1 (by decide)]
              have q68' : ∀ i : Nat, r5 71 i = r 71 i := fun i => by rw [i8.1.1 71 (by decide) (by decide), u_ne1 (by decide), a6.1.1 71 (by decide) (by decide), u_ne1 (by decide), b5.1.1 71 (by decide) (by decide), u_ne1 (by decide)]
              have ln6 : ln_ c6 (nd_up r5 71 (32 + l) (nI n5)) n5 (l + 1) := by
                refine ⟨j2, fun j hj => ?_⟩
                by_cases hjl : j = l
                · rw [hjl]
                  refine ⟨tv_ t z p, n, n3, n5, by omega, a8, i5, Nat.le_refl _, j3.1, ?_, j3.2.1, ?_, j3.2.2.1, ?_, j3.2.2.2, u_eq _ _ _ _, ⟨x, ?_⟩, ?_⟩
                  · rw [u_ne1 (by decide), q65, u_eq]
                  · rw [u_ne1 (by decide), q66, u_eq]
                  · rw [u_ne1 (by decide), q67, u_eq]
                  · rw [tyd_u (by decide) (by decide), tyd_q (m := n3) i8.2 (by omega), tyd_u (by decide) (by decide)]
                    exact hx1
                  · rcases i9 with e | e
                    · exact Or.inl e
                    · exact Or.inr (by rw [tyd_u (by decide) (by decide)]; exact e)
                · refine ln1_c (hln.2 j (by omega)) (fun i hi => ?_) ⟨?_, ?_, ?_, ?_⟩ tin (by omega)
                  · rw [j4 i (by omega), C05.1 41 (by decide) (by decide) (by decide)]
                  · rw [u_ne1 (by decide), q65, u_ne2 (by omega)]
                  · rw [u_ne1 (by decide), q66, u_ne2 (by omega), q66']
                  · rw [u_ne1 (by decide), q67, u_ne2 (by omega), q67']
                  · rw [u_ne2 (by omega), q68']
              rw [c_readSign (y := (59 : Int32)) (x := 59) p6 rfl (by decide), ms_ (y := (59 : Int32)) (x := 59) p6.2.2.1 p6.2.2.2.1 rfl (by decide), n_bind, nI_1]
              by_cases e59 : tk_ t z p5 = 4 ∧ tv_ t z p5 = 59
              · have hp5z : p5 < z := tk_lt (t := t) (by omega)
                have hnx5 := nx_gt (t := t) hp5z
                obtain ⟨c7, r7, s1, s2, s3, s4, s5, s6, s7⟩ := mv_adv hF p6 hp5z n5
                rw [if_pos e59, if_pos e59, s1, n_bind, n_bind, if_neg n10, n_bind, if_neg n10, s2, n_bind]
                refine lres_tr (fcl_tr C06 (fcl_c s4)) (frl_tr L06 (frl_m (frm_r s5))) ?_
                refine ih (z - tn_ t z (tqe_ t z p5)) (by omega) c7 r7 _ n5 (l + 1) f g rfl s3 (cd_adv d6 s6 s7) (by omega) (by rw [s7.2 24 (by decide), u_ne1 (by decide)]; exact i6) ⟨by rw [s6.1 40 (by decide)]; exact ln6.1, fun j hj => ln1_c (ln6.2 j hj) (fun i _ => by rw [s6.1 41 (by decide)]) ⟨by rw [s7.1 68 (by decide) (by decide)], by rw [s7.1 69 (by decide) (by decide)], by rw [s7.1 70 (by decide) (by decide)], by rw [s7.1 71 (by decide) (by decide)]⟩ (fun i _ => by rw [s7.1 72 (by decide) (by decide), s7.1 73 (by decide) (by decide)]; exact ⟨rfl, rfl⟩) (Nat.le_refl _)⟩ (by omega) (by omega) (by omega)
              · obtain ⟨c', r', w1, w2, w3, w4⟩ := mv_ref (F := F) (y := 1) p6 n5
                rw [if_neg e59, if_neg e59, w1, n_bind, if_neg (by decide), n_bind, if_pos rfl, n_bind, c_62f (by omega), if_pos rfl, w2, n_bind]
                exact Or.inr ⟨c', r', rfl, rfl, w3.1, w3.2.1, fcl_tr C06 (fcl_c w3.2.2.1), frl_tr L06 (frl_m (frm_r w3.2.2.2))⟩
            by_cases e3 : tk_ t z p3 = 2 ∧ tv_ t z p3 = 3
            · have hp3z : p3 < z := tk_lt (t := t) (by omega)
              have hnx3 := nx_gt (t := t) hp3z
              obtain ⟨c4, r4, s1, s2, s3, s4, s5, s6, s7⟩ := mv_adv hF p4 hp3z n3
              rw [if_pos e3, if_neg n10, if_neg n10, s1, n_bind, s2, n_bind]
              rcases ls_any (F := F) hF s3 (cd_adv d4 s6 s7) (by omega) (by rw [s7.2 24 (by decide), u_ne1 (by decide), a6.1.2 24 (by decide), u_ne1 (by decide), b7.2 24 (by decide), u_ne1 (by decide)]; exact h24) with ⟨c5, r5, p5, n5, v1, v2, v3, v4, v5, v6, v7, v8, v9, v10, v11⟩ | ⟨c5, r5, v1, v2, v3⟩
              · have v1' : f_X3_readEither F 40 0 c4 = some (1, c5) := v1
                rw [v1', n_bind, if_neg n10, v2, n_bind, if_neg (show ¬ (0 : Int32) = -1 by decide), a4.1]
                exact fin c5 r5 p5 n5 v3 v4 (by omega) (by omega) v9 v5 (fcc_tr s4 v6) (frm_tr (frm_r s5) v7 (Nat.le_refl _)) (Or.inr v11)
              · have v1' : f_X3_readEither F 40 0 c4 = some (0, c5) := v1
                unfold f_X3_readLine_102
                rw [v1', n_bind, if_pos rfl, n_bind, if_pos rfl, n_bind, c_62f (by omega), v2, n_bind, if_pos rfl]
                exact Or.inr ⟨c5, r5, rfl, rfl, v3.1, v3.2.1, fcl_c (fcc_tr C03 (fcc_tr s4 v3.2.2.1)), frl_tr L04 (frl_tr (frl_m (frm_r s5)) (frl_m v3.2.2.2.1))⟩
            · rw [if_neg e3, if_pos rfl, if_pos rfl, a4.1]
              exact fin c3 _ p3 n3 p4 d4 (by omega) (by omega) (Nat.le_refl _) (by rw [u_ne1 (by decide), a6.1.2 24 (by decide), u_ne1 (by decide), b7.2 24 (by decide), u_ne1 (by decide)]; exact h24) fcc_rf frm_rf (Or.inl rfl)
          · unfold f_X3_readLine_102
            rw [a1, n_bind, if_pos rfl, n_bind, if_pos rfl, n_bind, c_62f (by omega), a2, n_bind, if_pos rfl]
            exact Or.inr ⟨c3, r3, rfl, rfl, a3.1.1, a3.1.2.1, fcl_c (fcc_tr b4 a3.1.2.2.1), frl_tr L01 (frl_m (frm_r a3.1.2.2.2))⟩
      · obtain ⟨c', r', w1, w2, w3, w4⟩ := mv_ref (F := F) (y := 1) h n
        have hml2 : ¬ r 60 12 = 0 := by
          rw [hr.2.2.1]
          exact fun e => h0 ((nI_eq (b := 0) (by have := tk_4 (t := t) (z := z) (p := p); omega) (by decide)).mp e)
        rw [if_neg hw, if_pos rfl, if_neg hml2, w2, n_bind]
        have hcr : f_X3_readLine_9 F 0 (nI l) 2 c = some (0, c') := by
          unfold f_X3_readLine_9 f_X3_readLine_26
          by_cases hk1 : c 38 11 = 1
          · obtain ⟨e1, e2⟩ := k1.mp hk1
            have hx := kx_0 hb.2.1 e1
            have h17 : tv_ t z p < 17 := by
              apply Classical.byContradiction
              intro hc
              rw [if_neg hc] at hx
              rw [k0_len] at e2
              omega
            rw [if_pos h17] at hx
            rw [if_pos hk1, (h.2.1.2.2.2.2.1 e1 e2).2, hx, if_neg (show ¬ nI (tv_ t z p) ≤ (2 : Int32) from nI_ge (a := 2) (by omega) (by omega)), w1, n_bind, if_neg (by decide)]
          · rw [if_neg hk1, w1, n_bind, if_neg (by decide)]
        rw [hcr, n_bind, c_62f (by omega)]
        exact Or.inr ⟨c', r', rfl, rfl, w3.1, w3.2.1, fcl_c w3.2.2.1, frl_m (frm_r w3.2.2.2)⟩
end LI
