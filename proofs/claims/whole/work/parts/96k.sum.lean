/-! text: sums -/
theorem ty_cat {o a : Nat → Int32} : ∀ (k i l : Nat) (s : List Nat), ty_run o a i (k + l) s = (ty_run o a i k s).bind (ty_run o a (i + k) l) := by
  intro k
  induction k with
  | zero => intro i l s; rw [Nat.zero_add, Nat.add_zero]; rfl
  | succ k ih =>
    intro i l s
    rw [show k + 1 + l = (k + l) + 1 by omega]
    show (ty_1 (o i) (a i) s).bind (ty_run o a (i + 1) (k + l)) = ((ty_1 (o i) (a i) s).bind (ty_run o a (i + 1) k)).bind (ty_run o a (i + (k + 1)) l)
    cases ty_1 (o i) (a i) s with
    | none => rfl
    | some s' =>
      show ty_run o a (i + 1) (k + l) s' = (ty_run o a (i + 1) k s').bind (ty_run o a (i + (k + 1)) l)
      rw [ih, show i + 1 + k = i + (k + 1) by omega]
def tyd_ (r : nd_Mem) (n m : Nat) (s : List Nat) : Option (List Nat) := ty_run (fun i => r 72 (800 + i)) (fun i => r 73 (800 + i)) n m s
section SU
variable {F z p n : Nat} {c r : nd_Mem} {t : Nat → Nat}
theorem tyd_cat {k l : Nat} {s s' : List Nat} (h : tyd_ r n k s = some s') : tyd_ r n (k + l) s = tyd_ r (n + k) l s' := by
  unfold tyd_ at h ⊢
  rw [ty_cat, h]
  rfl
theorem tyd_c {r' : nd_Mem} {m k : Nat} {s : List Nat} (h : frr_ m r r') (hm : n + k ≤ m) : tyd_ r' n k s = tyd_ r n k s := ty_run_c k n s (fun j _ h2 => h.2 (800 + j) (by omega))
theorem tyd_1 {s : List Nat} : tyd_ r n 1 s = ty_1 (r 72 (800 + n)) (r 73 (800 + n)) s := by
  show (ty_1 (r 72 (800 + n)) (r 73 (800 + n)) s).bind _ = _
  cases ty_1 (r 72 (800 + n)) (r 73 (800 + n)) s <;> rfl
/-- a code put down, and on to the next token -/
theorem un_ (hF : 300000 ≤ F) {k : Nat} (h : ps_k c r t z k p) (hd : cd_ c r n) (hp : p < z) (hn : n < 400) {x o a : Int32} (hx : iv_code x o a) : ∃ (y : Int32) (c1 c2 r1 r2 : nd_Mem), f_X4_add F 42 43 400 x c = some (y, c1) ∧ f_X3_advance F c1 = some (0, c2) ∧ f_X11_emits F o a r = some (0, r1) ∧ f_X11_reads F r1 = some (0, r2) ∧ ps_k c2 r2 t z k (tn_ t z (tqe_ t z p)) ∧ cd_ c2 r2 (n + 1) ∧ fcc_ c c2 ∧ frr_ n r r2 ∧ r2 72 (800 + n) = o ∧ r2 73 (800 + n) = a := by
  obtain ⟨y, c1, r1, a1, a2, a3, a4, a5, a6, a7, _, _⟩ := mv_emit (F := F) h hd hn hx
  obtain ⟨c2, r2, b1, b2, b3, b4, b5, b6, b7⟩ := mv_adv hF a3 hp (n + 1)
  refine ⟨y, c1, c2, r1, r2, a1, b1, a2, b2, b3, cd_adv a4 b6 b7, fcc_tr a5 b4, frr_tr a6 b5 (by omega), ?_, ?_⟩
  · rw [(b5.2 (800 + n) (by omega)).1]; exact a7.1
  · rw [(b5.2 (800 + n) (by omega)).2]; exact a7.2
theorem r_un3 (hr : rt_ r t z p) (hk : tk_ t z p = 3) : f_X11_readUnit F r = nd_bind (f_X11_emits F 0 (nI (tv_ t z p)) r) fun r1 σ2 => nd_bind (f_X11_reads F σ2) fun r4 σ5 => some (0, σ5) := by
  have h12 : r 60 12 = 3 := by rw [hr.2.2.1, hk]; rfl
  unfold f_X11_readUnit f_X11_readUnit_23 f_X11_readUnit_24 f_X11_readUnit_43 f_X11_readUnit_53 f_X11_readUnit_71
  rw [h12, if_neg (by decide), if_pos rfl, if_pos rfl, if_pos rfl, if_pos rfl, hr.2.2.2 (by omega)]
theorem r_un2 (hb : rb_ r t z) (hr : rt_ r t z p) (hk : tk_ t z p = 2) (h7 : 7 ≤ tv_ t z p) (h16 : tv_ t z p ≤ 16) : f_X11_readUnit F r = nd_bind (f_X11_emits F 1 (nI (tv_ t z p - 7)) r) fun r1 σ2 => nd_bind (f_X11_reads F σ2) fun r4 σ5 => some (0, σ5) := by
  have h12 : r 60 12 = 2 := by rw [hr.2.2.1, hk]; rfl
  unfold f_X11_readUnit f_X11_canAsk
  rw [h12, if_pos rfl, hr.2.2.2 (by omega), isN (la := (7 : Int32)) (lb := (16 : Int32)) (a := 7) (b := 16) rfl rfl (by omega) (by decide) (by decide), if_neg (by omega), n_bind, if_neg (by decide), n_bind, if_neg n10]
  unfold f_X11_readUnit_24 f_X11_readUnit_43 f_X11_readUnit_53 f_X11_readUnit_71
  rw [if_neg n10, if_neg n10, if_neg n10, hr.2.2.2 (by omega), show nI (tv_ t z p) - (7 : Int32) = nI (tv_ t z p - 7) from n_sub (b := 7) h7]
theorem r_un0 (hb : rb_ r t z) (hr : rt_ r t z p) (hk : tk_ t z p ≠ 3) (hn : ¬ (tk_ t z p = 2 ∧ 7 ≤ tv_ t z p ∧ tv_ t z p ≤ 16)) : f_X11_readUnit F r = nd_bind (f_X11_errs F 1 r) fun r1 σ2 => some (r1, σ2) := by
  have h4 := tk_4 (t := t) (z := z) (p := p)
  have h3 : ¬ r 60 12 = 3 := by
    rw [hr.2.2.1]
    exact fun e => hk ((nI_eq (b := 3) (by omega) (by decide)).mp e)
  unfold f_X11_readUnit f_X11_readUnit_23 f_X11_canAsk
  by_cases hk2 : tk_ t z p = 2
  · have hv := (tv_b hb.2.1 (show 2 ≤ tk_ t z p by omega)).1
    rw [if_pos (show r 60 12 = 2 by rw [hr.2.2.1, hk2]; rfl), hr.2.2.2 (by omega), isN (la := (7 : Int32)) (lb := (16 : Int32)) (a := 7) (b := 16) rfl rfl (by omega) (by decide) (by decide), if_pos (by omega), n_bind, if_neg (by decide), n_bind, if_pos rfl]
    unfold f_X11_readUnit_24
    rw [if_pos rfl, if_neg h3]
  · rw [if_neg (show ¬ r 60 12 = 2 by rw [hr.2.2.1]; exact fun e => hk2 ((nI_eq (b := 2) (by omega) (by decide)).mp e))]
    unfold f_X11_readUnit_24
    rw [if_pos rfl, if_neg h3]
/-- what the reference still has to do: behind a product, and of a product -/
def kP_ (F fs pl : Nat) (o : nd_Res) : nd_Res := nd_bind o fun r4 σ5 => if r4 = (-1 : Int32) then some ((-1 : Int32), σ5) else if pl = 0 then f_X11_readSum_10 F fs σ5 else nd_bind (f_X11_emits F (if pl = 43 then 2 else 3) (0 : Int32) σ5) fun r7 σ8 => f_X11_readSum_10 F fs σ8
def kO_ (F fp tm : Nat) (σ : nd_Mem) : nd_Res := if tm = 0 then f_X11_readProduct_10 F fp σ else nd_bind (f_X11_emits F (if tm = 42 then 4 else 5) (0 : Int32) σ) fun r1 σ2 => f_X11_readProduct_10 F fp σ2
def prT_ (F fp tm : Nat) (r : nd_Mem) : nd_Res := if tm = 0 then nd_bind (f_X11_readUnit F r) (fun r1 σ2 => if r1 = (-1 : Int32) then some ((-1 : Int32), σ2) else f_X11_readProduct_10 F fp σ2) else if tm = 47 then (if r 60 12 = (3 : Int32) then f_X11_readProduct_57 F (f_X11_readProduct_10 F fp) 0 r else nd_bind (f_X11_errs F (1 : Int32) r) fun r7 σ8 => some (r7, σ8)) else f_X11_readProduct_57 F (f_X11_readProduct_10 F fp) 1 r
theorem prT_u {fp tm : Nat} {r2 : nd_Mem} (htm : tm = 0 ∨ tm = 42 ∨ tm = 47) (hu : f_X11_readUnit F r = some (0, r2)) (h47 : tm = 47 → r 60 12 = 3 ∧ ¬ r 60 13 = 0) : prT_ F fp tm r = kO_ F fp tm r2 := by
  unfold prT_ kO_ f_X11_readProduct_57 f_X11_readProduct_74 f_X11_readProduct_94
  rcases htm with rfl | rfl | rfl
  · rw [if_pos rfl, if_pos rfl, hu, n_bind, if_neg (by decide)]
  · rw [if_neg (by decide), if_neg (by decide), if_neg n10, hu, n_bind, if_neg (by decide), if_neg n10, if_neg (by decide), if_pos rfl]
  · obtain ⟨a, b⟩ := h47 rfl
    rw [if_neg (by decide), if_pos rfl, if_pos a, if_pos rfl, if_neg b, hu, n_bind, if_neg (by decide), if_pos rfl, if_neg (by decide), if_neg (by decide)]
/-- the reference at a token that is no unit -/
theorem prT_0 {fp tm : Nat} (htm : tm = 0 ∨ tm = 42 ∨ tm = 47) (hb : rb_ r t z) (hr : rt_ r t z p) (hk : tk_ t z p ≠ 3) (hn : ¬ (tk_ t z p = 2 ∧ 7 ≤ tv_ t z p ∧ tv_ t z p ≤ 16 ∧ tm ≠ 47)) {r' : nd_Mem} (he : f_X11_errs F 1 r = some (-1, r')) : prT_ F fp tm r = some (-1, r') := by
  have h4 := tk_4 (t := t) (z := z) (p := p)
  have h3 : ¬ r 60 12 = 3 := by
    rw [hr.2.2.1]
    exact fun e => hk ((nI_eq (b := 3) (by omega) (by decide)).mp e)
  unfold prT_ f_X11_readProduct_57 f_X11_readProduct_74
  rcases htm with rfl | rfl | rfl
  · rw [if_pos rfl, r_un0 hb hr hk (fun e => hn ⟨e.1, e.2.1, e.2.2, by decide⟩), he, n_bind, n_bind, if_pos rfl]
  · rw [if_neg (by decide), if_neg (by decide), if_neg n10, r_un0 hb hr hk (fun e => hn ⟨e.1, e.2.1, e.2.2, by decide⟩), he, n_bind, n_bind, if_pos rfl]
  · rw [if_neg (by decide), if_pos rfl, if_neg h3, he, n_bind]
theorem kP_f {fs pl : Nat} {r' : nd_Mem} : kP_ F fs pl (some (-1, r')) = some (-1, r') := by
  unfold kP_
  rw [n_bind, if_pos rfl]
/-- the class at the head of its loop -/
theorem c_hd {rec6 : Int32 → Int32 → Int32 → nd_Mem → nd_Res} {x1 : Int32} {tm m : Nat} (htm : tm = 0 ∨ tm = 42 ∨ tm = 47) (hm : m < 400) (hb : cb_ c t z 0) (h : ctk_ c t z 0 p) : f_X3_readSum_6_b F rec6 x1 (nI tm) (nI m) c = if tk_ t z p = 3 then (if tm = 47 ∧ tv_ t z p = 0 then nd_bind (f_X3_refuse F 2 c) (fun r1 σ2 => if ¬ (r1 = 0 ∨ r1 = 1) then none else some (r1, σ2)) else f_X3_readSum_107 F rec6 x1 (nI tm) (nI m) (nI (tv_ t z p)) c) else if tk_ t z p = 2 ∧ 7 ≤ tv_ t z p ∧ tv_ t z p ≤ 16 ∧ tm ≠ 47 then f_X3_readSum_107 F rec6 x1 (nI tm) (nI m) (-100 - nI (tv_ t z p)) c else nd_bind (f_X3_refuse F 1 c) (fun r1 σ2 => if ¬ (r1 = 0 ∨ r1 = 1) then none else some (r1, σ2)) := by
  obtain ⟨_, k2, _, k1⟩ := ckd_ h
  have n47 : nI tm = (47 : Int32) ↔ tm = 47 := ⟨fun e => (nI_eq (b := 47) (by omega) (by decide)).mp e, fun e => by rw [e]; rfl⟩
  unfold f_X3_readSum_6_b f_X3_readSum_40 f_X3_readSum_41
  rw [if_neg (show ¬ (400 : Int32) ≤ nI m from nI_ge (b := 400) hm (by decide))]
  by_cases h3 : tk_ t z p = 3
  · have hv := (tv_b hb.2.1 (show 2 ≤ tk_ t z p by omega)).1
    have c2 := k2.mpr h3
    have c8 := (h.2.2.2.2.2.2.1 h3).2
    rw [if_pos h3, if_neg (show ¬ c 38 11 = 1 by rw [c2]; decide), if_pos c2]
    unfold f_X3_readSum_62 f_X3_readSum_81
    rw [c8, if_pos rfl]
    by_cases h47 : tm = 47
    · rw [if_pos (n47.mpr h47)]
      by_cases h0 : tv_ t z p = 0
      · rw [if_pos (show tm = 47 ∧ tv_ t z p = 0 from ⟨h47, h0⟩), if_pos (show nI (tv_ t z p) = (0 : Int32) by rw [h0]; rfl)]
      · rw [if_neg (show ¬ (tm = 47 ∧ tv_ t z p = 0) from fun e => h0 e.2), if_neg (show ¬ nI (tv_ t z p) = (0 : Int32) from fun e => h0 ((nI_eq (b := 0) (by omega) (by decide)).mp e))]
    · rw [if_neg (show ¬ nI tm = (47 : Int32) from fun e => h47 (n47.mp e)), if_neg (show ¬ (tm = 47 ∧ tv_ t z p = 0) from fun e => h47 e.1)]
  · rw [if_neg h3]
    have c2 : ¬ c 38 11 = 2 := fun e => h3 (k2.mp e)
    by_cases hw : tk_ t z p = 2 ∧ tv_ t z p < 17
    · have hx := kx_0 hb.2.1 hw.1
      rw [if_pos hw.2] at hx
      have hlt : kx_ t z 0 p < (kls_.getD 0 []).length := by rw [k0_len, hx]; exact hw.2
      obtain ⟨c7, c8⟩ := h.2.2.2.2.1 hw.1 hlt
      rw [hx] at c8
      rw [if_pos c7, c8]
      by_cases h7 : 7 ≤ tv_ t z p
      · rw [if_neg (show ¬ nI (tv_ t z p) < (7 : Int32) from nI_nlt (b := 7) h7 (by omega))]
        by_cases h47 : tm = 47
        · rw [if_pos (n47.mpr h47), if_neg c2, if_pos rfl, if_neg (fun e => e.2.2.2 h47)]
        · rw [if_neg (fun e => h47 (n47.mp e)), if_neg c2, if_neg n10, if_pos ⟨hw.1, h7, by omega, h47⟩]
          unfold f_X3_readSum_62 f_X3_readSum_81
          rw [if_neg (fun e => h47 (n47.mp e)), if_neg n10, c8]
      · rw [if_pos (show nI (tv_ t z p) < (7 : Int32) from nI_lt (b := 7) (by omega) (by decide)), if_neg c2, if_pos rfl, if_neg (fun e => h7 e.2.1)]
    · have c7 : ¬ c 38 11 = 1 := fun e => by
        obtain ⟨e1, e2⟩ := k1.mp e
        rw [k0_len, kx_0 hb.2.1 e1] at e2
        by_cases h17 : tv_ t z p < 17
        · exact hw ⟨e1, h17⟩
        · rw [if_neg h17] at e2; omega
      rw [if_neg c7, if_neg c2, if_pos rfl, if_neg (fun e => hw ⟨e.1, by omega⟩)]
end SU
