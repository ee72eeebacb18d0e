/-! the book; what the law tells -/
/-- the generation stays; in thought the book, too -/
def kg_ (r r' : nd_Mem) : Prop := r' 61 0 = r 61 0 ∧ (r 60 5 = 1 → r' 64 = r 64)
theorem kg_tr {r r' r'' : nd_Mem} (f : fm_ r r') (h1 : kg_ r r') (h2 : kg_ r' r'') : kg_ r r'' := ⟨h2.1.trans h1.1, fun e => (h2.2 (by rw [f.2 5 (by decide)]; exact e)).trans (h1.2 e)⟩
theorem kg_rf {r : nd_Mem} : kg_ r r := ⟨rfl, fun _ => rfl⟩
def ws_ (b a st sa n : Nat) (c r c' r' : nd_Mem) : Prop := wk_ b st sa n c' r' ∧ fc_ b a st sa c c' ∧ fm_ r r' ∧ c' b = c b ∧ r' 80 = r 80 ∧ kg_ r r'
theorem ws_rf {b a st sa n : Nat} {c r : nd_Mem} (H : wk_ b st sa n c r) : ws_ b a st sa n c r c r := ⟨H, fr_rf, fr_rf, rfl, rfl, kg_rf⟩
theorem ws_tr {b a st sa n : Nat} {c r c' r' c'' r'' : nd_Mem} (h1 : ws_ b a st sa n c r c' r') (h2 : ws_ b a st sa n c' r' c'' r'') : ws_ b a st sa n c r c'' r'' := ⟨h2.1, fr_t h1.2.1 h2.2.1, fr_t h1.2.2.1 h2.2.2.1, h2.2.2.2.1.trans h1.2.2.2.1, h2.2.2.2.2.1.trans h1.2.2.2.2.1, kg_tr h1.2.2.1 h1.2.2.2.2.2 h2.2.2.2.2.2⟩
theorem ws_cell {b a st sa n k k' : Nat} {c r : nd_Mem} {v v' : Int32} (hq : (b = 51 ∧ a = 52 ∧ st = 1 ∧ sa = 2) ∨ (b = 55 ∧ a = 56 ∧ st = 53 ∧ sa = 54)) (H : wk_ b st sa n (nd_up c sa k v) (nd_up r 61 k' v')) (hk : 0 ≠ k') : ws_ b a st sa n c r (nd_up c sa k v) (nd_up r 61 k' v') := ⟨H, fc_sa hq, fm_up (by decide), nd_up_ne (by omega), nd_up_ne (by decide), u_ne2 hk, fun _ => nd_up_ne (by decide)⟩
theorem ws_field {b a st sa n k k' : Nat} {c r : nd_Mem} {v v' : Int32} (hq : (b = 51 ∧ a = 52 ∧ st = 1 ∧ sa = 2) ∨ (b = 55 ∧ a = 56 ∧ st = 53 ∧ sa = 54)) (H : wk_ b st sa n (nd_up c st k v) (nd_up r 61 k' v')) (hk : 0 ≠ k') : ws_ b a st sa n c r (nd_up c st k v) (nd_up r 61 k' v') := ⟨H, fc_st hq, fm_up (by decide), nd_up_ne (by omega), nd_up_ne (by decide), u_ne2 hk, fun _ => nd_up_ne (by decide)⟩
theorem upd_cg {g h : Nat → Int32} {k i : Nat} {v : Int32} (e : g i = h i) : upd g k v i = upd h k v i := by
  by_cases hk : i = k
  · subst hk
    rw [upd_eq, upd_eq]
  · rw [upd_ne hk, upd_ne hk, e]
theorem i32_rng {v : Int32} {m : Nat} (hm : m < 2147483648) (h0 : 0 ≤ v) (h1 : v ≤ nI m) : ∃ k : Nat, k ≤ m ∧ v = nI k := rng2 m hm ⟨h0, h1⟩
theorem n_let_ {x : nd_Mem} {k : nd_Mem → nd_Res} : nd_let x k = k x := rfl
section AK
variable {F b a st sa n h : Nat} {c r : nd_Mem}
theorem e_note (x1 x2 x3 : Int32) (hq : (b = 51 ∧ a = 52 ∧ st = 1 ∧ sa = 2) ∨ (b = 55 ∧ a = 56 ∧ st = 53 ∧ sa = 54)) (H : wk_ b st sa n c r) : ∃ c' r' : nd_Mem, f_X9_note F b a st sa x1 x2 x3 c = some (0, c') ∧ f_X11_notes F x1 x2 x3 r = some (0, r') ∧ ws_ b a st sa n c r c' r' := by
  obtain ⟨s1, s3, s4, s5, s6, s7, s8, s9, s10, s11, s12⟩ := H.2.1
  rcases H.2.2.2.2.2.2.2 with ⟨t1, t2⟩ | ⟨t1, t2⟩
  · obtain ⟨l, hl, el⟩ := i32_rng (m := 150) (by decide) s9.1 s9.2
    have k0 : ((0 : Int32)).toNatClampNeg = 0 := by decide
    have k2 : ((2 : Int32)).toNatClampNeg = 2 := by decide
    by_cases h150 : l = 150
    · subst h150
      refine ⟨c, r, ?_, ?_, ws_rf H⟩
      · unfold f_X9_note
        rw [if_pos t1, s8, el, if_neg (by decide), if_neg (by decide)]
      · unfold f_X11_notes
        rw [if_pos t2, if_neg (by decide), k2, if_pos (show r 61 2 = 150 from el)]
    · have e4 : nI l * (4 : Int32) = nI (4 * l) := by rw [show (4 : Int32) = nI 4 from rfl, n_mul, Nat.mul_comm]
      have e4' : (4 : Int32) * nI l = nI (4 * l) := by rw [show (4 : Int32) = nI 4 from rfl, n_mul]
      have e5 : ∀ j : Nat, nI (4 * l) + nI j = nI (4 * l + j) := fun j => n_add _ _
      have q1 : nI (4 * l) + (1 : Int32) = nI (4 * l + 1) := e5 1
      have q2 : nI (4 * l) + (2 : Int32) = nI (4 * l + 2) := e5 2
      have q3 : nI (4 * l) + (3 : Int32) = nI (4 * l + 3) := e5 3
      have n150 : ¬ nI l = (150 : Int32) := fun e => h150 ((nI_eq (b := 150) (by omega) (by decide)).mp e)
      refine ⟨nd_up (nd_up (nd_up (nd_up (nd_up c 11 (4 * l) (c st 6)) 11 (4 * l + 1) x1) 11 (4 * l + 2) x2) 11 (4 * l + 3) x3) st 8 (nI (l + 1)), nd_up (nd_up (nd_up (nd_up (nd_up r 64 (4 * l) (r 61 0)) 64 (4 * l + 1) x1) 64 (4 * l + 2) x2) 64 (4 * l + 3) x3) 61 2 (nI (l + 1)), ?_, ?_, ?_⟩
      · unfold f_X9_note
        rw [if_pos t1, s8, el, if_neg (nI_pos (by omega)), if_pos (show nI l < (150 : Int32) from nI_lt (b := 150) (by omega) (by decide)), e4, if_neg (nI_in (by omega) (by decide)), nI_clamp (by omega), n_let_, q1, if_neg (nI_in (by omega) (by decide)), nI_clamp (by omega), n_let_, q2, if_neg (nI_in (by omega) (by decide)), nI_clamp (by omega), n_let_, q3, if_neg (nI_in (by omega) (by decide)), nI_clamp (by omega), n_let_, n_let_, u_ne1 (by omega), u_ne1 (by omega), u_ne1 (by omega), u_ne1 (by omega), s8, el, nI_1]
      · unfold f_X11_notes
        rw [if_pos t2, if_neg (by decide), k2, el, if_neg n150, if_neg (by decide), if_neg (by decide), k0, e4', if_neg (nI_in (by omega) (by decide)), nI_clamp (by omega), n_let_, q1, if_neg (nI_in (by omega) (by decide)), nI_clamp (by omega), n_let_, q2, if_neg (nI_in (by omega) (by decide)), nI_clamp (by omega), n_let_, q3, if_neg (nI_in (by omega) (by decide)), nI_clamp (by omega), n_let_, if_neg (by decide), if_neg (by decide), n_let_, u_ne1 (by omega), u_ne1 (by omega), u_ne1 (by omega), u_ne1 (by omega), el, nI_1]
      · have f1 : fc_ b a st sa c (nd_up (nd_up (nd_up (nd_up (nd_up c 11 (4 * l) (c st 6)) 11 (4 * l + 1) x1) 11 (4 * l + 2) x2) 11 (4 * l + 3) x3) st 8 (nI (l + 1))) := fr_t (fr_t (fr_t (fr_t (fc_11 hq) (fc_11 hq)) (fc_11 hq)) (fc_11 hq)) (fc_st hq)
        have f2 : fm_ r (nd_up (nd_up (nd_up (nd_up (nd_up r 64 (4 * l) (r 61 0)) 64 (4 * l + 1) x1) 64 (4 * l + 2) x2) 64 (4 * l + 3) x3) 61 2 (nI (l + 1))) := fr_t (fr_t (fr_t (fr_t (fm_up (by decide)) (fm_up (by decide))) (fm_up (by decide))) (fm_up (by decide))) (fm_up (by decide))
        refine ⟨wk_mk hq H f1 f2 ?_ ?_ ?_, f1, f2, ?_, rfl, rfl, fun e => absurd (t2.symm.trans e) (by decide)⟩
        · rw [nd_up_at, nd_up_at, nd_up_ne (show sa ≠ st by omega), nd_up_ne (show st ≠ 11 by omega), nd_up_ne (show st ≠ 11 by omega), nd_up_ne (show st ≠ 11 by omega), nd_up_ne (show st ≠ 11 by omega), nd_up_ne (show sa ≠ 11 by omega), nd_up_ne (show sa ≠ 11 by omega), nd_up_ne (show sa ≠ 11 by omega), nd_up_ne (show sa ≠ 11 by omega), nd_up_ne (show 61 ≠ 64 by decide), nd_up_ne (show 61 ≠ 64 by decide), nd_up_ne (show 61 ≠ 64 by decide), nd_up_ne (show 61 ≠ 64 by decide)]
          exact S_lines H.1.1 H.2.1 (nI_pos' (by omega)) (show nI (l + 1) ≤ nI 150 from nI_le (by omega) (by decide))
        · rw [nd_up_ne (show b ≠ st by omega), nd_up_ne (show b ≠ 11 by omega), nd_up_ne (show b ≠ 11 by omega), nd_up_ne (show b ≠ 11 by omega), nd_up_ne (show b ≠ 11 by omega)]
        · intro hq8 i hi
          rw [nd_up_ne (show 11 ≠ st by omega), nd_up_at, nd_up_at, nd_up_at, nd_up_at, nd_up_ne (show 64 ≠ 61 by decide), nd_up_at, nd_up_at, nd_up_at, nd_up_at, s6]
          exact upd_cg (upd_cg (upd_cg (upd_cg (hq8 i hi))))
        · rw [nd_up_ne (show b ≠ st by omega), nd_up_ne (show b ≠ 11 by omega), nd_up_ne (show b ≠ 11 by omega), nd_up_ne (show b ≠ 11 by omega), nd_up_ne (show b ≠ 11 by omega)]
  · refine ⟨c, r, ?_, ?_, ws_rf H⟩
    · unfold f_X9_note
      rw [t1, if_neg (by decide)]
    · unfold f_X11_notes
      rw [t2, if_neg (by decide)]
def as_ (r : nd_Mem) (h : Nat) : Nat → Int32 := upd (upd (upd (upd (upd (upd (upd (upd (upd (upd (r 78) 0 (r 61 (7 + h))) 1 (r 61 (23 + h))) 2 (r 61 (39 + h))) 3 (r 61 (55 + h))) 4 (r 61 (87 + h))) 5 (nI h)) 6 (r 77 h)) 7 (if r 61 6 = nI h then 1 else 0)) 8 (r 61 4)) 9 (r 61 0)
theorem e_asks (hh : h < 16) : f_X11_asks F (nI h) r = some (0, nd_row r 78 (as_ r h)) := by
  have g58 : ∀ (τ : nd_Mem) (k : Nat) (v : Int32), nd_up τ 78 k v 61 = τ 61 := fun τ k v => nd_up_ne (by decide)
  have g74 : ∀ (τ : nd_Mem) (k : Nat) (v : Int32), nd_up τ 78 k v 77 = τ 77 := fun τ k v => nd_up_ne (by decide)
  have j7 : (7 : Int32) + nI h = nI (7 + h) := n_add 7 h
  have j23 : (23 : Int32) + nI h = nI (23 + h) := n_add 23 h
  have j39 : (39 : Int32) + nI h = nI (39 + h) := n_add 39 h
  have j55 : (55 : Int32) + nI h = nI (55 + h) := n_add 55 h
  have j87 : (87 : Int32) + nI h = nI (87 + h) := n_add 87 h
  have z0 : ((0 : Int32)).toNatClampNeg = 0 := by decide
  have z1 : ((1 : Int32)).toNatClampNeg = 1 := by decide
  have z2 : ((2 : Int32)).toNatClampNeg = 2 := by decide
  have z3 : ((3 : Int32)).toNatClampNeg = 3 := by decide
  have z4 : ((4 : Int32)).toNatClampNeg = 4 := by decide
  have z5 : ((5 : Int32)).toNatClampNeg = 5 := by decide
  have z6 : ((6 : Int32)).toNatClampNeg = 6 := by decide
  have z7 : ((7 : Int32)).toNatClampNeg = 7 := by decide
  have z8 : ((8 : Int32)).toNatClampNeg = 8 := by decide
  have z9 : ((9 : Int32)).toNatClampNeg = 9 := by decide
  unfold f_X11_asks
  rw [j7, if_neg (nI_in (by omega) (by decide)), if_neg (by decide), nI_clamp (by omega), z0, n_let_]
  rw [j23, if_neg (nI_in (by omega) (by decide)), if_neg (by decide), nI_clamp (by omega), z1, n_let_, g58]
  rw [j39, if_neg (nI_in (by omega) (by decide)), if_neg (by decide), nI_clamp (by omega), z2, n_let_, g58, g58]
  rw [j55, if_neg (nI_in (by omega) (by decide)), if_neg (by decide), nI_clamp (by omega), z3, n_let_, g58, g58, g58]
  rw [j87, if_neg (nI_in (by omega) (by decide)), if_neg (by decide), nI_clamp (by omega), z4, n_let_, g58, g58, g58, g58]
  rw [if_neg (by decide), z5, n_let_, if_neg (nI_in (by omega) (by decide)), if_neg (by decide), nI_clamp (by omega), z6, n_let_, g74, g74, g74, g74, g74, g74, if_neg (by decide)]
  unfold f_X11_asks_117
  simp only [g58, g74]
  by_cases hj : r 61 6 = nI h
  · rw [if_pos hj, if_neg (by decide), z7, n_let_, if_neg (by decide), if_neg (by decide), z4, z8, n_let_, if_neg (by decide), if_neg (by decide), z0, z9, n_let_]
    simp only [g58]
    simp only [up_is, row_row, nd_row_at]
    unfold as_
    rw [if_pos hj]
  · rw [if_neg hj, if_neg (by decide), z7, n_let_, if_neg (by decide), if_neg (by decide), z4, z8, n_let_, if_neg (by decide), if_neg (by decide), z0, z9, n_let_]
    simp only [g58]
    simp only [up_is, row_row, nd_row_at]
    unfold as_
    rw [if_neg hj]
theorem e_named (hq : (b = 51 ∧ a = 52 ∧ st = 1 ∧ sa = 2) ∨ (b = 55 ∧ a = 56 ∧ st = 53 ∧ sa = 54)) (H : wk_ b st sa n c r) (hh : h < n) {j : Nat} (hj : j < 10) : f_X9_named F b a st sa (nI (7 + j)) (nI h) c = some (as_ r h j, c) := by
  have h16 := H.1.1
  have h1 : c st 1 = nI n := H.2.1.1
  obtain ⟨s1, s3, s4, s5, s6, s7, s8, s9, s10, s11, s12⟩ := H.2.1
  obtain ⟨⟨g1, _⟩, ⟨g2, _⟩, ⟨g3, _⟩, ⟨g4, _⟩, ⟨g5, _⟩, _⟩ := s12 h hh
  unfold f_X9_named
  have hj : j = 0 ∨ j = 1 ∨ j = 2 ∨ j = 3 ∨ j = 4 ∨ j = 5 ∨ j = 6 ∨ j = 7 ∨ j = 8 ∨ j = 9 := by omega
  rcases hj with rfl | rfl | rfl | rfl | rfl | rfl | rfl | rfl | rfl | rfl
  · rw [if_pos (by decide), e_get0 h1 hh h16, n_bind, g1]; rfl
  · rw [if_neg (by decide), if_pos (by decide), e_get1 h1 hh h16, n_bind, g2]; rfl
  · rw [if_neg (by decide), if_neg (by decide), if_pos (by decide), e_get3 h1 hh h16, n_bind, g4]; rfl
  · rw [if_neg (by decide), if_neg (by decide), if_neg (by decide), if_pos (by decide), e_get2 h1 hh h16, n_bind, g3]; rfl
  · rw [if_neg (by decide), if_neg (by decide), if_neg (by decide), if_neg (by decide), if_pos (by decide), e_get4 h1 hh h16, n_bind, g5]; rfl
  · rw [if_neg (by decide), if_neg (by decide), if_neg (by decide), if_neg (by decide), if_neg (by decide), if_pos (by decide)]; rfl
  · rw [if_neg (by decide), if_neg (by decide), if_neg (by decide), if_neg (by decide), if_neg (by decide), if_neg (by decide), if_pos (by decide), e_side H.2.2.2.2.2.1 (by omega), n_bind]; rfl
  · rw [if_neg (by decide), if_neg (by decide), if_neg (by decide), if_neg (by decide), if_neg (by decide), if_neg (by decide), if_neg (by decide), if_pos (by decide), s11 (by omega)]
    show _ = some (if r 61 6 = nI h then 1 else 0, c)
    by_cases hj : r 61 6 = nI h
    · rw [if_pos hj, if_pos hj]
    · rw [if_neg hj, if_neg hj]
  · rw [if_neg (by decide), if_neg (by decide), if_neg (by decide), if_neg (by decide), if_neg (by decide), if_neg (by decide), if_neg (by decide), if_neg (by decide), if_pos (by decide), s4]; rfl
  · rw [if_neg (by decide), if_neg (by decide), if_neg (by decide), if_neg (by decide), if_neg (by decide), if_neg (by decide), if_neg (by decide), if_neg (by decide), if_neg (by decide), s6]; rfl
end AK
/-! the stack -/
def sk_ (g : Nat → Int32) : List Nat → Prop
  | [] => True
  | x :: t => (x = 1 → g t.length = 0 ∨ g t.length = 1) ∧ (x = 2 → g t.length ≠ 0) ∧ sk_ g t
theorem sk_up {g : Nat → Int32} {k : Nat} {v : Int32} : ∀ t : List Nat, t.length ≤ k → sk_ g t → sk_ (upd g k v) t := by
  intro t
  induction t with
  | nil => intro _ _; trivial
  | cons x t ih =>
    intro hk h
    have hl : t.length < k := by
      have : t.length + 1 ≤ k := by simpa using hk
      omega
    refine ⟨?_, ?_, ih (by omega) h.2.2⟩
    · rw [upd_ne (by omega)]; exact h.1
    · rw [upd_ne (by omega)]; exact h.2.1
theorem nn_in {i N : Nat} (h : i < N) (h2 : i < 2147483648) : ¬ (nI i < 0 ∨ N ≤ i) := fun e => e.elim (fun e => nI_pos h2 e) (fun e => by omega)
section RK
variable {F b a st sa h e i t f : Nat} {c r : nd_Mem} {g : Nat → Int32} {C : Nat}
theorem at_ (hq : (b = 51 ∧ a = 52 ∧ st = 1 ∧ sa = 2) ∨ (b = 55 ∧ a = 56 ∧ st = 53 ∧ sa = 54)) (h6 : c 6 1 = nI C) (hC : C ≤ 400) (hi : i < C) : f_X4_at F 6 7 400 (nI i) (nd_row c a g) = some (c 7 i, nd_row c a g) := by
  rw [e_at (n := C) (by rw [w_ne (by omega)]; exact h6) hi hC (by decide), w_ne (by omega)]
theorem cs_num (hq : (b = 51 ∧ a = 52 ∧ st = 1 ∧ sa = 2) ∨ (b = 55 ∧ a = 56 ∧ st = 53 ∧ sa = 54)) (h6 : c 6 1 = nI C) (hC : C ≤ 400) (hi : i < C) (hie : i < e) (he : e ≤ C) (ht : t < 48) (hp : 0 ≤ c 7 i) : f_X9_reckon_6 F b a st sa (f + 1) (nI e) (nI h) (nI t) (nI i) (nd_row c a g) = f_X9_reckon_6 F b a st sa f (nI e) (nI h) (nI (t + 1)) (nI (i + 1)) (nd_row c a (upd g t (c 7 i))) := by
  show f_X9_reckon_6_b F (f_X9_reckon_6 F b a st sa f) b a st sa _ _ _ _ _ = _
  unfold f_X9_reckon_6_b f_X9_reckon_38 f_X9_reckon_43 f_X9_reckon_83 f_X9_reckon_170 nd_let
  rw [if_neg (nI_ge hie (by omega)), at_ hq h6 hC hi, n_bind, if_pos hp, if_neg (by decide), if_neg (show ¬ (48 : Int32) ≤ nI t from nI_ge (b := 48) ht (by decide)), if_neg (Int32.not_lt.mpr hp), if_neg (nI_in ht (by decide)), nI_clamp (by omega), up_row, nI_1, nI_1]
theorem cs_ask (hq : (b = 51 ∧ a = 52 ∧ st = 1 ∧ sa = 2) ∨ (b = 55 ∧ a = 56 ∧ st = 53 ∧ sa = 54)) (h6 : c 6 1 = nI C) (hC : C ≤ 400) (hi : i < C) (hie : i < e) (he : e ≤ C) (ht : t < 48) {j : Nat} {v : Int32} (hj : j < 10) (hp : c 7 i = -100 - nI (7 + j)) (hn : f_X9_named F b a st sa (nI (7 + j)) (nI h) (nd_row c a g) = some (v, nd_row c a g)) : f_X9_reckon_6 F b a st sa (f + 1) (nI e) (nI h) (nI t) (nI i) (nd_row c a g) = f_X9_reckon_6 F b a st sa f (nI e) (nI h) (nI (t + 1)) (nI (i + 1)) (nd_row c a (upd g t v)) := by
  have d1 : ∀ j : Fin 10, ¬ 0 ≤ (-100 : Int32) - nI (7 + j.val) ∧ ¬ (-100 : Int32) < -100 - nI (7 + j.val) ∧ (-100 : Int32) - nI (7 + j.val) < 0 ∧ (-100 : Int32) - (-100 - nI (7 + j.val)) = nI (7 + j.val) := by decide
  obtain ⟨d2, d3, d4, d5⟩ := d1 ⟨j, hj⟩
  dsimp only at d2 d3 d4 d5
  show f_X9_reckon_6_b F (f_X9_reckon_6 F b a st sa f) b a st sa _ _ _ _ _ = _
  unfold f_X9_reckon_6_b f_X9_reckon_38 f_X9_reckon_43 f_X9_reckon_83 f_X9_reckon_170 nd_let
  rw [if_neg (nI_ge hie (by omega)), at_ hq h6 hC hi, n_bind, hp, if_neg d2, if_neg d3, if_neg (by decide), if_neg (show ¬ (48 : Int32) ≤ nI t from nI_ge (b := 48) ht (by decide)), if_pos d4, d5, hn, n_bind, if_neg (nI_in ht (by decide)), nI_clamp (by omega), up_row, nI_1, nI_1]
theorem cs_not (hq : (b = 51 ∧ a = 52 ∧ st = 1 ∧ sa = 2) ∨ (b = 55 ∧ a = 56 ∧ st = 53 ∧ sa = 54)) (h6 : c 6 1 = nI C) (hC : C ≤ 400) (hi : i < C) (hie : i < e) (he : e ≤ C) (ht : t < 48) (hp : c 7 i = -2) : f_X9_reckon_6 F b a st sa (f + 1) (nI e) (nI h) (nI (t + 1)) (nI i) (nd_row c a g) = f_X9_reckon_6 F b a st sa f (nI e) (nI h) (nI (t + 1)) (nI (i + 1)) (nd_row c a (upd g t (1 - g t))) := by
  show f_X9_reckon_6_b F (f_X9_reckon_6 F b a st sa f) b a st sa _ _ _ _ _ = _
  unfold f_X9_reckon_6_b f_X9_reckon_43 f_X9_reckon_90 f_X9_reckon_170 nd_let
  rw [if_neg (nI_ge hie (by omega)), at_ hq h6 hC hi, n_bind, hp, if_neg (by decide), if_pos (by decide), if_pos rfl, if_pos rfl, if_neg (show ¬ nI (t + 1) < (1 : Int32) from nI_nlt (b := 1) (by omega) (by omega)), nI_pred, if_neg (nI_in ht (by decide)), if_neg (nI_in ht (by decide)), nI_clamp (by omega), w_eq, up_row, nI_1]
theorem cs_bin (hq : (b = 51 ∧ a = 52 ∧ st = 1 ∧ sa = 2) ∨ (b = 55 ∧ a = 56 ∧ st = 53 ∧ sa = 54)) (h6 : c 6 1 = nI C) (hC : C ≤ 400) (hi : i < C) (hie : i < e) (he : e ≤ C) (ht : t + 1 < 48) {cd z : Int32} (hp : c 7 i = cd) (k1 : ¬ 0 ≤ cd) (k2 : -100 < cd) (k3 : ¬ cd = -2) (hz : f_X9_joined F cd (g t) (g (t + 1)) (nd_row c a g) = some (z, nd_row c a g)) : f_X9_reckon_6 F b a st sa (f + 1) (nI e) (nI h) (nI (t + 1 + 1)) (nI i) (nd_row c a g) = f_X9_reckon_6 F b a st sa f (nI e) (nI h) (nI (t + 1)) (nI (i + 1)) (nd_row c a (upd g t z)) := by
  show f_X9_reckon_6_b F (f_X9_reckon_6 F b a st sa f) b a st sa _ _ _ _ _ = _
  unfold f_X9_reckon_6_b f_X9_reckon_43 f_X9_reckon_90 f_X9_reckon_126 f_X9_reckon_170 nd_let
  rw [if_neg (nI_ge hie (by omega)), at_ hq h6 hC hi, n_bind, hp, if_neg k1, if_pos k2, if_pos rfl, if_neg k3, if_pos rfl, if_neg (show ¬ nI (t + 1 + 1) < (2 : Int32) from nI_nlt (b := 2) (by omega) (by omega)), nI_down, nI_pred, if_neg (nI_in (by omega) (by decide)), if_neg (nI_in (by omega) (by decide)), nI_clamp (by omega), nI_clamp (by omega), w_eq, w_eq, hz, n_bind, if_neg (nn_in (by omega) (by omega)), up_row, nI_1]
theorem cs_end (hq : (b = 51 ∧ a = 52 ∧ st = 1 ∧ sa = 2) ∨ (b = 55 ∧ a = 56 ∧ st = 53 ∧ sa = 54)) (hei : e ≤ i) (hi : i < 2147483648) : f_X9_reckon_6 F b a st sa (f + 1) (nI e) (nI h) (nI t) (nI i) (nd_row c a g) = some (g 0, nd_row c a g) := by
  show f_X9_reckon_6_b F (f_X9_reckon_6 F b a st sa f) b a st sa _ _ _ _ _ = _
  unfold f_X9_reckon_6_b
  rw [if_pos (nI_le hei (by omega)), if_neg (by decide), show ((0 : Int32)).toNatClampNeg = 0 by decide, w_eq]
theorem ms_lim (e : Nat) : (400 : Int32) * 0 + nI e = nI e := by
  rw [show (400 : Int32) * 0 = 0 by decide]
  grind
theorem ms_num (hi : i < 400) (hie : i < e) (he : e ≤ 400) (ht : t < 48) (ho : r 72 i = 0) : f_X11_runs_12 F (f + 1) 0 (nI e) (nI t) (nI i) (nd_row r 79 g) = f_X11_runs_12 F f 0 (nI e) (nI (t + 1)) (nI (i + 1)) (nd_row r 79 (upd g t (r 73 i))) := by
  show f_X11_runs_12_b F (f_X11_runs_12 F f) _ _ _ _ _ = _
  unfold f_X11_runs_12_b f_X11_runs_45 f_X11_runs_83 f_X11_runs_170
  rw [ms_lim, if_neg (nI_ge hie (by omega)), if_neg (nI_in (by omega) (by decide)), nI_clamp (by omega), w_ne (by decide), ho, if_pos rfl, if_neg (nn_in (by omega) (by omega)), if_pos rfl, if_neg (nn_in (by omega) (by omega)), w_ne (by decide), if_neg (nI_in (by omega) (by decide)), nI_clamp (by omega), n_let_, up_row, nI_1, nI_1]
theorem ms_ask (hi : i < 400) (hie : i < e) (he : e ≤ 400) (ht : t < 48) (ho : r 72 i = 1) {j : Nat} (hj : j < 10) (hp : r 73 i = nI j) : f_X11_runs_12 F (f + 1) 0 (nI e) (nI t) (nI i) (nd_row r 79 g) = f_X11_runs_12 F f 0 (nI e) (nI (t + 1)) (nI (i + 1)) (nd_row r 79 (upd g t (r 78 j))) := by
  show f_X11_runs_12_b F (f_X11_runs_12 F f) _ _ _ _ _ = _
  unfold f_X11_runs_12_b f_X11_runs_45 f_X11_runs_83 f_X11_runs_170
  rw [ms_lim, if_neg (nI_ge hie (by omega)), if_neg (nI_in (by omega) (by decide)), nI_clamp (by omega), w_ne (by decide), ho, if_neg (by decide), if_neg (nn_in (by omega) (by omega)), if_pos rfl, if_neg (nn_in (by omega) (by omega)), if_neg (by decide), if_neg (nn_in (by omega) (by omega)), w_ne (by decide), hp, if_neg (nI_in (by omega) (by decide)), nI_clamp (n := j) (by omega), w_ne (by decide), if_neg (nI_in (by omega) (by decide)), nI_clamp (by omega), n_let_, up_row, nI_1, nI_1]
theorem ms_not (hi : i < 400) (hie : i < e) (he : e ≤ 400) (ht : t < 48) (ho : r 72 i = 9) : f_X11_runs_12 F (f + 1) 0 (nI e) (nI (t + 1)) (nI i) (nd_row r 79 g) = f_X11_runs_12 F f 0 (nI e) (nI (t + 1)) (nI (i + 1)) (nd_row r 79 (upd g t (1 - g t))) := by
  show f_X11_runs_12_b F (f_X11_runs_12 F f) _ _ _ _ _ = _
  unfold f_X11_runs_12_b f_X11_runs_170
  rw [ms_lim, if_neg (nI_ge hie (by omega)), if_neg (nI_in (by omega) (by decide)), nI_clamp (by omega), w_ne (by decide), ho, if_neg (by decide), if_neg (nn_in (by omega) (by omega)), if_neg (by decide), if_neg (nn_in (by omega) (by omega)), if_pos rfl, nI_pred, if_neg (nI_in (by omega) (by decide)), if_neg (nI_in (by omega) (by decide)), nI_clamp (by omega), n_let_, w_eq, up_row, nI_1]
theorem ms_bin (hi : i < 400) (hie : i < e) (he : e ≤ 400) (ht : t + 1 < 48) {o z : Int32} (ho : r 72 i = o) (k0 : ¬ o = 0) (k1 : ¬ o = 1) (k9 : ¬ o = 9) (hz : f_X11_twoOf F o (g t) (g (t + 1)) (nd_row r 79 g) = some (z, nd_row r 79 g)) : f_X11_runs_12 F (f + 1) 0 (nI e) (nI (t + 1 + 1)) (nI i) (nd_row r 79 g) = f_X11_runs_12 F f 0 (nI e) (nI (t + 1)) (nI (i + 1)) (nd_row r 79 (upd g t z)) := by
  show f_X11_runs_12_b F (f_X11_runs_12 F f) _ _ _ _ _ = _
  unfold f_X11_runs_12_b f_X11_runs_170
  rw [ms_lim, if_neg (nI_ge hie (by omega)), if_neg (nI_in (by omega) (by decide)), nI_clamp (by omega), w_ne (by decide), ho, if_neg k0, if_neg (nn_in (by omega) (by omega)), if_neg k1, if_neg (nn_in (by omega) (by omega)), if_neg k9, if_neg (nn_in (by omega) (by omega)), nI_pred, nI_pred, if_neg (nI_in (by omega) (by decide)), if_neg (nI_in (by omega) (by decide)), nI_clamp (by omega), nI_clamp (by omega), w_eq, w_eq, hz, n_bind, if_neg (nn_in (by omega) (by omega)), n_let_, up_row, nI_1]
theorem ms_end (hei : e ≤ i) (hi : i < 2147483648) : f_X11_runs_12 F (f + 1) 0 (nI e) (nI t) (nI i) (nd_row r 79 g) = some (g 0, nd_row r 79 g) := by
  show f_X11_runs_12_b F (f_X11_runs_12 F f) _ _ _ _ _ = _
  unfold f_X11_runs_12_b
  rw [ms_lim, if_pos (nI_le hei (by omega)), if_neg (by decide), show ((0 : Int32)).toNatClampNeg = 0 by decide, w_eq]
end RK
