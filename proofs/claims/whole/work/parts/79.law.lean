/-! what the law tells: both machines alike -/
theorem jn_add {F : Nat} {x y : Int32} {σ τ : nd_Mem} : f_X9_joined F (-43) x y σ = some (x + y, σ) ∧ f_X11_twoOf F 2 x y τ = some (x + y, τ) := ⟨rfl, rfl⟩
theorem jn_sub {F : Nat} {x y : Int32} {σ τ : nd_Mem} : f_X9_joined F (-45) x y σ = some (x - y, σ) ∧ f_X11_twoOf F 3 x y τ = some (x - y, τ) := ⟨rfl, rfl⟩
theorem jn_mul {F : Nat} {x y : Int32} {σ τ : nd_Mem} : f_X9_joined F (-42) x y σ = some (x * y, σ) ∧ f_X11_twoOf F 4 x y τ = some (x * y, τ) := ⟨rfl, rfl⟩
theorem jn_div {F : Nat} {x y : Int32} {σ τ : nd_Mem} (h : y ≠ 0) : f_X9_joined F (-47) x y σ = some (x / y, σ) ∧ f_X11_twoOf F 5 x y τ = some (x / y, τ) := by
  refine ⟨?_, ?_⟩
  · show (if y = 0 then some ((0 : Int32), σ) else if y = 0 then none else some (x / y, σ)) = _
    rw [if_neg h, if_neg h]
  · show (if y = 0 then none else some (x / y, τ)) = _
    rw [if_neg h]
theorem jn_lt {F : Nat} {x y : Int32} : ∃ z : Int32, (z = 0 ∨ z = 1) ∧ ∀ σ τ : nd_Mem, f_X9_joined F (-60) x y σ = some (z, σ) ∧ f_X11_twoOf F 6 x y τ = some (z, τ) := by
  by_cases h : y ≤ x
  · refine ⟨0, Or.inl rfl, fun σ τ => ⟨?_, ?_⟩⟩
    · show (if y ≤ x then some ((0 : Int32), σ) else some (1, σ)) = _
      rw [if_pos h]
    · show (if y ≤ x then some ((0 : Int32), τ) else some (1, τ)) = _
      rw [if_pos h]
  · refine ⟨1, Or.inr rfl, fun σ τ => ⟨?_, ?_⟩⟩
    · show (if y ≤ x then some ((0 : Int32), σ) else some (1, σ)) = _
      rw [if_neg h]
    · show (if y ≤ x then some ((0 : Int32), τ) else some (1, τ)) = _
      rw [if_neg h]
theorem jn_eq {F : Nat} {x y : Int32} : ∃ z : Int32, (z = 0 ∨ z = 1) ∧ ∀ σ τ : nd_Mem, f_X9_joined F (-61) x y σ = some (z, σ) ∧ f_X11_twoOf F 7 x y τ = some (z, τ) := by
  by_cases h : x = y
  · refine ⟨1, Or.inr rfl, fun σ τ => ⟨?_, ?_⟩⟩
    · show (if x = y then some ((1 : Int32), σ) else some (0, σ)) = _
      rw [if_pos h]
    · show (if x = y then some ((1 : Int32), τ) else some (0, τ)) = _
      rw [if_pos h]
  · refine ⟨0, Or.inl rfl, fun σ τ => ⟨?_, ?_⟩⟩
    · show (if x = y then some ((1 : Int32), σ) else some (0, σ)) = _
      rw [if_neg h]
    · show (if x = y then some ((1 : Int32), τ) else some (0, τ)) = _
      rw [if_neg h]
theorem jn_gt {F : Nat} {x y : Int32} : ∃ z : Int32, (z = 0 ∨ z = 1) ∧ ∀ σ τ : nd_Mem, f_X9_joined F (-62) x y σ = some (z, σ) ∧ f_X11_twoOf F 8 x y τ = some (z, τ) := by
  by_cases h : x ≤ y
  · refine ⟨0, Or.inl rfl, fun σ τ => ⟨?_, ?_⟩⟩
    · show (if x ≤ y then some ((0 : Int32), σ) else some (1, σ)) = _
      rw [if_pos h]
    · show (if x ≤ y then some ((0 : Int32), τ) else some (1, τ)) = _
      rw [if_pos h]
  · refine ⟨1, Or.inr rfl, fun σ τ => ⟨?_, ?_⟩⟩
    · show (if x ≤ y then some ((0 : Int32), σ) else some (1, σ)) = _
      rw [if_neg h]
    · show (if x ≤ y then some ((0 : Int32), τ) else some (1, τ)) = _
      rw [if_neg h]
theorem jn_and {F : Nat} {x y : Int32} (hx : x = 0 ∨ x = 1) (hy : y = 0 ∨ y = 1) : ∃ z : Int32, (z = 0 ∨ z = 1) ∧ ∀ σ τ : nd_Mem, f_X9_joined F (-3) x y σ = some (z, σ) ∧ f_X11_twoOf F 10 x y τ = some (z, τ) := by
  rcases hx with rfl | rfl <;> rcases hy with rfl | rfl
  · exact ⟨0, Or.inl rfl, fun _ _ => ⟨rfl, rfl⟩⟩
  · exact ⟨0, Or.inl rfl, fun _ _ => ⟨rfl, rfl⟩⟩
  · exact ⟨0, Or.inl rfl, fun _ _ => ⟨rfl, rfl⟩⟩
  · exact ⟨1, Or.inr rfl, fun _ _ => ⟨rfl, rfl⟩⟩
theorem jn_or {F : Nat} {x y : Int32} (hx : x = 0 ∨ x = 1) (hy : y = 0 ∨ y = 1) : ∃ z : Int32, (z = 0 ∨ z = 1) ∧ ∀ σ τ : nd_Mem, f_X9_joined F (-4) x y σ = some (z, σ) ∧ f_X11_twoOf F 11 x y τ = some (z, τ) := by
  rcases hx with rfl | rfl <;> rcases hy with rfl | rfl
  · exact ⟨0, Or.inl rfl, fun _ _ => ⟨rfl, rfl⟩⟩
  · exact ⟨1, Or.inr rfl, fun _ _ => ⟨rfl, rfl⟩⟩
  · exact ⟨1, Or.inr rfl, fun _ _ => ⟨rfl, rfl⟩⟩
  · exact ⟨1, Or.inr rfl, fun _ _ => ⟨rfl, rfl⟩⟩
theorem upd_cg_ {g h : Nat → Int32} {k i : Nat} {v : Int32} (e : i ≠ k → g i = h i) : upd g k v i = upd h k v i := by
  by_cases hk : i = k
  · subst hk
    rw [upd_eq, upd_eq]
  · rw [upd_ne hk, upd_ne hk, e hk]
theorem ty_pair {t t1 : List Nat} {y : Nat} (h : (match t with
    | _ :: _ :: r => some (y :: r)
    | _ => none) = some t1) : ∃ (p q : Nat) (u : List Nat), t = p :: q :: u ∧ t1 = y :: u := by
  match t, h with
  | p :: q :: u, h => exact ⟨p, q, u, rfl, (Option.some.inj h).symm⟩
theorem ty_pair1 {t t1 : List Nat} (h : (match t with
    | 1 :: 1 :: r => some (1 :: r)
    | _ => none) = some t1) : ∃ u : List Nat, t = 1 :: 1 :: u ∧ t1 = 1 :: u := by
  match t, h with
  | 1 :: 1 :: u, h => exact ⟨u, rfl, (Option.some.inj h).symm⟩
theorem ty_pair2 {t t1 : List Nat} (h : (match t with
    | 2 :: _ :: r => some (0 :: r)
    | _ => none) = some t1) : ∃ (q : Nat) (u : List Nat), t = 2 :: q :: u ∧ t1 = 0 :: u := by
  match t, h with
  | 2 :: q :: u, h => exact ⟨q, u, rfl, (Option.some.inj h).symm⟩
theorem ty_one {t t1 : List Nat} (h : (match t with
    | 1 :: r => some (1 :: r)
    | _ => none) = some t1) : ∃ u : List Nat, t = 1 :: u ∧ t1 = 1 :: u := by
  match t, h with
  | 1 :: u, h => exact ⟨u, rfl, (Option.some.inj h).symm⟩
section RK2
variable {F b a st sa h e C : Nat} {c r : nd_Mem}
theorem rk_ (hq : (b = 51 ∧ a = 52 ∧ st = 1 ∧ sa = 2) ∨ (b = 55 ∧ a = 56 ∧ st = 53 ∧ sa = 54)) (h6 : c 6 1 = nI C) (hC : C ≤ 400) (he : e ≤ C) (hcd : ∀ i : Nat, i < C → iv_code (c 7 i) (r 72 i) (r 73 i)) (hN : ∀ (j : Nat) (g : Nat → Int32), j < 10 → f_X9_named F b a st sa (nI (7 + j)) (nI h) (nd_row c a g) = some (r 78 j, nd_row c a g)) :
    ∀ (k i f f' : Nat) (ty ty' : List Nat) (g1 g2 : Nat → Int32), i + k = e → k < f → k < f' → ty.length ≤ 48 → ty_run (r 72) (r 73) i k ty = some ty' → ty' ≠ [] → (∀ j : Nat, j < ty.length → g1 j = g2 j) → sk_ g2 ty →
      ∃ (v : Int32) (g1' g2' : Nat → Int32), f_X9_reckon_6 F b a st sa f (nI e) (nI h) (nI ty.length) (nI i) (nd_row c a g1) = some (v, nd_row c a g1') ∧ f_X11_runs_12 F f' 0 (nI e) (nI ty.length) (nI i) (nd_row r 79 g2) = some (v, nd_row r 79 g2') := by
  intro k
  induction k with
  | zero =>
    intro i f f' ty ty' g1 g2 hi hf hf' hl hty hne hg hsk
    obtain ⟨f, rfl⟩ : ∃ g, f = g + 1 := ⟨f - 1, by omega⟩
    obtain ⟨f', rfl⟩ : ∃ g, f' = g + 1 := ⟨f' - 1, by omega⟩
    have e0 : ty = ty' := Option.some.inj hty
    have hpos : 0 < ty.length := by
      rw [e0]
      exact List.length_pos_iff.mpr hne
    refine ⟨g2 0, g1, g2, ?_, ms_end (by omega) (by omega)⟩
    rw [cs_end hq (by omega) (by omega), hg 0 hpos]
  | succ k ih =>
    intro i f f' ty ty' g1 g2 hi hf hf' hl hty hne hg hsk
    obtain ⟨f, rfl⟩ : ∃ g, f = g + 1 := ⟨f - 1, by omega⟩
    obtain ⟨f', rfl⟩ : ∃ g, f' = g + 1 := ⟨f' - 1, by omega⟩
    have hiC : i < C := by omega
    have hrun : (ty_1 (r 72 i) (r 73 i) ty).bind (ty_run (r 72) (r 73) (i + 1) k) = some ty' := hty
    obtain ⟨t1, hs1, hs2⟩ := Option.bind_eq_some_iff.mp hrun
    have bin : ∀ (cd o z : Int32) (p q y : Nat) (u : List Nat), c 7 i = cd → r 72 i = o → ¬ 0 ≤ cd → -100 < cd → ¬ cd = -2 → ¬ o = 0 → ¬ o = 1 → ¬ o = 9 → ty = p :: q :: u → t1 = y :: u → (y = 1 → z = 0 ∨ z = 1) → y ≠ 2 → (∀ σ τ : nd_Mem, f_X9_joined F cd (g2 u.length) (g2 (u.length + 1)) σ = some (z, σ) ∧ f_X11_twoOf F o (g2 u.length) (g2 (u.length + 1)) τ = some (z, τ)) → ∃ (v : Int32) (g1' g2' : Nat → Int32), f_X9_reckon_6 F b a st sa (f + 1) (nI e) (nI h) (nI ty.length) (nI i) (nd_row c a g1) = some (v, nd_row c a g1') ∧ f_X11_runs_12 F (f' + 1) 0 (nI e) (nI ty.length) (nI i) (nd_row r 79 g2) = some (v, nd_row r 79 g2') := by
      intro cd o z p q y u a1 a2 a3 a4 a5 a6 a7 a8 e1 e2 hz hy2 hj
      subst e1 e2
      have hl' : u.length + 1 + 1 ≤ 48 := by simpa using hl
      have q1 : g1 u.length = g2 u.length := hg _ (by simp; omega)
      have q2 : g1 (u.length + 1) = g2 (u.length + 1) := hg _ (by simp)
      obtain ⟨v, g1', g2', b1, b2⟩ := ih (i + 1) f f' (y :: u) ty' (upd g1 u.length z) (upd g2 u.length z) (by omega) (by omega) (by omega) (by simp; omega) hs2 hne (fun j hj => upd_cg_ (fun hjk => hg j (by simp at hj ⊢; omega))) ⟨fun e => by rw [upd_eq]; exact hz e, fun e => absurd e hy2, sk_up u (Nat.le_refl _) hsk.2.2.2.2⟩
      refine ⟨v, g1', g2', ?_, ?_⟩
      · have := cs_bin (F := F) (b := b) (a := a) (st := st) (sa := sa) (h := h) (e := e) (i := i) (t := u.length) (f := f) (c := c) (g := g1) hq h6 hC hiC (by omega) he (by omega) a1 a3 a4 a5 (by rw [q1, q2]; exact (hj _ (nd_row r 79 g2)).1)
        rw [show (p :: q :: u).length = u.length + 1 + 1 from rfl, this]
        exact b1
      · have := ms_bin (F := F) (e := e) (i := i) (t := u.length) (f := f') (r := r) (g := g2) (by omega) (by omega) (by omega) (by omega) a2 a6 a7 a8 (hj (nd_row c a g1) _).2
        rw [show (p :: q :: u).length = u.length + 1 + 1 from rfl, this]
        exact b2
    rcases hcd i hiC with ⟨o1, o2, o3, o4⟩ | ⟨j, hj, o1, o2, o3⟩ | ⟨o1, o2⟩ | ⟨o1, o2⟩ | ⟨o1, o2⟩ | ⟨o1, o2⟩ | ⟨o1, o2⟩ | ⟨o1, o2⟩ | ⟨o1, o2⟩ | ⟨o1, o2⟩ | ⟨o1, o2⟩ | ⟨o1, o2⟩
    · unfold ty_1 at hs1
      rw [if_pos o1] at hs1
      by_cases hl48 : ty.length < 48
      · rw [if_pos hl48] at hs1
        have e1 : t1 = (if r 73 i = 0 then 0 else 2) :: ty := (Option.some.inj hs1).symm
        subst e1
        obtain ⟨v, g1', g2', b1, b2⟩ := ih (i + 1) f f' ((if r 73 i = 0 then 0 else 2) :: ty) ty' (upd g1 ty.length (c 7 i)) (upd g2 ty.length (r 73 i)) (by omega) (by omega) (by omega) (by simp; omega) hs2 hne (fun j hj => by rw [o2]; exact upd_cg_ (fun hjk => hg j (by simp at hj; omega))) ⟨fun e => by
          by_cases hz : r 73 i = 0
          · rw [if_pos hz] at e; omega
          · rw [if_neg hz] at e; omega, fun e => by
          rw [upd_eq]
          by_cases hz : r 73 i = 0
          · rw [if_pos hz] at e; omega
          · exact hz, sk_up ty (Nat.le_refl _) hsk⟩
        refine ⟨v, g1', g2', ?_, ?_⟩
        · rw [cs_num hq h6 hC hiC (by omega) he hl48 (by rw [o2]; exact o3)]
          exact b1
        · rw [ms_num (by omega) (by omega) (by omega) hl48 o1]
          exact b2
      · rw [if_neg hl48] at hs1
        exact absurd hs1 (by simp)
    · unfold ty_1 at hs1
      rw [o1, if_neg (by decide), if_pos rfl] at hs1
      by_cases hl48 : ty.length < 48
      · rw [if_pos hl48] at hs1
        have e1 : t1 = 0 :: ty := (Option.some.inj hs1).symm
        subst e1
        obtain ⟨v, g1', g2', b1, b2⟩ := ih (i + 1) f f' (0 :: ty) ty' (upd g1 ty.length (r 78 j)) (upd g2 ty.length (r 78 j)) (by omega) (by omega) (by omega) (by simp; omega) hs2 hne (fun j hj => upd_cg_ (fun hjk => hg j (by simp at hj; omega))) ⟨fun e => by omega, fun e => by omega, sk_up ty (Nat.le_refl _) hsk⟩
        refine ⟨v, g1', g2', ?_, ?_⟩
        · rw [cs_ask hq h6 hC hiC (by omega) he hl48 hj o3 (hN j g1 hj)]
          exact b1
        · rw [ms_ask (by omega) (by omega) (by omega) hl48 o1 hj o2]
          exact b2
      · rw [if_neg hl48] at hs1
        exact absurd hs1 (by simp)
    · rw [o1] at hs1
      obtain ⟨p, q, u, e1, e2⟩ := ty_pair (y := 0) hs1
      exact bin (-43) 2 _ p q 0 u o2 o1 (by decide) (by decide) (by decide) (by decide) (by decide) (by decide) e1 e2 (fun e => by omega) (by omega) (fun σ τ => jn_add)
    · rw [o1] at hs1
      obtain ⟨p, q, u, e1, e2⟩ := ty_pair (y := 0) hs1
      exact bin (-45) 3 _ p q 0 u o2 o1 (by decide) (by decide) (by decide) (by decide) (by decide) (by decide) e1 e2 (fun e => by omega) (by omega) (fun σ τ => jn_sub)
    · rw [o1] at hs1
      obtain ⟨p, q, u, e1, e2⟩ := ty_pair (y := 0) hs1
      exact bin (-42) 4 _ p q 0 u o2 o1 (by decide) (by decide) (by decide) (by decide) (by decide) (by decide) e1 e2 (fun e => by omega) (by omega) (fun σ τ => jn_mul)
    · rw [o1] at hs1
      obtain ⟨q, u, e1, e2⟩ := ty_pair2 hs1
      have hnz : g2 (u.length + 1) ≠ 0 := by
        subst e1
        exact hsk.2.1 rfl
      exact bin (-47) 5 _ 2 q 0 u o2 o1 (by decide) (by decide) (by decide) (by decide) (by decide) (by decide) e1 e2 (fun e => by omega) (by omega) (fun σ τ => jn_div hnz)
    · rw [o1] at hs1
      obtain ⟨p, q, u, e1, e2⟩ := ty_pair (y := 1) hs1
      obtain ⟨z, z1, z2⟩ := jn_lt (F := F) (x := g2 u.length) (y := g2 (u.length + 1))
      exact bin (-60) 6 z p q 1 u o2 o1 (by decide) (by decide) (by decide) (by decide) (by decide) (by decide) e1 e2 (fun _ => z1) (by omega) z2
    · rw [o1] at hs1
      obtain ⟨p, q, u, e1, e2⟩ := ty_pair (y := 1) hs1
      obtain ⟨z, z1, z2⟩ := jn_eq (F := F) (x := g2 u.length) (y := g2 (u.length + 1))
      exact bin (-61) 7 z p q 1 u o2 o1 (by decide) (by decide) (by decide) (by decide) (by decide) (by decide) e1 e2 (fun _ => z1) (by omega) z2
    · rw [o1] at hs1
      obtain ⟨p, q, u, e1, e2⟩ := ty_pair (y := 1) hs1
      obtain ⟨z, z1, z2⟩ := jn_gt (F := F) (x := g2 u.length) (y := g2 (u.length + 1))
      exact bin (-62) 8 z p q 1 u o2 o1 (by decide) (by decide) (by decide) (by decide) (by decide) (by decide) e1 e2 (fun _ => z1) (by omega) z2
    · rw [o1] at hs1
      obtain ⟨u, e1, e2⟩ := ty_one hs1
      subst e1 e2
      have hl' : u.length + 1 ≤ 48 := by simpa using hl
      have q1 : g1 u.length = g2 u.length := hg _ (by simp)
      have hv := hsk.1 rfl
      obtain ⟨v, g1', g2', b1, b2⟩ := ih (i + 1) f f' (1 :: u) ty' (upd g1 u.length (1 - g1 u.length)) (upd g2 u.length (1 - g2 u.length)) (by omega) (by omega) (by omega) (by simp; omega) hs2 hne (fun j hj => by rw [q1]; exact upd_cg_ (fun hjk => hg j (by simp at hj ⊢; omega))) ⟨fun _ => by
        rw [upd_eq]
        rcases hv with hv | hv
        · rw [hv]; exact Or.inr (by decide)
        · rw [hv]; exact Or.inl (by decide), fun e => by omega, sk_up u (Nat.le_refl _) hsk.2.2⟩
      refine ⟨v, g1', g2', ?_, ?_⟩
      · rw [show (1 :: u).length = u.length + 1 from rfl, cs_not hq h6 hC hiC (by omega) he (by omega) o2]
        exact b1
      · rw [show (1 :: u).length = u.length + 1 from rfl, ms_not (by omega) (by omega) (by omega) (by omega) o1]
        exact b2
    · rw [o1] at hs1
      obtain ⟨u, e1, e2⟩ := ty_pair1 hs1
      have v1 : g2 (u.length + 1) = 0 ∨ g2 (u.length + 1) = 1 := by
        subst e1
        exact hsk.1 rfl
      have v2 : g2 u.length = 0 ∨ g2 u.length = 1 := by
        subst e1
        exact hsk.2.2.1 rfl
      obtain ⟨z, z1, z2⟩ := jn_and (F := F) v2 v1
      exact bin (-3) 10 z 1 1 1 u o2 o1 (by decide) (by decide) (by decide) (by decide) (by decide) (by decide) e1 e2 (fun _ => z1) (by omega) z2
    · rw [o1] at hs1
      obtain ⟨u, e1, e2⟩ := ty_pair1 hs1
      have v1 : g2 (u.length + 1) = 0 ∨ g2 (u.length + 1) = 1 := by
        subst e1
        exact hsk.1 rfl
      have v2 : g2 u.length = 0 ∨ g2 u.length = 1 := by
        subst e1
        exact hsk.2.2.1 rfl
      obtain ⟨z, z1, z2⟩ := jn_or (F := F) v2 v1
      exact bin (-4) 11 z 1 1 1 u o2 o1 (by decide) (by decide) (by decide) (by decide) (by decide) (by decide) e1 e2 (fun _ => z1) (by omega) z2
end RK2
section ASK
variable {F b a st sa n h : Nat} {c r : nd_Mem}
/-- a piece of the law's code, of the width that the law knows -/
theorem e_reckon (hF : 300000 ≤ F) (hq : (b = 51 ∧ a = 52 ∧ st = 1 ∧ sa = 2) ∨ (b = 55 ∧ a = 56 ∧ st = 53 ∧ sa = 54)) (H : wk_ b st sa n c r) (hh : h < n) {f e C : Nat} (hfe : f ≤ e) (h6 : c 6 1 = nI C) (hC : C ≤ 400) (he : e ≤ C) (hcd : ∀ i : Nat, i < C → iv_code (c 7 i) (r 72 i) (r 73 i)) (h75 : ∀ j : Nat, j < 10 → r 78 j = as_ r h j) {ty : List Nat} (hty : ty_run (r 72) (r 73) f (e - f) [] = some ty) (hne : ty ≠ []) :
    ∃ (v : Int32) (g1 g2 : Nat → Int32), f_X9_reckon F b a st sa (nI f) (nI e) (nI h) c = some (v, nd_row c a g1) ∧ f_X11_runs F 0 (nI f) (nI e) r = some (v, nd_row r 79 g2) := by
  have hN : ∀ (j : Nat) (g : Nat → Int32), j < 10 → f_X9_named F b a st sa (nI (7 + j)) (nI h) (nd_row c a g) = some (r 78 j, nd_row c a g) := by
    intro j g hj
    have fa : fc_ b a st sa c (nd_row c a g) := fr_row fr_rf (by simp) (by omega)
    have H' : wk_ b st sa n (nd_row c a g) r := wk_mk hq H fa fr_rf (by rw [nd_row_ne (by omega), nd_row_ne (by omega)]; exact H.2.1) (by rw [nd_row_ne (by omega)]) (fun hp i hi => by rw [nd_row_ne (by omega)]; exact hp i hi)
    rw [e_named hq H' hh hj, h75 j hj]
  obtain ⟨v, g1, g2, e1, e2⟩ := rk_ (F := F) (b := b) (a := a) (st := st) (sa := sa) (h := h) (e := e) (c := c) (r := r) hq h6 hC he hcd hN (e - f) f F F [] ty (c a) (r 79) (by omega) (by omega) (by omega) (by simp) hty hne (fun j hj => absurd hj (Nat.not_lt_zero j)) trivial
  rw [row_id] at e1 e2
  refine ⟨v, g1, g2, e1, ?_⟩
  unfold f_X11_runs
  rw [ms_lim]
  exact e2
end ASK
