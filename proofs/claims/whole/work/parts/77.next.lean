/-! the next house, whether she can go, the book -/
section NX
variable {F b a st sa n h t : Nat} {c r : nd_Mem} {v : Int32}
theorem e_side (hs : iv_side c r) {x : Nat} (hx : x < 16) : f_X5_sideOf F 3 (nI x) c = some (r 77 x, c) := by
  obtain ⟨_, m, hm, e1, e2⟩ := hs
  unfold f_X5_sideOf
  rw [e1, e2 x hx]
  have h1 := n_bit (k := x) (a := m) (by omega) (by omega)
  have h0 := n_bit0 (k := x) (a := m) (by omega) (by omega)
  by_cases hb : m.testBit x = true
  · rw [if_pos hb]
    have : nI m >>> (nI x &&& nI 31) &&& nI 1 = nI 1 := by rw [h1]; exact hb
    exact congrArg (fun z => some (z, c)) this
  · rw [if_neg hb]
    have : nI m >>> (nI x &&& nI 31) &&& nI 1 = nI 0 := by rw [h0]; exact Bool.eq_false_iff.mpr hb
    exact congrArg (fun z => some (z, c)) this
theorem e_houseM (h6 : r 60 6 = nI n) (h16 : n ≤ 16) {x : Nat} (hx : x < 2147483648) : f_X11_isHouse F (nI x) r = some (if x < n then 1 else 0, r) := by
  rw [e_isHouse, h6]
  by_cases hxn : x < n
  · rw [if_neg (by
      rintro (e | e)
      · exact nI_pos hx e
      · exact nI_ge hxn (by omega) e), if_pos hxn]
  · rw [if_pos (Or.inr (nI_le (by omega) hx)), if_neg hxn]
theorem e_houseN : f_X11_isHouse F (-1) r = some (0, r) := by
  rw [e_isHouse, if_pos (Or.inl (by decide))]
/-- a house, or the sea -/
def to_ (n h : Nat) (v : Int32) : Prop := v = -1 ∨ ∃ t : Nat, t < n ∧ t ≠ h ∧ v = nI t
theorem nx_up (h6 : r 60 6 = nI n) (h1 : c st 1 = nI n) (h16 : n ≤ 16) (hs : iv_side c r) (hh : h < n) : ∀ (d i f f' : Nat), i + d = n → h < i → d < f → d < f' → ∃ v : Int32, f_X9_nextOf_24 F b a st sa f (r 77 h) 1 (nI i) c = some (v, c) ∧ f_X11_nextOf_19 F f' (nI h) 1 (nI i) r = some (v, r) ∧ to_ n h v := by
  intro d
  induction d with
  | zero =>
    intro i f f' hi hhi hf hf'
    obtain ⟨f, rfl⟩ : ∃ g, f = g + 1 := ⟨f - 1, by omega⟩
    obtain ⟨f', rfl⟩ : ∃ g, f' = g + 1 := ⟨f' - 1, by omega⟩
    refine ⟨-1, ?_, ?_, Or.inl rfl⟩
    · show f_X9_nextOf_24_b F _ b a st sa _ _ _ c = _
      unfold f_X9_nextOf_24_b f_X9_nextOf_66
      rw [if_neg (nI_pos (by omega)), h1, if_pos (nI_le (by omega) (by omega))]
    · show f_X11_nextOf_19_b F _ _ _ _ r = _
      unfold f_X11_nextOf_19_b f_X11_nextOf_49
      rw [e_houseM h6 h16 (by omega), n_bind, if_neg (show ¬ i < n by omega), if_pos rfl, e_houseM h6 h16 (by omega), n_bind, if_neg (show ¬ i < n by omega), if_pos rfl]
  | succ d ih =>
    intro i f f' hi hhi hf hf'
    obtain ⟨f, rfl⟩ : ∃ g, f = g + 1 := ⟨f - 1, by omega⟩
    obtain ⟨f', rfl⟩ : ∃ g, f' = g + 1 := ⟨f' - 1, by omega⟩
    by_cases he : r 77 i = r 77 h
    · refine ⟨nI i, ?_, ?_, Or.inr ⟨i, by omega, by omega, rfl⟩⟩
      · show f_X9_nextOf_24_b F _ b a st sa _ _ _ c = _
        unfold f_X9_nextOf_24_b
        rw [if_neg (nI_pos (by omega)), h1, if_neg (nI_ge (by omega) (by omega)), e_side hs (by omega), n_bind, if_pos he]
      · show f_X11_nextOf_19_b F _ _ _ _ r = _
        unfold f_X11_nextOf_19_b f_X11_nextOf_49
        rw [e_houseM h6 h16 (by omega), n_bind, if_pos (show i < n by omega), if_neg (by decide), if_neg (nI_in (by omega) (by decide)), if_neg (nI_in (by omega) (by decide)), nI_clamp (by omega), nI_clamp (by omega), if_pos he, e_houseM h6 h16 (by omega), n_bind, if_pos (show i < n by omega), if_neg (by decide)]
    · obtain ⟨v, e1, e2, e3⟩ := ih (i + 1) f f' (by omega) (by omega) (by omega) (by omega)
      refine ⟨v, ?_, ?_, e3⟩
      · show f_X9_nextOf_24_b F _ b a st sa _ _ _ c = _
        unfold f_X9_nextOf_24_b
        rw [if_neg (nI_pos (by omega)), h1, if_neg (nI_ge (by omega) (by omega)), e_side hs (by omega), n_bind, if_neg he, nI_1, e1]
      · show f_X11_nextOf_19_b F _ _ _ _ r = _
        unfold f_X11_nextOf_19_b
        rw [e_houseM h6 h16 (by omega), n_bind, if_pos (show i < n by omega), if_neg (by decide), if_neg (nI_in (by omega) (by decide)), if_neg (nI_in (by omega) (by decide)), nI_clamp (by omega), nI_clamp (by omega), if_neg he, nI_1, e2]
theorem nI_down (i : Nat) : nI (i + 1) + (-1 : Int32) = nI i := by
  rw [← nI_1]
  grind
theorem nx_dn (h6 : r 60 6 = nI n) (h1 : c st 1 = nI n) (h16 : n ≤ 16) (hs : iv_side c r) (hh : h < n) : ∀ (i f f' : Nat), i ≤ h → i < f → i < f' → ∃ v : Int32, f_X9_nextOf_24 F b a st sa f (r 77 h) (-1) (nI i + (-1)) c = some (v, c) ∧ f_X11_nextOf_19 F f' (nI h) (-1) (nI i + (-1)) r = some (v, r) ∧ to_ n h v := by
  intro i
  induction i with
  | zero =>
    intro f f' hi hf hf'
    obtain ⟨f, rfl⟩ : ∃ g, f = g + 1 := ⟨f - 1, by omega⟩
    obtain ⟨f', rfl⟩ : ∃ g, f' = g + 1 := ⟨f' - 1, by omega⟩
    refine ⟨-1, ?_, ?_, Or.inl rfl⟩
    · show f_X9_nextOf_24_b F _ b a st sa _ _ _ c = _
      unfold f_X9_nextOf_24_b f_X9_nextOf_66
      rw [if_pos (by decide)]
    · show f_X11_nextOf_19_b F _ _ _ _ r = _
      unfold f_X11_nextOf_19_b f_X11_nextOf_49
      rw [show nI 0 + (-1 : Int32) = -1 by decide, e_houseN, n_bind, if_pos rfl, e_houseN, n_bind, if_pos rfl]
  | succ i ih =>
    intro f f' hi hf hf'
    obtain ⟨f, rfl⟩ : ∃ g, f = g + 1 := ⟨f - 1, by omega⟩
    obtain ⟨f', rfl⟩ : ∃ g, f' = g + 1 := ⟨f' - 1, by omega⟩
    rw [nI_down]
    by_cases he : r 77 i = r 77 h
    · refine ⟨nI i, ?_, ?_, Or.inr ⟨i, by omega, by omega, rfl⟩⟩
      · show f_X9_nextOf_24_b F _ b a st sa _ _ _ c = _
        unfold f_X9_nextOf_24_b
        rw [if_neg (nI_pos (by omega)), h1, if_neg (nI_ge (by omega) (by omega)), e_side hs (by omega), n_bind, if_pos he]
      · show f_X11_nextOf_19_b F _ _ _ _ r = _
        unfold f_X11_nextOf_19_b f_X11_nextOf_49
        rw [e_houseM h6 h16 (by omega), n_bind, if_pos (show i < n by omega), if_neg (by decide), if_neg (nI_in (by omega) (by decide)), if_neg (nI_in (by omega) (by decide)), nI_clamp (by omega), nI_clamp (by omega), if_pos he, e_houseM h6 h16 (by omega), n_bind, if_pos (show i < n by omega), if_neg (by decide)]
    · obtain ⟨v, e1, e2, e3⟩ := ih f f' (by omega) (by omega) (by omega)
      refine ⟨v, ?_, ?_, e3⟩
      · show f_X9_nextOf_24_b F _ b a st sa _ _ _ c = _
        unfold f_X9_nextOf_24_b
        rw [if_neg (nI_pos (by omega)), h1, if_neg (nI_ge (by omega) (by omega)), e_side hs (by omega), n_bind, if_neg he, e1]
      · show f_X11_nextOf_19_b F _ _ _ _ r = _
        unfold f_X11_nextOf_19_b
        rw [e_houseM h6 h16 (by omega), n_bind, if_pos (show i < n by omega), if_neg (by decide), if_neg (nI_in (by omega) (by decide)), if_neg (nI_in (by omega) (by decide)), nI_clamp (by omega), nI_clamp (by omega), if_neg he, e2]
theorem e_next (hF : 300000 ≤ F) (H : wk_ b st sa n c r) (hh : h < n) : ∃ v : Int32, f_X9_nextOf F b a st sa (nI h) c = some (v, c) ∧ f_X11_nextOf F (nI h) r = some (v, r) ∧ to_ n h v := by
  have h16 := H.1.1
  have h1 : c st 1 = nI n := H.2.1.1
  have hs := H.2.2.2.2.2.1
  unfold f_X9_nextOf f_X9_nextOf_18 f_X11_nextOf f_X11_nextOf_14
  rw [e_side hs (by omega), n_bind, if_neg (nI_in (by omega) (by decide)), nI_clamp (by omega)]
  by_cases h0 : r 77 h = 0
  · obtain ⟨v, e1, e2, e3⟩ := nx_up (F := F) (b := b) (a := a) (sa := sa) H.1.2 h1 h16 hs hh (n - (h + 1)) (h + 1) F F (by omega) (by omega) (by omega) (by omega)
    refine ⟨v, ?_, ?_, e3⟩
    · rw [if_pos h0, nI_1, e1]
    · rw [if_pos h0, nI_1, e2]
  · obtain ⟨v, e1, e2, e3⟩ := nx_dn (F := F) (b := b) (a := a) (sa := sa) H.1.2 h1 h16 hs hh h F F (by omega) (by omega) (by omega)
    refine ⟨v, ?_, ?_, e3⟩
    · rw [if_neg h0, e1]
    · rw [if_neg h0, e2]
theorem e_feudsOf {m : Nat} (hm : c 10 h = nI m) (hh : h < 16) : f_X5_feudsOf F 3 (nI h) c = some (nI m, c) := by
  unfold f_X5_feudsOf
  rw [if_neg (nI_pos (by omega)), if_neg (show ¬ (16 : Int32) ≤ nI h from nI_ge (b := 16) (by omega) (by omega)), if_neg (nI_in (by omega) (by decide)), nI_clamp (by omega)]
  rw [show 3 + 7 = 10 from rfl, hm]
theorem e_canGo (hF : 300000 ≤ F) (H : wk_ b st sa n c r) (hh : h < n) (hc : f_X11_nextOf F (nI h) r = some (v, r)) (ht : to_ n h v) : ∃ z : Int32, f_X9_canGo F b a st sa (nI h) v c = some (z, c) ∧ f_X11_canGo F (nI h) r = some (z, r) ∧ (z = 0 → ¬ v = -1) ∧ (z ≠ 0 → ∀ t : Nat, t < n → v = nI t → 0 < r 61 (23 + t)) := by
  have h16 := H.1.1
  have h1 : c st 1 = nI n := H.2.1.1
  have hS := H.2.1.2.2.2.2.2.2.2.2.2.2
  obtain ⟨_, hfd⟩ := H.2.2.2.2.1
  unfold f_X9_canGo f_X9_canGo_47 f_X11_canGo f_X11_canGo_63 f_X11_canGo_67
  rw [hc, n_bind]
  rcases ht with rfl | ⟨t, htn, hth, rfl⟩
  · exact ⟨1, by rw [if_pos rfl], by rw [if_pos rfl], fun e => absurd e (by decide), fun _ t ht e => absurd e.symm (li_m1 t (by omega))⟩
  · have hm1 := li_m1 t (by omega)
    obtain ⟨⟨_, _, _⟩, ⟨b1, b2, b3⟩, _, _, ⟨w1, w2, w3⟩, _⟩ := hS t htn
    obtain ⟨m, hm, m1, m2⟩ := hfd h (by omega)
    obtain ⟨m', hm', m1', m2'⟩ := hfd t (by omega)
    have hp : 2 ^ n ≤ 2 ^ 16 := Nat.pow_le_pow_right (by decide) h16
    have e23 : (23 : Int32) + nI t = nI (23 + t) := n_add 23 t
    have e87 : (87 : Int32) + nI t = nI (87 + t) := n_add 87 t
    rw [if_neg hm1, if_neg hm1, e_get1 h1 htn h16, n_bind, e23, if_neg (nI_in (by omega) (by decide)), nI_clamp (by omega), b1]
    by_cases c1 : r 61 (23 + t) ≤ 0
    · exact ⟨0, by rw [if_pos c1], by rw [if_pos c1], fun _ => hm1, fun e => absurd rfl e⟩
    have hpos : ∀ t' : Nat, t' < n → nI t = nI t' → 0 < r 61 (23 + t') := by
      intro t' ht' e
      have : t = t' := (nI_eq (by omega) (by omega)).mp e
      subst this
      exact Int32.not_le.mp c1
    rw [if_neg c1, if_neg c1, e_get4 h1 htn h16, n_bind, e87, if_neg (nI_in (by omega) (by decide)), nI_clamp (by omega), w1]
    by_cases c2 : r 61 (87 + t) = 0
    · rw [if_pos c2, if_pos c2, if_neg (nI_in (by omega) (by decide)), nI_clamp (by omega), m2, e_has, n_bind]
      unfold f_X5_feud f_X5_feud_26
      rw [e_feudsOf m1 (by omega), n_bind]
      by_cases c3 : (nI m >>> (nI t &&& 31)) &&& 1 = 1
      · exact ⟨0, by rw [if_pos c3, n_bind, if_neg (by decide)], by rw [if_pos c3, if_neg (by decide)], fun _ => hm1, fun e => absurd rfl e⟩
      · rw [if_neg c3, if_neg c3, if_pos rfl, e_feudsOf m1' (by omega), n_bind, if_neg (nI_in (by omega) (by decide)), nI_clamp (by omega), m2', e_has, n_bind]
        by_cases c4 : (nI m' >>> (nI h &&& 31)) &&& 1 = 1
        · exact ⟨0, by rw [if_pos c4, n_bind, if_neg (by decide)], by rw [if_pos c4, if_neg (by decide)], fun _ => hm1, fun e => absurd rfl e⟩
        · exact ⟨1, by rw [if_neg c4, n_bind, if_pos rfl], by rw [if_neg c4, if_pos rfl], fun _ => hm1, fun _ => hpos⟩
    · exact ⟨0, by rw [if_neg c2], by rw [if_neg c2], fun _ => hm1, fun e => absurd rfl e⟩
end NX
