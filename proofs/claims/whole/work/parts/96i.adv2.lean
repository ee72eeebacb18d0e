/-! text: the class's advance -/
theorem sgn_all : ∀ x : Fin 256, iss_ x.val = true ↔ ∃ j : Fin 10, (nd_by.getD 4 []).getD j.val 0 = (nI x.val).toInt8.toInt32 := by decide +kernel
theorem sgn_cut : ∀ x : Fin 256, ((nI x.val).toUInt32 % 65536).toInt32 = nI x.val := by decide +kernel
theorem sgn_len : nd_ln.getD 4 0 = 10 ∧ Int32.ofNat (nd_ln.getD 4 0) >>> ((0 : Int32) &&& 31) = nI 10 := by decide +kernel
section CB
variable {F z k : Nat} {c γ : nd_Mem} {t : Nat → Nat}
theorem clet {x : Nat} (hx : x < 256) : f_X3_isLetter F (nI x) γ = some (if isl_ x = true then 1 else 0, γ) := by
  have e1 : (nI x < (97 : Int32)) = (x < 97) := n_lt (b := 97) (by omega) (by decide)
  have e2 : (nI x ≤ (122 : Int32)) = (x ≤ 122) := n_le (b := 122) (by omega) (by decide)
  have e3 : (nI x < (65 : Int32)) = (x < 65) := n_lt (b := 65) (by omega) (by decide)
  have e4 : ((90 : Int32) < nI x) = (90 < x) := n_lt (a := 90) (by decide) (by omega)
  unfold f_X3_isLetter f_X3_isLetter_12 f_X3_isLetter_24 f_X3_isLetter_28
  by_cases h : isl_ x = true
  · have hd := of_decide_eq_true h
    rw [if_pos h]
    by_cases h1 : x < 97
    · rw [if_pos (by rw [e1]; exact h1), if_neg (by rw [e3]; omega), if_neg (by rw [e4]; omega)]
    · rw [if_neg (by rw [e1]; exact h1), if_pos (by rw [e2]; omega)]
  · have hd : ¬ ((97 ≤ x ∧ x ≤ 122) ∨ (65 ≤ x ∧ x ≤ 90)) := fun e => h (decide_eq_true e)
    rw [if_neg h]
    by_cases h1 : x < 97
    · rw [if_pos (by rw [e1]; exact h1)]
      by_cases h2 : x < 65
      · rw [if_pos (by rw [e3]; exact h2)]
      · rw [if_neg (by rw [e3]; exact h2), if_pos (by rw [e4]; omega)]
    · rw [if_neg (by rw [e1]; exact h1), if_neg (by rw [e2]; omega), if_neg (by rw [e3]; omega), if_pos (by rw [e4]; omega)]
theorem cdig {x : Nat} (hx : x < 256) : f_X3_isDigit F (nI x) γ = some (if isd_ x = true then 1 else 0, γ) := by
  have e1 : (nI x < (48 : Int32)) = (x < 48) := n_lt (b := 48) (by omega) (by decide)
  have e2 : ((57 : Int32) < nI x) = (57 < x) := n_lt (a := 57) (by decide) (by omega)
  unfold f_X3_isDigit f_X3_isDigit_16
  by_cases h : isd_ x = true
  · have hd := of_decide_eq_true h
    rw [if_pos h, if_neg (by rw [e1]; omega), if_neg (by rw [e2]; omega)]
  · have hd : ¬ (48 ≤ x ∧ x ≤ 57) := fun e => h (decide_eq_true e)
    rw [if_neg h]
    by_cases h1 : x < 48
    · rw [if_pos (by rw [e1]; exact h1)]
    · rw [if_neg (by rw [e1]; exact h1), if_pos (by rw [e2]; omega)]
theorem c_idx {y : Int32} : ∀ d i f : Nat, i + d = 10 → d < f → ∃ r : Int32, f_J1_indexOfChar_4cfef_7 F 4 f (nI 10) y (nI i) γ = some (r, γ) ∧ (0 ≤ r ↔ ∃ j : Nat, i ≤ j ∧ j < 10 ∧ (nd_by.getD 4 []).getD j 0 = y) := by
  have hl := sgn_len.1
  intro d
  induction d with
  | zero =>
    intro i f hi hf
    obtain ⟨f, rfl⟩ : ∃ g, f = g + 1 := ⟨f - 1, by omega⟩
    refine ⟨-1, ?_, ⟨fun e => absurd e (by decide), fun ⟨j, j1, j2, _⟩ => by omega⟩⟩
    show f_J1_indexOfChar_4cfef_7_b F _ 4 _ _ _ _ = _
    unfold f_J1_indexOfChar_4cfef_7_b
    rw [if_pos (nI_le (by omega) (by omega))]
  | succ d ih =>
    intro i f hi hf
    obtain ⟨f, rfl⟩ : ∃ g, f = g + 1 := ⟨f - 1, by omega⟩
    by_cases hc : (nd_by.getD 4 []).getD i 0 = y
    · refine ⟨nI i, ?_, ⟨fun _ => ⟨i, Nat.le_refl i, by omega, hc⟩, fun _ => Int32.not_lt.mp (nI_pos (by omega))⟩⟩
      show f_J1_indexOfChar_4cfef_7_b F _ 4 _ _ _ _ = _
      unfold f_J1_indexOfChar_4cfef_7_b
      rw [if_neg (nI_ge (by omega) (by omega)), if_neg (nI_in (by omega) (by omega)), nI_clamp (by omega), if_pos hc]
    · obtain ⟨r, r1, r2⟩ := ih (i + 1) f (by omega) (by omega)
      refine ⟨r, ?_, r2.trans ⟨fun ⟨j, j1, j2, j3⟩ => ⟨j, by omega, j2, j3⟩, fun ⟨j, j1, j2, j3⟩ => ⟨j, ?_, j2, j3⟩⟩⟩
      · show f_J1_indexOfChar_4cfef_7_b F _ 4 _ _ _ _ = _
        unfold f_J1_indexOfChar_4cfef_7_b
        rw [if_neg (nI_ge (by omega) (by omega)), if_neg (nI_in (by omega) (by omega)), nI_clamp (by omega), if_neg hc, nI_1]
        exact r1
      · by_cases hji : j = i
        · rw [hji] at j3; exact absurd j3 hc
        · omega
theorem c_sig (hF : 300000 ≤ F) {x : Nat} (hx : x < 256) : ∃ r : Int32, f_J0_indexOf_0f7a4 F 4 (nI x) γ = some (r, γ) ∧ (0 ≤ r ↔ iss_ x = true) := by
  obtain ⟨hl, hl2⟩ := sgn_len
  obtain ⟨r, r1, r2⟩ := c_idx (F := F) (γ := γ) (y := (nI x).toInt8.toInt32) 10 0 F (by omega) (by omega)
  refine ⟨r, ?_, r2.trans ⟨fun ⟨j, _, j2, j3⟩ => (sgn_all ⟨x, hx⟩).mpr ⟨⟨j, j2⟩, j3⟩, fun h => ?_⟩⟩
  · have hc : f_J0_coder_7d493 F 4 γ = some (0, γ) := by
      unfold f_J0_coder_7d493
      rw [if_neg (by decide), if_neg (fun e => e (by rfl))]
    have hlen : f_J0_length_8abf5 F 4 γ = some (nI 10, γ) := by
      unfold f_J0_length_8abf5
      rw [hc, n_bind, hl2]
    have hce : f_J1_canEncode_9a6ad F (nI x) γ = some (1, γ) := by
      unfold f_J1_canEncode_9a6ad
      rw [if_neg (nI_pos (by omega)), if_neg (show ¬ (255 : Int32) < nI x from nI_nlt (a := 255) (by omega) (by decide))]
    unfold f_J0_indexOf_0f7a4 f_J0_indexOf_7cf53 f_J1_indexOf_4cfef f_J1_indexOfChar_4cfef
    rw [latN, n_bind, if_neg n10, hlen, n_bind, hce, n_bind, if_neg n10, hl, if_neg (show ¬ (0 : Int32) < 0 by decide), if_neg (show ¬ Int32.ofNat 10 < nI 10 by decide), if_pos (show (0 : Int32) < nI 10 by decide)]
    have r1' : f_J1_indexOfChar_4cfef_7 F 4 F (nI 10) (nI x).toInt8.toInt32 0 γ = some (r, γ) := r1
    rw [r1', n_bind, n_bind, n_bind]
  · obtain ⟨j, hj⟩ := (sgn_all ⟨x, hx⟩).mp h
    exact ⟨j.val, Nat.zero_le _, j.isLt, hj⟩
theorem c_107 (hF : 300000 ≤ F) (hb : cb_ γ t z k) {p : Nat} (h9 : γ 38 9 = nI p) : ∀ d s f : Nat, s + d = z → d < f → p ≤ s → f_X3_advance_107 F f (nd_up γ 38 10 (nI s)) = some (0, if wif_ (seg_ t p (txr_ (fun s => isl_ (t s)) d s)) (kws_ k) < (kws_ k).length then nd_up (nd_up (nd_up γ 38 10 (nI (txr_ (fun s => isl_ (t s)) d s))) 38 8 (nI (wif_ (seg_ t p (txr_ (fun s => isl_ (t s)) d s)) (kws_ k)))) 38 7 1 else nd_up (nd_up (nd_up γ 38 10 (nI (txr_ (fun s => isl_ (t s)) d s))) 38 8 (-1)) 38 7 4) := by
  have hz := hb.1
  have hbyte := hb.2.1
  have hk := hb.2.2.2.2.2.1
  have hl17 : (kws_ k).length ≤ 17 := (kw_len ⟨k, hk⟩).1
  have g2 : ∀ s : Nat, nd_up γ 38 10 (nI s) 38 2 = nI z := fun s => by rw [u_ne2 (by decide)]; exact hb.2.2.1
  have fin : ∀ s : Nat, p ≤ s → s ≤ z → f_X3_advance_146 F (nd_up γ 38 10 (nI s)) = some (0, if wif_ (seg_ t p s) (kws_ k) < (kws_ k).length then nd_up (nd_up (nd_up γ 38 10 (nI s)) 38 8 (nI (wif_ (seg_ t p s) (kws_ k)))) 38 7 1 else nd_up (nd_up (nd_up γ 38 10 (nI s)) 38 8 (-1)) 38 7 4) := by
    intro s hps hsz
    unfold f_X3_advance_146 f_X3_advance_168
    rw [c_word hF (cb_up hb (by decide) (by decide) (by decide) (by decide)) (p := p) (q := s) (by rw [u_ne2 (by decide)]; exact h9) (u_eq _ _ _ _) hps hsz, n_bind, n_let, u_eq]
    by_cases hw : wif_ (seg_ t p s) (kws_ k) < (kws_ k).length
    · rw [if_pos hw, if_pos hw, if_neg (li_m1 _ (by omega)), n_let]
    · rw [if_neg hw, if_neg hw, if_pos rfl, n_let]
  intro d
  induction d with
  | zero =>
    intro s f hs hf hps
    obtain ⟨f, rfl⟩ : ∃ g, f = g + 1 := ⟨f - 1, by omega⟩
    show f_X3_advance_107_b F _ _ = some (0, if wif_ (seg_ t p s) (kws_ k) < (kws_ k).length then nd_up (nd_up (nd_up γ 38 10 (nI s)) 38 8 (nI (wif_ (seg_ t p s) (kws_ k)))) 38 7 1 else nd_up (nd_up (nd_up γ 38 10 (nI s)) 38 8 (-1)) 38 7 4)
    unfold f_X3_advance_107_b
    rw [u_eq, g2, if_pos (nI_le (by omega) (by omega)), fin s hps (by omega)]
  | succ d ih =>
    intro s f hs hf hps
    obtain ⟨f, rfl⟩ : ∃ g, f = g + 1 := ⟨f - 1, by omega⟩
    have h47 : nd_up γ 38 10 (nI s) 47 s = nI (t s) := by rw [u_ne1 (by decide)]; exact hb.2.2.2.1 s (by omega)
    by_cases hl : isl_ (t s) = true
    · have e : txr_ (fun s => isl_ (t s)) (d + 1) s = txr_ (fun s => isl_ (t s)) d (s + 1) := if_pos hl
      rw [e]
      show f_X3_advance_107_b F _ _ = _
      unfold f_X3_advance_107_b
      rw [u_eq, g2, if_neg (nI_ge (by omega) (by omega)), if_neg (nI_in (by omega) (by decide)), nI_clamp (by omega), h47, clet (hbyte s (by omega)), n_bind, if_pos hl, if_neg n10, u_eq, nI_1, n_let, txu_]
      exact ih (s + 1) f (by omega) (by omega) (by omega)
    · have e : txr_ (fun s => isl_ (t s)) (d + 1) s = s := if_neg hl
      rw [e]
      show f_X3_advance_107_b F _ _ = _
      unfold f_X3_advance_107_b
      rw [u_eq, g2, if_neg (nI_ge (by omega) (by omega)), if_neg (nI_in (by omega) (by decide)), nI_clamp (by omega), h47, clet (hbyte s (by omega)), n_bind, if_neg hl, if_pos rfl, fin s hps (by omega)]
theorem tx8 {a b c : Int32} : nd_up (nd_up (nd_up γ 38 8 a) 38 10 b) 38 8 c = nd_up (nd_up γ 38 8 c) 38 10 b := by
  rw [txc_ (by decide : (10 : Nat) ≠ 8), txu_]
theorem c_189 (hb : cb_ γ t z k) {p : Nat} (h9 : γ 38 9 = nI p) : ∀ d s f v : Nat, s + d = z → d < f → p ≤ s → v ≤ 99999 → f_X3_advance_189 F f (nd_up (nd_up γ 38 8 (nI v)) 38 10 (nI s)) = some (0, nd_up (nd_up (nd_up γ 38 8 (nI (nvf_ t (txr_ (fun s => isd_ (t s)) d s - s) s v))) 38 10 (nI (txr_ (fun s => isd_ (t s)) d s))) 38 7 (if txr_ (fun s => isd_ (t s)) d s - p ≤ 4 then 2 else 4)) := by
  have hz := hb.1
  have hbyte := hb.2.1
  have g2 : ∀ s v : Nat, nd_up (nd_up γ 38 8 (nI v)) 38 10 (nI s) 38 2 = nI z := fun s v => by rw [u_ne2 (by decide), u_ne2 (by decide)]; exact hb.2.2.1
  have fin : ∀ s v : Nat, p ≤ s → s ≤ z → f_X3_advance_269 F (nd_up (nd_up γ 38 8 (nI v)) 38 10 (nI s)) = some (0, nd_up (nd_up (nd_up γ 38 8 (nI v)) 38 10 (nI s)) 38 7 (if s - p ≤ 4 then 2 else 4)) := by
    intro s v hps hsz
    unfold f_X3_advance_269 f_X3_advance_288
    rw [u_eq, show nd_up (nd_up γ 38 8 (nI v)) 38 10 (nI s) 38 9 = nI p by rw [u_ne2 (by decide), u_ne2 (by decide)]; exact h9, n_sub hps]
    by_cases h4 : s - p ≤ 4
    · rw [if_pos h4, if_pos (show nI (s - p) ≤ (4 : Int32) from nI_le (b := 4) h4 (by decide)), n_let]
    · rw [if_neg h4, if_neg (show ¬ nI (s - p) ≤ (4 : Int32) from nI_ge (a := 4) (by omega) (by omega)), n_let]
  intro d
  induction d with
  | zero =>
    intro s f v hs hf hps hv
    obtain ⟨f, rfl⟩ : ∃ g, f = g + 1 := ⟨f - 1, by omega⟩
    show f_X3_advance_189_b F _ _ = some (0, nd_up (nd_up (nd_up γ 38 8 (nI (nvf_ t (s - s) s v))) 38 10 (nI s)) 38 7 (if s - p ≤ 4 then 2 else 4))
    unfold f_X3_advance_189_b
    rw [Nat.sub_self, u_eq, g2, if_pos (nI_le (by omega) (by omega)), fin s v hps (by omega)]
    rfl
  | succ d ih =>
    intro s f v hs hf hps hv
    obtain ⟨f, rfl⟩ : ∃ g, f = g + 1 := ⟨f - 1, by omega⟩
    have h47 : nd_up (nd_up γ 38 8 (nI v)) 38 10 (nI s) 47 s = nI (t s) := by rw [u_ne1 (by decide), u_ne1 (by decide)]; exact hb.2.2.2.1 s (by omega)
    by_cases hl : isd_ (t s) = true
    · have hd := of_decide_eq_true hl
      have e : txr_ (fun s => isd_ (t s)) (d + 1) s = txr_ (fun s => isd_ (t s)) d (s + 1) := if_pos hl
      have hq := (txr_le (P := fun s => isd_ (t s)) d (s + 1)).1
      rw [e]
      have ev : nvf_ t (txr_ (fun s => isd_ (t s)) d (s + 1) - s) s v = nvf_ t (txr_ (fun s => isd_ (t s)) d (s + 1) - (s + 1)) (s + 1) (if v ≤ 9999 then v * 10 + (t s - 48) else v) := by
        rw [show txr_ (fun s => isd_ (t s)) d (s + 1) - s = (txr_ (fun s => isd_ (t s)) d (s + 1) - (s + 1)) + 1 by omega]
        rfl
      rw [ev]
      show f_X3_advance_189_b F _ _ = _
      unfold f_X3_advance_189_b f_X3_advance_253
      rw [u_eq, g2, if_neg (nI_ge (by omega) (by omega)), if_neg (nI_in (by omega) (by decide)), nI_clamp (by omega), h47, cdig (hbyte s (by omega)), n_bind, if_pos hl, if_neg n10, show nd_up (nd_up γ 38 8 (nI v)) 38 10 (nI s) 38 8 = nI v by rw [u_ne2 (by decide), u_eq], u_eq, if_neg (nI_in (by omega) (by decide)), nI_clamp (by omega), h47]
      by_cases hv9 : v ≤ 9999
      · rw [if_pos (show nI v ≤ (9999 : Int32) from nI_le (b := 9999) hv9 (by decide)), n_let, tx8, u_eq, nI_1, n_let, txu_, if_pos hv9, show nI v * (10 : Int32) + nI (t s) - 48 = nI (v * 10 + (t s - 48)) by
          rw [show (10 : Int32) = nI 10 from rfl, n_mul, n_add, show (48 : Int32) = nI 48 from rfl, n_sub (by omega), show v * 10 + t s - 48 = v * 10 + (t s - 48) by omega]]
        exact ih (s + 1) f _ (by omega) (by omega) (by omega) (by omega)
      · rw [if_neg (show ¬ nI v ≤ (9999 : Int32) from nI_ge (a := 9999) (by omega) (by omega)), n_let, tx8, u_eq, nI_1, n_let, txu_, if_neg hv9]
        exact ih (s + 1) f _ (by omega) (by omega) (by omega) (by omega)
    · have e : txr_ (fun s => isd_ (t s)) (d + 1) s = s := if_neg hl
      rw [e, Nat.sub_self]
      show f_X3_advance_189_b F _ _ = _
      unfold f_X3_advance_189_b
      rw [u_eq, g2, if_neg (nI_ge (by omega) (by omega)), if_neg (nI_in (by omega) (by decide)), nI_clamp (by omega), h47, cdig (hbyte s (by omega)), n_bind, if_neg hl, if_pos rfl, fin s v hps (by omega)]
      rfl
theorem c_skip (hb : cb_ c t z k) : ∀ d s f : Nat, s + d = z → d < f → f_X3_advance_8 F f (nd_up c 38 9 (nI s)) = f_X3_advance_60 F (nd_up c 38 9 (nI (txr_ (fun i => isb_ (t i)) d s))) := by
  have hz := hb.1
  have hbyte := hb.2.1
  have g2 : ∀ s : Nat, nd_up c 38 9 (nI s) 38 2 = nI z := fun s => by rw [u_ne2 (by decide)]; exact hb.2.2.1
  intro d
  induction d with
  | zero =>
    intro s f hs hf
    obtain ⟨f, rfl⟩ : ∃ g, f = g + 1 := ⟨f - 1, by omega⟩
    show f_X3_advance_8_b F _ _ = f_X3_advance_60 F (nd_up c 38 9 (nI s))
    unfold f_X3_advance_8_b
    rw [u_eq, g2, if_pos (nI_le (by omega) (by omega))]
  | succ d ih =>
    intro s f hs hf
    obtain ⟨f, rfl⟩ : ∃ g, f = g + 1 := ⟨f - 1, by omega⟩
    have hx := hbyte s (by omega)
    have h47 : nd_up c 38 9 (nI s) 47 s = nI (t s) := by rw [u_ne1 (by decide)]; exact hb.2.2.2.1 s (by omega)
    have nx := ih (s + 1) f (by omega) (by omega)
    by_cases hl : isb_ (t s) = true
    · have e : txr_ (fun i => isb_ (t i)) (d + 1) s = txr_ (fun i => isb_ (t i)) d (s + 1) := if_pos hl
      rw [e, ← nx]
      show f_X3_advance_8_b F _ _ = _
      unfold f_X3_advance_8_b f_X3_advance_47
      rw [u_eq, g2, if_neg (nI_ge (by omega) (by omega)), if_neg (nI_in (by omega) (by decide)), nI_clamp (by omega), h47, if_neg (nn_in (by omega) (by omega)), nI_1, n_let, txu_]
      by_cases h32 : t s = 32
      · rw [if_pos (show nI (t s) = (32 : Int32) by rw [h32]; rfl)]
      · have h10 : t s = 10 := by
          have := of_decide_eq_true hl
          omega
        rw [if_neg (show ¬ nI (t s) = (32 : Int32) from fun e => h32 ((nI_eq (b := 32) (by omega) (by decide)).mp e)), if_pos (show nI (t s) = (10 : Int32) by rw [h10]; rfl)]
    · have e : txr_ (fun i => isb_ (t i)) (d + 1) s = s := if_neg hl
      have hd : ¬ (t s = 32 ∨ t s = 10) := fun e => hl (decide_eq_true e)
      rw [e]
      show f_X3_advance_8_b F _ _ = _
      unfold f_X3_advance_8_b
      rw [u_eq, g2, if_neg (nI_ge (by omega) (by omega)), if_neg (nI_in (by omega) (by decide)), nI_clamp (by omega), h47, if_neg (show ¬ nI (t s) = (32 : Int32) from fun e => hd (Or.inl ((nI_eq (b := 32) (by omega) (by decide)).mp e))), if_neg (nn_in (by omega) (by omega)), if_neg (show ¬ nI (t s) = (10 : Int32) from fun e => hd (Or.inr ((nI_eq (b := 10) (by omega) (by decide)).mp e)))]
theorem c_60 (hF : 300000 ≤ F) (hb : cb_ c t z k) {p : Nat} (hp : p ≤ z) : ∃ c' : nd_Mem, f_X3_advance_60 F (nd_up c 38 9 (nI p)) = some (0, c') ∧ ctk_ c' t z k p ∧ fck_ [7, 8, 9, 10] c c' := by
  have hz := hb.1
  have hbyte := hb.2.1
  have hk := hb.2.2.2.2.2.1
  have hkl := kw_len ⟨k, hk⟩
  have hkl : (kws_ k).length ≤ 17 ∧ (kws_ k).length = (kls_.getD k []).length := hkl
  have FRc : ∀ {a : Int32}, fck_ [7, 8, 9, 10] c (nd_up c 38 9 a) := fc_up fc_rf (by decide)
  have b9 : cb_ (nd_up c 38 9 (nI p)) t z k := cb_up hb (by decide) (by decide) (by decide) (by decide)
  have c1 : nd_up (nd_up (nd_up c 38 9 (nI p)) 38 10 (nI p)) 38 8 0 = nd_up (nd_up (nd_up c 38 9 (nI p)) 38 8 0) 38 10 (nI p) := txc_ (by decide)
  have g9 : nd_up (nd_up (nd_up c 38 9 (nI p)) 38 8 0) 38 10 (nI p) 38 9 = nI p := by rw [u_ne2 (by decide), u_ne2 (by decide), u_eq]
  have g2 : nd_up (nd_up (nd_up c 38 9 (nI p)) 38 8 0) 38 10 (nI p) 38 2 = nI z := by rw [u_ne2 (by decide), u_ne2 (by decide), u_ne2 (by decide)]; exact hb.2.2.1
  by_cases hpz : p < z
  · have hx := hbyte p hpz
    have h47 : nd_up (nd_up (nd_up c 38 9 (nI p)) 38 8 0) 38 10 (nI p) 47 p = nI (t p) := by rw [u_ne1 (by decide), u_ne1 (by decide), u_ne1 (by decide)]; exact hb.2.2.2.1 p hpz
    obtain ⟨sr, s1, s2⟩ := c_sig (γ := nd_up (nd_up (nd_up (nd_up (nd_up c 38 9 (nI p)) 38 8 0) 38 10 (nI p)) 38 10 (nI (p + 1))) 38 8 (nI (t p))) hF hx
    have start : f_X3_advance_60 F (nd_up c 38 9 (nI p)) = (if isl_ (t p) = true then f_X3_advance_107 F F (nd_up (nd_up (nd_up c 38 9 (nI p)) 38 8 0) 38 10 (nI p)) else if isd_ (t p) = true then f_X3_advance_189 F F (nd_up (nd_up (nd_up c 38 9 (nI p)) 38 8 0) 38 10 (nI p)) else some (0, nd_up (nd_up (nd_up (nd_up (nd_up (nd_up c 38 9 (nI p)) 38 8 0) 38 10 (nI p)) 38 10 (nI (p + 1))) 38 8 (nI (t p))) 38 7 (if iss_ (t p) = true then 3 else 4))) := by
      unfold f_X3_advance_60 f_X3_advance_336
      rw [u_eq, n_let, n_let, c1, g9, g2, if_pos (nI_lt hpz (by omega)), if_neg (nI_in (by omega) (by decide)), nI_clamp (by omega), h47, clet hx, n_bind]
      by_cases h1 : isl_ (t p) = true
      · rw [if_pos h1, if_pos h1, if_neg n10]
      · rw [if_neg h1, if_neg h1, if_pos rfl, g9, if_neg (nI_in (by omega) (by decide)), nI_clamp (by omega), h47, cdig hx, n_bind]
        by_cases h2 : isd_ (t p) = true
        · rw [if_pos h2, if_pos h2, if_neg n10]
        · rw [if_neg h2, if_neg h2, if_pos rfl, u_eq, nI_1, n_let, show nd_up (nd_up (nd_up (nd_up c 38 9 (nI p)) 38 8 0) 38 10 (nI p)) 38 10 (nI (p + 1)) 38 9 = nI p by rw [u_ne2 (by decide)]; exact g9, if_neg (nI_in (by omega) (by decide)), nI_clamp (by omega), show nd_up (nd_up (nd_up (nd_up c 38 9 (nI p)) 38 8 0) 38 10 (nI p)) 38 10 (nI (p + 1)) 47 p = nI (t p) by rw [u_ne1 (by decide)]; exact h47, n_let, u_eq, sgn_cut ⟨t p, hx⟩, s1, n_bind]
          by_cases h3 : iss_ (t p) = true
          · rw [if_pos h3, if_pos (s2.mpr h3), n_let]
          · rw [if_neg h3, if_neg (fun e => h3 (s2.mp e)), n_let]
    by_cases h1 : isl_ (t p) = true
    · rw [if_pos h1] at start
      have q := c_107 (γ := nd_up (nd_up c 38 9 (nI p)) 38 8 0) hF (cb_up b9 (by decide) (by decide) (by decide) (by decide)) (p := p) (by rw [u_ne2 (by decide), u_eq]) (z - p) p F (by omega) (by omega) (Nat.le_refl p)
      have hqe : txr_ (fun s => isl_ (t s)) (z - p) p = tqe_ t z p := by
        unfold tqe_
        rw [if_neg (by omega), if_pos h1]
      rw [hqe] at q
      have hkk : tk_ t z p = if twd_ t z p < 24 then 2 else 1 := by
        unfold tk_
        rw [if_neg (by omega), if_pos h1]
      have hv : tv_ t z p = twd_ t z p := if_pos h1
      obtain ⟨w1, w2⟩ := kw_wd hk (s := seg_ t p (tqe_ t z p))
      have hw : wif_ (seg_ t p (tqe_ t z p)) wl_ = twd_ t z p := rfl
      rw [hw] at w1 w2
      by_cases h24 : twd_ t z p < 24
      · rw [if_pos h24] at hkk
        have hx1 := w1 h24
        have hx2 : kx_ t z k p = wjf_ (twd_ t z p) (kls_.getD k []) := by unfold kx_; rw [hv]
        rw [hx1, ← hx2, hkl.2] at q
        by_cases hin : kx_ t z k p < (kls_.getD k []).length
        · rw [if_pos hin] at q
          refine ⟨_, start.trans q, ⟨?_, ?_, fun h => ?_, fun h => ?_, fun _ _ => ⟨?_, ?_⟩, fun _ h => absurd hin h, fun h => ?_, fun h => ?_⟩, fc_up (fc_up (fc_up (fc_up FRc (by decide)) (by decide)) (by decide)) (by decide)⟩
          · rw [u_ne2 (by decide), u_ne2 (by decide), u_eq]
          · rw [u_ne2 (by decide), u_ne2 (by decide), u_ne2 (by decide), u_ne2 (by decide), u_eq]
          · omega
          · omega
          · rw [u_eq]
          · rw [u_ne2 (by decide), u_eq]
          · omega
          · omega
        · rw [if_neg hin] at q
          refine ⟨_, start.trans q, ⟨?_, ?_, fun h => ?_, fun h => ?_, fun _ h => absurd h hin, fun _ _ => ?_, fun h => ?_, fun h => ?_⟩, fc_up (fc_up (fc_up (fc_up FRc (by decide)) (by decide)) (by decide)) (by decide)⟩
          · rw [u_ne2 (by decide), u_ne2 (by decide), u_eq]
          · rw [u_ne2 (by decide), u_ne2 (by decide), u_ne2 (by decide), u_ne2 (by decide), u_eq]
          · omega
          · omega
          · rw [u_eq]
          · omega
          · omega
      · rw [if_neg h24] at hkk
        have hx1 := w2 (by omega)
        rw [hx1, if_neg (Nat.lt_irrefl _)] at q
        refine ⟨_, start.trans q, ⟨?_, ?_, fun h => ?_, fun _ => ?_, fun h => ?_, fun h => ?_, fun h => ?_, fun h => ?_⟩, fc_up (fc_up (fc_up (fc_up FRc (by decide)) (by decide)) (by decide)) (by decide)⟩
        · rw [u_ne2 (by decide), u_ne2 (by decide), u_eq]
        · rw [u_ne2 (by decide), u_ne2 (by decide), u_ne2 (by decide), u_ne2 (by decide), u_eq]
        · omega
        · rw [u_eq]
        · omega
        · omega
        · omega
        · omega
    · rw [if_neg h1] at start
      by_cases h2 : isd_ (t p) = true
      · rw [if_pos h2] at start
        have q := c_189 (F := F) (γ := nd_up c 38 9 (nI p)) b9 (p := p) (u_eq _ _ _ _) (z - p) p F 0 (by omega) (by omega) (Nat.le_refl p) (by omega)
        have hqe : txr_ (fun s => isd_ (t s)) (z - p) p = tqe_ t z p := by
          unfold tqe_
          rw [if_neg (by omega), if_neg h1, if_pos h2]
        rw [hqe] at q
        have hv : tv_ t z p = nvf_ t (tqe_ t z p - p) p 0 := by
          unfold tv_
          rw [if_neg h1, if_pos h2]
        rw [← hv] at q
        have hkk : tk_ t z p = if tqe_ t z p - p ≤ 4 then 3 else 1 := by
          unfold tk_
          rw [if_neg (by omega), if_neg h1, if_pos h2]
        have q' : f_X3_advance_189 F F (nd_up (nd_up (nd_up c 38 9 (nI p)) 38 8 0) 38 10 (nI p)) = _ := q
        by_cases h4 : tqe_ t z p - p ≤ 4
        · rw [if_pos h4] at q' hkk
          refine ⟨_, start.trans q', ⟨?_, ?_, fun h => ?_, fun h => ?_, fun h => ?_, fun h => ?_, fun _ => ⟨?_, ?_⟩, fun h => ?_⟩, fc_up (fc_up (fc_up FRc (by decide)) (by decide)) (by decide)⟩
          · rw [u_ne2 (by decide), u_eq]
          · rw [u_ne2 (by decide), u_ne2 (by decide), u_ne2 (by decide), u_eq]
          · omega
          · omega
          · omega
          · omega
          · rw [u_eq]
          · rw [u_ne2 (by decide), u_ne2 (by decide), u_eq]
          · omega
        · rw [if_neg h4] at q' hkk
          refine ⟨_, start.trans q', ⟨?_, ?_, fun h => ?_, fun h => ?_, fun h => ?_, fun h => ?_, fun h => ?_, fun h => ?_⟩, fc_up (fc_up (fc_up FRc (by decide)) (by decide)) (by decide)⟩
          · rw [u_ne2 (by decide), u_eq]
          · rw [u_ne2 (by decide), u_ne2 (by decide), u_ne2 (by decide), u_eq]
          · omega
          · rw [u_eq]
          · omega
          · omega
          · omega
          · omega
      · rw [if_neg h2] at start
        have hq : tqe_ t z p = p + 1 := by
          unfold tqe_
          rw [if_neg (by omega), if_neg h1, if_neg h2]
        have hv : tv_ t z p = t p := by
          unfold tv_
          rw [if_neg h1, if_neg h2]
        have hkk : tk_ t z p = if iss_ (t p) = true then 4 else 1 := by
          unfold tk_
          rw [if_neg (by omega), if_neg h1, if_neg h2]
        by_cases h3 : iss_ (t p) = true
        · rw [if_pos h3] at start hkk
          refine ⟨_, start, ⟨?_, ?_, fun h => ?_, fun h => ?_, fun h => ?_, fun h => ?_, fun h => ?_, fun _ => ⟨?_, ?_⟩⟩, fc_up (fc_up (fc_up (fc_up (fc_up FRc (by decide)) (by decide)) (by decide)) (by decide)) (by decide)⟩
          · rw [u_ne2 (by decide), u_ne2 (by decide), u_eq, hq]
          · rw [u_ne2 (by decide), u_ne2 (by decide), u_ne2 (by decide), g9]
          · omega
          · omega
          · omega
          · omega
          · omega
          · rw [u_eq]
          · rw [u_ne2 (by decide), u_eq, hv]
        · rw [if_neg h3] at start hkk
          refine ⟨_, start, ⟨?_, ?_, fun h => ?_, fun h => ?_, fun h => ?_, fun h => ?_, fun h => ?_, fun h => ?_⟩, fc_up (fc_up (fc_up (fc_up (fc_up FRc (by decide)) (by decide)) (by decide)) (by decide)) (by decide)⟩
          · rw [u_ne2 (by decide), u_ne2 (by decide), u_eq, hq]
          · rw [u_ne2 (by decide), u_ne2 (by decide), u_ne2 (by decide), g9]
          · omega
          · rw [u_eq]
          · omega
          · omega
          · omega
          · omega
  · have hkk : tk_ t z p = 0 := if_pos (by omega)
    have hq : tqe_ t z p = p := if_pos (by omega)
    refine ⟨nd_up (nd_up (nd_up (nd_up c 38 9 (nI p)) 38 8 0) 38 10 (nI p)) 38 7 0, ?_, ⟨?_, ?_, fun _ => ?_, fun h => ?_, fun h => ?_, fun h => ?_, fun h => ?_, fun h => ?_⟩, fc_up (fc_up (fc_up FRc (by decide)) (by decide)) (by decide)⟩
    · unfold f_X3_advance_60
      rw [u_eq, n_let, n_let, c1, g9, g2, if_neg (nI_nlt (by omega) (by omega)), n_let]
    · rw [u_ne2 (by decide), u_eq, hq]
    · rw [u_ne2 (by decide), g9]
    · rw [u_eq]
    · omega
    · omega
    · omega
    · omega
    · omega
theorem c_adv (hF : 300000 ≤ F) (hb : cb_ c t z k) {s : Nat} (hs : c 38 10 = nI s) (hsz : s ≤ z) : ∃ c' : nd_Mem, f_X3_advance F c = some (0, c') ∧ ctk_ c' t z k (tn_ t z s) ∧ fck_ [7, 8, 9, 10] c c' := by
  have hz := hb.1
  obtain ⟨c', q1, q2, q3⟩ := c_60 (p := tn_ t z s) hF hb (tn_le (t := t) hsz).2
  refine ⟨c', ?_, q2, q3⟩
  unfold f_X3_advance
  rw [hs, n_let, c_skip hb (z - s) s F (by omega) (by omega)]
  exact q1
end CB
