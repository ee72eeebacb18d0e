/-! text: the reference reads a token -/
def rb_ (r : nd_Mem) (t : Nat → Nat) (z : Nat) : Prop := z ≤ 400 ∧ (∀ i : Nat, i < z → t i < 256) ∧ r 60 9 = nI z ∧ (∀ i : Nat, i < z → r 65 i = nI (t i)) ∧ ∀ i : Nat, i < 134 → r 66 i = nI (iv_words.getD i 0)
def rt_ (r : nd_Mem) (t : Nat → Nat) (z p : Nat) : Prop := r 60 10 = nI (tqe_ t z p) ∧ r 60 11 = nI p ∧ r 60 12 = nI (tk_ t z p) ∧ (2 ≤ tk_ t z p → r 60 13 = nI (tv_ t z p))
theorem wd_ok : ∀ j : Fin 24, wps_.getD (j.val + 1) 0 = wps_.getD j.val 0 + 1 + (wl_.getD j.val []).length ∧ iv_words.getD (wps_.getD (j.val + 1) 0) 0 = 32 ∧ wps_.getD (j.val + 1) 0 ≤ 133 ∧ (wl_.getD j.val []).length ≤ 10 ∧ ∀ i : Fin 11, i.val < (wl_.getD j.val []).length → iv_words.getD (wps_.getD j.val 0 + 1 + i.val) 0 = (wl_.getD j.val []).getD i.val 0 ∧ (wl_.getD j.val []).getD i.val 0 ≠ 32 ∧ (wl_.getD j.val []).getD i.val 0 < 256 := by decide +kernel
theorem wps_24 : wps_.getD 24 0 = 133 := by decide +kernel
theorem wps_0 : wps_.getD 0 0 = 0 := by decide +kernel
theorem wps_lt : ∀ j : Fin 24, wps_.getD j.val 0 < 133 := by decide +kernel
theorem txu_ {σ : nd_Mem} {i k : Nat} {a b : Int32} : nd_up (nd_up σ i k a) i k b = nd_up σ i k b := by
  funext x y
  by_cases h1 : x = i
  · rw [h1]
    by_cases h2 : y = k
    · rw [h2, u_eq, u_eq]
    · rw [u_ne2 h2, u_ne2 h2, u_ne2 h2]
  · rw [u_ne1 h1, u_ne1 h1, u_ne1 h1]
theorem rb_up {r : nd_Mem} {t : Nat → Nat} {z k : Nat} {v : Int32} (h : rb_ r t z) (hk : k ≠ 9) : rb_ (nd_up r 60 k v) t z := by
  obtain ⟨h1, h2, h3, h4, h5⟩ := h
  exact ⟨h1, h2, by rw [u_ne2 (Ne.symm hk)]; exact h3, fun i hi => by rw [u_ne1 (by decide)]; exact h4 i hi, fun i hi => by rw [u_ne1 (by decide)]; exact h5 i hi⟩
section RW
variable {F z : Nat} {r ρ : nd_Mem} {t : Nat → Nat}
theorem isN {x a b : Nat} {la lb : Int32} (ha : la = nI a) (hb : lb = nI b) (hx : x < 2147483648) (ha' : a < 2147483648) (hb' : b < 2147483648) : f_X11_isIn F (nI x) la lb ρ = some (if x < a ∨ b < x then 0 else 1, ρ) := by
  rw [e_isIn, ha, hb]
  have e1 : (nI x < nI a) = (x < a) := n_lt hx ha'
  have e2 : (nI b < nI x) = (b < x) := n_lt hb' hx
  by_cases h : x < a ∨ b < x
  · rw [if_pos h, if_pos (by rw [e1, e2]; exact h)]
  · rw [if_neg h, if_neg (by rw [e1, e2]; exact h)]
theorem rawN (hb : rb_ ρ t z) {s : Nat} (hs : s ≤ z) : f_X11_raw F (nI s) ρ = some (if s < z then nI (t s) else -1, ρ) := by
  obtain ⟨h1, h2, h3, h4, h5⟩ := hb
  unfold f_X11_raw
  rw [h3]
  by_cases h : s < z
  · rw [if_neg (nI_ge h (by omega)), if_neg (nI_in (by omega) (by decide)), nI_clamp (by omega), if_pos h, h4 s h]
  · rw [if_pos (nI_le (by omega) (by omega)), if_neg h]
theorem letN {x : Nat} (hx : x < 256) : f_X11_isLetter F (nI x) ρ = some (if isl_ x = true then 1 else 0, ρ) := by
  unfold f_X11_isLetter f_X11_isLetter_24
  rw [isN (la := (97 : Int32)) (lb := (122 : Int32)) (a := 97) (b := 122) rfl rfl (by omega) (by decide) (by decide), n_bind]
  by_cases h1 : x < 97 ∨ 122 < x
  · rw [if_pos h1, if_pos rfl, isN (la := (65 : Int32)) (lb := (90 : Int32)) (a := 65) (b := 90) rfl rfl (by omega) (by decide) (by decide), n_bind]
    by_cases h2 : x < 65 ∨ 90 < x
    · rw [if_pos h2, if_pos rfl, if_neg (show ¬ isl_ x = true from fun e => by have := of_decide_eq_true e; omega)]
    · rw [if_neg h2, if_neg n10, if_pos (show isl_ x = true from decide_eq_true (by omega))]
  · rw [if_neg h1, if_neg n10, if_pos (show isl_ x = true from decide_eq_true (by omega))]
theorem letM : f_X11_isLetter F (-1) ρ = some (0, ρ) := by
  unfold f_X11_isLetter
  rw [e_isIn, if_pos (show (-1 : Int32) < 97 ∨ (122 : Int32) < -1 by decide), n_bind, if_pos rfl, e_isIn, if_pos (show (-1 : Int32) < 65 ∨ (90 : Int32) < -1 by decide), n_bind, if_pos rfl]
theorem digN {x : Nat} (hx : x < 256) : f_X11_isDigit F (nI x) ρ = some (if isd_ x = true then 1 else 0, ρ) := by
  unfold f_X11_isDigit
  rw [isN (la := (48 : Int32)) (lb := (57 : Int32)) (a := 48) (b := 57) rfl rfl (by omega) (by decide) (by decide), n_bind]
  by_cases h1 : x < 48 ∨ 57 < x
  · rw [if_pos h1, if_neg (by decide), if_neg (show ¬ isd_ x = true from fun e => by have := of_decide_eq_true e; omega)]
  · rw [if_neg h1, if_neg (by decide), if_pos (show isd_ x = true from decide_eq_true (by omega))]
theorem digM : f_X11_isDigit F (-1) ρ = some (0, ρ) := by
  unfold f_X11_isDigit
  rw [e_isIn, if_pos (show (-1 : Int32) < 48 ∨ (57 : Int32) < -1 by decide), n_bind, if_neg (by decide)]
theorem sig_all : ∀ x : Fin 256, (f_X11_isMarkSign 0 (nI x.val) (fun _ _ => 0)).map (fun p => p.1) = some (if iss_ x.val = true then 1 else 0) := by decide +kernel
theorem sigN {x : Nat} (hx : x < 256) : f_X11_isMarkSign F (nI x) ρ = some (if iss_ x = true then 1 else 0, ρ) := by
  have h := sig_all ⟨x, hx⟩
  unfold f_X11_isMarkSign f_X11_isMarkSign_60 at h ⊢
  repeat' split
  all_goals simp_all
/-! words -/
theorem m_w94 {rec5 : Int32 → Int32 → Int32 → Int32 → nd_Mem → nd_Res} {x1 x2 x3 : Int32} (hw : ∀ i : Nat, i < 134 → ρ 66 i = nI (iv_words.getD i 0)) {j : Nat} (hj : j < 24) : ∀ d i f : Nat, i + d = (wl_.getD j []).length → d < f → f_X11_wordAt_94 F rec5 f x1 x2 x3 (nI (wps_.getD j 0 + 1 + i)) ρ = rec5 x1 x2 x3 (nI (wps_.getD (j + 1) 0)) ρ := by
  obtain ⟨k1, k2, k3, k4, k5⟩ := wd_ok ⟨j, hj⟩
  have k1 : wps_.getD (j + 1) 0 = wps_.getD j 0 + 1 + (wl_.getD j []).length := k1
  have k2 : iv_words.getD (wps_.getD (j + 1) 0) 0 = 32 := k2
  have k3 : wps_.getD (j + 1) 0 ≤ 133 := k3
  have k4 : (wl_.getD j []).length ≤ 10 := k4
  have k5 : ∀ i : Fin 11, i.val < (wl_.getD j []).length → iv_words.getD (wps_.getD j 0 + 1 + i.val) 0 = (wl_.getD j []).getD i.val 0 ∧ (wl_.getD j []).getD i.val 0 ≠ 32 ∧ (wl_.getD j []).getD i.val 0 < 256 := k5
  intro d
  induction d with
  | zero =>
    intro i f hi hf
    obtain ⟨f, rfl⟩ : ∃ g, f = g + 1 := ⟨f - 1, by omega⟩
    show f_X11_wordAt_94_b F rec5 _ _ _ _ _ _ = _
    unfold f_X11_wordAt_94_b
    rw [show wps_.getD j 0 + 1 + i = wps_.getD (j + 1) 0 by omega, if_neg (nI_in (by omega) (by decide)), nI_clamp (by omega), hw _ (by omega), k2, if_pos (show nI 32 = (32 : Int32) from rfl)]
  | succ d ih =>
    intro i f hi hf
    obtain ⟨f, rfl⟩ : ∃ g, f = g + 1 := ⟨f - 1, by omega⟩
    obtain ⟨q1, q2, q3⟩ := k5 ⟨i, by omega⟩ (by show i < _; omega)
    have q1 : iv_words.getD (wps_.getD j 0 + 1 + i) 0 = (wl_.getD j []).getD i 0 := q1
    have q2 : (wl_.getD j []).getD i 0 ≠ 32 := q2
    have q3 : (wl_.getD j []).getD i 0 < 256 := q3
    show f_X11_wordAt_94_b F rec5 _ _ _ _ _ _ = _
    unfold f_X11_wordAt_94_b
    rw [if_neg (nI_in (by omega) (by decide)), nI_clamp (by omega), hw _ (by omega), q1, if_neg (show ¬ nI ((wl_.getD j []).getD i 0) = (32 : Int32) from fun e => q2 ((nI_eq (b := 32) (by omega) (by decide)).mp e)), nI_1]
    exact ih (i + 1) f (by omega) (by omega)
theorem m_w20 (hF : 300000 ≤ F) {rec5 : Int32 → Int32 → Int32 → Int32 → nd_Mem → nd_Res} {x3 : Int32} {a b : Nat} (hab : a < b) (hb4 : b ≤ 400) (hw : ∀ i : Nat, i < 134 → ρ 66 i = nI (iv_words.getD i 0)) (ht : ∀ i : Nat, a ≤ i → i < b → ρ 65 i = nI (t i) ∧ t i ≠ 32 ∧ t i < 256) {j : Nat} (hj : j < 24) : ∀ d i f : Nat, i + d = b - a → d < f → i ≤ (wl_.getD j []).length → (∀ m : Nat, m < i → t (a + m) = (wl_.getD j []).getD m 0) → f_X11_wordAt_20 F rec5 f (nI a) (nI b) x3 (nI (wps_.getD j 0)) (nI i) ρ = if seg_ t a b = wl_.getD j [] then some (x3, ρ) else rec5 (nI a) (nI b) x3 (nI (wps_.getD (j + 1) 0)) ρ := by
  obtain ⟨k1, k2, k3, k4, k5⟩ := wd_ok ⟨j, hj⟩
  have k1 : wps_.getD (j + 1) 0 = wps_.getD j 0 + 1 + (wl_.getD j []).length := k1
  have k2 : iv_words.getD (wps_.getD (j + 1) 0) 0 = 32 := k2
  have k3 : wps_.getD (j + 1) 0 ≤ 133 := k3
  have k4 : (wl_.getD j []).length ≤ 10 := k4
  have k5 : ∀ i : Fin 11, i.val < (wl_.getD j []).length → iv_words.getD (wps_.getD j 0 + 1 + i.val) 0 = (wl_.getD j []).getD i.val 0 ∧ (wl_.getD j []).getD i.val 0 ≠ 32 ∧ (wl_.getD j []).getD i.val 0 < 256 := k5
  have h88 : f_X11_wordAt_88 F rec5 (nI a) (nI b) x3 (nI (wps_.getD j 0)) ρ = rec5 (nI a) (nI b) x3 (nI (wps_.getD (j + 1) 0)) ρ := by
    unfold f_X11_wordAt_88
    rw [nI_1]
    exact m_w94 hw hj (wl_.getD j []).length 0 F (by omega) (by omega)
  have hix : ∀ i : Nat, nI (wps_.getD j 0) + (1 : Int32) + nI i = nI (wps_.getD j 0 + 1 + i) := fun i => by rw [nI_1, n_add]
  intro d
  induction d with
  | zero =>
    intro i f hi hf hil heq
    obtain ⟨f, rfl⟩ : ∃ g, f = g + 1 := ⟨f - 1, by omega⟩
    show f_X11_wordAt_20_b F rec5 _ _ _ _ _ _ _ = _
    unfold f_X11_wordAt_20_b f_X11_wordAt_61
    rw [n_add, if_pos (nI_le (by omega) (by omega)), if_pos (show nI (a + i) = nI b by rw [show a + i = b by omega]), hix, if_neg (nI_in (by omega) (by decide)), nI_clamp (by omega), hw _ (by omega), h88]
    by_cases hl : i = (wl_.getD j []).length
    · have hs : seg_ t a b = wl_.getD j [] := seg_eq.mpr ⟨by omega, fun m hm => heq m (by omega)⟩
      rw [if_pos hs, if_pos (show nI (iv_words.getD (wps_.getD j 0 + 1 + i) 0) = (32 : Int32) by rw [show wps_.getD j 0 + 1 + i = wps_.getD (j + 1) 0 by omega, k2]; rfl)]
    · obtain ⟨q1, q2, q3⟩ := k5 ⟨i, by omega⟩ (by show i < _; omega)
      have q1 : iv_words.getD (wps_.getD j 0 + 1 + i) 0 = (wl_.getD j []).getD i 0 := q1
      have q2 : (wl_.getD j []).getD i 0 ≠ 32 := q2
      have q3 : (wl_.getD j []).getD i 0 < 256 := q3
      have hs : ¬ seg_ t a b = wl_.getD j [] := fun e => by have := (seg_eq.mp e).1; omega
      rw [if_neg hs, q1, if_neg (show ¬ nI ((wl_.getD j []).getD i 0) = (32 : Int32) from fun e => q2 ((nI_eq (b := 32) (by omega) (by decide)).mp e))]
  | succ d ih =>
    intro i f hi hf hil heq
    obtain ⟨f, rfl⟩ : ∃ g, f = g + 1 := ⟨f - 1, by omega⟩
    obtain ⟨t1, t2, t3⟩ := ht (a + i) (by omega) (by omega)
    have hne : ¬ nI (a + i) = nI b := fun e => by have := (nI_eq (by omega) (by omega)).mp e; omega
    show f_X11_wordAt_20_b F rec5 _ _ _ _ _ _ _ = _
    unfold f_X11_wordAt_20_b f_X11_wordAt_61
    rw [n_add, if_neg (nI_ge (by omega) (by omega)), hix, if_neg (nI_in (by omega) (by decide)), if_neg (nI_in (by omega) (by decide)), nI_clamp (by omega), nI_clamp (by omega), hw _ (by omega), t1, if_neg hne, h88, nI_1]
    by_cases hl : i = (wl_.getD j []).length
    · have hs : ¬ seg_ t a b = wl_.getD j [] := fun e => by have := (seg_eq.mp e).1; omega
      rw [if_neg hs, show wps_.getD j 0 + 1 + i = wps_.getD (j + 1) 0 by omega, k2, if_neg (fun e => t2 ((nI_eq (by decide) (by omega)).mp e).symm)]
    · obtain ⟨q1, q2, q3⟩ := k5 ⟨i, by omega⟩ (by show i < _; omega)
      have q1 : iv_words.getD (wps_.getD j 0 + 1 + i) 0 = (wl_.getD j []).getD i 0 := q1
      have q3 : (wl_.getD j []).getD i 0 < 256 := q3
      rw [q1]
      by_cases hc : t (a + i) = (wl_.getD j []).getD i 0
      · rw [if_pos (by rw [hc])]
        exact ih (i + 1) f (by omega) (by omega) (by omega) (fun m hm => by
          by_cases hmi : m = i
          · rw [hmi]; exact hc
          · exact heq m (by omega))
      · have hs : ¬ seg_ t a b = wl_.getD j [] := fun e => hc ((seg_eq.mp e).2 i (by omega))
        rw [if_neg hs, if_neg (fun e => hc ((nI_eq (by omega) (by omega)).mp e).symm)]
theorem wl_len : wl_.length = 24 := by decide +kernel
theorem m_w5 (hF : 300000 ≤ F) {a b : Nat} (hab : a < b) (hb4 : b ≤ 400) (hw : ∀ i : Nat, i < 134 → ρ 66 i = nI (iv_words.getD i 0)) (ht : ∀ i : Nat, a ≤ i → i < b → ρ 65 i = nI (t i) ∧ t i ≠ 32 ∧ t i < 256) : ∀ d j f : Nat, j + d = 24 → d < f → (∀ i : Nat, i < j → wl_.getD i [] ≠ seg_ t a b) → f_X11_wordAt_5 F f (nI a) (nI b) (nI j - 1) (nI (wps_.getD j 0)) ρ = some (if wif_ (seg_ t a b) wl_ < 24 then nI (wif_ (seg_ t a b) wl_) else -1, ρ) := by
  intro d
  induction d with
  | zero =>
    intro j f hj hf hno
    obtain ⟨f, rfl⟩ : ∃ g, f = g + 1 := ⟨f - 1, by omega⟩
    have : j = 24 := by omega
    subst this
    show f_X11_wordAt_5_b F _ _ _ _ _ _ = _
    unfold f_X11_wordAt_5_b
    have hn := wif_no wl_ (s := seg_ t a b) (fun i hi => hno i (by rw [wl_len] at hi; exact hi))
    rw [wl_len] at hn
    rw [wps_24, if_pos (show (133 : Int32) ≤ nI 133 by decide), if_neg (by omega)]
  | succ d ih =>
    intro j f hj hf hno
    obtain ⟨f, rfl⟩ : ∃ g, f = g + 1 := ⟨f - 1, by omega⟩
    have hj24 : j < 24 := by omega
    have hlt : wps_.getD j 0 < 133 := wps_lt ⟨j, hj24⟩
    show f_X11_wordAt_5_b F _ _ _ _ _ _ = _
    unfold f_X11_wordAt_5_b
    rw [if_neg (show ¬ (133 : Int32) ≤ nI (wps_.getD j 0) from nI_ge (b := 133) hlt (by decide)), show nI j - 1 + (1 : Int32) = nI j by grind]
    have h20 := m_w20 (rec5 := f_X11_wordAt_5 F f) (x3 := nI j) hF hab hb4 hw ht hj24 (b - a) 0 F (by omega) (by omega) (Nat.zero_le _) (fun m hm => absurd hm (Nat.not_lt_zero m))
    have h20' : f_X11_wordAt_20 F (f_X11_wordAt_5 F f) F (nI a) (nI b) (nI j) (nI (wps_.getD j 0)) 0 ρ = _ := h20
    rw [h20']
    by_cases hs : seg_ t a b = wl_.getD j []
    · have hh := wif_hit wl_ j hno (by rw [wl_len]; exact hj24) hs.symm
      rw [if_pos hs, hh, if_pos hj24]
    · rw [if_neg hs]
      have hx : nI j = nI (j + 1) - 1 := (show nI (j + 1) - nI 1 = nI j from n_sub (by omega)).symm
      rw [hx]
      exact ih (j + 1) f (by omega) (by omega) (fun i hi => by
        by_cases hij : i = j
        · rw [hij]; exact fun e => hs e.symm
        · exact hno i (by omega))
theorem m_word (hF : 300000 ≤ F) {a b : Nat} (hab : a < b) (hb4 : b ≤ 400) (hw : ∀ i : Nat, i < 134 → ρ 66 i = nI (iv_words.getD i 0)) (ht : ∀ i : Nat, a ≤ i → i < b → ρ 65 i = nI (t i) ∧ t i ≠ 32 ∧ t i < 256) : f_X11_wordAt F (nI a) (nI b) ρ = some (if wif_ (seg_ t a b) wl_ < 24 then nI (wif_ (seg_ t a b) wl_) else -1, ρ) := by
  unfold f_X11_wordAt
  have h := m_w5 hF hab hb4 hw ht 24 0 F (by omega) (by omega) (fun i hi => absurd hi (Nat.not_lt_zero i))
  rw [wps_0] at h
  have e : nI 0 - 1 = (-1 : Int32) := by decide
  rw [e] at h
  exact h
end RW
