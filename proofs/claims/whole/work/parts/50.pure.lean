/-! L3: pure reckoning with the functions of the memory -/
def wp_ (o : nd_Res) (Q : Int32 → nd_Mem → Prop) : Prop := ∃ (r : Int32) (σ : nd_Mem), o = some (r, σ) ∧ Q r σ
section WP
variable {Q P : Int32 → nd_Mem → Prop} {o a b : nd_Res} {k : Int32 → nd_Mem → nd_Res} {r : Int32} {σ x : nd_Mem} {kl : nd_Mem → nd_Res} {c : Prop}
theorem wp_some (h : Q r σ) : wp_ (some (r, σ)) Q := ⟨r, σ, rfl, h⟩
theorem wp_let (h : wp_ (kl x) Q) : wp_ (nd_let x kl) Q := h
theorem wp_call (hc : wp_ o P) (h : ∀ r σ, P r σ → wp_ (k r σ) Q) : wp_ (nd_bind o k) Q := by
  obtain ⟨r, σ, rfl, hp⟩ := hc
  exact h r σ hp
theorem wp_eq (hc : o = some (r, σ)) (h : wp_ (k r σ) Q) : wp_ (nd_bind o k) Q := by rw [hc]; exact h
theorem wp_no {i : Decidable c} (hc : ¬ c) (h : wp_ a Q) : wp_ (if c then none else a) Q := by rw [if_neg hc]; exact h
theorem wp_t {i : Decidable c} (hc : c) (h : wp_ a Q) : wp_ (if c then a else b) Q := by rw [if_pos hc]; exact h
theorem wp_f {i : Decidable c} (hc : ¬ c) (h : wp_ b Q) : wp_ (if c then a else b) Q := by rw [if_neg hc]; exact h
theorem wp_if {i : Decidable c} (h1 : c → wp_ a Q) (h2 : ¬ c → wp_ b Q) : wp_ (if c then a else b) Q := by
  by_cases hc : c
  · exact wp_t hc (h1 hc)
  · exact wp_f hc (h2 hc)
theorem wp_mono (h : wp_ o P) (hi : ∀ r σ, P r σ → Q r σ) : wp_ o Q := by
  obtain ⟨r, σ, e, hp⟩ := h
  exact ⟨r, σ, e, hi r σ hp⟩
end WP
/-! the memory -/
theorem up_app (σ : nd_Mem) (i k : Nat) (v : Int32) (a : Nat) : nd_up σ i k v a = if a = i then upd (σ a) k v else σ a := by
  by_cases h : a = i
  · subst h; rw [if_pos rfl, nd_up_at]
  · rw [if_neg h, nd_up_ne h]
theorem row_app (σ : nd_Mem) (i : Nat) (f : Nat → Int32) (a : Nat) : nd_row σ i f a = if a = i then f else σ a := rfl
theorem upd_app (f : Nat → Int32) (k : Nat) (v : Int32) (j : Nat) : upd f k v j = if j = k then v else f j := rfl
theorem li_0 : (0 : Int32) = nI 0 := rfl
theorem li_cl (n : Nat) (h : n < 2 ^ 31) : (nI n).toNatClampNeg = n := nI_clamp h
theorem li_neg (n : Nat) (h : n < 2 ^ 31) : ¬ nI n < 0 := nI_pos h
theorem li_m1 (n : Nat) (h : n < 2 ^ 31) : nI n ≠ -1 := by
  intro e
  have h1 := nI_pos h
  rw [e] at h1
  exact h1 (by decide)
/-! little methods of the reference -/
section RF
variable {F : Nat} {σ : nd_Mem}
theorem e_isIn (v lo hi : Int32) : f_X11_isIn F v lo hi σ = some (if v < lo ∨ hi < v then 0 else 1, σ) := by
  unfold f_X11_isIn f_X11_isIn_14
  by_cases h1 : v < lo
  · simp [h1]
  · by_cases h2 : hi < v
    · simp [h1, h2]
    · simp [h1, h2]
theorem e_isHouse (h : Int32) : f_X11_isHouse F h σ = some (if h < 0 ∨ σ 60 6 ≤ h then 0 else 1, σ) := by
  unfold f_X11_isHouse f_X11_isHouse_16
  by_cases h1 : h < 0
  · simp [h1]
  · by_cases h2 : σ 60 6 ≤ h
    · simp [h1, h2]
    · simp [h1, h2]
theorem e_has (s k : Int32) : f_X11_has F s k σ = some (if ((s >>> (k &&& 31)) &&& 1) = 1 then 1 else 0, σ) := by
  unfold f_X11_has
  by_cases h : ((s >>> (k &&& 31)) &&& 1) = 1
  · rw [if_pos h, if_pos h]
  · rw [if_neg h, if_neg h]
theorem e_greater (a b : Int32) : f_X11_greater F a b σ = some (if a ≤ b then b else a, σ) := by
  unfold f_X11_greater
  by_cases h : a ≤ b <;> simp [h]
theorem e_lesser (a b : Int32) : f_X11_lesser F a b σ = some (if b ≤ a then b else a, σ) := by
  unfold f_X11_lesser
  by_cases h : b ≤ a <;> simp [h]
theorem e_held (v lo hi : Int32) : f_X11_held F v lo hi σ = some (if lo ≤ v then (if v ≤ hi then v else hi) else lo, σ) := by
  unfold f_X11_held
  by_cases h : lo ≤ v <;> by_cases h2 : v ≤ hi <;> simp [h, h2]
end RF
