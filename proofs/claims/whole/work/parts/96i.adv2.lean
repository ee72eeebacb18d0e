/-! text: the class finds its tokens -/
theorem sgn_all : ∀ x : Fin 256, iss_ x.val = true ↔ ∃ j : Fin 10, (nd_by.getD 4 []).getD j.val 0 = (nI x.val).toInt8.toInt32 := by decide +kernel
theorem sgn_cut : ∀ x : Fin 256, ((nI x.val).toUInt32 % 65536).toInt32 = nI x.val := by decide +kernel
theorem sgn_len : nd_ln.getD 4 0 = 10 ∧ Int32.ofNat (nd_ln.getD 4 0) >>> ((0 : Int32) &&& 31) = nI 10 := by decide +kernel
def srt_ (x : Nat) : Nat := if isl_ x = true then 1 else if isd_ x = true then 2 else if isb_ x = true then 5 else if iss_ x = true then 3 else 4
/-- a token put down -/
def atk_ (γ : nd_Mem) (m : Nat) (a v x : Int32) : nd_Mem := nd_up (nd_up (nd_up (nd_up γ 48 m a) 49 m v) 50 m x) 38 10 (nI (m + 1))
/-- the sign at s goes on with the token of the one before -/
def gon_ (t : Nat → Nat) (s : Nat) : Prop := (srt_ (t s) = 1 ∨ srt_ (t s) = 2) ∧ 0 < s ∧ srt_ (t (s - 1)) = srt_ (t s)
theorem nv_b {t : Nat → Nat} : ∀ d s v m : Nat, (∀ i : Nat, s ≤ i → i < s + d → t i ≤ 57) → v < 10 ^ m → m + d ≤ 4 → nvf_ t d s v < 10 ^ (m + d) := by
  intro d
  induction d with
  | zero => intro s v m _ hv _; exact hv
  | succ d ih =>
    intro s v m ht hv hm
    have h3 : 10 ^ m ≤ 10 ^ 3 := Nat.pow_le_pow_right (by decide) (by omega)
    have hts := ht s (Nat.le_refl s) (by omega)
    show nvf_ t d (s + 1) (if v ≤ 9999 then v * 10 + (t s - 48) else v) < 10 ^ (m + (d + 1))
    rw [if_pos (by omega), show m + (d + 1) = (m + 1) + d by omega]
    exact ih (s + 1) _ (m + 1) (fun i h1 h2 => ht i (by omega) (by omega)) (by rw [Nat.pow_succ]; omega) (by omega)
theorem srt_lt {x : Nat} : srt_ x < 10 := by
  unfold srt_
  repeat' split
  all_goals omega
theorem srt_1 (x : Nat) : isl_ x = decide (srt_ x = 1) := by
  unfold srt_
  cases h : isl_ x
  · rw [if_neg (by decide)]
    have : ¬ (if isd_ x = true then 2 else if isb_ x = true then 5 else if iss_ x = true then 3 else 4) = 1 := by
      repeat' split
      all_goals omega
    exact (decide_eq_false this).symm
  · rw [if_pos rfl] <;> rfl
theorem srt_2 (x : Nat) : isd_ x = decide (srt_ x = 2) := by
  unfold srt_
  cases h1 : isl_ x
  · rw [if_neg (by decide)]
    cases h : isd_ x
    · rw [if_neg (by decide)]
      have : ¬ (if isb_ x = true then 5 else if iss_ x = true then 3 else 4) = 2 := by
        repeat' split
        all_goals omega
      exact (decide_eq_false this).symm
    · rw [if_pos rfl] <;> rfl
  · have a := of_decide_eq_true h1
    have : isd_ x = false := by
      cases h : isd_ x
      · rfl
      · have b := of_decide_eq_true h
        omega
    rw [this, if_pos rfl] <;> rfl
theorem srt_b {x : Nat} (h : isb_ x = true) : srt_ x = 5 := by
  have a := of_decide_eq_true h
  rcases a with rfl | rfl <;> rfl
theorem srt_5 {x : Nat} (h : srt_ x = 5) : isb_ x = true := by
  apply Classical.byContradiction
  intro hn
  unfold srt_ at h
  rw [if_neg hn] at h
  revert h
  repeat' split
  all_goals omega
section CB
variable {F z k : Nat} {c γ : nd_Mem} {t : Nat → Nat}
theorem tq_s {p : Nat} (hp : p < z) (hs : srt_ (t p) = 1 ∨ srt_ (t p) = 2) : tqe_ t z p = txr_ (fun i => decide (srt_ (t i) = srt_ (t p))) (z - (p + 1)) (p + 1) := by
  unfold tqe_
  rw [if_neg (by omega), show z - p = z - (p + 1) + 1 by omega]
  rcases hs with hs | hs
  · have h1 : isl_ (t p) = true := by rw [srt_1]; exact decide_eq_true hs
    rw [if_pos h1, hs, show (fun s => isl_ (t s)) = (fun i => decide (srt_ (t i) = 1)) from funext (fun i => srt_1 _)]
    exact if_pos (decide_eq_true hs)
  · have h1 : ¬ isl_ (t p) = true := by rw [srt_1]; exact fun e => by have := of_decide_eq_true e; omega
    have h2 : isd_ (t p) = true := by rw [srt_2]; exact decide_eq_true hs
    rw [if_neg h1, if_pos h2, hs, show (fun s => isd_ (t s)) = (fun i => decide (srt_ (t i) = 2)) from funext (fun i => srt_2 _)]
    exact if_pos (decide_eq_true hs)
theorem tq_n {p : Nat} (hp : p < z) (hs : ¬ (srt_ (t p) = 1 ∨ srt_ (t p) = 2)) : tqe_ t z p = p + 1 := by
  unfold tqe_
  rw [if_neg (by omega), if_neg (fun e => hs (Or.inl (of_decide_eq_true ((srt_1 (t p)).symm.trans e)))), if_neg (fun e => hs (Or.inr (of_decide_eq_true ((srt_2 (t p)).symm.trans e))))]
theorem tq_run {p : Nat} (hp : p < z) : (tqe_ t z p = p + 1 ∧ ¬ (srt_ (t p) = 1 ∨ srt_ (t p) = 2)) ∨ ((srt_ (t p) = 1 ∨ srt_ (t p) = 2) ∧ (∀ i : Nat, p ≤ i → i < tqe_ t z p → srt_ (t i) = srt_ (t p)) ∧ (tqe_ t z p < z → srt_ (t (tqe_ t z p)) ≠ srt_ (t p))) := by
  by_cases hs : srt_ (t p) = 1 ∨ srt_ (t p) = 2
  · refine Or.inr ⟨hs, fun i h1 h2 => ?_, fun h => ?_⟩
    · by_cases hi : i = p
      · rw [hi]
      · rw [tq_s hp hs] at h2
        exact of_decide_eq_true (txr_all (P := fun i => decide (srt_ (t i) = srt_ (t p))) (z - (p + 1)) (p + 1) i (by omega) h2)
    · rw [tq_s hp hs] at h ⊢
      exact of_decide_eq_false (txr_end (P := fun i => decide (srt_ (t i) = srt_ (t p))) (z - (p + 1)) (p + 1) (by omega))
  · exact Or.inl ⟨tq_n hp hs, hs⟩
theorem tkp_le : ∀ j : Nat, tkp_ t z j ≤ z := by
  intro j
  induction j with
  | zero => exact (tn_le (t := t) (Nat.zero_le z)).2
  | succ j ih => exact (tn_le (t := t) (tq_le (t := t) ih).2.1).2
theorem tkp_lt {j : Nat} (h : tkp_ t z j < z) : tkp_ t z j < tkp_ t z (j + 1) := by
  obtain ⟨h1, h2, h3⟩ := tq_le (t := t) (Nat.le_of_lt h)
  have h4 := tn_le (t := t) h2
  have h5 := h3 h
  show tkp_ t z j < tn_ t z (tqe_ t z (tkp_ t z j))
  omega
theorem tkp_ge : ∀ j : Nat, (∀ i : Nat, i < j → tkp_ t z i < z) → j ≤ tkp_ t z j := by
  intro j
  induction j with
  | zero => intro _; exact Nat.zero_le _
  | succ j ih =>
    intro h
    have a := ih (fun i hi => h i (by omega))
    have b := tkp_lt (h j (by omega))
    omega
theorem tn_bl {e s : Nat} (h1 : e ≤ s) (h2 : s < tn_ t z e) : isb_ (t s) = true := txr_all (P := fun i => isb_ (t i)) (z - e) e s h1 h2
theorem bl_gon {s : Nat} (h : isb_ (t (s - 1)) = true) : ¬ gon_ t s := fun ⟨h1, _, h3⟩ => by
  have := srt_b h
  omega
/-- where a token begins, and where none does -/
theorem sta_ {m : Nat} (hz : tkp_ t z m < z) : isb_ (t (tkp_ t z m)) = false ∧ ¬ gon_ t (tkp_ t z m) := by
  cases m with
  | zero =>
    have hz : tn_ t z 0 < z := hz
    refine ⟨tn_no (Nat.zero_le z) hz, fun g => ?_⟩
    have h0 : 0 < tn_ t z 0 := g.2.1
    exact bl_gon (tn_bl (e := 0) (z := z) (Nat.zero_le _) (by show tn_ t z 0 - 1 < tn_ t z 0; omega)) g
  | succ m =>
    have hz : tn_ t z (tqe_ t z (tkp_ t z m)) < z := hz
    obtain ⟨q1, q2, q3⟩ := tq_le (t := t) (tkp_le (t := t) (z := z) m)
    have q4 := tn_le (t := t) q2
    have hp : tkp_ t z m < z := by omega
    have q5 := q3 hp
    refine ⟨tn_no q2 hz, fun g => ?_⟩
    have g0 : 0 < tn_ t z (tqe_ t z (tkp_ t z m)) := g.2.1
    by_cases hq : tqe_ t z (tkp_ t z m) ≤ tn_ t z (tqe_ t z (tkp_ t z m)) - 1
    · exact bl_gon (tn_bl (z := z) hq (by show tn_ t z (tqe_ t z (tkp_ t z m)) - 1 < tn_ t z (tqe_ t z (tkp_ t z m)); omega)) g
    · have he : tn_ t z (tqe_ t z (tkp_ t z m)) = tqe_ t z (tkp_ t z m) := by omega
      have g : gon_ t (tn_ t z (tqe_ t z (tkp_ t z m))) := g
      rw [he] at g
      obtain ⟨g1, _, g3⟩ := g
      rcases tq_run (t := t) hp with ⟨a1, a2⟩ | ⟨a1, a2, a3⟩
      · rw [a1, Nat.add_sub_cancel] at g3
        rw [a1] at g1
        exact a2 (by rw [g3]; exact g1)
      · exact a3 (by omega) (by rw [← g3]; exact a2 _ (by omega) (by omega))
theorem st_in {m s : Nat} (hl : ∀ j : Nat, j < m → tkp_ t z j < s) (h : s < tkp_ t z m) : isb_ (t s) = true ∨ gon_ t s := by
  cases m with
  | zero => exact Or.inl (tn_bl (e := 0) (z := z) (Nat.zero_le s) h)
  | succ m =>
    have hp := hl m (by omega)
    have hz := tkp_le (t := t) (z := z) (m + 1)
    by_cases hq : tqe_ t z (tkp_ t z m) ≤ s
    · exact Or.inl (tn_bl (z := z) hq h)
    · rcases tq_run (t := t) (z := z) (p := tkp_ t z m) (by omega) with ⟨a1, a2⟩ | ⟨a1, a2, a3⟩
      · omega
      · have e1 := a2 s (by omega) (by omega)
        have e2 := a2 (s - 1) (by omega) (by omega)
        exact Or.inr ⟨by rw [e1]; exact a1, by omega, by rw [e1, e2]⟩
theorem c_idx {y : Int32} : ∀ d i f : Nat, i + d = 10 → d < f → ∃ r : Int32, f_J1_indexOfChar_4cfef_7 F 4 f (nI 10) y (nI i) γ = some (r, γ) ∧ (0 ≤ r ↔ ∃ j : Nat, i ≤ j ∧ j < 10 ∧ (nd_by.getD 4 []).getD j 0 = y) := by
  have hl := sgn_len.1
  intro d
  induction d with
  | zero =>
    intro i f hi hf
    obtain ⟨f, rfl⟩ : ∃ g, f = g + 1 := ⟨f - 1, by omega⟩
    refine ⟨-1, ?_, ⟨fun e => absurd e (by decide), fun ⟨j, j1, j2, _⟩ => by omega⟩⟩
    show f_J1_indexOfChar_4cfef_7_b F _ 4 _ _ _ _ = _
    unfold f_J1_indexOfChar_4cfef_7_b
    rw [if_pos (nI_le (by omega) (by omega))]
  | succ d ih =>
    intro i f hi hf
    obtain ⟨f, rfl⟩ : ∃ g, f = g + 1 := ⟨f - 1, by omega⟩
    by_cases hc : (nd_by.getD 4 []).getD i 0 = y
    · refine ⟨nI i, ?_, ⟨fun _ => ⟨i, Nat.le_refl i, by omega, hc⟩, fun _ => Int32.not_lt.mp (nI_pos (by omega))⟩⟩
      show f_J1_indexOfChar_4cfef_7_b F _ 4 _ _ _ _ = _
      unfold f_J1_indexOfChar_4cfef_7_b
      rw [if_neg (nI_ge (by omega) (by omega)), if_neg (nI_in (by omega) (by omega)), nI_clamp (by omega), if_pos hc]
    · obtain ⟨r, r1, r2⟩ := ih (i + 1) f (by omega) (by omega)
      refine ⟨r, ?_, r2.trans ⟨fun ⟨j, j1, j2, j3⟩ => ⟨j, by omega, j2, j3⟩, fun ⟨j, j1, j2, j3⟩ => ⟨j, ?_, j2, j3⟩⟩⟩
      · show f_J1_indexOfChar_4cfef_7_b F _ 4 _ _ _ _ = _
        unfold f_J1_indexOfChar_4cfef_7_b
        rw [if_neg (nI_ge (by omega) (by omega)), if_neg (nI_in (by omega) (by omega)), nI_clamp (by omega), if_neg hc, nI_1]
        exact r1
      · by_cases hji : j = i
        · rw [hji] at j3; exact absurd j3 hc
        · omega
theorem c_sig (hF : 300000 ≤ F) {x : Nat} (hx : x < 256) : ∃ r : Int32, f_J0_indexOf_0f7a4 F 4 (nI x) γ = some (r, γ) ∧ (0 ≤ r ↔ iss_ x = true) := by
  obtain ⟨hl, hl2⟩ := sgn_len
  obtain ⟨r, r1, r2⟩ := c_idx (F := F) (γ := γ) (y := (nI x).toInt8.toInt32) 10 0 F (by omega) (by omega)
  refine ⟨r, ?_, r2.trans ⟨fun ⟨j, _, j2, j3⟩ => (sgn_all ⟨x, hx⟩).mpr ⟨⟨j, j2⟩, j3⟩, fun h => ?_⟩⟩
  · have hc : f_J0_coder_7d493 F 4 γ = some (0, γ) := by
      unfold f_J0_coder_7d493
      rw [if_neg (by decide), if_neg (fun e => e (by rfl))]
    have hlen : f_J0_length_8abf5 F 4 γ = some (nI 10, γ) := by
      unfold f_J0_length_8abf5
      rw [hc, n_bind, hl2]
    have hce : f_J1_canEncode_9a6ad F (nI x) γ = some (1, γ) := by
      unfold f_J1_canEncode_9a6ad
      rw [if_neg (nI_pos (by omega)), if_neg (show ¬ (255 : Int32) < nI x from nI_nlt (a := 255) (by omega) (by decide))]
    unfold f_J0_indexOf_0f7a4 f_J0_indexOf_7cf53 f_J1_indexOf_4cfef f_J1_indexOfChar_4cfef
    rw [latN, n_bind, if_neg n10, hlen, n_bind, hce, n_bind, if_neg n10, hl, if_neg (show ¬ (0 : Int32) < 0 by decide), if_neg (show ¬ Int32.ofNat 10 < nI 10 by decide), if_pos (show (0 : Int32) < nI 10 by decide)]
    have r1' : f_J1_indexOfChar_4cfef_7 F 4 F (nI 10) (nI x).toInt8.toInt32 0 γ = some (r, γ) := r1
    rw [r1', n_bind, n_bind, n_bind]
  · obtain ⟨j, hj⟩ := (sgn_all ⟨x, hx⟩).mp h
    exact ⟨j.val, Nat.zero_le _, j.isLt, hj⟩
theorem s_40 (hF : 300000 ≤ F) {x : Nat} (hx : x < 256) : f_X3_sortOf_40 F (nI x) γ = some (nI (if isb_ x = true then 5 else if iss_ x = true then 3 else 4), γ) := by
  obtain ⟨r, r1, r2⟩ := c_sig (F := F) (γ := γ) hF hx
  unfold f_X3_sortOf_40 f_X3_sortOf_52
  by_cases h32 : x = 32
  · rw [if_pos (show nI x = (32 : Int32) by rw [h32]; rfl), if_pos (show isb_ x = true from decide_eq_true (Or.inl h32))] <;> rfl
  · rw [if_neg (show ¬ nI x = (32 : Int32) from fun e => h32 ((nI_eq (b := 32) (by omega) (by decide)).mp e))]
    by_cases h10 : x = 10
    · rw [if_pos (show nI x = (10 : Int32) by rw [h10]; rfl), if_pos (show isb_ x = true from decide_eq_true (Or.inr h10))] <;> rfl
    · rw [if_neg (show ¬ nI x = (10 : Int32) from fun e => h10 ((nI_eq (b := 10) (by omega) (by decide)).mp e)), sgn_cut ⟨x, hx⟩, r1, n_bind, if_neg (show ¬ isb_ x = true from fun e => (of_decide_eq_true e).elim h32 h10)]
      by_cases h3 : iss_ x = true
      · rw [if_pos h3, if_pos (r2.mpr h3)] <;> rfl
      · rw [if_neg h3, if_neg (fun e => h3 (r2.mp e))] <;> rfl
theorem s_26 (hF : 300000 ≤ F) {x : Nat} (hx : x < 256) : f_X3_sortOf_26 F (nI x) γ = some (nI (if isd_ x = true then 2 else if isb_ x = true then 5 else if iss_ x = true then 3 else 4), γ) := by
  have e1 : (nI x < (48 : Int32)) = (x < 48) := n_lt (b := 48) (by omega) (by decide)
  have e2 : ((57 : Int32) < nI x) = (57 < x) := n_lt (a := 57) (by decide) (by omega)
  unfold f_X3_sortOf_26
  by_cases h : isd_ x = true
  · have hd := of_decide_eq_true h
    rw [if_pos h, if_neg (by rw [e1]; omega), if_neg (by rw [e2]; omega)] <;> rfl
  · have hd : ¬ (48 ≤ x ∧ x ≤ 57) := fun e => h (decide_eq_true e)
    rw [if_neg h]
    by_cases h1 : x < 48
    · rw [if_pos (by rw [e1]; exact h1)]; exact s_40 hF hx
    · rw [if_neg (by rw [e1]; exact h1), if_pos (by rw [e2]; omega)]; exact s_40 hF hx
theorem c_sort (hF : 300000 ≤ F) {x : Nat} (hx : x < 256) : f_X3_sortOf F (nI x) γ = some (nI (srt_ x), γ) := by
  have e1 : (nI x < (97 : Int32)) = (x < 97) := n_lt (b := 97) (by omega) (by decide)
  have e2 : (nI x ≤ (122 : Int32)) = (x ≤ 122) := n_le (b := 122) (by omega) (by decide)
  have e3 : (nI x < (65 : Int32)) = (x < 65) := n_lt (b := 65) (by omega) (by decide)
  have e4 : ((90 : Int32) < nI x) = (90 < x) := n_lt (a := 90) (by decide) (by omega)
  unfold f_X3_sortOf f_X3_sortOf_12 f_X3_sortOf_24 srt_
  by_cases h : isl_ x = true
  · have hd := of_decide_eq_true h
    rw [if_pos h]
    by_cases h1 : x < 97
    · rw [if_pos (by rw [e1]; exact h1), if_neg (by rw [e3]; omega), if_neg (by rw [e4]; omega)] <;> rfl
    · rw [if_neg (by rw [e1]; exact h1), if_pos (by rw [e2]; omega)] <;> rfl
  · have hd : ¬ ((97 ≤ x ∧ x ≤ 122) ∨ (65 ≤ x ∧ x ≤ 90)) := fun e => h (decide_eq_true e)
    rw [if_neg h]
    by_cases h1 : x < 97
    · rw [if_pos (by rw [e1]; exact h1)]
      by_cases h2 : x < 65
      · rw [if_pos (by rw [e3]; exact h2)]; exact s_26 hF hx
      · rw [if_neg (by rw [e3]; exact h2), if_pos (by rw [e4]; omega)]; exact s_26 hF hx
    · rw [if_neg (by rw [e1]; exact h1), if_neg (by rw [e2]; omega), if_neg (by rw [e3]; omega), if_pos (by rw [e4]; omega)]; exact s_26 hF hx
theorem c_stand {s : Nat} (hs : s < 10) : f_X3_standsTogether F (nI s) γ = some (if s = 1 ∨ s = 2 then 1 else 0, γ) := by
  unfold f_X3_standsTogether f_X3_standsTogether_10
  by_cases h1 : s = 1
  · rw [if_pos (show nI s = (1 : Int32) by rw [h1]; rfl), if_pos (show s = 1 ∨ s = 2 from Or.inl h1)]
  · rw [if_neg (show ¬ nI s = (1 : Int32) from fun e => h1 ((nI_eq (b := 1) (by omega) (by decide)).mp e))]
    by_cases h2 : s = 2
    · rw [if_pos (show nI s = (2 : Int32) by rw [h2]; rfl), if_pos (show s = 1 ∨ s = 2 from Or.inr h2)]
    · rw [if_neg (show ¬ nI s = (2 : Int32) from fun e => h2 ((nI_eq (b := 2) (by omega) (by decide)).mp e)), if_neg (show ¬ (s = 1 ∨ s = 2) from fun e => e.elim h1 h2)]
theorem c_n14 (hb : cp_ γ t z k) {q : Nat} (hq : q ≤ z) : ∀ d s m f v : Nat, s + d = q → d < f → v < 10 ^ m → m + d ≤ 4 → (∀ i : Nat, s ≤ i → i < q → 48 ≤ t i ∧ t i ≤ 57) → f_X3_numberOf_14 F f (nI q) (nI v) (nI s) γ = some (nI (nvf_ t d s v), γ) := by
  have hz := hb.1
  intro d
  induction d with
  | zero =>
    intro s m f v hs hf hv hm ht
    obtain ⟨f, rfl⟩ : ∃ g, f = g + 1 := ⟨f - 1, by omega⟩
    show f_X3_numberOf_14_b F _ _ _ _ _ = some (nI v, γ)
    unfold f_X3_numberOf_14_b
    rw [if_pos (nI_le (by omega) (by omega))]
  | succ d ih =>
    intro s m f v hs hf hv hm ht
    obtain ⟨f, rfl⟩ : ∃ g, f = g + 1 := ⟨f - 1, by omega⟩
    have h3 : 10 ^ m ≤ 10 ^ 3 := Nat.pow_le_pow_right (by decide) (by omega)
    have hts := ht s (Nat.le_refl s) (by omega)
    have h47 : γ 47 s = nI (t s) := hb.2.2.2.1 s (by omega)
    have ev : nvf_ t (d + 1) s v = nvf_ t d (s + 1) (v * 10 + (t s - 48)) := by
      show nvf_ t d (s + 1) (if v ≤ 9999 then v * 10 + (t s - 48) else v) = _
      rw [if_pos (by omega)]
    rw [ev]
    show f_X3_numberOf_14_b F _ _ _ _ _ = _
    unfold f_X3_numberOf_14_b
    rw [if_neg (nI_ge (by omega) (by omega)), if_neg (nI_in (by omega) (by decide)), nI_clamp (by omega), h47, nI_1, show nI v * (10 : Int32) + nI (t s) - 48 = nI (v * 10 + (t s - 48)) by
      rw [show (10 : Int32) = nI 10 from rfl, n_mul, n_add, show (48 : Int32) = nI 48 from rfl, n_sub (by omega), show v * 10 + t s - 48 = v * 10 + (t s - 48) by omega]]
    exact ih (s + 1) (m + 1) f _ (by omega) (by omega) (by rw [Nat.pow_succ]; omega) (by omega) (fun i h1 h2 => ht i (by omega) (by omega))
theorem c_numOf (hF : 300000 ≤ F) (hb : cp_ γ t z k) {p q : Nat} (hpq : p ≤ q) (hq : q ≤ z) (ht : ∀ i : Nat, p ≤ i → i < q → 48 ≤ t i ∧ t i ≤ 57) : f_X3_numberOf F (nI p) (nI q) γ = some (if q - p ≤ 4 then nI (nvf_ t (q - p) p 0) else -1, γ) := by
  have hz := hb.1
  unfold f_X3_numberOf
  rw [n_sub hpq]
  by_cases h4 : q - p ≤ 4
  · rw [if_pos h4, if_pos (show nI (q - p) ≤ (4 : Int32) from nI_le (b := 4) h4 (by decide))]
    exact c_n14 hb hq (q - p) p 0 F 0 (by omega) (by omega) (by decide) (by omega) ht
  · rw [if_neg h4, if_neg (show ¬ nI (q - p) ≤ (4 : Int32) from nI_ge (a := 4) (by omega) (by omega))]
section AT
variable {m : Nat} {a v x : Int32}
theorem c_addT (hm : γ 38 10 = nI m) (hm4 : m ≤ 400) : f_X3_addToken F a v x γ = some (0, atk_ γ m a v x) := by
  have g1 : nd_up γ 48 m a 38 10 = nI m := by rw [u_ne1 (by decide)]; exact hm
  have g2 : nd_up (nd_up γ 48 m a) 49 m v 38 10 = nI m := by rw [u_ne1 (by decide)]; exact g1
  have g3 : nd_up (nd_up (nd_up γ 48 m a) 49 m v) 50 m x 38 10 = nI m := by rw [u_ne1 (by decide)]; exact g2
  unfold f_X3_addToken atk_
  rw [hm, if_neg (show ¬ (401 : Int32) ≤ nI m from nI_ge (b := 401) (by omega) (by decide)), if_neg (nI_in (by omega) (by decide)), nI_clamp (by omega), n_let, g1, if_neg (nI_in (by omega) (by decide)), nI_clamp (by omega), n_let, g2, if_neg (nI_in (by omega) (by decide)), nI_clamp (by omega), n_let, g3, nI_1, n_let]
theorem atk_ne {i : Nat} (h : i ≠ 38) (h1 : i ≠ 48) (h2 : i ≠ 49) (h3 : i ≠ 50) : atk_ γ m a v x i = γ i := by
  unfold atk_
  rw [nd_up_ne h, nd_up_ne h3, nd_up_ne h2, nd_up_ne h1]
theorem atk_38 {j : Nat} (h : j ≠ 10) : atk_ γ m a v x 38 j = γ 38 j := by
  unfold atk_
  rw [u_ne2 h, u_ne1 (by decide), u_ne1 (by decide), u_ne1 (by decide)]
theorem atk_cp (h : cp_ γ t z k) : cp_ (atk_ γ m a v x) t z k := by
  obtain ⟨a1, a2, a3, a4, a5, a6⟩ := h
  exact ⟨a1, a2, by rw [atk_38 (by decide)]; exact a3, fun i hi => by rw [atk_ne (by decide) (by decide) (by decide) (by decide)]; exact a4 i hi, by rw [atk_38 (by decide)]; exact a5, a6.1, by rw [atk_38 (by decide)]; exact a6.2.1, by rw [atk_38 (by decide)]; exact a6.2.2⟩
theorem atk_at : atk_ γ m a v x 48 m = a ∧ atk_ γ m a v x 49 m = v ∧ atk_ γ m a v x 50 m = x ∧ atk_ γ m a v x 38 10 = nI (m + 1) := by
  unfold atk_
  refine ⟨?_, ?_, ?_, ?_⟩
  · rw [u_ne1 (by decide), u_ne1 (by decide), u_ne1 (by decide), u_eq]
  · rw [u_ne1 (by decide), u_ne1 (by decide), u_eq]
  · rw [u_ne1 (by decide), u_eq]
  · rw [u_eq]
theorem atk_no {j : Nat} (h : j ≠ m) : atk_ γ m a v x 48 j = γ 48 j ∧ atk_ γ m a v x 49 j = γ 49 j ∧ atk_ γ m a v x 50 j = γ 50 j := by
  unfold atk_
  refine ⟨?_, ?_, ?_⟩
  · rw [u_ne1 (by decide), u_ne1 (by decide), u_ne1 (by decide), u_ne2 h]
  · rw [u_ne1 (by decide), u_ne1 (by decide), u_ne2 h, u_ne1 (by decide)]
  · rw [u_ne1 (by decide), u_ne2 h, u_ne1 (by decide), u_ne1 (by decide)]
theorem atk_ent (he : ∀ j : Nat, j < m → ctn_ (γ 48 j) (γ 49 j) t z k (tkp_ t z j) ∧ γ 50 j = nI (tkp_ t z j)) (hn : ctn_ a v t z k (tkp_ t z m)) (hx : x = nI (tkp_ t z m)) : ∀ j : Nat, j < m + 1 → ctn_ (atk_ γ m a v x 48 j) (atk_ γ m a v x 49 j) t z k (tkp_ t z j) ∧ atk_ γ m a v x 50 j = nI (tkp_ t z j) := by
  intro j hj
  by_cases h : j = m
  · obtain ⟨e1, e2, e3, _⟩ := atk_at (γ := γ) (m := m) (a := a) (v := v) (x := x)
    rw [h, e1, e2, e3]
    exact ⟨hn, hx⟩
  · obtain ⟨e1, e2, e3⟩ := atk_no (γ := γ) (a := a) (v := v) (x := x) h
    rw [e1, e2, e3]
    exact he j (by omega)
end AT
theorem c_run (hF : 300000 ≤ F) (hb : cp_ γ t z k) {p s : Nat} (hs : s = 1 ∨ s = 2) : ∀ d x f : Nat, x + d = z → d < f → f_X3_findToken_4 F f (nI p) (nI s) (nI x) γ = f_X3_findToken_38 F (nI p) (nI s) (nI (txr_ (fun i => decide (srt_ (t i) = s)) d x)) γ := by
  have hz := hb.1
  have hbyte := hb.2.1
  intro d
  induction d with
  | zero =>
    intro x f hx hf
    obtain ⟨f, rfl⟩ : ∃ g, f = g + 1 := ⟨f - 1, by omega⟩
    show f_X3_findToken_4_b F _ _ _ _ _ = f_X3_findToken_38 F _ _ (nI x) γ
    unfold f_X3_findToken_4_b
    rw [hb.2.2.1, if_pos (nI_le (by omega) (by omega))]
  | succ d ih =>
    intro x f hx hf
    obtain ⟨f, rfl⟩ : ∃ g, f = g + 1 := ⟨f - 1, by omega⟩
    have h47 : γ 47 x = nI (t x) := hb.2.2.2.1 x (by omega)
    have hlt := srt_lt (x := t x)
    by_cases hl : srt_ (t x) = s
    · have e : txr_ (fun i => decide (srt_ (t i) = s)) (d + 1) x = txr_ (fun i => decide (srt_ (t i) = s)) d (x + 1) := if_pos (decide_eq_true hl)
      rw [e, ← ih (x + 1) f (by omega) (by omega)]
      show f_X3_findToken_4_b F _ _ _ _ _ = _
      unfold f_X3_findToken_4_b
      rw [hb.2.2.1, if_neg (nI_ge (by omega) (by omega)), c_stand (by omega), n_bind, if_pos hs, if_neg n10, if_neg (nI_in (by omega) (by decide)), nI_clamp (by omega), h47, c_sort hF (hbyte x (by omega)), n_bind, if_pos (by rw [hl]), nI_1]
    · have e : txr_ (fun i => decide (srt_ (t i) = s)) (d + 1) x = x := if_neg (fun e => hl (of_decide_eq_true e))
      rw [e]
      show f_X3_findToken_4_b F _ _ _ _ _ = _
      unfold f_X3_findToken_4_b
      rw [hb.2.2.1, if_neg (nI_ge (by omega) (by omega)), c_stand (by omega), n_bind, if_pos hs, if_neg n10, if_neg (nI_in (by omega) (by decide)), nI_clamp (by omega), h47, c_sort hF (hbyte x (by omega)), n_bind, if_neg (fun e => hl ((nI_eq (by omega) (by omega)).mp e))]
theorem c_tok (hF : 300000 ≤ F) (hb : cp_ γ t z k) {m p : Nat} (hm : γ 38 10 = nI m) (hm4 : m ≤ 400) (hp : p < z) (hbl : isb_ (t p) = false) : ∃ a v : Int32, f_X3_findToken F (nI p) (nI (srt_ (t p))) γ = some (0, atk_ γ m a v (nI p)) ∧ ctn_ a v t z k p := by
  have hz := hb.1
  have hbyte := hb.2.1
  have hk := hb.2.2.2.2.2.1
  have hkl : (kws_ k).length ≤ 17 ∧ (kws_ k).length = (kls_.getD k []).length := kw_len ⟨k, hk⟩
  have hx := hbyte p hp
  have h47 : γ 47 p = nI (t p) := hb.2.2.2.1 p hp
  have fin : ∀ (s : Nat) (w : Int32), w ≠ -1 → f_X3_findToken_75 F (nI p) (nI s) w γ = some (0, atk_ γ m (nI s) w (nI p)) := by
    intro s w hw
    unfold f_X3_findToken_75 f_X3_findToken_87
    rw [if_neg hw, c_addT hm hm4, n_bind]
  have fin1 : ∀ s : Nat, f_X3_findToken_75 F (nI p) (nI s) (-1) γ = some (0, atk_ γ m 4 (-1) (nI p)) := by
    intro s
    unfold f_X3_findToken_75 f_X3_findToken_87
    rw [if_pos rfl, c_addT hm hm4, n_bind]
  have f38 : ∀ s q : Nat, f_X3_findToken_38 F (nI p) (nI s) (nI q) γ = if nI s = (1 : Int32) then (nd_bind (f_X3_wordNumber F (nI p) (nI q) γ) fun r4 σ5 => f_X3_findToken_75 F (nI p) (nI s) r4 σ5) else if nI s = (2 : Int32) then (nd_bind (f_X3_numberOf F (nI p) (nI q) γ) fun r1 σ2 => f_X3_findToken_75 F (nI p) (nI s) r1 σ2) else f_X3_findToken_75 F (nI p) (nI s) (nI (t p)) γ := by
    intro s q
    unfold f_X3_findToken_38
    rw [if_neg (nI_in (by omega) (by decide)), nI_clamp (by omega), h47]
  obtain ⟨q1, q2, q3⟩ := tq_le (t := t) (Nat.le_of_lt hp)
  unfold f_X3_findToken
  rw [nI_1]
  by_cases h1 : isl_ (t p) = true
  · have hs : srt_ (t p) = 1 := if_pos h1
    have hkk : tk_ t z p = if twd_ t z p < 24 then 2 else 1 := by
      unfold tk_
      rw [if_neg (by omega), if_pos h1]
    have hv : tv_ t z p = twd_ t z p := if_pos h1
    have hqe := tq_s hp (Or.inl hs)
    rw [hs] at hqe ⊢
    rw [c_run hF hb (Or.inl rfl) (z - (p + 1)) (p + 1) F (by omega) (by omega), ← hqe, f38, if_pos (show nI 1 = (1 : Int32) from rfl), c_word hF hb q1 q2, n_bind]
    obtain ⟨w1, w2⟩ := kw_wd hk (s := seg_ t p (tqe_ t z p))
    have hw : wif_ (seg_ t p (tqe_ t z p)) wl_ = twd_ t z p := rfl
    rw [hw] at w1 w2
    by_cases h24 : twd_ t z p < 24
    · rw [if_pos h24] at hkk
      have hx1 := w1 h24
      have hx2 : kx_ t z k p = wjf_ (twd_ t z p) (kls_.getD k []) := by unfold kx_; rw [hv]
      rw [hx1, ← hx2, hkl.2]
      by_cases hin : kx_ t z k p < (kls_.getD k []).length
      · rw [if_pos hin, fin 1 _ (li_m1 _ (by omega))]
        exact ⟨_, _, rfl, fun h => by omega, fun h => by omega, fun _ _ => ⟨rfl, rfl⟩, fun _ h => absurd hin h, fun h => by omega, fun h => by omega⟩
      · rw [if_neg hin, fin1 1]
        exact ⟨_, _, rfl, fun h => by omega, fun h => by omega, fun _ h => absurd h hin, fun _ _ => rfl, fun h => by omega, fun h => by omega⟩
    · rw [if_neg h24] at hkk
      rw [w2 (by omega), if_neg (Nat.lt_irrefl _), fin1 1]
      exact ⟨_, _, rfl, fun h => by omega, fun _ => rfl, fun h => by omega, fun h => by omega, fun h => by omega, fun h => by omega⟩
  · by_cases h2 : isd_ (t p) = true
    · have hs : srt_ (t p) = 2 := by
        unfold srt_
        rw [if_neg h1, if_pos h2]
      have hkk : tk_ t z p = if tqe_ t z p - p ≤ 4 then 3 else 1 := by
        unfold tk_
        rw [if_neg (by omega), if_neg h1, if_pos h2]
      have hv : tv_ t z p = nvf_ t (tqe_ t z p - p) p 0 := by
        unfold tv_
        rw [if_neg h1, if_pos h2]
      have hqe := tq_s hp (Or.inr hs)
      have hdg : ∀ i : Nat, p ≤ i → i < tqe_ t z p → 48 ≤ t i ∧ t i ≤ 57 := by
        intro i i1 i2
        rcases tq_run (t := t) hp with ⟨a1, a2⟩ | ⟨a1, a2, a3⟩
        · exact absurd (Or.inr hs) a2
        · have e := a2 i i1 i2
          rw [hs] at e
          exact of_decide_eq_true ((srt_2 (t i)).trans (decide_eq_true e))
      rw [hs] at hqe ⊢
      rw [c_run hF hb (Or.inr rfl) (z - (p + 1)) (p + 1) F (by omega) (by omega), ← hqe, f38, if_neg (show ¬ nI 2 = (1 : Int32) by decide), if_pos (show nI 2 = (2 : Int32) from rfl), c_numOf hF hb q1 q2 hdg, n_bind, ← hv]
      by_cases h4 : tqe_ t z p - p ≤ 4
      · rw [if_pos h4] at hkk
        have hb9 : nvf_ t (tqe_ t z p - p) p 0 < 10 ^ (0 + (tqe_ t z p - p)) := nv_b (tqe_ t z p - p) p 0 0 (fun i h5 h6 => (hdg i h5 (by omega)).2) (by decide) (by omega)
        have h10 : 10 ^ (0 + (tqe_ t z p - p)) ≤ 10 ^ 4 := Nat.pow_le_pow_right (by decide) (by omega)
        rw [if_pos h4, fin 2 _ (li_m1 _ (by rw [hv]; omega))]
        exact ⟨_, _, rfl, fun h => by omega, fun h => by omega, fun h => by omega, fun h => by omega, fun _ => ⟨rfl, rfl⟩, fun h => by omega⟩
      · rw [if_neg h4] at hkk
        rw [if_neg h4, fin1 2]
        exact ⟨_, _, rfl, fun h => by omega, fun _ => rfl, fun h => by omega, fun h => by omega, fun h => by omega, fun h => by omega⟩
    · have hs : srt_ (t p) = if iss_ (t p) = true then 3 else 4 := by
        unfold srt_
        rw [if_neg h1, if_neg h2, if_neg (by rw [hbl]; decide)]
      have hv : tv_ t z p = t p := by
        unfold tv_
        rw [if_neg h1, if_neg h2]
      have hkk : tk_ t z p = if iss_ (t p) = true then 4 else 1 := by
        unfold tk_
        rw [if_neg (by omega), if_neg h1, if_neg h2]
      have go : ∀ s : Nat, s = 3 ∨ s = 4 → f_X3_findToken_4 F F (nI p) (nI s) (nI (p + 1)) γ = some (0, atk_ γ m (nI s) (nI (t p)) (nI p)) := by
        intro s h34
        obtain ⟨g, hg⟩ : ∃ g, F = g + 1 := ⟨F - 1, by omega⟩
        have step : f_X3_findToken_4 F F (nI p) (nI s) (nI (p + 1)) γ = f_X3_findToken_38 F (nI p) (nI s) (nI (p + 1)) γ := by
          have e : f_X3_findToken_4 F (g + 1) (nI p) (nI s) (nI (p + 1)) γ = f_X3_findToken_4_b F (f_X3_findToken_4 F g) (nI p) (nI s) (nI (p + 1)) γ := rfl
          rw [← hg] at e
          rw [e]
          unfold f_X3_findToken_4_b
          by_cases h9 : z ≤ p + 1
          · rw [hb.2.2.1, if_pos (nI_le h9 (by omega))]
          · rw [hb.2.2.1, if_neg (nI_ge (by omega) (by omega)), c_stand (by omega), n_bind, if_neg (show ¬ (s = 1 ∨ s = 2) by omega), if_pos rfl]
        rw [step, f38, if_neg (show ¬ nI s = (1 : Int32) from fun e => by have := (nI_eq (b := 1) (by omega) (by decide)).mp e; omega), if_neg (show ¬ nI s = (2 : Int32) from fun e => by have := (nI_eq (b := 2) (by omega) (by decide)).mp e; omega), fin s _ (li_m1 _ (by omega))]
      by_cases h3 : iss_ (t p) = true
      · rw [if_pos h3] at hs hkk
        rw [hs, go 3 (Or.inl rfl)]
        exact ⟨_, _, rfl, fun h => by omega, fun h => by omega, fun h => by omega, fun h => by omega, fun h => by omega, fun _ => ⟨rfl, by rw [hv]⟩⟩
      · rw [if_neg h3] at hs hkk
        rw [hs, go 4 (Or.inr rfl)]
        exact ⟨_, _, rfl, fun h => by omega, fun _ => rfl, fun h => by omega, fun h => by omega, fun h => by omega, fun h => by omega⟩
end CB
