/-! chain: the class's sum -/
def nc_ (nx : Nat → Nat) (r : Nat → Int32) : Prop := ∀ i : Nat, i < 10 → (nx i < 10 ∧ r i = nI (nx i)) ∨ (nx i = 10 ∧ r i = -1) ∨ (nx i = 11 ∧ r i = -2)
section CC
variable {F g : Nat} {σ : nd_Mem} {nx v : Nat → Nat}
theorem c_steps_ (hc : nc_ nx (σ 23)) (hg : g < 10) {w : Nat} : ∀ (d k f : Nat), k + d = 10 → d < f → io_ nx k w < 10 → (∀ j : Nat, 1 ≤ j → j ≤ k → io_ nx j w ≠ g) → ∃ r : Nat, r ≤ 10 ∧ f_X7_stepsTo_5 F f (nI g) (nI (io_ nx k w)) (nI (k + 1)) σ = some (nI r, σ) ∧ ((r = 0 ∧ ∀ j : Nat, 1 ≤ j → j ≤ 10 → io_ nx j w ≠ g) ∨ (1 ≤ r ∧ io_ nx r w = g)) := by
  intro d
  induction d with
  | zero =>
    intro k f hk hf h10 hno
    obtain ⟨f, rfl⟩ : ∃ g, f = g + 1 := ⟨f - 1, by omega⟩
    have : k = 10 := by omega
    subst this
    refine ⟨0, by omega, ?_, Or.inl ⟨rfl, hno⟩⟩
    show f_X7_stepsTo_5_b F _ _ _ _ σ = _
    unfold f_X7_stepsTo_5_b
    rw [if_pos (by decide)]
    rfl
  | succ d ih =>
    intro k f hk hf h10 hno
    obtain ⟨f, rfl⟩ : ∃ g, f = g + 1 := ⟨f - 1, by omega⟩
    have head : f_X7_stepsTo_5 F (f + 1) (nI g) (nI (io_ nx k w)) (nI (k + 1)) σ = (if (σ 23 (io_ nx k w)) < 0 then some (0, σ) else (if (σ 23 (io_ nx k w)) < (10 : Int32) then (if (σ 23 (io_ nx k w)) = nI g then (some (nI (k + 1), σ)) else (f_X7_stepsTo_5 F f (nI g) (σ 23 (io_ nx k w)) (nI (k + 1 + 1)) σ)) else some (0, σ))) := by
      show f_X7_stepsTo_5_b F _ _ _ _ σ = _
      unfold f_X7_stepsTo_5_b f_X7_stepsTo_32
      rw [if_neg (show ¬ (10 : Int32) < nI (k + 1) from nI_nlt (a := 10) (by omega) (by omega)), if_neg (nI_in h10 (by decide)), nI_clamp (by omega), nI_1]
    rw [head]
    have e1 : io_ nx (k + 1) w = nx (io_ nx k w) := if_pos h10
    rcases hc _ h10 with ⟨c1, c2⟩ | ⟨c1, c2⟩ | ⟨c1, c2⟩
    · rw [c2, if_neg (nI_pos (by omega)), if_pos (show nI (nx (io_ nx k w)) < (10 : Int32) from nI_lt (b := 10) c1 (by decide))]
      by_cases he : nx (io_ nx k w) = g
      · rw [if_pos (by rw [he])]
        exact ⟨k + 1, by omega, rfl, Or.inr ⟨by omega, by rw [e1, he]⟩⟩
      · rw [if_neg (fun e => he ((nI_eq (by omega) (by omega)).mp e)), ← e1]
        refine ih (k + 1) f (by omega) (by omega) (by rw [e1]; exact c1) ?_
        intro j j1 j2
        by_cases hj : j = k + 1
        · rw [hj, e1]; exact he
        · exact hno j j1 (by omega)
    · rw [c2, if_pos (by decide)]
      refine ⟨0, by omega, rfl, Or.inl ⟨rfl, ?_⟩⟩
      intro j j1 j2
      by_cases hj : j ≤ k
      · exact hno j j1 hj
      · rw [show j = (j - k - 1) + (k + 1) by omega, io_add, e1, c1, io_big (by omega)]
        omega
    · rw [c2, if_pos (by decide)]
      refine ⟨0, by omega, rfl, Or.inl ⟨rfl, ?_⟩⟩
      intro j j1 j2
      by_cases hj : j ≤ k
      · exact hno j j1 hj
      · rw [show j = (j - k - 1) + (k + 1) by omega, io_add, e1, c1, io_big (by omega)]
        omega
theorem c_steps (hF : 300000 ≤ F) (hc : nc_ nx (σ 23)) (hg : g < 10) {w : Nat} (hw : w < 10) : ∃ r : Nat, r ≤ 10 ∧ f_X7_stepsTo F (nI w) (nI g) σ = some (nI r, σ) ∧ ((r = 0 ∧ ∀ j : Nat, 1 ≤ j → j ≤ 10 → io_ nx j w ≠ g) ∨ (1 ≤ r ∧ io_ nx r w = g)) :=
  c_steps_ (F := F) hc hg (w := w) 10 0 F (by omega) (by omega) hw (fun j h1 h2 => by omega)
theorem c_most_ (hF : 300000 ≤ F) (hc : nc_ nx (σ 23)) (hg : g < 10) (he : nx g = 11) : ∀ (d i f m : Nat), i + d = 10 → d < f → m ≤ 10 → (∀ w k : Nat, w < i → 1 ≤ k → k ≤ 10 → io_ nx k w = g → k ≤ m) → (m = 0 ∨ ∃ w : Nat, w < 10 ∧ io_ nx m w = g) → ∃ m' : Nat, m' ≤ 10 ∧ (∀ w k : Nat, w < 10 → 1 ≤ k → k ≤ 10 → io_ nx k w = g → k ≤ m') ∧ (m' = 0 ∨ ∃ w : Nat, w < 10 ∧ io_ nx m' w = g) ∧ ∀ (rec4 : Int32 → Int32 → nd_Mem → nd_Res) (x1 : Int32), f_X7_mostThatMove_29 F rec4 f x1 (nI g) (nI m) (nI i) σ = rec4 (x1 + nI m') (nI (g + 1)) σ := by
  intro d
  induction d with
  | zero =>
    intro i f m hi hf h1 h2 h3
    obtain ⟨f, rfl⟩ : ∃ g, f = g + 1 := ⟨f - 1, by omega⟩
    have : i = 10 := by omega
    subst this
    refine ⟨m, h1, h2, h3, fun rec4 x1 => ?_⟩
    show f_X7_mostThatMove_29_b F _ _ _ _ _ _ σ = _
    unfold f_X7_mostThatMove_29_b f_X7_mostThatMove_73
    rw [if_pos (by decide), nI_1]
  | succ d ih =>
    intro i f m hi hf h1 h2 h3
    obtain ⟨f, rfl⟩ : ∃ g, f = g + 1 := ⟨f - 1, by omega⟩
    obtain ⟨r, r1, r2, r3⟩ := c_steps (F := F) (σ := σ) hF hc hg (w := i) (by omega)
    have step : ∀ (rec4 : Int32 → Int32 → nd_Mem → nd_Res) (x1 : Int32), f_X7_mostThatMove_29 F rec4 (f + 1) x1 (nI g) (nI m) (nI i) σ = f_X7_mostThatMove_29 F rec4 f x1 (nI g) (nI (if m < r then r else m)) (nI (i + 1)) σ := by
      intro rec4 x1
      show f_X7_mostThatMove_29_b F _ _ _ _ _ _ σ = _
      unfold f_X7_mostThatMove_29_b
      rw [if_neg (show ¬ (10 : Int32) ≤ nI i from nI_ge (b := 10) (by omega) (by decide)), r2, n_bind, nI_1]
      by_cases hmr : m < r
      · rw [if_pos (nI_lt hmr (by omega)), if_pos hmr]
      · rw [if_neg (nI_nlt (by omega) (by omega)), if_neg hmr]
    have q : (if m < r then r else m) ≤ 10 ∧ m ≤ (if m < r then r else m) ∧ r ≤ (if m < r then r else m) ∧ ((if m < r then r else m) = m ∨ (m < r ∧ (if m < r then r else m) = r)) := by
      by_cases hmr : m < r
      · rw [if_pos hmr]; omega
      · rw [if_neg hmr]; omega
    obtain ⟨M, hM⟩ : ∃ M : Nat, M = if m < r then r else m := ⟨_, rfl⟩
    rw [← hM] at q
    obtain ⟨m', a1, a2, a3, a4⟩ := ih (i + 1) f M (by omega) (by omega) q.1 (fun w k w1 k1 k2 k3 => by
      by_cases hw : w = i
      · subst hw
        rcases r3 with ⟨_, z⟩ | ⟨z1, z2⟩
        · exact absurd k3 (z k k1 k2)
        · have : k = r := em_uq (nx := nx) (a := w) (by rw [k3]; exact ⟨hg, he⟩) (by rw [z2]; exact ⟨hg, he⟩)
          omega
      · have := h2 w k (by omega) k1 k2 k3
        omega) (by
      rcases q.2.2.2 with e | ⟨e1, e2⟩
      · rw [e]; exact h3
      · rw [e2]
        rcases r3 with ⟨z, _⟩ | ⟨z1, z2⟩
        · exact Or.inl z
        · exact Or.inr ⟨i, by omega, z2⟩)
    exact ⟨m', a1, a2, a3, fun rec4 x1 => by rw [step, ← hM]; exact a4 rec4 x1⟩
theorem c_worth (hF : 300000 ≤ F) (hc : nc_ nx (σ 23)) (hg : g < 10) : ∃ m : Nat, ((nx g = 11 → m ≤ 10 ∧ (∀ w k : Nat, w < 10 → 1 ≤ k → k ≤ 10 → io_ nx k w = g → k ≤ m) ∧ (m = 0 ∨ ∃ w : Nat, w < 10 ∧ io_ nx m w = g)) ∧ (nx g ≠ 11 → (m = 1 ∧ cy_ nx g) ∨ (m = 0 ∧ ¬ cy_ nx g))) ∧ ∀ (f : Nat) (x1 : Int32), f_X7_mostThatMove_4 F (f + 1) x1 (nI g) σ = f_X7_mostThatMove_4 F f (x1 + nI m) (nI (g + 1)) σ := by
  have h10 : ¬ (10 : Int32) ≤ nI g := nI_ge (b := 10) hg (by decide)
  by_cases he : nx g = 11
  · have e2 : σ 23 g = -2 := by
      rcases hc g hg with ⟨q1, q2⟩ | ⟨q1, q2⟩ | ⟨q1, q2⟩
      · omega
      · omega
      · exact q2
    obtain ⟨m, a1, a2, a3, a4⟩ := c_most_ (F := F) (σ := σ) hF hc hg he 10 0 F 0 (by omega) (by omega) (by omega) (fun w k h => by omega) (Or.inl rfl)
    refine ⟨m, ⟨fun _ => ⟨a1, a2, a3⟩, fun h => absurd he h⟩, fun f x1 => ?_⟩
    show f_X7_mostThatMove_4_b F _ _ _ σ = _
    unfold f_X7_mostThatMove_4_b
    rw [if_neg h10, if_neg (nI_in hg (by decide)), nI_clamp (by omega), if_pos e2]
    exact a4 _ x1
  · have e2 : ¬ σ 23 g = -2 := by
      rcases hc g hg with ⟨q1, q2⟩ | ⟨q1, q2⟩ | ⟨q1, q2⟩
      · rw [q2]
        intro e
        exact nI_pos (n := nx g) (by omega) (by rw [e]; decide)
      · rw [q2]; decide
      · exact absurd q1 he
    obtain ⟨r, r1, r2, r3⟩ := c_steps (F := F) (σ := σ) hF hc hg (w := g) hg
    rcases r3 with ⟨z1, z2⟩ | ⟨z1, z2⟩
    · refine ⟨0, ⟨fun h => absurd h he, fun _ => Or.inr ⟨rfl, fun ⟨k, k1, k2, k3⟩ => z2 k k1 k2 k3⟩⟩, fun f x1 => ?_⟩
      show f_X7_mostThatMove_4_b F _ _ _ σ = _
      unfold f_X7_mostThatMove_4_b f_X7_mostThatMove_73
      rw [if_neg h10, if_neg (nI_in hg (by decide)), nI_clamp (by omega), if_neg e2, r2, n_bind, z1, if_pos (by decide), nI_1]
      rw [show x1 + nI 0 = x1 from Int32.add_zero x1]
    · refine ⟨1, ⟨fun h => absurd h he, fun _ => Or.inl ⟨rfl, r, z1, r1, z2⟩⟩, fun f x1 => ?_⟩
      show f_X7_mostThatMove_4_b F _ _ _ σ = _
      unfold f_X7_mostThatMove_4_b f_X7_mostThatMove_73
      rw [if_neg h10, if_neg (nI_in hg (by decide)), nI_clamp (by omega), if_neg e2, r2, n_bind, if_neg (show ¬ nI r ≤ (0 : Int32) from nI_ge (b := r) (a := 0) z1 (by omega)), nI_1]
      rfl
theorem c_chain (hF : 300000 ≤ F) (hc : nc_ nx (σ 23)) : ∃ v : Nat → Nat, vl_ nx v ∧ f_X7_mostThatMove F σ = some (nI (sm_ v 10), σ) := by
  have pick : ∀ g : Nat, ∃ m : Nat, g < 10 → (((nx g = 11 → m ≤ 10 ∧ (∀ w k : Nat, w < 10 → 1 ≤ k → k ≤ 10 → io_ nx k w = g → k ≤ m) ∧ (m = 0 ∨ ∃ w : Nat, w < 10 ∧ io_ nx m w = g)) ∧ (nx g ≠ 11 → (m = 1 ∧ cy_ nx g) ∨ (m = 0 ∧ ¬ cy_ nx g))) ∧ ∀ (f : Nat) (x1 : Int32), f_X7_mostThatMove_4 F (f + 1) x1 (nI g) σ = f_X7_mostThatMove_4 F f (x1 + nI m) (nI (g + 1)) σ) := by
    intro g
    by_cases hg : g < 10
    · obtain ⟨m, hm⟩ := c_worth (F := F) (σ := σ) hF hc hg
      exact ⟨m, fun _ => hm⟩
    · exact ⟨0, fun h => absurd h hg⟩
  obtain ⟨v, hv⟩ : ∃ v : Nat → Nat, ∀ g : Nat, g < 10 → (((nx g = 11 → v g ≤ 10 ∧ (∀ w k : Nat, w < 10 → 1 ≤ k → k ≤ 10 → io_ nx k w = g → k ≤ v g) ∧ (v g = 0 ∨ ∃ w : Nat, w < 10 ∧ io_ nx (v g) w = g)) ∧ (nx g ≠ 11 → (v g = 1 ∧ cy_ nx g) ∨ (v g = 0 ∧ ¬ cy_ nx g))) ∧ ∀ (f : Nat) (x1 : Int32), f_X7_mostThatMove_4 F (f + 1) x1 (nI g) σ = f_X7_mostThatMove_4 F f (x1 + nI (v g)) (nI (g + 1)) σ) := ⟨fun g => Classical.choose (pick g), fun g hg => Classical.choose_spec (pick g) hg⟩
  refine ⟨v, fun g hg => (hv g hg).1, ?_⟩
  have loop : ∀ (d g f : Nat), g + d = 10 → d < f → f_X7_mostThatMove_4 F f (nI (sm_ v g)) (nI g) σ = some (nI (sm_ v 10), σ) := by
    intro d
    induction d with
    | zero =>
      intro g f hg hf
      obtain ⟨f, rfl⟩ : ∃ g, f = g + 1 := ⟨f - 1, by omega⟩
      have : g = 10 := by omega
      subst this
      show f_X7_mostThatMove_4_b F _ _ _ σ = _
      unfold f_X7_mostThatMove_4_b
      rw [if_pos (by decide)]
    | succ d ih =>
      intro g f hg hf
      obtain ⟨f, rfl⟩ : ∃ g, f = g + 1 := ⟨f - 1, by omega⟩
      rw [(hv g (by omega)).2, nI_add]
      exact ih (g + 1) f (by omega) (by omega)
  exact loop 10 0 F (by omega) (by omega)
end CC
theorem op_chain {F : Nat} (hF : 300000 ≤ F) : op_ (f_X10_chain F) (f_X11_chain F) := op_sc (fun σ m0 hI => by
  obtain ⟨⟨hn, hq1, hq2, hq3, hq4, hq5, hq6, hq7, hq8, hla, hpl, hfd, hsd⟩, hpa, htp, hpi, hfx⟩ := id hI
  have pick : ∀ i : Nat, ∃ n : Nat, i < 10 → ((n < 10 ∧ σ 23 i = nI n) ∨ (n = 10 ∧ σ 23 i = -1) ∨ (n = 11 ∧ σ 23 i = -2)) ∧ ((n < 10 ∧ σ 95 i = nI (n + 2)) ∨ (n = 10 ∧ σ 95 i = 0) ∨ (n = 11 ∧ σ 95 i = 1)) := by
    intro i
    by_cases hi : i < 10
    · rcases hq6 i hi with ⟨a, b⟩ | ⟨a, b⟩ | ⟨k, k1, a, b⟩
      · exact ⟨10, fun _ => ⟨Or.inr (Or.inl ⟨rfl, a⟩), Or.inr (Or.inl ⟨rfl, b⟩)⟩⟩
      · exact ⟨11, fun _ => ⟨Or.inr (Or.inr ⟨rfl, a⟩), Or.inr (Or.inr ⟨rfl, b⟩)⟩⟩
      · exact ⟨k, fun _ => ⟨Or.inl ⟨k1, a⟩, Or.inl ⟨k1, b⟩⟩⟩
    · exact ⟨0, fun h => absurd h hi⟩
  obtain ⟨nx, hnx⟩ : ∃ nx : Nat → Nat, ∀ i : Nat, i < 10 → ((nx i < 10 ∧ σ 23 i = nI (nx i)) ∨ (nx i = 10 ∧ σ 23 i = -1) ∨ (nx i = 11 ∧ σ 23 i = -2)) ∧ ((nx i < 10 ∧ σ 95 i = nI (nx i + 2)) ∨ (nx i = 10 ∧ σ 95 i = 0) ∨ (nx i = 11 ∧ σ 95 i = 1)) := ⟨fun i => Classical.choose (pick i), fun i hi => Classical.choose_spec (pick i) hi⟩
  have hc : nc_ nx (σ 23) := fun i hi => (hnx i hi).1
  have hr : nr_ nx ((nd_up σ 60 0 0) 95) := fun i hi => (hnx i hi).2
  obtain ⟨v, v1, v2⟩ := c_chain (F := F) (σ := σ) hF hc
  have hf0 : fr_ sc_S sc_K σ (nd_up σ 60 0 0) := (by repeat first | exact fr_rf | (refine fr_up57 ?_ (by decide)) | (refine fr_up ?_ (by decide) (by decide)) | (refine fr_row ?_ (by decide) (by decide)))
  refine ⟨nI (sm_ v 10), σ, nd_up σ 60 0 0, ?_, ?_, hf0⟩
  · unfold f_X10_chain
    rw [v2, n_bind]
  · unfold f_X11_chain
    rw [n_let]
    exact m_chain hF hr v1)
